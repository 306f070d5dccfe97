/-! both at the start -/
theorem I_ints : σI.1 15 = nI 0 ∧ σI.1 35 = -1 ∧ σI.1 4 = nI 0 ∧ σI.1 3 = nI 1 ∧ σI.1 6 = nI 0 ∧ σI.1 50 = -1 ∧ σI.2.2 2 0 = nI 40 := by decide +kernel
theorem I_sees : ∀ p, p < 6 → σI.2.2 7 p = 15 := by decide +kernel
theorem I_seat : ∀ p, p < 4 → σI.2.2 8 p = nI p := by decide +kernel
theorem I_days : ∀ p, p < 7 → σI.2.2 9 p = 0 := by decide +kernel
theorem I_things : ∀ i, i < 5 → σI.2.2 10 i = 0 ∧ σI.2.2 11 i = 0 ∧ σI.2.2 12 i = 0 ∧ σI.2.2 13 i = 0 ∧ σI.2.2 14 i = 0 := by decide +kernel
theorem I_sheets : ∀ i, i < 4 → σI.2.2 52 i = 0 := by decide +kernel
theorem I_text : ∀ j, j < 40 → σI.2.2 1 (0 + j) = σS.2.2 1 (0 + j) := by decide +kernel
theorem I_byte : ∀ j, j < 40 → ∃ c, c < 256 ∧ σI.2.2 1 (0 + j) = nI c := by decide +kernel
section M99x
variable {κ : KS} {x0 : Nat}
theorem BR_0 (h : poV κ) : BRe σI κ (fun _ => 0) false 0 1 (fun _ => 8) := by
  obtain ⟨⟨⟨v1, v2, v3, v4, v5⟩, t, k6, k03⟩, sh, k06, tx0, tx1⟩ := h
  obtain ⟨i15, i35, i4, i3, i6, i50, i2⟩ := I_ints
  refine ⟨⟨by decide, i15, v1, i35, k6⟩, ⟨fun p hp => ⟨15, by decide, I_sees p hp, v3 p hp⟩, fun g hg => ⟨g, hg, I_seat g hg, v4 g hg⟩, fun d hd => ⟨0, by decide, I_days d hd, v5 d hd⟩⟩, ⟨fun i hi => ?_, fun t ht => absurd ht (Nat.not_lt_zero t), fun i j _ hj => absurd hj (Nat.not_lt_zero j)⟩, ⟨⟨0, by decide, i4, v2⟩, by decide, i3, k06, fun i hi => ?_⟩, ⟨0, by decide, i6, k03, fun i hi => absurd hi (Nat.not_lt_zero i)⟩, fun i hi => Or.inl ⟨I_sheets i hi, (sh i hi).1⟩, Or.inl ⟨rfl, i50⟩⟩
  · obtain ⟨g0, g1, g2, g3, g4⟩ := I_things i hi
    obtain ⟨q0, q1, -⟩ := t i hi
    rw [g0, g1, g2, g3, g4, q0, q1]
    exact ⟨show 0 < 6 by decide, rfl, rfl, rfl, ⟨0, by decide, rfl, fun z => absurd z (Nat.not_lt_zero i)⟩, ⟨0, by decide, rfl, fun z => absurd z (Nat.not_lt_zero i)⟩, ⟨0, by decide, rfl, fun z => absurd z (Nat.not_lt_zero i)⟩, 1, by decide, by decide, fun z => absurd z (Nat.not_lt_zero i)⟩
  · obtain rfl : i = 0 := by omega
    refine ⟨40, by decide, i2, I_byte, ?_⟩
    refine TR_0 ?_ tx0 tx1
    funext j
    unfold bA
    by_cases hj : j < 40
    · rw [if_pos hj, if_pos hj]
      exact I_text j hj
    · rw [if_neg hj, if_neg hj]
end M99x
