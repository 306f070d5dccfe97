/-! both go on together: things -/
theorem z3d : ∀ z, z < 41 → (nI z - 3).toInt = (z : Int) - 3 := by decide +kernel
theorem z3k : ∀ z, z < 41 → ∀ k, k < 6 → (nI z - 3 * nI k - 3).toInt = (z : Int) - 3 * (k : Int) - 3 := by decide +kernel
theorem hld_iff {z A : Nat} (hz : z ≤ 40) (hA : A < 2 ^ 31) : hld3 (nI z) (nI A) ↔ A + 3 ≤ z := by
  unfold hld3
  rw [Int32.le_iff_toInt_le, Int32.le_iff_toInt_le, Int32.le_iff_toInt_le, Int32.le_iff_toInt_le, z3d z (by omega), nI_toInt (by omega), nI_toInt hA, show (3 : Int32).toInt = 3 from rfl, show (0 : Int32).toInt = 0 from rfl]
  omega
theorem tgo_iff {z F k : Nat} (hz : z ≤ 40) (hF : F < 2 ^ 31) (hk : k ≤ 5) : (nI F < 0 ∨ ¬ nI F ≤ nI z - 3 * nI k - 3) ↔ ¬ F + 3 * k + 3 ≤ z := by
  rw [Int32.lt_iff_toInt_lt, Int32.le_iff_toInt_le, z3k z (by omega) k (by omega), nI_toInt hF, show (0 : Int32).toInt = 0 from rfl]
  omega
section M99999996
variable {Γ : Gm} {σ s : MS} {κ κ2 : KS} {kd kd2 : Nat → Nat} {kp : Bool} {n n2 nt : Nat} {tn : Nat → Nat}
theorem ts_BR {ce : Nat → Int32} {z F d : Nat} (hz : z ≤ 40) (hF : F < 2 ^ 31) {v : Int32} {κ2 : KS} {kd2 : Nat → Nat} {n2 : Nat} : ∀ m i came κ kd n σ, BRe σ κ kd kp n nt tn → (∀ j, j < z → ce j = σ.2.2 55 (d + j)) → i + m ≤ 5 → (i = 0 ∨ F + 3 * i ≤ 40) → tsC ce (nI z) (nI F) m i came κ kd n v κ2 kd2 n2 → v = (tgo d (nI F) (nI z) m i came σ).1 ∧ BRe (tgo d (nI F) (nI z) m i came σ).2 κ2 kd2 kp n2 nt tn
  | 0, i, came, κ, kd, n, σ, hB, hce, hi, hf, h => by
    obtain ⟨rfl, rfl, rfl, rfl⟩ := h
    exact ⟨rfl, hB⟩
  | m + 1, i, came, κ, kd, n, σ, hB, hce, hi, hf, h => by
    have eA : nI F + 3 * nI i = nI (F + 3 * i) := by rw [show (3 : Int32) = nI 3 from rfl, pk_mul, nI_add]
    have hF2 : F + 3 * i < 2 ^ 31 := by omega
    rw [tsC, eA, hld_iff hz hF2] at h
    rw [tgo]
    rcases h with ⟨h1, rfl, rfl, rfl, rfl⟩ | ⟨h1, w, κ', kd', n', h2, h3⟩
    · rw [if_pos ((tgo_iff hz hF (by omega)).mpr h1)]
      exact ⟨rfl, hB⟩
    · rw [if_neg (fun y => (tgo_iff hz hF (by omega)).mp y h1)]
      rw [nn_nI hF2, hce (F + 3 * i) (by omega), hce (F + 3 * i + 1) (by omega), hce (F + 3 * i + 2) (by omega), show d + (F + 3 * i) = d + F + 3 * i by omega, show d + (F + 3 * i + 1) = d + F + 3 * i + 1 by omega, show d + (F + 3 * i + 2) = d + F + 3 * i + 2 by omega] at h2
      rw [nn_nI hF]
      obtain ⟨rfl, hB'⟩ := thC_BR hB h2
      obtain ⟨-, k2, -⟩ := thR_kept σ (σ.2.2 55 (d + F + 3 * i)) (σ.2.2 55 (d + F + 3 * i + 1)) (σ.2.2 55 (d + F + 3 * i + 2)) hB.1.2.1 hB.1.1
      refine ts_BR hz hF m (i + 1) _ κ' kd' n' _ hB' (fun j hj => ?_) (by omega) (Or.inr (by omega)) h3
      rw [k2]
      exact hce j hj
theorem tsCC_BR (hB : BRe σ κ kd kp n nt tn) {x k fr N v : Int32} (h : tsCC κ kd n x k fr N v κ2 kd2 n2) : v = (tsR σ x k fr N).1 ∧ BRe (tsR σ x k fr N).2 κ2 kd2 kp n2 nt tn := by
  have hS := hB.2.2.2.2.2.1
  have x3 : (0 ≤ k ∧ k < 3) ↔ (0 ≤ k ∧ k ≤ 2) := and_congr_right (fun _ => i_lt 2 (by decide))
  unfold tsCC at h
  unfold tsR
  by_cases hg : (0 ≤ x ∧ x < 4) ∧ (0 ≤ k ∧ k < 3) ∧ (¬ N < 0 ∧ N ≤ 5)
  · rw [if_pos hg] at h
    have hg2 : ¬ (¬ (0 ≤ x ∧ x ≤ 3) ∨ ¬ (0 ≤ k ∧ k ≤ 2) ∨ ¬ (0 ≤ N ∧ N ≤ 5)) := fun y => y.elim (fun y => y (x4.mp hg.1)) (fun y => y.elim (fun y => y (x3.mp hg.2.1)) (fun y => y ⟨Int32.not_lt.mp hg.2.2.1, hg.2.2.2⟩))
    rw [if_neg hg2]
    obtain ⟨q, hq, rfl⟩ := ixD (x := x) (n := 4) hg.1 (by decide)
    obtain ⟨M, hM, rfl⟩ := ixB (x := N) (c := 5) (n := 5) rfl ⟨Int32.not_lt.mp hg.2.2.1, hg.2.2.2⟩ (by decide)
    rw [nn_nI (by omega), nn_nI (by omega)] at h
    rw [nn_nI (by omega), nn_nI (by omega)]
    rcases hS q hq with ⟨g1, g2⟩ | ⟨g1, ⟨kk, hk, g2, g3⟩, z, z1, z2, z3, z4⟩
    · rw [if_pos g2] at h
      obtain ⟨rfl, rfl, rfl, rfl⟩ := h
      rw [if_pos g1]
      exact ⟨rfl, hB⟩
    · rw [if_neg (by rw [g3]; exact kn1 hk), g3, z3] at h
      rw [if_neg (show ¬ σ.2.2 52 q = 0 by rw [g1]; decide), g2, z2]
      by_cases hkk : nI kk = k
      · rw [if_pos hkk] at h
        rw [if_neg (fun y => y hkk)]
        by_cases h0 : 0 ≤ fr
        · obtain ⟨F, hF, rfl⟩ := nI_of (Int32.not_lt.mpr h0)
          exact ts_BR z1 hF M 0 0 κ kd n σ hB z4 (by omega) (Or.inl rfl) h
        · cases M with
          | zero =>
            obtain ⟨rfl, rfl, rfl, rfl⟩ := h
            exact ⟨rfl, hB⟩
          | succ M =>
            rw [tsC] at h
            rw [tgo, if_pos (Or.inl (Int32.not_le.mp h0))]
            have e0 : fr + 3 * nI 0 = fr := (congrArg (fun y => fr + y) (show (3 : Int32) * nI 0 = 0 from rfl)).trans (Int32.add_zero fr)
            rw [e0] at h
            rcases h with ⟨-, rfl, rfl, rfl, rfl⟩ | ⟨h1, -⟩
            · exact ⟨rfl, hB⟩
            · exact absurd h1.2.2.1 h0
      · rw [if_neg hkk] at h
        obtain ⟨rfl, rfl, rfl, rfl⟩ := h
        rw [if_pos hkk]
        exact ⟨rfl, hB⟩
  · rw [if_neg hg] at h
    obtain ⟨rfl, rfl, rfl, rfl⟩ := h
    rw [if_pos (Decidable.byContradiction fun y => hg ⟨x4.mpr (Decidable.byContradiction fun u => y (Or.inl u)), x3.mpr (Decidable.byContradiction fun u => y (Or.inr (Or.inl u))), Decidable.byContradiction fun u => y (Or.inr (Or.inr (fun w => u ⟨Int32.not_lt.mpr w.1, w.2⟩)))⟩)]
    exact ⟨rfl, hB⟩
theorem J_things (x k fr N : Int32) : JX Γ zX11_things zX12_things 6 35 310 3 [.int x, .int k, .int fr, .int N] := by
  intro μ b κ σ kd kp n nt tn hI hB
  have hA := hB.1
  have hS := hB.2.2.2.2.2.1
  refine ⟨(tsR σ x k fr N).1, fun κ2 kd2 kp2 n2 nt2 tn2 => (∃ v, tsCC κ kd n x k fr N v κ2 kd2 n2) ∧ kp2 = kp ∧ nt2 = nt ∧ tn2 = tn, fun s => s = (tsR σ x k fr N).2, XM_post (k_things hI hB.2.2.2.1.2.1 x k fr N hA.2.2.1 hA.1 (hz_of hS)) (fun r M hx => ?_), fun μ' a hM => XM_post (c_things hM (shO_of hS) x k fr N hA.2.1 hA.1) (fun r M hx => ?_), ?_⟩
  · obtain ⟨v, μ2, b2, κ2, kd2, n2, rfl, rfl, h1, h2, h3, h4⟩ := hx
    exact ⟨congrArg (fun z => some (Value.int z)) (tsCC_BR hB h4).1, μ2, b2, κ2, kd2, kp, n2, nt, tn, rfl, h1, h2, h3, ⟨v, h4⟩, rfl, rfl, rfl⟩
  · obtain ⟨rfl, rfl⟩ := hx
    exact ⟨rfl, _, rfl, rfl⟩
  · rintro κ2 kd2 kp2 n2 nt2 tn2 σ2 ⟨⟨v, h⟩, rfl, rfl, rfl⟩ rfl
    exact (tsCC_BR hB h).2
end M99999996
