/-! both are made -/
section M99y
variable {Γ : Gm} {μ μ2 M1 : Mem} {b : Kb} {κ : KS} {kd : Nat → Nat} {kp : Bool} {ns nt : Nat} {tn : Nat → Nat} {x0 q1 : Nat} {L : AL} {σ : MS}
theorem CI_all (h : CI μ b kd kp ns nt tn) (e : EV (fun _ => False) μ b κ μ2 b κ) (kf : KF μ2 b) : CI μ2 b kd kp ns nt tn := by
  obtain ⟨h1, ⟨c1, c2, c3, c4, c5, c6, c7⟩, ⟨r5, r7⟩, hh, hk, ⟨p1, p2⟩, h4, hs, ht⟩ := h
  have nf : ¬ False := fun z => z
  have hR : ∀ k, mR μ2 (adO b 0) k = mR μ (adO b 0) k := fun k => mR_EV (k := k) e nf c1
  have hK : ∀ x ci len, KO μ b x ci len → KO μ2 b x ci len := fun x ci len h => KO_EV e h1.1 nf h
  refine ⟨kf, ⟨hK 0 _ _ c1, ?_, ?_, ?_, ?_, ?_, ?_⟩, ⟨(RO_EV e nf r5).1, (RO_EV e nf r7).1⟩, HS_EV e h1.1 nf (fun t _ => nf) hh, fun z => HS_EV e h1.1 nf (fun t _ => nf) (hk z), ⟨hK 3 _ _ p1, KLo_EV e h1.1 nf p1 p2⟩, hK 4 _ _ h4, fun i hi => ⟨?_, hK _ _ _ (hs i hi).2⟩, fun i hi => ⟨?_, hK _ _ _ (ht i hi).2⟩⟩
  · rw [hR]; exact c2
  · rw [hR]; exact c3
  · rw [hR]; exact c4
  · rw [hR]; exact c5
  · rw [hR]; exact c6
  · rw [hR]; exact c7
  · rw [(RO_EV e nf r7).2 i]; exact (hs i hi).1
  · rw [(RO_EV e nf r5).2 i]; exact (ht i hi).1
theorem KV_id (h1 : ∀ q, ivO b q < 25 → mI μ q = κ.1 (ivO b q)) (h2 : ∀ q, (ivR b q).1 < 25 → mA μ q = κ.2 (ivR b q).1 (ivR b q).2) : KV μ b κ = μ := by
  have e1 : (fun q k => if ivO b q < 25 then κ.1 (ivO b q) k else mI μ q k) = μ.2.1 := by
    funext q k
    by_cases hq : ivO b q < 25
    · rw [if_pos hq, ← h1 q hq]
      rfl
    · rw [if_neg hq]
      rfl
  have e3 : (fun q i => if (ivR b q).1 < 25 then κ.2 (ivR b q).1 (ivR b q).2 i else mA μ q i) = μ.2.2.2.2.1 := by
    funext q i
    by_cases hq : (ivR b q).1 < 25
    · rw [if_pos hq, ← h2 q hq]
      rfl
    · rw [if_neg hq]
      rfl
  unfold KV
  rw [e1, e3]
theorem LJ_0 {a0 : Ma} (hC : CI μ b (fun _ => 0) false 4 1 (fun _ => 8)) (hv : poV κ) (hq1 : (mT μ q1).1 = 0) (ha : a0.1 = q1) (hM : MOK μ2 a0) (hE : μ2 = MV μ2 a0 σI) (hf : ∀ q, a0.2.2 q < 56 → (mT (nw (KV μ b κ) q1 1 12) q).1 = 0 ∧ q ≠ q1) (hs : ∀ q, q ≠ q1 → (mT (nw (KV μ b κ) q1 1 12) q).1 ≠ 0 → same (nw (KV μ b κ) q1 1 12) μ2 q) : ∃ a : Ma, a.1 = q1 ∧ mT μ2 q1 = (1, 12) ∧ LJ μ2 (adO b 0) a := by
  have hkf := hC.1
  have nT : ∀ q, q ≠ q1 → mT (nw (KV μ b κ) q1 1 12) q = mT μ q := fun q hq => nw_Tn hq
  have nS : ∀ q, q ≠ q1 → same (KV μ b κ) (nw (KV μ b κ) q1 1 12) q := fun q hq => same_nw hq
  have cl1 : ∀ q, ivO b q < 25 → q ≠ q1 ∧ (mT μ q).1 ≠ 0 := fun q hq => by
    have g := hkf.2.1 q hq
    refine ⟨fun z => ?_, by rw [g]; decide⟩
    rw [z, hq1] at g
    exact absurd g (by decide)
  have cl2 : ∀ q, (ivR b q).1 < 25 → q ≠ q1 ∧ (mT μ q).1 ≠ 0 := fun q hq => ⟨fun z => by
    have := (hkf.2.2 q hq).1
    rw [z] at this
    exact this hq1, (hkf.2.2 q hq).1⟩
  have sm : ∀ q, q ≠ q1 → (mT μ q).1 ≠ 0 → same (KV μ b κ) μ2 q := fun q h1 h2 => (nS q h1).trans (hs q h1 (by rw [nT q h1]; exact h2))
  have eK : KV μ2 b κ = μ2 := KV_id (fun q hq => by
    refine (sm q (cl1 q hq).1 (cl1 q hq).2).2.1.trans ?_
    funext k
    show (if ivO b q < 25 then κ.1 (ivO b q) k else _) = _
    rw [if_pos hq]) (fun q hq => by
    refine (sm q (cl2 q hq).1 (cl2 q hq).2).2.2.2.2.1.trans ?_
    funext k
    show (if (ivR b q).1 < 25 then κ.2 (ivR b q).1 (ivR b q).2 k else _) = _
    rw [if_pos hq])
  have ev : EV (fun _ => False) μ b κ μ2 b κ := ⟨fun p hp _ => ⟨rfl, fun _ => rfl, rfl, rfl⟩, fun q hq _ => ⟨by rw [eK]; exact sm q (cl1 q hq).1 (cl1 q hq).2, rfl⟩, fun q hq _ => ⟨by rw [eK]; exact sm q (cl2 q hq).1 (cl2 q hq).2, rfl⟩⟩
  have kf2 : KF μ2 b := ⟨hkf.1, fun q hq => by
    rw [(sm q (cl1 q hq).1 (cl1 q hq).2).1]
    exact hkf.2.1 q hq, fun q hq => by
    rw [(sm q (cl2 q hq).1 (cl2 q hq).2).1]
    exact hkf.2.2 q hq⟩
  have hC2 := CI_all hC ev kf2
  have mL : ∀ k, mLen k ≠ 0 ∨ k = 52 → k < 56 := fun k hk => by
    rcases Nat.lt_or_ge k 56 with q | q
    · exact q
    · rcases hk with hk | hk
      · exact absurd (by unfold mLen; split <;> first | omega | rfl) hk
      · omega
  obtain ⟨m1, m2, m3, m4⟩ := hM
  refine ⟨(q1, a0.2.1, fun q => if mLen (a0.2.2 q) ≠ 0 ∨ a0.2.2 q = 52 then a0.2.2 q else 99), rfl, by rw [← ha]; exact m1, ?_⟩
  have a22 : ∀ q, (if mLen (a0.2.2 q) ≠ 0 ∨ a0.2.2 q = 52 then a0.2.2 q else 99) < 56 → (mLen (a0.2.2 q) ≠ 0 ∨ a0.2.2 q = 52) ∧ (if mLen (a0.2.2 q) ≠ 0 ∨ a0.2.2 q = 52 then a0.2.2 q else 99) = a0.2.2 q ∧ a0.2.2 q < 56 := fun q hq => by
    by_cases h : mLen (a0.2.2 q) ≠ 0 ∨ a0.2.2 q = 52
    · exact ⟨h, if_pos h, mL _ h⟩
    · rw [if_neg h] at hq
      omega
  have hA : AP μ2 b (q1, a0.2.1, fun q => if mLen (a0.2.2 q) ≠ 0 ∨ a0.2.2 q = 52 then a0.2.2 q else 99) := by
    refine ⟨⟨?_, ?_⟩, fun q hq => ?_⟩
    · rcases Nat.lt_or_ge (ivO b q1) 25 with h | h
      · exact absurd rfl (cl1 q1 h).1
      · exact h
    · rcases Nat.lt_or_ge (ivR b q1).1 25 with h | h
      · exact absurd rfl (cl2 q1 h).1
      · exact h
    · obtain ⟨g1, g2, g3⟩ := a22 q hq
      have e := m4 q g3
      obtain ⟨f1, f2⟩ := hf q g3
      rw [nT q f2] at f1
      refine ⟨?_, ?_, ?_⟩
      · rcases g1 with g1 | g1
        · have := (m2 _ g1).2.1
          rw [← e] at this
          rw [this]
          exact show (2 : Nat) ≠ 0 by decide
        · have := m3.2.1
          rw [g1] at e
          rw [← e] at this
          rw [this]
          decide
      · rcases Nat.lt_or_ge (ivO b q) 25 with h | h
        · exact absurd f1 (cl1 q h).2
        · exact h
      · rcases Nat.lt_or_ge (ivR b q).1 25 with h | h
        · exact absurd f1 (cl2 q h).2
        · exact h
  have hid : MV μ2 (q1, a0.2.1, fun q => if mLen (a0.2.2 q) ≠ 0 ∨ a0.2.2 q = 52 then a0.2.2 q else 99) σI = μ2 := by
    refine MV_id ?_ ?_ (fun q hq => ?_)
    · rw [hE]
      funext k
      show (if q1 = a0.1 then σI.1 k else _) = σI.1 k
      rw [if_pos ha.symm]
    · rw [hE]
      show (if q1 = a0.1 ∧ 27 = 27 then σI.2.1 else _) = σI.2.1
      rw [if_pos ⟨ha.symm, rfl⟩]
    · obtain ⟨g1, g2, g3⟩ := a22 q hq
      have g2' : (q1, a0.2.1, fun q => if mLen (a0.2.2 q) ≠ 0 ∨ a0.2.2 q = 52 then a0.2.2 q else 99).2.2 q = a0.2.2 q := g2
      rw [g2', hE]
      funext i
      show (if a0.2.2 q < 56 then σI.2.2 (a0.2.2 q) i else _) = _
      rw [if_pos g3]
  refine ⟨μ2, σI, b, κ, fun _ => 0, false, 0, 1, fun _ => 8, ?_, hC2, ⟨by rw [← ha]; exact m1, fun k hk => ?_, ?_, fun q hq => ?_⟩, hA, BR_0 hv, rfl⟩
  · rw [hid, eK]
  · obtain ⟨g1, g2, g3⟩ := m2 k hk
    rw [ha] at g1
    exact ⟨g1, g2, (if_pos (by rw [g3]; exact Or.inl hk)).trans g3⟩
  · obtain ⟨g1, g2, g3⟩ := m3
    rw [ha] at g1
    exact ⟨g1, g2, (if_pos (Or.inr g3)).trans g3⟩
  · obtain ⟨g1, g2, g3⟩ := a22 q hq
    exact (m4 q g3).trans (congrArg a0.2.1 g2.symm)
end M99y
