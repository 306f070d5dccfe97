/-! a new thing gets its number; a house in its making -/
theorem thL_in {f : Nat} (h : thL f ≠ 0) : f = 6 ∨ f = 7 ∨ f = 8 ∨ f = 9 ∨ f = 11 ∨ f = 12 := by
  refine Decidable.byContradiction fun hn => h ?_
  unfold thL
  rw [if_neg (by omega), if_neg (by omega), if_neg (by omega), if_neg (by omega), if_neg (by omega), if_neg (by omega)]
theorem hsL_in {f : Nat} (h : hsL f ≠ 0) : f = 0 ∨ f = 1 ∨ f = 2 := by
  refine Decidable.byContradiction fun hn => h ?_
  unfold hsL
  rw [if_neg (by omega), if_neg (by omega), if_neg (by omega)]
def TV0 (κ : KS) (o : Nat) (kd ix wh gv : Int32) : Prop := κ.1 o 0 = kd ∧ κ.1 o 1 = ix ∧ κ.1 o 2 = wh / 10 ∧ κ.1 o 3 = gv ∧ κ.1 o 4 = wh - wh / 10 * 10 ∧ κ.1 o 5 = -1
def hsP (o base : Nat) : Nat → Prop := fun p => p = o ∨ (base ≤ p ∧ p < base + 5)
def HV0 (κ : KS) (o : Nat) : Prop := κ.1 o 4 = 0 ∧ κ.1 o 5 = 0 ∧ (∀ i, i < 6 → κ.2 o 0 i = 15) ∧ (∀ i, i < 4 → κ.2 o 1 i = nI i) ∧ ∀ i, i < 7 → κ.2 o 2 i = 0
section M9996
variable {μ μ2 μ' : Mem} {b b' : Kb} {κ κ' : KS} {o q0 ci base : Nat}
theorem TH_reg {kd ix wh gv : Int32} (hX : thN (nw (KV μ b κ) q0 1 ci) μ2 q0 ci (fun _ => 0) kd ix wh gv) (hq0 : (mT μ q0).1 = 0) (hf : KF μ b) (ho : o < 25) : ∃ (b2 : Kb) (κ2 : KS), KV μ2 b2 κ2 = μ2 ∧ KF μ2 b2 ∧ EV (fun p => p = o) μ b κ μ2 b2 κ2 ∧ FO μ b κ μ2 b2 κ2 ∧ adO b2 o = q0 ∧ KO μ2 b2 o ci thL ∧ TV0 κ2 o kd ix wh gv := by
  obtain ⟨a6, a7, a8, a9, a11, a12, I⟩ := hX
  obtain ⟨b2, κ2, e1, e2, e3, e4, e5, e6, e7, e8, e9⟩ := AI_reg (o := o) (rw := fun f => if f = 6 then a6 else if f = 7 then a7 else if f = 8 then a8 else if f = 9 then a9 else if f = 11 then a11 else a12) I hq0 hf ho (by simp) (by simp)
  refine ⟨b2, κ2, e1, e2, e3, e4, e5, KO_mk e2.1 ho (by rw [e5]; exact e8) (by rw [e5]; exact e6) (fun f hf => ?_), ?_⟩
  · rcases thL_in hf with rfl | rfl | rfl | rfl | rfl | rfl
    · obtain ⟨z1, z2, -, z4, z5, -⟩ := e9 (6, a6, 2, 7) (by simp)
      have z1 : adR b2 o 6 = a6 := z1
      exact ⟨by rw [e5, z1]; exact z4, by rw [z1]; exact z5, by rw [z1]; exact z2⟩
    · obtain ⟨z1, z2, -, z4, z5, -⟩ := e9 (7, a7, 2, 7) (by simp)
      have z1 : adR b2 o 7 = a7 := z1
      exact ⟨by rw [e5, z1]; exact z4, by rw [z1]; exact z5, by rw [z1]; exact z2⟩
    · obtain ⟨z1, z2, -, z4, z5, -⟩ := e9 (8, a8, 2, 5) (by simp)
      have z1 : adR b2 o 8 = a8 := z1
      exact ⟨by rw [e5, z1]; exact z4, by rw [z1]; exact z5, by rw [z1]; exact z2⟩
    · obtain ⟨z1, z2, -, z4, z5, -⟩ := e9 (9, a9, 2, 16) (by simp)
      have z1 : adR b2 o 9 = a9 := z1
      exact ⟨by rw [e5, z1]; exact z4, by rw [z1]; exact z5, by rw [z1]; exact z2⟩
    · obtain ⟨z1, z2, -, z4, z5, -⟩ := e9 (11, a11, 2, 7) (by simp)
      have z1 : adR b2 o 11 = a11 := z1
      exact ⟨by rw [e5, z1]; exact z4, by rw [z1]; exact z5, by rw [z1]; exact z2⟩
    · obtain ⟨z1, z2, -, z4, z5, -⟩ := e9 (12, a12, 2, 7) (by simp)
      have z1 : adR b2 o 12 = a12 := z1
      exact ⟨by rw [e5, z1]; exact z4, by rw [z1]; exact z5, by rw [z1]; exact z2⟩
  · unfold TV0
    rw [e7]
    exact ⟨rfl, rfl, rfl, rfl, rfl, rfl⟩
def HI (μ : Mem) (b : Kb) (κ : KS) (o base q0 j : Nat) (μ' : Mem) (b' : Kb) (κ' : KS) : Prop := KF μ' b' ∧ EV (hsP o base) μ b κ μ' b' κ' ∧ FO μ b κ μ' b' κ' ∧ adO b' o = q0 ∧ KO μ' b' o 2 hsL ∧ RO μ' b' o 3 4 5 ∧ mR μ' (adO b' o) 3 = some (adR b' o 3) ∧ HV0 κ' o ∧ ∀ t, t < j → mX μ' (adR b' o 3) t = some (adO b' (base + t)) ∧ KO μ' b' (base + t) 9 thL ∧ TV0 κ' (base + t) 0 (nI t) 0 0
theorem HI_step {j q : Nat} (h : HI μ b κ o base q0 j μ' b' κ') (hj : j < 5) (ho : o < 25) (hb : base + 5 ≤ 25) (hob : o < base ∨ base + 5 ≤ o) (hq : (mT μ' q).1 = 0) (hX : thN (nw (KV μ' b' κ') q 1 9) μ2 q 9 (fun _ => 0) 0 (nI j) 0 0) : ∃ (b2 : Kb) (κ2 : KS), sX μ2 (adR b' o 3) j (some q) = KV (sX μ2 (adR b' o 3) j (some q)) b2 κ2 ∧ HI μ b κ o base q0 (j + 1) (sX μ2 (adR b' o 3) j (some q)) b2 κ2 ∧ mT μ2 (adR b' o 3) = (4, 5) ∧ mT μ2 q = (1, 9) := by
  obtain ⟨h1, h2, h3, h4, h5, h6, h7, h8, h9⟩ := h
  obtain ⟨b2, κ2, e1, e2, e3, e4, e5, e6, e7⟩ := TH_reg (o := base + j) hX hq h1 (by omega)
  have hne : ¬ (o = base + j) := by omega
  have a := e3.1 o ho hne
  obtain ⟨r1, r2⟩ := RO_EV e3 hne h6
  have eR : adR b2 o 3 = adR b' o 3 := a.2.1 3
  have hKO := KO_EV e3 e2.1 hne h5
  obtain ⟨s1, s2, s3⟩ := EV_sX (κ := κ2) (i := j) (v := some q) r1.2.2 e2 ho
  rw [eR] at s1 s2 s3
  refine ⟨b2, κ2, ?_, ⟨s3, (h2.trans (e3.mono (fun p (hp : p = base + j) => Or.inr ⟨by omega, by omega⟩))).trans (s1.mono (fun p (hp : p = o) => Or.inl hp)), (h3.trans e4).trans s2, a.1.trans h4, hKO, r1, ?_, ?_, fun t ht => ?_⟩, ?_, ?_⟩
  · have : KV (sX μ2 (adR b' o 3) j (some q)) b2 κ2 = sX (KV μ2 b2 κ2) (adR b' o 3) j (some q) := rfl
    rw [this, e1]
  · show mR μ2 (adO b2 o) 3 = some (adR b2 o 3)
    rw [mR_EV e3 hne h5, eR]
    exact h7
  · unfold HV0
    rw [a.2.2.1, a.2.2.2]
    exact h8
  · rcases Nat.lt_or_ge t j with hlt | hge
    · have hne2 : ¬ (base + t = base + j) := by omega
      obtain ⟨g1, g2, g3⟩ := h9 t hlt
      have c := e3.1 (base + t) (by omega) hne2
      have hKt := KO_EV e3 e2.1 hne2 g2
      refine ⟨?_, hKt, ?_⟩
      · show up2 (mX μ2) (adR b' o 3) j (some q) (adR b2 o 3) t = some (adO b2 (base + t))
        have r := r2 t
        rw [eR] at r
        rw [eR, up2_n (Or.inr (by omega)), c.1, r]
        exact g1
      · unfold TV0
        rw [c.2.2.1]
        exact g3
    · obtain rfl : t = j := by omega
      refine ⟨?_, e6, e7⟩
      show up2 (mX μ2) (adR b' o 3) t (some q) (adR b2 o 3) t = some (adO b2 (base + t))
      rw [eR, up2_s, e5]
  · rw [← eR]
    exact r1.2.1
  · rw [← e5]
    exact e6.2.2.1
end M9996
