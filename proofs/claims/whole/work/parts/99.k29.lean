/-! the two readers side by side: a text -/
section M99
variable {σ : MS} {f n : Nat}
noncomputable def pSt (σ : MS) (f n i : Nat) (p : PT) : Int32 × PT := if pbd p = 0 then pPt σ f n (qWi σ f n i p) p else (0, p)
theorem PQ_step {N i : Nat} {p : PT} {c : CT} {v : Int32} (hO : rdO σ f n) (hN : N = NN) (hi : i < 13) (h0 : i ≠ 0) (hv : v = kcd i) (h : PQ σ f n p c) : PQ σ f n (pSt σ f n i p).2 (cPt σ f n N v c) ∧ (pbd (pSt σ f n i p).2 = 0 → pbd p = 0 ∧ SP (eN σ) (cX σ f n v c).2.2.2.2.2.1 (cPt σ f n N v c) (pSt σ f n i p).1 ∧ (cPt σ f n N v c).2.2.2.2.2.1 + c.2.1 + 1 ≤ (cPt σ f n N v c).2.1 + c.2.2.2.2.2.1) := by
  unfold pSt
  by_cases hb : pbd p = 0
  · rw [if_pos hb]
    exact PQ_part hO hN hi h0 hv h
  · rw [if_neg hb]
    exact ⟨⟨h.1, h.2.1, RC_kf h.2.2.1 hb (kf_Pt (RC_flt h.2.2.1 hb)), fun z => absurd z hb⟩, fun z => absurd z hb⟩
/-- the class's reader at its start -/
def c00 (c : CT) : CT := (0, c.2.1, c.2.2.1, c.2.2.2.1, -1, 0, c.2.2.2.2.2.2)
theorem PQ_1 {c : CT} {tk ta ft : Nat} {tw : Int64} (hO : rdO σ f n) : PQ σ f n (pN σ f n (0, tk, ta, tw, 0, 0, ft)) (cA σ f n (c00 c)) := by
  have hk : okp n ((0, 0, 0, tw, 0, 0, ft) : PT) := ⟨Nat.zero_le _, by show (0 : Nat) < 5; decide, Nat.zero_le _, by show (0 : Nat) ≤ 5; decide, by show (0 : Nat) < 2; decide, fun _ z => absurd rfl z, Nat.le_refl 0⟩
  have hr : RC σ f n ((0, 0, 0, tw, 0, 0, ft) : PT) ((0, 0, -23, c.2.2.2.1, -1, 0, c.2.2.2.2.2.2) : CT) := ⟨fun _ => ⟨rfl, rfl, rfl, fun _ => rfl, fun z => absurd (show (0 : Nat) = 1 from z) (by decide), fun z => absurd (show (0 : Nat) = 2 from z) (by decide), fun z => absurd (show (0 : Nat) = 3 from z) (by decide)⟩, fun z => absurd rfl z⟩
  have e1 : pN σ f n (0, tk, ta, tw, 0, 0, ft) = pN σ f n (0, 0, 0, tw, 0, 0, ft) := rfl
  have e2 : cA σ f n (c00 c) = cA σ f n (0, 0, -23, c.2.2.2.1, -1, 0, c.2.2.2.2.2.2) := by
    unfold c00
    rw [show cA σ f n (0, c.2.1, c.2.2.1, c.2.2.2.1, -1, 0, c.2.2.2.2.2.2) = cAx σ f n (skB σ f n (n - 0) 0) (0, c.2.1, c.2.2.1, c.2.2.2.1, -1, 0, c.2.2.2.2.2.2) from if_pos rfl, show cA σ f n (0, 0, -23, c.2.2.2.1, -1, 0, c.2.2.2.2.2.2) = cAx σ f n (skB σ f n (n - 0) 0) (0, 0, -23, c.2.2.2.1, -1, 0, c.2.2.2.2.2.2) from if_pos rfl]
    rfl
  rw [e1, e2]
  have k := pN_ok hO hk
  refine ⟨k.1, k.2.2.2.1, RC_N hO hk hr rfl (show (0 : Nat) ≠ 4 by decide), fun _ => ?_⟩
  rw [cA_lc]
  exact Nat.zero_le _
theorem cA_ft {c : CT} : (cA σ f n c).2.2.2.2.1 = c.2.2.2.2.1 := by
  unfold cA cAx
  repeat' split
  all_goals rfl
theorem tkC_end {p : PT} {c : CT} (h : RC σ f n p c) (hb : pbd p = 0) : c.2.2.1 = -23 ↔ p.2.1 = 0 := by
  obtain ⟨-, -, ht, -, -, -, h3⟩ := h.1 hb
  rw [ht]
  unfold tkC
  constructor
  · intro z
    split at z
    · assumption
    · split at z
      · rcases wdC_cases (σ := σ) (f := f) (n := n) p.2.2.1 p.1 with ⟨j, hj, hj0, -, hw⟩ | ⟨-, hw⟩
        · exact absurd (z.symm.trans hw) (kcd_n3 j hj).2.1
        · exact absurd (z.symm.trans hw) (by decide)
      · split at z
        · exact absurd z (by decide)
        · split at z
          · rename_i z3
            obtain ⟨x, hx, ex⟩ := h3 z3
            rw [ex, (sgC_facts x hx).2.2.2.2.2.1] at z
            exact absurd z (sgC_facts x hx).2.2.1
          · exact absurd z (by decide)
  · intro z
    rw [if_pos z]
noncomputable def rp (σ : MS) (f n : Nat) (p : PT) : Nat → Int32 × PT
  | 0 => (0, pN σ f n p)
  | i + 1 => pSt σ f n (i + 1) (rp σ f n p i).2
noncomputable def rc (σ : MS) (f n : Nat) (c : CT) : Nat → CT
  | 0 => cA σ f n (c00 c)
  | i + 1 => cPt σ f n NN (-19 - nI i) (rc σ f n c i)
theorem rp_1 (p : PT) (hb : pbd p = 0) : rp σ f n p 1 = rd1 σ f n p := if_pos hb
theorem rp_2 (p : PT) (hb : pbd p = 0) : rp σ f n p 2 = rd2 σ f n p := by
  show pSt σ f n 2 (rp σ f n p 1).2 = _
  rw [rp_1 p hb]
  rfl
theorem rp_3 (p : PT) (hb : pbd p = 0) : rp σ f n p 3 = rd3 σ f n p := by
  show pSt σ f n 3 (rp σ f n p 2).2 = _
  rw [rp_2 p hb]
  rfl
theorem rc_rd (κ : KS) (c : CT) : rdA σ f n NN κ c = (kA (kA (kA (kI κ 4 1 (nI n)) 4 9 0 (nI (cX σ f n (-19 - nI 0) (rc σ f n c 0)).2.2.2.2.2.1)) 4 9 1 (nI (cX σ f n (-19 - nI 1) (rc σ f n c 1)).2.2.2.2.2.1)) 4 9 2 (nI (cX σ f n (-19 - nI 2) (rc σ f n c 2)).2.2.2.2.2.1), rc σ f n c 3) := rfl
/-- where part i begins -/
noncomputable def rs (σ : MS) (f n : Nat) (c : CT) (i : Nat) : Nat := (cX σ f n (-19 - nI i) (rc σ f n c i)).2.2.2.2.2.1
theorem rd_sim {c : CT} {tk ta ft : Nat} {tw : Int64} (hO : rdO σ f n) : (pbd (rdE σ f n (0, tk, ta, tw, 0, 0, ft)) = 0 → (cX σ f n (-23) (rc σ f n c 3)).2.2.2.2.1 = -1 ∧ (cX σ f n (-23) (rc σ f n c 3)).2.2.2.2.2.1 < 160 ∧ (∀ i, i < 3 → SP (eN σ) (rs σ f n c i) (cX σ f n (-23) (rc σ f n c 3)) (rdV σ f n (0, tk, ta, tw, 0, 0, ft) (nI i)))) ∧ (¬ pbd (rdE σ f n (0, tk, ta, tw, 0, 0, ft)) = 0 → ¬ (cX σ f n (-23) (rc σ f n c 3)).2.2.2.2.1 = -1 ∧ (cX σ f n (-23) (rc σ f n c 3)).2.2.2.2.1 = nI (rdE σ f n (0, tk, ta, tw, 0, 0, ft)).2.2.2.2.2.2) := by
  have hb0 : pbd ((0, tk, ta, tw, 0, 0, ft) : PT) = 0 := rfl
  have e1 := rp_1 (σ := σ) (f := f) (n := n) _ hb0
  have e2 := rp_2 (σ := σ) (f := f) (n := n) _ hb0
  have e3 := rp_3 (σ := σ) (f := f) (n := n) _ hb0
  have Q0 : PQ σ f n (rp σ f n (0, tk, ta, tw, 0, 0, ft) 0).2 (rc σ f n c 0) := PQ_1 hO
  obtain ⟨Q1, S1⟩ := PQ_step (i := 1) (v := -19 - nI 0) hO rfl (by decide) (by decide) (by decide) Q0
  obtain ⟨Q2, S2⟩ := PQ_step (i := 2) (v := -19 - nI 1) hO rfl (by decide) (by decide) (by decide) Q1
  obtain ⟨Q3, S3⟩ := PQ_step (i := 3) (v := -19 - nI 2) hO rfl (by decide) (by decide) (by decide) Q2
  have Q1 : PQ σ f n (rp σ f n (0, tk, ta, tw, 0, 0, ft) 1).2 (rc σ f n c 1) := Q1
  have Q2 : PQ σ f n (rp σ f n (0, tk, ta, tw, 0, 0, ft) 2).2 (rc σ f n c 2) := Q2
  have Q3 : PQ σ f n (rp σ f n (0, tk, ta, tw, 0, 0, ft) 3).2 (rc σ f n c 3) := Q3
  have S1 : pbd (rp σ f n (0, tk, ta, tw, 0, 0, ft) 1).2 = 0 → pbd (rp σ f n (0, tk, ta, tw, 0, 0, ft) 0).2 = 0 ∧ SP (eN σ) (rs σ f n c 0) (rc σ f n c 1) (rp σ f n (0, tk, ta, tw, 0, 0, ft) 1).1 ∧ (rc σ f n c 1).2.2.2.2.2.1 + (rc σ f n c 0).2.1 + 1 ≤ (rc σ f n c 1).2.1 + (rc σ f n c 0).2.2.2.2.2.1 := S1
  have S2 : pbd (rp σ f n (0, tk, ta, tw, 0, 0, ft) 2).2 = 0 → pbd (rp σ f n (0, tk, ta, tw, 0, 0, ft) 1).2 = 0 ∧ SP (eN σ) (rs σ f n c 1) (rc σ f n c 2) (rp σ f n (0, tk, ta, tw, 0, 0, ft) 2).1 ∧ (rc σ f n c 2).2.2.2.2.2.1 + (rc σ f n c 1).2.1 + 1 ≤ (rc σ f n c 2).2.1 + (rc σ f n c 1).2.2.2.2.2.1 := S2
  have S3 : pbd (rp σ f n (0, tk, ta, tw, 0, 0, ft) 3).2 = 0 → pbd (rp σ f n (0, tk, ta, tw, 0, 0, ft) 2).2 = 0 ∧ SP (eN σ) (rs σ f n c 2) (rc σ f n c 3) (rp σ f n (0, tk, ta, tw, 0, 0, ft) 3).1 ∧ (rc σ f n c 3).2.2.2.2.2.1 + (rc σ f n c 2).2.1 + 1 ≤ (rc σ f n c 3).2.1 + (rc σ f n c 2).2.2.2.2.2.1 := S3
  have m2 : mnC (rc σ f n c 1) (rc σ f n c 2) := mnC_Pt
  have m3 : mnC (rc σ f n c 2) (rc σ f n c 3) := mnC_Pt
  have hn := hO.2.2.1
  unfold rdE rdV
  rw [← e1, ← e2, ← e3]
  generalize hp3 : (rp σ f n (0, tk, ta, tw, 0, 0, ft) 3) = p3 at Q3 S3
  generalize hp2 : (rp σ f n (0, tk, ta, tw, 0, 0, ft) 2) = p2 at Q2 S2 S3
  generalize hp1 : (rp σ f n (0, tk, ta, tw, 0, 0, ft) 1) = p1 at Q1 S1 S2
  generalize hc3 : rc σ f n c 3 = c3 at Q3 S3 m3
  by_cases hb : pbd p3.2 = 0
  · have ht := tkC_end Q3.2.2.1 hb
    by_cases h0 : p3.2.2.1 = 0
    · rw [if_neg (fun z => z.2 h0)]
      have ex : cX σ f n (-23) c3 = cA σ f n c3 := if_pos (ht.mpr h0)
      rw [ex]
      refine ⟨fun _ => ⟨cA_ft.trans (Q3.2.2.1.1 hb).1, ?_, fun i hi => ?_⟩, fun z => absurd hb z⟩
      · rw [cA_lc]
        have g1 := (S3 hb).2.2
        have g2 := Q2.2.2.2 (S3 hb).1
        have g3 := (Q3.2.2.1.1 hb).2.1
        have g4 : p3.2.2.2.1 ≤ n := Q3.1.2.2.1
        omega
      · rcases (by omega : i = 0 ∨ i = 1 ∨ i = 2) with rfl | rfl | rfl
        · rw [if_pos (show nI 0 = 0 from rfl)]
          exact (((S1 (S2 (S3 hb).1).1).2.1.mono m2).mono m3).mono mnC_A
        · rw [if_neg (show ¬ nI 1 = 0 by decide), if_pos (show nI 1 = 1 from rfl)]
          exact ((S2 (S3 hb).1).2.1.mono m3).mono mnC_A
        · rw [if_neg (show ¬ nI 2 = 0 by decide), if_neg (show ¬ nI 2 = 1 by decide)]
          exact (S3 hb).2.1.mono mnC_A
    · rw [if_pos ⟨hb, h0⟩]
      have ex : cX σ f n (-23) c3 = cF c3 := if_neg (fun z => h0 (ht.mp z))
      have hF := RC_F hO Q3.1 Q3.2.2.1
      rw [ex]
      exact ⟨fun z => absurd z hF.2, fun z => ⟨(hF.1.2 z).2.1, (hF.1.2 z).2.2⟩⟩
  · rw [if_neg (fun z => hb z.1)]
    have fl := RC_flt Q3.2.2.1 hb
    have ex : cX σ f n (-23) c3 = cF c3 := if_neg (by rw [fl.1]; decide)
    have r := RC_kf Q3.2.2.1 hb (kf_F fl)
    rw [ex]
    exact ⟨fun z => absurd z hb, fun z => ⟨(r.2 z).2.1, (r.2 z).2.2⟩⟩
end M99
