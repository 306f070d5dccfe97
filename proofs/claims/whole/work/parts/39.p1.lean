/-! the reference's reader keeps its state in order -/
def kp (n : Nat) (p q : PT) : Prop := okp n q ∧ p.2.2.1 ≤ q.2.2.1 ∧ pop q = pop p
theorem kp.trans {n : Nat} {p q r : PT} (h1 : kp n p q) (h2 : kp n q r) : kp n p r := ⟨h2.1, Nat.le_trans h1.2.1 h2.2.1, h2.2.2.trans h1.2.2⟩
theorem kp.rf {n : Nat} {p : PT} (h : okp n p) : kp n p p := ⟨h, Nat.le_refl _, rfl⟩
theorem kp_N {σ : MS} {f n : Nat} {p : PT} (hO : rdO σ f n) (h : okp n p) : kp n p (pN σ f n p) := ⟨(pN_ok hO h).1, (pN_ok hO h).2.2.1, (pN_ok hO h).2.2.2.1⟩
theorem kp_F {n : Nat} {p : PT} (h : okp n p) : kp n p (pF p) := ⟨(pF_ok h).1, Nat.le_of_eq (pF_ok h).2.1.symm, rfl⟩
theorem lpz_kp {n : Nat} {step : Int32 → PT → Option (Int32 × PT)} (hs : ∀ v p r, okp n p → step v p = some r → kp n p r.2) : ∀ (k : Nat) (v : Int32) (p : PT), okp n p → kp n p (lpz step k v p).2
  | 0, _, p, h => kp.rf h
  | k + 1, v, p, h => by
    rw [lpz]
    split
    · exact kp.rf h
    · rename_i r hr
      have h1 := hs v p r h hr
      exact h1.trans (lpz_kp hs k r.1 r.2 h1.1)
theorem kp_op {σ : MS} {f n : Nat} {p : PT} {g : PT → Int32 × PT} (hO : rdO σ f n) (h : okp n p) (h5 : ¬ pop p = 5) (hg : ∀ q, okp n q → kp n q (g q).2) : kp n (pOp σ f n p) (g (pOp σ f n p)).2 ∧ kp n p (pO (g (pOp σ f n p)).2 (pop (g (pOp σ f n p)).2 - 1)) ∧ pop (pOp σ f n p) = pop p + 1 ∧ okp n (pOp σ f n p) := by
  have h4 : pop p ≤ 5 := h.2.2.2.1
  have k0 : okp n (pO p (pop p + 1)) := pO_ok h (by omega)
  have k1 := kp_N hO k0
  have k2 := hg _ k1.1
  have e1 : pop (pOp σ f n p) = pop p + 1 := k1.2.2
  have e2 : pop (g (pOp σ f n p)).2 = pop p + 1 := k2.2.2.trans e1
  refine ⟨k2, ⟨pO_ok k2.1 (by omega), Nat.le_trans k1.2.1 k2.2.1, ?_⟩, e1, k1.1⟩
  show pop (g (pOp σ f n p)).2 - 1 = pop p
  omega
theorem kp_Cl {σ : MS} {f n : Nat} {p : PT} (hO : rdO σ f n) (h : okp n p) : okp n (pCl σ f n p) ∧ p.2.2.1 ≤ (pCl σ f n p).2.2.1 ∧ pop (pCl σ f n p) = pop p - 1 := by
  have h4 : pop p ≤ 5 := h.2.2.2.1
  have k0 : kp n p (if qS 41 p = 0 then pF p else p) := by
    split
    · exact kp_F h
    · exact kp.rf h
  unfold pCl
  generalize (if qS 41 p = 0 then pF p else p) = q at k0
  have k1 : okp n (pO q (pop p - 1)) := pO_ok k0.1 (by omega)
  split
  · have k2 := kp_N hO k1
    exact ⟨k2.1, Nat.le_trans k0.2.1 k2.2.1, k2.2.2⟩
  · exact ⟨k1, k0.2.1, rfl⟩
theorem pnm_kp {σ : MS} {f n : Nat} {p : PT} (h : okp n p) : kp n p (pnm σ f n p).2 := by
  unfold pnm
  repeat' split
  all_goals first | exact kp.rf h | exact kp_F h
theorem pz_kp {σ : MS} {f n : Nat} (hO : rdO σ f n) : ∀ (N l : Nat) (p : PT), okp n p → kp n p (pz σ f n N l p).2
  | 0, _, p, h => kp.rf h
  | N + 1, 0, p, h => by
    show kp n p (pAt σ f n (pz σ f n N 0) (pz σ f n N 5) p).2
    unfold pAt
    split
    · split
      · exact kp_F h
      · rename_i h5
        exact (kp_op hO h h5 (pz_kp hO N 0)).2.1
    · split
      · split
        · exact kp_F h
        · rename_i h5
          have k := kp_op hO h h5 (pz_kp hO N 5)
          have c := kp_Cl hO k.1.1
          have h4 : pop p ≤ 5 := h.2.2.2.1
          have k1 := kp_N hO (pO_ok h (show pop p + 1 ≤ 5 by omega))
          refine ⟨c.1, Nat.le_trans (Nat.le_trans k1.2.1 k.1.2.1) c.2.1, ?_⟩
          have e := k.1.2.2.trans k.2.2.1
          rw [c.2.2, e]
          omega
      · split
        · exact kp_N hO h
        · split
          · have k := pnm_kp (σ := σ) (f := f) h
            show kp n p (if _ then _ else _)
            split
            · exact k.trans (kp_N hO k.1)
            · exact k
          · exact kp_F h
  | N + 1, 1, p, h => by
    have k := pz_kp hO N 0 p h
    refine k.trans (lpz_kp (fun v q r hq hr => ?_) 200 _ _ k.1)
    unfold stT at hr
    split at hr
    · cases hr
    · cases hr
      exact (kp_N hO hq).trans (pz_kp hO N 0 _ (kp_N hO hq).1)
  | N + 1, 2, p, h => by
    have k := pz_kp hO N 1 p h
    refine k.trans (lpz_kp (fun v q r hq hr => ?_) 200 _ _ k.1)
    unfold stA at hr
    split at hr
    · cases hr
    · cases hr
      exact (kp_N hO hq).trans (pz_kp hO N 1 _ (kp_N hO hq).1)
  | N + 1, 3, p, h => by
    show kp n p (pNt σ f n (pz σ f n N 3) (pz σ f n N 2) p).2
    unfold pNt
    split
    · split
      · exact kp_F h
      · rename_i h5
        exact (kp_op hO h h5 (pz_kp hO N 3)).2.1
    · have k := pz_kp hO N 2 p h
      split
      · exact k
      · exact (k.trans (kp_N hO k.1)).trans (pz_kp hO N 2 _ (kp_N hO k.1).1)
  | N + 1, 4, p, h => by
    have k := pz_kp hO N 3 p h
    refine k.trans (lpz_kp (fun v q r hq hr => ?_) 200 _ _ k.1)
    unfold stB at hr
    split at hr
    · cases hr
    · cases hr
      exact (kp_N hO hq).trans (pz_kp hO N 3 _ (kp_N hO hq).1)
  | N + 1, l + 5, p, h => by
    have k := pz_kp hO N 4 p h
    refine k.trans (lpz_kp (fun v q r hq hr => ?_) 200 _ _ k.1)
    unfold stE at hr
    split at hr
    · cases hr
    · cases hr
      exact (kp_N hO hq).trans (pz_kp hO N 4 _ (kp_N hO hq).1)
/-- a sign or a word at hand: it begins ahead of where the reader is -/
theorem qS_gt {n : Nat} {p : PT} {c : Int32} (h : okp n p) (hq : ¬ qS c p = 0) : p.2.2.1 < p.1 := by
  unfold qS isSi at hq
  split at hq
  · rename_i hc
    exact h.2.2.2.2.2.1 (by rw [hc.2.1]; decide) (by rw [hc.2.1]; decide)
  · exact absurd rfl hq
theorem qW_gt {σ : MS} {f n : Nat} {p : PT} {c0 c1 c2 c3 c4 c5 c6 c7 : Int32} (h : okp n p) (hq : ¬ qW σ f n c0 c1 c2 c3 c4 c5 c6 c7 p = 0) : p.2.2.1 < p.1 := by
  unfold qW isWi at hq
  split at hq
  · rename_i hc
    exact h.2.2.2.2.2.1 (by rw [hc.2.1]; decide) (by rw [hc.2.1]; decide)
  · exact absurd rfl hq
