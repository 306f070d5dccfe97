/-! what the class reads is told by its letters alone -/
section M991
variable {σ τ : MS} {f g n : Nat}
theorem skB_cg (h : bA σ f n = bA τ g n) : ∀ m x, skB σ f n m x = skB τ g n m x
  | 0, _ => rfl
  | m + 1, x => by rw [skB, skB, h, skB_cg h m (x + 1)]
theorem weB_cg (h : bA σ f n = bA τ g n) : ∀ m x, weB σ f n m x = weB τ g n m x
  | 0, _ => rfl
  | m + 1, x => by rw [weB, weB, h, weB_cg h m (x + 1)]
theorem dcB_cg (h : bA σ f n = bA τ g n) : ∀ m x v, dcB σ f n m x v = dcB τ g n m x v
  | 0, _, _ => rfl
  | m + 1, x, v => by rw [dcB, dcB, h, dcB_cg h m (x + 1)]
theorem spP_cg (h : bA σ f n = bA τ g n) (s e i : Nat) : spP σ f n s e i ↔ spP τ g n s e i := by
  unfold spP
  rw [h]
theorem wdC_cg (h : bA σ f n = bA τ g n) (s e : Nat) : wdC σ f n s e = wdC τ g n s e := by
  unfold wdC keC naC
  simp only [spP_cg h]
theorem cA_cg (h : bA σ f n = bA τ g n) (c : CT) : cA σ f n c = cA τ g n c := by
  unfold cA cAx
  simp only [skB_cg h, weB_cg h, dcB_cg h, wdC_cg h, h]
theorem cX_cg (h : bA σ f n = bA τ g n) (v : Int32) (c : CT) : cX σ f n v c = cX τ g n v c := by
  unfold cX
  rw [cA_cg h]
theorem stX_cg (h : bA σ f n = bA τ g n) {k1 k2 : CT → CT} (hk : k1 = k2) (v : Int32) : stX σ f n k1 v = stX τ g n k2 v := by
  subst hk
  funext c
  unfold stX
  rw [cA_cg h]
theorem stS_cg (h : bA σ f n = bA τ g n) {k1 k2 : CT → CT} (hk : k1 = k2) : stS σ f n k1 = stS τ g n k2 := by
  subst hk
  funext c
  unfold stS
  rw [cA_cg h]
theorem cz_cg (h : bA σ f n = bA τ g n) : ∀ (N l op : Nat) (c : CT), cz σ f n N l op c = cz τ g n N l op c
  | 0, _, _, _ => rfl
  | N + 1, 0, op, c => by
    show cAt σ f n (cz σ f n N 0) (cz σ f n N 5) op c = cAt τ g n (cz τ g n N 0) (cz τ g n N 5) op c
    unfold cAt
    simp only [cA_cg h, cX_cg h, cz_cg h N]
  | N + 1, 1, op, c => by
    show clp (stX σ f n (cz σ f n N 0 op) (-14)) 160 (cz σ f n N 0 op c) = clp (stX τ g n (cz τ g n N 0 op) (-14)) 160 (cz τ g n N 0 op c)
    rw [stX_cg h (funext (cz_cg h N 0 op)), cz_cg h N]
  | N + 1, 2, op, c => by
    show clp (stS σ f n (cz σ f n N 1 op)) 160 (cz σ f n N 1 op c) = clp (stS τ g n (cz τ g n N 1 op)) 160 (cz τ g n N 1 op c)
    rw [stS_cg h (funext (cz_cg h N 1 op)), cz_cg h N]
  | N + 1, 3, op, c => by
    show cNt σ f n (cz σ f n N 3) (cz σ f n N 2) op c = cNt τ g n (cz τ g n N 3) (cz τ g n N 2) op c
    unfold cNt cCm
    simp only [cA_cg h, cz_cg h N]
  | N + 1, 4, op, c => by
    show clp (stX σ f n (cz σ f n N 3 op) (-8)) 160 (cz σ f n N 3 op c) = clp (stX τ g n (cz τ g n N 3 op) (-8)) 160 (cz τ g n N 3 op c)
    rw [stX_cg h (funext (cz_cg h N 3 op)), cz_cg h N]
  | N + 1, l + 5, op, c => by
    show clp (stX σ f n (cz σ f n N 4 op) (-7)) 160 (cz σ f n N 4 op c) = clp (stX τ g n (cz τ g n N 4 op) (-7)) 160 (cz τ g n N 4 op c)
    rw [stX_cg h (funext (cz_cg h N 4 op)), cz_cg h N]
theorem cPt_cg (h : bA σ f n = bA τ g n) (N : Nat) (v : Int32) (c : CT) : cPt σ f n N v c = cPt τ g n N v c := by
  unfold cPt
  rw [cX_cg h, cX_cg h, cz_cg h]
theorem rc_cg (h : bA σ f n = bA τ g n) (c : CT) : ∀ i, rc σ f n c i = rc τ g n c i
  | 0 => cA_cg h _
  | i + 1 => by
    show cPt σ f n NN _ (rc σ f n c i) = cPt τ g n NN _ (rc τ g n c i)
    rw [cPt_cg h, rc_cg h c i]
theorem rs_cg (h : bA σ f n = bA τ g n) (c : CT) (i : Nat) : rs σ f n c i = rs τ g n c i := by
  unfold rs
  rw [cX_cg h, rc_cg h]
/-- what the class made of the letters says what the reference reads, whatever the names -/
theorem rd_says {c : CT} (hOσ : rdO σ f n) (hO : rdO τ g n) (h : bA σ f n = bA τ g n) {tk ta ft i : Nat} {tw : Int64} (hb : pbd (rdE τ g n (0, tk, ta, tw, 0, 0, ft)) = 0) (hi : i < 3) : tRn (eN τ) (cX σ f n (-23) (rc σ f n c 3)).2.2.2.2.2.2 ((cX σ f n (-23) (rc σ f n c 3)).2.2.2.2.2.1 - rs σ f n c i) (rs σ f n c i) [] = [rdV τ g n (0, tk, ta, tw, 0, 0, ft) (nI i)] := by
  rw [rs_cg h, rc_cg h, cX_cg h]
  exact ((rd_sim hO).1 hb).2.2 i hi |>.run
end M991
