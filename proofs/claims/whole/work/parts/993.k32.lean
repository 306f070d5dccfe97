/-! the text at the start: the class reads 36 letters, the reference has 40 -/
def σS : MS := (fun _ => 0, 0, fun k i => if k = 1 then (sByt.getD 0 []).getD i 32 else 0)
def cS : CT := (0, 0, -24, 0, -1, 0, fun _ => 0)
def rD (σ : MS) (f n : Nat) (c : CT) (i : Nat) : Nat := (cX σ f n (-19 - nI i) (if i = 0 then cA σ f n (c00 c) else if i = 1 then cPt σ f n 41 (-19 - nI 0) (cA σ f n (c00 c)) else cPt σ f n 41 (-19 - nI 1) (cPt σ f n 41 (-19 - nI 0) (cA σ f n (c00 c))))).2.2.2.2.2.1
section M993
theorem rD_rs {σ : MS} {f n : Nat} (c : CT) {i : Nat} (hi : i < 3) : rs σ f n c i = rD σ f n c i := by
  unfold rs rD
  rcases (by omega : i = 0 ∨ i = 1 ∨ i = 2) with rfl | rfl | rfl
  · rfl
  · rw [if_neg (by decide), if_pos rfl]
    unfold rc rc
    rw [NN_eq]
  · rw [if_neg (by decide), if_neg (by decide)]
    unfold rc rc rc
    rw [NN_eq]
theorem tS_40 : (cD σS 0 40 cS).2.2.2.2.1 = -1 ∧ (cD σS 0 36 cS).2.2.2.2.1 = -1 ∧ (cD σS 0 40 cS).2.2.2.2.2.1 = (cD σS 0 36 cS).2.2.2.2.2.1 ∧ (cD σS 0 36 cS).2.2.2.2.2.1 = 8 := by decide +kernel
theorem tS_cd : ∀ j : Nat, j < 8 → (cD σS 0 40 cS).2.2.2.2.2.2 j = (cD σS 0 36 cS).2.2.2.2.2.2 j := by decide +kernel
theorem tS_rs : ∀ i : Nat, i < 3 → rD σS 0 40 cS i = rD σS 0 36 cS i := by decide +kernel
/-- the class's first text is the reference's -/
theorem TR_0 {σ : MS} {κ : KS} {o : Nat} (hb : bA σ 0 40 = bA σS 0 40) (h0 : ∀ j, j < 8 → κ.2 o 0 j = (cX σS 0 36 (-23) (rc σS 0 36 cS 3)).2.2.2.2.2.2 j) (h1 : ∀ i, i < 3 → κ.2 o 1 i = nI (rs σS 0 36 cS i)) : TR σ 0 40 κ o 8 := by
  obtain ⟨e1, -, e3, e4⟩ := tS_40
  refine ⟨cS, ?_, ?_, fun j hj => ?_, fun i hi => ?_⟩
  · rw [rc_cg hb, cX_cg hb, cD_rc]
    exact e1
  · rw [rc_cg hb, cX_cg hb, cD_rc]
    exact e3.trans e4
  · rw [rc_cg hb, cX_cg hb, cD_rc, tS_cd j hj, h0 j hj, cD_rc]
  · rw [rs_cg hb, rD_rs cS hi, tS_rs i hi, h1 i hi, rD_rs cS hi]
end M993
