/-! an object in its making: its arrays, one behind the other -/
/-- a cell is as it was -/
def same (μ0 μ : Mem) (q : Nat) : Prop := mT μ q = mT μ0 q ∧ mI μ q = mI μ0 q ∧ mJ μ q = mJ μ0 q ∧ mR μ q = mR μ0 q ∧ mA μ q = mA μ0 q ∧ mX μ q = mX μ0 q
theorem same.rf {μ : Mem} {q : Nat} : same μ μ q := ⟨rfl, rfl, rfl, rfl, rfl, rfl⟩
theorem same.trans {μ μ' μ'' : Mem} {q : Nat} (h : same μ μ' q) (h2 : same μ' μ'' q) : same μ μ'' q := ⟨h2.1.trans h.1, h2.2.1.trans h.2.1, h2.2.2.1.trans h.2.2.1, h2.2.2.2.1.trans h.2.2.2.1, h2.2.2.2.2.1.trans h.2.2.2.2.1, h2.2.2.2.2.2.trans h.2.2.2.2.2⟩
theorem same_nw {μ : Mem} {q t n a : Nat} (h : a ≠ q) : same μ (nw μ q t n) a := ⟨va_up_n h, va_up_n h, va_up_n h, va_up_n h, va_up_n h, va_up_n h⟩
theorem same_sR {μ : Mem} {q k a : Nat} {v : Option Nat} (h : a ≠ q) : same μ (sR μ q k v) a := ⟨rfl, rfl, rfl, up2_row h, rfl, rfl⟩
theorem same_sI {μ : Mem} {q k a : Nat} {v : Int32} (h : a ≠ q) : same μ (sI μ q k v) a := ⟨rfl, up2_row h, rfl, rfl, rfl, rfl⟩
theorem same_sA {μ : Mem} {q k a : Nat} {v : Int32} (h : a ≠ q) : same μ (sA μ q k v) a := ⟨rfl, rfl, rfl, rfl, up2_row h, rfl⟩
theorem same_sX {μ : Mem} {q k a : Nat} {v : Option Nat} (h : a ≠ q) : same μ (sX μ q k v) a := ⟨rfl, rfl, rfl, rfl, rfl, up2_row h⟩
/-- (field, address, kind, length) -/
abbrev AL : Type := List (Nat × Nat × Nat × Nat)
def AI (μ0 μ : Mem) (q0 ci : Nat) (g : Nat → Int32) (L : AL) : Prop := mT μ q0 = (1, ci) ∧ mI μ q0 = g ∧ (∀ k, mJ μ q0 k = 0) ∧ (∀ x ∈ L, mR μ q0 x.1 = some x.2.1 ∧ mT μ x.2.1 = (x.2.2.1, x.2.2.2) ∧ (∀ i, mA μ x.2.1 i = 0) ∧ (∀ i, mX μ x.2.1 i = none) ∧ x.2.1 ≠ q0 ∧ (mT μ0 x.2.1).1 = 0 ∧ x.2.2.1 ≠ 0) ∧ (∀ x ∈ L, ∀ y ∈ L, x.2.1 = y.2.1 → x.1 = y.1) ∧ ∀ q, q ≠ q0 → (∀ x ∈ L, x.2.1 ≠ q) → same μ0 μ q
theorem AI_step {μ0 μ : Mem} {q0 ci k q ty N : Nat} {g : Nat → Int32} {L : AL} (I : AI μ0 μ q0 ci g L) (hq : (mT μ q).1 = 0) (hty : ty ≠ 0) (hk : ∀ x ∈ L, x.1 ≠ k) : AI μ0 (sR (nw μ q ty N) q0 k (some q)) q0 ci g (L ++ [(k, q, ty, N)]) := by
  obtain ⟨h1, h2, h3, h4, h5, h6⟩ := I
  have hq0 : q ≠ q0 := fun e => by rw [e, h1] at hq; cases hq
  have hqL : ∀ x ∈ L, x.2.1 ≠ q := fun x hx e => by
    obtain ⟨-, y2, -, -, -, -, y7⟩ := h4 x hx
    rw [e] at y2
    rw [y2] at hq
    exact y7 hq
  have s0 : same μ (nw μ q ty N) q0 := same_nw (fun e => hq0 e.symm)
  refine ⟨s0.1.trans h1, s0.2.1.trans h2, fun j => by
    show mJ (nw μ q ty N) q0 j = 0
    rw [s0.2.2.1]; exact h3 j, fun x hx => ?_, fun x hx y hy e => ?_, fun q' h7 h8 => ?_⟩
  · rcases List.mem_append.mp hx with hx | hx
    · obtain ⟨y1, y2, y3, y4, y5, y6, y7⟩ := h4 x hx
      have s1 : same μ (sR (nw μ q ty N) q0 k (some q)) x.2.1 := (same_nw (hqL x hx)).trans (same_sR y5)
      refine ⟨?_, s1.1.trans y2, fun i => by rw [s1.2.2.2.2.1]; exact y3 i, fun i => by rw [s1.2.2.2.2.2]; exact y4 i, y5, y6, y7⟩
      show up2 (mR (nw μ q ty N)) q0 k (some q) q0 x.1 = _
      rw [up2_n (Or.inr (hk x hx)), s0.2.2.2.1]
      exact y1
    · rw [List.mem_singleton.mp hx]
      have s2 : same (nw μ q ty N) (sR (nw μ q ty N) q0 k (some q)) q := same_sR hq0
      refine ⟨up2_s, s2.1.trans nw_T, fun i => ?_, fun i => ?_, hq0, ?_, hty⟩
      · rw [s2.2.2.2.2.1]
        show va_up (mA μ) q (fun _ => 0) q i = 0
        rw [va_up_s]
      · rw [s2.2.2.2.2.2]
        show va_up (mX μ) q (fun _ => none) q i = none
        rw [va_up_s]
      · rw [← (h6 q hq0 hqL).1]
        exact hq
  · rcases List.mem_append.mp hx with hx | hx
    · rcases List.mem_append.mp hy with hy | hy
      · exact h5 x hx y hy e
      · rw [List.mem_singleton.mp hy] at e
        exact absurd e (hqL x hx)
    · rcases List.mem_append.mp hy with hy | hy
      · rw [List.mem_singleton.mp hx] at e
        exact absurd e.symm (hqL y hy)
      · rw [List.mem_singleton.mp hx, List.mem_singleton.mp hy]
  · have hne : q' ≠ q := fun e => h8 (k, q, ty, N) (List.mem_append.mpr (Or.inr List.mem_cons_self)) e.symm
    exact (h6 q' h7 (fun x hx => h8 x (List.mem_append.mpr (Or.inl hx)))).trans ((same_nw hne).trans (same_sR h7))
theorem AI_int {μ0 μ : Mem} {q0 ci k : Nat} {g : Nat → Int32} {v : Int32} {L : AL} (I : AI μ0 μ q0 ci g L) : AI μ0 (sI μ q0 k v) q0 ci (va_up g k v) L := by
  obtain ⟨h1, h2, h3, h4, h5, h6⟩ := I
  refine ⟨h1, ?_, h3, fun x hx => h4 x hx, h5, fun q h7 h8 => (h6 q h7 h8).trans (same_sI h7)⟩
  funext j
  show up2 (mI μ) q0 k v q0 j = va_up g k v j
  by_cases hj : j = k
  · rw [hj, up2_s, va_up_s]
  · rw [up2_n (Or.inr hj), va_up_n hj, h2]
/-- a new object -/
theorem AI_new {μ : Mem} {q0 ci : Nat} : AI (nw μ q0 1 ci) (nw μ q0 1 ci) q0 ci (fun _ => 0) [] := by
  refine ⟨nw_T, ?_, fun k => ?_, fun x hx => absurd hx List.not_mem_nil, fun x hx => absurd hx List.not_mem_nil, fun q _ _ => same.rf⟩
  · show va_up (mI μ) q0 (fun _ => 0) q0 = _
    exact va_up_s
  · show va_up (mJ μ) q0 (fun _ => 0) q0 k = 0
    rw [va_up_s]
section M61
variable {Γ : Gm} {M : Mt} {R : Room} {mc ms cl sl : Nat} {Q : Option Value → Mem → Prop} {pc : Nat} {lv : List (Option Value)} {st : List Value} {μ μ0 : Mem}
/-- a row of ints into a field -/
theorem x_af {idx k N q0 ci : Nat} {n : Int32} {g : Nat → Int32} {L : AL} (d1 : decode M.2.1 pc = .ok (.newarray .int, 2)) (d2 : decode M.2.1 (pc + 2) = .ok (.putfield idx, 3)) (f : FK M.1.cls idx ci k) (hfin : (xT ci k).2.2.2 = false ∨ ((xT ci k).2.2.2 = true ∧ M.1.name = "<init>" ∧ (xT ci k).1 = M.1.cls)) (hty : isR (xty ci k)) (I : AI μ0 μ q0 ci g L) (hk : ∀ x ∈ L, x.1 ≠ k) (hn : n = nI N) (hN : N ≤ 100000) (hcs : cl + 1 ≤ R.cells ∧ sl + N ≤ R.slots) (kk : ∀ q μ', AI μ0 μ' q0 ci g (L ++ [(k, q, 2, N)]) → WA Γ M R mc ms (cl + 1) (sl + N) Q (pc + 5) lv st μ') : WA Γ M R mc ms cl sl Q pc lv (.int n :: .ref q0 :: st) μ := by
  refine x_newI d1 ka_int hn hN hcs (fun q hq => ?_)
  have hq0 : q0 ≠ q := fun e => by rw [← e, I.1] at hq; cases hq
  refine x_putR (pc := pc + 2) d2 f hfin ((nw_Tn hq0).trans I.1) hty ?_
  exact kk q _ (AI_step I hq (by decide) hk)
theorem x_afZ {idx k N q0 ci : Nat} {n : Int32} {g : Nat → Int32} {L : AL} (d1 : decode M.2.1 pc = .ok (.newarray .boolean, 2)) (d2 : decode M.2.1 (pc + 2) = .ok (.putfield idx, 3)) (f : FK M.1.cls idx ci k) (hfin : (xT ci k).2.2.2 = false ∨ ((xT ci k).2.2.2 = true ∧ M.1.name = "<init>" ∧ (xT ci k).1 = M.1.cls)) (hty : isR (xty ci k)) (I : AI μ0 μ q0 ci g L) (hk : ∀ x ∈ L, x.1 ≠ k) (hn : n = nI N) (hN : N ≤ 100000) (hcs : cl + 1 ≤ R.cells ∧ sl + N ≤ R.slots) (kk : ∀ q μ', AI μ0 μ' q0 ci g (L ++ [(k, q, 3, N)]) → WA Γ M R mc ms (cl + 1) (sl + N) Q (pc + 5) lv st μ') : WA Γ M R mc ms cl sl Q pc lv (.int n :: .ref q0 :: st) μ := by
  refine x_newZ d1 ka_boolean hn hN hcs (fun q hq => ?_)
  have hq0 : q0 ≠ q := fun e => by rw [← e, I.1] at hq; cases hq
  refine x_putR (pc := pc + 2) d2 f hfin ((nw_Tn hq0).trans I.1) hty ?_
  exact kk q _ (AI_step I hq (by decide) hk)
theorem x_afX {idx idx2 k N q0 ci kx : Nat} {n : Int32} {g : Nat → Int32} {L : AL} (hk3 : kx < 3) (d1 : decode M.2.1 pc = .ok (.anewarray idx2, 3)) (hw : Cond.classLink M.1.cls idx2 (xRC kx) ∈ gT) (d2 : decode M.2.1 (pc + 3) = .ok (.putfield idx, 3)) (f : FK M.1.cls idx ci k) (hfin : (xT ci k).2.2.2 = false ∨ ((xT ci k).2.2.2 = true ∧ M.1.name = "<init>" ∧ (xT ci k).1 = M.1.cls)) (hty : isR (xty ci k)) (I : AI μ0 μ q0 ci g L) (hk : ∀ x ∈ L, x.1 ≠ k) (hn : n = nI N) (hN : N ≤ 100000) (hcs : cl + 1 ≤ R.cells ∧ sl + N ≤ R.slots) (kk : ∀ q μ', AI μ0 μ' q0 ci g (L ++ [(k, q, kx + 4, N)]) → WA Γ M R mc ms (cl + 1) (sl + N) Q (pc + 6) lv st μ') : WA Γ M R mc ms cl sl Q pc lv (.int n :: .ref q0 :: st) μ := by
  refine x_newX hk3 d1 hw hn hN hcs (fun q hq => ?_)
  have hq0 : q0 ≠ q := fun e => by rw [← e, I.1] at hq; cases hq
  refine x_putR (pc := pc + 3) d2 f hfin ((nw_Tn hq0).trans I.1) hty ?_
  exact kk q _ (AI_step I hq (by omega) hk)
/-- an int into a field -/
theorem x_ai {idx k q0 ci : Nat} {v : Int32} {g : Nat → Int32} {L : AL} (d : decode M.2.1 pc = .ok (.putfield idx, 3)) (f : FK M.1.cls idx ci k) (hfin : (xT ci k).2.2.2 = false ∨ ((xT ci k).2.2.2 = true ∧ M.1.name = "<init>" ∧ (xT ci k).1 = M.1.cls)) (I : AI μ0 μ q0 ci g L) (hty : xty ci k = .int ∨ (xty ci k = .boolean ∧ (v = 0 ∨ v = 1))) (kk : ∀ μ', AI μ0 μ' q0 ci (va_up g k v) L → WA Γ M R mc ms cl sl Q (pc + 3) lv st μ') : WA Γ M R mc ms cl sl Q pc lv (.int v :: .ref q0 :: st) μ :=
  x_putI d f hfin I.1 hty (kk _ (AI_int I))
end M61
