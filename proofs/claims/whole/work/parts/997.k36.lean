/-! a new text -/
section M997
variable {Γ : Gm} {μ : Mem}
theorem same_nwC {μ : Mem} {q n a : Nat} {f : Nat → Int32} (h : a ≠ q) : same μ (nwC μ q n f) a := ⟨va_up_n h, va_up_n h, va_up_n h, va_up_n h, va_up_n h, va_up_n h⟩
/-- a text at q0: n codes, their starts -/
def TXN (μ0 μ2 : Mem) (q0 n : Nat) (cd sr : Nat → Int32) : Prop := ∃ q1 q2 q3 : Nat, mT μ2 q0 = (1, 8) ∧ mR μ2 q0 0 = some q1 ∧ mR μ2 q0 1 = some q2 ∧ mR μ2 q0 2 = some q3 ∧ mI μ2 q0 3 = 0 ∧ mT μ2 q1 = (2, n) ∧ mT μ2 q2 = (2, 3) ∧ mT μ2 q3 = (2, n) ∧ (∀ k, k < n → mA μ2 q1 k = cd k) ∧ (∀ k, k < 3 → mA μ2 q2 k = sr k) ∧ (mT μ0 q1).1 = 0 ∧ (mT μ0 q2).1 = 0 ∧ (mT μ0 q3).1 = 0 ∧ q1 ≠ q2 ∧ q1 ≠ q3 ∧ q2 ≠ q3 ∧ ∀ a, a ≠ q0 → a ≠ q1 → a ≠ q2 → a ≠ q3 → same μ0 μ2 a
theorem c_txInit {q0 qc qs n na : Nat} (h0 : mT μ q0 = (1, 8)) (hc : mT μ qc = (2, na)) (hs : mT μ qs = (2, 3)) (hn : n ≤ na) (hna : na ≤ 100000) : XM Γ zX8_init 2 3 (n + 3 + n) [.ref q0, .ref qc, .int (nI n), .ref qs] μ (fun r μ2 => r = none ∧ TXN μ μ2 q0 n (mA μ qc) (mA μ qs)) := by
  refine XM.of 0 rfl (by decide) (Nat.le_of_ble_eq_true rfl) ?_
  refine x_aload_n (pc := 0) dX8_init_0 rfl ?_
  refine x_objInit (pc := 1) dX8_init_1 lw_8_3 wo_inst wo_code ⟨by show 1 ≤ 2; decide, by show 64 ≤ 64 * 2; decide⟩ (by decide) ?_
  refine x_aload_n (pc := 4) dX8_init_4 rfl ?_
  refine x_iconst (pc := 5) (v := 0) dX8_init_5 rfl ?_
  refine x_putI (pc := 6) dX8_init_6 fk_8_9 (by first | exact Or.inl rfl | exact Or.inr ⟨rfl, rfl, rfl⟩) h0 (Or.inl rfl) ?_
  refine x_aload_n (pc := 9) dX8_init_9 rfl ?_
  refine x_aload_n (pc := 10) dX8_init_10 rfl ?_
  refine x_iload_n (pc := 11) dX8_init_11 rfl ?_
  refine x_callS (pc := 12) (As := [.ref _, .int _]) dX8_init_12 mJ7_copyOf_59c91 lk_8_15 (c_copyOf (μ := sI μ q0 3 0) (N := n) hc hn (by omega) (by omega)) rfl rfl (Nat.le_of_ble_eq_true rfl) ⟨by show 1 + 1 ≤ 2; decide, by show 64 * (1 + 1) ≤ 64 * 2; decide⟩ ⟨by show 0 + 1 ≤ 3; decide, by show 0 + n ≤ n + 3 + n; omega⟩ (fun r μ2 hr => ?_)
  obtain ⟨q1, f1, rfl, g1, g2, rfl⟩ := hr
  have g1 : (mT μ q1).1 = 0 := g1
  have g2 : ∀ k, k < n → f1 k = mA μ qc k := g2
  have n01 : q0 ≠ q1 := fun z => by rw [← z, h0] at g1; cases g1
  have nc1 : qc ≠ q1 := fun z => by rw [← z, hc] at g1; cases g1
  have ns1 : qs ≠ q1 := fun z => by rw [← z, hs] at g1; cases g1
  refine x_putR (pc := 15) (q := q0) (a := q1) dX8_init_15 fk_8_21 (by first | exact Or.inl rfl | exact Or.inr ⟨rfl, rfl, rfl⟩) ((va_up_n n01).trans h0) (Or.inr ⟨_, rfl⟩) ?_
  refine x_aload_n (pc := 18) dX8_init_18 rfl ?_
  refine x_aload_n (pc := 19) dX8_init_19 rfl ?_
  refine x_iconst (pc := 20) (v := 3) dX8_init_20 rfl ?_
  refine x_callS (pc := 21) (As := [.ref _, .int _]) dX8_init_21 mJ7_copyOf_59c91 lk_8_15 (c_copyOf (μ := sR (nwC (sI μ q0 3 0) q1 n f1) q0 0 (some q1)) (na := 3) (N := 3) ((va_up_n ns1).trans hs) (Nat.le_refl 3) (by decide) (by decide)) rfl rfl (Nat.le_of_ble_eq_true rfl) ⟨by show 1 + 1 ≤ 2; decide, by show 64 * (1 + 1) ≤ 64 * 2; decide⟩ ⟨by show 0 + 1 + 1 ≤ 3; decide, by show 0 + n + 3 ≤ n + 3 + n; omega⟩ (fun r μ2 hr => ?_)
  obtain ⟨q2, f2, rfl, g3, g4, rfl⟩ := hr
  have n12 : q1 ≠ q2 := fun z => by
    rw [← z, show mT (sR (nwC (sI μ q0 3 0) q1 n f1) q0 0 (some q1)) q1 = (2, n) from nwC_T (μ := sI μ q0 3 0) (f := f1)] at g3
    cases g3
  have g3 : (mT μ q2).1 = 0 := by
    rw [← g3]
    exact congrArg Prod.fst (va_up_n (Ne.symm n12)).symm
  have n02 : q0 ≠ q2 := fun z => by rw [← z, h0] at g3; cases g3
  have ns2 : qs ≠ q2 := fun z => by rw [← z, hs] at g3; cases g3
  have g4 : ∀ k, k < 3 → f2 k = mA μ qs k := fun k hk => (g4 k hk).trans (congrFun (va_up_n ns1) k)
  refine x_putR (pc := 24) (q := q0) (a := q2) dX8_init_24 fk_8_25 (by first | exact Or.inl rfl | exact Or.inr ⟨rfl, rfl, rfl⟩) ((va_up_n n02).trans ((va_up_n n01).trans h0)) (Or.inr ⟨_, rfl⟩) ?_
  refine x_aload_n (pc := 27) dX8_init_27 rfl ?_
  refine x_iload_n (pc := 28) dX8_init_28 rfl ?_
  refine x_newI (pc := 29) (N := n) dX8_init_29 ka_int rfl (by omega) ⟨by show 0 + 1 + 1 + 1 ≤ 3; decide, by show 0 + n + 3 + n ≤ n + 3 + n; omega⟩ (fun q3 g5 => ?_)
  have n23 : q2 ≠ q3 := fun z => by
    rw [← z, show mT (sR (nwC (sR (nwC (sI μ q0 3 0) q1 n f1) q0 0 (some q1)) q2 3 f2) q0 1 (some q2)) q2 = (2, 3) from nwC_T (μ := sR (nwC (sI μ q0 3 0) q1 n f1) q0 0 (some q1)) (f := f2)] at g5
    cases g5
  have n13 : q1 ≠ q3 := fun z => by
    rw [← z, show mT (sR (nwC (sR (nwC (sI μ q0 3 0) q1 n f1) q0 0 (some q1)) q2 3 f2) q0 1 (some q2)) q1 = (2, n) from (va_up_n n12).trans (nwC_T (μ := sI μ q0 3 0) (f := f1))] at g5
    cases g5
  have g5 : (mT μ q3).1 = 0 := by
    rw [← g5]
    exact congrArg Prod.fst ((va_up_n (Ne.symm n23)).trans (va_up_n (Ne.symm n13))).symm
  have n03 : q0 ≠ q3 := fun z => by rw [← z, h0] at g5; cases g5
  refine x_putR (pc := 31) (q := q0) (a := q3) dX8_init_31 fk_8_28 (by first | exact Or.inl rfl | exact Or.inr ⟨rfl, rfl, rfl⟩) ((va_up_n n03).trans ((va_up_n n02).trans ((va_up_n n01).trans h0))) (Or.inr ⟨_, rfl⟩) ?_
  rw [Nat.zero_add n]
  refine x_return (pc := 34) dX8_init_34 rfl ?_
  have S1 : ∀ a, a ≠ q0 → a ≠ q1 → same μ (sR (nwC (sI μ q0 3 0) q1 n f1) q0 0 (some q1)) a := fun a a0 a1 => ((same_sI a0).trans (same_nwC a1)).trans (same_sR a0)
  have S2 : ∀ a, a ≠ q0 → a ≠ q2 → same (sR (nwC (sI μ q0 3 0) q1 n f1) q0 0 (some q1)) (sR (nwC (sR (nwC (sI μ q0 3 0) q1 n f1) q0 0 (some q1)) q2 3 f2) q0 1 (some q2)) a := fun a a0 a2 => (same_nwC a2).trans (same_sR a0)
  have S3 : ∀ a, a ≠ q0 → a ≠ q3 → same (sR (nwC (sR (nwC (sI μ q0 3 0) q1 n f1) q0 0 (some q1)) q2 3 f2) q0 1 (some q2)) (sR (nw (sR (nwC (sR (nwC (sI μ q0 3 0) q1 n f1) q0 0 (some q1)) q2 3 f2) q0 1 (some q2)) q3 2 n) q0 2 (some q3)) a := fun a a0 a3 => (same_nw a3).trans (same_sR a0)
  have A1 : same (sR (nwC (sI μ q0 3 0) q1 n f1) q0 0 (some q1)) (sR (nw (sR (nwC (sR (nwC (sI μ q0 3 0) q1 n f1) q0 0 (some q1)) q2 3 f2) q0 1 (some q2)) q3 2 n) q0 2 (some q3)) q1 := (S2 q1 (Ne.symm n01) n12).trans (S3 q1 (Ne.symm n01) n13)
  have A2 := S3 q2 (Ne.symm n02) n23
  refine ⟨rfl, q1, q2, q3, ?_, ?_, ?_, ?_, ?_, ?_, ?_, ?_, fun k hk => ?_, fun k hk => ?_, g1, g3, g5, n12, n13, n23, fun a a0 a1 a2 a3 => ((S1 a a0 a1).trans (S2 a a0 a2)).trans (S3 a a0 a3)⟩
  · exact (va_up_n n03).trans ((va_up_n n02).trans ((va_up_n n01).trans h0))
  · refine (up2_n (Or.inr (by decide))).trans ?_
    refine (congrFun (va_up_n n03) 0).trans ?_
    refine (up2_n (Or.inr (by decide))).trans ?_
    refine (congrFun (va_up_n n02) 0).trans ?_
    exact up2_s
  · refine (up2_n (Or.inr (by decide))).trans ?_
    refine (congrFun (va_up_n n03) 1).trans ?_
    exact up2_s
  · exact up2_s
  · refine (congrFun (va_up_n n03) 3).trans ?_
    refine (congrFun (va_up_n n02) 3).trans ?_
    refine (congrFun (va_up_n n01) 3).trans ?_
    exact up2_s
  · rw [A1.1]
    exact nwC_T (f := f1)
  · rw [A2.1]
    exact nwC_T (f := f2)
  · exact nw_T
  · rw [A1.2.2.2.2.1]
    exact (congrFun (nwC_A (n := n)) k).trans (g2 k hk)
  · rw [A2.2.2.2.2.1]
    exact (congrFun (nwC_A (n := 3)) k).trans (g4 k hk)
end M997
