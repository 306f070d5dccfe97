/-! the class: the week, once -/
theorem kI_s {κ : KS} {o k : Nat} {v : Int32} : (kI κ o k v).1 o k = v := up2_s
theorem kI_n {κ : KS} {o k a c : Nat} {v : Int32} (h : a ≠ o ∨ c ≠ k) : (kI κ o k v).1 a c = κ.1 a c := up2_n h
/-- where all are put -/
def PC (κ : KS) (D : PD) (n : Nat) : Prop := ∀ t, t < n → κ.1 (15 + t) 5 = nI (D 3 t) - 1
theorem PC.kq {κ κ2 : KS} {D : PD} {n : Nat} (h : PC κ D n) (q : kq plP κ κ2) : PC κ2 D n := fun t ht => by
  rw [(q (15 + t) 5 (fun z => by unfold plP at z; omega)).1]
  exact h t ht
/-- the planner's days -/
def DC (κ : KS) (D : PD) : Prop := ∀ d, d < 7 → κ.2 3 5 d = nI (D 6 d)
theorem DC.kq {κ κ2 : KS} {D : PD} (h : DC κ D) (q : kq plP κ κ2) : DC κ2 D := fun d hd => by
  rw [(q 3 5 (fun z => by unfold plP at z; omega)).2]
  exact h d hd
def roP : Nat → Nat → Prop := fun a k => a = 3 ∧ k = 7
theorem ro_pl {κ κ2 : KS} (q : kq roP κ κ2) : kq plP κ κ2 := q.mono (fun a k z => Or.inl ⟨z.1, Or.inl z.2⟩)
section M83
variable {Γ : Gm} {μ : Mem} {b : Kb} {κ : KS}
theorem k_enterNow {D : PD} {n aw : Nat} (hP : KP μ b (D 0)) (hL : PL κ D n aw) (hC : PC κ D n) : XM Γ zX4_enterNow 1 0 0 [.ref (adO b 3)] (KV μ b κ) (fun x μ2 => ∃ κ2, x = none ∧ μ2 = KV μ b κ2 ∧ kq roP κ κ2 ∧ RMc κ2 (wasA D aw) n) := by
  refine XM.of 1 rfl (by decide) (Nat.le_of_ble_eq_true rfl) ?_
  have hn := hL.1.1
  have hP0 := hP
  obtain ⟨hK, hth0, hX, hLe⟩ := hP
  have Lo : ∀ (m t : Nat) (κ2 : KS), t + m = n → kq roP κ κ2 → (∀ x, x < t → κ2.2 3 7 x = nI (wasA D aw x) - 1) → WA Γ zX4_enterNow (xrm 1 0 0) 0 0 0 0 (fun x μ2 => ∃ κ2, x = none ∧ μ2 = KV μ b κ2 ∧ kq roP κ κ2 ∧ RMc κ2 (wasA D aw) n) 2 [some (.ref (adO b 3)), some (.int (nI t))] [] (KV μ b κ2) := by
    intro m
    induction m with
    | zero =>
      intro t κ2 ht hq h1
      obtain rfl : t = n := by omega
      have hL2 := hL.kq (ro_pl hq)
      refine x_iload_n (pc := 2) dX4_enterNow_2 rfl ?_
      refine x_aload_n (pc := 3) dX4_enterNow_3 rfl ?_
      refine k_getI (pc := 4) hK dX4_enterNow_4 fk_4_17 (Or.inl rfl) ?_
      refine x_icmp_ge (pc := 7) (tgt := 43) dX4_enterNow_7 rfl (fun h_7 => ?_) (fun h_7 => absurd (by rw [hL2.2.2.1]; exact Int32.le_refl _) h_7)
      refine x_return (pc := 43) dX4_enterNow_43 rfl ?_
      refine ⟨κ2, rfl, rfl, hq, fun x hx => ⟨h1 x hx, ?_⟩⟩
      unfold wasA
      split
      · omega
      · exact (hL.1.2.1 x (by omega)).2.2.2
    | succ m ih =>
      intro t κ2 ht hq h1
      have hL2 := hL.kq (ro_pl hq)
      have hC2 := hC.kq (ro_pl hq)
      have haw : nI t = awI aw ↔ t = aw := aw_eq (by omega)
      have fin : ∀ v, v = nI (wasA D aw t) - 1 → WA Γ zX4_enterNow (xrm 1 0 0) 0 0 0 0 (fun x μ2 => ∃ κ2, x = none ∧ μ2 = KV μ b κ2 ∧ kq roP κ κ2 ∧ RMc κ2 (wasA D aw) n) 2 [some (.ref (adO b 3)), some (.int (nI (t + 1)))] [] (KV μ b (kA κ2 3 7 t v)) := fun v hv => by
        refine ih (t + 1) _ (by omega) (hq.A ⟨rfl, rfl⟩) (fun x hx => ?_)
        rcases Nat.lt_or_ge x t with q | q
        · rw [kA_i (by omega)]
          exact h1 x q
        · obtain rfl : x = t := by omega
          rw [kA_s, hv]
      refine x_iload_n (pc := 2) dX4_enterNow_2 rfl ?_
      refine x_aload_n (pc := 3) dX4_enterNow_3 rfl ?_
      refine k_getI (pc := 4) hK dX4_enterNow_4 fk_4_17 (Or.inl rfl) ?_
      refine x_icmp_ge (pc := 7) (tgt := 43) dX4_enterNow_7 rfl (fun h_7 => absurd h_7 (by rw [hL2.2.2.1]; exact lit_le t (by omega) (by omega))) (fun h_7 => ?_)
      refine x_aload_n (pc := 10) dX4_enterNow_10 rfl ?_
      refine k_getA (pc := 11) hK dX4_enterNow_11 fk_4_37 (Or.inr ⟨_, rfl⟩) (by decide) ?_
      refine x_iload_n (pc := 14) dX4_enterNow_14 rfl ?_
      refine x_iload_n (pc := 15) dX4_enterNow_15 rfl ?_
      refine x_aload_n (pc := 16) dX4_enterNow_16 rfl ?_
      refine k_getI (pc := 17) hK dX4_enterNow_17 fk_4_21 (Or.inl rfl) ?_
      rw [hL2.2.2.2.1]
      refine x_icmp_ne (pc := 20) (tgt := 27) dX4_enterNow_20 rfl (fun h_20 => ?_) (fun h_20 => ?_)
      · refine x_aload_n (pc := 27) dX4_enterNow_27 rfl ?_
        refine k_getR (pc := 28) hK dX4_enterNow_28 fk_4_11 (Or.inr ⟨_, rfl⟩) (hth0) ?_
        refine x_iload_n (pc := 31) dX4_enterNow_31 rfl ?_
        refine x_aald (pc := 32) dX4_enterNow_32 (hX.1) (Or.inl rfl) (rfl) ((by omega)) (by decide) ((hX.2 t (by omega)).1) ?_
        refine k_getI (pc := 33) (hX.2 t (by omega)).2 dX4_enterNow_33 (fk_4_81 (kci_th (D 0 t))) (Or.inl (th_i (kci_th (D 0 t)) (by decide))) ?_
        refine k_iast (pc := 36) hK dX4_enterNow_36 (rfl) (by show t < 5; omega) (by decide) ?_
        refine x_iinc (pc := 37) (lv2 := [_, _]) dX4_enterNow_37 (by decide) rfl rfl (nI_1 _) rfl ?_
        refine x_goto (pc := 40) (tgt := 2) dX4_enterNow_40 rfl ?_
        first
          | exact fin _ (by
              unfold wasA
              rw [if_pos (haw.mp (by first | exact h_20 | exact Decidable.not_not.mp h_20))]
              rfl)
          | exact fin _ (by
              unfold wasA
              rw [if_neg (fun z => absurd (haw.mpr z) (by exact h_20))]
              exact hC2 t (by omega))
      · refine x_iconst (pc := 23) (v := -1) dX4_enterNow_23 rfl ?_
        refine x_goto (pc := 24) (tgt := 36) dX4_enterNow_24 rfl ?_
        refine k_iast (pc := 36) hK dX4_enterNow_36 (rfl) (by show t < 5; omega) (by decide) ?_
        refine x_iinc (pc := 37) (lv2 := [_, _]) dX4_enterNow_37 (by decide) rfl rfl (nI_1 _) rfl ?_
        refine x_goto (pc := 40) (tgt := 2) dX4_enterNow_40 rfl ?_
        first
          | exact fin _ (by
              unfold wasA
              rw [if_pos (haw.mp (by first | exact h_20 | exact Decidable.not_not.mp h_20))]
              rfl)
          | exact fin _ (by
              unfold wasA
              rw [if_neg (fun z => absurd (haw.mpr z) (by exact h_20))]
              exact hC2 t (by omega))
  refine x_iconst (pc := 0) (v := 0) dX4_enterNow_0 rfl ?_
  refine x_istore_n (pc := 1) (lv2 := [_, _]) dX4_enterNow_1 (by decide) rfl rfl ?_
  exact Lo n 0 κ (by omega) kq.rf (fun x hx => absurd hx (by omega))
theorem k_enterFound {n : Nat} (hK : KO μ b 3 4 plL) (hn : n ≤ 5) (hcnt : κ.1 3 1 = nI n) {rm fd : Nat → Nat} (hrm : RMc κ rm n) (hfd : ∀ t, t < n → κ.2 3 8 t = nI (fd t) - 1 ∧ fd t < 7) : XM Γ zX4_enterFound 1 0 0 [.ref (adO b 3)] (KV μ b κ) (fun x μ2 => ∃ κ2, x = some (.int (nI (mvD rm fd n))) ∧ μ2 = KV μ b κ2 ∧ kq roP κ κ2 ∧ RMc κ2 fd n) := by
  refine XM.of 2 rfl (by decide) (Nat.le_of_ble_eq_true rfl) ?_
  have Lo : ∀ (m t : Nat) (κ2 : KS), t + m = n → kq roP κ κ2 → (∀ x, x < n → κ2.2 3 7 x = nI (if x < t then fd x else rm x) - 1) → WA Γ zX4_enterFound (xrm 1 0 0) 0 0 0 0 (fun x μ2 => ∃ κ2, x = some (.int (nI (mvD rm fd n))) ∧ μ2 = KV μ b κ2 ∧ kq roP κ κ2 ∧ RMc κ2 fd n) 4 [some (.ref (adO b 3)), some (.int (nI (mvD rm fd t))), some (.int (nI t))] [] (KV μ b κ2) := by
    intro m
    induction m with
    | zero =>
      intro t κ2 ht hq h1
      obtain rfl : t = n := by omega
      have ec : κ2.1 3 1 = nI t := (hq 3 1 (fun z => by have := z.2; omega)).1.trans hcnt
      refine x_iload_n (pc := 4) dX4_enterFound_4 rfl ?_
      refine x_aload_n (pc := 5) dX4_enterFound_5 rfl ?_
      refine k_getI (pc := 6) hK dX4_enterFound_6 fk_4_17 (Or.inl rfl) ?_
      refine x_icmp_ge (pc := 9) (tgt := 48) dX4_enterFound_9 rfl (fun h_9 => ?_) (fun h_9 => absurd (by rw [ec]; exact Int32.le_refl _) h_9)
      refine x_iload_n (pc := 48) dX4_enterFound_48 rfl ?_
      refine x_ireturn (pc := 49) dX4_enterFound_49 rfl rfl ?_
      refine ⟨κ2, rfl, rfl, hq, fun x hx => ⟨?_, (hfd x hx).2⟩⟩
      rw [h1 x hx, if_pos hx]
    | succ m ih =>
      intro t κ2 ht hq h1
      have ec : κ2.1 3 1 = nI n := (hq 3 1 (fun z => by have := z.2; omega)).1.trans hcnt
      have e7 := h1 t (by omega)
      rw [if_neg (by omega)] at e7
      have e8 : κ2.2 3 8 t = nI (fd t) - 1 := by rw [(hq 3 8 (fun z => by have := z.2; omega)).2]; exact (hfd t (by omega)).1
      have hst : mvD rm fd (t + 1) = mvD rm fd t + (if fd t = rm t then 0 else 1) := rfl
      have eb := b7 (hrm t (by omega)).2 (hfd t (by omega)).2
      have fin : ∀ c, c = nI (mvD rm fd (t + 1)) → WA Γ zX4_enterFound (xrm 1 0 0) 0 0 0 0 (fun x μ2 => ∃ κ2, x = some (.int (nI (mvD rm fd n))) ∧ μ2 = KV μ b κ2 ∧ kq roP κ κ2 ∧ RMc κ2 fd n) 4 [some (.ref (adO b 3)), some (.int c), some (.int (nI (t + 1)))] [] (KV μ b (kA κ2 3 7 t (κ2.2 3 8 t))) := fun c hc => by
        rw [hc]
        refine ih (t + 1) _ (by omega) (hq.A ⟨rfl, rfl⟩) (fun x hx => ?_)
        rcases Nat.lt_trichotomy x t with q | q | q
        · rw [kA_i (by omega), h1 x hx, if_pos q, if_pos (by omega)]
        · subst q
          rw [kA_s, e8, if_pos (by omega)]
        · rw [kA_i (by omega), h1 x hx, if_neg (by omega), if_neg (by omega)]
      refine x_iload_n (pc := 4) dX4_enterFound_4 rfl ?_
      refine x_aload_n (pc := 5) dX4_enterFound_5 rfl ?_
      refine k_getI (pc := 6) hK dX4_enterFound_6 fk_4_17 (Or.inl rfl) ?_
      refine x_icmp_ge (pc := 9) (tgt := 48) dX4_enterFound_9 rfl (fun h_9 => absurd h_9 (by rw [ec]; exact lit_le t (by omega) (by omega))) (fun h_9 => ?_)
      refine x_aload_n (pc := 12) dX4_enterFound_12 rfl ?_
      refine k_getA (pc := 13) hK dX4_enterFound_13 fk_4_37 (Or.inr ⟨_, rfl⟩) (by decide) ?_
      refine x_iload_n (pc := 16) dX4_enterFound_16 rfl ?_
      refine k_iald (pc := 17) hK dX4_enterFound_17 (rfl) (by show t < 5; omega) (by decide) ?_
      refine x_aload_n (pc := 18) dX4_enterFound_18 rfl ?_
      refine k_getA (pc := 19) hK dX4_enterFound_19 fk_4_40 (Or.inr ⟨_, rfl⟩) (by decide) ?_
      refine x_iload_n (pc := 22) dX4_enterFound_22 rfl ?_
      refine k_iald (pc := 23) hK dX4_enterFound_23 (rfl) (by show t < 5; omega) (by decide) ?_
      refine x_icmp_eq (pc := 24) (tgt := 30) dX4_enterFound_24 rfl (fun h_24 => ?_) (fun h_24 => ?_)
      · refine x_aload_n (pc := 30) dX4_enterFound_30 rfl ?_
        refine k_getA (pc := 31) hK dX4_enterFound_31 fk_4_37 (Or.inr ⟨_, rfl⟩) (by decide) ?_
        refine x_iload_n (pc := 34) dX4_enterFound_34 rfl ?_
        refine x_aload_n (pc := 35) dX4_enterFound_35 rfl ?_
        refine k_getA (pc := 36) hK dX4_enterFound_36 fk_4_40 (Or.inr ⟨_, rfl⟩) (by decide) ?_
        refine x_iload_n (pc := 39) dX4_enterFound_39 rfl ?_
        refine k_iald (pc := 40) hK dX4_enterFound_40 (rfl) (by show t < 5; omega) (by decide) ?_
        refine k_iast (pc := 41) hK dX4_enterFound_41 (rfl) (by show t < 5; omega) (by decide) ?_
        refine x_iinc (pc := 42) (lv2 := [_, _, _]) dX4_enterFound_42 (by decide) rfl rfl (nI_1 _) rfl ?_
        refine x_goto (pc := 45) (tgt := 4) dX4_enterFound_45 rfl ?_
        first
          | exact fin _ (by
              have z := h_24
              rw [e7, e8, eb] at z
              rw [hst, if_pos (by first | exact z.symm | exact (Decidable.not_not.mp z).symm), Nat.add_zero])
          | exact fin _ (by
              have z := h_24
              rw [e7, e8, eb] at z
              rw [hst, if_neg (fun y => z y.symm), ← nI_1])
      · refine x_iinc (pc := 27) (lv2 := [_, _, _]) dX4_enterFound_27 (by decide) rfl rfl (inc1 _) rfl ?_
        refine x_aload_n (pc := 30) dX4_enterFound_30 rfl ?_
        refine k_getA (pc := 31) hK dX4_enterFound_31 fk_4_37 (Or.inr ⟨_, rfl⟩) (by decide) ?_
        refine x_iload_n (pc := 34) dX4_enterFound_34 rfl ?_
        refine x_aload_n (pc := 35) dX4_enterFound_35 rfl ?_
        refine k_getA (pc := 36) hK dX4_enterFound_36 fk_4_40 (Or.inr ⟨_, rfl⟩) (by decide) ?_
        refine x_iload_n (pc := 39) dX4_enterFound_39 rfl ?_
        refine k_iald (pc := 40) hK dX4_enterFound_40 (rfl) (by show t < 5; omega) (by decide) ?_
        refine k_iast (pc := 41) hK dX4_enterFound_41 (rfl) (by show t < 5; omega) (by decide) ?_
        refine x_iinc (pc := 42) (lv2 := [_, _, _]) dX4_enterFound_42 (by decide) rfl rfl (nI_1 _) rfl ?_
        refine x_goto (pc := 45) (tgt := 4) dX4_enterFound_45 rfl ?_
        first
          | exact fin _ (by
              have z := h_24
              rw [e7, e8, eb] at z
              rw [hst, if_pos (by first | exact z.symm | exact (Decidable.not_not.mp z).symm), Nat.add_zero])
          | exact fin _ (by
              have z := h_24
              rw [e7, e8, eb] at z
              rw [hst, if_neg (fun y => z y.symm), ← nI_1])
  refine x_iconst (pc := 0) (v := 0) dX4_enterFound_0 rfl ?_
  refine x_istore_n (pc := 1) (lv2 := [_, _, _]) dX4_enterFound_1 (by decide) rfl rfl ?_
  refine x_iconst (pc := 2) (v := 0) dX4_enterFound_2 rfl ?_
  refine x_istore_n (pc := 3) (lv2 := [_, _, _]) dX4_enterFound_3 (by decide) rfl rfl ?_
  exact Lo n 0 κ (by omega) kq.rf (fun x hx => by rw [if_neg (by omega)]; exact (hrm x hx).1)
theorem k_weekCost {D : PD} {n aw : Nat} (hP : KP μ b (D 0)) (hL : PL κ D n aw) (hC : PC κ D n) (hD : DC κ D) : XM Γ zX4_weekCost 6 0 0 [.ref (adO b 3)] (KV μ b κ) (fun x μ2 => ∃ κ2, x = some (.int (nI (wkD D n aw 7).2.1)) ∧ μ2 = KV μ b κ2 ∧ kq plP κ κ2 ∧ κ2.1 3 9 = nI (wkD D n aw 7).2.2.1 ∧ κ2.1 3 10 = nI (wkD D n aw 7).2.2.2) := by
  refine XM.of 3 rfl (by decide) (Nat.le_of_ble_eq_true rfl) ?_
  have hn := hL.1.1
  have hK := hP.1
  have Lo : ∀ (m d : Nat) (κ2 : KS) (z3 : Option Value), d + m = 7 → kq plP κ κ2 → RMc κ2 (wkD D n aw d).1 n → κ2.1 3 9 = nI (wkD D n aw d).2.2.1 → κ2.1 3 10 = nI (wkD D n aw d).2.2.2 → WA Γ zX4_weekCost (xrm 6 0 0) 0 0 0 0 (fun x μ2 => ∃ κ2, x = some (.int (nI (wkD D n aw 7).2.1)) ∧ μ2 = KV μ b κ2 ∧ kq plP κ κ2 ∧ κ2.1 3 9 = nI (wkD D n aw 7).2.2.1 ∧ κ2.1 3 10 = nI (wkD D n aw 7).2.2.2) 18 [some (.ref (adO b 3)), some (.int (nI (wkD D n aw d).2.1)), some (.int (nI d)), z3] [] (KV μ b κ2) := by
    intro m
    induction m with
    | zero =>
      intro d κ2 z3 hd hq hr h9 h10
      obtain rfl : d = 7 := by omega
      refine x_iload_n (pc := 18) dX4_weekCost_18 rfl ?_
      refine x_bipush (pc := 19) (v := 7) dX4_weekCost_19 rfl ?_
      refine x_icmp_ge (pc := 21) (tgt := 77) dX4_weekCost_21 rfl (fun h_21 => ?_) (fun h_21 => absurd (by decide) h_21)
      refine x_iload_n (pc := 77) dX4_weekCost_77 rfl ?_
      refine x_ireturn (pc := 78) dX4_weekCost_78 rfl rfl ?_
      exact ⟨κ2, rfl, rfl, hq, h9, h10⟩
    | succ m ih =>
      intro d κ2 z3 hd hq hr h9 h10
      have hL2 := hL.kq hq
      have hD2 := hD.kq hq
      have hG := hL.1.2.2.2.2 d (by omega)
      obtain ⟨o1, o2, o3⟩ := wkB_ok (aw := aw) (was := (wkD D n aw d).1) hL.1 hL.2.1 (show d < 7 by omega)
      have hmv := mv_le (wkD D n aw d).1 (brR (wkB D n aw (wkD D n aw d).1 d)) n
      refine x_iload_n (pc := 18) dX4_weekCost_18 rfl ?_
      refine x_bipush (pc := 19) (v := 7) dX4_weekCost_19 rfl ?_
      refine x_icmp_ge (pc := 21) (tgt := 77) dX4_weekCost_21 rfl (fun h_21 => absurd h_21 (lit_le (n := 7) d (by omega) (by omega))) (fun h_21 => ?_)
      refine x_iload_n (pc := 24) dX4_weekCost_24 rfl ?_
      refine x_aload_n (pc := 25) dX4_weekCost_25 rfl ?_
      refine x_aload_n (pc := 26) dX4_weekCost_26 rfl ?_
      refine k_getA (pc := 27) hK dX4_weekCost_27 fk_4_31 (Or.inr ⟨_, rfl⟩) (by decide) ?_
      refine x_iload_n (pc := 30) dX4_weekCost_30 rfl ?_
      refine k_iald (pc := 31) hK dX4_weekCost_31 (rfl) (by show d < 7; omega) (by decide) ?_
      rw [hD2 d (by omega)]
      refine x_iconst (pc := 32) (v := 5) dX4_weekCost_32 rfl ?_
      refine x_callV (pc := 33) (As := [.int _, .int _]) dX4_weekCost_33 mX4_bestFor lk_4_129 hK.2.2.1 (k_bestFor (M := 5) hP hL2 hr hG (by decide) (bsD_ne hn)) rfl rfl (Nat.le_of_ble_eq_true rfl) ⟨by decide, by decide⟩ ⟨Nat.zero_le _, Nat.zero_le _⟩ (fun x μ3 hq3 => ?_)
      obtain ⟨κ3, rfl, rfl, q3, b9, b10, r3, f3⟩ := hq3
      refine x_iadd (pc := 36) dX4_weekCost_36 ?_
      rw [nI_add]
      refine x_istore_n (pc := 37) (lv2 := [_, _, _, _]) dX4_weekCost_37 (by decide) rfl rfl ?_
      refine x_aload_n (pc := 38) dX4_weekCost_38 rfl ?_
      have hL3 := hL2.kq q3
      refine x_callV (pc := 39) (As := []) dX4_weekCost_39 mX4_enterFound lk_4_132 hK.2.2.1 (k_enterFound hK hn hL3.2.2.1 r3 (fun t ht => ⟨f3 t ht, o2 t ht⟩)) rfl rfl (Nat.le_of_ble_eq_true rfl) ⟨by decide, by decide⟩ ⟨Nat.zero_le _, Nat.zero_le _⟩ (fun x μ4 hq4 => ?_)
      obtain ⟨κ4, rfl, rfl, q4, r4⟩ := hq4
      have c9 : κ4.1 3 9 = nI (wkD D n aw d).2.2.1 := by rw [(q4 3 9 (fun z => by have := z.2; omega)).1, b9, h9]
      have c10 : κ4.1 3 10 = nI (wkD D n aw d).2.2.2 := by rw [(q4 3 10 (fun z => by have := z.2; omega)).1, b10, h10]
      refine x_istore_n (pc := 42) (lv2 := [_, _, _, _]) dX4_weekCost_42 (by decide) rfl rfl ?_
      refine x_aload_n (pc := 43) dX4_weekCost_43 rfl ?_
      refine x_dup (pc := 44) dX4_weekCost_44 rfl ?_
      refine k_getI (pc := 45) hK dX4_weekCost_45 fk_4_43 (Or.inl rfl) ?_
      refine x_iload_n (pc := 48) dX4_weekCost_48 rfl ?_
      refine x_iadd (pc := 49) dX4_weekCost_49 ?_
      refine k_putI (pc := 50) hK dX4_weekCost_50 fk_4_43 (Or.inl rfl) (Or.inl rfl) ?_
      refine x_aload_n (pc := 53) dX4_weekCost_53 rfl ?_
      refine x_dup (pc := 54) dX4_weekCost_54 rfl ?_
      refine k_getI (pc := 55) hK dX4_weekCost_55 fk_4_46 (Or.inl rfl) ?_
      refine x_iload_n (pc := 58) dX4_weekCost_58 rfl ?_
      refine x_if_le (pc := 59) (tgt := 66) dX4_weekCost_59 rfl (fun h_59 => ?_) (fun h_59 => ?_)
      · refine x_iconst (pc := 66) (v := 0) dX4_weekCost_66 rfl ?_
        refine x_iadd (pc := 67) dX4_weekCost_67 ?_
        refine k_putI (pc := 68) hK dX4_weekCost_68 fk_4_46 (Or.inl rfl) (Or.inl rfl) ?_
        refine x_iinc (pc := 71) (lv2 := [_, _, _, _]) dX4_weekCost_71 (by decide) rfl rfl (nI_1 _) rfl ?_
        refine x_goto (pc := 74) (tgt := 18) dX4_weekCost_74 rfl ?_
        refine ih (d + 1) _ _ (by omega) ?_ ?_ ?_ ?_
        · refine kq.I (kq.I (hq.trans (q3.trans (ro_pl q4))) ?_) ?_
          · exact Or.inl ⟨rfl, Or.inr (Or.inr (Or.inl rfl))⟩
          · exact Or.inl ⟨rfl, Or.inr (Or.inr (Or.inr (Or.inl rfl)))⟩
        · exact r4
        · rw [kI_n (Or.inr (by decide)), kI_s, c9, nI_add]
          rfl
        · rw [kI_s, kI_n (Or.inr (by decide)), c10]
          show _ = nI ((wkD D n aw d).2.2.2 + (if 0 < mvD (wkD D n aw d).1 (brR (wkB D n aw (wkD D n aw d).1 d)) n then 1 else 0))
          first
            | (rw [if_neg (fun z => by
                have y := h_59
                rw [show (0 : Int32) = nI 0 from rfl] at y
                have y2 := (nI_leI (by show mvD (wkD D n aw d).1 (brR (wkB D n aw (wkD D n aw d).1 d)) n < _; omega) (by omega)).mp y
                have : mvD (wkD D n aw d).1 (brR (wkB D n aw (wkD D n aw d).1 d)) n ≤ 0 := y2
                omega)]
               exact Int32.add_zero _)
            | (rw [if_pos (by
                have y := h_59
                rw [show (0 : Int32) = nI 0 from rfl] at y
                rcases Nat.eq_zero_or_pos (mvD (wkD D n aw d).1 (brR (wkB D n aw (wkD D n aw d).1 d)) n) with q | q
                · exact absurd (show nI (mvD (wkD D n aw d).1 (brR (wkB D n aw (wkD D n aw d).1 d)) n) ≤ nI 0 by rw [q]; exact Int32.le_refl _) (by exact y)
                · exact q), ← nI_1])
      · refine x_iconst (pc := 62) (v := 1) dX4_weekCost_62 rfl ?_
        refine x_goto (pc := 63) (tgt := 67) dX4_weekCost_63 rfl ?_
        refine x_iadd (pc := 67) dX4_weekCost_67 ?_
        refine k_putI (pc := 68) hK dX4_weekCost_68 fk_4_46 (Or.inl rfl) (Or.inl rfl) ?_
        refine x_iinc (pc := 71) (lv2 := [_, _, _, _]) dX4_weekCost_71 (by decide) rfl rfl (nI_1 _) rfl ?_
        refine x_goto (pc := 74) (tgt := 18) dX4_weekCost_74 rfl ?_
        refine ih (d + 1) _ _ (by omega) ?_ ?_ ?_ ?_
        · refine kq.I (kq.I (hq.trans (q3.trans (ro_pl q4))) ?_) ?_
          · exact Or.inl ⟨rfl, Or.inr (Or.inr (Or.inl rfl))⟩
          · exact Or.inl ⟨rfl, Or.inr (Or.inr (Or.inr (Or.inl rfl)))⟩
        · exact r4
        · rw [kI_n (Or.inr (by decide)), kI_s, c9, nI_add]
          rfl
        · rw [kI_s, kI_n (Or.inr (by decide)), c10]
          show _ = nI ((wkD D n aw d).2.2.2 + (if 0 < mvD (wkD D n aw d).1 (brR (wkB D n aw (wkD D n aw d).1 d)) n then 1 else 0))
          first
            | (rw [if_neg (fun z => by
                have y := h_59
                rw [show (0 : Int32) = nI 0 from rfl] at y
                have y2 := (nI_leI (by show mvD (wkD D n aw d).1 (brR (wkB D n aw (wkD D n aw d).1 d)) n < _; omega) (by omega)).mp y
                have : mvD (wkD D n aw d).1 (brR (wkB D n aw (wkD D n aw d).1 d)) n ≤ 0 := y2
                omega)]
               exact Int32.add_zero _)
            | (rw [if_pos (by
                have y := h_59
                rw [show (0 : Int32) = nI 0 from rfl] at y
                rcases Nat.eq_zero_or_pos (mvD (wkD D n aw d).1 (brR (wkB D n aw (wkD D n aw d).1 d)) n) with q | q
                · exact absurd (show nI (mvD (wkD D n aw d).1 (brR (wkB D n aw (wkD D n aw d).1 d)) n) ≤ nI 0 by rw [q]; exact Int32.le_refl _) (by exact y)
                · exact q), ← nI_1])
  refine x_aload_n (pc := 0) dX4_weekCost_0 rfl ?_
  refine x_callV (pc := 1) (As := []) dX4_weekCost_1 mX4_enterNow lk_4_74 hK.2.2.1 (k_enterNow hP hL hC) rfl rfl (Nat.le_of_ble_eq_true rfl) ⟨by decide, by decide⟩ ⟨Nat.zero_le _, Nat.zero_le _⟩ (fun x μ3 hq3 => ?_)
  obtain ⟨κ3, rfl, rfl, q3, r3⟩ := hq3
  refine x_aload_n (pc := 4) dX4_weekCost_4 rfl ?_
  refine x_iconst (pc := 5) (v := 0) dX4_weekCost_5 rfl ?_
  refine k_putI (pc := 6) hK dX4_weekCost_6 fk_4_43 (Or.inl rfl) (Or.inl rfl) ?_
  refine x_aload_n (pc := 9) dX4_weekCost_9 rfl ?_
  refine x_iconst (pc := 10) (v := 0) dX4_weekCost_10 rfl ?_
  refine k_putI (pc := 11) hK dX4_weekCost_11 fk_4_46 (Or.inl rfl) (Or.inl rfl) ?_
  refine x_iconst (pc := 14) (v := 0) dX4_weekCost_14 rfl ?_
  refine x_istore_n (pc := 15) (lv2 := [_, _, _, _]) dX4_weekCost_15 (by decide) rfl rfl ?_
  refine x_iconst (pc := 16) (v := 0) dX4_weekCost_16 rfl ?_
  refine x_istore_n (pc := 17) (lv2 := [_, _, _, _]) dX4_weekCost_17 (by decide) rfl rfl ?_
  refine Lo 7 0 _ _ (by omega) (kq.I (kq.I (ro_pl q3) ?_) ?_) r3 ?_ ?_
  · exact Or.inl ⟨rfl, Or.inr (Or.inr (Or.inl rfl))⟩
  · exact Or.inl ⟨rfl, Or.inr (Or.inr (Or.inr (Or.inl rfl)))⟩
  · rw [kI_n (Or.inr (by decide)), kI_s]
    rfl
  · rw [kI_s]
    rfl
theorem k_onceCost {D : PD} {n : Nat} (hP : KP μ b (D 0)) (hL : PL κ D n 9) (hC : PC κ D n) (hD : DC κ D) : XM Γ zX4_onceCost 5 0 0 [.ref (adO b 3)] (KV μ b κ) (fun x μ2 => ∃ κ2, x = some (.int (nI (brC (onD D n)))) ∧ μ2 = KV μ b κ2 ∧ kq plP κ κ2 ∧ ∀ t, t < n → κ2.2 3 8 t = nI (brR (onD D n) t) - 1) := by
  refine XM.of 1 rfl (by decide) (Nat.le_of_ble_eq_true rfl) ?_
  have hn := hL.1.1
  have hK := hP.1
  obtain ⟨r, hr⟩ : ∃ r, onD D n = some r := by
    cases h : onD D n with
    | none => exact absurd h (bsD_ne hn)
    | some r => exact ⟨r, rfl⟩
  have Lo : ∀ (m d : Nat) (κ2 : KS), d + m = 7 → kq plP κ κ2 → RMc κ2 (wasA D 9) n → PRc κ2 (clD D (dyD D d) (wasA D 9) 9 true) n → WA Γ zX4_onceCost (xrm 5 0 0) 0 0 0 0 (fun x μ2 => ∃ κ2, x = some (.int (nI (brC (onD D n)))) ∧ μ2 = KV μ b κ2 ∧ kq plP κ κ2 ∧ ∀ t, t < n → κ2.2 3 8 t = nI (brR (onD D n) t) - 1) 14 [some (.ref (adO b 3)), some (.int (nI d))] [] (KV μ b κ2) := by
    intro m
    induction m with
    | zero =>
      intro d κ2 hd hq hrm hpr
      obtain rfl : d = 7 := by omega
      have hL2 := hL.kq hq
      refine x_iload_n (pc := 14) dX4_onceCost_14 rfl ?_
      refine x_bipush (pc := 15) (v := 7) dX4_onceCost_15 rfl ?_
      refine x_icmp_ge (pc := 17) (tgt := 36) dX4_onceCost_17 rfl (fun h_17 => ?_) (fun h_17 => absurd (by decide) h_17)
      refine x_aload_n (pc := 36) dX4_onceCost_36 rfl ?_
      refine x_iconst (pc := 37) (v := 5) dX4_onceCost_37 rfl ?_
      refine x_callV (pc := 38) (As := [.int _]) dX4_onceCost_38 mX4_search lk_4_123 hK.2.2.1 (k_search (M := 5) hP hn (cl_ok hL.1 hL.2.1 (dy_ok hL.1 7 (by omega)) (by rw [dy_len]; omega)) hpr hrm hL2.2.2.1 (by decide) hr) rfl rfl (Nat.le_of_ble_eq_true rfl) ⟨by decide, by decide⟩ ⟨Nat.zero_le _, Nat.zero_le _⟩ (fun x μ3 hq3 => ?_)
      obtain ⟨κ3, rfl, rfl, q3, f3⟩ := hq3
      refine x_ireturn (pc := 41) dX4_onceCost_41 rfl rfl ?_
      exact ⟨κ3, by rw [hr]; rfl, rfl, hq.trans (se_pl q3), fun t ht => by rw [f3 t ht, hr]; rfl⟩
    | succ m ih =>
      intro d κ2 hd hq hrm hpr
      have hL2 := hL.kq hq
      have hD2 := hD.kq hq
      refine x_iload_n (pc := 14) dX4_onceCost_14 rfl ?_
      refine x_bipush (pc := 15) (v := 7) dX4_onceCost_15 rfl ?_
      refine x_icmp_ge (pc := 17) (tgt := 36) dX4_onceCost_17 rfl (fun h_17 => absurd h_17 (lit_le (n := 7) d (by omega) (by omega))) (fun h_17 => ?_)
      refine x_aload_n (pc := 20) dX4_onceCost_20 rfl ?_
      refine x_aload_n (pc := 21) dX4_onceCost_21 rfl ?_
      refine k_getA (pc := 22) hK dX4_onceCost_22 fk_4_31 (Or.inr ⟨_, rfl⟩) (by decide) ?_
      refine x_iload_n (pc := 25) dX4_onceCost_25 rfl ?_
      refine k_iald (pc := 26) hK dX4_onceCost_26 (rfl) (by show d < 7; omega) (by decide) ?_
      rw [hD2 d (by omega)]
      refine x_callV (pc := 27) (As := [.int _]) dX4_onceCost_27 mX4_priceDay lk_4_116 hK.2.2.1 (k_pD hP hL2 (hL.1.2.2.2.2 d (by omega)) hpr) rfl rfl (Nat.le_of_ble_eq_true rfl) ⟨by decide, by decide⟩ ⟨Nat.zero_le _, Nat.zero_le _⟩ (fun x μ3 hq3 => ?_)
      obtain ⟨κ3, rfl, rfl, q3, p3⟩ := hq3
      refine x_iinc (pc := 30) (lv2 := [_, _]) dX4_onceCost_30 (by decide) rfl rfl (nI_1 _) rfl ?_
      refine x_goto (pc := 33) (tgt := 14) dX4_onceCost_33 rfl ?_
      exact ih (d + 1) κ3 (by omega) (hq.trans (pr_pl q3)) (hrm.kq q3 (fun z => by have := z.1; omega)) p3
  refine x_aload_n (pc := 0) dX4_onceCost_0 rfl ?_
  refine x_callV (pc := 1) (As := []) dX4_onceCost_1 mX4_enterNow lk_4_74 hK.2.2.1 (k_enterNow hP hL hC) rfl rfl (Nat.le_of_ble_eq_true rfl) ⟨by decide, by decide⟩ ⟨Nat.zero_le _, Nat.zero_le _⟩ (fun x μ3 hq3 => ?_)
  obtain ⟨κ3, rfl, rfl, q3, r3⟩ := hq3
  have hL3 := hL.kq (ro_pl q3)
  refine x_aload_n (pc := 4) dX4_onceCost_4 rfl ?_
  refine x_callV (pc := 5) (As := []) dX4_onceCost_5 mX4_priceNothing lk_4_113 hK.2.2.1 (k_pN hP hL3 (wasA D 9)) rfl rfl (Nat.le_of_ble_eq_true rfl) ⟨by decide, by decide⟩ ⟨Nat.zero_le _, Nat.zero_le _⟩ (fun x μ4 hq4 => ?_)
  obtain ⟨κ4, rfl, rfl, q4, p4⟩ := hq4
  have hL4 := hL3.kq (pr_pl q4)
  have r4 := r3.kq q4 (fun z => by have := z.1; omega)
  refine x_aload_n (pc := 8) dX4_onceCost_8 rfl ?_
  refine x_callV (pc := 9) (As := []) dX4_onceCost_9 mX4_priceMoves lk_4_126 hK.2.2.1 (k_pM hP hL4 p4 r4) rfl rfl (Nat.le_of_ble_eq_true rfl) ⟨by decide, by decide⟩ ⟨Nat.zero_le _, Nat.zero_le _⟩ (fun x μ5 hq5 => ?_)
  obtain ⟨κ5, rfl, rfl, q5, p5⟩ := hq5
  refine x_iconst (pc := 12) (v := 0) dX4_onceCost_12 rfl ?_
  refine x_istore_n (pc := 13) (lv2 := [_, _]) dX4_onceCost_13 (by decide) rfl rfl ?_
  exact Lo 7 0 κ5 (by omega) ((ro_pl q3).trans ((pr_pl q4).trans (pr_pl q5))) (r4.kq q5 (fun z => by have := z.1; omega)) p5
end M83
