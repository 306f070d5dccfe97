/-! the class: dearest, give -/
def amC (f : Nat → Nat) : Nat → Nat × Nat
  | 0 => (0, 1000000)
  | j + 1 => if f j < (amC f j).2 then (j, f j) else amC f j
theorem amC_am {f : Nat → Nat} (h : ∀ k, k < 4 → f k < 1000000) : ∀ j, j < 4 → amC f (j + 1) = am f j := by
  intro j
  induction j with
  | zero =>
    intro _
    show (if f 0 < 1000000 then (0, f 0) else (0, 1000000)) = (0, f 0)
    rw [if_pos (h 0 (by decide))]
  | succ j ih =>
    intro hj
    have e := ih (by omega)
    show (if f (j + 1) < (amC f (j + 1)).2 then (j + 1, f (j + 1)) else amC f (j + 1)) = if f (j + 1) < (am f j).2 then (j + 1, f (j + 1)) else am f j
    rw [e]
theorem amC_le {f : Nat → Nat} (h : ∀ k, k < 4 → f k < 1000000) : ∀ j, j ≤ 4 → (amC f j).2 ≤ 1000000 := by
  intro j
  induction j with
  | zero => exact fun _ => Nat.le_refl _
  | succ j ih =>
    intro hj
    have := ih (by omega)
    have := h j (by omega)
    rw [amC]
    split
    · show f j ≤ _
      omega
    · assumption
section M999991
variable {Γ : Gm} {μ : Mem} {b : Kb} {κ κ2 κ3 : KS} {D : PD} {kp : Bool} {n r nt : Nat} {tn : Nat → Nat}
/-- the planner goes on, its counts and prices apart -/
def WP (κ2 κ3 : KS) (D : PD) (n : Nat) : Prop := kq scP κ2 κ3 ∧ κ3.2 3 6 = κ2.2 3 6 ∧ PC κ3 D n
theorem PL_aw {aw t : Nat} (h : PL κ D n aw) (ht : t < 5) : PL (kI κ 3 2 (nI t)) D n t := by
  obtain ⟨h1, h2, h3, h4, h5, h6⟩ := h
  refine ⟨h1, h2, by rw [kI_n (Or.inr (by decide))]; exact h3, ?_, fun i hi => ⟨?_, ?_⟩, fun s hs => by rw [kI_2]; exact h6 s hs⟩
  · unfold awI
    rw [if_pos ht]
    exact kI_s
  · have := (h5 i hi).1
    unfold TH at this ⊢
    rw [kI_n (Or.inl (by omega)), kI_n (Or.inl (by omega)), kI_n (Or.inl (by omega))]
    exact this
  · have := (h5 i hi).2
    unfold LN at this ⊢
    rw [kI_2, kI_n (Or.inl (by omega))]
    exact this
theorem k_dearest (z : Int32) (hC : CX μ b κ D kp n r nt tn) : XM Γ zX11_dearest 8 0 0 [.ref (adO b 0), .int z] (KV μ b κ) (PP μ b κ (.int (deV D n z))) := by
  refine XM.of 4 rfl (by decide) (Nat.le_of_ble_eq_true rfl) ?_
  have hI := hC.1
  obtain ⟨-, ⟨c1, c2, c3, c4, c5, c6, c7⟩, ⟨c8, c9⟩, hh, -, ⟨p1, p2⟩, -, hsh, -⟩ := hI
  have hn5 : n ≤ 5 := hC.2.1.1.1
  have h14 : κ.1 1 4 = nI n := hC.2.1.2.1
  have h60 := hC.2.2.2.2.2.2
  have hr6 : r < 6 := by have := hC.2.2.2.1; omega
  have hv : ¬ (0 ≤ z ∧ z < 2) → deV D n z = -2 := fun h => by
    unfold deV
    rw [if_neg (fun q => h ⟨q.1, (i_lt 1 (by decide)).mpr q.2⟩)]
  have hw : (0 ≤ z ∧ z < 2) → deV D n z = (if z = 0 then nI (am (deF D n) 3).1 else nI (am (deF D n) 3).2) := fun h => by
    unfold deV
    rw [if_pos ⟨h.1, (i_lt 1 (by decide)).mp h.2⟩]
  have hok : okD D n := hC.2.1.1
  have hfl : ∀ k, k < 4 → deF D n k < 1000000 := fun k hk => by
    have := deF_lt hok hC.2.2.1 hk
    omega
  refine x_iload_n (pc := 0) dX11_dearest_0 rfl ?_
  refine x_iconst (pc := 1) (v := 2) dX11_dearest_1 rfl ?_
  refine x_callS (pc := 2) (As := [.int _, .int _]) dX11_dearest_2 mX11_isBelow lk_11_104 (k_isBelow _ _) rfl rfl (Nat.le_of_ble_eq_true rfl) ⟨by decide, by decide⟩ ⟨Nat.zero_le _, Nat.zero_le _⟩ (k_rt ?_)
  refine x_if_ne (pc := 5) (tgt := 11) dX11_dearest_5 rfl (fun h_5 => ?_) (fun h_5 => ?_)
  · have hw := hw (bi_n0 h_5)
    refine x_start (pc := 11) hC rfl dX11_dearest_11 dX11_dearest_12 dX11_dearest_15 dX11_dearest_16 dX11_dearest_19 dX11_dearest_20 dX11_dearest_23 rfl ⟨by decide, by decide⟩ ⟨by decide, by decide⟩ (fun κ2 hS hP hI3 => ?_)
    obtain ⟨-, ⟨e1, e2, e3, e4, e5, e6, e7⟩, ⟨e8, e9⟩, e10, -, -, -, e11, -⟩ := hI3
    obtain ⟨s1, s2, s3, s4, s5, s6, s7⟩ := id hS
    have p3 := hP.1
    have q1 := e10.1
    have hcnt : κ2.1 1 4 = nI n := ((s1 1 4 (by unfold stP tP; omega)).1).trans h14
    have L : ∀ (m j : Nat), j + m = 4 → ∀ (κ' : KS) (z5 : Option Value), kq scP κ2 κ' → κ'.2 3 6 = κ2.2 3 6 → PL κ' D n 9 → PC κ' D n → WA Γ zX11_dearest (xrm 8 0 0) 0 0 0 0 (PP μ b κ (.int (deV D n z))) 34 [some (.ref (adO b 0)), some (.int z), some (.int (nI (amC (deF D n) j).1)), some (.int (nI (amC (deF D n) j).2)), some (.int (nI j)), z5] [] (KV (thR3 μ b) b κ') := by
      intro m
      induction m with
      | zero =>
        intro j hj κ' z5 w1 w2 w3 w4
        obtain rfl : j = 4 := by omega
        refine x_iload (pc := 34) dX11_dearest_34 rfl ?_
        refine x_iconst (pc := 36) (v := 4) dX11_dearest_36 rfl ?_
        refine x_icmp_ge (pc := 37) (tgt := 83) dX11_dearest_37 rfl (fun h_37 => ?_) (fun h_37 => absurd (by decide) h_37)
        refine x_iload_n (pc := 83) dX11_dearest_83 rfl ?_
        refine x_if_ne (pc := 84) (tgt := 91) dX11_dearest_84 rfl (fun h_84 => ?_) (fun h_84 => ?_)
        · refine x_iload_n (pc := 91) dX11_dearest_91 rfl ?_
          refine x_ireturn (pc := 92) dX11_dearest_92 rfl rfl ?_
          refine PP_g hr6 hS w1 (by rw [w2]; exact s7) (congrArg Value.int ?_)
          rw [amC_am hfl 3 (by decide)]
          first
            | exact hw.trans (if_pos h_84)
            | exact hw.trans (if_neg h_84)
        · refine x_iload_n (pc := 87) dX11_dearest_87 rfl ?_
          refine x_goto (pc := 88) (tgt := 92) dX11_dearest_88 rfl ?_
          refine x_ireturn (pc := 92) dX11_dearest_92 rfl rfl ?_
          refine PP_g hr6 hS w1 (by rw [w2]; exact s7) (congrArg Value.int ?_)
          rw [amC_am hfl 3 (by decide)]
          first
            | exact hw.trans (if_pos h_84)
            | exact hw.trans (if_neg h_84)
      | succ m ih =>
        intro j hj κ' z5 w1 w2 w3 w4
        have hj4 : j < 4 := by omega
        have eA : amC (deF D n) (j + 1) = if deF D n j < (amC (deF D n) j).2 then (j, deF D n j) else amC (deF D n) j := rfl
        have hf1 := hfl j hj4
        have hf2 := amC_le hfl j (by omega)
        have hdays : ∀ d, d < 7 → D 6 d < 16 ∧ κ'.2 1 2 d = nI (D 6 d) := fun d hd => ⟨hok.2.2.2.2 d hd, by
          rw [(w1 1 2 (by unfold scP; omega)).2, (s1 1 2 (by unfold stP tP; omega)).2]
          exact hC.2.1.2.2.2.2.1 d hd⟩
        refine x_iload (pc := 34) dX11_dearest_34 rfl ?_
        refine x_iconst (pc := 36) (v := 4) dX11_dearest_36 rfl ?_
        refine x_icmp_ge (pc := 37) (tgt := 83) dX11_dearest_37 rfl (fun h_37 => absurd h_37 (lit_le (n := 4) j (by omega) (by decide))) (fun h_37 => ?_)
        refine x_aload_n (pc := 40) dX11_dearest_40 rfl ?_
        refine k_getR (pc := 41) e1 dX11_dearest_41 fk_11_52 (Or.inl ⟨_, rfl⟩) (e4) ?_
        refine x_aload_n (pc := 44) dX11_dearest_44 rfl ?_
        refine k_getR (pc := 45) e1 dX11_dearest_45 fk_11_10 (Or.inl ⟨_, rfl⟩) (e2) ?_
        refine k_getA (pc := 48) q1 dX11_dearest_48 fk_11_87 (Or.inr ⟨_, rfl⟩) (by decide) ?_
        refine x_iload (pc := 51) dX11_dearest_51 rfl ?_
        refine x_callV (pc := 53) (As := [.ref _, .int _]) dX11_dearest_53 mX4_leaveOut lk_11_178 p3.2.2.1 (k_leaveOut (D := D) p3 hj4 q1 (by decide) rfl hdays) rfl rfl (Nat.le_of_ble_eq_true rfl) ⟨by decide, by decide⟩ ⟨Nat.zero_le _, Nat.zero_le _⟩ (fun x μ3 hr => ?_)
        obtain ⟨κ3, rfl, rfl, q3', q4'⟩ := hr
        dsimp only [Option.toList, List.cons_append, List.nil_append]
        have g2 : PL κ3 D n 9 := PL_kq w3 q3' (by intro k hk; unfold daP; omega) (by intro t k hk; unfold daP; omega)
        have g2' : PL κ3 (dlD D j) n 9 := PL_6 g2 (fun d hd => (rm_a (D 6 d) (hok.2.2.2.2 d hd) j hj4).2)
        have g3 : PC κ3 D n := PC_kq w4 q3' (by intro t; unfold daP; omega)
        have g3' : PC κ3 (dlD D j) n := g3
        have g4 : DC κ3 (dlD D j) := fun d hd => by
          have e6 : (dlD D j) 6 d = rmG (D 6 d) j := by
            unfold dlD
            exact up_s
          rw [e6]
          exact q4' d hd
        have hP' : KP (thR3 μ b) b ((dlD D j) 0) := by
          have e : (dlD D j) 0 = D 0 := up_n (by decide)
          rw [e]
          exact hP
        refine x_aload_n (pc := 56) dX11_dearest_56 rfl ?_
        refine k_getR (pc := 57) e1 dX11_dearest_57 fk_11_52 (Or.inl ⟨_, rfl⟩) (e4) ?_
        refine x_callV (pc := 60) (As := []) dX11_dearest_60 mX4_weekCost lk_11_168 p3.2.2.1 (k_weekCost (D := dlD D j) hP' g2' g3' g4) rfl rfl (Nat.le_of_ble_eq_true rfl) ⟨by decide, by decide⟩ ⟨Nat.zero_le _, Nat.zero_le _⟩ (fun x μ3 hr => ?_)
        obtain ⟨κ4, rfl, rfl, q5', -, -⟩ := hr
        dsimp only [Option.toList, List.cons_append, List.nil_append]
        obtain ⟨y1, y2⟩ := scP_pl q5'
        have v1 : kq scP κ2 κ4 := w1.trans ((q3'.mono (fun a k z => Or.inl z.1)).trans y1)
        have v2 : κ4.2 3 6 = κ2.2 3 6 := by rw [y2, (q3' 3 6 (by unfold daP; omega)).2, w2]
        have v3 : PL κ4 D n 9 := PL_kq g2 q5' (by intro k hk; unfold plP; omega) (by intro t k hk; unfold plP; omega)
        have v4 : PC κ4 D n := g3.kq q5'
        have ih2 := ih (j + 1) (by omega) κ4 (some (.int (nI (deF D n j)))) v1 v2 v3 v4
        rw [eA] at ih2
        change WA Γ zX11_dearest (xrm 8 0 0) 0 0 _ _ _ _ _ [.int (nI (deF D n j))] _
        refine x_istore (pc := 63) (lv2 := [_, _, _, _, _, _]) dX11_dearest_63 (by decide) rfl rfl ?_
        refine x_iload (pc := 65) dX11_dearest_65 rfl ?_
        refine x_iload_n (pc := 67) dX11_dearest_67 rfl ?_
        refine x_icmp_ge (pc := 68) (tgt := 77) dX11_dearest_68 rfl (fun h_68 => ?_) (fun h_68 => ?_)
        · refine x_iinc (pc := 77) (lv2 := [_, _, _, _, _, _]) dX11_dearest_77 (by decide) rfl rfl (nI_1 _) rfl ?_
          refine x_goto (pc := 80) (tgt := 34) dX11_dearest_80 rfl ?_
          first
            | (rw [if_neg (fun q => absurd q (Nat.not_lt.mpr ((nI_leI (by omega) (by omega)).mp h_68)))] at ih2
               exact ih2)
            | (rw [if_pos (Nat.not_le.mp (fun q => h_68 ((nI_leI (by omega) (by omega)).mpr q)))] at ih2
               exact ih2)
        · refine x_iload (pc := 71) dX11_dearest_71 rfl ?_
          refine x_istore_n (pc := 73) (lv2 := [_, _, _, _, _, _]) dX11_dearest_73 (by decide) rfl rfl ?_
          refine x_iload (pc := 74) dX11_dearest_74 rfl ?_
          refine x_istore_n (pc := 76) (lv2 := [_, _, _, _, _, _]) dX11_dearest_76 (by decide) rfl rfl ?_
          refine x_iinc (pc := 77) (lv2 := [_, _, _, _, _, _]) dX11_dearest_77 (by decide) rfl rfl (nI_1 _) rfl ?_
          refine x_goto (pc := 80) (tgt := 34) dX11_dearest_80 rfl ?_
          first
            | (rw [if_neg (fun q => absurd q (Nat.not_lt.mpr ((nI_leI (by omega) (by omega)).mp h_68)))] at ih2
               exact ih2)
            | (rw [if_pos (Nat.not_le.mp (fun q => h_68 ((nI_leI (by omega) (by omega)).mpr q)))] at ih2
               exact ih2)
    refine x_iconst (pc := 26) (v := 0) dX11_dearest_26 rfl ?_
    refine x_istore_n (pc := 27) (lv2 := [_, _, _, _, _, _]) dX11_dearest_27 (by decide) rfl rfl ?_
    refine x_ldc (pc := 28) dX11_dearest_28 kc_11_177 ?_
    refine x_istore_n (pc := 30) (lv2 := [_, _, _, _, _, _]) dX11_dearest_30 (by decide) rfl rfl ?_
    refine x_iconst (pc := 31) (v := 0) dX11_dearest_31 rfl ?_
    refine x_istore (pc := 32) (lv2 := [_, _, _, _, _, _]) dX11_dearest_32 (by decide) rfl rfl ?_
    exact L 4 0 rfl κ2 none kq.rf rfl s2 s3
  · refine x_bipush (pc := 8) (v := -2) dX11_dearest_8 rfl ?_
    refine x_ireturn (pc := 10) dX11_dearest_10 rfl rfl ?_
    exact PP_e (congrArg Value.int (hv (bi_0.mp h_5))) h60
end M999991
