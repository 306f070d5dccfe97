/-! the class: questions to the planner: day, best, once, week, drawn -/
def scP : Nat → Nat → Prop := fun a k => a = 3 ∨ a = 4 ∨ (15 ≤ a ∧ 6 ≤ k) ∨ (9 ≤ a ∧ a < 15 ∧ (k = 2 ∨ k = 3))
def PP (μ : Mem) (b : Kb) (κ : KS) (v : Value) : Option Value → Mem → Prop := fun x M => ∃ (μ2 : Mem) (κ2 : KS), x = some v ∧ M = KV μ2 b κ2 ∧ (μ2 = μ ∨ μ2 = thR3 μ b) ∧ kq scP κ κ2 ∧ κ2.2 3 6 0 = 0
theorem i_lt {x c : Int32} (d : Int32) (h : c.toInt = d.toInt + 1) : x < c ↔ x ≤ d := by
  rw [Int32.lt_iff_toInt_lt, Int32.le_iff_toInt_le]
  omega
theorem lt_sub1 {x : Int32} {n : Nat} (hn : n ≤ 5) : x < nI n ↔ x ≤ nI n - 1 := i_lt _ (by
  rcases (by omega : n = 0 ∨ n = 1 ∨ n = 2 ∨ n = 3 ∨ n = 4 ∨ n = 5) with rfl | rfl | rfl | rfl | rfl | rfl <;> decide)
section M99999
variable {Γ : Gm} {μ : Mem} {b : Kb} {κ κ2 κ3 : KS} {D : PD} {kp : Bool} {n r nt : Nat} {tn : Nat → Nat}
theorem PP_e {v v' : Value} (e : v = v') (h : κ.2 3 6 0 = 0) : PP μ b κ v (some v') (KV μ b κ) := ⟨μ, κ, by rw [e], rfl, Or.inl rfl, kq.rf, h⟩
theorem FO_any : FO μ b κ μ b κ2 := fun q _ h2 h3 => by
  refine ⟨⟨rfl, ?_, rfl, rfl, ?_, rfl⟩, h2, h3⟩
  · funext k
    show (if ivO b q < 25 then κ2.1 (ivO b q) k else mI μ q k) = if ivO b q < 25 then κ.1 (ivO b q) k else mI μ q k
    rw [if_neg (by omega), if_neg (by omega)]
  · funext k
    show (if (ivR b q).1 < 25 then κ2.2 (ivR b q).1 (ivR b q).2 k else mA μ q k) = if (ivR b q).1 < 25 then κ.2 (ivR b q).1 (ivR b q).2 k else mA μ q k
    rw [if_neg (by omega), if_neg (by omega)]
theorem scP_st (hr : r < 6) (h : kq (stP (9 + r)) κ κ2) : kq scP κ κ2 := h.mono (fun a k z => by
  rcases z with z | z | z
  · exact Or.inl z
  · exact Or.inr (Or.inr (Or.inl z))
  · obtain ⟨z1, z2⟩ := z
    exact Or.inr (Or.inr (Or.inr ⟨by omega, by omega, z2⟩)))
theorem PP_g {v v' : Value} (hr : r < 6) (hS : SD κ κ2 D n (9 + r)) (q : kq scP κ2 κ3) (h60 : κ3.2 3 6 0 = 0) (e : v = v') : PP μ b κ v (some v') (KV (thR3 μ b) b κ3) := ⟨thR3 μ b, κ3, by rw [e], rfl, Or.inr rfl, (scP_st hr hS.1).trans q, h60⟩
theorem scP_pl (h : kq plP κ2 κ3) : kq scP κ2 κ3 ∧ κ3.2 3 6 = κ2.2 3 6 := ⟨h.mono (fun a k z => by
  rcases z with z | z
  · exact Or.inl z.1
  · exact Or.inr (Or.inr (Or.inl ⟨z.1, by omega⟩))), (h 3 6 (by unfold plP; omega)).2⟩
theorem PP_s {v v' : Value} (hr : r < 6) (hS : SD κ κ2 D n (9 + r)) (q : kq plP κ2 κ3) (e : v = v') : PP μ b κ v (some v') (KV (thR3 μ b) b κ3) := by
  obtain ⟨q1, q2⟩ := scP_pl q
  exact PP_g hr hS q1 (by rw [q2]; exact hS.2.2.2.2.2.2) e
theorem RM3 (h : RMc κ (wasA D 9) n) (hn : n ≤ 5) : RMc κ (D 3) n := fun t ht => by
  have := h t ht
  unfold wasA at this
  rw [if_neg (by omega)] at this
  exact this
theorem k_day (x y : Int32) (hC : CX μ b κ D kp n r nt tn) : XM Γ zX11_day 8 0 0 [.ref (adO b 0), .int x, .int y] (KV μ b κ) (PP μ b κ (.int (dyV D n x y))) := by
  refine XM.of 0 rfl (by decide) (Nat.le_of_ble_eq_true rfl) ?_
  have hI := hC.1
  obtain ⟨-, ⟨c1, c2, c3, c4, c5, c6, c7⟩, ⟨c8, c9⟩, hh, -, ⟨p1, p2⟩, -, hsh, -⟩ := hI
  have hn5 : n ≤ 5 := hC.2.1.1.1
  have h14 : κ.1 1 4 = nI n := hC.2.1.2.1
  have h60 := hC.2.2.2.2.2.2
  have hr6 : r < 6 := by have := hC.2.2.2.1; omega
  have hv : ¬ ((0 ≤ x ∧ x < 16) ∧ (0 ≤ y ∧ y < 4)) → dyV D n x y = -2 := fun h => by
    unfold dyV
    rw [if_neg (fun z => h ⟨⟨z.1.1, (i_lt 15 (by decide)).mpr z.1.2⟩, z.2.1, (i_lt 3 (by decide)).mpr z.2.2⟩)]
  have hw : ((0 ≤ x ∧ x < 16) ∧ (0 ≤ y ∧ y < 4)) → dyV D n x y = (if y = 0 then nI (bnD D (D 3) (nn x) n) else nI (dyS D (nn x) (nn y) n)) := fun h => by
    unfold dyV
    rw [if_pos ⟨⟨h.1.1, (i_lt 15 (by decide)).mp h.1.2⟩, h.2.1, (i_lt 3 (by decide)).mp h.2.2⟩]
  refine x_iload_n (pc := 0) dX11_day_0 rfl ?_
  refine x_bipush (pc := 1) (v := 16) dX11_day_1 rfl ?_
  refine x_callS (pc := 3) (As := [.int _, .int _]) dX11_day_3 mX11_isBelow lk_11_104 (k_isBelow _ _) rfl rfl (Nat.le_of_ble_eq_true rfl) ⟨by decide, by decide⟩ ⟨Nat.zero_le _, Nat.zero_le _⟩ (k_rt ?_)
  refine x_if_eq (pc := 6) (tgt := 17) dX11_day_6 rfl (fun h_6 => ?_) (fun h_6 => ?_)
  · refine x_bipush (pc := 17) (v := -2) dX11_day_17 rfl ?_
    refine x_ireturn (pc := 19) dX11_day_19 rfl rfl ?_
    exact PP_e (congrArg Value.int (hv (fun z => by first | exact bi_0.mp h_6 z.1 | exact bi_0.mp h_14 z.2))) h60
  · refine x_iload_n (pc := 9) dX11_day_9 rfl ?_
    refine x_iconst (pc := 10) (v := 4) dX11_day_10 rfl ?_
    refine x_callS (pc := 11) (As := [.int _, .int _]) dX11_day_11 mX11_isBelow lk_11_104 (k_isBelow _ _) rfl rfl (Nat.le_of_ble_eq_true rfl) ⟨by decide, by decide⟩ ⟨Nat.zero_le _, Nat.zero_le _⟩ (k_rt ?_)
    refine x_if_ne (pc := 14) (tgt := 20) dX11_day_14 rfl (fun h_14 => ?_) (fun h_14 => ?_)
    · obtain ⟨G, hG, rfl⟩ := ixD (n := 16) (bi_n0 h_6) (by decide)
      obtain ⟨k, hk, rfl⟩ := ixD (n := 4) (bi_n0 h_14) (by decide)
      have hw := hw ⟨bi_n0 h_6, bi_n0 h_14⟩
      rw [nn_nI (by omega), nn_nI (by omega)] at hw
      refine x_start (pc := 20) hC rfl dX11_day_20 dX11_day_21 dX11_day_24 dX11_day_25 dX11_day_28 dX11_day_29 dX11_day_32 rfl ⟨by decide, by decide⟩ ⟨by decide, by decide⟩ (fun κ2 hS hP hI3 => ?_)
      obtain ⟨-, ⟨e1, e2, e3, e4, e5, e6, e7⟩, ⟨e8, e9⟩, e10, -, -, -, e11, -⟩ := hI3
      obtain ⟨s1, s2, s3, s4, s5, s6, s7⟩ := id hS
      have p3 := hP.1
      have q1 := e10.1
      have hcnt : κ2.1 1 4 = nI n := ((s1 1 4 (by unfold stP tP; omega)).1).trans h14
      refine x_iload_n (pc := 35) dX11_day_35 rfl ?_
      refine x_if_ne (pc := 36) (tgt := 50) dX11_day_36 rfl (fun h_36 => ?_) (fun h_36 => ?_)
      · refine x_aload_n (pc := 50) dX11_day_50 rfl ?_
        refine k_getR (pc := 51) e1 dX11_day_51 fk_11_52 (Or.inl ⟨_, rfl⟩) (e4) ?_
        refine x_iload_n (pc := 54) dX11_day_54 rfl ?_
        refine x_iload_n (pc := 55) dX11_day_55 rfl ?_
        refine x_callV (pc := 56) (As := [.int _, .int _]) dX11_day_56 mX4_thingsThat lk_11_156 p3.2.2.1 (k_thingsThat hP s2 (RM3 s6 hn5) hG (by omega)) rfl rfl (Nat.le_of_ble_eq_true rfl) ⟨by decide, by decide⟩ ⟨Nat.zero_le _, Nat.zero_le _⟩ (k_rt ?_)
        refine x_ireturn (pc := 59) dX11_day_59 rfl rfl ?_
        refine PP_s hr6 hS kq.rf (congrArg Value.int ?_)
        first
          | exact hw.trans (if_pos h_36)
          | exact hw.trans (if_neg h_36)
      · refine x_aload_n (pc := 39) dX11_day_39 rfl ?_
        refine k_getR (pc := 40) e1 dX11_day_40 fk_11_52 (Or.inl ⟨_, rfl⟩) (e4) ?_
        refine x_iload_n (pc := 43) dX11_day_43 rfl ?_
        refine x_callV (pc := 44) (As := [.int _]) dX11_day_44 mX4_badDay lk_11_152 p3.2.2.1 (k_badDay hP s2 (RM3 s6 hn5) hG) rfl rfl (Nat.le_of_ble_eq_true rfl) ⟨by decide, by decide⟩ ⟨Nat.zero_le _, Nat.zero_le _⟩ (k_rt ?_)
        refine x_goto (pc := 47) (tgt := 59) dX11_day_47 rfl ?_
        refine x_ireturn (pc := 59) dX11_day_59 rfl rfl ?_
        refine PP_s hr6 hS kq.rf (congrArg Value.int ?_)
        first
          | exact hw.trans (if_pos h_36)
          | exact hw.trans (if_neg h_36)
    · refine x_bipush (pc := 17) (v := -2) dX11_day_17 rfl ?_
      refine x_ireturn (pc := 19) dX11_day_19 rfl rfl ?_
      exact PP_e (congrArg Value.int (hv (fun z => by first | exact bi_0.mp h_6 z.1 | exact bi_0.mp h_14 z.2))) h60
theorem k_best (hO : roomOk D n) (x y z : Int32) (hC : CX μ b κ D kp n r nt tn) : XM Γ zX11_best 8 0 0 [.ref (adO b 0), .int x, .int y, .int z] (KV μ b κ) (PP μ b κ (.int (beV D n x y z))) := by
  refine XM.of 1 rfl (by decide) (Nat.le_of_ble_eq_true rfl) ?_
  have hI := hC.1
  obtain ⟨-, ⟨c1, c2, c3, c4, c5, c6, c7⟩, ⟨c8, c9⟩, hh, -, ⟨p1, p2⟩, -, hsh, -⟩ := hI
  have hn5 : n ≤ 5 := hC.2.1.1.1
  have h14 : κ.1 1 4 = nI n := hC.2.1.2.1
  have h60 := hC.2.2.2.2.2.2
  have hr6 : r < 6 := by have := hC.2.2.2.1; omega
  have hz : (0 ≤ z ∧ z < nI n) ↔ (0 ≤ z ∧ z ≤ nI n - 1) := and_congr_right (fun _ => lt_sub1 hn5)
  have hv : ¬ ((0 ≤ x ∧ x < 16) ∧ (¬ y < 0 ∧ ¬ y > 5) ∧ (z = -1 ∨ (0 ≤ z ∧ z < nI n))) → beV D n x y z = -100 := fun h => by
    unfold beV
    rw [if_neg (fun q => h ⟨⟨q.1.1, (i_lt 15 (by decide)).mpr q.1.2⟩, ⟨Int32.not_lt.mpr q.2.1.1, Int32.not_lt.mpr q.2.1.2⟩, q.2.2.imp id hz.mpr⟩)]
  have hw : ((0 ≤ x ∧ x < 16) ∧ (¬ y < 0 ∧ ¬ y > 5) ∧ (z = -1 ∨ (0 ≤ z ∧ z < nI n))) → beV D n x y z = (if z = -1 then nI (brC (beD D n (nn x) (nn y))) else nI (brR (beD D n (nn x) (nn y)) (nn z)) - 1) := fun h => by
    unfold beV
    rw [if_pos ⟨⟨h.1.1, (i_lt 15 (by decide)).mp h.1.2⟩, ⟨Int32.not_lt.mp h.2.1.1, Int32.not_lt.mp h.2.1.2⟩, h.2.2.imp id hz.mp⟩]
  refine x_iload_n (pc := 0) dX11_best_0 rfl ?_
  refine x_bipush (pc := 1) (v := 16) dX11_best_1 rfl ?_
  refine x_callS (pc := 3) (As := [.int _, .int _]) dX11_best_3 mX11_isBelow lk_11_104 (k_isBelow _ _) rfl rfl (Nat.le_of_ble_eq_true rfl) ⟨by decide, by decide⟩ ⟨Nat.zero_le _, Nat.zero_le _⟩ (k_rt ?_)
  refine x_if_eq (pc := 6) (tgt := 34) dX11_best_6 rfl (fun h_6 => ?_) (fun h_6 => ?_)
  · refine x_bipush (pc := 34) (v := -100) dX11_best_34 rfl ?_
    refine x_ireturn (pc := 36) dX11_best_36 rfl rfl ?_
    exact PP_e (congrArg Value.int (hv (fun q => by first | exact bi_0.mp h_6 q.1 | exact q.2.1.1 h_10 | exact q.2.1.2 h_15 | exact (q.2.2.elim h_20 (bi_0.mp h_31))))) h60
  · refine x_iload_n (pc := 9) dX11_best_9 rfl ?_
    refine x_if_lt (pc := 10) (tgt := 34) dX11_best_10 rfl (fun h_10 => ?_) (fun h_10 => ?_)
    · refine x_bipush (pc := 34) (v := -100) dX11_best_34 rfl ?_
      refine x_ireturn (pc := 36) dX11_best_36 rfl rfl ?_
      exact PP_e (congrArg Value.int (hv (fun q => by first | exact bi_0.mp h_6 q.1 | exact q.2.1.1 h_10 | exact q.2.1.2 h_15 | exact (q.2.2.elim h_20 (bi_0.mp h_31))))) h60
    · refine x_iload_n (pc := 13) dX11_best_13 rfl ?_
      refine x_iconst (pc := 14) (v := 5) dX11_best_14 rfl ?_
      refine x_icmp_gt (pc := 15) (tgt := 34) dX11_best_15 rfl (fun h_15 => ?_) (fun h_15 => ?_)
      · refine x_bipush (pc := 34) (v := -100) dX11_best_34 rfl ?_
        refine x_ireturn (pc := 36) dX11_best_36 rfl rfl ?_
        exact PP_e (congrArg Value.int (hv (fun q => by first | exact bi_0.mp h_6 q.1 | exact q.2.1.1 h_10 | exact q.2.1.2 h_15 | exact (q.2.2.elim h_20 (bi_0.mp h_31))))) h60
      · refine x_iload_n (pc := 18) dX11_best_18 rfl ?_
        refine x_iconst (pc := 19) (v := -1) dX11_best_19 rfl ?_
        refine x_icmp_eq (pc := 20) (tgt := 37) dX11_best_20 rfl (fun h_20 => ?_) (fun h_20 => ?_)
        · obtain ⟨G, hG, rfl⟩ := ixD (n := 16) (bi_n0 h_6) (by decide)
          obtain ⟨k, hk, rfl⟩ := ixB (x := y) (c := 5) (n := 5) rfl ⟨Int32.not_lt.mp h_10, Int32.not_lt.mp h_15⟩ (by decide)
          have hz1 : z = -1 ∨ (0 ≤ z ∧ z < nI n) := by first | exact Or.inl h_20 | exact Or.inr (bi_n0 h_31)
          have hw := hw ⟨bi_n0 h_6, ⟨h_10, h_15⟩, hz1⟩
          rw [nn_nI (by omega), nn_nI (by omega)] at hw
          refine x_start (pc := 37) hC rfl dX11_best_37 dX11_best_38 dX11_best_41 dX11_best_42 dX11_best_45 dX11_best_46 dX11_best_49 rfl ⟨by decide, by decide⟩ ⟨by decide, by decide⟩ (fun κ2 hS hP hI3 => ?_)
          obtain ⟨-, ⟨e1, e2, e3, e4, e5, e6, e7⟩, ⟨e8, e9⟩, e10, -, -, -, e11, -⟩ := hI3
          obtain ⟨s1, s2, s3, s4, s5, s6, s7⟩ := id hS
          have p3 := hP.1
          have q1 := e10.1
          have hcnt : κ2.1 1 4 = nI n := ((s1 1 4 (by unfold stP tP; omega)).1).trans h14
          refine x_aload_n (pc := 52) dX11_best_52 rfl ?_
          refine k_getR (pc := 53) e1 dX11_best_53 fk_11_52 (Or.inl ⟨_, rfl⟩) (e4) ?_
          refine x_iload_n (pc := 56) dX11_best_56 rfl ?_
          refine x_iload_n (pc := 57) dX11_best_57 rfl ?_
          refine x_callV (pc := 58) (As := [.int _, .int _]) dX11_best_58 mX4_bestFor lk_11_159 p3.2.2.1 (k_bestFor hP s2 s6 hG hk (be_ne hO)) rfl rfl (Nat.le_of_ble_eq_true rfl) ⟨by decide, by decide⟩ ⟨Nat.zero_le _, Nat.zero_le _⟩ (fun x μ3 hr => ?_)
          obtain ⟨κ3, rfl, rfl, q1', q2', q3', q4', q5'⟩ := hr
          dsimp only [Option.toList, List.cons_append, List.nil_append]
          refine x_istore (pc := 61) (lv2 := [_, _, _, _, _]) dX11_best_61 (by decide) rfl rfl ?_
          refine x_iload_n (pc := 63) dX11_best_63 rfl ?_
          refine x_iconst (pc := 64) (v := -1) dX11_best_64 rfl ?_
          refine x_icmp_ne (pc := 65) (tgt := 73) dX11_best_65 rfl (fun h_65 => ?_) (fun h_65 => ?_)
          · obtain ⟨t, ht, rfl⟩ := ixD (n := n) (hz1.resolve_left h_65) (by omega)
            rw [if_neg h_65, nn_nI (by omega)] at hw
            refine x_aload_n (pc := 73) dX11_best_73 rfl ?_
            refine k_getR (pc := 74) e1 dX11_best_74 fk_11_52 (Or.inl ⟨_, rfl⟩) (e4) ?_
            refine k_getA (pc := 77) p3 dX11_best_77 fk_11_162 (Or.inr ⟨_, rfl⟩) (by decide) ?_
            refine x_iload_n (pc := 80) dX11_best_80 rfl ?_
            refine k_iald (pc := 81) p3 dX11_best_81 (rfl) (show t < 5 by omega) (by decide) ?_
            refine x_ireturn (pc := 82) dX11_best_82 rfl rfl ?_
            refine PP_s hr6 hS q1' (congrArg Value.int ?_)
            rw [q5' t ht]
            exact hw
          · refine x_iload (pc := 68) dX11_best_68 rfl ?_
            refine x_goto (pc := 70) (tgt := 82) dX11_best_70 rfl ?_
            refine x_ireturn (pc := 82) dX11_best_82 rfl rfl ?_
            exact PP_s hr6 hS q1' (congrArg Value.int (hw.trans (if_pos h_65)))
        · refine x_aload_n (pc := 23) dX11_best_23 rfl ?_
          refine k_getR (pc := 24) c1 dX11_best_24 fk_11_10 (Or.inl ⟨_, rfl⟩) (c2) ?_
          refine x_iload_n (pc := 27) dX11_best_27 rfl ?_
          refine x_callV (pc := 28) (As := [.int _]) dX11_best_28 mX2_has lk_11_90 hh.1.2.2.1 (k_has hh.1 h14 hn5) rfl rfl (Nat.le_of_ble_eq_true rfl) ⟨by decide, by decide⟩ ⟨Nat.zero_le _, Nat.zero_le _⟩ (k_rt ?_)
          refine x_if_ne (pc := 31) (tgt := 37) dX11_best_31 rfl (fun h_31 => ?_) (fun h_31 => ?_)
          · obtain ⟨G, hG, rfl⟩ := ixD (n := 16) (bi_n0 h_6) (by decide)
            obtain ⟨k, hk, rfl⟩ := ixB (x := y) (c := 5) (n := 5) rfl ⟨Int32.not_lt.mp h_10, Int32.not_lt.mp h_15⟩ (by decide)
            have hz1 : z = -1 ∨ (0 ≤ z ∧ z < nI n) := by first | exact Or.inl h_20 | exact Or.inr (bi_n0 h_31)
            have hw := hw ⟨bi_n0 h_6, ⟨h_10, h_15⟩, hz1⟩
            rw [nn_nI (by omega), nn_nI (by omega)] at hw
            refine x_start (pc := 37) hC rfl dX11_best_37 dX11_best_38 dX11_best_41 dX11_best_42 dX11_best_45 dX11_best_46 dX11_best_49 rfl ⟨by decide, by decide⟩ ⟨by decide, by decide⟩ (fun κ2 hS hP hI3 => ?_)
            obtain ⟨-, ⟨e1, e2, e3, e4, e5, e6, e7⟩, ⟨e8, e9⟩, e10, -, -, -, e11, -⟩ := hI3
            obtain ⟨s1, s2, s3, s4, s5, s6, s7⟩ := id hS
            have p3 := hP.1
            have q1 := e10.1
            have hcnt : κ2.1 1 4 = nI n := ((s1 1 4 (by unfold stP tP; omega)).1).trans h14
            refine x_aload_n (pc := 52) dX11_best_52 rfl ?_
            refine k_getR (pc := 53) e1 dX11_best_53 fk_11_52 (Or.inl ⟨_, rfl⟩) (e4) ?_
            refine x_iload_n (pc := 56) dX11_best_56 rfl ?_
            refine x_iload_n (pc := 57) dX11_best_57 rfl ?_
            refine x_callV (pc := 58) (As := [.int _, .int _]) dX11_best_58 mX4_bestFor lk_11_159 p3.2.2.1 (k_bestFor hP s2 s6 hG hk (be_ne hO)) rfl rfl (Nat.le_of_ble_eq_true rfl) ⟨by decide, by decide⟩ ⟨Nat.zero_le _, Nat.zero_le _⟩ (fun x μ3 hr => ?_)
            obtain ⟨κ3, rfl, rfl, q1', q2', q3', q4', q5'⟩ := hr
            dsimp only [Option.toList, List.cons_append, List.nil_append]
            refine x_istore (pc := 61) (lv2 := [_, _, _, _, _]) dX11_best_61 (by decide) rfl rfl ?_
            refine x_iload_n (pc := 63) dX11_best_63 rfl ?_
            refine x_iconst (pc := 64) (v := -1) dX11_best_64 rfl ?_
            refine x_icmp_ne (pc := 65) (tgt := 73) dX11_best_65 rfl (fun h_65 => ?_) (fun h_65 => ?_)
            · obtain ⟨t, ht, rfl⟩ := ixD (n := n) (hz1.resolve_left h_65) (by omega)
              rw [if_neg h_65, nn_nI (by omega)] at hw
              refine x_aload_n (pc := 73) dX11_best_73 rfl ?_
              refine k_getR (pc := 74) e1 dX11_best_74 fk_11_52 (Or.inl ⟨_, rfl⟩) (e4) ?_
              refine k_getA (pc := 77) p3 dX11_best_77 fk_11_162 (Or.inr ⟨_, rfl⟩) (by decide) ?_
              refine x_iload_n (pc := 80) dX11_best_80 rfl ?_
              refine k_iald (pc := 81) p3 dX11_best_81 (rfl) (show t < 5 by omega) (by decide) ?_
              refine x_ireturn (pc := 82) dX11_best_82 rfl rfl ?_
              refine PP_s hr6 hS q1' (congrArg Value.int ?_)
              rw [q5' t ht]
              exact hw
            · refine x_iload (pc := 68) dX11_best_68 rfl ?_
              refine x_goto (pc := 70) (tgt := 82) dX11_best_70 rfl ?_
              refine x_ireturn (pc := 82) dX11_best_82 rfl rfl ?_
              exact PP_s hr6 hS q1' (congrArg Value.int (hw.trans (if_pos h_65)))
          · refine x_bipush (pc := 34) (v := -100) dX11_best_34 rfl ?_
            refine x_ireturn (pc := 36) dX11_best_36 rfl rfl ?_
            exact PP_e (congrArg Value.int (hv (fun q => by first | exact bi_0.mp h_6 q.1 | exact q.2.1.1 h_10 | exact q.2.1.2 h_15 | exact (q.2.2.elim h_20 (bi_0.mp h_31))))) h60
end M99999
