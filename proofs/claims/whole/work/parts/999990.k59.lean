/-! the class: once, week, drawn -/
section M999990
variable {Γ : Gm} {μ : Mem} {b : Kb} {κ κ2 κ3 : KS} {D : PD} {kp : Bool} {n r nt : Nat} {tn : Nat → Nat}
theorem PL_6 {aw : Nat} {h : Nat → Nat} (hp : PL κ D n aw) (hd : ∀ d, d < 7 → h d < 16) : PL κ (upF D 6 h) n aw := by
  obtain ⟨h1, h2, h3, h4, h5, h6⟩ := hp
  exact ⟨⟨h1.1, h1.2.1, h1.2.2.1, h1.2.2.2.1, hd⟩, h2, h3, h4, h5, h6⟩
theorem PL_kq {aw : Nat} {P : Nat → Nat → Prop} (hp : PL κ D n aw) (q : kq P κ κ2) (h3 : ∀ k, k = 1 ∨ k = 2 ∨ k = 6 → ¬ P 3 k) (ht : ∀ t k, k ≤ 11 → ¬ P (15 + t) k) : PL κ2 D n aw := by
  obtain ⟨h1, h2, h4, h5, h6, h7⟩ := hp
  refine ⟨h1, h2, by rw [(q 3 1 (h3 1 (by omega))).1]; exact h4, by rw [(q 3 2 (h3 2 (by omega))).1]; exact h5, fun t htn => ⟨?_, (h6 t htn).2.kq q (fun k hk => ht t k (by omega))⟩, fun s hs => by rw [(q 3 6 (h3 6 (by omega))).2]; exact h7 s hs⟩
  have := (h6 t htn).1
  unfold TH at this ⊢
  rw [(q (15 + t) 1 (ht t 1 (by omega))).1, (q (15 + t) 2 (ht t 2 (by omega))).1, (q (15 + t) 3 (ht t 3 (by omega))).1]
  exact this
theorem PC_kq {P : Nat → Nat → Prop} (hp : PC κ D n) (q : kq P κ κ2) (ht : ∀ t, ¬ P (15 + t) 5) : PC κ2 D n := fun t htn => by
  rw [(q (15 + t) 5 (ht t)).1]
  exact hp t htn
theorem up_s {f d : Nat} {h : Nat → Nat} : upF D f h f d = h d := if_pos rfl
theorem up_n {f k : Nat} {h : Nat → Nat} (hk : k ≠ f) : upF D f h k = D k := funext fun i => if_neg hk
theorem dw_lt (z : Int32) : dwN z < 16 := Nat.mod_lt _ (by decide)
theorem k_once (z : Int32) (hC : CX μ b κ D kp n r nt tn) : XM Γ zX11_once 8 0 0 [.ref (adO b 0), .int z] (KV μ b κ) (PP μ b κ (.int (onV D n z))) := by
  refine XM.of 1 rfl (by decide) (Nat.le_of_ble_eq_true rfl) ?_
  have hI := hC.1
  obtain ⟨-, ⟨c1, c2, c3, c4, c5, c6, c7⟩, ⟨c8, c9⟩, hh, -, ⟨p1, p2⟩, -, hsh, -⟩ := hI
  have hn5 : n ≤ 5 := hC.2.1.1.1
  have h14 : κ.1 1 4 = nI n := hC.2.1.2.1
  have h60 := hC.2.2.2.2.2.2
  have hr6 : r < 6 := by have := hC.2.2.2.1; omega
  have hz : (0 ≤ z ∧ z < nI n) ↔ (0 ≤ z ∧ z ≤ nI n - 1) := and_congr_right (fun _ => lt_sub1 hn5)
  have hv : ¬ (z = -1 ∨ (0 ≤ z ∧ z < nI n)) → onV D n z = -100 := fun h => by
    unfold onV
    rw [if_neg (fun q => h (q.imp id hz.mpr))]
  have hw : (z = -1 ∨ (0 ≤ z ∧ z < nI n)) → onV D n z = (if z = -1 then nI (brC (onD D n)) else nI (brR (onD D n) (nn z)) - 1) := fun h => by
    unfold onV
    rw [if_pos (h.imp id hz.mp)]
  refine x_iload_n (pc := 0) dX11_once_0 rfl ?_
  refine x_iconst (pc := 1) (v := -1) dX11_once_1 rfl ?_
  refine x_icmp_eq (pc := 2) (tgt := 19) dX11_once_2 rfl (fun h_2 => ?_) (fun h_2 => ?_)
  · have hz1 : z = -1 ∨ (0 ≤ z ∧ z < nI n) := by first | exact Or.inl h_2 | exact Or.inr (bi_n0 h_13)
    have hw := hw hz1
    refine x_start (pc := 19) hC rfl dX11_once_19 dX11_once_20 dX11_once_23 dX11_once_24 dX11_once_27 dX11_once_28 dX11_once_31 rfl ⟨by decide, by decide⟩ ⟨by decide, by decide⟩ (fun κ2 hS hP hI3 => ?_)
    obtain ⟨-, ⟨e1, e2, e3, e4, e5, e6, e7⟩, ⟨e8, e9⟩, e10, -, -, -, e11, -⟩ := hI3
    obtain ⟨s1, s2, s3, s4, s5, s6, s7⟩ := id hS
    have p3 := hP.1
    have q1 := e10.1
    have hcnt : κ2.1 1 4 = nI n := ((s1 1 4 (by unfold stP tP; omega)).1).trans h14
    refine x_aload_n (pc := 34) dX11_once_34 rfl ?_
    refine k_getR (pc := 35) e1 dX11_once_35 fk_11_52 (Or.inl ⟨_, rfl⟩) (e4) ?_
    refine x_callV (pc := 38) (As := []) dX11_once_38 mX4_onceCost lk_11_165 p3.2.2.1 (k_onceCost hP s2 s3 s4) rfl rfl (Nat.le_of_ble_eq_true rfl) ⟨by decide, by decide⟩ ⟨Nat.zero_le _, Nat.zero_le _⟩ (fun x μ3 hr => ?_)
    obtain ⟨κ3, rfl, rfl, q1', q5'⟩ := hr
    dsimp only [Option.toList, List.cons_append, List.nil_append]
    refine x_istore_n (pc := 41) (lv2 := [_, _, _]) dX11_once_41 (by decide) rfl rfl ?_
    refine x_iload_n (pc := 42) dX11_once_42 rfl ?_
    refine x_iconst (pc := 43) (v := -1) dX11_once_43 rfl ?_
    refine x_icmp_ne (pc := 44) (tgt := 51) dX11_once_44 rfl (fun h_44 => ?_) (fun h_44 => ?_)
    · obtain ⟨t, ht, rfl⟩ := ixD (n := n) (hz1.resolve_left h_44) (by omega)
      rw [if_neg h_44, nn_nI (by omega)] at hw
      refine x_aload_n (pc := 51) dX11_once_51 rfl ?_
      refine k_getR (pc := 52) e1 dX11_once_52 fk_11_52 (Or.inl ⟨_, rfl⟩) (e4) ?_
      refine k_getA (pc := 55) p3 dX11_once_55 fk_11_162 (Or.inr ⟨_, rfl⟩) (by decide) ?_
      refine x_iload_n (pc := 58) dX11_once_58 rfl ?_
      refine k_iald (pc := 59) p3 dX11_once_59 (rfl) (show t < 5 by omega) (by decide) ?_
      refine x_ireturn (pc := 60) dX11_once_60 rfl rfl ?_
      refine PP_s hr6 hS q1' (congrArg Value.int ?_)
      rw [q5' t ht]
      exact hw
    · refine x_iload_n (pc := 47) dX11_once_47 rfl ?_
      refine x_goto (pc := 48) (tgt := 60) dX11_once_48 rfl ?_
      refine x_ireturn (pc := 60) dX11_once_60 rfl rfl ?_
      exact PP_s hr6 hS q1' (congrArg Value.int (hw.trans (if_pos h_44)))
  · refine x_aload_n (pc := 5) dX11_once_5 rfl ?_
    refine k_getR (pc := 6) c1 dX11_once_6 fk_11_10 (Or.inl ⟨_, rfl⟩) (c2) ?_
    refine x_iload_n (pc := 9) dX11_once_9 rfl ?_
    refine x_callV (pc := 10) (As := [.int _]) dX11_once_10 mX2_has lk_11_90 hh.1.2.2.1 (k_has hh.1 h14 hn5) rfl rfl (Nat.le_of_ble_eq_true rfl) ⟨by decide, by decide⟩ ⟨Nat.zero_le _, Nat.zero_le _⟩ (k_rt ?_)
    refine x_if_ne (pc := 13) (tgt := 19) dX11_once_13 rfl (fun h_13 => ?_) (fun h_13 => ?_)
    · have hz1 : z = -1 ∨ (0 ≤ z ∧ z < nI n) := by first | exact Or.inl h_2 | exact Or.inr (bi_n0 h_13)
      have hw := hw hz1
      refine x_start (pc := 19) hC rfl dX11_once_19 dX11_once_20 dX11_once_23 dX11_once_24 dX11_once_27 dX11_once_28 dX11_once_31 rfl ⟨by decide, by decide⟩ ⟨by decide, by decide⟩ (fun κ2 hS hP hI3 => ?_)
      obtain ⟨-, ⟨e1, e2, e3, e4, e5, e6, e7⟩, ⟨e8, e9⟩, e10, -, -, -, e11, -⟩ := hI3
      obtain ⟨s1, s2, s3, s4, s5, s6, s7⟩ := id hS
      have p3 := hP.1
      have q1 := e10.1
      have hcnt : κ2.1 1 4 = nI n := ((s1 1 4 (by unfold stP tP; omega)).1).trans h14
      refine x_aload_n (pc := 34) dX11_once_34 rfl ?_
      refine k_getR (pc := 35) e1 dX11_once_35 fk_11_52 (Or.inl ⟨_, rfl⟩) (e4) ?_
      refine x_callV (pc := 38) (As := []) dX11_once_38 mX4_onceCost lk_11_165 p3.2.2.1 (k_onceCost hP s2 s3 s4) rfl rfl (Nat.le_of_ble_eq_true rfl) ⟨by decide, by decide⟩ ⟨Nat.zero_le _, Nat.zero_le _⟩ (fun x μ3 hr => ?_)
      obtain ⟨κ3, rfl, rfl, q1', q5'⟩ := hr
      dsimp only [Option.toList, List.cons_append, List.nil_append]
      refine x_istore_n (pc := 41) (lv2 := [_, _, _]) dX11_once_41 (by decide) rfl rfl ?_
      refine x_iload_n (pc := 42) dX11_once_42 rfl ?_
      refine x_iconst (pc := 43) (v := -1) dX11_once_43 rfl ?_
      refine x_icmp_ne (pc := 44) (tgt := 51) dX11_once_44 rfl (fun h_44 => ?_) (fun h_44 => ?_)
      · obtain ⟨t, ht, rfl⟩ := ixD (n := n) (hz1.resolve_left h_44) (by omega)
        rw [if_neg h_44, nn_nI (by omega)] at hw
        refine x_aload_n (pc := 51) dX11_once_51 rfl ?_
        refine k_getR (pc := 52) e1 dX11_once_52 fk_11_52 (Or.inl ⟨_, rfl⟩) (e4) ?_
        refine k_getA (pc := 55) p3 dX11_once_55 fk_11_162 (Or.inr ⟨_, rfl⟩) (by decide) ?_
        refine x_iload_n (pc := 58) dX11_once_58 rfl ?_
        refine k_iald (pc := 59) p3 dX11_once_59 (rfl) (show t < 5 by omega) (by decide) ?_
        refine x_ireturn (pc := 60) dX11_once_60 rfl rfl ?_
        refine PP_s hr6 hS q1' (congrArg Value.int ?_)
        rw [q5' t ht]
        exact hw
      · refine x_iload_n (pc := 47) dX11_once_47 rfl ?_
        refine x_goto (pc := 48) (tgt := 60) dX11_once_48 rfl ?_
        refine x_ireturn (pc := 60) dX11_once_60 rfl rfl ?_
        exact PP_s hr6 hS q1' (congrArg Value.int (hw.trans (if_pos h_44)))
    · refine x_bipush (pc := 16) (v := -100) dX11_once_16 rfl ?_
      refine x_ireturn (pc := 18) dX11_once_18 rfl rfl ?_
      exact PP_e (congrArg Value.int (hv (fun q => q.elim h_2 (bi_0.mp h_13)))) h60
theorem k_week (z : Int32) (hC : CX μ b κ D kp n r nt tn) : XM Γ zX11_week 8 0 0 [.ref (adO b 0), .int z] (KV μ b κ) (PP μ b κ (.int (wkV D n z))) := by
  refine XM.of 1 rfl (by decide) (Nat.le_of_ble_eq_true rfl) ?_
  have hI := hC.1
  obtain ⟨-, ⟨c1, c2, c3, c4, c5, c6, c7⟩, ⟨c8, c9⟩, hh, -, ⟨p1, p2⟩, -, hsh, -⟩ := hI
  have hn5 : n ≤ 5 := hC.2.1.1.1
  have h14 : κ.1 1 4 = nI n := hC.2.1.2.1
  have h60 := hC.2.2.2.2.2.2
  have hr6 : r < 6 := by have := hC.2.2.2.1; omega
  have hv : ¬ (0 ≤ z ∧ z < 3) → wkV D n z = -2 := fun h => by
    unfold wkV
    rw [if_neg (fun q => h ⟨q.1, (i_lt 2 (by decide)).mpr q.2⟩)]
  have hw : (0 ≤ z ∧ z < 3) → wkV D n z = (if z = 0 then nI (wkD D n 9 7).2.1 else if z = 1 then nI (wkD D n 9 7).2.2.1 else nI (wkD D n 9 7).2.2.2) := fun h => by
    unfold wkV
    rw [if_pos ⟨h.1, (i_lt 2 (by decide)).mp h.2⟩]
  refine x_iload_n (pc := 0) dX11_week_0 rfl ?_
  refine x_iconst (pc := 1) (v := 3) dX11_week_1 rfl ?_
  refine x_callS (pc := 2) (As := [.int _, .int _]) dX11_week_2 mX11_isBelow lk_11_104 (k_isBelow _ _) rfl rfl (Nat.le_of_ble_eq_true rfl) ⟨by decide, by decide⟩ ⟨Nat.zero_le _, Nat.zero_le _⟩ (k_rt ?_)
  refine x_if_ne (pc := 5) (tgt := 11) dX11_week_5 rfl (fun h_5 => ?_) (fun h_5 => ?_)
  · have hw := hw (bi_n0 h_5)
    refine x_start (pc := 11) hC rfl dX11_week_11 dX11_week_12 dX11_week_15 dX11_week_16 dX11_week_19 dX11_week_20 dX11_week_23 rfl ⟨by decide, by decide⟩ ⟨by decide, by decide⟩ (fun κ2 hS hP hI3 => ?_)
    obtain ⟨-, ⟨e1, e2, e3, e4, e5, e6, e7⟩, ⟨e8, e9⟩, e10, -, -, -, e11, -⟩ := hI3
    obtain ⟨s1, s2, s3, s4, s5, s6, s7⟩ := id hS
    have p3 := hP.1
    have q1 := e10.1
    have hcnt : κ2.1 1 4 = nI n := ((s1 1 4 (by unfold stP tP; omega)).1).trans h14
    refine x_aload_n (pc := 26) dX11_week_26 rfl ?_
    refine k_getR (pc := 27) e1 dX11_week_27 fk_11_52 (Or.inl ⟨_, rfl⟩) (e4) ?_
    refine x_callV (pc := 30) (As := []) dX11_week_30 mX4_weekCost lk_11_168 p3.2.2.1 (k_weekCost hP s2 s3 s4) rfl rfl (Nat.le_of_ble_eq_true rfl) ⟨by decide, by decide⟩ ⟨Nat.zero_le _, Nat.zero_le _⟩ (fun x μ3 hr => ?_)
    obtain ⟨κ3, rfl, rfl, q1', q5', q6'⟩ := hr
    dsimp only [Option.toList, List.cons_append, List.nil_append]
    refine x_istore_n (pc := 33) (lv2 := [_, _, _]) dX11_week_33 (by decide) rfl rfl ?_
    refine x_iload_n (pc := 34) dX11_week_34 rfl ?_
    refine x_if_ne (pc := 35) (tgt := 42) dX11_week_35 rfl (fun h_35 => ?_) (fun h_35 => ?_)
    · refine x_iload_n (pc := 42) dX11_week_42 rfl ?_
      refine x_iconst (pc := 43) (v := 1) dX11_week_43 rfl ?_
      refine x_icmp_ne (pc := 44) (tgt := 57) dX11_week_44 rfl (fun h_44 => ?_) (fun h_44 => ?_)
      · refine x_aload_n (pc := 57) dX11_week_57 rfl ?_
        refine k_getR (pc := 58) e1 dX11_week_58 fk_11_52 (Or.inl ⟨_, rfl⟩) (e4) ?_
        refine k_getI (pc := 61) p3 dX11_week_61 fk_11_174 (Or.inl rfl) ?_
        refine x_ireturn (pc := 64) dX11_week_64 rfl rfl ?_
        refine PP_s hr6 hS q1' (congrArg Value.int ?_)
        first
          | exact hw.trans (if_pos h_35)
          | (rw [q5']; exact hw.trans ((if_neg h_35).trans (if_pos h_44)))
          | (rw [q6']; exact hw.trans ((if_neg h_35).trans (if_neg h_44)))
      · refine x_aload_n (pc := 47) dX11_week_47 rfl ?_
        refine k_getR (pc := 48) e1 dX11_week_48 fk_11_52 (Or.inl ⟨_, rfl⟩) (e4) ?_
        refine k_getI (pc := 51) p3 dX11_week_51 fk_11_171 (Or.inl rfl) ?_
        refine x_goto (pc := 54) (tgt := 64) dX11_week_54 rfl ?_
        refine x_ireturn (pc := 64) dX11_week_64 rfl rfl ?_
        refine PP_s hr6 hS q1' (congrArg Value.int ?_)
        first
          | exact hw.trans (if_pos h_35)
          | (rw [q5']; exact hw.trans ((if_neg h_35).trans (if_pos h_44)))
          | (rw [q6']; exact hw.trans ((if_neg h_35).trans (if_neg h_44)))
    · refine x_iload_n (pc := 38) dX11_week_38 rfl ?_
      refine x_goto (pc := 39) (tgt := 64) dX11_week_39 rfl ?_
      refine x_ireturn (pc := 64) dX11_week_64 rfl rfl ?_
      refine PP_s hr6 hS q1' (congrArg Value.int ?_)
      first
        | exact hw.trans (if_pos h_35)
        | (rw [q5']; exact hw.trans ((if_neg h_35).trans (if_pos h_44)))
        | (rw [q6']; exact hw.trans ((if_neg h_35).trans (if_neg h_44)))
  · refine x_bipush (pc := 8) (v := -2) dX11_week_8 rfl ?_
    refine x_ireturn (pc := 10) dX11_week_10 rfl rfl ?_
    exact PP_e (congrArg Value.int (hv (bi_0.mp h_5))) h60
theorem k_drawn (z : Int32) (hC : CX μ b κ D kp n r nt tn) : XM Γ zX11_drawn 8 0 0 [.ref (adO b 0), .int z] (KV μ b κ) (PP μ b κ (.int (nI (wkD (drD D z) n 9 7).2.1))) := by
  refine XM.of 0 rfl (by decide) (Nat.le_of_ble_eq_true rfl) ?_
  have hI := hC.1
  obtain ⟨-, ⟨c1, c2, c3, c4, c5, c6, c7⟩, ⟨c8, c9⟩, hh, -, ⟨p1, p2⟩, -, hsh, -⟩ := hI
  have hn5 : n ≤ 5 := hC.2.1.1.1
  have h14 : κ.1 1 4 = nI n := hC.2.1.2.1
  have h60 := hC.2.2.2.2.2.2
  have hr6 : r < 6 := by have := hC.2.2.2.1; omega
  refine x_start (pc := 0) hC rfl dX11_drawn_0 dX11_drawn_1 dX11_drawn_4 dX11_drawn_5 dX11_drawn_8 dX11_drawn_9 dX11_drawn_12 rfl ⟨by decide, by decide⟩ ⟨by decide, by decide⟩ (fun κ2 hS hP hI3 => ?_)
  obtain ⟨-, ⟨e1, e2, e3, e4, e5, e6, e7⟩, ⟨e8, e9⟩, e10, -, -, -, e11, -⟩ := hI3
  obtain ⟨s1, s2, s3, s4, s5, s6, s7⟩ := id hS
  have p3 := hP.1
  have q1 := e10.1
  have hcnt : κ2.1 1 4 = nI n := ((s1 1 4 (by unfold stP tP; omega)).1).trans h14
  refine x_aload_n (pc := 15) dX11_drawn_15 rfl ?_
  refine k_getR (pc := 16) e1 dX11_drawn_16 fk_11_52 (Or.inl ⟨_, rfl⟩) (e4) ?_
  refine x_iload_n (pc := 19) dX11_drawn_19 rfl ?_
  refine x_callV (pc := 20) (As := [.int _]) dX11_drawn_20 mX4_draw lk_11_229 p3.2.2.1 (k_draw p3 z) rfl rfl (Nat.le_of_ble_eq_true rfl) ⟨by decide, by decide⟩ ⟨Nat.zero_le _, Nat.zero_le _⟩ (fun x μ3 hr => ?_)
  obtain ⟨κ3, rfl, rfl, q1', q5'⟩ := hr
  dsimp only [Option.toList, List.cons_append, List.nil_append]
  have g2 : PL κ3 (drD D z) n 9 := PL_6 (PL_kq s2 q1' (by intro k hk; unfold daP; omega) (by intro t k hk; unfold daP; omega)) (fun d _ => dw_lt _)
  have g3 : PC κ3 (drD D z) n := PC_kq s3 q1' (by intro t; unfold daP; omega)
  have g4 : DC κ3 (drD D z) := fun d hd => by
    have e6 : (drD D z) 6 d = dwN (zz z (d + 1)) := by
      unfold drD
      exact up_s
    rw [e6]
    exact q5' d hd
  have hP' : KP (thR3 μ b) b ((drD D z) 0) := by
    have e : (drD D z) 0 = D 0 := up_n (by decide)
    rw [e]
    exact hP
  refine x_aload_n (pc := 23) dX11_drawn_23 rfl ?_
  refine k_getR (pc := 24) e1 dX11_drawn_24 fk_11_52 (Or.inl ⟨_, rfl⟩) (e4) ?_
  refine x_callV (pc := 27) (As := []) dX11_drawn_27 mX4_weekCost lk_11_168 p3.2.2.1 (k_weekCost (D := drD D z) hP' g2 g3 g4) rfl rfl (Nat.le_of_ble_eq_true rfl) ⟨by decide, by decide⟩ ⟨Nat.zero_le _, Nat.zero_le _⟩ (fun x μ3 hr => ?_)
  obtain ⟨κ4, rfl, rfl, q2', -, -⟩ := hr
  dsimp only [Option.toList, List.cons_append, List.nil_append]
  refine x_ireturn (pc := 30) dX11_drawn_30 rfl rfl ?_
  obtain ⟨w1, w2⟩ := scP_pl q2'
  refine PP_g hr6 hS ((q1'.mono (fun a k z => Or.inl z.1)).trans w1) ?_ rfl
  rw [w2, (q1' 3 6 (by unfold daP; omega)).2]
  exact s7
end M999990
