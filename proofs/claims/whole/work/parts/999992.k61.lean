/-! the class: give, seat -/
section M999992
variable {Γ : Gm} {μ : Mem} {b : Kb} {κ κ2 κ3 : KS} {D : PD} {kp : Bool} {n r nt : Nat} {tn : Nat → Nat}
theorem k_give  (hC : CX μ b κ D kp n r nt tn) : XM Γ zX11_give 8 0 0 [.ref (adO b 0)] (KV μ b κ) (PP μ b κ (.int (nI (gvD D n n).1 - 1))) := by
  refine XM.of 4 rfl (by decide) (Nat.le_of_ble_eq_true rfl) ?_
  have hI := hC.1
  obtain ⟨-, ⟨c1, c2, c3, c4, c5, c6, c7⟩, ⟨c8, c9⟩, hh, -, ⟨p1, p2⟩, -, hsh, -⟩ := hI
  have hn5 : n ≤ 5 := hC.2.1.1.1
  have h14 : κ.1 1 4 = nI n := hC.2.1.2.1
  have h60 := hC.2.2.2.2.2.2
  have hr6 : r < 6 := by have := hC.2.2.2.1; omega
  have hok : okD D n := hC.2.1.1
  have hgl : ∀ t, t ≤ n → (gvD D n t).2 < 400000 := fun t ht => (gv_le hok hC.2.2.1 t ht).1
  refine x_start (pc := 0) hC rfl dX11_give_0 dX11_give_1 dX11_give_4 dX11_give_5 dX11_give_8 dX11_give_9 dX11_give_12 rfl ⟨by decide, by decide⟩ ⟨by decide, by decide⟩ (fun κ2 hS hP hI3 => ?_)
  obtain ⟨-, ⟨e1, e2, e3, e4, e5, e6, e7⟩, ⟨e8, e9⟩, e10, -, -, -, e11, -⟩ := hI3
  obtain ⟨s1, s2, s3, s4, s5, s6, s7⟩ := id hS
  have p3 := hP.1
  have q1 := e10.1
  have hcnt : κ2.1 1 4 = nI n := ((s1 1 4 (by unfold stP tP; omega)).1).trans h14
  have L : ∀ (m t : Nat), t + m = n → ∀ (κ' : KS) (aw : Nat) (z4 : Option Value), kq scP κ2 κ' → κ'.2 3 6 = κ2.2 3 6 → PL κ' D n aw → PC κ' D n → DC κ' D → WA Γ zX11_give (xrm 8 0 0) 0 0 0 0 (PP μ b κ (.int (nI (gvD D n n).1 - 1))) 27 [some (.ref (adO b 0)), some (.int (nI (gvD D n t).1 - 1)), some (.int (nI (gvD D n t).2)), some (.int (nI t)), z4] [] (KV (thR3 μ b) b κ') := by
    intro m
    induction m with
    | zero =>
      intro t ht κ' aw z4 w1 w2 w3 w4 w5
      obtain rfl : t = n := by omega
      have hc : κ'.1 1 4 = nI t := ((w1 1 4 (by unfold scP; omega)).1).trans hcnt
      refine x_iload_n (pc := 27) dX11_give_27 rfl ?_
      refine x_aload_n (pc := 28) dX11_give_28 rfl ?_
      refine k_getR (pc := 29) e1 dX11_give_29 fk_11_10 (Or.inl ⟨_, rfl⟩) (e2) ?_
      refine k_getI (pc := 32) q1 dX11_give_32 fk_11_108 (Or.inl rfl) ?_
      rw [hc]
      refine x_icmp_ge (pc := 35) (tgt := 81) dX11_give_35 rfl (fun h_35 => ?_) (fun h_35 => absurd (Int32.le_refl _) h_35)
      refine x_iload_n (pc := 81) dX11_give_81 rfl ?_
      refine x_ireturn (pc := 82) dX11_give_82 rfl rfl ?_
      exact PP_g hr6 hS w1 (by rw [w2]; exact s7) rfl
    | succ m ih =>
      intro t ht κ' aw z4 w1 w2 w3 w4 w5
      have htn : t < n := by omega
      have hc : κ'.1 1 4 = nI n := ((w1 1 4 (by unfold scP; omega)).1).trans hcnt
      have eA : gvD D n (t + 1) = if gaA D n t < (gvD D n t).2 then (t + 1, gaA D n t) else gvD D n t := rfl
      have hf1 := hgl t (by omega)
      have hf2 : gaA D n t < 400000 := by
        have h1 := (wk_ok (D := D) (aw := t) (n := n) hok hC.2.2.1 7 (Nat.le_refl 7)).1
        have h2 := lk_le hok hC.2.2.1 htn 7 (Nat.le_refl 7)
        unfold gaA
        omega
      have w3' : PL (kI κ' 3 2 (nI t)) D n t := PL_aw w3 (by omega)
      have w4' : PC (kI κ' 3 2 (nI t)) D n := fun i hi => by
        rw [kI_n (Or.inl (by omega))]
        exact w4 i hi
      refine x_iload_n (pc := 27) dX11_give_27 rfl ?_
      refine x_aload_n (pc := 28) dX11_give_28 rfl ?_
      refine k_getR (pc := 29) e1 dX11_give_29 fk_11_10 (Or.inl ⟨_, rfl⟩) (e2) ?_
      refine k_getI (pc := 32) q1 dX11_give_32 fk_11_108 (Or.inl rfl) ?_
      rw [hc]
      refine x_icmp_ge (pc := 35) (tgt := 81) dX11_give_35 rfl (fun h_35 => absurd h_35 (nI_ge (a := t) (b := n) (by omega) (by omega))) (fun h_35 => ?_)
      refine x_aload_n (pc := 38) dX11_give_38 rfl ?_
      refine k_getR (pc := 39) e1 dX11_give_39 fk_11_52 (Or.inl ⟨_, rfl⟩) (e4) ?_
      refine x_iload_n (pc := 42) dX11_give_42 rfl ?_
      refine x_callV (pc := 43) (As := [.int _]) dX11_give_43 mX4_giveAway lk_11_182 p3.2.2.1 (k_giveAway p3 (nI t)) rfl rfl (Nat.le_of_ble_eq_true rfl) ⟨by decide, by decide⟩ ⟨Nat.zero_le _, Nat.zero_le _⟩ (k_rv ?_)
      refine x_aload_n (pc := 46) dX11_give_46 rfl ?_
      refine k_getR (pc := 47) e1 dX11_give_47 fk_11_52 (Or.inl ⟨_, rfl⟩) (e4) ?_
      refine x_callV (pc := 50) (As := []) dX11_give_50 mX4_weekCost lk_11_168 p3.2.2.1 (k_weekCost hP w3' w4' w5) rfl rfl (Nat.le_of_ble_eq_true rfl) ⟨by decide, by decide⟩ ⟨Nat.zero_le _, Nat.zero_le _⟩ (fun x μ3 hr => ?_)
      obtain ⟨κ4, rfl, rfl, q5', -, -⟩ := hr
      dsimp only [Option.toList, List.cons_append, List.nil_append]
      obtain ⟨y1, y2⟩ := scP_pl q5'
      have v0 : kq scP κ' (kI κ' 3 2 (nI t)) := (kq.rf (P := scP) (κ := κ')).I (Or.inl rfl)
      have v1 : kq scP κ2 κ4 := w1.trans (v0.trans y1)
      have v2 : κ4.2 3 6 = κ2.2 3 6 := by rw [y2, kI_2, w2]
      have v3 : PL κ4 D n t := PL_kq w3' q5' (by intro k hk; unfold plP; omega) (by intro t k hk; unfold plP; omega)
      have v4 : PC κ4 D n := w4'.kq q5'
      have w5' : DC (kI κ' 3 2 (nI t)) D := w5
      have v5 : DC κ4 D := DC.kq w5' q5'
      have ih2 := ih (t + 1) (by omega) κ4 t (some (.int (nI (gaA D n t)))) v1 v2 v3 v4 v5
      rw [eA] at ih2
      refine x_aload_n (pc := 53) dX11_give_53 rfl ?_
      refine k_getR (pc := 54) e1 dX11_give_54 fk_11_52 (Or.inl ⟨_, rfl⟩) (e4) ?_
      refine x_iload_n (pc := 57) dX11_give_57 rfl ?_
      refine x_callV (pc := 58) (As := [.int _]) dX11_give_58 mX4_lackOf lk_11_186 p3.2.2.1 (k_lackOf hP v3 v5 htn) rfl rfl (Nat.le_of_ble_eq_true rfl) ⟨by decide, by decide⟩ ⟨Nat.zero_le _, Nat.zero_le _⟩ (k_rt ?_)
      refine x_iadd (pc := 61) dX11_give_61 ?_
      rw [nI_add]
      change WA Γ zX11_give (xrm 8 0 0) 0 0 _ _ _ _ _ [.int (nI (gaA D n t))] _
      refine x_istore (pc := 62) (lv2 := [_, _, _, _, _]) dX11_give_62 (by decide) rfl rfl ?_
      refine x_iload (pc := 64) dX11_give_64 rfl ?_
      refine x_iload_n (pc := 66) dX11_give_66 rfl ?_
      refine x_icmp_ge (pc := 67) (tgt := 75) dX11_give_67 rfl (fun h_67 => ?_) (fun h_67 => ?_)
      · refine x_iinc (pc := 75) (lv2 := [_, _, _, _, _]) dX11_give_75 (by decide) rfl rfl (nI_1 _) rfl ?_
        refine x_goto (pc := 78) (tgt := 27) dX11_give_78 rfl ?_
        first
          | (rw [if_neg (fun q => absurd q (Nat.not_lt.mpr ((nI_leI (by omega) (by omega)).mp h_67)))] at ih2
             exact ih2)
          | (rw [if_pos (Nat.not_le.mp (fun q => h_67 ((nI_leI (by omega) (by omega)).mpr q))), show nI (t + 1, gaA D n t).1 - 1 = nI t from nI_pred t] at ih2
             exact ih2)
      · refine x_iload (pc := 70) dX11_give_70 rfl ?_
        refine x_istore_n (pc := 72) (lv2 := [_, _, _, _, _]) dX11_give_72 (by decide) rfl rfl ?_
        refine x_iload_n (pc := 73) dX11_give_73 rfl ?_
        refine x_istore_n (pc := 74) (lv2 := [_, _, _, _, _]) dX11_give_74 (by decide) rfl rfl ?_
        refine x_iinc (pc := 75) (lv2 := [_, _, _, _, _]) dX11_give_75 (by decide) rfl rfl (nI_1 _) rfl ?_
        refine x_goto (pc := 78) (tgt := 27) dX11_give_78 rfl ?_
        first
          | (rw [if_neg (fun q => absurd q (Nat.not_lt.mpr ((nI_leI (by omega) (by omega)).mp h_67)))] at ih2
             exact ih2)
          | (rw [if_pos (Nat.not_le.mp (fun q => h_67 ((nI_leI (by omega) (by omega)).mpr q))), show nI (t + 1, gaA D n t).1 - 1 = nI t from nI_pred t] at ih2
             exact ih2)
  refine x_iconst (pc := 15) (v := -1) dX11_give_15 rfl ?_
  refine x_istore_n (pc := 16) (lv2 := [_, _, _, _, _]) dX11_give_16 (by decide) rfl rfl ?_
  refine x_aload_n (pc := 17) dX11_give_17 rfl ?_
  refine k_getR (pc := 18) e1 dX11_give_18 fk_11_52 (Or.inl ⟨_, rfl⟩) (e4) ?_
  refine x_callV (pc := 21) (As := []) dX11_give_21 mX4_weekCost lk_11_168 p3.2.2.1 (k_weekCost hP s2 s3 s4) rfl rfl (Nat.le_of_ble_eq_true rfl) ⟨by decide, by decide⟩ ⟨Nat.zero_le _, Nat.zero_le _⟩ (fun x μ3 hr => ?_)
  obtain ⟨κ4, rfl, rfl, q5', -, -⟩ := hr
  dsimp only [Option.toList, List.cons_append, List.nil_append]
  obtain ⟨y1, y2⟩ := scP_pl q5'
  refine x_istore_n (pc := 24) (lv2 := [_, _, _, _, _]) dX11_give_24 (by decide) rfl rfl ?_
  refine x_iconst (pc := 25) (v := 0) dX11_give_25 rfl ?_
  refine x_istore_n (pc := 26) (lv2 := [_, _, _, _, _]) dX11_give_26 (by decide) rfl rfl ?_
  exact L n 0 (by omega) κ4 9 none y1 y2 (PL_kq s2 q5' (by intro k hk; unfold plP; omega) (by intro t k hk; unfold plP; omega)) (PC.kq s3 q5') (DC.kq s4 q5')
theorem upup {f : Nat} {h h2 : Nat → Nat} : upF (upF D f h) f h2 = upF D f h2 := funext fun k => by
  by_cases hk : k = f
  · rw [hk]
    exact funext fun _ => up_s.trans up_s.symm
  · rw [up_n hk, up_n hk, up_n hk]
theorem PL_5 {h : Nat → Nat} {aw : Nat} (hp : PL κ D n aw) (hd : ∀ g, g < 4 → h g < 4) (hv : ∀ s, s < 7 → κ2.2 3 6 s = nI (vwD (upF D 5 h) s)) {P : Nat → Nat → Prop} (q : kq P κ κ2) (h3 : ∀ k, k = 1 ∨ k = 2 → ¬ P 3 k) (ht : ∀ t k, k ≤ 11 → ¬ P (15 + t) k) : PL κ2 (upF D 5 h) n aw := by
  obtain ⟨h1, h2, h4, h5, h6, h7⟩ := hp
  refine ⟨⟨h1.1, h1.2.1, h1.2.2.1, hd, h1.2.2.2.2⟩, h2, by rw [(q 3 1 (h3 1 (by omega))).1]; exact h4, by rw [(q 3 2 (h3 2 (by omega))).1]; exact h5, fun t htn => ⟨?_, ?_⟩, hv⟩
  · have := (h6 t htn).1
    unfold TH at this ⊢
    rw [(q (15 + t) 1 (ht t 1 (by omega))).1, (q (15 + t) 2 (ht t 2 (by omega))).1, (q (15 + t) 3 (ht t 3 (by omega))).1]
    exact this
  · have := (h6 t htn).2.kq q (fun k hk => ht t k (by omega))
    exact this
theorem PL_5' {h0 h : Nat → Nat} {aw : Nat} (hp : PL κ (upF D 5 h0) n aw) (hd : ∀ g, g < 4 → h g < 4) (hv : ∀ s, s < 7 → κ2.2 3 6 s = nI (vwD (upF D 5 h) s)) {P : Nat → Nat → Prop} (q : kq P κ κ2) (h3 : ∀ k, k = 1 ∨ k = 2 → ¬ P 3 k) (ht : ∀ t k, k ≤ 11 → ¬ P (15 + t) k) : PL κ2 (upF D 5 h) n aw := by
  have e : upF (upF D 5 h0) 5 h = upF D 5 h := upup
  have h9 := PL_5 (h := h) hp hd (by rw [e]; exact hv) q h3 ht
  rw [e] at h9
  exact h9
theorem k_seat (x y : Int32) (hC : CX μ b κ D kp n r nt tn) : XM Γ zX11_seat 8 0 0 [.ref (adO b 0), .int x, .int y] (KV μ b κ) (PP μ b κ (.int (seV D n x y))) := by
  refine XM.of 4 rfl (by decide) (Nat.le_of_ble_eq_true rfl) ?_
  have hI := hC.1
  obtain ⟨-, ⟨c1, c2, c3, c4, c5, c6, c7⟩, ⟨c8, c9⟩, hh, -, ⟨p1, p2⟩, -, hsh, -⟩ := hI
  have hn5 : n ≤ 5 := hC.2.1.1.1
  have h14 : κ.1 1 4 = nI n := hC.2.1.2.1
  have h60 := hC.2.2.2.2.2.2
  have hr6 : r < 6 := by have := hC.2.2.2.1; omega
  have hv : ¬ ((0 ≤ x ∧ x < 4) ∧ (0 ≤ y ∧ y < 7)) → seV D n x y = -2 := fun h => by
    unfold seV
    rw [if_neg (fun z => h ⟨⟨z.1.1, (i_lt 3 (by decide)).mpr z.1.2⟩, z.2.1, (i_lt 6 (by decide)).mpr z.2.2⟩)]
  have hw : ((0 ≤ x ∧ x < 4) ∧ (0 ≤ y ∧ y < 7)) → seV D n x y = nI (am (stF D n (nn x) (nn y)) 3).1 := fun h => by
    unfold seV
    rw [if_pos ⟨⟨h.1.1, (i_lt 3 (by decide)).mp h.1.2⟩, h.2.1, (i_lt 6 (by decide)).mp h.2.2⟩]
  have hok : okD D n := hC.2.1.1
  refine x_iload_n (pc := 0) dX11_seat_0 rfl ?_
  refine x_iconst (pc := 1) (v := 4) dX11_seat_1 rfl ?_
  refine x_callS (pc := 2) (As := [.int _, .int _]) dX11_seat_2 mX11_isBelow lk_11_104 (k_isBelow _ _) rfl rfl (Nat.le_of_ble_eq_true rfl) ⟨by decide, by decide⟩ ⟨Nat.zero_le _, Nat.zero_le _⟩ (k_rt ?_)
  refine x_if_eq (pc := 5) (tgt := 17) dX11_seat_5 rfl (fun h_5 => ?_) (fun h_5 => ?_)
  · refine x_bipush (pc := 17) (v := -2) dX11_seat_17 rfl ?_
    refine x_ireturn (pc := 19) dX11_seat_19 rfl rfl ?_
    exact PP_e (congrArg Value.int (hv (fun z => by first | exact bi_0.mp h_5 z.1 | exact bi_0.mp h_14 z.2))) h60
  · refine x_iload_n (pc := 8) dX11_seat_8 rfl ?_
    refine x_bipush (pc := 9) (v := 7) dX11_seat_9 rfl ?_
    refine x_callS (pc := 11) (As := [.int _, .int _]) dX11_seat_11 mX11_isBelow lk_11_104 (k_isBelow _ _) rfl rfl (Nat.le_of_ble_eq_true rfl) ⟨by decide, by decide⟩ ⟨Nat.zero_le _, Nat.zero_le _⟩ (k_rt ?_)
    refine x_if_ne (pc := 14) (tgt := 20) dX11_seat_14 rfl (fun h_14 => ?_) (fun h_14 => ?_)
    · obtain ⟨g, hg, rfl⟩ := ixD (n := 4) (bi_n0 h_5) (by decide)
      obtain ⟨d, hd, rfl⟩ := ixD (n := 7) (bi_n0 h_14) (by decide)
      have hw := hw ⟨bi_n0 h_5, bi_n0 h_14⟩
      rw [nn_nI (by omega), nn_nI (by omega)] at hw
      refine x_start (pc := 20) hC rfl dX11_seat_20 dX11_seat_21 dX11_seat_24 dX11_seat_25 dX11_seat_28 dX11_seat_29 dX11_seat_32 rfl ⟨by decide, by decide⟩ ⟨by decide, by decide⟩ (fun κ2 hS hP hI3 => ?_)
      obtain ⟨-, ⟨e1, e2, e3, e4, e5, e6, e7⟩, ⟨e8, e9⟩, e10, -, -, -, e11, -⟩ := hI3
      obtain ⟨s1, s2, s3, s4, s5, s6, s7⟩ := id hS
      have p3 := hP.1
      have q1 := e10.1
      have hcnt : κ2.1 1 4 = nI n := ((s1 1 4 (by unfold stP tP; omega)).1).trans h14
      have hfl : ∀ k, k < 4 → stF D n g d k < 1000000 := fun k _ => by
        have := stF_le (n := n) (g := g) (d := d) hok hC.2.2.1 (hok.2.2.2.2 d hd) k
        omega
      have L : ∀ (m j : Nat), j + m = 4 → ∀ (κ' : KS) (D' : PD) (z6 : Option Value), kq scP κ2 κ' → κ'.2 3 6 0 = 0 → PL κ' (upF D 5 (D' 5)) n 9 → RMc κ' (D 3) n → (∀ p, p < 6 → D 4 p < 16 ∧ κ'.2 3 3 p = nI (D 4 p)) → (∀ i, i < 4 → i ≠ g → κ'.2 3 4 i = nI (D 5 i)) → WA Γ zX11_seat (xrm 8 0 0) 0 0 0 0 (PP μ b κ (.int (seV D n (nI g) (nI d)))) 44 [some (.ref (adO b 0)), some (.int (nI g)), some (.int (nI d)), some (.int (nI (amC (stF D n g d) j).1)), some (.int (nI (amC (stF D n g d) j).2)), some (.int (nI j)), z6] [] (KV (thR3 μ b) b κ') := by
        intro m
        induction m with
        | zero =>
          intro j hj κ' D' z6 w1 w2 w3 w4 w5 w6
          obtain rfl : j = 4 := by omega
          refine x_iload (pc := 44) dX11_seat_44 rfl ?_
          refine x_iconst (pc := 46) (v := 4) dX11_seat_46 rfl ?_
          refine x_icmp_ge (pc := 47) (tgt := 98) dX11_seat_47 rfl (fun h_47 => ?_) (fun h_47 => absurd (by decide) h_47)
          refine x_iload_n (pc := 98) dX11_seat_98 rfl ?_
          refine x_ireturn (pc := 99) dX11_seat_99 rfl rfl ?_
          refine PP_g hr6 hS w1 w2 (congrArg Value.int ?_)
          rw [amC_am hfl 3 (by decide)]
          exact hw
        | succ m ih =>
          intro j hj κ' D' z6 w1 w2 w3 w4 w5 w6
          have hj4 : j < 4 := by omega
          have eA : amC (stF D n g d) (j + 1) = if stF D n g d j < (amC (stF D n g d) j).2 then (j, stF D n g d j) else amC (stF D n g d) j := rfl
          have hf1 := hfl j hj4
          have hf2 := amC_le hfl j (by omega)
          have hse : ∀ i, i < 4 → (if i = g then j else D 5 i) < 4 ∧ va_up (κ'.2 3 4) g (nI j) i = nI (if i = g then j else D 5 i) := fun i hi => by
            by_cases hig : i = g
            · rw [if_pos hig, hig, va_up_s]
              exact ⟨hj4, rfl⟩
            · rw [if_neg hig, va_up_n hig]
              exact ⟨hok.2.2.2.1 i hi, w6 i hi hig⟩
          have hday : κ'.2 1 2 d = nI (D 6 d) := by
            rw [(w1 1 2 (by unfold scP; omega)).2, (s1 1 2 (by unfold stP tP; omega)).2]
            exact hC.2.1.2.2.2.2.1 d hd
          refine x_iload (pc := 44) dX11_seat_44 rfl ?_
          refine x_iconst (pc := 46) (v := 4) dX11_seat_46 rfl ?_
          refine x_icmp_ge (pc := 47) (tgt := 98) dX11_seat_47 rfl (fun h_47 => absurd h_47 (lit_le (n := 4) j (by omega) (by decide))) (fun h_47 => ?_)
          refine x_aload_n (pc := 50) dX11_seat_50 rfl ?_
          refine k_getR (pc := 51) e1 dX11_seat_51 fk_11_52 (Or.inl ⟨_, rfl⟩) (e4) ?_
          refine x_iload_n (pc := 54) dX11_seat_54 rfl ?_
          refine x_iload (pc := 55) dX11_seat_55 rfl ?_
          refine x_callV (pc := 57) (As := [.int _, .int _]) dX11_seat_57 mX4_sits lk_11_189 p3.2.2.1 (k_sits (D := D) p3 hg ⟨w5, hse⟩ w2) rfl rfl (Nat.le_of_ble_eq_true rfl) ⟨by decide, by decide⟩ ⟨Nat.zero_le _, Nat.zero_le _⟩ (fun x μ3 hr => ?_)
          obtain ⟨κ3, rfl, rfl, q3', q4', q6'⟩ := hr
          dsimp only [Option.toList, List.cons_append, List.nil_append]
          have g2 : PL κ3 (upF D 5 (fun x => if x = g then j else D 5 x)) n 9 := PL_5' w3 (fun i hi => (hse i hi).1) q4' q3' (by intro k hk; unfold siP; omega) (by intro t k hk; unfold siP; omega)
          have g7 : RMc κ3 (D 3) n := fun t ht => by
            rw [(q3' 3 7 (by unfold siP; omega)).2]
            exact w4 t ht
          have hP' : KP (thR3 μ b) b ((upF D 5 (fun x => if x = g then j else D 5 x)) 0) := by
            have e : (upF D 5 (fun x => if x = g then j else D 5 x)) 0 = D 0 := up_n (by decide)
            rw [e]
            exact hP
          have v1 : kq scP κ2 κ3 := w1.trans (q3'.mono (fun a k z => Or.inl z.1))
          have v2 : κ3.2 3 6 0 = 0 := by
            rw [q4' 0 (by decide)]
            rfl
          have v5 : ∀ p, p < 6 → D 4 p < 16 ∧ κ3.2 3 3 p = nI (D 4 p) := fun p hp => by
            rw [(q3' 3 3 (by unfold siP; omega)).2]
            exact w5 p hp
          have v6 : ∀ i, i < 4 → i ≠ g → κ3.2 3 4 i = nI (D 5 i) := fun i hi hig => by
            rw [q6', va_up_n hig]
            exact w6 i hi hig
          have hday3 : κ3.2 1 2 d = nI (D 6 d) := by
            rw [(q3' 1 2 (by unfold siP; omega)).2]
            exact hday
          have ih2 := ih (j + 1) (by omega) κ3 (upF D 5 (fun x => if x = g then j else D 5 x)) (some (.int (nI (stF D n g d j)))) v1 v2 (by
            have e : (upF D 5 (fun x => if x = g then j else D 5 x)) 5 = (fun x => if x = g then j else D 5 x) := funext fun _ => up_s
            rw [e]
            exact g2) g7 v5 v6
          rw [eA] at ih2
          refine x_aload_n (pc := 60) dX11_seat_60 rfl ?_
          refine k_getR (pc := 61) e1 dX11_seat_61 fk_11_52 (Or.inl ⟨_, rfl⟩) (e4) ?_
          refine x_aload_n (pc := 64) dX11_seat_64 rfl ?_
          refine k_getR (pc := 65) e1 dX11_seat_65 fk_11_10 (Or.inl ⟨_, rfl⟩) (e2) ?_
          refine k_getA (pc := 68) q1 dX11_seat_68 fk_11_87 (Or.inr ⟨_, rfl⟩) (by decide) ?_
          refine x_iload_n (pc := 71) dX11_seat_71 rfl ?_
          refine k_iald (pc := 72) q1 dX11_seat_72 (rfl) (show d < 7 by omega) (by decide) ?_
          rw [hday3]
          refine x_callV (pc := 73) (As := [.int _]) dX11_seat_73 mX4_badDay lk_11_152 p3.2.2.1 (k_badDay (D := upF D 5 (fun x => if x = g then j else D 5 x)) hP' g2 g7 (hok.2.2.2.2 d hd)) rfl rfl (Nat.le_of_ble_eq_true rfl) ⟨by decide, by decide⟩ ⟨Nat.zero_le _, Nat.zero_le _⟩ (k_rt ?_)
          change WA Γ zX11_seat (xrm 8 0 0) 0 0 _ _ _ _ _ [.int (nI (stF D n g d j))] _
          refine x_istore (pc := 76) (lv2 := [_, _, _, _, _, _, _]) dX11_seat_76 (by decide) rfl rfl ?_
          refine x_iload (pc := 78) dX11_seat_78 rfl ?_
          refine x_iload (pc := 80) dX11_seat_80 rfl ?_
          refine x_icmp_ge (pc := 82) (tgt := 92) dX11_seat_82 rfl (fun h_82 => ?_) (fun h_82 => ?_)
          · refine x_iinc (pc := 92) (lv2 := [_, _, _, _, _, _, _]) dX11_seat_92 (by decide) rfl rfl (nI_1 _) rfl ?_
            refine x_goto (pc := 95) (tgt := 44) dX11_seat_95 rfl ?_
            first
              | (rw [if_neg (fun q => absurd q (Nat.not_lt.mpr ((nI_leI (by omega) (by omega)).mp h_82)))] at ih2
                 exact ih2)
              | (rw [if_pos (Nat.not_le.mp (fun q => h_82 ((nI_leI (by omega) (by omega)).mpr q)))] at ih2
                 exact ih2)
          · refine x_iload (pc := 85) dX11_seat_85 rfl ?_
            refine x_istore (pc := 87) (lv2 := [_, _, _, _, _, _, _]) dX11_seat_87 (by decide) rfl rfl ?_
            refine x_iload (pc := 89) dX11_seat_89 rfl ?_
            refine x_istore_n (pc := 91) (lv2 := [_, _, _, _, _, _, _]) dX11_seat_91 (by decide) rfl rfl ?_
            refine x_iinc (pc := 92) (lv2 := [_, _, _, _, _, _, _]) dX11_seat_92 (by decide) rfl rfl (nI_1 _) rfl ?_
            refine x_goto (pc := 95) (tgt := 44) dX11_seat_95 rfl ?_
            first
              | (rw [if_neg (fun q => absurd q (Nat.not_lt.mpr ((nI_leI (by omega) (by omega)).mp h_82)))] at ih2
                 exact ih2)
              | (rw [if_pos (Nat.not_le.mp (fun q => h_82 ((nI_leI (by omega) (by omega)).mpr q)))] at ih2
                 exact ih2)
      refine x_iconst (pc := 35) (v := 0) dX11_seat_35 rfl ?_
      refine x_istore_n (pc := 36) (lv2 := [_, _, _, _, _, _, _]) dX11_seat_36 (by decide) rfl rfl ?_
      refine x_ldc (pc := 37) dX11_seat_37 kc_11_177 ?_
      refine x_istore (pc := 39) (lv2 := [_, _, _, _, _, _, _]) dX11_seat_39 (by decide) rfl rfl ?_
      refine x_iconst (pc := 41) (v := 0) dX11_seat_41 rfl ?_
      refine x_istore (pc := 42) (lv2 := [_, _, _, _, _, _, _]) dX11_seat_42 (by decide) rfl rfl ?_
      exact L 4 0 rfl κ2 D none kq.rf s7 (by
        have e : upF D 5 (D 5) = D := funext fun k => by
          by_cases hk : k = 5
          · rw [hk]
            exact funext fun _ => up_s
          · exact up_n hk
        rw [e]
        exact s2) (RM3 s6 hn5) s5.1 (fun i hi _ => (s5.2 i hi).2)
    · refine x_bipush (pc := 17) (v := -2) dX11_seat_17 rfl ?_
      refine x_ireturn (pc := 19) dX11_seat_19 rfl rfl ?_
      exact PP_e (congrArg Value.int (hv (fun z => by first | exact bi_0.mp h_5 z.1 | exact bi_0.mp h_14 z.2))) h60
end M999992
