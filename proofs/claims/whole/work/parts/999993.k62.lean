/-! the class: chance -/
section M999993
variable {Γ : Gm} {μ : Mem} {b : Kb} {κ κ2 κ3 : KS} {D : PD} {kp : Bool} {n r nt : Nat} {tn : Nat → Nat}
theorem div_l : ∀ a, a < 11 → ∀ g, g < 10 → (nI a / nI (g + 1)).toInt64 = lN (a / (g + 1)) := by decide +kernel
theorem PP_el {v v' : Int64} (e : v = v') (h : κ.2 3 6 0 = 0) : PP μ b κ (.long v) (some (.long v')) (KV μ b κ) := PP_e (congrArg Value.long e) h
theorem k_chance (x y z : Int32) (hC : CX μ b κ D kp n r nt tn) : XM Γ zX11_chance 8 0 0 [.ref (adO b 0), .int x, .int y, .int z] (KV μ b κ) (PP μ b κ (.long (chV D n x y z))) := by
  refine XM.of 2 rfl (by decide) (Nat.le_of_ble_eq_true rfl) ?_
  have hI := hC.1
  obtain ⟨-, ⟨c1, c2, c3, c4, c5, c6, c7⟩, ⟨c8, c9⟩, hh, -, ⟨p1, p2⟩, -, hsh, -⟩ := hI
  have hn5 : n ≤ 5 := hC.2.1.1.1
  have h14 : κ.1 1 4 = nI n := hC.2.1.2.1
  have h60 := hC.2.2.2.2.2.2
  have hr6 : r < 6 := by have := hC.2.2.2.1; omega
  have hv : ¬ ((¬ y < 1 ∧ ¬ y > 10) ∧ (0 ≤ z ∧ z < 2)) → chV D n x y z = -4611686018427387904 := fun h => by
    unfold chV
    rw [if_neg (fun q => h ⟨⟨Int32.not_lt.mpr q.1.1, Int32.not_lt.mpr q.1.2⟩, q.2.1, (i_lt 1 (by decide)).mpr q.2.2⟩)]
  have hw : ((¬ y < 1 ∧ ¬ y > 10) ∧ (0 ≤ z ∧ z < 2)) → chV D n x y z = (if z = 0 then lN (chC D n x (nn y) / Nat.gcd (chC D n x (nn y)) (nn y)) else lN (nn y / Nat.gcd (chC D n x (nn y)) (nn y))) := fun h => by
    unfold chV
    rw [if_pos ⟨⟨Int32.not_lt.mp h.1.1, Int32.not_lt.mp h.1.2⟩, h.2.1, (i_lt 1 (by decide)).mp h.2.2⟩]
  have hok : okD D n := hC.2.1.1
  refine x_iload_n (pc := 0) dX11_chance_0 rfl ?_
  refine x_iconst (pc := 1) (v := 1) dX11_chance_1 rfl ?_
  refine x_icmp_lt (pc := 2) (tgt := 19) dX11_chance_2 rfl (fun h_2 => ?_) (fun h_2 => ?_)
  · refine x_ldc2 (pc := 19) dX11_chance_19 kc_11_232 ?_
    refine x_lreturn (pc := 22) dX11_chance_22 rfl ?_
    exact PP_el (hv (fun q => by first | exact q.1.1 h_2 | exact q.1.2 h_8 | exact bi_0.mp h_16 q.2)) h60
  · refine x_iload_n (pc := 5) dX11_chance_5 rfl ?_
    refine x_bipush (pc := 6) (v := 10) dX11_chance_6 rfl ?_
    refine x_icmp_gt (pc := 8) (tgt := 19) dX11_chance_8 rfl (fun h_8 => ?_) (fun h_8 => ?_)
    · refine x_ldc2 (pc := 19) dX11_chance_19 kc_11_232 ?_
      refine x_lreturn (pc := 22) dX11_chance_22 rfl ?_
      exact PP_el (hv (fun q => by first | exact q.1.1 h_2 | exact q.1.2 h_8 | exact bi_0.mp h_16 q.2)) h60
    · refine x_iload_n (pc := 11) dX11_chance_11 rfl ?_
      refine x_iconst (pc := 12) (v := 2) dX11_chance_12 rfl ?_
      refine x_callS (pc := 13) (As := [.int _, .int _]) dX11_chance_13 mX11_isBelow lk_11_104 (k_isBelow _ _) rfl rfl (Nat.le_of_ble_eq_true rfl) ⟨by decide, by decide⟩ ⟨Nat.zero_le _, Nat.zero_le _⟩ (k_rt ?_)
      refine x_if_ne (pc := 16) (tgt := 23) dX11_chance_16 rfl (fun h_16 => ?_) (fun h_16 => ?_)
      · have hw := hw ⟨⟨h_2, h_8⟩, bi_n0 h_16⟩
        obtain ⟨K, hK, rfl⟩ := ixB (x := y) (c := 10) (n := 10) rfl ⟨Int32.le_trans (by decide) (Int32.not_lt.mp h_2), Int32.not_lt.mp h_8⟩ (by decide)
        have hK0 : 0 < K := by
          rcases Nat.eq_zero_or_pos K with q | q
          · rw [q] at h_2
            exact absurd (by decide) h_2
          · exact q
        rw [nn_nI (by omega)] at hw
        refine x_start (pc := 23) hC rfl dX11_chance_23 dX11_chance_24 dX11_chance_27 dX11_chance_28 dX11_chance_31 dX11_chance_32 dX11_chance_35 rfl ⟨by decide, by decide⟩ ⟨by decide, by decide⟩ (fun κ2 hS hP hI3 => ?_)
        obtain ⟨-, ⟨e1, e2, e3, e4, e5, e6, e7⟩, ⟨e8, e9⟩, e10, -, -, -, e11, -⟩ := hI3
        obtain ⟨s1, s2, s3, s4, s5, s6, s7⟩ := id hS
        have p3 := hP.1
        have q1 := e10.1
        have hcnt : κ2.1 1 4 = nI n := ((s1 1 4 (by unfold stP tP; omega)).1).trans h14
        have L : ∀ (m j : Nat), j + m = K → ∀ (κ' : KS), kq scP κ2 κ' → κ'.2 3 6 = κ2.2 3 6 → PL κ' D n 9 → PC κ' D n → WA Γ zX11_chance (xrm 8 0 0) 0 0 0 0 (PP μ b κ (.long (chV D n x (nI K) z))) 44 [some (.ref (adO b 0)), some (.int x), some (.int (nI K)), some (.int z), some (.int (nI (chC D n x j))), some (.int (nI j))] [] (KV (thR3 μ b) b κ') := by
          intro m
          induction m with
          | zero =>
            intro j hj κ' w1 w2 w3 w4
            obtain rfl : j = K := by omega
            have hA := ch_le D n x j
            have hg0 : 0 < Nat.gcd (chC D n x j) j := Nat.gcd_pos_of_pos_right _ (by omega)
            have hg1 : Nat.gcd (chC D n x j) j ≤ j := Nat.le_of_dvd (by omega) (Nat.gcd_dvd_right _ _)
            obtain ⟨g, hg⟩ : ∃ g, Nat.gcd (chC D n x j) j = g + 1 := ⟨Nat.gcd (chC D n x j) j - 1, by omega⟩
            have hgn : ¬ nI (Nat.gcd (chC D n x j) j) = 0 := nI_ne0 (by omega) (by omega)
            refine x_iload (pc := 44) dX11_chance_44 rfl ?_
            refine x_iload_n (pc := 46) dX11_chance_46 rfl ?_
            refine x_icmp_ge (pc := 47) (tgt := 87) dX11_chance_47 rfl (fun h_47 => ?_) (fun h_47 => absurd (Int32.le_refl _) h_47)
            refine x_iload_n (pc := 87) dX11_chance_87 rfl ?_
            refine x_iload (pc := 88) dX11_chance_88 rfl ?_
            refine x_callS (pc := 90) (As := [.int _, .int _]) dX11_chance_90 mX11_commonDivisor lk_11_234 (k_commonDivisor (x := j) (y := chC D n x j) (by omega) (by omega) hA) rfl rfl (Nat.le_of_ble_eq_true rfl) ⟨by decide, by decide⟩ ⟨Nat.zero_le _, Nat.zero_le _⟩ (k_rt ?_)
            refine x_istore (pc := 93) (lv2 := [_, _, _, _, _, _]) dX11_chance_93 (by decide) rfl rfl ?_
            refine x_iload_n (pc := 95) dX11_chance_95 rfl ?_
            refine x_if_ne (pc := 96) (tgt := 104) dX11_chance_96 rfl (fun h_96 => ?_) (fun h_96 => ?_)
            · refine x_iload_n (pc := 104) dX11_chance_104 rfl ?_
              refine x_iload (pc := 105) dX11_chance_105 rfl ?_
              refine x_idiv (pc := 107) dX11_chance_107 (hgn) ?_
              refine x_i2l (pc := 108) dX11_chance_108 ?_
              refine x_lreturn (pc := 109) dX11_chance_109 rfl ?_
              refine PP_g hr6 hS w1 (by rw [w2]; exact s7) (congrArg Value.long ?_)
              first
                | (rw [hw, if_pos h_96, hg]; exact (div_l _ (by omega) g (by omega)).symm)
                | (rw [hw, if_neg h_96, hg]; exact (div_l _ (by omega) g (by omega)).symm)
            · refine x_iload (pc := 99) dX11_chance_99 rfl ?_
              refine x_goto (pc := 101) (tgt := 105) dX11_chance_101 rfl ?_
              refine x_iload (pc := 105) dX11_chance_105 rfl ?_
              refine x_idiv (pc := 107) dX11_chance_107 (hgn) ?_
              refine x_i2l (pc := 108) dX11_chance_108 ?_
              refine x_lreturn (pc := 109) dX11_chance_109 rfl ?_
              refine PP_g hr6 hS w1 (by rw [w2]; exact s7) (congrArg Value.long ?_)
              first
                | (rw [hw, if_pos h_96, hg]; exact (div_l _ (by omega) g (by omega)).symm)
                | (rw [hw, if_neg h_96, hg]; exact (div_l _ (by omega) g (by omega)).symm)
          | succ m ih =>
            intro j hj κ' w1 w2 w3 w4
            have hjK : j < K := by omega
            have eA : chC D n x (j + 1) = chC D n x j + chB D n (x + nI j) := rfl
            have hA := ch_le D n x j
            obtain ⟨E, hE⟩ : ∃ E, E = drD D (x + nI j) := ⟨_, rfl⟩
            have hE6 : ∀ d, E 6 d = dwN (zz (x + nI j) (d + 1)) := fun d => by
              rw [hE]
              unfold drD
              exact up_s
            have hEn : ∀ k, k ≠ 6 → E k = D k := fun k hk => by
              rw [hE]
              exact up_n hk
            have eC : chB D n (x + nI j) = if brC (onD E n) ≤ (wkD E n 9 7).2.1 then 1 else 0 := by
              rw [hE]
              rfl
            have hokE : okD E n := ⟨hok.1, by rw [hEn 0 (by decide), hEn 1 (by decide), hEn 2 (by decide), hEn 3 (by decide)]; exact hok.2.1, by rw [hEn 4 (by decide)]; exact hok.2.2.1, by rw [hEn 5 (by decide)]; exact hok.2.2.2.1, fun d _ => by rw [hE6 d]; exact dw_lt _⟩
            have hGE : okG E n := by
              unfold okG
              rw [hEn 7 (by decide), hEn 8 (by decide), hEn 9 (by decide)]
              exact hC.2.2.1
            have hb1 : brC (onD E n) ≤ 46000 := on_le hokE hGE
            have hb2 := (wk_ok (aw := 9) hokE hGE 7 (Nat.le_refl 7)).1
            refine x_iload (pc := 44) dX11_chance_44 rfl ?_
            refine x_iload_n (pc := 46) dX11_chance_46 rfl ?_
            refine x_icmp_ge (pc := 47) (tgt := 87) dX11_chance_47 rfl (fun h_47 => absurd h_47 (lit_le (n := K) j (by omega) (by omega))) (fun h_47 => ?_)
            refine x_aload_n (pc := 50) dX11_chance_50 rfl ?_
            refine k_getR (pc := 51) e1 dX11_chance_51 fk_11_52 (Or.inl ⟨_, rfl⟩) (e4) ?_
            refine x_iload_n (pc := 54) dX11_chance_54 rfl ?_
            refine x_iload (pc := 55) dX11_chance_55 rfl ?_
            refine x_iadd (pc := 57) dX11_chance_57 ?_
            refine x_callV (pc := 58) (As := [.int _]) dX11_chance_58 mX4_draw lk_11_229 p3.2.2.1 (k_draw p3 (x + nI j)) rfl rfl (Nat.le_of_ble_eq_true rfl) ⟨by decide, by decide⟩ ⟨Nat.zero_le _, Nat.zero_le _⟩ (fun x μ3 hr => ?_)
            obtain ⟨κ3, rfl, rfl, q3', q4'⟩ := hr
            dsimp only [Option.toList, List.cons_append, List.nil_append]
            have g1 : PL κ3 D n 9 := PL_kq w3 q3' (by intro k hk; unfold daP; omega) (by intro t k hk; unfold daP; omega)
            have g2 : PL κ3 E n 9 := by
              rw [hE]
              exact PL_6 g1 (fun d _ => dw_lt _)
            have g3' : PC κ3 D n := PC_kq w4 q3' (by intro t; unfold daP; omega)
            have g3 : PC κ3 E n := by
              unfold PC
              rw [hEn 3 (by decide)]
              exact g3'
            have g4 : DC κ3 E := fun d hd => by
              rw [hE6 d]
              exact q4' d hd
            have hP' : KP (thR3 μ b) b (E 0) := by
              rw [hEn 0 (by decide)]
              exact hP
            refine x_aload_n (pc := 61) dX11_chance_61 rfl ?_
            refine k_getR (pc := 62) e1 dX11_chance_62 fk_11_52 (Or.inl ⟨_, rfl⟩) (e4) ?_
            refine x_callV (pc := 65) (As := []) dX11_chance_65 mX4_onceCost lk_11_165 p3.2.2.1 (k_onceCost (D := E) hP' g2 g3 g4) rfl rfl (Nat.le_of_ble_eq_true rfl) ⟨by decide, by decide⟩ ⟨Nat.zero_le _, Nat.zero_le _⟩ (fun x μ3 hr => ?_)
            obtain ⟨κ4, rfl, rfl, q5', -⟩ := hr
            dsimp only [Option.toList, List.cons_append, List.nil_append]
            have f2 : PL κ4 E n 9 := PL_kq g2 q5' (by intro k hk; unfold plP; omega) (by intro t k hk; unfold plP; omega)
            have f1 : PL κ4 D n 9 := PL_kq g1 q5' (by intro k hk; unfold plP; omega) (by intro t k hk; unfold plP; omega)
            refine x_aload_n (pc := 68) dX11_chance_68 rfl ?_
            refine k_getR (pc := 69) e1 dX11_chance_69 fk_11_52 (Or.inl ⟨_, rfl⟩) (e4) ?_
            refine x_callV (pc := 72) (As := []) dX11_chance_72 mX4_weekCost lk_11_168 p3.2.2.1 (k_weekCost (D := E) hP' f2 (g3.kq q5') (g4.kq q5')) rfl rfl (Nat.le_of_ble_eq_true rfl) ⟨by decide, by decide⟩ ⟨Nat.zero_le _, Nat.zero_le _⟩ (fun x μ3 hr => ?_)
            obtain ⟨κ5, rfl, rfl, q6', -, -⟩ := hr
            dsimp only [Option.toList, List.cons_append, List.nil_append]
            obtain ⟨y1, y2⟩ := scP_pl q5'
            obtain ⟨y3, y4⟩ := scP_pl q6'
            have v1 : kq scP κ2 κ5 := w1.trans ((q3'.mono (fun a k z => Or.inl z.1)).trans (y1.trans y3))
            have v2 : κ5.2 3 6 = κ2.2 3 6 := by rw [y4, y2, (q3' 3 6 (by unfold daP; omega)).2, w2]
            have v3 : PL κ5 D n 9 := PL_kq f1 q6' (by intro k hk; unfold plP; omega) (by intro t k hk; unfold plP; omega)
            have v4 : PC κ5 D n := (g3'.kq q5').kq q6'
            have ih2 := ih (j + 1) (by omega) κ5 v1 v2 v3 v4
            rw [eA] at ih2
            refine x_icmp_gt (pc := 75) (tgt := 81) dX11_chance_75 rfl (fun h_75 => ?_) (fun h_75 => ?_)
            · refine x_iinc (pc := 81) (lv2 := [_, _, _, _, _, _]) dX11_chance_81 (by decide) rfl rfl (nI_1 _) rfl ?_
              refine x_goto (pc := 84) (tgt := 44) dX11_chance_84 rfl ?_
              first
                | (rw [eC, if_neg (fun q => absurd ((nI_leI (by omega) (by omega)).mpr q) (Int32.not_le.mpr h_75)), Nat.add_zero] at ih2
                   exact ih2)
                | (rw [eC, if_pos ((nI_leI (by omega) (by omega)).mp (Int32.not_lt.mp h_75))] at ih2
                   exact ih2)
            · refine x_iinc (pc := 78) (lv2 := [_, _, _, _, _, _]) dX11_chance_78 (by decide) rfl rfl (nI_1 _) rfl ?_
              refine x_iinc (pc := 81) (lv2 := [_, _, _, _, _, _]) dX11_chance_81 (by decide) rfl rfl (nI_1 _) rfl ?_
              refine x_goto (pc := 84) (tgt := 44) dX11_chance_84 rfl ?_
              first
                | (rw [eC, if_neg (fun q => absurd ((nI_leI (by omega) (by omega)).mpr q) (Int32.not_le.mpr h_75)), Nat.add_zero] at ih2
                   exact ih2)
                | (rw [eC, if_pos ((nI_leI (by omega) (by omega)).mp (Int32.not_lt.mp h_75))] at ih2
                   exact ih2)
        refine x_iconst (pc := 38) (v := 0) dX11_chance_38 rfl ?_
        refine x_istore (pc := 39) (lv2 := [_, _, _, _, _, _]) dX11_chance_39 (by decide) rfl rfl ?_
        refine x_iconst (pc := 41) (v := 0) dX11_chance_41 rfl ?_
        refine x_istore (pc := 42) (lv2 := [_, _, _, _, _, _]) dX11_chance_42 (by decide) rfl rfl ?_
        exact L K 0 (by omega) κ2 kq.rf rfl s2 s3
      · refine x_ldc2 (pc := 19) dX11_chance_19 kc_11_232 ?_
        refine x_lreturn (pc := 22) dX11_chance_22 rfl ?_
        exact PP_el (hv (fun q => by first | exact q.1.1 h_2 | exact q.1.2 h_8 | exact bi_0.mp h_16 q.2)) h60
end M999993
