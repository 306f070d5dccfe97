/-! the class: seen -/
def seenC (κ : KS) (D : PD) (n : Nat) (x y : Int32) : Int32 := if (0 ≤ x ∧ x < 4) ∧ (0 ≤ y ∧ y < 3) then (if κ.1 (5 + nn x) 0 = -1 then -11 else if ¬ κ.1 (5 + nn x) 1 = nI n then -2 else snV D n (fun t => spI (κ.2 (5 + nn x) 2 t)) y) else -2
section M999996
variable {Γ : Gm} {μ : Mem} {b : Kb} {κ κ2 κ3 : KS} {D : PD} {kp : Bool} {n r nt : Nat} {tn : Nat → Nat}
theorem k_seen (x y : Int32) (hC : CX μ b κ D kp n r nt tn) : XM Γ zX11_seen 8 0 0 [.ref (adO b 0), .int x, .int y] (KV μ b κ) (PP μ b κ (.int (seenC κ D n x y))) := by
  refine XM.of 2 rfl (by decide) (Nat.le_of_ble_eq_true rfl) ?_
  have hI := hC.1
  obtain ⟨-, ⟨c1, c2, c3, c4, c5, c6, c7⟩, ⟨c8, c9⟩, hh, -, ⟨p1, p2⟩, -, hsh, -⟩ := hI
  have hn5 : n ≤ 5 := hC.2.1.1.1
  have h14 : κ.1 1 4 = nI n := hC.2.1.2.1
  have h60 := hC.2.2.2.2.2.2
  have hr6 : r < 6 := by have := hC.2.2.2.1; omega
  have hv : ¬ ((0 ≤ x ∧ x < 4) ∧ (0 ≤ y ∧ y < 3)) → seenC κ D n x y = -2 := fun h => by
    unfold seenC
    rw [if_neg h]
  have hw : ((0 ≤ x ∧ x < 4) ∧ (0 ≤ y ∧ y < 3)) → seenC κ D n x y = (if κ.1 (5 + nn x) 0 = -1 then -11 else if ¬ κ.1 (5 + nn x) 1 = nI n then -2 else snV D n (fun t => spI (κ.2 (5 + nn x) 2 t)) y) := fun h => by
    unfold seenC
    rw [if_pos h]
  refine x_iload_n (pc := 0) dX11_seen_0 rfl ?_
  refine x_iconst (pc := 1) (v := 4) dX11_seen_1 rfl ?_
  refine x_callS (pc := 2) (As := [.int _, .int _]) dX11_seen_2 mX11_isBelow lk_11_104 (k_isBelow _ _) rfl rfl (Nat.le_of_ble_eq_true rfl) ⟨by decide, by decide⟩ ⟨Nat.zero_le _, Nat.zero_le _⟩ (k_rt ?_)
  refine x_if_eq (pc := 5) (tgt := 16) dX11_seen_5 rfl (fun h_5 => ?_) (fun h_5 => ?_)
  · refine x_bipush (pc := 16) (v := -2) dX11_seen_16 rfl ?_
    refine x_ireturn (pc := 18) dX11_seen_18 rfl rfl ?_
    exact PP_e (congrArg Value.int (hv (fun z => by first | exact bi_0.mp h_5 z.1 | exact bi_0.mp h_13 z.2))) h60
  · refine x_iload_n (pc := 8) dX11_seen_8 rfl ?_
    refine x_iconst (pc := 9) (v := 3) dX11_seen_9 rfl ?_
    refine x_callS (pc := 10) (As := [.int _, .int _]) dX11_seen_10 mX11_isBelow lk_11_104 (k_isBelow _ _) rfl rfl (Nat.le_of_ble_eq_true rfl) ⟨by decide, by decide⟩ ⟨Nat.zero_le _, Nat.zero_le _⟩ (k_rt ?_)
    refine x_if_ne (pc := 13) (tgt := 19) dX11_seen_13 rfl (fun h_13 => ?_) (fun h_13 => ?_)
    · obtain ⟨i, hi, rfl⟩ := ixD (n := 4) (bi_n0 h_5) (by decide)
      have hw := hw ⟨bi_n0 h_5, bi_n0 h_13⟩
      rw [nn_nI (by omega)] at hw
      refine x_aload_n (pc := 19) dX11_seen_19 rfl ?_
      refine k_getR (pc := 20) c1 dX11_seen_20 fk_11_45 (Or.inr ⟨_, rfl⟩) (c6) ?_
      refine x_iload_n (pc := 23) dX11_seen_23 rfl ?_
      refine x_aald (pc := 24) dX11_seen_24 (c9.2.1) (Or.inr (Or.inr rfl)) (rfl) (hi) (by decide) ((hsh i hi).1) ?_
      refine x_astore_n (pc := 25) (lv2 := [_, _, _, _, _]) dX11_seen_25 (by decide) rfl rfl ?_
      refine x_aload_n (pc := 26) dX11_seen_26 rfl ?_
      refine k_getI (pc := 27) (hsh i hi).2 dX11_seen_27 fk_11_193 (Or.inl rfl) ?_
      refine x_iconst (pc := 30) (v := -1) dX11_seen_30 rfl ?_
      refine x_icmp_ne (pc := 31) (tgt := 37) dX11_seen_31 rfl (fun h_31 => ?_) (fun h_31 => ?_)
      · rw [if_neg h_31] at hw
        refine x_aload_n (pc := 37) dX11_seen_37 rfl ?_
        refine k_getI (pc := 38) (hsh i hi).2 dX11_seen_38 fk_11_196 (Or.inl rfl) ?_
        refine x_aload_n (pc := 41) dX11_seen_41 rfl ?_
        refine k_getR (pc := 42) c1 dX11_seen_42 fk_11_10 (Or.inl ⟨_, rfl⟩) (c2) ?_
        refine k_getI (pc := 45) hh.1 dX11_seen_45 fk_11_108 (Or.inl rfl) ?_
        rw [h14]
        refine x_icmp_eq (pc := 48) (tgt := 54) dX11_seen_48 rfl (fun h_48 => ?_) (fun h_48 => ?_)
        · rw [if_neg (fun q => q h_48)] at hw
          refine x_start (pc := 54) hC rfl dX11_seen_54 dX11_seen_55 dX11_seen_58 dX11_seen_59 dX11_seen_62 dX11_seen_63 dX11_seen_66 rfl ⟨by decide, by decide⟩ ⟨by decide, by decide⟩ (fun κ2 hS hP hI3 => ?_)
          obtain ⟨-, ⟨e1, e2, e3, e4, e5, e6, e7⟩, ⟨e8, e9⟩, e10, -, -, -, e11, -⟩ := hI3
          obtain ⟨s1, s2, s3, s4, s5, s6, s7⟩ := id hS
          have p3 := hP.1
          have q1 := e10.1
          have hcnt : κ2.1 1 4 = nI n := ((s1 1 4 (by unfold stP tP; omega)).1).trans h14
          have eκ : κ2.2 (5 + i) 2 = κ.2 (5 + i) 2 := (s1 (5 + i) 2 (by unfold stP tP; omega)).2
          refine x_aload_n (pc := 69) dX11_seen_69 rfl ?_
          refine k_getR (pc := 70) e1 dX11_seen_70 fk_11_52 (Or.inl ⟨_, rfl⟩) (e4) ?_
          refine x_aload_n (pc := 73) dX11_seen_73 rfl ?_
          refine k_getA (pc := 74) (e11 i hi).2 dX11_seen_74 fk_11_199 (Or.inr ⟨_, rfl⟩) (by decide) ?_
          refine x_callV (pc := 77) (As := [.ref _]) dX11_seen_77 mX4_enters lk_11_202 p3.2.2.1 (k_enters hP s2 (e11 i hi).2 (by omega) (by decide) (by decide)) rfl rfl (Nat.le_of_ble_eq_true rfl) ⟨by decide, by decide⟩ ⟨Nat.zero_le _, Nat.zero_le _⟩ (fun x μ3 hr => ?_)
          obtain ⟨κ3, rfl, q3', hr2⟩ := hr
          rw [eκ] at hr2
          have g2 : PL κ3 D n 9 := PL_kq s2 q3' (by intro k hk; unfold roP; omega) (by intro t k hk; unfold roP; omega)
          have h63 : κ3.2 3 6 0 = 0 := by
            rw [(q3' 3 6 (by unfold roP; omega)).2]
            exact s7
          obtain ⟨hir, rfl⟩ | ⟨hir, rfl, hrm⟩ := hr2
          · dsimp only [Option.toList, List.cons_append, List.nil_append]
            refine x_if_ne (pc := 80) (tgt := 86) dX11_seen_80 rfl (fun h_80 => absurd (by decide) h_80) (fun h_80 => ?_)
            refine x_bipush (pc := 83) (v := -3) dX11_seen_83 rfl ?_
            refine x_ireturn (pc := 85) dX11_seen_85 rfl rfl ?_
            refine PP_g hr6 hS (q3'.mono (fun a k z => Or.inl z.1)) h63 (congrArg Value.int ?_)
            rw [hw]
            exact if_pos hir
          · dsimp only [Option.toList, List.cons_append, List.nil_append]
            refine x_if_ne (pc := 80) (tgt := 86) dX11_seen_80 rfl (fun h_80 => ?_) (fun h_80 => absurd h_80 (by decide))
            refine x_iload_n (pc := 86) dX11_seen_86 rfl ?_
            refine x_iconst (pc := 87) (v := 2) dX11_seen_87 rfl ?_
            refine x_icmp_ne (pc := 88) (tgt := 99) dX11_seen_88 rfl (fun h_88 => ?_) (fun h_88 => ?_)
            · refine x_aload_n (pc := 99) dX11_seen_99 rfl ?_
              refine k_getR (pc := 100) e1 dX11_seen_100 fk_11_52 (Or.inl ⟨_, rfl⟩) (e4) ?_
              refine x_callV (pc := 103) (As := []) dX11_seen_103 mX4_expected lk_11_209 p3.2.2.1 (k_expected hP g2 hrm) rfl rfl (Nat.le_of_ble_eq_true rfl) ⟨by decide, by decide⟩ ⟨Nat.zero_le _, Nat.zero_le _⟩ (fun x μ4 hr4 => ?_)
              obtain ⟨κ4, rfl, rfl, q4'⟩ := hr4
              dsimp only [Option.toList, List.cons_append, List.nil_append]
              obtain ⟨y1, y2⟩ := scP_pl q4'
              have z1 : kq scP κ2 κ4 := (q3'.mono (fun a k z => Or.inl z.1)).trans y1
              have z2 : κ4.2 3 6 0 = 0 := by
                rw [y2]
                exact h63
              have hlt : exS D n (fun t => spI (κ.2 (5 + i) 2 t)) 16 < 65536 := (ex_bits D n _ 16).1
              refine x_istore (pc := 106) (lv2 := [_, _, _, _, _]) dX11_seen_106 (by decide) rfl rfl ?_
              refine x_iload_n (pc := 108) dX11_seen_108 rfl ?_
              refine x_if_ne (pc := 109) (tgt := 120) dX11_seen_109 rfl (fun h_109 => ?_) (fun h_109 => ?_)
              · refine x_iload (pc := 120) dX11_seen_120 rfl ?_
                refine x_callS (pc := 122) (As := [.int _]) dX11_seen_122 mX11_lowestBit lk_11_217 (k_lowestBit _) rfl rfl (Nat.le_of_ble_eq_true rfl) ⟨by decide, by decide⟩ ⟨Nat.zero_le _, Nat.zero_le _⟩ (fun x μ5 hr5 => ?_)
                obtain ⟨rfl, ⟨j, hj, j1, j2, rfl⟩ | ⟨j1, rfl⟩⟩ := hr5
                · refine x_ireturn (pc := 125) dX11_seen_125 rfl rfl ?_
                  refine PP_g hr6 hS z1 z2 (congrArg Value.int ?_)
                  rw [hw]
                  refine (if_neg hir).trans ((if_neg h_88).trans ((if_neg h_109).trans ?_))
                  have p1 : exP D n (fun t => spI (κ.2 (5 + i) 2 t)) j = true := by
                    have := (ex_bits D n (fun t => spI (κ.2 (5 + i) 2 t)) 16).2 j
                    rcases Bool.eq_false_or_eq_true (exP D n (fun t => spI (κ.2 (5 + i) 2 t)) j) with q | q
                    · exact q
                    · rw [q, Bool.and_false] at this
                      exact absurd ((hbI_N hlt hj).mpr this) j1
                  have p2 : ∀ l, l < j → exP D n (fun t => spI (κ.2 (5 + i) 2 t)) l = false := fun l hl => by
                    have := (ex_bits D n (fun t => spI (κ.2 (5 + i) 2 t)) 16).2 l
                    rw [(hbI_N hlt (by omega)).mp (j2 l hl), decide_eq_true (show l < 16 by omega), Bool.true_and] at this
                    exact this.symm
                  have p3 := ex_fst D n (fun t => spI (κ.2 (5 + i) 2 t)) p1 p2 (15 - j)
                  rw [show j + 1 + (15 - j) = 16 by omega] at p3
                  rw [p3]
                  exact nI_pred j
                · refine x_ireturn (pc := 125) dX11_seen_125 rfl rfl ?_
                  refine PP_g hr6 hS z1 z2 (congrArg Value.int ?_)
                  rw [hw]
                  refine (if_neg hir).trans ((if_neg h_88).trans ((if_neg h_109).trans ?_))
                  rw [ex_low D n (fun t => spI (κ.2 (5 + i) 2 t)) 16 (fun l hl => by
                    have := (ex_bits D n (fun t => spI (κ.2 (5 + i) 2 t)) 16).2 l
                    rw [(hbI_N hlt hl).mp (j1 l hl), decide_eq_true hl, Bool.true_and] at this
                    exact this.symm)]
                  rfl
              · refine x_iload (pc := 112) dX11_seen_112 rfl ?_
                refine x_callS (pc := 114) (As := [.int _]) dX11_seen_114 mJ6_bitCount_0f7a4 lk_11_212 (k_bitCount _) rfl rfl (Nat.le_of_ble_eq_true rfl) ⟨by decide, by decide⟩ ⟨Nat.zero_le _, Nat.zero_le _⟩ (k_rt ?_)
                refine x_goto (pc := 117) (tgt := 125) dX11_seen_117 rfl ?_
                refine x_ireturn (pc := 125) dX11_seen_125 rfl rfl ?_
                refine PP_g hr6 hS z1 z2 (congrArg Value.int ?_)
                rw [hw, pcI_N hlt, ppN_c hlt, ex_cnt]
                exact (if_neg hir).trans ((if_neg h_88).trans (if_pos h_109))
            · refine x_aload_n (pc := 91) dX11_seen_91 rfl ?_
              refine k_getR (pc := 92) e1 dX11_seen_92 fk_11_52 (Or.inl ⟨_, rfl⟩) (e4) ?_
              refine x_callV (pc := 95) (As := []) dX11_seen_95 mX4_surprised lk_11_206 p3.2.2.1 (k_surprised hP g2 hrm) rfl rfl (Nat.le_of_ble_eq_true rfl) ⟨by decide, by decide⟩ ⟨Nat.zero_le _, Nat.zero_le _⟩ (k_rt ?_)
              refine x_ireturn (pc := 98) dX11_seen_98 rfl rfl ?_
              refine PP_g hr6 hS (q3'.mono (fun a k z => Or.inl z.1)) h63 (congrArg Value.int ?_)
              rw [hw]
              exact (if_neg hir).trans (if_pos h_88)
        · refine x_bipush (pc := 51) (v := -2) dX11_seen_51 rfl ?_
          refine x_ireturn (pc := 53) dX11_seen_53 rfl rfl ?_
          exact PP_e (congrArg Value.int (hw.trans (if_pos h_48))) h60
      · refine x_bipush (pc := 34) (v := -11) dX11_seen_34 rfl ?_
        refine x_ireturn (pc := 36) dX11_seen_36 rfl rfl ?_
        exact PP_e (congrArg Value.int (hw.trans (if_pos h_31))) h60
    · refine x_bipush (pc := 16) (v := -2) dX11_seen_16 rfl ?_
      refine x_ireturn (pc := 18) dX11_seen_18 rfl rfl ?_
      exact PP_e (congrArg Value.int (hv (fun z => by first | exact bi_0.mp h_5 z.1 | exact bi_0.mp h_13 z.2))) h60
end M999996
