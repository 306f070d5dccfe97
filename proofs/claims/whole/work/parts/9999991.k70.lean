/-! the class: put, back, image -/
def puK (κ : KS) (kd : Nat → Nat) (n r : Nat) (tn : Nat → Nat) (t p v : Int32) (κ2 : KS) : Prop := (¬ ((0 ≤ t ∧ t < nI n) ∧ (p = -1 ∨ (0 ≤ p ∧ p < 6))) ∧ v = -2 ∧ κ2 = κ) ∨ ∃ i, i < n ∧ t = nI i ∧ (p = -1 ∨ (0 ≤ p ∧ p < 6)) ∧ ((κ.1 (15 + i) 5 = p ∧ v = 0 ∧ κ2 = κ) ∨ (¬ κ.1 (15 + i) 5 = p ∧ ¬ p = -1 ∧ (stI (nI (kd i)) p = 0 ∨ ∃ t, t < n ∧ κ.1 (15 + t) 5 = p) ∧ v = -3 ∧ κ2 = κ) ∨ (¬ κ.1 (15 + i) 5 = p ∧ (p = -1 ∨ (¬ stI (nI (kd i)) p = 0 ∧ ¬ ∃ t, t < n ∧ κ.1 (15 + t) 5 = p)) ∧ ∃ s, s < 7 ∧ p = nI s - 1 ∧ v = tVal (kI κ (15 + i) 5 p) (9 + r) (tn r) (15 + i) 0 (spl s) 0 ∧ kq (tP (9 + r)) (kI κ (15 + i) 5 p) κ2))
section M9999991
variable {Γ : Gm} {μ : Mem} {b : Kb} {κ : KS} {kd : Nat → Nat} {kp : Bool} {n nt : Nat} {tn : Nat → Nat}
theorem k_put (hI : CI μ b kd kp 4 nt tn) (t p : Int32) {r : Nat} (h14 : κ.1 1 4 = nI n) (hn5 : n ≤ 5) (hkd : ∀ i, i < 5 → kd i < 6) (hr : r < nt) (hnt : nt ≤ 6) (h15 : κ.1 1 5 = nI r) (ht0 : tn r ≠ 0 ∧ tn r < 2 ^ 31 ∧ tOk κ (9 + r)) : XM Γ zX11_put 4 0 0 [.ref (adO b 0), .int t, .int p] (KV μ b κ) (fun x M => ∃ v κ2, x = some (.int v) ∧ M = KV μ b κ2 ∧ puK κ kd n r tn t p v κ2) := by
  refine XM.of 1 rfl (by decide) (Nat.le_of_ble_eq_true rfl) ?_
  have hI' := hI
  obtain ⟨-, ⟨c1, c2, c3, c4, c5, c6, c7⟩, ⟨c8, c9⟩, hh, -, ⟨p1, p2⟩, c10, hsh, -⟩ := hI'
  have htx := (hI.2.2.2.2.2.2.2.2 r hr).2
  refine x_aload_n (pc := 0) dX11_put_0 rfl ?_
  refine k_getR (pc := 1) c1 dX11_put_1 fk_11_10 (Or.inl ⟨_, rfl⟩) (c2) ?_
  refine x_iload_n (pc := 4) dX11_put_4 rfl ?_
  refine x_callV (pc := 5) (As := [.int _]) dX11_put_5 mX2_has lk_11_90 hh.1.2.2.1 (k_has hh.1 h14 hn5) rfl rfl (Nat.le_of_ble_eq_true rfl) ⟨by decide, by decide⟩ ⟨Nat.zero_le _, Nat.zero_le _⟩ (k_rt ?_)
  refine x_if_eq (pc := 8) (tgt := 25) dX11_put_8 rfl (fun h_8 => ?_) (fun h_8 => ?_)
  · refine x_bipush (pc := 25) (v := -2) dX11_put_25 rfl ?_
    refine x_ireturn (pc := 27) dX11_put_27 rfl rfl ?_
    refine ⟨_, _, rfl, rfl, ?_⟩
    exact Or.inl ⟨fun z => by first | exact bi_0.mp h_8 z.1 | exact z.2.elim h_13 (bi_0.mp h_22), rfl, rfl⟩
  · refine x_iload_n (pc := 11) dX11_put_11 rfl ?_
    refine x_iconst (pc := 12) (v := -1) dX11_put_12 rfl ?_
    refine x_icmp_eq (pc := 13) (tgt := 28) dX11_put_13 rfl (fun h_13 => ?_) (fun h_13 => ?_)
    · have ht := bi_n0 h_8
      have hp : p = -1 ∨ (0 ≤ p ∧ p < 6) := by first | exact Or.inl h_13 | exact Or.inr (bi_n0 h_22)
      obtain ⟨i, hi, rfl⟩ := ixD (n := n) ht (by omega)
      refine x_aload_n (pc := 28) dX11_put_28 rfl ?_
      refine k_getR (pc := 29) c1 dX11_put_29 fk_11_10 (Or.inl ⟨_, rfl⟩) (c2) ?_
      refine k_getR (pc := 32) hh.1 dX11_put_32 fk_11_94 (Or.inr ⟨_, rfl⟩) (hh.2.2.1) ?_
      refine x_iload_n (pc := 35) dX11_put_35 rfl ?_
      refine x_aald (pc := 36) dX11_put_36 (hh.2.1.2.1) (Or.inl rfl) (rfl) (show i < 5 by omega) (by decide) ((hh.2.2.2.2 i (by omega)).1) ?_
      refine x_astore_n (pc := 37) (lv2 := [_, _, _, _]) dX11_put_37 (by decide) rfl rfl ?_
      refine x_aload_n (pc := 38) dX11_put_38 rfl ?_
      refine k_getI (pc := 39) (hh.2.2.2.2 i (show i < 5 by omega)).2 dX11_put_39 (fk_11_114 (kci_th _)) (Or.inl (th_i (kci_th _) (by decide))) ?_
      refine x_iload_n (pc := 42) dX11_put_42 rfl ?_
      refine x_icmp_ne (pc := 43) (tgt := 48) dX11_put_43 rfl (fun h_43 => ?_) (fun h_43 => ?_)
      · refine x_iload_n (pc := 48) dX11_put_48 rfl ?_
        refine x_iconst (pc := 49) (v := -1) dX11_put_49 rfl ?_
        refine x_icmp_eq (pc := 50) (tgt := 75) dX11_put_50 rfl (fun h_50 => ?_) (fun h_50 => ?_)
        · have hpl : ∃ s, s < 7 ∧ p = nI s - 1 ∧ p + 1 = nI s := by
            rcases hp with rfl | hp6
            · exact ⟨0, by decide, rfl, rfl⟩
            · obtain ⟨j, hj, rfl⟩ := ixD (n := 6) hp6 (by decide)
              exact ⟨j + 1, by omega, (nI_pred j).symm, nI_1 j⟩
          obtain ⟨s, hs7, ep, ep1⟩ := hpl
          have hok : p = -1 ∨ (¬ stI (nI (kd i)) p = 0 ∧ ¬ ∃ t, t < n ∧ κ.1 (15 + t) 5 = p) := by first | exact Or.inl h_50 | exact Or.inr ⟨h_58, bi_0.mp h_69⟩
          refine x_aload_n (pc := 75) dX11_put_75 rfl ?_
          refine x_iload_n (pc := 76) dX11_put_76 rfl ?_
          refine k_putI (pc := 77) (hh.2.2.2.2 i (show i < 5 by omega)).2 dX11_put_77 (fk_11_114 (kci_th _)) (Or.inl (th_f (kci_th _) (by decide))) (Or.inl (th_i (kci_th _) (by decide))) ?_
          refine x_aload_n (pc := 80) dX11_put_80 rfl ?_
          refine x_aload_n (pc := 81) dX11_put_81 rfl ?_
          refine x_callV (pc := 82) (As := []) dX11_put_82 mX11_rule lk_11_123 c1.2.2.1 (k_rule hI hr hnt (by rw [kI_n (Or.inl (by omega))]; exact h15)) rfl rfl (Nat.le_of_ble_eq_true rfl) ⟨by decide, by decide⟩ ⟨Nat.zero_le _, Nat.zero_le _⟩ (k_rt ?_)
          refine x_iload_n (pc := 85) dX11_put_85 rfl ?_
          refine x_iconst (pc := 86) (v := 1) dX11_put_86 rfl ?_
          refine x_iadd (pc := 87) dX11_put_87 ?_
          rw [ep1]
          refine x_callU (pc := 88) (As := [.ref _, .int _]) dX11_put_88 mX9_movesTo (lt_11_126 (kci_th (kd i))) (hh.2.2.2.2 i (show i < 5 by omega)).2.2.2.1 (k_movesTo (kci_th (kd i)) (hh.2.2.2.2 i (show i < 5 by omega)).2 htx ht0.1 ht0.2.1 (by omega) hs7 ht0.2.2) rfl rfl (Nat.le_of_ble_eq_true rfl) ⟨by decide, by decide⟩ ⟨Nat.zero_le _, Nat.zero_le _⟩ (fun x μ3 hx => ?_)
          obtain ⟨κ3, rfl, rfl, q3⟩ := hx
          dsimp only [Option.toList, List.cons_append, List.nil_append]
          refine x_ireturn (pc := 91) dX11_put_91 rfl rfl ?_
          exact ⟨_, _, rfl, rfl, Or.inr ⟨i, hi, rfl, hp, Or.inr (Or.inr ⟨h_43, hok, s, hs7, ep, rfl, q3⟩)⟩⟩
        · refine x_aload_n (pc := 53) dX11_put_53 rfl ?_
          refine x_iload_n (pc := 54) dX11_put_54 rfl ?_
          refine x_callU (pc := 55) (As := [.int _]) dX11_put_55 (mS (kci_th (kd i))) (lv_11_117 (kci_th (kd i))) (hh.2.2.2.2 i (show i < 5 by omega)).2.2.2.1 (k_stV (μ := KV μ b κ) (q := adO b (15 + i)) (hkd i (by omega)) (hh.2.2.2.2 i (show i < 5 by omega)).2.2.2.1 p) rfl rfl (Nat.le_of_ble_eq_true rfl) ⟨by decide, by decide⟩ ⟨Nat.zero_le _, Nat.zero_le _⟩ (k_rt ?_)
          refine x_if_eq (pc := 58) (tgt := 72) dX11_put_58 rfl (fun h_58 => ?_) (fun h_58 => ?_)
          · refine x_bipush (pc := 72) (v := -3) dX11_put_72 rfl ?_
            refine x_ireturn (pc := 74) dX11_put_74 rfl rfl ?_
            refine ⟨_, _, rfl, rfl, ?_⟩
            exact Or.inr ⟨i, hi, rfl, hp, Or.inr (Or.inl ⟨h_43, h_50, by first | exact Or.inl h_58 | exact Or.inr (bi_n0 h_69), rfl, rfl⟩)⟩
          · refine x_aload_n (pc := 61) dX11_put_61 rfl ?_
            refine k_getR (pc := 62) c1 dX11_put_62 fk_11_10 (Or.inl ⟨_, rfl⟩) (c2) ?_
            refine x_iload_n (pc := 65) dX11_put_65 rfl ?_
            refine x_callV (pc := 66) (As := [.int _]) dX11_put_66 mX2_isTaken lk_11_120 hh.1.2.2.1 (k_isTaken hh.1 h14 hn5 hh.2.2) rfl rfl (Nat.le_of_ble_eq_true rfl) ⟨by decide, by decide⟩ ⟨Nat.zero_le _, Nat.zero_le _⟩ (k_rt ?_)
            refine x_if_eq (pc := 69) (tgt := 75) dX11_put_69 rfl (fun h_69 => ?_) (fun h_69 => ?_)
            · have hpl : ∃ s, s < 7 ∧ p = nI s - 1 ∧ p + 1 = nI s := by
                rcases hp with rfl | hp6
                · exact ⟨0, by decide, rfl, rfl⟩
                · obtain ⟨j, hj, rfl⟩ := ixD (n := 6) hp6 (by decide)
                  exact ⟨j + 1, by omega, (nI_pred j).symm, nI_1 j⟩
              obtain ⟨s, hs7, ep, ep1⟩ := hpl
              have hok : p = -1 ∨ (¬ stI (nI (kd i)) p = 0 ∧ ¬ ∃ t, t < n ∧ κ.1 (15 + t) 5 = p) := by first | exact Or.inl h_50 | exact Or.inr ⟨h_58, bi_0.mp h_69⟩
              refine x_aload_n (pc := 75) dX11_put_75 rfl ?_
              refine x_iload_n (pc := 76) dX11_put_76 rfl ?_
              refine k_putI (pc := 77) (hh.2.2.2.2 i (show i < 5 by omega)).2 dX11_put_77 (fk_11_114 (kci_th _)) (Or.inl (th_f (kci_th _) (by decide))) (Or.inl (th_i (kci_th _) (by decide))) ?_
              refine x_aload_n (pc := 80) dX11_put_80 rfl ?_
              refine x_aload_n (pc := 81) dX11_put_81 rfl ?_
              refine x_callV (pc := 82) (As := []) dX11_put_82 mX11_rule lk_11_123 c1.2.2.1 (k_rule hI hr hnt (by rw [kI_n (Or.inl (by omega))]; exact h15)) rfl rfl (Nat.le_of_ble_eq_true rfl) ⟨by decide, by decide⟩ ⟨Nat.zero_le _, Nat.zero_le _⟩ (k_rt ?_)
              refine x_iload_n (pc := 85) dX11_put_85 rfl ?_
              refine x_iconst (pc := 86) (v := 1) dX11_put_86 rfl ?_
              refine x_iadd (pc := 87) dX11_put_87 ?_
              rw [ep1]
              refine x_callU (pc := 88) (As := [.ref _, .int _]) dX11_put_88 mX9_movesTo (lt_11_126 (kci_th (kd i))) (hh.2.2.2.2 i (show i < 5 by omega)).2.2.2.1 (k_movesTo (kci_th (kd i)) (hh.2.2.2.2 i (show i < 5 by omega)).2 htx ht0.1 ht0.2.1 (by omega) hs7 ht0.2.2) rfl rfl (Nat.le_of_ble_eq_true rfl) ⟨by decide, by decide⟩ ⟨Nat.zero_le _, Nat.zero_le _⟩ (fun x μ3 hx => ?_)
              obtain ⟨κ3, rfl, rfl, q3⟩ := hx
              dsimp only [Option.toList, List.cons_append, List.nil_append]
              refine x_ireturn (pc := 91) dX11_put_91 rfl rfl ?_
              exact ⟨_, _, rfl, rfl, Or.inr ⟨i, hi, rfl, hp, Or.inr (Or.inr ⟨h_43, hok, s, hs7, ep, rfl, q3⟩)⟩⟩
            · refine x_bipush (pc := 72) (v := -3) dX11_put_72 rfl ?_
              refine x_ireturn (pc := 74) dX11_put_74 rfl rfl ?_
              refine ⟨_, _, rfl, rfl, ?_⟩
              exact Or.inr ⟨i, hi, rfl, hp, Or.inr (Or.inl ⟨h_43, h_50, by first | exact Or.inl h_58 | exact Or.inr (bi_n0 h_69), rfl, rfl⟩)⟩
      · refine x_iconst (pc := 46) (v := 0) dX11_put_46 rfl ?_
        refine x_ireturn (pc := 47) dX11_put_47 rfl rfl ?_
        refine ⟨_, _, rfl, rfl, ?_⟩
        exact Or.inr ⟨i, hi, rfl, hp, Or.inl ⟨h_43, rfl, rfl⟩⟩
    · refine x_iload_n (pc := 16) dX11_put_16 rfl ?_
      refine x_bipush (pc := 17) (v := 6) dX11_put_17 rfl ?_
      refine x_callS (pc := 19) (As := [.int _, .int _]) dX11_put_19 mX11_isBelow lk_11_104 (k_isBelow _ _) rfl rfl (Nat.le_of_ble_eq_true rfl) ⟨by decide, by decide⟩ ⟨Nat.zero_le _, Nat.zero_le _⟩ (k_rt ?_)
      refine x_if_ne (pc := 22) (tgt := 28) dX11_put_22 rfl (fun h_22 => ?_) (fun h_22 => ?_)
      · have ht := bi_n0 h_8
        have hp : p = -1 ∨ (0 ≤ p ∧ p < 6) := by first | exact Or.inl h_13 | exact Or.inr (bi_n0 h_22)
        obtain ⟨i, hi, rfl⟩ := ixD (n := n) ht (by omega)
        refine x_aload_n (pc := 28) dX11_put_28 rfl ?_
        refine k_getR (pc := 29) c1 dX11_put_29 fk_11_10 (Or.inl ⟨_, rfl⟩) (c2) ?_
        refine k_getR (pc := 32) hh.1 dX11_put_32 fk_11_94 (Or.inr ⟨_, rfl⟩) (hh.2.2.1) ?_
        refine x_iload_n (pc := 35) dX11_put_35 rfl ?_
        refine x_aald (pc := 36) dX11_put_36 (hh.2.1.2.1) (Or.inl rfl) (rfl) (show i < 5 by omega) (by decide) ((hh.2.2.2.2 i (by omega)).1) ?_
        refine x_astore_n (pc := 37) (lv2 := [_, _, _, _]) dX11_put_37 (by decide) rfl rfl ?_
        refine x_aload_n (pc := 38) dX11_put_38 rfl ?_
        refine k_getI (pc := 39) (hh.2.2.2.2 i (show i < 5 by omega)).2 dX11_put_39 (fk_11_114 (kci_th _)) (Or.inl (th_i (kci_th _) (by decide))) ?_
        refine x_iload_n (pc := 42) dX11_put_42 rfl ?_
        refine x_icmp_ne (pc := 43) (tgt := 48) dX11_put_43 rfl (fun h_43 => ?_) (fun h_43 => ?_)
        · refine x_iload_n (pc := 48) dX11_put_48 rfl ?_
          refine x_iconst (pc := 49) (v := -1) dX11_put_49 rfl ?_
          refine x_icmp_eq (pc := 50) (tgt := 75) dX11_put_50 rfl (fun h_50 => ?_) (fun h_50 => ?_)
          · have hpl : ∃ s, s < 7 ∧ p = nI s - 1 ∧ p + 1 = nI s := by
              rcases hp with rfl | hp6
              · exact ⟨0, by decide, rfl, rfl⟩
              · obtain ⟨j, hj, rfl⟩ := ixD (n := 6) hp6 (by decide)
                exact ⟨j + 1, by omega, (nI_pred j).symm, nI_1 j⟩
            obtain ⟨s, hs7, ep, ep1⟩ := hpl
            have hok : p = -1 ∨ (¬ stI (nI (kd i)) p = 0 ∧ ¬ ∃ t, t < n ∧ κ.1 (15 + t) 5 = p) := by first | exact Or.inl h_50 | exact Or.inr ⟨h_58, bi_0.mp h_69⟩
            refine x_aload_n (pc := 75) dX11_put_75 rfl ?_
            refine x_iload_n (pc := 76) dX11_put_76 rfl ?_
            refine k_putI (pc := 77) (hh.2.2.2.2 i (show i < 5 by omega)).2 dX11_put_77 (fk_11_114 (kci_th _)) (Or.inl (th_f (kci_th _) (by decide))) (Or.inl (th_i (kci_th _) (by decide))) ?_
            refine x_aload_n (pc := 80) dX11_put_80 rfl ?_
            refine x_aload_n (pc := 81) dX11_put_81 rfl ?_
            refine x_callV (pc := 82) (As := []) dX11_put_82 mX11_rule lk_11_123 c1.2.2.1 (k_rule hI hr hnt (by rw [kI_n (Or.inl (by omega))]; exact h15)) rfl rfl (Nat.le_of_ble_eq_true rfl) ⟨by decide, by decide⟩ ⟨Nat.zero_le _, Nat.zero_le _⟩ (k_rt ?_)
            refine x_iload_n (pc := 85) dX11_put_85 rfl ?_
            refine x_iconst (pc := 86) (v := 1) dX11_put_86 rfl ?_
            refine x_iadd (pc := 87) dX11_put_87 ?_
            rw [ep1]
            refine x_callU (pc := 88) (As := [.ref _, .int _]) dX11_put_88 mX9_movesTo (lt_11_126 (kci_th (kd i))) (hh.2.2.2.2 i (show i < 5 by omega)).2.2.2.1 (k_movesTo (kci_th (kd i)) (hh.2.2.2.2 i (show i < 5 by omega)).2 htx ht0.1 ht0.2.1 (by omega) hs7 ht0.2.2) rfl rfl (Nat.le_of_ble_eq_true rfl) ⟨by decide, by decide⟩ ⟨Nat.zero_le _, Nat.zero_le _⟩ (fun x μ3 hx => ?_)
            obtain ⟨κ3, rfl, rfl, q3⟩ := hx
            dsimp only [Option.toList, List.cons_append, List.nil_append]
            refine x_ireturn (pc := 91) dX11_put_91 rfl rfl ?_
            exact ⟨_, _, rfl, rfl, Or.inr ⟨i, hi, rfl, hp, Or.inr (Or.inr ⟨h_43, hok, s, hs7, ep, rfl, q3⟩)⟩⟩
          · refine x_aload_n (pc := 53) dX11_put_53 rfl ?_
            refine x_iload_n (pc := 54) dX11_put_54 rfl ?_
            refine x_callU (pc := 55) (As := [.int _]) dX11_put_55 (mS (kci_th (kd i))) (lv_11_117 (kci_th (kd i))) (hh.2.2.2.2 i (show i < 5 by omega)).2.2.2.1 (k_stV (μ := KV μ b κ) (q := adO b (15 + i)) (hkd i (by omega)) (hh.2.2.2.2 i (show i < 5 by omega)).2.2.2.1 p) rfl rfl (Nat.le_of_ble_eq_true rfl) ⟨by decide, by decide⟩ ⟨Nat.zero_le _, Nat.zero_le _⟩ (k_rt ?_)
            refine x_if_eq (pc := 58) (tgt := 72) dX11_put_58 rfl (fun h_58 => ?_) (fun h_58 => ?_)
            · refine x_bipush (pc := 72) (v := -3) dX11_put_72 rfl ?_
              refine x_ireturn (pc := 74) dX11_put_74 rfl rfl ?_
              refine ⟨_, _, rfl, rfl, ?_⟩
              exact Or.inr ⟨i, hi, rfl, hp, Or.inr (Or.inl ⟨h_43, h_50, by first | exact Or.inl h_58 | exact Or.inr (bi_n0 h_69), rfl, rfl⟩)⟩
            · refine x_aload_n (pc := 61) dX11_put_61 rfl ?_
              refine k_getR (pc := 62) c1 dX11_put_62 fk_11_10 (Or.inl ⟨_, rfl⟩) (c2) ?_
              refine x_iload_n (pc := 65) dX11_put_65 rfl ?_
              refine x_callV (pc := 66) (As := [.int _]) dX11_put_66 mX2_isTaken lk_11_120 hh.1.2.2.1 (k_isTaken hh.1 h14 hn5 hh.2.2) rfl rfl (Nat.le_of_ble_eq_true rfl) ⟨by decide, by decide⟩ ⟨Nat.zero_le _, Nat.zero_le _⟩ (k_rt ?_)
              refine x_if_eq (pc := 69) (tgt := 75) dX11_put_69 rfl (fun h_69 => ?_) (fun h_69 => ?_)
              · have hpl : ∃ s, s < 7 ∧ p = nI s - 1 ∧ p + 1 = nI s := by
                  rcases hp with rfl | hp6
                  · exact ⟨0, by decide, rfl, rfl⟩
                  · obtain ⟨j, hj, rfl⟩ := ixD (n := 6) hp6 (by decide)
                    exact ⟨j + 1, by omega, (nI_pred j).symm, nI_1 j⟩
                obtain ⟨s, hs7, ep, ep1⟩ := hpl
                have hok : p = -1 ∨ (¬ stI (nI (kd i)) p = 0 ∧ ¬ ∃ t, t < n ∧ κ.1 (15 + t) 5 = p) := by first | exact Or.inl h_50 | exact Or.inr ⟨h_58, bi_0.mp h_69⟩
                refine x_aload_n (pc := 75) dX11_put_75 rfl ?_
                refine x_iload_n (pc := 76) dX11_put_76 rfl ?_
                refine k_putI (pc := 77) (hh.2.2.2.2 i (show i < 5 by omega)).2 dX11_put_77 (fk_11_114 (kci_th _)) (Or.inl (th_f (kci_th _) (by decide))) (Or.inl (th_i (kci_th _) (by decide))) ?_
                refine x_aload_n (pc := 80) dX11_put_80 rfl ?_
                refine x_aload_n (pc := 81) dX11_put_81 rfl ?_
                refine x_callV (pc := 82) (As := []) dX11_put_82 mX11_rule lk_11_123 c1.2.2.1 (k_rule hI hr hnt (by rw [kI_n (Or.inl (by omega))]; exact h15)) rfl rfl (Nat.le_of_ble_eq_true rfl) ⟨by decide, by decide⟩ ⟨Nat.zero_le _, Nat.zero_le _⟩ (k_rt ?_)
                refine x_iload_n (pc := 85) dX11_put_85 rfl ?_
                refine x_iconst (pc := 86) (v := 1) dX11_put_86 rfl ?_
                refine x_iadd (pc := 87) dX11_put_87 ?_
                rw [ep1]
                refine x_callU (pc := 88) (As := [.ref _, .int _]) dX11_put_88 mX9_movesTo (lt_11_126 (kci_th (kd i))) (hh.2.2.2.2 i (show i < 5 by omega)).2.2.2.1 (k_movesTo (kci_th (kd i)) (hh.2.2.2.2 i (show i < 5 by omega)).2 htx ht0.1 ht0.2.1 (by omega) hs7 ht0.2.2) rfl rfl (Nat.le_of_ble_eq_true rfl) ⟨by decide, by decide⟩ ⟨Nat.zero_le _, Nat.zero_le _⟩ (fun x μ3 hx => ?_)
                obtain ⟨κ3, rfl, rfl, q3⟩ := hx
                dsimp only [Option.toList, List.cons_append, List.nil_append]
                refine x_ireturn (pc := 91) dX11_put_91 rfl rfl ?_
                exact ⟨_, _, rfl, rfl, Or.inr ⟨i, hi, rfl, hp, Or.inr (Or.inr ⟨h_43, hok, s, hs7, ep, rfl, q3⟩)⟩⟩
              · refine x_bipush (pc := 72) (v := -3) dX11_put_72 rfl ?_
                refine x_ireturn (pc := 74) dX11_put_74 rfl rfl ?_
                refine ⟨_, _, rfl, rfl, ?_⟩
                exact Or.inr ⟨i, hi, rfl, hp, Or.inr (Or.inl ⟨h_43, h_50, by first | exact Or.inl h_58 | exact Or.inr (bi_n0 h_69), rfl, rfl⟩)⟩
        · refine x_iconst (pc := 46) (v := 0) dX11_put_46 rfl ?_
          refine x_ireturn (pc := 47) dX11_put_47 rfl rfl ?_
          refine ⟨_, _, rfl, rfl, ?_⟩
          exact Or.inr ⟨i, hi, rfl, hp, Or.inl ⟨h_43, rfl, rfl⟩⟩
      · refine x_bipush (pc := 25) (v := -2) dX11_put_25 rfl ?_
        refine x_ireturn (pc := 27) dX11_put_27 rfl rfl ?_
        refine ⟨_, _, rfl, rfl, ?_⟩
        exact Or.inl ⟨fun z => by first | exact bi_0.mp h_8 z.1 | exact z.2.elim h_13 (bi_0.mp h_22), rfl, rfl⟩
theorem k_backN (hI : CI μ b kd false 4 nt tn) : XM Γ zX11_back 3 0 0 [.ref (adO b 0)] (KV μ b κ) (rt (.int (-3)) (KV μ b κ)) := by
  refine XM.of 0 rfl (by decide) (Nat.le_of_ble_eq_true rfl) ?_
  have hI' := hI
  obtain ⟨-, ⟨c1, c2, c3, c4, c5, c6, c7⟩, ⟨c8, c9⟩, hh, -, ⟨p1, p2⟩, c10, hsh, -⟩ := hI'
  refine x_aload_n (pc := 0) dX11_back_0 rfl ?_
  refine k_getN (pc := 1) c1 dX11_back_1 fk_11_16 (Or.inl ⟨_, rfl⟩) c7 ?_
  refine x_ifnonnullN (pc := 4) dX11_back_4 ?_
  refine x_bipush (pc := 7) (v := -3) dX11_back_7 rfl ?_
  refine x_ireturn (pc := 9) dX11_back_9 rfl rfl ?_
  exact ⟨rfl, rfl⟩
theorem k_back {k : Nat} (hI : CI μ b kd true 4 nt tn) (h24 : κ.1 2 4 = nI k) (hk : k ≤ 5) : XM Γ zX11_back 3 0 0 [.ref (adO b 0)] (KV μ b κ) (fun r M => ∃ κ2, r = some (.int (nI k)) ∧ M = KV μ b κ2 ∧ kq (htP 1 15) κ κ2 ∧ htE κ κ2 1 2 15 20 k) := by
  refine XM.of 0 rfl (by decide) (Nat.le_of_ble_eq_true rfl) ?_
  have hI' := hI
  obtain ⟨-, ⟨c1, c2, c3, c4, c5, c6, c7⟩, ⟨c8, c9⟩, hh, hkk, ⟨p1, p2⟩, c10, hsh, -⟩ := hI'
  have hkk := hkk rfl
  rw [if_pos rfl] at c7
  refine x_aload_n (pc := 0) dX11_back_0 rfl ?_
  refine k_getR (pc := 1) c1 dX11_back_1 fk_11_16 (Or.inl ⟨_, rfl⟩) (c7) ?_
  refine x_ifnonnull (pc := 4) (tgt := 10) dX11_back_4 rfl ?_
  refine x_aload_n (pc := 10) dX11_back_10 rfl ?_
  refine k_getR (pc := 11) c1 dX11_back_11 fk_11_10 (Or.inl ⟨_, rfl⟩) (c2) ?_
  refine x_aload_n (pc := 14) dX11_back_14 rfl ?_
  refine k_getR (pc := 15) c1 dX11_back_15 fk_11_16 (Or.inl ⟨_, rfl⟩) (c7) ?_
  refine x_callV (pc := 18) (As := [.ref _]) dX11_back_18 mX2_take lk_11_237 hh.1.2.2.1 (k_htake hh.1 hkk.1 (by decide) hh.2.2 hkk.2.2 (by decide) (by decide) (by decide) (by decide) (Or.inl (by decide)) h24 hk) rfl rfl (Nat.le_of_ble_eq_true rfl) ⟨by decide, by decide⟩ ⟨Nat.zero_le _, Nat.zero_le _⟩ (fun r μ2 hr => ?_)
  obtain ⟨κ2, rfl, rfl, q1, q2⟩ := hr
  dsimp only [Option.toList, List.nil_append]
  refine x_aload_n (pc := 21) dX11_back_21 rfl ?_
  refine k_getR (pc := 22) c1 dX11_back_22 fk_11_10 (Or.inl ⟨_, rfl⟩) (c2) ?_
  refine k_getI (pc := 25) hh.1 dX11_back_25 fk_11_108 (Or.inl rfl) ?_
  refine x_ireturn (pc := 28) dX11_back_28 rfl rfl ?_
  rw [q2.1, h24]
  exact ⟨κ2, rfl, rfl, q1, q2⟩
def imE (κ κ2 : KS) (n : Nat) : Prop := (∀ a, a < 25 → a ≠ 2 → ¬ (20 ≤ a) → κ2.1 a = κ.1 a ∧ κ2.2 a = κ.2 a) ∧ κ2.1 2 4 = κ.1 1 4 ∧ κ2.1 2 5 = κ.1 1 5 ∧ (∀ i, i < 6 → κ2.2 2 0 i = κ.2 1 0 i) ∧ (∀ i, i < 4 → κ2.2 2 1 i = κ.2 1 1 i) ∧ (∀ i, i < 7 → κ2.2 2 2 i = κ.2 1 2 i) ∧ ∀ t, t < n → ∀ k, 2 ≤ k → k < 6 → κ2.1 (20 + t) k = κ.1 (15 + t) k
theorem k_im_18 (hI : CI μ b kd true 4 nt tn) {n0 : Nat} {κ0 : KS} (h14 : κ.1 1 4 = nI n) (hn5 : n ≤ 5) {μ0 : Mem} {b0 : Kb} (hF : FO μ0 b0 κ0 μ b κ) (hA : adO b 0 = adO b0 0) (h0 : ∀ a, a < 25 → a ≠ 2 → ¬ (20 ≤ a) → κ.1 a = κ0.1 a ∧ κ.2 a = κ0.2 a) : ∀ cl sl, cl ≤ 40 → sl ≤ 338 → WA Γ zX11_image (xrm 4 40 338) 40 338 cl sl (fun r M => ∃ μ2 b2 κ2, r = some (.int (nI n)) ∧ M = KV μ2 b2 κ2 ∧ CI μ2 b2 kd true 4 nt tn ∧ FO μ0 b0 κ0 μ2 b2 κ2 ∧ adO b2 0 = adO b0 0 ∧ imE κ0 κ2 n) 18 [some (.ref (adO b 0))] [] (KV μ b κ) := by
  intro cl sl hcl hsl
  refine x_widen hcl hsl ?_
  have hI' := hI
  obtain ⟨-, ⟨c1, c2, c3, c4, c5, c6, c7⟩, ⟨c8, c9⟩, hh, hkk, ⟨p1, p2⟩, c10, hsh, -⟩ := hI'
  have hkk := hkk rfl
  rw [if_pos rfl] at c7
  refine x_aload_n (pc := 18) dX11_image_18 rfl ?_
  refine k_getR (pc := 19) c1 dX11_image_19 fk_11_16 (Or.inl ⟨_, rfl⟩) (c7) ?_
  refine x_aload_n (pc := 22) dX11_image_22 rfl ?_
  refine k_getR (pc := 23) c1 dX11_image_23 fk_11_10 (Or.inl ⟨_, rfl⟩) (c2) ?_
  refine x_callV (pc := 26) (As := [.ref _]) dX11_image_26 mX2_take lk_11_237 hkk.1.2.2.1 (k_htake hkk.1 hh.1 (by decide) hkk.2.2 hh.2.2 (by decide) (by decide) (by decide) (by decide) (Or.inr (by decide)) h14 hn5) rfl rfl (Nat.le_of_ble_eq_true rfl) ⟨by decide, by decide⟩ ⟨Nat.le_refl _, Nat.le_refl _⟩ (fun r μ2 hr => ?_)
  obtain ⟨κ2, rfl, rfl, q1, q2⟩ := hr
  dsimp only [Option.toList, List.nil_append]
  refine x_aload_n (pc := 29) dX11_image_29 rfl ?_
  refine k_getR (pc := 30) c1 dX11_image_30 fk_11_16 (Or.inl ⟨_, rfl⟩) (c7) ?_
  refine k_getI (pc := 33) hkk.1 dX11_image_33 fk_11_108 (Or.inl rfl) ?_
  refine x_ireturn (pc := 36) dX11_image_36 rfl rfl ?_
  obtain ⟨e1, e2, e3, e4, e5, e6⟩ := q2
  have hk : ∀ a, a < 25 → a ≠ 2 → ¬ (20 ≤ a) → κ2.1 a = κ.1 a ∧ κ2.2 a = κ.2 a := fun a _ h2 h20 => ⟨funext fun k => (q1 a k (by unfold htP; omega)).1, funext fun k => (q1 a k (by unfold htP; omega)).2⟩
  have g1 := h0 1 (by decide) (by decide) (by decide)
  refine ⟨μ, b, κ2, by rw [e1, h14], rfl, hI, hF.trans FO_any, hA, fun a ha h2 h20 => ⟨(hk a ha h2 h20).1.trans (h0 a ha h2 h20).1, (hk a ha h2 h20).2.trans (h0 a ha h2 h20).2⟩, by rw [e1, g1.1], by rw [e2, g1.1], fun i hi => by rw [e3 i hi, g1.2], fun i hi => by rw [e4 i hi, g1.2], fun i hi => by rw [e5 i hi, g1.2], fun t ht k hk1 hk2 => ?_⟩
  rw [e6 t ht k hk1 hk2, (h0 (15 + t) (by omega) (by omega) (by omega)).1]
theorem k_image (hI : CI μ b kd kp 4 nt tn) (hnt : nt ≤ 6) (h14 : κ.1 1 4 = nI n) (hn5 : n ≤ 5) : XM Γ zX11_image 4 40 338 [.ref (adO b 0)] (KV μ b κ) (fun r M => ∃ μ2 b2 κ2, r = some (.int (nI n)) ∧ M = KV μ2 b2 κ2 ∧ CI μ2 b2 kd true 4 nt tn ∧ FO μ b κ μ2 b2 κ2 ∧ adO b2 0 = adO b 0 ∧ imE κ κ2 n) := by
  refine XM.of 0 rfl (by decide) (Nat.le_of_ble_eq_true rfl) ?_
  have hI' := hI
  obtain ⟨d1, ⟨c1, c2, c3, c4, c5, c6, c7⟩, ⟨c8, c9⟩, hh, hkk, ⟨p1, p2⟩, c10, hsh, htx⟩ := hI'
  refine x_aload_n (pc := 0) dX11_image_0 rfl ?_
  cases kp with
  | true =>
    rw [if_pos rfl] at c7
    refine k_getR (pc := 1) c1 dX11_image_1 fk_11_16 (Or.inl ⟨_, rfl⟩) c7 ?_
    refine x_ifnonnull (pc := 4) (tgt := 18) dX11_image_4 rfl ?_
    exact k_im_18 (n0 := 0) hI h14 hn5 FO.rf rfl (fun a _ _ _ => ⟨rfl, rfl⟩) 0 0 (Nat.zero_le _) (Nat.zero_le _)
  | false =>
    refine k_getN (pc := 1) c1 dX11_image_1 fk_11_16 (Or.inl ⟨_, rfl⟩) c7 ?_
    refine x_ifnonnullN (pc := 4) dX11_image_4 ?_
    refine x_aload_n (pc := 7) dX11_image_7 rfl ?_
    refine x_new (pc := 8) (ci := 2) dX11_image_8 (by decide) kl_11_7 ki_2 kn_2 ⟨Nat.le_of_ble_eq_true rfl, Nat.le_of_ble_eq_true rfl⟩ (fun q hq => ?_)
    refine x_dup (pc := 11) dX11_image_11 rfl ?_
    refine x_callI (pc := 12) (As := []) dX11_image_12 mX2_init rfl lk_11_9 (k_hsInit (Γ := Γ) (κ := κ) (o := 2) (base := 20) d1 hq (by decide) (by decide) (by decide)) rfl rfl (Nat.le_of_ble_eq_true rfl) ⟨by decide, by decide⟩ ⟨Nat.le_of_ble_eq_true rfl, Nat.le_of_ble_eq_true rfl⟩ (fun r μx hr => ?_)
    obtain ⟨rfl, μ1, b1, κ1, rfl, kf1, ev1, fo1, ad1, ko1, ro1, mr1, hv1, th1⟩ := hr
    have nP : ∀ a, a < 20 → a ≠ 2 → ¬ hsP 2 20 a := fun a h1 h2 => by unfold hsP; omega
    have k0 := KO_EV ev1 kf1.1 (nP 0 (by decide) (by decide)) c1
    have a0 : ∀ a, a < 20 → a ≠ 2 → adO b1 a = adO b a := fun a h1 h2 => (ev1.1 a (by omega) (nP a h1 h2)).1
    have aR : ∀ f, adR b1 0 f = adR b 0 f := (ev1.1 0 (by decide) (nP 0 (by decide) (by decide))).2.1
    obtain ⟨e2, f2, kf2⟩ := EV_sR (κ := κ1) (k := 1) (v := some q) k0.2.2.2.1 kf1 (by decide)
    have ee := (ev1.mono (fun p hp => (Or.inr hp : p = 0 ∨ hsP 2 20 p))).trans (e2.mono (fun p (hp : p = 0) => (Or.inl hp : p = 0 ∨ hsP 2 20 p)))
    have nE : ∀ a, a < 20 → a ≠ 2 → a ≠ 0 → ¬ (a = 0 ∨ hsP 2 20 a) := fun a h1 h2 h0 => by unfold hsP; omega
    have hR1 : ∀ k, mR μ1 (adO b1 0) k = mR μ (adO b 0) k := fun k => by
      have h := mR_EV (k := k) ev1 (nP 0 (by decide) (by decide)) c1
      exact h
    have hRk : ∀ k, k ≠ 1 → mR (sR μ1 (adO b1 0) 1 (some q)) (adO b1 0) k = mR μ (adO b 0) k := fun k hk => (up2_n (Or.inr hk)).trans (hR1 k)
    have r5 := RO_EV ev1 (nP 0 (by decide) (by decide)) c8
    have r7 := RO_EV ev1 (nP 0 (by decide) (by decide)) c9
    have hCI : CI (sR μ1 (adO b1 0) 1 (some q)) b1 kd true 4 nt tn := by
      refine ⟨kf2, ⟨KO_sR k0 (Or.inr rfl), ?_, ?_, ?_, ?_, ?_, ?_⟩, ⟨r5.1, r7.1⟩, HS_EV ee kf2.1 (nE 1 (by decide) (by decide) (by decide)) (fun t ht => nE (15 + t) (by omega) (by omega) (by omega)) hh, fun _ => ?_, ⟨KO_EV ee kf2.1 (nE 3 (by decide) (by decide) (by decide)) p1, KLo_EV ee kf2.1 (nE 3 (by decide) (by decide) (by decide)) p1 p2⟩, KO_EV ee kf2.1 (nE 4 (by decide) (by decide) (by decide)) c10, fun i hi => ⟨?_, KO_EV ee kf2.1 (nE (5 + i) (by omega) (by omega) (by omega)) (hsh i hi).2⟩, fun i hi => ?_⟩
      · rw [hRk 0 (by decide), c2, a0 1 (by decide) (by decide)]
      · rw [hRk 4 (by decide), c3, a0 4 (by decide) (by decide)]
      · rw [hRk 8 (by decide), c4, a0 3 (by decide) (by decide)]
      · rw [hRk 5 (by decide), c5, aR]
      · rw [hRk 7 (by decide), c6, aR]
      · rw [if_pos rfl, ad1]
        exact up2_s
      · have g : HS μ1 b1 2 20 (fun _ => 0) := ⟨ko1, ro1, mr1, ro1.2.1, fun t ht => ⟨(th1 t ht).1, (th1 t ht).2.1⟩⟩
        have e2' : EV (fun p => p = 0) μ1 b1 κ1 (sR μ1 (adO b1 0) 1 (some q)) b1 κ1 := e2
        exact HS_EV e2' kf2.1 (by decide) (fun t _ => by show ¬ 20 + t = 0; omega) g
      · rw [a0 (5 + i) (by omega) (by omega), ← (hsh i hi).1]
        exact r7.2 i
      · obtain ⟨x1, x2⟩ := htx i hi
        have hi15 : 9 + i < 20 := by
          have := x2
          omega
        refine ⟨?_, KO_EV ee kf2.1 (nE (9 + i) hi15 (by omega) (by omega)) x2⟩
        rw [a0 (9 + i) hi15 (by omega), ← x1]
        exact r5.2 i
    rw [← a0 0 (by decide) (by decide)]
    refine x_putR (pc := 15) (q := adO b1 0) (a := q) dX11_image_15 fk_11_16 (Or.inl rfl) k0.2.2.1 (Or.inl ⟨_, rfl⟩) ?_
    have h0 : ∀ a, a < 25 → a ≠ 2 → ¬ (20 ≤ a) → κ1.1 a = κ.1 a ∧ κ1.2 a = κ.2 a := fun a h1 h2 h20 => ⟨(ev1.1 a h1 (nP a (by omega) h2)).2.2.1, (ev1.1 a h1 (nP a (by omega) h2)).2.2.2⟩
    have h14' : κ1.1 1 4 = nI n := by
      rw [(h0 1 (by decide) (by decide) (by decide)).1]
      exact h14
    have hh := k_im_18 (Γ := Γ) (n0 := 0) hCI h14' hn5 (fo1.trans f2) (a0 0 (by decide) (by decide)) h0 40 338 (Nat.le_refl _) (Nat.le_refl _)
    rw [a0 0 (by decide) (by decide)] at hh ⊢
    exact hh
end M9999991
