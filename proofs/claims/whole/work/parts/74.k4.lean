/-! the class: kinds of things -/
def kci (k : Nat) : Nat := if k = 0 then 9 else if k = 1 then 3 else if k = 2 then 1 else if k = 3 then 5 else if k = 4 then 10 else 0
theorem kci_th : ∀ k, isTh (kci k) := fun k => by
  unfold kci isTh
  split
  · omega
  · split
    · omega
    · split
      · omega
      · split
        · omega
        · split <;> omega
theorem k6 {k : Nat} (h : k < 6) : k = 0 ∨ k = 1 ∨ k = 2 ∨ k = 3 ∨ k = 4 ∨ k = 5 := by omega
def zS (ci : Nat) : Mt := if ci = 3 then zX3_stands else if ci = 5 then zX5_stands else if ci = 1 then zX1_stands else if ci = 10 then zX1_stands else zX9_stands
def zMi (ci : Nat) : Mt := if ci = 0 then zX0_missed else if ci = 1 then zX1_missed else if ci = 5 then zX5_missed else if ci = 10 then zX10_missed else zX9_missed
def zOf (ci : Nat) : Mt := if ci = 0 then zX0_offends else if ci = 1 then zX1_offends else if ci = 5 then zX5_offends else if ci = 10 then zX10_offends else zX9_offends
theorem mS {ci : Nat} (h : isTh ci) : MK (zS ci) 1 := by
  rcases h with rfl | rfl | rfl | rfl | rfl | rfl
  · exact mX9_stands
  · exact mX1_stands
  · exact mX3_stands
  · exact mX5_stands
  · exact mX9_stands
  · exact mX1_stands
theorem mMi {ci : Nat} (h : isTh ci) : MK (zMi ci) 0 := by
  rcases h with rfl | rfl | rfl | rfl | rfl | rfl
  · exact mX0_missed
  · exact mX1_missed
  · exact mX9_missed
  · exact mX5_missed
  · exact mX9_missed
  · exact mX10_missed
theorem mOf {ci : Nat} (h : isTh ci) : MK (zOf ci) 1 := by
  rcases h with rfl | rfl | rfl | rfl | rfl | rfl
  · exact mX0_offends
  · exact mX1_offends
  · exact mX9_offends
  · exact mX5_offends
  · exact mX9_offends
  · exact mX10_offends
theorem lt_11_98 : ∀ {ci : Nat}, isTh ci → LKU RX11 98 ci yX9_change yX9_change := by
  intro ci h
  rcases h with rfl | rfl | rfl | rfl | rfl | rfl
  · exact lku_11_98_0
  · exact lku_11_98_1
  · exact lku_11_98_3
  · exact lku_11_98_5
  · exact lku_11_98_9
  · exact lku_11_98_10
theorem lv_11_117 : ∀ {ci : Nat}, isTh ci → LKU RX11 117 ci yX9_stands (zS ci).1 := by
  intro ci h
  rcases h with rfl | rfl | rfl | rfl | rfl | rfl
  · exact lku_11_117_0
  · exact lku_11_117_1
  · exact lku_11_117_3
  · exact lku_11_117_5
  · exact lku_11_117_9
  · exact lku_11_117_10
theorem lt_11_126 : ∀ {ci : Nat}, isTh ci → LKU RX11 126 ci yX9_movesTo yX9_movesTo := by
  intro ci h
  rcases h with rfl | rfl | rfl | rfl | rfl | rfl
  · exact lku_11_126_0
  · exact lku_11_126_1
  · exact lku_11_126_3
  · exact lku_11_126_5
  · exact lku_11_126_9
  · exact lku_11_126_10
theorem lt_4_70 : ∀ {ci : Nat}, isTh ci → LKU RX4 70 ci yX9_learn yX9_learn := by
  intro ci h
  rcases h with rfl | rfl | rfl | rfl | rfl | rfl
  · exact lku_4_70_0
  · exact lku_4_70_1
  · exact lku_4_70_3
  · exact lku_4_70_5
  · exact lku_4_70_9
  · exact lku_4_70_10
theorem lt_9_62 : ∀ {ci : Nat}, isTh ci → LKU RX9 62 ci yX9_movesTo yX9_movesTo := by
  intro ci h
  rcases h with rfl | rfl | rfl | rfl | rfl | rfl
  · exact lku_9_62_0
  · exact lku_9_62_1
  · exact lku_9_62_3
  · exact lku_9_62_5
  · exact lku_9_62_9
  · exact lku_9_62_10
theorem lv_9_66 : ∀ {ci : Nat}, isTh ci → LKU RX9 66 ci yX9_stands (zS ci).1 := by
  intro ci h
  rcases h with rfl | rfl | rfl | rfl | rfl | rfl
  · exact lku_9_66_0
  · exact lku_9_66_1
  · exact lku_9_66_3
  · exact lku_9_66_5
  · exact lku_9_66_9
  · exact lku_9_66_10
theorem lv_9_82 : ∀ {ci : Nat}, isTh ci → LKU RX9 82 ci yX9_offends (zOf ci).1 := by
  intro ci h
  rcases h with rfl | rfl | rfl | rfl | rfl | rfl
  · exact lku_9_82_0
  · exact lku_9_82_1
  · exact lku_9_82_3
  · exact lku_9_82_5
  · exact lku_9_82_9
  · exact lku_9_82_10
theorem lv_1_17 : ∀ {ci : Nat}, isTh ci → LKU RX1 17 ci yX9_offends (zOf ci).1 := by
  intro ci h
  rcases h with rfl | rfl | rfl | rfl | rfl | rfl
  · exact lku_1_17_0
  · exact lku_1_17_1
  · exact lku_1_17_3
  · exact lku_1_17_5
  · exact lku_1_17_9
  · exact lku_1_17_10
theorem lv_9_75 : ∀ {ci : Nat}, isTh ci → LKU RX9 75 ci yX9_missed (zMi ci).1 := by
  intro ci h
  rcases h with rfl | rfl | rfl | rfl | rfl | rfl
  · exact lku_9_75_0
  · exact lku_9_75_1
  · exact lku_9_75_3
  · exact lku_9_75_5
  · exact lku_9_75_9
  · exact lku_9_75_10
theorem lv_1_7 : ∀ {ci : Nat}, isTh ci → LKU RX1 7 ci yX9_missed (zMi ci).1 := by
  intro ci h
  rcases h with rfl | rfl | rfl | rfl | rfl | rfl
  · exact lku_1_7_0
  · exact lku_1_7_1
  · exact lku_1_7_3
  · exact lku_1_7_5
  · exact lku_1_7_9
  · exact lku_1_7_10
theorem lt_4_96 : ∀ {ci : Nat}, isTh ci → LKU RX4 96 ci yX9_bad yX9_bad := by
  intro ci h
  rcases h with rfl | rfl | rfl | rfl | rfl | rfl
  · exact lku_4_96_0
  · exact lku_4_96_1
  · exact lku_4_96_3
  · exact lku_4_96_5
  · exact lku_4_96_9
  · exact lku_4_96_10
theorem lt_9_93 : ∀ {ci : Nat}, isTh ci → LKU RX9 93 ci yX9_harm yX9_harm := by
  intro ci h
  rcases h with rfl | rfl | rfl | rfl | rfl | rfl
  · exact lku_9_93_0
  · exact lku_9_93_1
  · exact lku_9_93_3
  · exact lku_9_93_5
  · exact lku_9_93_9
  · exact lku_9_93_10
theorem lt_9_85 : ∀ {ci : Nat}, isTh ci → LKU RX9 85 ci yX9_isMissed yX9_isMissed := by
  intro ci h
  rcases h with rfl | rfl | rfl | rfl | rfl | rfl
  · exact lku_9_85_0
  · exact lku_9_85_1
  · exact lku_9_85_3
  · exact lku_9_85_5
  · exact lku_9_85_9
  · exact lku_9_85_10
theorem lt_4_100 : ∀ {ci : Nat}, isTh ci → LKU RX4 100 ci yX9_isMissed yX9_isMissed := by
  intro ci h
  rcases h with rfl | rfl | rfl | rfl | rfl | rfl
  · exact lku_4_100_0
  · exact lku_4_100_1
  · exact lku_4_100_3
  · exact lku_4_100_5
  · exact lku_4_100_9
  · exact lku_4_100_10
theorem lt_4_103 : ∀ {ci : Nat}, isTh ci → LKU RX4 103 ci yX9_isOffending yX9_isOffending := by
  intro ci h
  rcases h with rfl | rfl | rfl | rfl | rfl | rfl
  · exact lku_4_103_0
  · exact lku_4_103_1
  · exact lku_4_103_3
  · exact lku_4_103_5
  · exact lku_4_103_9
  · exact lku_4_103_10
theorem lt_4_106 : ∀ {ci : Nat}, isTh ci → LKU RX4 106 ci yX9_harm yX9_harm := by
  intro ci h
  rcases h with rfl | rfl | rfl | rfl | rfl | rfl
  · exact lku_4_106_0
  · exact lku_4_106_1
  · exact lku_4_106_3
  · exact lku_4_106_5
  · exact lku_4_106_9
  · exact lku_4_106_10
theorem lt_4_140 : ∀ {ci : Nat}, isTh ci → LKU RX4 140 ci yX9_priceNothing yX9_priceNothing := by
  intro ci h
  rcases h with rfl | rfl | rfl | rfl | rfl | rfl
  · exact lku_4_140_0
  · exact lku_4_140_1
  · exact lku_4_140_3
  · exact lku_4_140_5
  · exact lku_4_140_9
  · exact lku_4_140_10
theorem lt_4_143 : ∀ {ci : Nat}, isTh ci → LKU RX4 143 ci yX9_priceMoves yX9_priceMoves := by
  intro ci h
  rcases h with rfl | rfl | rfl | rfl | rfl | rfl
  · exact lku_4_143_0
  · exact lku_4_143_1
  · exact lku_4_143_3
  · exact lku_4_143_5
  · exact lku_4_143_9
  · exact lku_4_143_10
theorem lt_4_145 : ∀ {ci : Nat}, isTh ci → LKU RX4 145 ci yX9_priceDay yX9_priceDay := by
  intro ci h
  rcases h with rfl | rfl | rfl | rfl | rfl | rfl
  · exact lku_4_145_0
  · exact lku_4_145_1
  · exact lku_4_145_3
  · exact lku_4_145_5
  · exact lku_4_145_9
  · exact lku_4_145_10
theorem lt_4_136 : ∀ {ci : Nat}, isTh ci → LKU RX4 136 ci yX9_lackFor yX9_lackFor := by
  intro ci h
  rcases h with rfl | rfl | rfl | rfl | rfl | rfl
  · exact lku_4_136_0
  · exact lku_4_136_1
  · exact lku_4_136_3
  · exact lku_4_136_5
  · exact lku_4_136_9
  · exact lku_4_136_10
theorem lt_4_92 : ∀ {ci : Nat}, isTh ci → LKU RX4 92 ci yX9_isBarred yX9_isBarred := by
  intro ci h
  rcases h with rfl | rfl | rfl | rfl | rfl | rfl
  · exact lku_4_92_0
  · exact lku_4_92_1
  · exact lku_4_92_3
  · exact lku_4_92_5
  · exact lku_4_92_9
  · exact lku_4_92_10
theorem lt_2_56 : ∀ {ci : Nat}, isTh ci → LKU RX2 56 ci yX9_take yX9_take := by
  intro ci h
  rcases h with rfl | rfl | rfl | rfl | rfl | rfl
  · exact lku_2_56_0
  · exact lku_2_56_1
  · exact lku_2_56_3
  · exact lku_2_56_5
  · exact lku_2_56_9
  · exact lku_2_56_10
theorem lso_5_11 : LKSO RX5 11 ⟨"PutOut$Picture", "missed", "()I"⟩ yX9_missed := ⟨gt_of 809 (by decide +kernel) rfl, gt_of 810 (by decide +kernel) rfl, gt_of 613 (by decide +kernel) rfl, gt_of 573 (by decide +kernel) rfl, lsu_1_7.2.2.2.1, by decide, rfl⟩
theorem lso_5_21 : LKSO RX5 21 ⟨"PutOut$Picture", "offends", "(I)I"⟩ yX9_offends := ⟨gt_of 786 (by decide +kernel) rfl, gt_of 787 (by decide +kernel) rfl, gt_of 613 (by decide +kernel) rfl, gt_of 573 (by decide +kernel) rfl, lsu_1_17.2.2.2.1, by decide, rfl⟩
theorem lp_9_71 : Cond.methodLink RX9 71 zX9_offenceTo.1 ∈ gT ∧ Cond.sameMethod zX9_offenceTo.1.cls zX9_offenceTo.1.cls zX9_offenceTo.1.name zX9_offenceTo.1.desc ∈ gT ∧ Cond.instanceMethod zX9_offenceTo.1 ∈ gT ∧ Cond.instantiable zX9_offenceTo.1.cls 13 ∈ gT ∧ zX9_offenceTo.1 = pvT := ⟨gt_of 766 (by decide +kernel) rfl, gt_of 1621 (by decide +kernel) rfl, gt_of 768 (by decide +kernel) rfl, gt_of 110 (by decide +kernel) rfl, rfl⟩
section M74
variable {Γ : Gm} {μ : Mem} {b : Kb} {κ : KS} {o : Nat}
theorem k_st9 (q : Nat) (p : Int32) : XM Γ zX9_stands 2 0 0 [.ref q, .int p] μ (rt (.int 1) μ) := by
  refine XM.of 0 rfl (by decide) (Nat.le_of_ble_eq_true rfl) ?_
  refine x_iconst (pc := 0) (v := 1) dX9_stands_0 rfl ?_
  refine x_ireturn (pc := 1) dX9_stands_1 rfl (by first | rfl | exact bi_nz) ?_
  exact ⟨rfl, rfl⟩
theorem k_st3a (q : Nat) (p : Int32) : XM Γ zX3_stands 1 0 0 [.ref q, .int p] μ (rt (.int (if p - p / 2 * 2 = 0 then 1 else 0)) μ) := by
  refine XM.of 0 rfl (by decide) (Nat.le_of_ble_eq_true rfl) ?_
  refine x_iload_n (pc := 0) dX3_stands_0 rfl ?_
  refine x_iconst (pc := 1) (v := 2) dX3_stands_1 rfl ?_
  refine x_irem (pc := 2) dX3_stands_2 (by decide) ?_
  refine x_if_ne (pc := 3) (tgt := 10) dX3_stands_3 rfl (fun h_3 => ?_) (fun h_3 => ?_)
  · refine x_iconst (pc := 10) (v := 0) dX3_stands_10 rfl ?_
    refine x_ireturn (pc := 11) dX3_stands_11 rfl (by first | rfl | exact bi_nz) ?_
    exact ⟨by
      first
        | rw [if_pos (by first | exact h_3 | exact Decidable.not_not.mp h_3)]
        | rw [if_neg (by exact h_3)], rfl⟩
  · refine x_iconst (pc := 6) (v := 1) dX3_stands_6 rfl ?_
    refine x_goto (pc := 7) (tgt := 11) dX3_stands_7 rfl ?_
    refine x_ireturn (pc := 11) dX3_stands_11 rfl (by first | rfl | exact bi_nz) ?_
    exact ⟨by
      first
        | rw [if_pos (by first | exact h_3 | exact Decidable.not_not.mp h_3)]
        | rw [if_neg (by exact h_3)], rfl⟩
theorem k_st3 (q : Nat) (p : Int32) : XM Γ zX3_stands 2 0 0 [.ref q, .int p] μ (rt (.int (if p - p / 2 * 2 = 0 then 1 else 0)) μ) := by
  refine XM.of 0 rfl (by decide) (Nat.le_of_ble_eq_true rfl) ?_
  refine x_iload_n (pc := 0) dX3_stands_0 rfl ?_
  refine x_iconst (pc := 1) (v := 2) dX3_stands_1 rfl ?_
  refine x_irem (pc := 2) dX3_stands_2 (by decide) ?_
  refine x_if_ne (pc := 3) (tgt := 10) dX3_stands_3 rfl (fun h_3 => ?_) (fun h_3 => ?_)
  · refine x_iconst (pc := 10) (v := 0) dX3_stands_10 rfl ?_
    refine x_ireturn (pc := 11) dX3_stands_11 rfl (by first | rfl | exact bi_nz) ?_
    exact ⟨by
      first
        | rw [if_pos (by first | exact h_3 | exact Decidable.not_not.mp h_3)]
        | rw [if_neg (by exact h_3)], rfl⟩
  · refine x_iconst (pc := 6) (v := 1) dX3_stands_6 rfl ?_
    refine x_goto (pc := 7) (tgt := 11) dX3_stands_7 rfl ?_
    refine x_ireturn (pc := 11) dX3_stands_11 rfl (by first | rfl | exact bi_nz) ?_
    exact ⟨by
      first
        | rw [if_pos (by first | exact h_3 | exact Decidable.not_not.mp h_3)]
        | rw [if_neg (by exact h_3)], rfl⟩
theorem k_st1 (q : Nat) (p : Int32) : XM Γ zX1_stands 2 0 0 [.ref q, .int p] μ (rt (.int (if p < 4 then 1 else 0)) μ) := by
  refine XM.of 0 rfl (by decide) (Nat.le_of_ble_eq_true rfl) ?_
  refine x_iload_n (pc := 0) dX1_stands_0 rfl ?_
  refine x_iconst (pc := 1) (v := 4) dX1_stands_1 rfl ?_
  refine x_icmp_ge (pc := 2) (tgt := 9) dX1_stands_2 rfl (fun h_2 => ?_) (fun h_2 => ?_)
  · refine x_iconst (pc := 9) (v := 0) dX1_stands_9 rfl ?_
    refine x_ireturn (pc := 10) dX1_stands_10 rfl (by first | rfl | exact bi_nz) ?_
    exact ⟨by
      first
        | rw [if_pos (by exact Int32.not_le.mp h_2)]
        | rw [if_neg (by exact Int32.not_lt.mpr h_2)], rfl⟩
  · refine x_iconst (pc := 5) (v := 1) dX1_stands_5 rfl ?_
    refine x_goto (pc := 6) (tgt := 10) dX1_stands_6 rfl ?_
    refine x_ireturn (pc := 10) dX1_stands_10 rfl (by first | rfl | exact bi_nz) ?_
    exact ⟨by
      first
        | rw [if_pos (by exact Int32.not_le.mp h_2)]
        | rw [if_neg (by exact Int32.not_lt.mpr h_2)], rfl⟩
theorem k_st5 {q : Nat} (hT : mT μ q = (1, 5)) (p : Int32) : XM Γ zX5_stands 2 0 0 [.ref q, .int p] μ (rt (.int (if p = 0 then 0 else if p - p / 2 * 2 = 0 then 1 else 0)) μ) := by
  refine XM.of 0 rfl (by decide) (Nat.le_of_ble_eq_true rfl) ?_
  refine x_iload_n (pc := 0) dX5_stands_0 rfl ?_
  refine x_if_eq (pc := 1) (tgt := 16) dX5_stands_1 rfl (fun h_1 => ?_) (fun h_1 => ?_)
  · refine x_iconst (pc := 16) (v := 0) dX5_stands_16 rfl ?_
    refine x_ireturn (pc := 17) dX5_stands_17 rfl (by first | rfl | exact bi_nz) ?_
    exact ⟨by
      first
        | rw [if_pos (by first | exact h_1 | exact Decidable.not_not.mp h_1)]
        | (rw [if_neg (by exact h_1)]
           first
             | rw [if_pos (by by_cases z : p - p / 2 * 2 = 0; exact z; exact absurd (if_neg z) (by exact h_9))]
             | rw [if_neg (by intro z; rw [if_pos z] at h_9; exact absurd h_9 (by decide))]), rfl⟩
  · refine x_aload_n (pc := 4) dX5_stands_4 rfl ?_
    refine x_iload_n (pc := 5) dX5_stands_5 rfl ?_
    refine x_callSU (pc := 6) (As := [.int _]) dX5_stands_6 mX3_stands lsu_5_7 (by decide) hT (k_st3a q p) rfl rfl (Nat.le_of_ble_eq_true rfl) ⟨by decide, by decide⟩ ⟨Nat.zero_le _, Nat.zero_le _⟩ (k_rt ?_)
    refine x_if_eq (pc := 9) (tgt := 16) dX5_stands_9 rfl (fun h_9 => ?_) (fun h_9 => ?_)
    · refine x_iconst (pc := 16) (v := 0) dX5_stands_16 rfl ?_
      refine x_ireturn (pc := 17) dX5_stands_17 rfl (by first | rfl | exact bi_nz) ?_
      exact ⟨by
        first
          | rw [if_pos (by first | exact h_1 | exact Decidable.not_not.mp h_1)]
          | (rw [if_neg (by exact h_1)]
             first
               | rw [if_pos (by by_cases z : p - p / 2 * 2 = 0; exact z; exact absurd (if_neg z) (by exact h_9))]
               | rw [if_neg (by intro z; rw [if_pos z] at h_9; exact absurd h_9 (by decide))]), rfl⟩
    · refine x_iconst (pc := 12) (v := 1) dX5_stands_12 rfl ?_
      refine x_goto (pc := 13) (tgt := 17) dX5_stands_13 rfl ?_
      refine x_ireturn (pc := 17) dX5_stands_17 rfl (by first | rfl | exact bi_nz) ?_
      exact ⟨by
        first
          | rw [if_pos (by first | exact h_1 | exact Decidable.not_not.mp h_1)]
          | (rw [if_neg (by exact h_1)]
             first
               | rw [if_pos (by by_cases z : p - p / 2 * 2 = 0; exact z; exact absurd (if_neg z) (by exact h_9))]
               | rw [if_neg (by intro z; rw [if_pos z] at h_9; exact absurd h_9 (by decide))]), rfl⟩
theorem k_stV {k q : Nat} (hk : k < 6) (hT : mT μ q = (1, kci k)) (p : Int32) : XM Γ (zS (kci k)) 2 0 0 [.ref q, .int p] μ (rt (.int (stI (nI k) p)) μ) := by
  rcases k6 hk with rfl | rfl | rfl | rfl | rfl | rfl
  · exact k_st9 q p
  · exact k_st3 q p
  · exact k_st1 q p
  · refine XM_post (k_st5 hT p) (fun v μ2 h => ?_)
    obtain ⟨h1, h2⟩ := h
    refine ⟨?_, h2⟩
    rw [h1]
    by_cases h0 : p = 0
    · rw [if_pos h0, h0]
      rfl
    · rw [if_neg h0]
      by_cases h3 : p - p / 2 * 2 = 0
      · rw [if_pos h3]
        have e : stI (nI 3) p = if p - p / 2 * 2 = 0 then (if p = 0 then 0 else 1) else 0 := rfl
        rw [e, if_pos h3, if_neg h0]
      · rw [if_neg h3]
        have e : stI (nI 3) p = if p - p / 2 * 2 = 0 then (if p = 0 then 0 else 1) else 0 := rfl
        rw [e, if_neg h3]
  · exact k_st1 q p
  · exact k_st9 q p
theorem k_ms9 (q : Nat) : XM Γ zX9_missed 3 0 0 [.ref q] μ (rt (.int 1) μ) := by
  refine XM.of 0 rfl (by decide) (Nat.le_of_ble_eq_true rfl) ?_
  refine x_iconst (pc := 0) (v := 1) dX9_missed_0 rfl ?_
  refine x_ireturn (pc := 1) dX9_missed_1 rfl rfl ?_
  exact ⟨rfl, rfl⟩
theorem k_ms0 (q : Nat) : XM Γ zX0_missed 3 0 0 [.ref q] μ (rt (.int 0) μ) := by
  refine XM.of 0 rfl (by decide) (Nat.le_of_ble_eq_true rfl) ?_
  refine x_iconst (pc := 0) (v := 0) dX0_missed_0 rfl ?_
  refine x_ireturn (pc := 1) dX0_missed_1 rfl rfl ?_
  exact ⟨rfl, rfl⟩
theorem k_ms9a (q : Nat) : XM Γ zX9_missed 1 0 0 [.ref q] μ (rt (.int 1) μ) := by
  refine XM.of 0 rfl (by decide) (Nat.le_of_ble_eq_true rfl) ?_
  refine x_iconst (pc := 0) (v := 1) dX9_missed_0 rfl ?_
  refine x_ireturn (pc := 1) dX9_missed_1 rfl rfl ?_
  exact ⟨rfl, rfl⟩
theorem k_ms1 {q : Nat} {ci : Nat} (hci : ci < 13) (hT : mT μ q = (1, ci)) : XM Γ zX1_missed 2 0 0 [.ref q] μ (rt (.int 2) μ) := by
  refine XM.of 0 rfl (by decide) (Nat.le_of_ble_eq_true rfl) ?_
  refine x_aload_n (pc := 0) dX1_missed_0 rfl ?_
  refine x_callSU (pc := 1) (As := []) dX1_missed_1 mX9_missed lsu_1_7 (hci) hT (k_ms9a q) rfl rfl (Nat.le_of_ble_eq_true rfl) ⟨by decide, by decide⟩ ⟨Nat.zero_le _, Nat.zero_le _⟩ (k_rt ?_)
  refine x_iconst (pc := 4) (v := 1) dX1_missed_4 rfl ?_
  refine x_iadd (pc := 5) dX1_missed_5 ?_
  refine x_ireturn (pc := 6) dX1_missed_6 rfl rfl ?_
  exact ⟨rfl, rfl⟩
theorem k_ms1a {q : Nat} {ci : Nat} (hci : ci < 13) (hT : mT μ q = (1, ci)) : XM Γ zX1_missed 3 0 0 [.ref q] μ (rt (.int 2) μ) := by
  refine XM.of 0 rfl (by decide) (Nat.le_of_ble_eq_true rfl) ?_
  refine x_aload_n (pc := 0) dX1_missed_0 rfl ?_
  refine x_callSU (pc := 1) (As := []) dX1_missed_1 mX9_missed lsu_1_7 (hci) hT (k_ms9a q) rfl rfl (Nat.le_of_ble_eq_true rfl) ⟨by decide, by decide⟩ ⟨Nat.zero_le _, Nat.zero_le _⟩ (k_rt ?_)
  refine x_iconst (pc := 4) (v := 1) dX1_missed_4 rfl ?_
  refine x_iadd (pc := 5) dX1_missed_5 ?_
  refine x_ireturn (pc := 6) dX1_missed_6 rfl rfl ?_
  exact ⟨rfl, rfl⟩
theorem k_ms5 {q : Nat} {ci : Nat} (hci : ci < 13) (hT : mT μ q = (1, ci)) : XM Γ zX5_missed 3 0 0 [.ref q] μ (rt (.int 2) μ) := by
  refine XM.of 0 rfl (by decide) (Nat.le_of_ble_eq_true rfl) ?_
  refine x_iconst (pc := 0) (v := 2) dX5_missed_0 rfl ?_
  refine x_aload_n (pc := 1) dX5_missed_1 rfl ?_
  refine x_callSO (pc := 2) (As := []) dX5_missed_2 mX9_missed lso_5_11 hci hT (k_ms9a q) rfl rfl (Nat.le_of_ble_eq_true rfl) ⟨by decide, by decide⟩ ⟨Nat.zero_le _, Nat.zero_le _⟩ (k_rt ?_)
  refine x_imul (pc := 5) dX5_missed_5 ?_
  refine x_ireturn (pc := 6) dX5_missed_6 rfl rfl ?_
  exact ⟨rfl, rfl⟩
theorem k_ms10 (hK : KO μ b o 10 thL) : XM Γ zX10_missed 3 0 0 [.ref (adO b o)] (KV μ b κ) (rt (.int (2 + κ.1 o 2 / 4)) (KV μ b κ)) := by
  refine XM.of 0 rfl (by decide) (Nat.le_of_ble_eq_true rfl) ?_
  refine x_aload_n (pc := 0) dX10_missed_0 rfl ?_
  refine x_callSU (pc := 1) (As := []) dX10_missed_1 mX1_missed lsu_10_7 (by decide) hK.2.2.1 (k_ms1 (by decide) hK.2.2.1) rfl rfl (Nat.le_of_ble_eq_true rfl) ⟨by decide, by decide⟩ ⟨Nat.zero_le _, Nat.zero_le _⟩ (k_rt ?_)
  refine x_aload_n (pc := 4) dX10_missed_4 rfl ?_
  refine k_getI (pc := 5) hK dX10_missed_5 (fk_10_11 (Or.inr (Or.inr (Or.inr (Or.inr (Or.inr rfl)))))) (Or.inl (th_i (Or.inr (Or.inr (Or.inr (Or.inr (Or.inr rfl))))) (by decide))) ?_
  refine x_iconst (pc := 8) (v := 4) dX10_missed_8 rfl ?_
  refine x_idiv (pc := 9) dX10_missed_9 (by decide) ?_
  refine x_iadd (pc := 10) dX10_missed_10 ?_
  refine x_ireturn (pc := 11) dX10_missed_11 rfl rfl ?_
  exact ⟨rfl, rfl⟩
theorem k_msV {k : Nat} (hk : k < 6) (hK : KO μ b o (kci k) thL) : XM Γ (zMi (kci k)) 3 0 0 [.ref (adO b o)] (KV μ b κ) (rt (.int (msI (nI k) (κ.1 o 2))) (KV μ b κ)) := by
  rcases k6 hk with rfl | rfl | rfl | rfl | rfl | rfl
  · exact k_ms9 _
  · exact k_ms9 _
  · exact k_ms1a (ci := 1) (by decide) hK.2.2.1
  · exact k_ms5 (ci := 5) (by decide) hK.2.2.1
  · exact k_ms10 hK
  · exact k_ms0 _
theorem k_of9 (q : Nat) (x : Int32) : XM Γ zX9_offends 3 0 0 [.ref q, .int x] μ (rt (.int 0) μ) := by
  refine XM.of 0 rfl (by decide) (Nat.le_of_ble_eq_true rfl) ?_
  refine x_iconst (pc := 0) (v := 0) dX9_offends_0 rfl ?_
  refine x_ireturn (pc := 1) dX9_offends_1 rfl rfl ?_
  exact ⟨rfl, rfl⟩
theorem k_of9a (q : Nat) (x : Int32) : XM Γ zX9_offends 1 0 0 [.ref q, .int x] μ (rt (.int 0) μ) := by
  refine XM.of 0 rfl (by decide) (Nat.le_of_ble_eq_true rfl) ?_
  refine x_iconst (pc := 0) (v := 0) dX9_offends_0 rfl ?_
  refine x_ireturn (pc := 1) dX9_offends_1 rfl rfl ?_
  exact ⟨rfl, rfl⟩
theorem k_of0 (q : Nat) (x : Int32) : XM Γ zX0_offends 3 0 0 [.ref q, .int x] μ (rt (.int 1) μ) := by
  refine XM.of 0 rfl (by decide) (Nat.le_of_ble_eq_true rfl) ?_
  refine x_iconst (pc := 0) (v := 1) dX0_offends_0 rfl ?_
  refine x_ireturn (pc := 1) dX0_offends_1 rfl rfl ?_
  exact ⟨rfl, rfl⟩
theorem k_of1 {ci : Nat} (hth : isTh ci) (hK : KO μ b o ci thL) (x : Int32) : XM Γ zX1_offends 3 0 0 [.ref (adO b o), .int x] (KV μ b κ) (rt (.int (if x = κ.1 o 2 - κ.1 o 2 / 4 * 4 then 1 else 0)) (KV μ b κ)) := by
  refine XM.of 0 rfl (by decide) (Nat.le_of_ble_eq_true rfl) ?_
  refine x_iload_n (pc := 0) dX1_offends_0 rfl ?_
  refine x_aload_n (pc := 1) dX1_offends_1 rfl ?_
  refine k_getI (pc := 2) hK dX1_offends_2 (fk_1_11 hth) (Or.inl (th_i hth (by decide))) ?_
  refine x_iconst (pc := 5) (v := 4) dX1_offends_5 rfl ?_
  refine x_irem (pc := 6) dX1_offends_6 (by decide) ?_
  refine x_icmp_ne (pc := 7) (tgt := 14) dX1_offends_7 rfl (fun h_7 => ?_) (fun h_7 => ?_)
  · refine x_aload_n (pc := 14) dX1_offends_14 rfl ?_
    refine x_iload_n (pc := 15) dX1_offends_15 rfl ?_
    refine x_callSU (pc := 16) (As := [.int _]) dX1_offends_16 mX9_offends lsu_1_17 (isTh_lt hth) hK.2.2.1 (k_of9a _ _) rfl rfl (Nat.le_of_ble_eq_true rfl) ⟨by decide, by decide⟩ ⟨Nat.zero_le _, Nat.zero_le _⟩ (k_rt ?_)
    refine x_ireturn (pc := 19) dX1_offends_19 rfl rfl ?_
    exact ⟨by
      first
        | rw [if_pos (by first | exact h_7 | exact Decidable.not_not.mp h_7)]
        | rw [if_neg (by exact h_7)], rfl⟩
  · refine x_iconst (pc := 10) (v := 1) dX1_offends_10 rfl ?_
    refine x_goto (pc := 11) (tgt := 19) dX1_offends_11 rfl ?_
    refine x_ireturn (pc := 19) dX1_offends_19 rfl rfl ?_
    exact ⟨by
      first
        | rw [if_pos (by first | exact h_7 | exact Decidable.not_not.mp h_7)]
        | rw [if_neg (by exact h_7)], rfl⟩
theorem k_of1a {ci : Nat} (hth : isTh ci) (hK : KO μ b o ci thL) (x : Int32) : XM Γ zX1_offends 2 0 0 [.ref (adO b o), .int x] (KV μ b κ) (rt (.int (if x = κ.1 o 2 - κ.1 o 2 / 4 * 4 then 1 else 0)) (KV μ b κ)) := by
  refine XM.of 0 rfl (by decide) (Nat.le_of_ble_eq_true rfl) ?_
  refine x_iload_n (pc := 0) dX1_offends_0 rfl ?_
  refine x_aload_n (pc := 1) dX1_offends_1 rfl ?_
  refine k_getI (pc := 2) hK dX1_offends_2 (fk_1_11 hth) (Or.inl (th_i hth (by decide))) ?_
  refine x_iconst (pc := 5) (v := 4) dX1_offends_5 rfl ?_
  refine x_irem (pc := 6) dX1_offends_6 (by decide) ?_
  refine x_icmp_ne (pc := 7) (tgt := 14) dX1_offends_7 rfl (fun h_7 => ?_) (fun h_7 => ?_)
  · refine x_aload_n (pc := 14) dX1_offends_14 rfl ?_
    refine x_iload_n (pc := 15) dX1_offends_15 rfl ?_
    refine x_callSU (pc := 16) (As := [.int _]) dX1_offends_16 mX9_offends lsu_1_17 (isTh_lt hth) hK.2.2.1 (k_of9a _ _) rfl rfl (Nat.le_of_ble_eq_true rfl) ⟨by decide, by decide⟩ ⟨Nat.zero_le _, Nat.zero_le _⟩ (k_rt ?_)
    refine x_ireturn (pc := 19) dX1_offends_19 rfl rfl ?_
    exact ⟨by
      first
        | rw [if_pos (by first | exact h_7 | exact Decidable.not_not.mp h_7)]
        | rw [if_neg (by exact h_7)], rfl⟩
  · refine x_iconst (pc := 10) (v := 1) dX1_offends_10 rfl ?_
    refine x_goto (pc := 11) (tgt := 19) dX1_offends_11 rfl ?_
    refine x_ireturn (pc := 19) dX1_offends_19 rfl rfl ?_
    exact ⟨by
      first
        | rw [if_pos (by first | exact h_7 | exact Decidable.not_not.mp h_7)]
        | rw [if_neg (by exact h_7)], rfl⟩
theorem k_of5 {ci : Nat} (hth : isTh ci) (hK : KO μ b o ci thL) (x : Int32) : XM Γ zX5_offends 3 0 0 [.ref (adO b o), .int x] (KV μ b κ) (rt (.int (if x < κ.1 o 3 then 1 else 0)) (KV μ b κ)) := by
  refine XM.of 0 rfl (by decide) (Nat.le_of_ble_eq_true rfl) ?_
  refine x_iload_n (pc := 0) dX5_offends_0 rfl ?_
  refine x_aload_n (pc := 1) dX5_offends_1 rfl ?_
  refine k_getI (pc := 2) hK dX5_offends_2 (fk_5_15 hth) (Or.inl (th_i hth (by decide))) ?_
  refine x_icmp_ge (pc := 5) (tgt := 12) dX5_offends_5 rfl (fun h_5 => ?_) (fun h_5 => ?_)
  · refine x_aload_n (pc := 12) dX5_offends_12 rfl ?_
    refine x_iload_n (pc := 13) dX5_offends_13 rfl ?_
    refine x_callSO (pc := 14) (As := [.int _]) dX5_offends_14 mX9_offends lso_5_21 (isTh_lt hth) hK.2.2.1 (k_of9a _ _) rfl rfl (Nat.le_of_ble_eq_true rfl) ⟨by decide, by decide⟩ ⟨Nat.zero_le _, Nat.zero_le _⟩ (k_rt ?_)
    refine x_ireturn (pc := 17) dX5_offends_17 rfl rfl ?_
    exact ⟨by
      first
        | rw [if_pos (by exact Int32.not_le.mp h_5)]
        | rw [if_neg (by exact Int32.not_lt.mpr h_5)], rfl⟩
  · refine x_iconst (pc := 8) (v := 1) dX5_offends_8 rfl ?_
    refine x_goto (pc := 9) (tgt := 17) dX5_offends_9 rfl ?_
    refine x_ireturn (pc := 17) dX5_offends_17 rfl rfl ?_
    exact ⟨by
      first
        | rw [if_pos (by exact Int32.not_le.mp h_5)]
        | rw [if_neg (by exact Int32.not_lt.mpr h_5)], rfl⟩
theorem k_of10 {ci : Nat} (hth : isTh ci) (hK : KO μ b o ci thL) (x : Int32) : XM Γ zX10_offends 3 0 0 [.ref (adO b o), .int x] (KV μ b κ) (rt (.int (2 * (if x = κ.1 o 2 - κ.1 o 2 / 4 * 4 then 1 else 0))) (KV μ b κ)) := by
  refine XM.of 0 rfl (by decide) (Nat.le_of_ble_eq_true rfl) ?_
  refine x_iconst (pc := 0) (v := 2) dX10_offends_0 rfl ?_
  refine x_aload_n (pc := 1) dX10_offends_1 rfl ?_
  refine x_iload_n (pc := 2) dX10_offends_2 rfl ?_
  refine x_callSU (pc := 3) (As := [.int _]) dX10_offends_3 mX1_offends lsu_10_17 (isTh_lt hth) hK.2.2.1 (k_of1a hth hK _) rfl rfl (Nat.le_of_ble_eq_true rfl) ⟨by decide, by decide⟩ ⟨Nat.zero_le _, Nat.zero_le _⟩ (k_rt ?_)
  refine x_imul (pc := 6) dX10_offends_6 ?_
  refine x_ireturn (pc := 7) dX10_offends_7 rfl rfl ?_
  exact ⟨rfl, rfl⟩
theorem k_ofV {k : Nat} (hk : k < 6) (hK : KO μ b o (kci k) thL) (x : Int32) : XM Γ (zOf (kci k)) 3 0 0 [.ref (adO b o), .int x] (KV μ b κ) (rt (.int (ofI (nI k) (κ.1 o 2) (κ.1 o 3) x)) (KV μ b κ)) := by
  have hth := kci_th k
  rcases k6 hk with rfl | rfl | rfl | rfl | rfl | rfl
  · exact k_of9 _ _
  · exact k_of9 _ _
  · exact k_of1 hth hK x
  · exact k_of5 hth hK x
  · exact k_of10 hth hK x
  · exact k_of0 _ _
end M74
