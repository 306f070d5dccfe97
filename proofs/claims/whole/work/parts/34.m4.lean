/-! the reference: count, copy, things, taken -/
section M34
variable {Γ : Gm} {μ : Mem} {a : Ma} {σ : MS}
/-- how many of the first things are put anywhere -/
def cpt (σ : MS) : Nat → Int32
  | 0 => 0
  | k + 1 => cpt σ k + (if σ.2.2 14 k = -1 then 0 else 1)
def ctR (σ : MS) (n : Nat) (x : Int32) : Int32 := if 0 ≤ x ∧ x ≤ 21 then (if x ≤ 4 then (if x = 1 then cpt σ n else if x = 0 then σ.1 15 else if x = 2 then σ.1 3 else if x = 3 then σ.1 6 else σ.1 4) else if 11 ≤ x then (if 15 ≤ x then σ.2.2 9 (nn x - 15) else σ.2.2 8 (nn x - 11)) else σ.2.2 7 (nn x - 5)) else -2
theorem c_count (hM : MOK μ a) (x : Int32) {n : Nat} (h15 : σ.1 15 = nI n) (hn : n ≤ 5) : XM Γ zX12_count 2 0 0 [.ref a.1, .int x] (MV μ a σ) (rt (.int (ctR σ n x)) (MV μ a σ)) := by
  refine XM.of 2 rfl (by decide) (Nat.le_of_ble_eq_true rfl) ?_
  have L : ∀ (m j : Nat), j + m = n → ctR σ n x = cpt σ n → WA Γ zX12_count (xrm 2 0 0) 0 0 0 0 (rt (.int (ctR σ n x)) (MV μ a σ)) 114 [some (.ref a.1), some (.int x), some (.int (cpt σ j)), some (.int (nI j))] [] (MV μ a σ) := by
    intro m
    induction m with
    | zero =>
      intro j hj hx
      obtain rfl : j = n := by omega
      refine x_iload_n (pc := 114) dX12_count_114 rfl ?_
      refine x_aload_n (pc := 115) dX12_count_115 rfl ?_
      refine m_getI (pc := 116) hM dX12_count_116 fk_12_106 (Or.inl rfl) ?_
      refine x_icmp_ge (pc := 119) (tgt := 146) dX12_count_119 rfl (fun h_119 => ?_) (fun h_119 => absurd (by rw [h15]; exact Int32.le_refl _) h_119)
      refine x_iload_n (pc := 146) dX12_count_146 rfl ?_
      refine x_ireturn (pc := 147) dX12_count_147 rfl rfl ?_
      exact ⟨by rw [hx], rfl⟩
    | succ m ih =>
      intro j hj hx
      refine x_iload_n (pc := 114) dX12_count_114 rfl ?_
      refine x_aload_n (pc := 115) dX12_count_115 rfl ?_
      refine m_getI (pc := 116) hM dX12_count_116 fk_12_106 (Or.inl rfl) ?_
      refine x_icmp_ge (pc := 119) (tgt := 146) dX12_count_119 rfl (fun h_119 => absurd h_119 (by rw [h15]; exact lit_le (n := n) j (by omega) (by omega))) (fun h_119 => ?_)
      refine x_iload_n (pc := 122) dX12_count_122 rfl ?_
      refine x_aload_n (pc := 123) dX12_count_123 rfl ?_
      refine m_getR (pc := 124) hM dX12_count_124 fk_12_44 (Or.inr ⟨_, rfl⟩) (Or.inl (by decide)) ?_
      refine x_iload_n (pc := 127) dX12_count_127 rfl ?_
      refine m_iald (pc := 128) hM dX12_count_128 (rfl) (by show j < 5; omega) ?_
      refine x_iconst (pc := 129) (v := -1) dX12_count_129 rfl ?_
      refine x_icmp_eq (pc := 130) (tgt := 137) dX12_count_130 rfl (fun h_130 => ?_) (fun h_130 => ?_)
      · refine x_iconst (pc := 137) (v := 0) dX12_count_137 rfl ?_
        refine x_iadd (pc := 138) dX12_count_138 ?_
        refine x_istore_n (pc := 139) (lv2 := [_, _, _, _]) dX12_count_139 (by decide) rfl rfl ?_
        refine x_iinc (pc := 140) (lv2 := [_, _, _, _]) dX12_count_140 (by decide) rfl rfl (nI_1 _) rfl ?_
        refine x_goto (pc := 143) (tgt := 114) dX12_count_143 rfl ?_
        have e : cpt σ (j + 1) = cpt σ j + (if σ.2.2 14 j = -1 then 0 else 1) := rfl
        first | rw [if_pos h_130] at e | rw [if_neg h_130] at e
        rw [← e]
        exact ih (j + 1) (by omega) hx
      · refine x_iconst (pc := 133) (v := 1) dX12_count_133 rfl ?_
        refine x_goto (pc := 134) (tgt := 138) dX12_count_134 rfl ?_
        refine x_iadd (pc := 138) dX12_count_138 ?_
        refine x_istore_n (pc := 139) (lv2 := [_, _, _, _]) dX12_count_139 (by decide) rfl rfl ?_
        refine x_iinc (pc := 140) (lv2 := [_, _, _, _]) dX12_count_140 (by decide) rfl rfl (nI_1 _) rfl ?_
        refine x_goto (pc := 143) (tgt := 114) dX12_count_143 rfl ?_
        have e : cpt σ (j + 1) = cpt σ j + (if σ.2.2 14 j = -1 then 0 else 1) := rfl
        first | rw [if_pos h_130] at e | rw [if_neg h_130] at e
        rw [← e]
        exact ih (j + 1) (by omega) hx
  refine x_iload_n (pc := 0) dX12_count_0 rfl ?_
  refine x_i2l (pc := 1) dX12_count_1 ?_
  refine x_lconst (pc := 2) (v := 0) dX12_count_2 rfl ?_
  refine x_ldc2 (pc := 3) dX12_count_3 kc_12_373 ?_
  refine x_callS (pc := 6) (As := [.long _, .long _, .long _]) dX12_count_6 mX12_in lk_12_109 (c_inI 0 21) rfl rfl (by decide) ⟨by decide, by decide⟩ ⟨Nat.zero_le _, Nat.zero_le _⟩ (k_rt ?_)
  refine x_if_ne (pc := 9) (tgt := 15) dX12_count_9 rfl (fun h_9 => ?_) (fun h_9 => ?_)
  · have hb := bi_n0 h_9
    obtain ⟨q, hq, rfl⟩ := nI_of2 (M := 21) (n := 21) rfl (Int32.not_lt.mpr hb.1) hb.2
    have eq : nn (nI q) = q := nn_nI (by omega)
    refine x_iload_n (pc := 15) dX12_count_15 rfl ?_
    refine x_iconst (pc := 16) (v := 4) dX12_count_16 rfl ?_
    refine x_icmp_le (pc := 17) (tgt := 65) dX12_count_17 rfl (fun h_17 => ?_) (fun h_17 => ?_)
    · refine x_iload_n (pc := 65) dX12_count_65 rfl ?_
      refine x_iconst (pc := 66) (v := 1) dX12_count_66 rfl ?_
      refine x_icmp_eq (pc := 67) (tgt := 110) dX12_count_67 rfl (fun h_67 => ?_) (fun h_67 => ?_)
      · refine x_iconst (pc := 110) (v := 0) dX12_count_110 rfl ?_
        refine x_istore_n (pc := 111) (lv2 := [_, _, _, _]) dX12_count_111 (by decide) rfl rfl ?_
        refine x_iconst (pc := 112) (v := 0) dX12_count_112 rfl ?_
        refine x_istore_n (pc := 113) (lv2 := [_, _, _, _]) dX12_count_113 (by decide) rfl rfl ?_
        exact L n 0 (by omega) (by rw [ctR, if_pos hb, if_pos h_17, if_pos h_67])
      · refine x_iload_n (pc := 70) dX12_count_70 rfl ?_
        refine x_if_ne (pc := 71) (tgt := 81) dX12_count_71 rfl (fun h_71 => ?_) (fun h_71 => ?_)
        · refine x_iload_n (pc := 81) dX12_count_81 rfl ?_
          refine x_iconst (pc := 82) (v := 2) dX12_count_82 rfl ?_
          refine x_icmp_ne (pc := 83) (tgt := 93) dX12_count_83 rfl (fun h_83 => ?_) (fun h_83 => ?_)
          · refine x_iload_n (pc := 93) dX12_count_93 rfl ?_
            refine x_iconst (pc := 94) (v := 3) dX12_count_94 rfl ?_
            refine x_icmp_ne (pc := 95) (tgt := 105) dX12_count_95 rfl (fun h_95 => ?_) (fun h_95 => ?_)
            · refine x_aload_n (pc := 105) dX12_count_105 rfl ?_
              refine m_getI (pc := 106) hM dX12_count_106 fk_12_263 (Or.inl rfl) ?_
              refine x_ireturn (pc := 109) dX12_count_109 rfl rfl ?_
              rw [ctR, if_pos hb, if_pos h_17, if_neg h_67]
              first
                | rw [if_pos h_71]; exact ⟨rfl, rfl⟩
                | rw [if_neg h_71, if_pos h_83]; exact ⟨rfl, rfl⟩
                | rw [if_neg h_71, if_neg h_83, if_pos h_95]; exact ⟨rfl, rfl⟩
                | rw [if_neg h_71, if_neg h_83, if_neg h_95]; exact ⟨rfl, rfl⟩
            · refine x_aload_n (pc := 98) dX12_count_98 rfl ?_
              refine m_getI (pc := 99) hM dX12_count_99 fk_12_145 (Or.inl rfl) ?_
              refine x_goto (pc := 102) (tgt := 109) dX12_count_102 rfl ?_
              refine x_ireturn (pc := 109) dX12_count_109 rfl rfl ?_
              rw [ctR, if_pos hb, if_pos h_17, if_neg h_67]
              first
                | rw [if_pos h_71]; exact ⟨rfl, rfl⟩
                | rw [if_neg h_71, if_pos h_83]; exact ⟨rfl, rfl⟩
                | rw [if_neg h_71, if_neg h_83, if_pos h_95]; exact ⟨rfl, rfl⟩
                | rw [if_neg h_71, if_neg h_83, if_neg h_95]; exact ⟨rfl, rfl⟩
          · refine x_aload_n (pc := 86) dX12_count_86 rfl ?_
            refine m_getI (pc := 87) hM dX12_count_87 fk_12_103 (Or.inl rfl) ?_
            refine x_goto (pc := 90) (tgt := 109) dX12_count_90 rfl ?_
            refine x_ireturn (pc := 109) dX12_count_109 rfl rfl ?_
            rw [ctR, if_pos hb, if_pos h_17, if_neg h_67]
            first
              | rw [if_pos h_71]; exact ⟨rfl, rfl⟩
              | rw [if_neg h_71, if_pos h_83]; exact ⟨rfl, rfl⟩
              | rw [if_neg h_71, if_neg h_83, if_pos h_95]; exact ⟨rfl, rfl⟩
              | rw [if_neg h_71, if_neg h_83, if_neg h_95]; exact ⟨rfl, rfl⟩
        · refine x_aload_n (pc := 74) dX12_count_74 rfl ?_
          refine m_getI (pc := 75) hM dX12_count_75 fk_12_106 (Or.inl rfl) ?_
          refine x_goto (pc := 78) (tgt := 109) dX12_count_78 rfl ?_
          refine x_ireturn (pc := 109) dX12_count_109 rfl rfl ?_
          rw [ctR, if_pos hb, if_pos h_17, if_neg h_67]
          first
            | rw [if_pos h_71]; exact ⟨rfl, rfl⟩
            | rw [if_neg h_71, if_pos h_83]; exact ⟨rfl, rfl⟩
            | rw [if_neg h_71, if_neg h_83, if_pos h_95]; exact ⟨rfl, rfl⟩
            | rw [if_neg h_71, if_neg h_83, if_neg h_95]; exact ⟨rfl, rfl⟩
    · refine x_iload_n (pc := 20) dX12_count_20 rfl ?_
      refine x_bipush (pc := 21) (v := 11) dX12_count_21 rfl ?_
      refine x_icmp_ge (pc := 23) (tgt := 37) dX12_count_23 rfl (fun h_23 => ?_) (fun h_23 => ?_)
      · refine x_iload_n (pc := 37) dX12_count_37 rfl ?_
        refine x_bipush (pc := 38) (v := 15) dX12_count_38 rfl ?_
        refine x_icmp_ge (pc := 40) (tgt := 55) dX12_count_40 rfl (fun h_40 => ?_) (fun h_40 => ?_)
        · have z4 := h_17
          rw [show (4 : Int32) = nI 4 from rfl, nI_leI (by omega) (by omega)] at z4
          have z11 := h_23
          have z15 := h_40
          rw [show (11 : Int32) = nI 11 from rfl, nI_leI (by omega) (by omega)] at z11
          rw [show (15 : Int32) = nI 15 from rfl, nI_leI (by omega) (by omega)] at z15
          refine x_aload_n (pc := 55) dX12_count_55 rfl ?_
          refine m_getR (pc := 56) hM dX12_count_56 fk_12_29 (Or.inr ⟨_, rfl⟩) (Or.inl (by decide)) ?_
          refine x_iload_n (pc := 59) dX12_count_59 rfl ?_
          refine x_bipush (pc := 60) (v := 15) dX12_count_60 rfl ?_
          refine x_isub (pc := 62) dX12_count_62 ?_
          refine m_iald (pc := 63) hM dX12_count_63 (pk_sub (b := 15) (by omega)) (by show q - 15 < _; first | (show q - 15 < 6; omega) | (show q - 15 < 4; omega) | (show q - 15 < 7; omega)) ?_
          refine x_ireturn (pc := 64) dX12_count_64 rfl rfl ?_
          rw [ctR, if_pos hb, if_neg h_17, eq]
          first
            | rw [if_neg h_23]; exact ⟨rfl, rfl⟩
            | rw [if_pos h_23, if_neg h_40]; exact ⟨rfl, rfl⟩
            | rw [if_pos h_23, if_pos h_40]; exact ⟨rfl, rfl⟩
        · have z4 := h_17
          rw [show (4 : Int32) = nI 4 from rfl, nI_leI (by omega) (by omega)] at z4
          have z11 := h_23
          have z15 := h_40
          rw [show (11 : Int32) = nI 11 from rfl, nI_leI (by omega) (by omega)] at z11
          rw [show (15 : Int32) = nI 15 from rfl, nI_leI (by omega) (by omega)] at z15
          refine x_aload_n (pc := 43) dX12_count_43 rfl ?_
          refine m_getR (pc := 44) hM dX12_count_44 fk_12_26 (Or.inr ⟨_, rfl⟩) (Or.inl (by decide)) ?_
          refine x_iload_n (pc := 47) dX12_count_47 rfl ?_
          refine x_bipush (pc := 48) (v := 11) dX12_count_48 rfl ?_
          refine x_isub (pc := 50) dX12_count_50 ?_
          refine m_iald (pc := 51) hM dX12_count_51 (pk_sub (b := 11) (by omega)) (by show q - 11 < _; first | (show q - 11 < 6; omega) | (show q - 11 < 4; omega) | (show q - 11 < 7; omega)) ?_
          refine x_goto (pc := 52) (tgt := 64) dX12_count_52 rfl ?_
          refine x_ireturn (pc := 64) dX12_count_64 rfl rfl ?_
          rw [ctR, if_pos hb, if_neg h_17, eq]
          first
            | rw [if_neg h_23]; exact ⟨rfl, rfl⟩
            | rw [if_pos h_23, if_neg h_40]; exact ⟨rfl, rfl⟩
            | rw [if_pos h_23, if_pos h_40]; exact ⟨rfl, rfl⟩
      · have z4 := h_17
        rw [show (4 : Int32) = nI 4 from rfl, nI_leI (by omega) (by omega)] at z4
        have z11 := h_23
        rw [show (11 : Int32) = nI 11 from rfl, nI_leI (by omega) (by omega)] at z11
        refine x_aload_n (pc := 26) dX12_count_26 rfl ?_
        refine m_getR (pc := 27) hM dX12_count_27 fk_12_23 (Or.inr ⟨_, rfl⟩) (Or.inl (by decide)) ?_
        refine x_iload_n (pc := 30) dX12_count_30 rfl ?_
        refine x_iconst (pc := 31) (v := 5) dX12_count_31 rfl ?_
        refine x_isub (pc := 32) dX12_count_32 ?_
        refine m_iald (pc := 33) hM dX12_count_33 (pk_sub (b := 5) (by omega)) (by show q - 5 < _; first | (show q - 5 < 6; omega) | (show q - 5 < 4; omega) | (show q - 5 < 7; omega)) ?_
        refine x_goto (pc := 34) (tgt := 64) dX12_count_34 rfl ?_
        refine x_ireturn (pc := 64) dX12_count_64 rfl rfl ?_
        rw [ctR, if_pos hb, if_neg h_17, eq]
        first
          | rw [if_neg h_23]; exact ⟨rfl, rfl⟩
          | rw [if_pos h_23, if_neg h_40]; exact ⟨rfl, rfl⟩
          | rw [if_pos h_23, if_pos h_40]; exact ⟨rfl, rfl⟩
  · refine x_bipush (pc := 12) (v := -2) dX12_count_12 rfl ?_
    refine x_ireturn (pc := 14) dX12_count_14 rfl rfl ?_
    exact ⟨by rw [ctR, if_neg (bi_0.mp h_9)], rfl⟩
def f_cy (b c n : Nat) (up : Bool) : Nat → MS → MS := fun k s => tA s 55 (b + (if up then n - 1 - k else k)) (s.2.2 55 (c + (if up then n - 1 - k else k)))
def cyR (σ : MS) (s i t j n : Int32) : Int32 × MS := if ¬ (0 ≤ s ∧ s ≤ 3) ∨ ¬ (0 ≤ t ∧ t ≤ 3) then (-2, σ) else if σ.2.2 52 (nn s) = 0 ∨ σ.2.2 52 (nn t) = 0 then (-11, σ) else if ¬ σ.2.2 53 (nn s) = σ.2.2 53 (nn t) then (-13, σ) else if n < 0 ∨ i < 0 ∨ j < 0 ∨ σ.2.2 54 (nn s) - n < i ∨ σ.2.2 54 (nn t) - n < j then (-12, σ) else (n, it (f_cy (40 * nn t + nn j) (40 * nn s + nn i) (nn n) (decide (s = t ∧ i < j))) (nn n) σ)
theorem sbI {x n i : Nat} (hx : x < 2 ^ 30) (hn : n < 2 ^ 31) (hi : i < 2 ^ 31) (h : ¬ nI x - nI n < nI i) : i + n ≤ x := by
  rcases Nat.lt_or_ge x n with q | q
  · exfalso
    apply h
    rw [Int32.lt_iff_toInt_lt, nI_toInt hi, Int32.toInt_sub, nI_toInt (by omega), nI_toInt hn, Int.bmod_eq_of_le] <;> omega
  · rw [pk_sub q, nI_ltI (by omega) hi] at h
    omega
theorem i40b (j i k : Nat) : (40 : Int32) * nI j + nI i + nI k = nI (40 * j + i + k) := by
  rw [i40, nI_add]
theorem c_copy (hM : MOK μ a) (hS : shO σ) (s i t j n : Int32) : XM Γ zX12_copy 3 0 0 [.ref a.1, .int s, .int i, .int t, .int j, .int n] (MV μ a σ) (rt (.int (cyR σ s i t j n).1) (MV μ a (cyR σ s i t j n).2)) := by
  refine XM.of 3 rfl (by decide) (Nat.le_of_ble_eq_true rfl) ?_
  have c100 : ∀ (x i0 y j0 n0 nx ny : Nat), x < 4 → y < 4 → i0 + n0 ≤ nx → j0 + n0 ≤ ny → nx ≤ 40 → ny ≤ 40 → s = nI x → i = nI i0 → t = nI y → j = nI j0 → n = nI n0 → cyR σ s i t j n = (n, it (f_cy (40 * nn t + nn j) (40 * nn s + nn i) (nn n) (decide (s = t ∧ i < j))) (nn n) σ) → WA Γ zX12_copy (xrm 3 0 0) 0 0 0 0 (rt (.int (cyR σ s i t j n).1) (MV μ a (cyR σ s i t j n).2)) 100 [some (.ref a.1), some (.int s), some (.int i), some (.int t), some (.int j), some (.int n), none, none, none] [] (MV μ a σ) := by
    intro x i0 y j0 n0 nx ny hx hy h1 h2 h3 h4 es ei et ej en hR
    rw [hR]
    subst es; subst ei; subst et; subst ej; subst en
    rw [nn_nI (show y < 2 ^ 31 by omega), nn_nI (show j0 < 2 ^ 31 by omega), nn_nI (show x < 2 ^ 31 by omega), nn_nI (show i0 < 2 ^ 31 by omega), nn_nI (show n0 < 2 ^ 31 by omega)]
    have Lu : ∀ (m k : Nat) (z : Option Value), k + m = n0 → WA Γ zX12_copy (xrm 3 0 0) 0 0 0 0 (rt (.int (nI n0)) (MV μ a (it (f_cy (40 * y + j0) (40 * x + i0) n0 true) n0 σ))) 121 [some (.ref a.1), some (.int (nI x)), some (.int (nI i0)), some (.int (nI y)), some (.int (nI j0)), some (.int (nI n0)), some (.int 1), some (.int (nI k)), z] [] (MV μ a (it (f_cy (40 * y + j0) (40 * x + i0) n0 true) k σ)) := by
      intro m
      induction m with
      | zero =>
        intro k z hk
        obtain rfl : k = n0 := by omega
        refine x_iload (pc := 121) dX12_copy_121 rfl ?_
        refine x_iload (pc := 123) dX12_copy_123 rfl ?_
        refine x_icmp_ge (pc := 125) (tgt := 182) dX12_copy_125 rfl (fun h_125 => ?_) (fun h_125 => absurd (Int32.le_refl _) h_125)
        refine x_iload (pc := 182) dX12_copy_182 rfl ?_
        refine x_ireturn (pc := 184) dX12_copy_184 rfl rfl ?_
        exact ⟨rfl, rfl⟩
      | succ m ih =>
        intro k z hk
        refine x_iload (pc := 121) dX12_copy_121 rfl ?_
        refine x_iload (pc := 123) dX12_copy_123 rfl ?_
        refine x_icmp_ge (pc := 125) (tgt := 182) dX12_copy_125 rfl (fun h_125 => absurd h_125 (lit_le (n := n0) k (by omega) (by omega))) (fun h_125 => ?_)
        refine x_iload (pc := 128) dX12_copy_128 rfl ?_
        refine x_if_eq (pc := 130) (tgt := 143) dX12_copy_130 rfl (fun h_130 => absurd h_130 (by decide)) (fun h_130 => ?_)
        refine x_iload (pc := 133) dX12_copy_133 rfl ?_
        refine x_iconst (pc := 135) (v := 1) dX12_copy_135 rfl ?_
        refine x_isub (pc := 136) dX12_copy_136 ?_
        refine x_iload (pc := 137) dX12_copy_137 rfl ?_
        refine x_isub (pc := 139) dX12_copy_139 ?_
        refine x_goto (pc := 140) (tgt := 145) dX12_copy_140 rfl ?_
        refine x_istore (pc := 145) (lv2 := [_, _, _, _, _, _, _, _, _]) dX12_copy_145 (by decide) rfl rfl ?_
        rw [show (nI n0 - 1 - nI k : Int32) = nI (n0 - 1 - k) by rw [show (1 : Int32) = nI 1 from rfl, pk_sub (by omega), pk_sub (by omega)]]
        refine x_aload_n (pc := 147) dX12_copy_147 rfl ?_
        refine m_getR (pc := 148) hM dX12_copy_148 fk_12_96 (Or.inr ⟨_, rfl⟩) (Or.inl (by decide)) ?_
        refine x_bipush (pc := 151) (v := 40) dX12_copy_151 rfl ?_
        refine x_iload_n (pc := 153) dX12_copy_153 rfl ?_
        refine x_imul (pc := 154) dX12_copy_154 ?_
        refine x_iload (pc := 155) dX12_copy_155 rfl ?_
        refine x_iadd (pc := 157) dX12_copy_157 ?_
        refine x_iload (pc := 158) dX12_copy_158 rfl ?_
        refine x_iadd (pc := 160) dX12_copy_160 ?_
        refine x_aload_n (pc := 161) dX12_copy_161 rfl ?_
        refine m_getR (pc := 162) hM dX12_copy_162 fk_12_96 (Or.inr ⟨_, rfl⟩) (Or.inl (by decide)) ?_
        refine x_bipush (pc := 165) (v := 40) dX12_copy_165 rfl ?_
        refine x_iload_n (pc := 167) dX12_copy_167 rfl ?_
        refine x_imul (pc := 168) dX12_copy_168 ?_
        refine x_iload_n (pc := 169) dX12_copy_169 rfl ?_
        refine x_iadd (pc := 170) dX12_copy_170 ?_
        refine x_iload (pc := 171) dX12_copy_171 rfl ?_
        refine x_iadd (pc := 173) dX12_copy_173 ?_
        refine m_iald (pc := 174) hM dX12_copy_174 (i40b x i0 (n0 - 1 - k)) (by show 40 * x + i0 + (n0 - 1 - k) < 160; omega) ?_
        refine m_iast (pc := 175) hM dX12_copy_175 (i40b y j0 (n0 - 1 - k)) (by show 40 * y + j0 + (n0 - 1 - k) < 160; omega) ?_
        refine x_iinc (pc := 176) (lv2 := [_, _, _, _, _, _, _, _, _]) dX12_copy_176 (by decide) rfl rfl (nI_1 _) rfl ?_
        refine x_goto (pc := 179) (tgt := 121) dX12_copy_179 rfl ?_
        exact ih (k + 1) _ (by omega)
    have Ld : ∀ (m k : Nat) (z : Option Value), k + m = n0 → WA Γ zX12_copy (xrm 3 0 0) 0 0 0 0 (rt (.int (nI n0)) (MV μ a (it (f_cy (40 * y + j0) (40 * x + i0) n0 false) n0 σ))) 121 [some (.ref a.1), some (.int (nI x)), some (.int (nI i0)), some (.int (nI y)), some (.int (nI j0)), some (.int (nI n0)), some (.int 0), some (.int (nI k)), z] [] (MV μ a (it (f_cy (40 * y + j0) (40 * x + i0) n0 false) k σ)) := by
      intro m
      induction m with
      | zero =>
        intro k z hk
        obtain rfl : k = n0 := by omega
        refine x_iload (pc := 121) dX12_copy_121 rfl ?_
        refine x_iload (pc := 123) dX12_copy_123 rfl ?_
        refine x_icmp_ge (pc := 125) (tgt := 182) dX12_copy_125 rfl (fun h_125 => ?_) (fun h_125 => absurd (Int32.le_refl _) h_125)
        refine x_iload (pc := 182) dX12_copy_182 rfl ?_
        refine x_ireturn (pc := 184) dX12_copy_184 rfl rfl ?_
        exact ⟨rfl, rfl⟩
      | succ m ih =>
        intro k z hk
        refine x_iload (pc := 121) dX12_copy_121 rfl ?_
        refine x_iload (pc := 123) dX12_copy_123 rfl ?_
        refine x_icmp_ge (pc := 125) (tgt := 182) dX12_copy_125 rfl (fun h_125 => absurd h_125 (lit_le (n := n0) k (by omega) (by omega))) (fun h_125 => ?_)
        refine x_iload (pc := 128) dX12_copy_128 rfl ?_
        refine x_if_eq (pc := 130) (tgt := 143) dX12_copy_130 rfl (fun h_130 => ?_) (fun h_130 => absurd (by decide) h_130)
        refine x_iload (pc := 143) dX12_copy_143 rfl ?_
        refine x_istore (pc := 145) (lv2 := [_, _, _, _, _, _, _, _, _]) dX12_copy_145 (by decide) rfl rfl ?_
        skip
        refine x_aload_n (pc := 147) dX12_copy_147 rfl ?_
        refine m_getR (pc := 148) hM dX12_copy_148 fk_12_96 (Or.inr ⟨_, rfl⟩) (Or.inl (by decide)) ?_
        refine x_bipush (pc := 151) (v := 40) dX12_copy_151 rfl ?_
        refine x_iload_n (pc := 153) dX12_copy_153 rfl ?_
        refine x_imul (pc := 154) dX12_copy_154 ?_
        refine x_iload (pc := 155) dX12_copy_155 rfl ?_
        refine x_iadd (pc := 157) dX12_copy_157 ?_
        refine x_iload (pc := 158) dX12_copy_158 rfl ?_
        refine x_iadd (pc := 160) dX12_copy_160 ?_
        refine x_aload_n (pc := 161) dX12_copy_161 rfl ?_
        refine m_getR (pc := 162) hM dX12_copy_162 fk_12_96 (Or.inr ⟨_, rfl⟩) (Or.inl (by decide)) ?_
        refine x_bipush (pc := 165) (v := 40) dX12_copy_165 rfl ?_
        refine x_iload_n (pc := 167) dX12_copy_167 rfl ?_
        refine x_imul (pc := 168) dX12_copy_168 ?_
        refine x_iload_n (pc := 169) dX12_copy_169 rfl ?_
        refine x_iadd (pc := 170) dX12_copy_170 ?_
        refine x_iload (pc := 171) dX12_copy_171 rfl ?_
        refine x_iadd (pc := 173) dX12_copy_173 ?_
        refine m_iald (pc := 174) hM dX12_copy_174 (i40b x i0 (k)) (by show 40 * x + i0 + (k) < 160; omega) ?_
        refine m_iast (pc := 175) hM dX12_copy_175 (i40b y j0 (k)) (by show 40 * y + j0 + (k) < 160; omega) ?_
        refine x_iinc (pc := 176) (lv2 := [_, _, _, _, _, _, _, _, _]) dX12_copy_176 (by decide) rfl rfl (nI_1 _) rfl ?_
        refine x_goto (pc := 179) (tgt := 121) dX12_copy_179 rfl ?_
        exact ih (k + 1) _ (by omega)
    by_cases hu : nI x = nI y ∧ nI i0 < nI j0
    · rw [decide_eq_true hu]
      refine x_iload_n (pc := 100) dX12_copy_100 rfl ?_
      refine x_iload_n (pc := 101) dX12_copy_101 rfl ?_
      refine x_icmp_ne (pc := 102) (tgt := 115) dX12_copy_102 rfl (fun h_102 => absurd (hu.1) h_102) (fun h_102 => ?_)
      refine x_iload_n (pc := 105) dX12_copy_105 rfl ?_
      refine x_iload (pc := 106) dX12_copy_106 rfl ?_
      refine x_icmp_ge (pc := 108) (tgt := 115) dX12_copy_108 rfl (fun h_108 => absurd h_108 (Int32.not_le.mpr hu.2)) (fun h_108 => ?_)
      refine x_iconst (pc := 111) (v := 1) dX12_copy_111 rfl ?_
      refine x_goto (pc := 112) (tgt := 116) dX12_copy_112 rfl ?_
      refine x_istore (pc := 116) (lv2 := [_, _, _, _, _, _, _, _, _]) dX12_copy_116 (by decide) rfl rfl ?_
      refine x_iconst (pc := 118) (v := 0) dX12_copy_118 rfl ?_
      refine x_istore (pc := 119) (lv2 := [_, _, _, _, _, _, _, _, _]) dX12_copy_119 (by decide) rfl rfl ?_
      exact Lu n0 0 _ (by omega)
    · rw [decide_eq_false hu]
      refine x_iload_n (pc := 100) dX12_copy_100 rfl ?_
      refine x_iload_n (pc := 101) dX12_copy_101 rfl ?_
      refine x_icmp_ne (pc := 102) (tgt := 115) dX12_copy_102 rfl (fun h_102 => ?_) (fun h_102 => ?_)
      · refine x_iconst (pc := 115) (v := 0) dX12_copy_115 rfl ?_
        refine x_istore (pc := 116) (lv2 := [_, _, _, _, _, _, _, _, _]) dX12_copy_116 (by decide) rfl rfl ?_
        refine x_iconst (pc := 118) (v := 0) dX12_copy_118 rfl ?_
        refine x_istore (pc := 119) (lv2 := [_, _, _, _, _, _, _, _, _]) dX12_copy_119 (by decide) rfl rfl ?_
        exact Ld n0 0 _ (by omega)
      · refine x_iload_n (pc := 105) dX12_copy_105 rfl ?_
        refine x_iload (pc := 106) dX12_copy_106 rfl ?_
        refine x_icmp_ge (pc := 108) (tgt := 115) dX12_copy_108 rfl (fun h_108 => ?_) (fun h_108 => ?_)
        · refine x_iconst (pc := 115) (v := 0) dX12_copy_115 rfl ?_
          refine x_istore (pc := 116) (lv2 := [_, _, _, _, _, _, _, _, _]) dX12_copy_116 (by decide) rfl rfl ?_
          refine x_iconst (pc := 118) (v := 0) dX12_copy_118 rfl ?_
          refine x_istore (pc := 119) (lv2 := [_, _, _, _, _, _, _, _, _]) dX12_copy_119 (by decide) rfl rfl ?_
          exact Ld n0 0 _ (by omega)
        · exact absurd ⟨by first | exact h_102 | exact Decidable.not_not.mp h_102, Int32.not_le.mp h_108⟩ hu
  refine x_iload_n (pc := 0) dX12_copy_0 rfl ?_
  refine x_callS (pc := 1) (As := [.int _]) dX12_copy_1 mX12_isSheet lk_12_352 (c_isSheet _) rfl rfl (by decide) ⟨by decide, by decide⟩ ⟨Nat.zero_le _, Nat.zero_le _⟩ (k_rt ?_)
  refine x_if_eq (pc := 4) (tgt := 14) dX12_copy_4 rfl (fun h_4 => ?_) (fun h_4 => ?_)
  · refine x_bipush (pc := 14) (v := -2) dX12_copy_14 rfl ?_
    refine x_ireturn (pc := 16) dX12_copy_16 rfl rfl ?_
    have hF : cyR σ s i t j n = (-2, σ) := if_pos (by first | exact Or.inl (bi_0.mp h_4) | exact Or.inr (bi_0.mp h_11))
    exact ⟨by rw [hF], by rw [hF]⟩
  · refine x_iload_n (pc := 7) dX12_copy_7 rfl ?_
    refine x_callS (pc := 8) (As := [.int _]) dX12_copy_8 mX12_isSheet lk_12_352 (c_isSheet _) rfl rfl (by decide) ⟨by decide, by decide⟩ ⟨Nat.zero_le _, Nat.zero_le _⟩ (k_rt ?_)
    refine x_if_ne (pc := 11) (tgt := 17) dX12_copy_11 rfl (fun h_11 => ?_) (fun h_11 => ?_)
    · obtain ⟨x, hx, rfl⟩ := i3 (bi_n0 h_4)
      obtain ⟨y, hy, rfl⟩ := i3 (bi_n0 h_11)
      refine x_aload_n (pc := 17) dX12_copy_17 rfl ?_
      refine m_getR (pc := 18) hM dX12_copy_18 fk_12_86 (Or.inr ⟨_, rfl⟩) (Or.inr rfl) ?_
      refine x_iload_n (pc := 21) dX12_copy_21 rfl ?_
      refine m_zald (pc := 22) hM dX12_copy_22 (rfl) (hx) ?_
      refine x_if_eq (pc := 23) (tgt := 35) dX12_copy_23 rfl (fun h_23 => ?_) (fun h_23 => ?_)
      · refine x_bipush (pc := 35) (v := -11) dX12_copy_35 rfl ?_
        refine x_ireturn (pc := 37) dX12_copy_37 rfl rfl ?_
        rw [cyR, if_neg (by rintro (z | z); exact z (bi_n0 h_4); exact z (bi_n0 h_11)), nn_nI (show x < 2 ^ 31 by omega), nn_nI (show y < 2 ^ 31 by omega), if_pos (by first | exact Or.inl h_23 | exact Or.inr h_32)]
        exact ⟨rfl, rfl⟩
      · refine x_aload_n (pc := 26) dX12_copy_26 rfl ?_
        refine m_getR (pc := 27) hM dX12_copy_27 fk_12_86 (Or.inr ⟨_, rfl⟩) (Or.inr rfl) ?_
        refine x_iload_n (pc := 30) dX12_copy_30 rfl ?_
        refine m_zald (pc := 31) hM dX12_copy_31 (rfl) (hy) ?_
        refine x_if_ne (pc := 32) (tgt := 38) dX12_copy_32 rfl (fun h_32 => ?_) (fun h_32 => ?_)
        · refine x_aload_n (pc := 38) dX12_copy_38 rfl ?_
          refine m_getR (pc := 39) hM dX12_copy_39 fk_12_90 (Or.inr ⟨_, rfl⟩) (Or.inl (by decide)) ?_
          refine x_iload_n (pc := 42) dX12_copy_42 rfl ?_
          refine m_iald (pc := 43) hM dX12_copy_43 (rfl) (hx) ?_
          refine x_aload_n (pc := 44) dX12_copy_44 rfl ?_
          refine m_getR (pc := 45) hM dX12_copy_45 fk_12_90 (Or.inr ⟨_, rfl⟩) (Or.inl (by decide)) ?_
          refine x_iload_n (pc := 48) dX12_copy_48 rfl ?_
          refine m_iald (pc := 49) hM dX12_copy_49 (rfl) (hy) ?_
          refine x_icmp_eq (pc := 50) (tgt := 56) dX12_copy_50 rfl (fun h_50 => ?_) (fun h_50 => ?_)
          · refine x_iload (pc := 56) dX12_copy_56 rfl ?_
            refine x_if_lt (pc := 58) (tgt := 97) dX12_copy_58 rfl (fun h_58 => ?_) (fun h_58 => ?_)
            · refine x_bipush (pc := 97) (v := -12) dX12_copy_97 rfl ?_
              refine x_ireturn (pc := 99) dX12_copy_99 rfl rfl ?_
              rw [cyR, if_neg (by rintro (z | z); exact z (bi_n0 h_4); exact z (bi_n0 h_11)), nn_nI (show x < 2 ^ 31 by omega), nn_nI (show y < 2 ^ 31 by omega), if_neg (by rintro (z | z); exact h_23 z; exact h_32 z), if_neg (not_not_intro h_50), if_pos (by
                first
                  | exact Or.inl h_58
                  | exact Or.inr (Or.inl h_62)
                  | exact Or.inr (Or.inr (Or.inl h_67))
                  | exact Or.inr (Or.inr (Or.inr (Or.inl h_80)))
                  | exact Or.inr (Or.inr (Or.inr (Or.inr (Int32.not_le.mp h_94)))))]
              exact ⟨rfl, rfl⟩
            · refine x_iload_n (pc := 61) dX12_copy_61 rfl ?_
              refine x_if_lt (pc := 62) (tgt := 97) dX12_copy_62 rfl (fun h_62 => ?_) (fun h_62 => ?_)
              · refine x_bipush (pc := 97) (v := -12) dX12_copy_97 rfl ?_
                refine x_ireturn (pc := 99) dX12_copy_99 rfl rfl ?_
                rw [cyR, if_neg (by rintro (z | z); exact z (bi_n0 h_4); exact z (bi_n0 h_11)), nn_nI (show x < 2 ^ 31 by omega), nn_nI (show y < 2 ^ 31 by omega), if_neg (by rintro (z | z); exact h_23 z; exact h_32 z), if_neg (not_not_intro h_50), if_pos (by
                  first
                    | exact Or.inl h_58
                    | exact Or.inr (Or.inl h_62)
                    | exact Or.inr (Or.inr (Or.inl h_67))
                    | exact Or.inr (Or.inr (Or.inr (Or.inl h_80)))
                    | exact Or.inr (Or.inr (Or.inr (Or.inr (Int32.not_le.mp h_94)))))]
                exact ⟨rfl, rfl⟩
              · refine x_iload (pc := 65) dX12_copy_65 rfl ?_
                refine x_if_lt (pc := 67) (tgt := 97) dX12_copy_67 rfl (fun h_67 => ?_) (fun h_67 => ?_)
                · refine x_bipush (pc := 97) (v := -12) dX12_copy_97 rfl ?_
                  refine x_ireturn (pc := 99) dX12_copy_99 rfl rfl ?_
                  rw [cyR, if_neg (by rintro (z | z); exact z (bi_n0 h_4); exact z (bi_n0 h_11)), nn_nI (show x < 2 ^ 31 by omega), nn_nI (show y < 2 ^ 31 by omega), if_neg (by rintro (z | z); exact h_23 z; exact h_32 z), if_neg (not_not_intro h_50), if_pos (by
                    first
                      | exact Or.inl h_58
                      | exact Or.inr (Or.inl h_62)
                      | exact Or.inr (Or.inr (Or.inl h_67))
                      | exact Or.inr (Or.inr (Or.inr (Or.inl h_80)))
                      | exact Or.inr (Or.inr (Or.inr (Or.inr (Int32.not_le.mp h_94)))))]
                  exact ⟨rfl, rfl⟩
                · refine x_iload_n (pc := 70) dX12_copy_70 rfl ?_
                  refine x_aload_n (pc := 71) dX12_copy_71 rfl ?_
                  refine m_getR (pc := 72) hM dX12_copy_72 fk_12_93 (Or.inr ⟨_, rfl⟩) (Or.inl (by decide)) ?_
                  refine x_iload_n (pc := 75) dX12_copy_75 rfl ?_
                  refine m_iald (pc := 76) hM dX12_copy_76 (rfl) (hx) ?_
                  refine x_iload (pc := 77) dX12_copy_77 rfl ?_
                  refine x_isub (pc := 79) dX12_copy_79 ?_
                  refine x_icmp_gt (pc := 80) (tgt := 97) dX12_copy_80 rfl (fun h_80 => ?_) (fun h_80 => ?_)
                  · refine x_bipush (pc := 97) (v := -12) dX12_copy_97 rfl ?_
                    refine x_ireturn (pc := 99) dX12_copy_99 rfl rfl ?_
                    rw [cyR, if_neg (by rintro (z | z); exact z (bi_n0 h_4); exact z (bi_n0 h_11)), nn_nI (show x < 2 ^ 31 by omega), nn_nI (show y < 2 ^ 31 by omega), if_neg (by rintro (z | z); exact h_23 z; exact h_32 z), if_neg (not_not_intro h_50), if_pos (by
                      first
                        | exact Or.inl h_58
                        | exact Or.inr (Or.inl h_62)
                        | exact Or.inr (Or.inr (Or.inl h_67))
                        | exact Or.inr (Or.inr (Or.inr (Or.inl h_80)))
                        | exact Or.inr (Or.inr (Or.inr (Or.inr (Int32.not_le.mp h_94)))))]
                    exact ⟨rfl, rfl⟩
                  · refine x_iload (pc := 83) dX12_copy_83 rfl ?_
                    refine x_aload_n (pc := 85) dX12_copy_85 rfl ?_
                    refine m_getR (pc := 86) hM dX12_copy_86 fk_12_93 (Or.inr ⟨_, rfl⟩) (Or.inl (by decide)) ?_
                    refine x_iload_n (pc := 89) dX12_copy_89 rfl ?_
                    refine m_iald (pc := 90) hM dX12_copy_90 (rfl) (hy) ?_
                    refine x_iload (pc := 91) dX12_copy_91 rfl ?_
                    refine x_isub (pc := 93) dX12_copy_93 ?_
                    refine x_icmp_le (pc := 94) (tgt := 100) dX12_copy_94 rfl (fun h_94 => ?_) (fun h_94 => ?_)
                    · have hR : cyR σ (nI x) i (nI y) j n = (n, it (f_cy (40 * nn (nI y) + nn j) (40 * nn (nI x) + nn i) (nn n) (decide (nI x = nI y ∧ i < j))) (nn n) σ) := by
                        rw [cyR, if_neg (by rintro (z | z); exact z (bi_n0 h_4); exact z (bi_n0 h_11)), if_neg (by rw [nn_nI (show x < 2 ^ 31 by omega), nn_nI (show y < 2 ^ 31 by omega)]; rintro (z | z); exact h_23 z; exact h_32 z), if_neg (by rw [nn_nI (show x < 2 ^ 31 by omega), nn_nI (show y < 2 ^ 31 by omega)]; exact not_not_intro h_50), if_neg (by
                          rw [nn_nI (show x < 2 ^ 31 by omega), nn_nI (show y < 2 ^ 31 by omega)]
                          rintro (z | z | z | z | z)
                          · exact h_58 z
                          · exact h_62 z
                          · exact h_67 z
                          · exact h_80 z
                          · exact absurd z (Int32.not_lt.mpr h_94))]
                      rcases hS x hx with q0 | ⟨-, ⟨nx, hnx, q1⟩, -⟩
                      · exact absurd q0 h_23
                      rcases hS y hy with q0 | ⟨-, ⟨ny, hny, q2⟩, -⟩
                      · exact absurd q0 h_32
                      obtain ⟨n0, hn0, en⟩ := nI_of h_58
                      obtain ⟨i0, hi0, ei⟩ := nI_of h_62
                      obtain ⟨j0, hj0, ej⟩ := nI_of h_67
                      have z1 := h_80
                      have z2 := Int32.not_lt.mpr h_94
                      rw [q1, en, ei] at z1
                      rw [q2, en, ej] at z2
                      exact c100 x i0 y j0 n0 nx ny hx hy (sbI (by omega) hn0 hi0 z1) (sbI (by omega) hn0 hj0 z2) hnx hny rfl ei rfl ej en hR
                    · refine x_bipush (pc := 97) (v := -12) dX12_copy_97 rfl ?_
                      refine x_ireturn (pc := 99) dX12_copy_99 rfl rfl ?_
                      rw [cyR, if_neg (by rintro (z | z); exact z (bi_n0 h_4); exact z (bi_n0 h_11)), nn_nI (show x < 2 ^ 31 by omega), nn_nI (show y < 2 ^ 31 by omega), if_neg (by rintro (z | z); exact h_23 z; exact h_32 z), if_neg (not_not_intro h_50), if_pos (by
                        first
                          | exact Or.inl h_58
                          | exact Or.inr (Or.inl h_62)
                          | exact Or.inr (Or.inr (Or.inl h_67))
                          | exact Or.inr (Or.inr (Or.inr (Or.inl h_80)))
                          | exact Or.inr (Or.inr (Or.inr (Or.inr (Int32.not_le.mp h_94)))))]
                      exact ⟨rfl, rfl⟩
          · refine x_bipush (pc := 53) (v := -13) dX12_copy_53 rfl ?_
            refine x_ireturn (pc := 55) dX12_copy_55 rfl rfl ?_
            rw [cyR, if_neg (by rintro (z | z); exact z (bi_n0 h_4); exact z (bi_n0 h_11)), nn_nI (show x < 2 ^ 31 by omega), nn_nI (show y < 2 ^ 31 by omega), if_neg (by rintro (z | z); exact h_23 z; exact h_32 z), if_pos h_50]
            exact ⟨rfl, rfl⟩
        · refine x_bipush (pc := 35) (v := -11) dX12_copy_35 rfl ?_
          refine x_ireturn (pc := 37) dX12_copy_37 rfl rfl ?_
          rw [cyR, if_neg (by rintro (z | z); exact z (bi_n0 h_4); exact z (bi_n0 h_11)), nn_nI (show x < 2 ^ 31 by omega), nn_nI (show y < 2 ^ 31 by omega), if_pos (by first | exact Or.inl h_23 | exact Or.inr h_32)]
          exact ⟨rfl, rfl⟩
    · refine x_bipush (pc := 14) (v := -2) dX12_copy_14 rfl ?_
      refine x_ireturn (pc := 16) dX12_copy_16 rfl rfl ?_
      have hF : cyR σ s i t j n = (-2, σ) := if_pos (by first | exact Or.inl (bi_0.mp h_4) | exact Or.inr (bi_0.mp h_11))
      exact ⟨by rw [hF], by rw [hF]⟩
end M34
