/-! the class: told, set, cell, sheet, copy -/
def chK (κ : KS) (n f : Nat) (B of v : Int32) : Int32 × KS := if (0 ≤ of ∧ of < nI n) ∧ (0 ≤ v ∧ v < B) then (κ.1 (15 + nn of) f, kI κ (15 + nn of) f v) else (-2, κ)
def setK (κ : KS) (n : Nat) (what of v : Int32) : Int32 × KS := if what = 0 then exV κ 1 0 6 of v 16 else if what = 1 then exV κ 1 1 4 of v 4 else if what = 2 then exV κ 1 2 7 of v 16 else if what = 3 then chK κ n 2 10 of v else if what = 4 then chK κ n 3 4 of v else if what = 5 then chK κ n 4 10 of v else (-2, κ)
def clK (κ : KS) (s i v : Int32) : Int32 × KS := if 0 ≤ s ∧ s < 4 then (if κ.1 (5 + nn s) 0 = -1 then (-11, κ) else if 0 ≤ i ∧ i < κ.1 (5 + nn s) 1 then (1, kA κ (5 + nn s) 2 (nn i) (nr (κ.1 (5 + nn s) 0) v)) else (-12, κ)) else (-2, κ)
def beK (κ : KS) (o : Nat) (k n : Int32) : KS := kS (kI (kI κ o 0 k) o 1 n) o 2 (pre (fun _ => 0) (κ.2 o 2) 40)
def shK (κ : KS) (s k n : Int32) : Int32 × KS := if (0 ≤ s ∧ s < 4) ∧ (k = -1 ∨ (0 ≤ k ∧ k < 3)) then (if k = -1 then (1, beK κ (5 + nn s) (-1) 0) else if n ≤ 40 then (if 0 ≤ n then (1, beK κ (5 + nn s) k n) else (-14, κ)) else (-2, κ)) else (-2, κ)
def hldK (κ : KS) (o : Nat) (i n : Int32) : Prop := 0 ≤ n ∧ n ≤ κ.1 o 1 ∧ 0 ≤ i ∧ i ≤ κ.1 o 1 - n
def cyK (κ : KS) (s i t j n : Int32) (v : Int32) (κ2 : KS) : Prop := if (0 ≤ s ∧ s < 4) ∧ (0 ≤ t ∧ t < 4) then (if κ.1 (5 + nn s) 0 = -1 ∨ κ.1 (5 + nn t) 0 = -1 then v = -11 ∧ κ2 = κ else if κ.1 (5 + nn s) 0 = κ.1 (5 + nn t) 0 then ((hldK κ (5 + nn s) i n ∧ hldK κ (5 + nn t) j n ∧ v = n ∧ κ2 = kS κ (5 + nn t) 2 (va_cpy (κ.2 (5 + nn s) 2) (κ.2 (5 + nn t) 2) (nn i) (nn j) (nn n))) ∨ (¬ (hldK κ (5 + nn s) i n ∧ hldK κ (5 + nn t) j n) ∧ v = -12 ∧ κ2 = κ)) else v = -13 ∧ κ2 = κ) else v = -2 ∧ κ2 = κ
section M9999990
variable {Γ : Gm} {μ : Mem} {b : Kb} {κ : KS} {kd : Nat → Nat} {kp : Bool} {n nt : Nat} {tn : Nat → Nat}
theorem k_told (hI : CI μ b kd kp 4 nt tn) (t x : Int32) (h14 : κ.1 1 4 = nI n) (hn5 : n ≤ 5) (hkd : ∀ i, i < 5 → kd i < 6) : XM Γ zX11_told 3 0 0 [.ref (adO b 0), .int t, .int x] (KV μ b κ) (rt (.int (tdK2 κ kd n t x)) (KV μ b κ)) := by
  refine XM.of 1 rfl (by decide) (Nat.le_of_ble_eq_true rfl) ?_
  have hI' := hI
  obtain ⟨-, ⟨c1, c2, c3, c4, c5, c6, c7⟩, ⟨c8, c9⟩, hh, -, ⟨p1, p2⟩, c10, hsh, -⟩ := hI'
  refine x_aload_n (pc := 0) dX11_told_0 rfl ?_
  refine k_getR (pc := 1) c1 dX11_told_1 fk_11_10 (Or.inl ⟨_, rfl⟩) (c2) ?_
  refine x_iload_n (pc := 4) dX11_told_4 rfl ?_
  refine x_callV (pc := 5) (As := [.int _]) dX11_told_5 mX2_has lk_11_90 hh.1.2.2.1 (k_has hh.1 h14 hn5) rfl rfl (Nat.le_of_ble_eq_true rfl) ⟨by decide, by decide⟩ ⟨Nat.zero_le _, Nat.zero_le _⟩ (k_rt ?_)
  refine x_if_ne (pc := 8) (tgt := 14) dX11_told_8 rfl (fun h_8 => ?_) (fun h_8 => ?_)
  · have ht := bi_n0 h_8
    obtain ⟨i, hi, rfl⟩ := ixD (n := n) ht (by omega)
    have e : tdK2 κ kd n (nI i) x = _ := if_pos ht
    rw [nn_nI (by omega)] at e
    refine x_aload_n (pc := 14) dX11_told_14 rfl ?_
    refine k_getR (pc := 15) c1 dX11_told_15 fk_11_10 (Or.inl ⟨_, rfl⟩) (c2) ?_
    refine k_getR (pc := 18) hh.1 dX11_told_18 fk_11_94 (Or.inr ⟨_, rfl⟩) (hh.2.2.1) ?_
    refine x_iload_n (pc := 21) dX11_told_21 rfl ?_
    refine x_aald (pc := 22) dX11_told_22 (hh.2.1.2.1) (Or.inl rfl) (rfl) (show i < 5 by omega) (by decide) ((hh.2.2.2.2 i (by omega)).1) ?_
    refine x_astore_n (pc := 23) (lv2 := [_, _, _, _]) dX11_told_23 (by decide) rfl rfl ?_
    refine x_iload_n (pc := 24) dX11_told_24 rfl ?_
    by_cases x0 : x = 0
    · subst x0
      refine x_tableIn (pc := 25) (off := 39) (tgt := 64) dX11_told_25 (by decide) (by decide) (by decide) (by decide) ?_
      refine x_aload_n (pc := 64) dX11_told_64 rfl ?_
      refine k_getI (pc := 65) (hh.2.2.2.2 i (show i < 5 by omega)).2 dX11_told_65 (fk_11_130 (kci_th _)) (Or.inl (th_i (kci_th _) (by decide))) ?_
      refine x_ireturn (pc := 68) dX11_told_68 rfl rfl ?_
      rw [e, if_pos rfl]
      exact ⟨rfl, rfl⟩
    by_cases x1 : x = 1
    · subst x1
      refine x_tableIn (pc := 25) (off := 44) (tgt := 69) dX11_told_25 (by decide) (by decide) (by decide) (by decide) ?_
      refine x_aload_n (pc := 69) dX11_told_69 rfl ?_
      refine k_getI (pc := 70) (hh.2.2.2.2 i (show i < 5 by omega)).2 dX11_told_70 (fk_11_133 (kci_th _)) (Or.inl (th_i (kci_th _) (by decide))) ?_
      refine x_ireturn (pc := 73) dX11_told_73 rfl rfl ?_
      rw [e, if_neg (by decide), if_pos rfl]
      exact ⟨rfl, rfl⟩
    by_cases x2 : x = 2
    · subst x2
      refine x_tableIn (pc := 25) (off := 49) (tgt := 74) dX11_told_25 (by decide) (by decide) (by decide) (by decide) ?_
      refine x_aload_n (pc := 74) dX11_told_74 rfl ?_
      refine k_getI (pc := 75) (hh.2.2.2.2 i (show i < 5 by omega)).2 dX11_told_75 (fk_11_136 (kci_th _)) (Or.inl (th_i (kci_th _) (by decide))) ?_
      refine x_ireturn (pc := 78) dX11_told_78 rfl rfl ?_
      rw [e, if_neg (by decide), if_neg (by decide), if_pos rfl]
      exact ⟨rfl, rfl⟩
    by_cases x3 : x = 3
    · subst x3
      refine x_tableIn (pc := 25) (off := 54) (tgt := 79) dX11_told_25 (by decide) (by decide) (by decide) (by decide) ?_
      refine x_aload_n (pc := 79) dX11_told_79 rfl ?_
      refine k_getI (pc := 80) (hh.2.2.2.2 i (show i < 5 by omega)).2 dX11_told_80 (fk_11_139 (kci_th _)) (Or.inl (th_i (kci_th _) (by decide))) ?_
      refine x_ireturn (pc := 83) dX11_told_83 rfl rfl ?_
      rw [e, if_neg (by decide), if_neg (by decide), if_neg (by decide), if_pos rfl]
      exact ⟨rfl, rfl⟩
    by_cases x4 : x = 4
    · subst x4
      refine x_tableIn (pc := 25) (off := 59) (tgt := 84) dX11_told_25 (by decide) (by decide) (by decide) (by decide) ?_
      refine x_aload_n (pc := 84) dX11_told_84 rfl ?_
      refine k_getI (pc := 85) (hh.2.2.2.2 i (show i < 5 by omega)).2 dX11_told_85 (fk_11_114 (kci_th _)) (Or.inl (th_i (kci_th _) (by decide))) ?_
      refine x_ireturn (pc := 88) dX11_told_88 rfl rfl ?_
      rw [e, if_neg (by decide), if_neg (by decide), if_neg (by decide), if_neg (by decide), if_pos rfl]
      exact ⟨rfl, rfl⟩
    by_cases x5 : x = 5
    · subst x5
      refine x_tableIn (pc := 25) (off := 64) (tgt := 89) dX11_told_25 (by decide) (by decide) (by decide) (by decide) ?_
      refine x_aload_n (pc := 89) dX11_told_89 rfl ?_
      refine k_getI (pc := 90) (hh.2.2.2.2 i (show i < 5 by omega)).2 dX11_told_90 (fk_11_114 (kci_th _)) (Or.inl (th_i (kci_th _) (by decide))) ?_
      refine x_bipush (pc := 93) (v := 6) dX11_told_93 rfl ?_
      refine x_callS (pc := 95) (As := [.int _, .int _]) dX11_told_95 mX11_isBelow lk_11_104 (k_isBelow _ _) rfl rfl (Nat.le_of_ble_eq_true rfl) ⟨by decide, by decide⟩ ⟨Nat.zero_le _, Nat.zero_le _⟩ (k_rt ?_)
      refine x_if_eq (pc := 98) (tgt := 126) dX11_told_98 rfl (fun h_98 => ?_) (fun h_98 => ?_)
      · refine x_iconst (pc := 126) (v := 0) dX11_told_126 rfl ?_
        refine x_ireturn (pc := 127) dX11_told_127 rfl rfl ?_
        first
          | (rw [e, if_neg (by decide), if_neg (by decide), if_neg (by decide), if_neg (by decide), if_neg (by decide), if_pos rfl, if_pos (bi_n0 h_98), ep, nn_nI (by omega)]
             exact ⟨rfl, rfl⟩)
          | (rw [e, if_neg (by decide), if_neg (by decide), if_neg (by decide), if_neg (by decide), if_neg (by decide), if_pos rfl, if_neg (bi_0.mp h_98)]
             exact ⟨rfl, rfl⟩)
      · have hp := bi_n0 h_98
        obtain ⟨p, hp6, ep⟩ := ixD (n := 6) hp (by decide)
        refine x_aload_n (pc := 101) dX11_told_101 rfl ?_
        refine k_getR (pc := 102) c1 dX11_told_102 fk_11_10 (Or.inl ⟨_, rfl⟩) (c2) ?_
        refine k_getA (pc := 105) hh.1 dX11_told_105 fk_11_77 (Or.inr ⟨_, rfl⟩) (by decide) ?_
        refine x_aload_n (pc := 108) dX11_told_108 rfl ?_
        refine k_getI (pc := 109) (hh.2.2.2.2 i (show i < 5 by omega)).2 dX11_told_109 (fk_11_114 (kci_th _)) (Or.inl (th_i (kci_th _) (by decide))) ?_
        refine k_iald (pc := 112) hh.1 dX11_told_112 (ep) (show p < 6 from hp6) (by decide) ?_
        refine x_aload_n (pc := 113) dX11_told_113 rfl ?_
        refine k_getR (pc := 114) c1 dX11_told_114 fk_11_10 (Or.inl ⟨_, rfl⟩) (c2) ?_
        refine k_getA (pc := 117) hh.1 dX11_told_117 fk_11_84 (Or.inr ⟨_, rfl⟩) (by decide) ?_
        refine x_callS (pc := 120) (As := [.int _, .ref _]) dX11_told_120 mX11_viewersOf lk_11_142 (k_viewersOf hh.1 1 _ rfl) rfl rfl (Nat.le_of_ble_eq_true rfl) ⟨by decide, by decide⟩ ⟨Nat.zero_le _, Nat.zero_le _⟩ (k_rt ?_)
        refine x_goto (pc := 123) (tgt := 127) dX11_told_123 rfl ?_
        refine x_ireturn (pc := 127) dX11_told_127 rfl rfl ?_
        first
          | (rw [e, if_neg (by decide), if_neg (by decide), if_neg (by decide), if_neg (by decide), if_neg (by decide), if_pos rfl, if_pos (bi_n0 h_98), ep, nn_nI (by omega)]
             exact ⟨rfl, rfl⟩)
          | (rw [e, if_neg (by decide), if_neg (by decide), if_neg (by decide), if_neg (by decide), if_neg (by decide), if_pos rfl, if_neg (bi_0.mp h_98)]
             exact ⟨rfl, rfl⟩)
    have hout : x.toInt < 0 ∨ 5 < x.toInt := by
      have y0 : x.toInt ≠ 0 := fun z => x0 (Int32.toInt_inj.mp (z.trans (by decide)))
      have y1 : x.toInt ≠ 1 := fun z => x1 (Int32.toInt_inj.mp (z.trans (by decide)))
      have y2 : x.toInt ≠ 2 := fun z => x2 (Int32.toInt_inj.mp (z.trans (by decide)))
      have y3 : x.toInt ≠ 3 := fun z => x3 (Int32.toInt_inj.mp (z.trans (by decide)))
      have y4 : x.toInt ≠ 4 := fun z => x4 (Int32.toInt_inj.mp (z.trans (by decide)))
      have y5 : x.toInt ≠ 5 := fun z => x5 (Int32.toInt_inj.mp (z.trans (by decide)))
      omega
    refine x_tableOut (pc := 25) (tgt := 128) dX11_told_25 hout rfl ?_
    rw [if_neg x0, if_neg x1, if_neg x2, if_neg x3, if_neg x4, if_neg x5] at e
    refine x_iload_n (pc := 128) dX11_told_128 rfl ?_
    refine x_bipush (pc := 129) (v := 6) dX11_told_129 rfl ?_
    refine x_icmp_lt (pc := 131) (tgt := 140) dX11_told_131 rfl (fun h_131 => ?_) (fun h_131 => ?_)
    · refine x_bipush (pc := 140) (v := -100) dX11_told_140 rfl ?_
      refine x_goto (pc := 142) (tgt := 161) dX11_told_142 rfl ?_
      refine x_ireturn (pc := 161) dX11_told_161 rfl rfl ?_
      first
        | (rw [e, if_pos h_131]
           exact ⟨rfl, rfl⟩)
        | (rw [e, if_neg h_131, if_neg h_137]
           exact ⟨rfl, rfl⟩)
        | (rw [e, if_neg h_131, if_pos h_137, if_pos h_153]
           exact ⟨rfl, rfl⟩)
        | (rw [e, if_neg h_131, if_pos h_137, if_neg h_153]
           exact ⟨rfl, rfl⟩)
    · refine x_iload_n (pc := 134) dX11_told_134 rfl ?_
      refine x_bipush (pc := 135) (v := 12) dX11_told_135 rfl ?_
      refine x_icmp_lt (pc := 137) (tgt := 145) dX11_told_137 rfl (fun h_137 => ?_) (fun h_137 => ?_)
      · refine x_aload_n (pc := 145) dX11_told_145 rfl ?_
        refine x_iload_n (pc := 146) dX11_told_146 rfl ?_
        refine x_bipush (pc := 147) (v := 6) dX11_told_147 rfl ?_
        refine x_isub (pc := 149) dX11_told_149 ?_
        refine x_callU (pc := 150) (As := [.int _]) dX11_told_150 (mS (kci_th (kd i))) (lv_11_117 (kci_th (kd i))) (hh.2.2.2.2 i (show i < 5 by omega)).2.2.2.1 (k_stV (μ := KV μ b κ) (q := adO b (15 + i)) (hkd i (by omega)) (hh.2.2.2.2 i (show i < 5 by omega)).2.2.2.1 (x - 6)) rfl rfl (Nat.le_of_ble_eq_true rfl) ⟨by decide, by decide⟩ ⟨Nat.zero_le _, Nat.zero_le _⟩ (k_rt ?_)
        refine x_if_eq (pc := 153) (tgt := 160) dX11_told_153 rfl (fun h_153 => ?_) (fun h_153 => ?_)
        · refine x_iconst (pc := 160) (v := 0) dX11_told_160 rfl ?_
          refine x_ireturn (pc := 161) dX11_told_161 rfl rfl ?_
          first
            | (rw [e, if_pos h_131]
               exact ⟨rfl, rfl⟩)
            | (rw [e, if_neg h_131, if_neg h_137]
               exact ⟨rfl, rfl⟩)
            | (rw [e, if_neg h_131, if_pos h_137, if_pos h_153]
               exact ⟨rfl, rfl⟩)
            | (rw [e, if_neg h_131, if_pos h_137, if_neg h_153]
               exact ⟨rfl, rfl⟩)
        · refine x_iconst (pc := 156) (v := 1) dX11_told_156 rfl ?_
          refine x_goto (pc := 157) (tgt := 161) dX11_told_157 rfl ?_
          refine x_ireturn (pc := 161) dX11_told_161 rfl rfl ?_
          first
            | (rw [e, if_pos h_131]
               exact ⟨rfl, rfl⟩)
            | (rw [e, if_neg h_131, if_neg h_137]
               exact ⟨rfl, rfl⟩)
            | (rw [e, if_neg h_131, if_pos h_137, if_pos h_153]
               exact ⟨rfl, rfl⟩)
            | (rw [e, if_neg h_131, if_pos h_137, if_neg h_153]
               exact ⟨rfl, rfl⟩)
      · refine x_bipush (pc := 140) (v := -100) dX11_told_140 rfl ?_
        refine x_goto (pc := 142) (tgt := 161) dX11_told_142 rfl ?_
        refine x_ireturn (pc := 161) dX11_told_161 rfl rfl ?_
        first
          | (rw [e, if_pos h_131]
             exact ⟨rfl, rfl⟩)
          | (rw [e, if_neg h_131, if_neg h_137]
             exact ⟨rfl, rfl⟩)
          | (rw [e, if_neg h_131, if_pos h_137, if_pos h_153]
             exact ⟨rfl, rfl⟩)
          | (rw [e, if_neg h_131, if_pos h_137, if_neg h_153]
             exact ⟨rfl, rfl⟩)
  · refine x_bipush (pc := 11) (v := -100) dX11_told_11 rfl ?_
    refine x_ireturn (pc := 13) dX11_told_13 rfl rfl ?_
    rw [show tdK2 κ kd n t x = -100 from if_neg (bi_0.mp h_8)]
    exact ⟨rfl, rfl⟩
theorem k_set (hI : CI μ b kd kp 4 nt tn) (x of v : Int32) (h14 : κ.1 1 4 = nI n) (hn5 : n ≤ 5) : XM Γ zX11_set 3 0 0 [.ref (adO b 0), .int x, .int of, .int v] (KV μ b κ) (rt (.int (setK κ n x of v).1) (KV μ b (setK κ n x of v).2)) := by
  refine XM.of 0 rfl (by decide) (Nat.le_of_ble_eq_true rfl) ?_
  have hI' := hI
  obtain ⟨-, ⟨c1, c2, c3, c4, c5, c6, c7⟩, ⟨c8, c9⟩, hh, -, ⟨p1, p2⟩, c10, hsh, -⟩ := hI'
  refine x_iload_n (pc := 0) dX11_set_0 rfl ?_
  by_cases x0 : x = 0
  · subst x0
    refine x_tableIn (pc := 1) (off := 39) (tgt := 40) dX11_set_1 (by decide) (by decide) (by decide) (by decide) ?_
    have e : setK κ n 0 of v = exV κ 1 0 6 of v 16 := by
      unfold setK
      rw [if_pos rfl]
    refine x_aload_n (pc := 40) dX11_set_40 rfl ?_
    refine k_getR (pc := 41) c1 dX11_set_41 fk_11_10 (Or.inl ⟨_, rfl⟩) (c2) ?_
    refine k_getA (pc := 44) hh.1 dX11_set_44 fk_11_77 (Or.inr ⟨_, rfl⟩) (by decide) ?_
    refine x_iload_n (pc := 47) dX11_set_47 rfl ?_
    refine x_iload_n (pc := 48) dX11_set_48 rfl ?_
    refine x_bipush (pc := 49) (v := 16) dX11_set_49 rfl ?_
    refine x_callS (pc := 51) (As := [.ref _, .int _, .int _, .int _]) dX11_set_51 mX11_exchange lk_11_80 (k_exchange hh.1 0 _ _ _ (by decide) (by decide)) rfl rfl (Nat.le_of_ble_eq_true rfl) ⟨by decide, by decide⟩ ⟨Nat.zero_le _, Nat.zero_le _⟩ (k_rt ?_)
    refine x_ireturn (pc := 54) dX11_set_54 rfl rfl ?_
    rw [e]
    exact ⟨rfl, rfl⟩
  by_cases x1 : x = 1
  · subst x1
    refine x_tableIn (pc := 1) (off := 54) (tgt := 55) dX11_set_1 (by decide) (by decide) (by decide) (by decide) ?_
    have e : setK κ n 1 of v = exV κ 1 1 4 of v 4 := by
      unfold setK
      rw [if_neg (by decide), if_pos rfl]
    refine x_aload_n (pc := 55) dX11_set_55 rfl ?_
    refine k_getR (pc := 56) c1 dX11_set_56 fk_11_10 (Or.inl ⟨_, rfl⟩) (c2) ?_
    refine k_getA (pc := 59) hh.1 dX11_set_59 fk_11_84 (Or.inr ⟨_, rfl⟩) (by decide) ?_
    refine x_iload_n (pc := 62) dX11_set_62 rfl ?_
    refine x_iload_n (pc := 63) dX11_set_63 rfl ?_
    refine x_iconst (pc := 64) (v := 4) dX11_set_64 rfl ?_
    refine x_callS (pc := 65) (As := [.ref _, .int _, .int _, .int _]) dX11_set_65 mX11_exchange lk_11_80 (k_exchange hh.1 1 _ _ _ (by decide) (by decide)) rfl rfl (Nat.le_of_ble_eq_true rfl) ⟨by decide, by decide⟩ ⟨Nat.zero_le _, Nat.zero_le _⟩ (k_rt ?_)
    refine x_ireturn (pc := 68) dX11_set_68 rfl rfl ?_
    rw [e]
    exact ⟨rfl, rfl⟩
  by_cases x2 : x = 2
  · subst x2
    refine x_tableIn (pc := 1) (off := 68) (tgt := 69) dX11_set_1 (by decide) (by decide) (by decide) (by decide) ?_
    have e : setK κ n 2 of v = exV κ 1 2 7 of v 16 := by
      unfold setK
      rw [if_neg (by decide), if_neg (by decide), if_pos rfl]
    refine x_aload_n (pc := 69) dX11_set_69 rfl ?_
    refine k_getR (pc := 70) c1 dX11_set_70 fk_11_10 (Or.inl ⟨_, rfl⟩) (c2) ?_
    refine k_getA (pc := 73) hh.1 dX11_set_73 fk_11_87 (Or.inr ⟨_, rfl⟩) (by decide) ?_
    refine x_iload_n (pc := 76) dX11_set_76 rfl ?_
    refine x_iload_n (pc := 77) dX11_set_77 rfl ?_
    refine x_bipush (pc := 78) (v := 16) dX11_set_78 rfl ?_
    refine x_callS (pc := 80) (As := [.ref _, .int _, .int _, .int _]) dX11_set_80 mX11_exchange lk_11_80 (k_exchange hh.1 2 _ _ _ (by decide) (by decide)) rfl rfl (Nat.le_of_ble_eq_true rfl) ⟨by decide, by decide⟩ ⟨Nat.zero_le _, Nat.zero_le _⟩ (k_rt ?_)
    refine x_ireturn (pc := 83) dX11_set_83 rfl rfl ?_
    rw [e]
    exact ⟨rfl, rfl⟩
  by_cases x3 : x = 3
  · subst x3
    refine x_tableIn (pc := 1) (off := 83) (tgt := 84) dX11_set_1 (by decide) (by decide) (by decide) (by decide) ?_
    have e : setK κ n 3 of v = chK κ n 2 10 of v := by
      unfold setK
      rw [if_neg (by decide), if_neg (by decide), if_neg (by decide), if_pos rfl]
    refine x_aload_n (pc := 84) dX11_set_84 rfl ?_
    refine k_getR (pc := 85) c1 dX11_set_85 fk_11_10 (Or.inl ⟨_, rfl⟩) (c2) ?_
    refine x_iload_n (pc := 88) dX11_set_88 rfl ?_
    refine x_callV (pc := 89) (As := [.int _]) dX11_set_89 mX2_has lk_11_90 hh.1.2.2.1 (k_has hh.1 h14 hn5) rfl rfl (Nat.le_of_ble_eq_true rfl) ⟨by decide, by decide⟩ ⟨Nat.zero_le _, Nat.zero_le _⟩ (k_rt ?_)
    refine x_if_eq (pc := 92) (tgt := 112) dX11_set_92 rfl (fun h_92 => ?_) (fun h_92 => ?_)
    · refine x_bipush (pc := 112) (v := -2) dX11_set_112 rfl ?_
      refine x_ireturn (pc := 114) dX11_set_114 rfl rfl ?_
      rw [e, show chK κ n 2 10 of v = (-2, κ) from if_neg (fun z => bi_0.mp h_92 z.1)]
      exact ⟨rfl, rfl⟩
    · have ho := bi_n0 h_92
      obtain ⟨i, hi, rfl⟩ := ixD (n := n) ho (by omega)
      refine x_aload_n (pc := 95) dX11_set_95 rfl ?_
      refine k_getR (pc := 96) c1 dX11_set_96 fk_11_10 (Or.inl ⟨_, rfl⟩) (c2) ?_
      refine k_getR (pc := 99) hh.1 dX11_set_99 fk_11_94 (Or.inr ⟨_, rfl⟩) (hh.2.2.1) ?_
      refine x_iload_n (pc := 102) dX11_set_102 rfl ?_
      refine x_aald (pc := 103) dX11_set_103 (hh.2.1.2.1) (Or.inl rfl) (rfl) (show i < 5 by omega) (by decide) ((hh.2.2.2.2 i (by omega)).1) ?_
      refine x_iload_n (pc := 104) dX11_set_104 rfl ?_
      refine x_iload_n (pc := 105) dX11_set_105 rfl ?_
      refine x_callU (pc := 106) (As := [.int _, .int _]) dX11_set_106 mX9_change (lt_11_98 (kci_th (kd i))) (hh.2.2.2.2 i (show i < 5 by omega)).2.2.2.1 (k_change3 (kci_th _) (hh.2.2.2.2 i (show i < 5 by omega)).2 v) rfl rfl (Nat.le_of_ble_eq_true rfl) ⟨by decide, by decide⟩ ⟨Nat.zero_le _, Nat.zero_le _⟩ (k_rt ?_)
      refine x_goto (pc := 109) (tgt := 114) dX11_set_109 rfl ?_
      refine x_ireturn (pc := 114) dX11_set_114 rfl rfl ?_
      rw [e]
      by_cases hv : 0 ≤ v ∧ v < 10
      · rw [if_pos hv, if_pos hv]
        unfold chK
        rw [if_pos ⟨ho, hv⟩, nn_nI (by omega)]
        exact ⟨rfl, rfl⟩
      · rw [if_neg hv, if_neg hv]
        unfold chK
        rw [if_neg (fun z => hv z.2)]
        exact ⟨rfl, rfl⟩
  by_cases x4 : x = 4
  · subst x4
    refine x_tableIn (pc := 1) (off := 83) (tgt := 84) dX11_set_1 (by decide) (by decide) (by decide) (by decide) ?_
    have e : setK κ n 4 of v = chK κ n 3 4 of v := by
      unfold setK
      rw [if_neg (by decide), if_neg (by decide), if_neg (by decide), if_neg (by decide), if_pos rfl]
    refine x_aload_n (pc := 84) dX11_set_84 rfl ?_
    refine k_getR (pc := 85) c1 dX11_set_85 fk_11_10 (Or.inl ⟨_, rfl⟩) (c2) ?_
    refine x_iload_n (pc := 88) dX11_set_88 rfl ?_
    refine x_callV (pc := 89) (As := [.int _]) dX11_set_89 mX2_has lk_11_90 hh.1.2.2.1 (k_has hh.1 h14 hn5) rfl rfl (Nat.le_of_ble_eq_true rfl) ⟨by decide, by decide⟩ ⟨Nat.zero_le _, Nat.zero_le _⟩ (k_rt ?_)
    refine x_if_eq (pc := 92) (tgt := 112) dX11_set_92 rfl (fun h_92 => ?_) (fun h_92 => ?_)
    · refine x_bipush (pc := 112) (v := -2) dX11_set_112 rfl ?_
      refine x_ireturn (pc := 114) dX11_set_114 rfl rfl ?_
      rw [e, show chK κ n 3 4 of v = (-2, κ) from if_neg (fun z => bi_0.mp h_92 z.1)]
      exact ⟨rfl, rfl⟩
    · have ho := bi_n0 h_92
      obtain ⟨i, hi, rfl⟩ := ixD (n := n) ho (by omega)
      refine x_aload_n (pc := 95) dX11_set_95 rfl ?_
      refine k_getR (pc := 96) c1 dX11_set_96 fk_11_10 (Or.inl ⟨_, rfl⟩) (c2) ?_
      refine k_getR (pc := 99) hh.1 dX11_set_99 fk_11_94 (Or.inr ⟨_, rfl⟩) (hh.2.2.1) ?_
      refine x_iload_n (pc := 102) dX11_set_102 rfl ?_
      refine x_aald (pc := 103) dX11_set_103 (hh.2.1.2.1) (Or.inl rfl) (rfl) (show i < 5 by omega) (by decide) ((hh.2.2.2.2 i (by omega)).1) ?_
      refine x_iload_n (pc := 104) dX11_set_104 rfl ?_
      refine x_iload_n (pc := 105) dX11_set_105 rfl ?_
      refine x_callU (pc := 106) (As := [.int _, .int _]) dX11_set_106 mX9_change (lt_11_98 (kci_th (kd i))) (hh.2.2.2.2 i (show i < 5 by omega)).2.2.2.1 (k_change4 (kci_th _) (hh.2.2.2.2 i (show i < 5 by omega)).2 v) rfl rfl (Nat.le_of_ble_eq_true rfl) ⟨by decide, by decide⟩ ⟨Nat.zero_le _, Nat.zero_le _⟩ (k_rt ?_)
      refine x_goto (pc := 109) (tgt := 114) dX11_set_109 rfl ?_
      refine x_ireturn (pc := 114) dX11_set_114 rfl rfl ?_
      rw [e]
      by_cases hv : 0 ≤ v ∧ v < 4
      · rw [if_pos hv, if_pos hv]
        unfold chK
        rw [if_pos ⟨ho, hv⟩, nn_nI (by omega)]
        exact ⟨rfl, rfl⟩
      · rw [if_neg hv, if_neg hv]
        unfold chK
        rw [if_neg (fun z => hv z.2)]
        exact ⟨rfl, rfl⟩
  by_cases x5 : x = 5
  · subst x5
    refine x_tableIn (pc := 1) (off := 83) (tgt := 84) dX11_set_1 (by decide) (by decide) (by decide) (by decide) ?_
    have e : setK κ n 5 of v = chK κ n 4 10 of v := by
      unfold setK
      rw [if_neg (by decide), if_neg (by decide), if_neg (by decide), if_neg (by decide), if_neg (by decide), if_pos rfl]
    refine x_aload_n (pc := 84) dX11_set_84 rfl ?_
    refine k_getR (pc := 85) c1 dX11_set_85 fk_11_10 (Or.inl ⟨_, rfl⟩) (c2) ?_
    refine x_iload_n (pc := 88) dX11_set_88 rfl ?_
    refine x_callV (pc := 89) (As := [.int _]) dX11_set_89 mX2_has lk_11_90 hh.1.2.2.1 (k_has hh.1 h14 hn5) rfl rfl (Nat.le_of_ble_eq_true rfl) ⟨by decide, by decide⟩ ⟨Nat.zero_le _, Nat.zero_le _⟩ (k_rt ?_)
    refine x_if_eq (pc := 92) (tgt := 112) dX11_set_92 rfl (fun h_92 => ?_) (fun h_92 => ?_)
    · refine x_bipush (pc := 112) (v := -2) dX11_set_112 rfl ?_
      refine x_ireturn (pc := 114) dX11_set_114 rfl rfl ?_
      rw [e, show chK κ n 4 10 of v = (-2, κ) from if_neg (fun z => bi_0.mp h_92 z.1)]
      exact ⟨rfl, rfl⟩
    · have ho := bi_n0 h_92
      obtain ⟨i, hi, rfl⟩ := ixD (n := n) ho (by omega)
      refine x_aload_n (pc := 95) dX11_set_95 rfl ?_
      refine k_getR (pc := 96) c1 dX11_set_96 fk_11_10 (Or.inl ⟨_, rfl⟩) (c2) ?_
      refine k_getR (pc := 99) hh.1 dX11_set_99 fk_11_94 (Or.inr ⟨_, rfl⟩) (hh.2.2.1) ?_
      refine x_iload_n (pc := 102) dX11_set_102 rfl ?_
      refine x_aald (pc := 103) dX11_set_103 (hh.2.1.2.1) (Or.inl rfl) (rfl) (show i < 5 by omega) (by decide) ((hh.2.2.2.2 i (by omega)).1) ?_
      refine x_iload_n (pc := 104) dX11_set_104 rfl ?_
      refine x_iload_n (pc := 105) dX11_set_105 rfl ?_
      refine x_callU (pc := 106) (As := [.int _, .int _]) dX11_set_106 mX9_change (lt_11_98 (kci_th (kd i))) (hh.2.2.2.2 i (show i < 5 by omega)).2.2.2.1 (k_change5 (kci_th _) (hh.2.2.2.2 i (show i < 5 by omega)).2 v) rfl rfl (Nat.le_of_ble_eq_true rfl) ⟨by decide, by decide⟩ ⟨Nat.zero_le _, Nat.zero_le _⟩ (k_rt ?_)
      refine x_goto (pc := 109) (tgt := 114) dX11_set_109 rfl ?_
      refine x_ireturn (pc := 114) dX11_set_114 rfl rfl ?_
      rw [e]
      by_cases hv : 0 ≤ v ∧ v < 10
      · rw [if_pos hv, if_pos hv]
        unfold chK
        rw [if_pos ⟨ho, hv⟩, nn_nI (by omega)]
        exact ⟨rfl, rfl⟩
      · rw [if_neg hv, if_neg hv]
        unfold chK
        rw [if_neg (fun z => hv z.2)]
        exact ⟨rfl, rfl⟩
  have hout : x.toInt < 0 ∨ 5 < x.toInt := by
    have y0 : x.toInt ≠ 0 := fun z => x0 (Int32.toInt_inj.mp (z.trans (by decide)))
    have y1 : x.toInt ≠ 1 := fun z => x1 (Int32.toInt_inj.mp (z.trans (by decide)))
    have y2 : x.toInt ≠ 2 := fun z => x2 (Int32.toInt_inj.mp (z.trans (by decide)))
    have y3 : x.toInt ≠ 3 := fun z => x3 (Int32.toInt_inj.mp (z.trans (by decide)))
    have y4 : x.toInt ≠ 4 := fun z => x4 (Int32.toInt_inj.mp (z.trans (by decide)))
    have y5 : x.toInt ≠ 5 := fun z => x5 (Int32.toInt_inj.mp (z.trans (by decide)))
    omega
  refine x_tableOut (pc := 1) (tgt := 115) dX11_set_1 hout rfl ?_
  refine x_bipush (pc := 115) (v := -2) dX11_set_115 rfl ?_
  refine x_ireturn (pc := 117) dX11_set_117 rfl rfl ?_
  have e : setK κ n x of v = (-2, κ) := by
    unfold setK
    rw [if_neg x0, if_neg x1, if_neg x2, if_neg x3, if_neg x4, if_neg x5]
  rw [e]
  exact ⟨rfl, rfl⟩
theorem k_cell (hI : CI μ b kd kp 4 nt tn) (s i v : Int32) (hz : ∀ i, i < 4 → κ.1 (5 + i) 0 = -1 ∨ ∃ z, z ≤ 40 ∧ κ.1 (5 + i) 1 = nI z) : XM Γ zX11_cell 2 0 0 [.ref (adO b 0), .int s, .int i, .int v] (KV μ b κ) (rt (.int (clK κ s i v).1) (KV μ b (clK κ s i v).2)) := by
  refine XM.of 1 rfl (by decide) (Nat.le_of_ble_eq_true rfl) ?_
  have hI' := hI
  obtain ⟨-, ⟨c1, c2, c3, c4, c5, c6, c7⟩, ⟨c8, c9⟩, hh, -, ⟨p1, p2⟩, c10, hsh, -⟩ := hI'
  refine x_iload_n (pc := 0) dX11_cell_0 rfl ?_
  refine x_iconst (pc := 1) (v := 4) dX11_cell_1 rfl ?_
  refine x_callS (pc := 2) (As := [.int _, .int _]) dX11_cell_2 mX11_isBelow lk_11_104 (k_isBelow _ _) rfl rfl (Nat.le_of_ble_eq_true rfl) ⟨by decide, by decide⟩ ⟨Nat.zero_le _, Nat.zero_le _⟩ (k_rt ?_)
  refine x_if_ne (pc := 5) (tgt := 11) dX11_cell_5 rfl (fun h_5 => ?_) (fun h_5 => ?_)
  · have hs := bi_n0 h_5
    obtain ⟨q, hq, rfl⟩ := ixD (n := 4) hs (by decide)
    have e : clK κ (nI q) i v = _ := if_pos hs
    rw [nn_nI (by omega)] at e
    refine x_aload_n (pc := 11) dX11_cell_11 rfl ?_
    refine k_getR (pc := 12) c1 dX11_cell_12 fk_11_45 (Or.inr ⟨_, rfl⟩) (c6) ?_
    refine x_iload_n (pc := 15) dX11_cell_15 rfl ?_
    refine x_aald (pc := 16) dX11_cell_16 (c9.2.1) (Or.inr (Or.inr rfl)) (rfl) (hq) (by decide) ((hsh q hq).1) ?_
    refine x_astore (pc := 17) (lv2 := [_, _, _, _, _]) dX11_cell_17 (by decide) rfl rfl ?_
    refine x_aload (pc := 19) dX11_cell_19 rfl ?_
    refine k_getI (pc := 21) (hsh q hq).2 dX11_cell_21 fk_11_193 (Or.inl rfl) ?_
    refine x_iconst (pc := 24) (v := -1) dX11_cell_24 rfl ?_
    refine x_icmp_ne (pc := 25) (tgt := 31) dX11_cell_25 rfl (fun h_25 => ?_) (fun h_25 => ?_)
    · rw [if_neg h_25] at e
      obtain ⟨z, hz1, hz2⟩ := (hz q hq).resolve_left h_25
      refine x_iload_n (pc := 31) dX11_cell_31 rfl ?_
      refine x_aload (pc := 32) dX11_cell_32 rfl ?_
      refine k_getI (pc := 34) (hsh q hq).2 dX11_cell_34 fk_11_196 (Or.inl rfl) ?_
      refine x_callS (pc := 37) (As := [.int _, .int _]) dX11_cell_37 mX11_isBelow lk_11_104 (k_isBelow _ _) rfl rfl (Nat.le_of_ble_eq_true rfl) ⟨by decide, by decide⟩ ⟨Nat.zero_le _, Nat.zero_le _⟩ (k_rt ?_)
      refine x_if_ne (pc := 40) (tgt := 46) dX11_cell_40 rfl (fun h_40 => ?_) (fun h_40 => ?_)
      · have hi := bi_n0 h_40
        rw [if_pos hi] at e
        rw [hz2] at hi
        obtain ⟨k, hk, rfl⟩ := ixD (n := z) hi (by omega)
        rw [nn_nI (by omega)] at e
        refine x_aload (pc := 46) dX11_cell_46 rfl ?_
        refine k_getA (pc := 48) (hsh q hq).2 dX11_cell_48 fk_11_199 (Or.inr ⟨_, rfl⟩) (by decide) ?_
        refine x_iload_n (pc := 51) dX11_cell_51 rfl ?_
        refine x_aload (pc := 52) dX11_cell_52 rfl ?_
        refine x_iload_n (pc := 54) dX11_cell_54 rfl ?_
        refine x_callV (pc := 55) (As := [.int _]) dX11_cell_55 mX7_narrowed lk_11_244 (hsh q hq).2.2.2.1 (k_narrowed (hsh q hq).2 v) rfl rfl (Nat.le_of_ble_eq_true rfl) ⟨by decide, by decide⟩ ⟨Nat.zero_le _, Nat.zero_le _⟩ (k_rt ?_)
        refine k_iast (pc := 58) (hsh q hq).2 dX11_cell_58 (rfl) (show k < 40 by omega) (by decide) ?_
        refine x_iconst (pc := 59) (v := 1) dX11_cell_59 rfl ?_
        refine x_ireturn (pc := 60) dX11_cell_60 rfl rfl ?_
        rw [e]
        exact ⟨rfl, rfl⟩
      · refine x_bipush (pc := 43) (v := -12) dX11_cell_43 rfl ?_
        refine x_ireturn (pc := 45) dX11_cell_45 rfl rfl ?_
        rw [e, if_neg (bi_0.mp h_40)]
        exact ⟨rfl, rfl⟩
    · refine x_bipush (pc := 28) (v := -11) dX11_cell_28 rfl ?_
      refine x_ireturn (pc := 30) dX11_cell_30 rfl rfl ?_
      rw [e, if_pos h_25]
      exact ⟨rfl, rfl⟩
  · refine x_bipush (pc := 8) (v := -2) dX11_cell_8 rfl ?_
    refine x_ireturn (pc := 10) dX11_cell_10 rfl rfl ?_
    rw [show clK κ s i v = (-2, κ) from if_neg (bi_0.mp h_5)]
    exact ⟨rfl, rfl⟩
theorem k_sheet (hI : CI μ b kd kp 4 nt tn) (s k n : Int32) : XM Γ zX11_sheet 3 0 0 [.ref (adO b 0), .int s, .int k, .int n] (KV μ b κ) (rt (.int (shK κ s k n).1) (KV μ b (shK κ s k n).2)) := by
  refine XM.of 0 rfl (by decide) (Nat.le_of_ble_eq_true rfl) ?_
  have hI' := hI
  obtain ⟨-, ⟨c1, c2, c3, c4, c5, c6, c7⟩, ⟨c8, c9⟩, hh, -, ⟨p1, p2⟩, c10, hsh, -⟩ := hI'
  refine x_iload_n (pc := 0) dX11_sheet_0 rfl ?_
  refine x_iconst (pc := 1) (v := 4) dX11_sheet_1 rfl ?_
  refine x_callS (pc := 2) (As := [.int _, .int _]) dX11_sheet_2 mX11_isBelow lk_11_104 (k_isBelow _ _) rfl rfl (Nat.le_of_ble_eq_true rfl) ⟨by decide, by decide⟩ ⟨Nat.zero_le _, Nat.zero_le _⟩ (k_rt ?_)
  refine x_if_eq (pc := 5) (tgt := 21) dX11_sheet_5 rfl (fun h_5 => ?_) (fun h_5 => ?_)
  · refine x_bipush (pc := 21) (v := -2) dX11_sheet_21 rfl ?_
    refine x_ireturn (pc := 23) dX11_sheet_23 rfl rfl ?_
    rw [show shK κ s k n = (-2, κ) from if_neg (fun z => by first | exact bi_0.mp h_5 z.1 | exact (z.2.elim h_10 (bi_0.mp h_18)))]
    exact ⟨rfl, rfl⟩
  · refine x_iload_n (pc := 8) dX11_sheet_8 rfl ?_
    refine x_iconst (pc := 9) (v := -1) dX11_sheet_9 rfl ?_
    refine x_icmp_eq (pc := 10) (tgt := 24) dX11_sheet_10 rfl (fun h_10 => ?_) (fun h_10 => ?_)
    · have hs := bi_n0 h_5
      have hk : k = -1 ∨ (0 ≤ k ∧ k < 3) := by first | exact Or.inl h_10 | exact Or.inr (bi_n0 h_18)
      obtain ⟨q, hq, rfl⟩ := ixD (n := 4) hs (by decide)
      have e : shK κ (nI q) k n = _ := if_pos ⟨hs, hk⟩
      rw [nn_nI (by omega)] at e
      refine x_iload_n (pc := 24) dX11_sheet_24 rfl ?_
      refine x_iconst (pc := 25) (v := -1) dX11_sheet_25 rfl ?_
      refine x_icmp_ne (pc := 26) (tgt := 42) dX11_sheet_26 rfl (fun h_26 => ?_) (fun h_26 => ?_)
      · refine x_iload_n (pc := 42) dX11_sheet_42 rfl ?_
        refine x_bipush (pc := 43) (v := 40) dX11_sheet_43 rfl ?_
        refine x_icmp_le (pc := 45) (tgt := 51) dX11_sheet_45 rfl (fun h_45 => ?_) (fun h_45 => ?_)
        · refine x_iload_n (pc := 51) dX11_sheet_51 rfl ?_
          refine x_if_ge (pc := 52) (tgt := 58) dX11_sheet_52 rfl (fun h_52 => ?_) (fun h_52 => ?_)
          · refine x_aload_n (pc := 58) dX11_sheet_58 rfl ?_
            refine k_getR (pc := 59) c1 dX11_sheet_59 fk_11_45 (Or.inr ⟨_, rfl⟩) (c6) ?_
            refine x_iload_n (pc := 62) dX11_sheet_62 rfl ?_
            refine x_aald (pc := 63) dX11_sheet_63 (c9.2.1) (Or.inr (Or.inr rfl)) (rfl) (hq) (by decide) ((hsh q hq).1) ?_
            refine x_iload_n (pc := 64) dX11_sheet_64 rfl ?_
            refine x_iload_n (pc := 65) dX11_sheet_65 rfl ?_
            refine x_callV (pc := 66) (As := [.int _, .int _]) dX11_sheet_66 mX7_become lk_11_220 (hsh q hq).2.2.2.1 (k_become (hsh q hq).2 k n) rfl rfl (Nat.le_of_ble_eq_true rfl) ⟨by decide, by decide⟩ ⟨Nat.zero_le _, Nat.zero_le _⟩ (k_rv ?_)
            refine x_iconst (pc := 69) (v := 1) dX11_sheet_69 rfl ?_
            refine x_ireturn (pc := 70) dX11_sheet_70 rfl rfl ?_
            rw [e, if_neg h_26, if_pos h_45, if_pos h_52]
            exact ⟨rfl, rfl⟩
          · refine x_bipush (pc := 55) (v := -14) dX11_sheet_55 rfl ?_
            refine x_ireturn (pc := 57) dX11_sheet_57 rfl rfl ?_
            rw [e, if_neg h_26, if_pos h_45, if_neg h_52]
            exact ⟨rfl, rfl⟩
        · refine x_bipush (pc := 48) (v := -2) dX11_sheet_48 rfl ?_
          refine x_ireturn (pc := 50) dX11_sheet_50 rfl rfl ?_
          rw [e, if_neg h_26, if_neg h_45]
          exact ⟨rfl, rfl⟩
      · refine x_aload_n (pc := 29) dX11_sheet_29 rfl ?_
        refine k_getR (pc := 30) c1 dX11_sheet_30 fk_11_45 (Or.inr ⟨_, rfl⟩) (c6) ?_
        refine x_iload_n (pc := 33) dX11_sheet_33 rfl ?_
        refine x_aald (pc := 34) dX11_sheet_34 (c9.2.1) (Or.inr (Or.inr rfl)) (rfl) (hq) (by decide) ((hsh q hq).1) ?_
        refine x_iconst (pc := 35) (v := -1) dX11_sheet_35 rfl ?_
        refine x_iconst (pc := 36) (v := 0) dX11_sheet_36 rfl ?_
        refine x_callV (pc := 37) (As := [.int _, .int _]) dX11_sheet_37 mX7_become lk_11_220 (hsh q hq).2.2.2.1 (k_become (hsh q hq).2 (-1) 0) rfl rfl (Nat.le_of_ble_eq_true rfl) ⟨by decide, by decide⟩ ⟨Nat.zero_le _, Nat.zero_le _⟩ (k_rv ?_)
        refine x_iconst (pc := 40) (v := 1) dX11_sheet_40 rfl ?_
        refine x_ireturn (pc := 41) dX11_sheet_41 rfl rfl ?_
        rw [e, if_pos h_26]
        exact ⟨rfl, rfl⟩
    · refine x_iload_n (pc := 13) dX11_sheet_13 rfl ?_
      refine x_iconst (pc := 14) (v := 3) dX11_sheet_14 rfl ?_
      refine x_callS (pc := 15) (As := [.int _, .int _]) dX11_sheet_15 mX11_isBelow lk_11_104 (k_isBelow _ _) rfl rfl (Nat.le_of_ble_eq_true rfl) ⟨by decide, by decide⟩ ⟨Nat.zero_le _, Nat.zero_le _⟩ (k_rt ?_)
      refine x_if_ne (pc := 18) (tgt := 24) dX11_sheet_18 rfl (fun h_18 => ?_) (fun h_18 => ?_)
      · have hs := bi_n0 h_5
        have hk : k = -1 ∨ (0 ≤ k ∧ k < 3) := by first | exact Or.inl h_10 | exact Or.inr (bi_n0 h_18)
        obtain ⟨q, hq, rfl⟩ := ixD (n := 4) hs (by decide)
        have e : shK κ (nI q) k n = _ := if_pos ⟨hs, hk⟩
        rw [nn_nI (by omega)] at e
        refine x_iload_n (pc := 24) dX11_sheet_24 rfl ?_
        refine x_iconst (pc := 25) (v := -1) dX11_sheet_25 rfl ?_
        refine x_icmp_ne (pc := 26) (tgt := 42) dX11_sheet_26 rfl (fun h_26 => ?_) (fun h_26 => ?_)
        · refine x_iload_n (pc := 42) dX11_sheet_42 rfl ?_
          refine x_bipush (pc := 43) (v := 40) dX11_sheet_43 rfl ?_
          refine x_icmp_le (pc := 45) (tgt := 51) dX11_sheet_45 rfl (fun h_45 => ?_) (fun h_45 => ?_)
          · refine x_iload_n (pc := 51) dX11_sheet_51 rfl ?_
            refine x_if_ge (pc := 52) (tgt := 58) dX11_sheet_52 rfl (fun h_52 => ?_) (fun h_52 => ?_)
            · refine x_aload_n (pc := 58) dX11_sheet_58 rfl ?_
              refine k_getR (pc := 59) c1 dX11_sheet_59 fk_11_45 (Or.inr ⟨_, rfl⟩) (c6) ?_
              refine x_iload_n (pc := 62) dX11_sheet_62 rfl ?_
              refine x_aald (pc := 63) dX11_sheet_63 (c9.2.1) (Or.inr (Or.inr rfl)) (rfl) (hq) (by decide) ((hsh q hq).1) ?_
              refine x_iload_n (pc := 64) dX11_sheet_64 rfl ?_
              refine x_iload_n (pc := 65) dX11_sheet_65 rfl ?_
              refine x_callV (pc := 66) (As := [.int _, .int _]) dX11_sheet_66 mX7_become lk_11_220 (hsh q hq).2.2.2.1 (k_become (hsh q hq).2 k n) rfl rfl (Nat.le_of_ble_eq_true rfl) ⟨by decide, by decide⟩ ⟨Nat.zero_le _, Nat.zero_le _⟩ (k_rv ?_)
              refine x_iconst (pc := 69) (v := 1) dX11_sheet_69 rfl ?_
              refine x_ireturn (pc := 70) dX11_sheet_70 rfl rfl ?_
              rw [e, if_neg h_26, if_pos h_45, if_pos h_52]
              exact ⟨rfl, rfl⟩
            · refine x_bipush (pc := 55) (v := -14) dX11_sheet_55 rfl ?_
              refine x_ireturn (pc := 57) dX11_sheet_57 rfl rfl ?_
              rw [e, if_neg h_26, if_pos h_45, if_neg h_52]
              exact ⟨rfl, rfl⟩
          · refine x_bipush (pc := 48) (v := -2) dX11_sheet_48 rfl ?_
            refine x_ireturn (pc := 50) dX11_sheet_50 rfl rfl ?_
            rw [e, if_neg h_26, if_neg h_45]
            exact ⟨rfl, rfl⟩
        · refine x_aload_n (pc := 29) dX11_sheet_29 rfl ?_
          refine k_getR (pc := 30) c1 dX11_sheet_30 fk_11_45 (Or.inr ⟨_, rfl⟩) (c6) ?_
          refine x_iload_n (pc := 33) dX11_sheet_33 rfl ?_
          refine x_aald (pc := 34) dX11_sheet_34 (c9.2.1) (Or.inr (Or.inr rfl)) (rfl) (hq) (by decide) ((hsh q hq).1) ?_
          refine x_iconst (pc := 35) (v := -1) dX11_sheet_35 rfl ?_
          refine x_iconst (pc := 36) (v := 0) dX11_sheet_36 rfl ?_
          refine x_callV (pc := 37) (As := [.int _, .int _]) dX11_sheet_37 mX7_become lk_11_220 (hsh q hq).2.2.2.1 (k_become (hsh q hq).2 (-1) 0) rfl rfl (Nat.le_of_ble_eq_true rfl) ⟨by decide, by decide⟩ ⟨Nat.zero_le _, Nat.zero_le _⟩ (k_rv ?_)
          refine x_iconst (pc := 40) (v := 1) dX11_sheet_40 rfl ?_
          refine x_ireturn (pc := 41) dX11_sheet_41 rfl rfl ?_
          rw [e, if_pos h_26]
          exact ⟨rfl, rfl⟩
      · refine x_bipush (pc := 21) (v := -2) dX11_sheet_21 rfl ?_
        refine x_ireturn (pc := 23) dX11_sheet_23 rfl rfl ?_
        rw [show shK κ s k n = (-2, κ) from if_neg (fun z => by first | exact bi_0.mp h_5 z.1 | exact (z.2.elim h_10 (bi_0.mp h_18)))]
        exact ⟨rfl, rfl⟩
theorem k_copyC (hI : CI μ b kd kp 4 nt tn) (s i t j n : Int32) (hz : ∀ i, i < 4 → κ.1 (5 + i) 0 = -1 ∨ ∃ z, z ≤ 40 ∧ κ.1 (5 + i) 1 = nI z) : XM Γ zX11_copy 2 0 0 [.ref (adO b 0), .int s, .int i, .int t, .int j, .int n] (KV μ b κ) (fun r M => ∃ v κ2, r = some (.int v) ∧ M = KV μ b κ2 ∧ cyK κ s i t j n v κ2) := by
  refine XM.of 2 rfl (by decide) (Nat.le_of_ble_eq_true rfl) ?_
  have hI' := hI
  obtain ⟨-, ⟨c1, c2, c3, c4, c5, c6, c7⟩, ⟨c8, c9⟩, hh, -, ⟨p1, p2⟩, c10, hsh, -⟩ := hI'
  refine x_iload_n (pc := 0) dX11_copy_0 rfl ?_
  refine x_iconst (pc := 1) (v := 4) dX11_copy_1 rfl ?_
  refine x_callS (pc := 2) (As := [.int _, .int _]) dX11_copy_2 mX11_isBelow lk_11_104 (k_isBelow _ _) rfl rfl (Nat.le_of_ble_eq_true rfl) ⟨by decide, by decide⟩ ⟨Nat.zero_le _, Nat.zero_le _⟩ (k_rt ?_)
  refine x_if_eq (pc := 5) (tgt := 16) dX11_copy_5 rfl (fun h_5 => ?_) (fun h_5 => ?_)
  · refine x_bipush (pc := 16) (v := -2) dX11_copy_16 rfl ?_
    refine x_ireturn (pc := 18) dX11_copy_18 rfl rfl ?_
    refine ⟨_, _, rfl, rfl, ?_⟩
    unfold cyK
    rw [if_neg (fun z => by first | exact bi_0.mp h_5 z.1 | exact bi_0.mp h_13 z.2)]
    exact ⟨rfl, rfl⟩
  · refine x_iload_n (pc := 8) dX11_copy_8 rfl ?_
    refine x_iconst (pc := 9) (v := 4) dX11_copy_9 rfl ?_
    refine x_callS (pc := 10) (As := [.int _, .int _]) dX11_copy_10 mX11_isBelow lk_11_104 (k_isBelow _ _) rfl rfl (Nat.le_of_ble_eq_true rfl) ⟨by decide, by decide⟩ ⟨Nat.zero_le _, Nat.zero_le _⟩ (k_rt ?_)
    refine x_if_ne (pc := 13) (tgt := 19) dX11_copy_13 rfl (fun h_13 => ?_) (fun h_13 => ?_)
    · have hs := bi_n0 h_5
      have ht := bi_n0 h_13
      obtain ⟨q, hq, rfl⟩ := ixD (n := 4) hs (by decide)
      obtain ⟨p, hp, rfl⟩ := ixD (n := 4) ht (by decide)
      refine x_aload_n (pc := 19) dX11_copy_19 rfl ?_
      refine k_getR (pc := 20) c1 dX11_copy_20 fk_11_45 (Or.inr ⟨_, rfl⟩) (c6) ?_
      refine x_iload_n (pc := 23) dX11_copy_23 rfl ?_
      refine x_aald (pc := 24) dX11_copy_24 (c9.2.1) (Or.inr (Or.inr rfl)) (rfl) (hq) (by decide) ((hsh q hq).1) ?_
      refine x_astore (pc := 25) (lv2 := [_, _, _, _, _, _, _, _]) dX11_copy_25 (by decide) rfl rfl ?_
      refine x_aload_n (pc := 27) dX11_copy_27 rfl ?_
      refine k_getR (pc := 28) c1 dX11_copy_28 fk_11_45 (Or.inr ⟨_, rfl⟩) (c6) ?_
      refine x_iload_n (pc := 31) dX11_copy_31 rfl ?_
      refine x_aald (pc := 32) dX11_copy_32 (c9.2.1) (Or.inr (Or.inr rfl)) (rfl) (hp) (by decide) ((hsh p hp).1) ?_
      refine x_astore (pc := 33) (lv2 := [_, _, _, _, _, _, _, _]) dX11_copy_33 (by decide) rfl rfl ?_
      refine x_aload (pc := 35) dX11_copy_35 rfl ?_
      refine k_getI (pc := 37) (hsh q hq).2 dX11_copy_37 fk_11_193 (Or.inl rfl) ?_
      refine x_iconst (pc := 40) (v := -1) dX11_copy_40 rfl ?_
      refine x_icmp_eq (pc := 41) (tgt := 53) dX11_copy_41 rfl (fun h_41 => ?_) (fun h_41 => ?_)
      · refine x_bipush (pc := 53) (v := -11) dX11_copy_53 rfl ?_
        refine x_ireturn (pc := 55) dX11_copy_55 rfl rfl ?_
        refine ⟨_, _, rfl, rfl, ?_⟩
        unfold cyK
        rw [if_pos ⟨hs, ht⟩, nn_nI (by omega), nn_nI (by omega), if_pos (by first | exact Or.inl h_41 | exact Or.inr h_50)]
        exact ⟨rfl, rfl⟩
      · refine x_aload (pc := 44) dX11_copy_44 rfl ?_
        refine k_getI (pc := 46) (hsh p hp).2 dX11_copy_46 fk_11_193 (Or.inl rfl) ?_
        refine x_iconst (pc := 49) (v := -1) dX11_copy_49 rfl ?_
        refine x_icmp_ne (pc := 50) (tgt := 56) dX11_copy_50 rfl (fun h_50 => ?_) (fun h_50 => ?_)
        · obtain ⟨z1, hz1, hz2⟩ := (hz q hq).resolve_left h_41
          obtain ⟨z2, hz3, hz4⟩ := (hz p hp).resolve_left h_50
          have ho : ¬ (κ.1 (5 + q) 0 = -1 ∨ κ.1 (5 + p) 0 = -1) := fun z => z.elim h_41 h_50
          refine x_aload (pc := 56) dX11_copy_56 rfl ?_
          refine k_getI (pc := 58) (hsh q hq).2 dX11_copy_58 fk_11_193 (Or.inl rfl) ?_
          refine x_aload (pc := 61) dX11_copy_61 rfl ?_
          refine k_getI (pc := 63) (hsh p hp).2 dX11_copy_63 fk_11_193 (Or.inl rfl) ?_
          refine x_icmp_eq (pc := 66) (tgt := 72) dX11_copy_66 rfl (fun h_66 => ?_) (fun h_66 => ?_)
          · refine x_aload (pc := 72) dX11_copy_72 rfl ?_
            refine x_iload_n (pc := 74) dX11_copy_74 rfl ?_
            refine x_iload (pc := 75) dX11_copy_75 rfl ?_
            refine x_callV (pc := 77) (As := [.int _, .int _]) dX11_copy_77 mX7_holds lk_11_247 (hsh q hq).2.2.2.1 (k_holds (hsh q hq).2 i n) rfl rfl (Nat.le_of_ble_eq_true rfl) ⟨by decide, by decide⟩ ⟨Nat.zero_le _, Nat.zero_le _⟩ (k_rt ?_)
            refine x_if_eq (pc := 80) (tgt := 95) dX11_copy_80 rfl (fun h_80 => ?_) (fun h_80 => ?_)
            · refine x_bipush (pc := 95) (v := -12) dX11_copy_95 rfl ?_
              refine x_ireturn (pc := 97) dX11_copy_97 rfl rfl ?_
              refine ⟨_, _, rfl, rfl, ?_⟩
              unfold cyK
              rw [if_pos ⟨hs, ht⟩, nn_nI (by omega), nn_nI (by omega), if_neg ho, if_pos h_66]
              exact Or.inr ⟨fun z => by first | exact bi_0.mp h_80 z.1 | exact bi_0.mp h_92 z.2, rfl, rfl⟩
            · refine x_aload (pc := 83) dX11_copy_83 rfl ?_
              refine x_iload (pc := 85) dX11_copy_85 rfl ?_
              refine x_iload (pc := 87) dX11_copy_87 rfl ?_
              refine x_callV (pc := 89) (As := [.int _, .int _]) dX11_copy_89 mX7_holds lk_11_247 (hsh p hp).2.2.2.1 (k_holds (hsh p hp).2 j n) rfl rfl (Nat.le_of_ble_eq_true rfl) ⟨by decide, by decide⟩ ⟨Nat.zero_le _, Nat.zero_le _⟩ (k_rt ?_)
              refine x_if_ne (pc := 92) (tgt := 98) dX11_copy_92 rfl (fun h_92 => ?_) (fun h_92 => ?_)
              · have g1 := bi_n0 h_80
                have g2 := bi_n0 h_92
                have hg1 : hldK κ (5 + q) i n := g1
                have hg2 : hldK κ (5 + p) j n := g2
                rw [hz2] at g1
                rw [hz4] at g2
                obtain ⟨N, hN, rfl⟩ := ixB (x := n) (c := nI z1) (n := z1) rfl ⟨g1.1, g1.2.1⟩ (by omega)
                have hN2 : N ≤ z2 := (nI_leI (by omega) (by omega)).mp g2.2.1
                rw [pk_sub hN] at g1
                rw [pk_sub hN2] at g2
                obtain ⟨I, hI1, rfl⟩ := ixB (x := i) (c := nI (z1 - N)) (n := z1 - N) rfl ⟨g1.2.2.1, g1.2.2.2⟩ (by omega)
                obtain ⟨J, hJ1, rfl⟩ := ixB (x := j) (c := nI (z2 - N)) (n := z2 - N) rfl ⟨g2.2.2.1, g2.2.2.2⟩ (by omega)
                refine x_aload (pc := 98) dX11_copy_98 rfl ?_
                refine k_getA (pc := 100) (hsh q hq).2 dX11_copy_100 fk_11_199 (Or.inr ⟨_, rfl⟩) (by decide) ?_
                refine x_iload_n (pc := 103) dX11_copy_103 rfl ?_
                refine x_aload (pc := 104) dX11_copy_104 rfl ?_
                refine k_getA (pc := 106) (hsh p hp).2 dX11_copy_106 fk_11_199 (Or.inr ⟨_, rfl⟩) (by decide) ?_
                refine x_iload (pc := 109) dX11_copy_109 rfl ?_
                refine x_iload (pc := 111) dX11_copy_111 rfl ?_
                refine k_copy (pc := 113) (i := I) (j := J) (n := N) (hsh q hq).2 (hsh p hp).2 dX11_copy_113 lw_11_223 (by decide) (by decide) rfl rfl rfl (by show I + N ≤ 40; omega) (by show J + N ≤ 40; omega) (by decide) (by decide) ⟨by decide, by decide⟩ (by decide) ?_
                refine x_iload (pc := 116) dX11_copy_116 rfl ?_
                refine x_ireturn (pc := 118) dX11_copy_118 rfl rfl ?_
                refine ⟨_, _, rfl, rfl, ?_⟩
                unfold cyK
                rw [if_pos ⟨hs, ht⟩, nn_nI (by omega), nn_nI (by omega), if_neg ho, if_pos h_66, nn_nI (by omega), nn_nI (by omega), nn_nI (by omega)]
                exact Or.inl ⟨hg1, hg2, rfl, rfl⟩
              · refine x_bipush (pc := 95) (v := -12) dX11_copy_95 rfl ?_
                refine x_ireturn (pc := 97) dX11_copy_97 rfl rfl ?_
                refine ⟨_, _, rfl, rfl, ?_⟩
                unfold cyK
                rw [if_pos ⟨hs, ht⟩, nn_nI (by omega), nn_nI (by omega), if_neg ho, if_pos h_66]
                exact Or.inr ⟨fun z => by first | exact bi_0.mp h_80 z.1 | exact bi_0.mp h_92 z.2, rfl, rfl⟩
          · refine x_bipush (pc := 69) (v := -13) dX11_copy_69 rfl ?_
            refine x_ireturn (pc := 71) dX11_copy_71 rfl rfl ?_
            refine ⟨_, _, rfl, rfl, ?_⟩
            unfold cyK
            rw [if_pos ⟨hs, ht⟩, nn_nI (by omega), nn_nI (by omega), if_neg ho, if_neg h_66]
            exact ⟨rfl, rfl⟩
        · refine x_bipush (pc := 53) (v := -11) dX11_copy_53 rfl ?_
          refine x_ireturn (pc := 55) dX11_copy_55 rfl rfl ?_
          refine ⟨_, _, rfl, rfl, ?_⟩
          unfold cyK
          rw [if_pos ⟨hs, ht⟩, nn_nI (by omega), nn_nI (by omega), if_pos (by first | exact Or.inl h_41 | exact Or.inr h_50)]
          exact ⟨rfl, rfl⟩
    · refine x_bipush (pc := 16) (v := -2) dX11_copy_16 rfl ?_
      refine x_ireturn (pc := 18) dX11_copy_18 rfl rfl ?_
      refine ⟨_, _, rfl, rfl, ?_⟩
      unfold cyK
      rw [if_neg (fun z => by first | exact bi_0.mp h_5 z.1 | exact bi_0.mp h_13 z.2)]
      exact ⟨rfl, rfl⟩
end M9999990
