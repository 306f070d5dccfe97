/-! the reference: set, thing, feed, force, cell -/
def nn (x : Int32) : Nat := x.toNatClampNeg
theorem nn_nI {n : Nat} (h : n < 2 ^ 31) : nn (nI n) = n := nI_clamp h
theorem bi_n0 {p : Prop} [Decidable p] (h : ¬ bi p = 0) : p := by
  rw [bi_0] at h
  exact Decidable.not_not.mp h
theorem ixC {x c : Int32} {n : Nat} (hc : c = nI n) (hb : 0 ≤ x ∧ x ≤ c - 1) (hn : n < 2 ^ 31) : ∃ j : Nat, j < n ∧ x = nI j := by
  obtain ⟨j, hj, rfl⟩ := nI_of (Int32.not_lt.mpr hb.1)
  refine ⟨j, ?_, rfl⟩
  have h2 := hb.2
  subst hc
  cases n with
  | zero =>
    rw [Int32.le_iff_toInt_le, nI_toInt hj, show (nI 0 - 1 : Int32).toInt = -1 from rfl] at h2
    omega
  | succ n =>
    rw [nI_pred, nI_leI hj (by omega)] at h2
    omega
def setF (k : Nat) (n b : Int32) (σ : MS) (of v : Int32) : Int32 × MS := if (0 ≤ of ∧ of ≤ n - 1) ∧ (0 ≤ v ∧ v ≤ b) then (σ.2.2 k (nn of), tA σ k (nn of) v) else (-2, σ)
def setR (σ : MS) (what of v : Int32) : Int32 × MS := if what = 0 then setF 7 6 15 σ of v else if what = 1 then setF 8 4 3 σ of v else if what = 2 then setF 9 7 15 σ of v else if what = 3 then setF 11 (σ.1 15) 9 σ of v else if what = 4 then setF 12 (σ.1 15) 3 σ of v else if what = 5 then setF 13 (σ.1 15) 9 σ of v else (-2, σ)
section M31
variable {Γ : Gm} {μ : Mem} {a : Ma} {σ : MS}
theorem c_set0 (hM : MOK μ a) (of v : Int32) : XM Γ zX12_set 2 0 0 [.ref a.1, .int 0, .int of, .int v] (MV μ a σ) (rt (.int (setF 7 6 15 σ of v).1) (MV μ a (setF 7 6 15 σ of v).2)) := by
  refine XM.of 2 rfl (by decide) (Nat.le_of_ble_eq_true rfl) ?_
  refine x_iload_n (pc := 0) dX12_set_0 rfl ?_
  refine x_if_ne (pc := 1) (tgt := 9) dX12_set_1 rfl (fun h_1 => absurd (by decide) h_1) (fun h_1 => ?_)
  refine x_bipush (pc := 4) (v := 6) dX12_set_4 rfl ?_
  refine x_goto (pc := 6) (tgt := 32) dX12_set_6 rfl ?_
  refine x_istore (pc := 32) (lv2 := [_, _, _, _, _, _]) dX12_set_32 (by decide) rfl rfl ?_
  refine x_iload_n (pc := 34) dX12_set_34 rfl ?_
  refine x_i2l (pc := 35) dX12_set_35 ?_
  refine x_lconst (pc := 36) (v := 0) dX12_set_36 rfl ?_
  refine x_ldc2 (pc := 37) dX12_set_37 kc_12_113 ?_
  refine x_callS (pc := 40) (As := [.long _, .long _, .long _]) dX12_set_40 mX12_in lk_12_109 (c_inI 0 5) rfl rfl (by decide) ⟨by decide, by decide⟩ ⟨Nat.zero_le _, Nat.zero_le _⟩ (k_rt ?_)
  refine x_if_eq (pc := 43) (tgt := 103) dX12_set_43 rfl (fun h_43 => absurd h_43 (by decide)) (fun h_43 => ?_)
  refine x_iload_n (pc := 46) dX12_set_46 rfl ?_
  refine x_i2l (pc := 47) dX12_set_47 ?_
  refine x_lconst (pc := 48) (v := 0) dX12_set_48 rfl ?_
  refine x_iload (pc := 49) dX12_set_49 rfl ?_
  refine x_iconst (pc := 51) (v := 1) dX12_set_51 rfl ?_
  refine x_isub (pc := 52) dX12_set_52 ?_
  refine x_i2l (pc := 53) dX12_set_53 ?_
  refine x_callS (pc := 54) (As := [.long _, .long _, .long _]) dX12_set_54 mX12_in lk_12_109 (c_inI 0 (6 - 1)) rfl rfl (by decide) ⟨by decide, by decide⟩ ⟨Nat.zero_le _, Nat.zero_le _⟩ (k_rt ?_)
  refine x_if_eq (pc := 57) (tgt := 103) dX12_set_57 rfl (fun h_57 => ?_) (fun h_57 => ?_)
  · refine x_bipush (pc := 103) (v := -2) dX12_set_103 rfl ?_
    refine x_ireturn (pc := 105) dX12_set_105 rfl rfl ?_
    have hF : setF 7 6 15 σ of v = (-2, σ) := if_neg (fun h => by first | exact absurd h_57 (by rw [bi_t h.1]; decide) | exact absurd h_100 (by rw [bi_t h.2]; decide))
    exact ⟨by rw [hF], by rw [hF]⟩
  · refine x_iload_n (pc := 60) dX12_set_60 rfl ?_
    refine x_i2l (pc := 61) dX12_set_61 ?_
    refine x_lconst (pc := 62) (v := 0) dX12_set_62 rfl ?_
    refine x_iload_n (pc := 63) dX12_set_63 rfl ?_
    refine x_if_eq (pc := 64) (tgt := 72) dX12_set_64 rfl (fun h_64 => ?_) (fun h_64 => absurd (by decide) h_64)
    refine x_ldc2 (pc := 72) dX12_set_72 kc_12_115 ?_
    refine x_goto (pc := 75) (tgt := 97) dX12_set_75 rfl ?_
    refine x_callS (pc := 97) (As := [.long _, .long _, .long _]) dX12_set_97 mX12_in lk_12_109 (c_inI 0 15) rfl rfl (by decide) ⟨by decide, by decide⟩ ⟨Nat.zero_le _, Nat.zero_le _⟩ (k_rt ?_)
    refine x_if_ne (pc := 100) (tgt := 106) dX12_set_100 rfl (fun h_100 => ?_) (fun h_100 => ?_)
    · obtain ⟨j, hj, rfl⟩ := ixC (c := 6) (n := 6) rfl (bi_n0 h_57) (by omega)
      refine x_iload_n (pc := 106) dX12_set_106 rfl ?_
      refine x_if_ne (pc := 107) (tgt := 119) dX12_set_107 rfl (fun h_107 => absurd (by decide) h_107) (fun h_107 => ?_)
      refine x_aload_n (pc := 110) dX12_set_110 rfl ?_
      refine m_getR (pc := 111) hM dX12_set_111 fk_12_23 (Or.inr ⟨_, rfl⟩) (Or.inl (by decide)) ?_
      refine x_iload_n (pc := 114) dX12_set_114 rfl ?_
      refine m_iald (pc := 115) hM dX12_set_115 (rfl) (by show j < 6; omega) ?_
      refine x_goto (pc := 116) (tgt := 181) dX12_set_116 rfl ?_
      refine x_istore (pc := 181) (lv2 := [_, _, _, _, _, _]) dX12_set_181 (by decide) rfl rfl ?_
      refine x_iload_n (pc := 183) dX12_set_183 rfl ?_
      refine x_if_ne (pc := 184) (tgt := 197) dX12_set_184 rfl (fun h_184 => absurd (by decide) h_184) (fun h_184 => ?_)
      refine x_aload_n (pc := 187) dX12_set_187 rfl ?_
      refine m_getR (pc := 188) hM dX12_set_188 fk_12_23 (Or.inr ⟨_, rfl⟩) (Or.inl (by decide)) ?_
      refine x_iload_n (pc := 191) dX12_set_191 rfl ?_
      refine x_iload_n (pc := 192) dX12_set_192 rfl ?_
      refine m_iast (pc := 193) hM dX12_set_193 (rfl) (by show j < 6; omega) ?_
      refine x_goto (pc := 194) (tgt := 264) dX12_set_194 rfl ?_
      refine x_iload (pc := 264) dX12_set_264 rfl ?_
      refine x_ireturn (pc := 266) dX12_set_266 rfl rfl ?_
      have hF : setF 7 6 15 σ (nI j) v = (σ.2.2 7 j, tA σ 7 j v) := by
        rw [setF, if_pos ⟨bi_n0 h_57, bi_n0 h_100⟩, nn_nI (by omega)]
      exact ⟨by rw [hF], by rw [hF]⟩
    · refine x_bipush (pc := 103) (v := -2) dX12_set_103 rfl ?_
      refine x_ireturn (pc := 105) dX12_set_105 rfl rfl ?_
      have hF : setF 7 6 15 σ of v = (-2, σ) := if_neg (fun h => by first | exact absurd h_57 (by rw [bi_t h.1]; decide) | exact absurd h_100 (by rw [bi_t h.2]; decide))
      exact ⟨by rw [hF], by rw [hF]⟩
theorem c_set1 (hM : MOK μ a) (of v : Int32) : XM Γ zX12_set 2 0 0 [.ref a.1, .int 1, .int of, .int v] (MV μ a σ) (rt (.int (setF 8 4 3 σ of v).1) (MV μ a (setF 8 4 3 σ of v).2)) := by
  refine XM.of 2 rfl (by decide) (Nat.le_of_ble_eq_true rfl) ?_
  refine x_iload_n (pc := 0) dX12_set_0 rfl ?_
  refine x_if_ne (pc := 1) (tgt := 9) dX12_set_1 rfl (fun h_1 => ?_) (fun h_1 => absurd h_1 (by decide))
  refine x_iload_n (pc := 9) dX12_set_9 rfl ?_
  refine x_iconst (pc := 10) (v := 1) dX12_set_10 rfl ?_
  refine x_icmp_ne (pc := 11) (tgt := 18) dX12_set_11 rfl (fun h_11 => absurd (by decide) h_11) (fun h_11 => ?_)
  refine x_iconst (pc := 14) (v := 4) dX12_set_14 rfl ?_
  refine x_goto (pc := 15) (tgt := 32) dX12_set_15 rfl ?_
  refine x_istore (pc := 32) (lv2 := [_, _, _, _, _, _]) dX12_set_32 (by decide) rfl rfl ?_
  refine x_iload_n (pc := 34) dX12_set_34 rfl ?_
  refine x_i2l (pc := 35) dX12_set_35 ?_
  refine x_lconst (pc := 36) (v := 0) dX12_set_36 rfl ?_
  refine x_ldc2 (pc := 37) dX12_set_37 kc_12_113 ?_
  refine x_callS (pc := 40) (As := [.long _, .long _, .long _]) dX12_set_40 mX12_in lk_12_109 (c_inI 0 5) rfl rfl (by decide) ⟨by decide, by decide⟩ ⟨Nat.zero_le _, Nat.zero_le _⟩ (k_rt ?_)
  refine x_if_eq (pc := 43) (tgt := 103) dX12_set_43 rfl (fun h_43 => absurd h_43 (by decide)) (fun h_43 => ?_)
  refine x_iload_n (pc := 46) dX12_set_46 rfl ?_
  refine x_i2l (pc := 47) dX12_set_47 ?_
  refine x_lconst (pc := 48) (v := 0) dX12_set_48 rfl ?_
  refine x_iload (pc := 49) dX12_set_49 rfl ?_
  refine x_iconst (pc := 51) (v := 1) dX12_set_51 rfl ?_
  refine x_isub (pc := 52) dX12_set_52 ?_
  refine x_i2l (pc := 53) dX12_set_53 ?_
  refine x_callS (pc := 54) (As := [.long _, .long _, .long _]) dX12_set_54 mX12_in lk_12_109 (c_inI 0 (4 - 1)) rfl rfl (by decide) ⟨by decide, by decide⟩ ⟨Nat.zero_le _, Nat.zero_le _⟩ (k_rt ?_)
  refine x_if_eq (pc := 57) (tgt := 103) dX12_set_57 rfl (fun h_57 => ?_) (fun h_57 => ?_)
  · refine x_bipush (pc := 103) (v := -2) dX12_set_103 rfl ?_
    refine x_ireturn (pc := 105) dX12_set_105 rfl rfl ?_
    have hF : setF 8 4 3 σ of v = (-2, σ) := if_neg (fun h => by first | exact absurd h_57 (by rw [bi_t h.1]; decide) | exact absurd h_100 (by rw [bi_t h.2]; decide))
    exact ⟨by rw [hF], by rw [hF]⟩
  · refine x_iload_n (pc := 60) dX12_set_60 rfl ?_
    refine x_i2l (pc := 61) dX12_set_61 ?_
    refine x_lconst (pc := 62) (v := 0) dX12_set_62 rfl ?_
    refine x_iload_n (pc := 63) dX12_set_63 rfl ?_
    refine x_if_eq (pc := 64) (tgt := 72) dX12_set_64 rfl (fun h_64 => absurd h_64 (by decide)) (fun h_64 => ?_)
    refine x_iload_n (pc := 67) dX12_set_67 rfl ?_
    refine x_iconst (pc := 68) (v := 2) dX12_set_68 rfl ?_
    refine x_icmp_ne (pc := 69) (tgt := 78) dX12_set_69 rfl (fun h_69 => ?_) (fun h_69 => absurd h_69 (by decide))
    refine x_iload_n (pc := 78) dX12_set_78 rfl ?_
    refine x_iconst (pc := 79) (v := 1) dX12_set_79 rfl ?_
    refine x_icmp_eq (pc := 80) (tgt := 88) dX12_set_80 rfl (fun h_80 => ?_) (fun h_80 => absurd (by decide) h_80)
    refine x_ldc2 (pc := 88) dX12_set_88 kc_12_117 ?_
    refine x_goto (pc := 91) (tgt := 97) dX12_set_91 rfl ?_
    refine x_callS (pc := 97) (As := [.long _, .long _, .long _]) dX12_set_97 mX12_in lk_12_109 (c_inI 0 3) rfl rfl (by decide) ⟨by decide, by decide⟩ ⟨Nat.zero_le _, Nat.zero_le _⟩ (k_rt ?_)
    refine x_if_ne (pc := 100) (tgt := 106) dX12_set_100 rfl (fun h_100 => ?_) (fun h_100 => ?_)
    · obtain ⟨j, hj, rfl⟩ := ixC (c := 4) (n := 4) rfl (bi_n0 h_57) (by omega)
      refine x_iload_n (pc := 106) dX12_set_106 rfl ?_
      refine x_if_ne (pc := 107) (tgt := 119) dX12_set_107 rfl (fun h_107 => ?_) (fun h_107 => absurd h_107 (by decide))
      refine x_iload_n (pc := 119) dX12_set_119 rfl ?_
      refine x_iconst (pc := 120) (v := 1) dX12_set_120 rfl ?_
      refine x_icmp_ne (pc := 121) (tgt := 133) dX12_set_121 rfl (fun h_121 => absurd (by decide) h_121) (fun h_121 => ?_)
      refine x_aload_n (pc := 124) dX12_set_124 rfl ?_
      refine m_getR (pc := 125) hM dX12_set_125 fk_12_26 (Or.inr ⟨_, rfl⟩) (Or.inl (by decide)) ?_
      refine x_iload_n (pc := 128) dX12_set_128 rfl ?_
      refine m_iald (pc := 129) hM dX12_set_129 (rfl) (by show j < 4; omega) ?_
      refine x_goto (pc := 130) (tgt := 181) dX12_set_130 rfl ?_
      refine x_istore (pc := 181) (lv2 := [_, _, _, _, _, _]) dX12_set_181 (by decide) rfl rfl ?_
      refine x_iload_n (pc := 183) dX12_set_183 rfl ?_
      refine x_if_ne (pc := 184) (tgt := 197) dX12_set_184 rfl (fun h_184 => ?_) (fun h_184 => absurd h_184 (by decide))
      refine x_iload_n (pc := 197) dX12_set_197 rfl ?_
      refine x_iconst (pc := 198) (v := 1) dX12_set_198 rfl ?_
      refine x_icmp_ne (pc := 199) (tgt := 212) dX12_set_199 rfl (fun h_199 => absurd (by decide) h_199) (fun h_199 => ?_)
      refine x_aload_n (pc := 202) dX12_set_202 rfl ?_
      refine m_getR (pc := 203) hM dX12_set_203 fk_12_26 (Or.inr ⟨_, rfl⟩) (Or.inl (by decide)) ?_
      refine x_iload_n (pc := 206) dX12_set_206 rfl ?_
      refine x_iload_n (pc := 207) dX12_set_207 rfl ?_
      refine m_iast (pc := 208) hM dX12_set_208 (rfl) (by show j < 4; omega) ?_
      refine x_goto (pc := 209) (tgt := 264) dX12_set_209 rfl ?_
      refine x_iload (pc := 264) dX12_set_264 rfl ?_
      refine x_ireturn (pc := 266) dX12_set_266 rfl rfl ?_
      have hF : setF 8 4 3 σ (nI j) v = (σ.2.2 8 j, tA σ 8 j v) := by
        rw [setF, if_pos ⟨bi_n0 h_57, bi_n0 h_100⟩, nn_nI (by omega)]
      exact ⟨by rw [hF], by rw [hF]⟩
    · refine x_bipush (pc := 103) (v := -2) dX12_set_103 rfl ?_
      refine x_ireturn (pc := 105) dX12_set_105 rfl rfl ?_
      have hF : setF 8 4 3 σ of v = (-2, σ) := if_neg (fun h => by first | exact absurd h_57 (by rw [bi_t h.1]; decide) | exact absurd h_100 (by rw [bi_t h.2]; decide))
      exact ⟨by rw [hF], by rw [hF]⟩
theorem c_set2 (hM : MOK μ a) (of v : Int32) : XM Γ zX12_set 2 0 0 [.ref a.1, .int 2, .int of, .int v] (MV μ a σ) (rt (.int (setF 9 7 15 σ of v).1) (MV μ a (setF 9 7 15 σ of v).2)) := by
  refine XM.of 2 rfl (by decide) (Nat.le_of_ble_eq_true rfl) ?_
  refine x_iload_n (pc := 0) dX12_set_0 rfl ?_
  refine x_if_ne (pc := 1) (tgt := 9) dX12_set_1 rfl (fun h_1 => ?_) (fun h_1 => absurd h_1 (by decide))
  refine x_iload_n (pc := 9) dX12_set_9 rfl ?_
  refine x_iconst (pc := 10) (v := 1) dX12_set_10 rfl ?_
  refine x_icmp_ne (pc := 11) (tgt := 18) dX12_set_11 rfl (fun h_11 => ?_) (fun h_11 => absurd h_11 (by decide))
  refine x_iload_n (pc := 18) dX12_set_18 rfl ?_
  refine x_iconst (pc := 19) (v := 2) dX12_set_19 rfl ?_
  refine x_icmp_ne (pc := 20) (tgt := 28) dX12_set_20 rfl (fun h_20 => absurd (by decide) h_20) (fun h_20 => ?_)
  refine x_bipush (pc := 23) (v := 7) dX12_set_23 rfl ?_
  refine x_goto (pc := 25) (tgt := 32) dX12_set_25 rfl ?_
  refine x_istore (pc := 32) (lv2 := [_, _, _, _, _, _]) dX12_set_32 (by decide) rfl rfl ?_
  refine x_iload_n (pc := 34) dX12_set_34 rfl ?_
  refine x_i2l (pc := 35) dX12_set_35 ?_
  refine x_lconst (pc := 36) (v := 0) dX12_set_36 rfl ?_
  refine x_ldc2 (pc := 37) dX12_set_37 kc_12_113 ?_
  refine x_callS (pc := 40) (As := [.long _, .long _, .long _]) dX12_set_40 mX12_in lk_12_109 (c_inI 0 5) rfl rfl (by decide) ⟨by decide, by decide⟩ ⟨Nat.zero_le _, Nat.zero_le _⟩ (k_rt ?_)
  refine x_if_eq (pc := 43) (tgt := 103) dX12_set_43 rfl (fun h_43 => absurd h_43 (by decide)) (fun h_43 => ?_)
  refine x_iload_n (pc := 46) dX12_set_46 rfl ?_
  refine x_i2l (pc := 47) dX12_set_47 ?_
  refine x_lconst (pc := 48) (v := 0) dX12_set_48 rfl ?_
  refine x_iload (pc := 49) dX12_set_49 rfl ?_
  refine x_iconst (pc := 51) (v := 1) dX12_set_51 rfl ?_
  refine x_isub (pc := 52) dX12_set_52 ?_
  refine x_i2l (pc := 53) dX12_set_53 ?_
  refine x_callS (pc := 54) (As := [.long _, .long _, .long _]) dX12_set_54 mX12_in lk_12_109 (c_inI 0 (7 - 1)) rfl rfl (by decide) ⟨by decide, by decide⟩ ⟨Nat.zero_le _, Nat.zero_le _⟩ (k_rt ?_)
  refine x_if_eq (pc := 57) (tgt := 103) dX12_set_57 rfl (fun h_57 => ?_) (fun h_57 => ?_)
  · refine x_bipush (pc := 103) (v := -2) dX12_set_103 rfl ?_
    refine x_ireturn (pc := 105) dX12_set_105 rfl rfl ?_
    have hF : setF 9 7 15 σ of v = (-2, σ) := if_neg (fun h => by first | exact absurd h_57 (by rw [bi_t h.1]; decide) | exact absurd h_100 (by rw [bi_t h.2]; decide))
    exact ⟨by rw [hF], by rw [hF]⟩
  · refine x_iload_n (pc := 60) dX12_set_60 rfl ?_
    refine x_i2l (pc := 61) dX12_set_61 ?_
    refine x_lconst (pc := 62) (v := 0) dX12_set_62 rfl ?_
    refine x_iload_n (pc := 63) dX12_set_63 rfl ?_
    refine x_if_eq (pc := 64) (tgt := 72) dX12_set_64 rfl (fun h_64 => absurd h_64 (by decide)) (fun h_64 => ?_)
    refine x_iload_n (pc := 67) dX12_set_67 rfl ?_
    refine x_iconst (pc := 68) (v := 2) dX12_set_68 rfl ?_
    refine x_icmp_ne (pc := 69) (tgt := 78) dX12_set_69 rfl (fun h_69 => absurd (by decide) h_69) (fun h_69 => ?_)
    refine x_ldc2 (pc := 72) dX12_set_72 kc_12_115 ?_
    refine x_goto (pc := 75) (tgt := 97) dX12_set_75 rfl ?_
    refine x_callS (pc := 97) (As := [.long _, .long _, .long _]) dX12_set_97 mX12_in lk_12_109 (c_inI 0 15) rfl rfl (by decide) ⟨by decide, by decide⟩ ⟨Nat.zero_le _, Nat.zero_le _⟩ (k_rt ?_)
    refine x_if_ne (pc := 100) (tgt := 106) dX12_set_100 rfl (fun h_100 => ?_) (fun h_100 => ?_)
    · obtain ⟨j, hj, rfl⟩ := ixC (c := 7) (n := 7) rfl (bi_n0 h_57) (by omega)
      refine x_iload_n (pc := 106) dX12_set_106 rfl ?_
      refine x_if_ne (pc := 107) (tgt := 119) dX12_set_107 rfl (fun h_107 => ?_) (fun h_107 => absurd h_107 (by decide))
      refine x_iload_n (pc := 119) dX12_set_119 rfl ?_
      refine x_iconst (pc := 120) (v := 1) dX12_set_120 rfl ?_
      refine x_icmp_ne (pc := 121) (tgt := 133) dX12_set_121 rfl (fun h_121 => ?_) (fun h_121 => absurd h_121 (by decide))
      refine x_iload_n (pc := 133) dX12_set_133 rfl ?_
      refine x_iconst (pc := 134) (v := 2) dX12_set_134 rfl ?_
      refine x_icmp_ne (pc := 135) (tgt := 147) dX12_set_135 rfl (fun h_135 => absurd (by decide) h_135) (fun h_135 => ?_)
      refine x_aload_n (pc := 138) dX12_set_138 rfl ?_
      refine m_getR (pc := 139) hM dX12_set_139 fk_12_29 (Or.inr ⟨_, rfl⟩) (Or.inl (by decide)) ?_
      refine x_iload_n (pc := 142) dX12_set_142 rfl ?_
      refine m_iald (pc := 143) hM dX12_set_143 (rfl) (by show j < 7; omega) ?_
      refine x_goto (pc := 144) (tgt := 181) dX12_set_144 rfl ?_
      refine x_istore (pc := 181) (lv2 := [_, _, _, _, _, _]) dX12_set_181 (by decide) rfl rfl ?_
      refine x_iload_n (pc := 183) dX12_set_183 rfl ?_
      refine x_if_ne (pc := 184) (tgt := 197) dX12_set_184 rfl (fun h_184 => ?_) (fun h_184 => absurd h_184 (by decide))
      refine x_iload_n (pc := 197) dX12_set_197 rfl ?_
      refine x_iconst (pc := 198) (v := 1) dX12_set_198 rfl ?_
      refine x_icmp_ne (pc := 199) (tgt := 212) dX12_set_199 rfl (fun h_199 => ?_) (fun h_199 => absurd h_199 (by decide))
      refine x_iload_n (pc := 212) dX12_set_212 rfl ?_
      refine x_iconst (pc := 213) (v := 2) dX12_set_213 rfl ?_
      refine x_icmp_ne (pc := 214) (tgt := 227) dX12_set_214 rfl (fun h_214 => absurd (by decide) h_214) (fun h_214 => ?_)
      refine x_aload_n (pc := 217) dX12_set_217 rfl ?_
      refine m_getR (pc := 218) hM dX12_set_218 fk_12_29 (Or.inr ⟨_, rfl⟩) (Or.inl (by decide)) ?_
      refine x_iload_n (pc := 221) dX12_set_221 rfl ?_
      refine x_iload_n (pc := 222) dX12_set_222 rfl ?_
      refine m_iast (pc := 223) hM dX12_set_223 (rfl) (by show j < 7; omega) ?_
      refine x_goto (pc := 224) (tgt := 264) dX12_set_224 rfl ?_
      refine x_iload (pc := 264) dX12_set_264 rfl ?_
      refine x_ireturn (pc := 266) dX12_set_266 rfl rfl ?_
      have hF : setF 9 7 15 σ (nI j) v = (σ.2.2 9 j, tA σ 9 j v) := by
        rw [setF, if_pos ⟨bi_n0 h_57, bi_n0 h_100⟩, nn_nI (by omega)]
      exact ⟨by rw [hF], by rw [hF]⟩
    · refine x_bipush (pc := 103) (v := -2) dX12_set_103 rfl ?_
      refine x_ireturn (pc := 105) dX12_set_105 rfl rfl ?_
      have hF : setF 9 7 15 σ of v = (-2, σ) := if_neg (fun h => by first | exact absurd h_57 (by rw [bi_t h.1]; decide) | exact absurd h_100 (by rw [bi_t h.2]; decide))
      exact ⟨by rw [hF], by rw [hF]⟩
theorem c_set3 (hM : MOK μ a) (of v : Int32) {n : Nat} (h15 : σ.1 15 = nI n) (hn : n ≤ 5) : XM Γ zX12_set 2 0 0 [.ref a.1, .int 3, .int of, .int v] (MV μ a σ) (rt (.int (setF 11 (σ.1 15) 9 σ of v).1) (MV μ a (setF 11 (σ.1 15) 9 σ of v).2)) := by
  refine XM.of 2 rfl (by decide) (Nat.le_of_ble_eq_true rfl) ?_
  refine x_iload_n (pc := 0) dX12_set_0 rfl ?_
  refine x_if_ne (pc := 1) (tgt := 9) dX12_set_1 rfl (fun h_1 => ?_) (fun h_1 => absurd h_1 (by decide))
  refine x_iload_n (pc := 9) dX12_set_9 rfl ?_
  refine x_iconst (pc := 10) (v := 1) dX12_set_10 rfl ?_
  refine x_icmp_ne (pc := 11) (tgt := 18) dX12_set_11 rfl (fun h_11 => ?_) (fun h_11 => absurd h_11 (by decide))
  refine x_iload_n (pc := 18) dX12_set_18 rfl ?_
  refine x_iconst (pc := 19) (v := 2) dX12_set_19 rfl ?_
  refine x_icmp_ne (pc := 20) (tgt := 28) dX12_set_20 rfl (fun h_20 => ?_) (fun h_20 => absurd h_20 (by decide))
  refine x_aload_n (pc := 28) dX12_set_28 rfl ?_
  refine m_getI (pc := 29) hM dX12_set_29 fk_12_106 (Or.inl rfl) ?_
  refine x_istore (pc := 32) (lv2 := [_, _, _, _, _, _]) dX12_set_32 (by decide) rfl rfl ?_
  refine x_iload_n (pc := 34) dX12_set_34 rfl ?_
  refine x_i2l (pc := 35) dX12_set_35 ?_
  refine x_lconst (pc := 36) (v := 0) dX12_set_36 rfl ?_
  refine x_ldc2 (pc := 37) dX12_set_37 kc_12_113 ?_
  refine x_callS (pc := 40) (As := [.long _, .long _, .long _]) dX12_set_40 mX12_in lk_12_109 (c_inI 0 5) rfl rfl (by decide) ⟨by decide, by decide⟩ ⟨Nat.zero_le _, Nat.zero_le _⟩ (k_rt ?_)
  refine x_if_eq (pc := 43) (tgt := 103) dX12_set_43 rfl (fun h_43 => absurd h_43 (by decide)) (fun h_43 => ?_)
  refine x_iload_n (pc := 46) dX12_set_46 rfl ?_
  refine x_i2l (pc := 47) dX12_set_47 ?_
  refine x_lconst (pc := 48) (v := 0) dX12_set_48 rfl ?_
  refine x_iload (pc := 49) dX12_set_49 rfl ?_
  refine x_iconst (pc := 51) (v := 1) dX12_set_51 rfl ?_
  refine x_isub (pc := 52) dX12_set_52 ?_
  refine x_i2l (pc := 53) dX12_set_53 ?_
  refine x_callS (pc := 54) (As := [.long _, .long _, .long _]) dX12_set_54 mX12_in lk_12_109 (c_inI 0 ((σ.1 15) - 1)) rfl rfl (by decide) ⟨by decide, by decide⟩ ⟨Nat.zero_le _, Nat.zero_le _⟩ (k_rt ?_)
  refine x_if_eq (pc := 57) (tgt := 103) dX12_set_57 rfl (fun h_57 => ?_) (fun h_57 => ?_)
  · refine x_bipush (pc := 103) (v := -2) dX12_set_103 rfl ?_
    refine x_ireturn (pc := 105) dX12_set_105 rfl rfl ?_
    have hF : setF 11 (σ.1 15) 9 σ of v = (-2, σ) := if_neg (fun h => by first | exact absurd h_57 (by rw [bi_t h.1]; decide) | exact absurd h_100 (by rw [bi_t h.2]; decide))
    exact ⟨by rw [hF], by rw [hF]⟩
  · refine x_iload_n (pc := 60) dX12_set_60 rfl ?_
    refine x_i2l (pc := 61) dX12_set_61 ?_
    refine x_lconst (pc := 62) (v := 0) dX12_set_62 rfl ?_
    refine x_iload_n (pc := 63) dX12_set_63 rfl ?_
    refine x_if_eq (pc := 64) (tgt := 72) dX12_set_64 rfl (fun h_64 => absurd h_64 (by decide)) (fun h_64 => ?_)
    refine x_iload_n (pc := 67) dX12_set_67 rfl ?_
    refine x_iconst (pc := 68) (v := 2) dX12_set_68 rfl ?_
    refine x_icmp_ne (pc := 69) (tgt := 78) dX12_set_69 rfl (fun h_69 => ?_) (fun h_69 => absurd h_69 (by decide))
    refine x_iload_n (pc := 78) dX12_set_78 rfl ?_
    refine x_iconst (pc := 79) (v := 1) dX12_set_79 rfl ?_
    refine x_icmp_eq (pc := 80) (tgt := 88) dX12_set_80 rfl (fun h_80 => absurd h_80 (by decide)) (fun h_80 => ?_)
    refine x_iload_n (pc := 83) dX12_set_83 rfl ?_
    refine x_iconst (pc := 84) (v := 4) dX12_set_84 rfl ?_
    refine x_icmp_ne (pc := 85) (tgt := 94) dX12_set_85 rfl (fun h_85 => ?_) (fun h_85 => absurd h_85 (by decide))
    refine x_ldc2 (pc := 94) dX12_set_94 kc_12_119 ?_
    refine x_callS (pc := 97) (As := [.long _, .long _, .long _]) dX12_set_97 mX12_in lk_12_109 (c_inI 0 9) rfl rfl (by decide) ⟨by decide, by decide⟩ ⟨Nat.zero_le _, Nat.zero_le _⟩ (k_rt ?_)
    refine x_if_ne (pc := 100) (tgt := 106) dX12_set_100 rfl (fun h_100 => ?_) (fun h_100 => ?_)
    · obtain ⟨j, hj, rfl⟩ := ixC (c := (σ.1 15)) (n := n) h15 (bi_n0 h_57) (by omega)
      refine x_iload_n (pc := 106) dX12_set_106 rfl ?_
      refine x_if_ne (pc := 107) (tgt := 119) dX12_set_107 rfl (fun h_107 => ?_) (fun h_107 => absurd h_107 (by decide))
      refine x_iload_n (pc := 119) dX12_set_119 rfl ?_
      refine x_iconst (pc := 120) (v := 1) dX12_set_120 rfl ?_
      refine x_icmp_ne (pc := 121) (tgt := 133) dX12_set_121 rfl (fun h_121 => ?_) (fun h_121 => absurd h_121 (by decide))
      refine x_iload_n (pc := 133) dX12_set_133 rfl ?_
      refine x_iconst (pc := 134) (v := 2) dX12_set_134 rfl ?_
      refine x_icmp_ne (pc := 135) (tgt := 147) dX12_set_135 rfl (fun h_135 => ?_) (fun h_135 => absurd h_135 (by decide))
      refine x_iload_n (pc := 147) dX12_set_147 rfl ?_
      refine x_iconst (pc := 148) (v := 3) dX12_set_148 rfl ?_
      refine x_icmp_ne (pc := 149) (tgt := 161) dX12_set_149 rfl (fun h_149 => absurd (by decide) h_149) (fun h_149 => ?_)
      refine x_aload_n (pc := 152) dX12_set_152 rfl ?_
      refine m_getR (pc := 153) hM dX12_set_153 fk_12_35 (Or.inr ⟨_, rfl⟩) (Or.inl (by decide)) ?_
      refine x_iload_n (pc := 156) dX12_set_156 rfl ?_
      refine m_iald (pc := 157) hM dX12_set_157 (rfl) (by show j < 5; omega) ?_
      refine x_goto (pc := 158) (tgt := 181) dX12_set_158 rfl ?_
      refine x_istore (pc := 181) (lv2 := [_, _, _, _, _, _]) dX12_set_181 (by decide) rfl rfl ?_
      refine x_iload_n (pc := 183) dX12_set_183 rfl ?_
      refine x_if_ne (pc := 184) (tgt := 197) dX12_set_184 rfl (fun h_184 => ?_) (fun h_184 => absurd h_184 (by decide))
      refine x_iload_n (pc := 197) dX12_set_197 rfl ?_
      refine x_iconst (pc := 198) (v := 1) dX12_set_198 rfl ?_
      refine x_icmp_ne (pc := 199) (tgt := 212) dX12_set_199 rfl (fun h_199 => ?_) (fun h_199 => absurd h_199 (by decide))
      refine x_iload_n (pc := 212) dX12_set_212 rfl ?_
      refine x_iconst (pc := 213) (v := 2) dX12_set_213 rfl ?_
      refine x_icmp_ne (pc := 214) (tgt := 227) dX12_set_214 rfl (fun h_214 => ?_) (fun h_214 => absurd h_214 (by decide))
      refine x_iload_n (pc := 227) dX12_set_227 rfl ?_
      refine x_iconst (pc := 228) (v := 3) dX12_set_228 rfl ?_
      refine x_icmp_ne (pc := 229) (tgt := 242) dX12_set_229 rfl (fun h_229 => absurd (by decide) h_229) (fun h_229 => ?_)
      refine x_aload_n (pc := 232) dX12_set_232 rfl ?_
      refine m_getR (pc := 233) hM dX12_set_233 fk_12_35 (Or.inr ⟨_, rfl⟩) (Or.inl (by decide)) ?_
      refine x_iload_n (pc := 236) dX12_set_236 rfl ?_
      refine x_iload_n (pc := 237) dX12_set_237 rfl ?_
      refine m_iast (pc := 238) hM dX12_set_238 (rfl) (by show j < 5; omega) ?_
      refine x_goto (pc := 239) (tgt := 264) dX12_set_239 rfl ?_
      refine x_iload (pc := 264) dX12_set_264 rfl ?_
      refine x_ireturn (pc := 266) dX12_set_266 rfl rfl ?_
      have hF : setF 11 (σ.1 15) 9 σ (nI j) v = (σ.2.2 11 j, tA σ 11 j v) := by
        rw [setF, if_pos ⟨bi_n0 h_57, bi_n0 h_100⟩, nn_nI (by omega)]
      exact ⟨by rw [hF], by rw [hF]⟩
    · refine x_bipush (pc := 103) (v := -2) dX12_set_103 rfl ?_
      refine x_ireturn (pc := 105) dX12_set_105 rfl rfl ?_
      have hF : setF 11 (σ.1 15) 9 σ of v = (-2, σ) := if_neg (fun h => by first | exact absurd h_57 (by rw [bi_t h.1]; decide) | exact absurd h_100 (by rw [bi_t h.2]; decide))
      exact ⟨by rw [hF], by rw [hF]⟩
theorem c_set4 (hM : MOK μ a) (of v : Int32) {n : Nat} (h15 : σ.1 15 = nI n) (hn : n ≤ 5) : XM Γ zX12_set 2 0 0 [.ref a.1, .int 4, .int of, .int v] (MV μ a σ) (rt (.int (setF 12 (σ.1 15) 3 σ of v).1) (MV μ a (setF 12 (σ.1 15) 3 σ of v).2)) := by
  refine XM.of 2 rfl (by decide) (Nat.le_of_ble_eq_true rfl) ?_
  refine x_iload_n (pc := 0) dX12_set_0 rfl ?_
  refine x_if_ne (pc := 1) (tgt := 9) dX12_set_1 rfl (fun h_1 => ?_) (fun h_1 => absurd h_1 (by decide))
  refine x_iload_n (pc := 9) dX12_set_9 rfl ?_
  refine x_iconst (pc := 10) (v := 1) dX12_set_10 rfl ?_
  refine x_icmp_ne (pc := 11) (tgt := 18) dX12_set_11 rfl (fun h_11 => ?_) (fun h_11 => absurd h_11 (by decide))
  refine x_iload_n (pc := 18) dX12_set_18 rfl ?_
  refine x_iconst (pc := 19) (v := 2) dX12_set_19 rfl ?_
  refine x_icmp_ne (pc := 20) (tgt := 28) dX12_set_20 rfl (fun h_20 => ?_) (fun h_20 => absurd h_20 (by decide))
  refine x_aload_n (pc := 28) dX12_set_28 rfl ?_
  refine m_getI (pc := 29) hM dX12_set_29 fk_12_106 (Or.inl rfl) ?_
  refine x_istore (pc := 32) (lv2 := [_, _, _, _, _, _]) dX12_set_32 (by decide) rfl rfl ?_
  refine x_iload_n (pc := 34) dX12_set_34 rfl ?_
  refine x_i2l (pc := 35) dX12_set_35 ?_
  refine x_lconst (pc := 36) (v := 0) dX12_set_36 rfl ?_
  refine x_ldc2 (pc := 37) dX12_set_37 kc_12_113 ?_
  refine x_callS (pc := 40) (As := [.long _, .long _, .long _]) dX12_set_40 mX12_in lk_12_109 (c_inI 0 5) rfl rfl (by decide) ⟨by decide, by decide⟩ ⟨Nat.zero_le _, Nat.zero_le _⟩ (k_rt ?_)
  refine x_if_eq (pc := 43) (tgt := 103) dX12_set_43 rfl (fun h_43 => absurd h_43 (by decide)) (fun h_43 => ?_)
  refine x_iload_n (pc := 46) dX12_set_46 rfl ?_
  refine x_i2l (pc := 47) dX12_set_47 ?_
  refine x_lconst (pc := 48) (v := 0) dX12_set_48 rfl ?_
  refine x_iload (pc := 49) dX12_set_49 rfl ?_
  refine x_iconst (pc := 51) (v := 1) dX12_set_51 rfl ?_
  refine x_isub (pc := 52) dX12_set_52 ?_
  refine x_i2l (pc := 53) dX12_set_53 ?_
  refine x_callS (pc := 54) (As := [.long _, .long _, .long _]) dX12_set_54 mX12_in lk_12_109 (c_inI 0 ((σ.1 15) - 1)) rfl rfl (by decide) ⟨by decide, by decide⟩ ⟨Nat.zero_le _, Nat.zero_le _⟩ (k_rt ?_)
  refine x_if_eq (pc := 57) (tgt := 103) dX12_set_57 rfl (fun h_57 => ?_) (fun h_57 => ?_)
  · refine x_bipush (pc := 103) (v := -2) dX12_set_103 rfl ?_
    refine x_ireturn (pc := 105) dX12_set_105 rfl rfl ?_
    have hF : setF 12 (σ.1 15) 3 σ of v = (-2, σ) := if_neg (fun h => by first | exact absurd h_57 (by rw [bi_t h.1]; decide) | exact absurd h_100 (by rw [bi_t h.2]; decide))
    exact ⟨by rw [hF], by rw [hF]⟩
  · refine x_iload_n (pc := 60) dX12_set_60 rfl ?_
    refine x_i2l (pc := 61) dX12_set_61 ?_
    refine x_lconst (pc := 62) (v := 0) dX12_set_62 rfl ?_
    refine x_iload_n (pc := 63) dX12_set_63 rfl ?_
    refine x_if_eq (pc := 64) (tgt := 72) dX12_set_64 rfl (fun h_64 => absurd h_64 (by decide)) (fun h_64 => ?_)
    refine x_iload_n (pc := 67) dX12_set_67 rfl ?_
    refine x_iconst (pc := 68) (v := 2) dX12_set_68 rfl ?_
    refine x_icmp_ne (pc := 69) (tgt := 78) dX12_set_69 rfl (fun h_69 => ?_) (fun h_69 => absurd h_69 (by decide))
    refine x_iload_n (pc := 78) dX12_set_78 rfl ?_
    refine x_iconst (pc := 79) (v := 1) dX12_set_79 rfl ?_
    refine x_icmp_eq (pc := 80) (tgt := 88) dX12_set_80 rfl (fun h_80 => absurd h_80 (by decide)) (fun h_80 => ?_)
    refine x_iload_n (pc := 83) dX12_set_83 rfl ?_
    refine x_iconst (pc := 84) (v := 4) dX12_set_84 rfl ?_
    refine x_icmp_ne (pc := 85) (tgt := 94) dX12_set_85 rfl (fun h_85 => absurd (by decide) h_85) (fun h_85 => ?_)
    refine x_ldc2 (pc := 88) dX12_set_88 kc_12_117 ?_
    refine x_goto (pc := 91) (tgt := 97) dX12_set_91 rfl ?_
    refine x_callS (pc := 97) (As := [.long _, .long _, .long _]) dX12_set_97 mX12_in lk_12_109 (c_inI 0 3) rfl rfl (by decide) ⟨by decide, by decide⟩ ⟨Nat.zero_le _, Nat.zero_le _⟩ (k_rt ?_)
    refine x_if_ne (pc := 100) (tgt := 106) dX12_set_100 rfl (fun h_100 => ?_) (fun h_100 => ?_)
    · obtain ⟨j, hj, rfl⟩ := ixC (c := (σ.1 15)) (n := n) h15 (bi_n0 h_57) (by omega)
      refine x_iload_n (pc := 106) dX12_set_106 rfl ?_
      refine x_if_ne (pc := 107) (tgt := 119) dX12_set_107 rfl (fun h_107 => ?_) (fun h_107 => absurd h_107 (by decide))
      refine x_iload_n (pc := 119) dX12_set_119 rfl ?_
      refine x_iconst (pc := 120) (v := 1) dX12_set_120 rfl ?_
      refine x_icmp_ne (pc := 121) (tgt := 133) dX12_set_121 rfl (fun h_121 => ?_) (fun h_121 => absurd h_121 (by decide))
      refine x_iload_n (pc := 133) dX12_set_133 rfl ?_
      refine x_iconst (pc := 134) (v := 2) dX12_set_134 rfl ?_
      refine x_icmp_ne (pc := 135) (tgt := 147) dX12_set_135 rfl (fun h_135 => ?_) (fun h_135 => absurd h_135 (by decide))
      refine x_iload_n (pc := 147) dX12_set_147 rfl ?_
      refine x_iconst (pc := 148) (v := 3) dX12_set_148 rfl ?_
      refine x_icmp_ne (pc := 149) (tgt := 161) dX12_set_149 rfl (fun h_149 => ?_) (fun h_149 => absurd h_149 (by decide))
      refine x_iload_n (pc := 161) dX12_set_161 rfl ?_
      refine x_iconst (pc := 162) (v := 4) dX12_set_162 rfl ?_
      refine x_icmp_ne (pc := 163) (tgt := 175) dX12_set_163 rfl (fun h_163 => absurd (by decide) h_163) (fun h_163 => ?_)
      refine x_aload_n (pc := 166) dX12_set_166 rfl ?_
      refine m_getR (pc := 167) hM dX12_set_167 fk_12_38 (Or.inr ⟨_, rfl⟩) (Or.inl (by decide)) ?_
      refine x_iload_n (pc := 170) dX12_set_170 rfl ?_
      refine m_iald (pc := 171) hM dX12_set_171 (rfl) (by show j < 5; omega) ?_
      refine x_goto (pc := 172) (tgt := 181) dX12_set_172 rfl ?_
      refine x_istore (pc := 181) (lv2 := [_, _, _, _, _, _]) dX12_set_181 (by decide) rfl rfl ?_
      refine x_iload_n (pc := 183) dX12_set_183 rfl ?_
      refine x_if_ne (pc := 184) (tgt := 197) dX12_set_184 rfl (fun h_184 => ?_) (fun h_184 => absurd h_184 (by decide))
      refine x_iload_n (pc := 197) dX12_set_197 rfl ?_
      refine x_iconst (pc := 198) (v := 1) dX12_set_198 rfl ?_
      refine x_icmp_ne (pc := 199) (tgt := 212) dX12_set_199 rfl (fun h_199 => ?_) (fun h_199 => absurd h_199 (by decide))
      refine x_iload_n (pc := 212) dX12_set_212 rfl ?_
      refine x_iconst (pc := 213) (v := 2) dX12_set_213 rfl ?_
      refine x_icmp_ne (pc := 214) (tgt := 227) dX12_set_214 rfl (fun h_214 => ?_) (fun h_214 => absurd h_214 (by decide))
      refine x_iload_n (pc := 227) dX12_set_227 rfl ?_
      refine x_iconst (pc := 228) (v := 3) dX12_set_228 rfl ?_
      refine x_icmp_ne (pc := 229) (tgt := 242) dX12_set_229 rfl (fun h_229 => ?_) (fun h_229 => absurd h_229 (by decide))
      refine x_iload_n (pc := 242) dX12_set_242 rfl ?_
      refine x_iconst (pc := 243) (v := 4) dX12_set_243 rfl ?_
      refine x_icmp_ne (pc := 244) (tgt := 257) dX12_set_244 rfl (fun h_244 => absurd (by decide) h_244) (fun h_244 => ?_)
      refine x_aload_n (pc := 247) dX12_set_247 rfl ?_
      refine m_getR (pc := 248) hM dX12_set_248 fk_12_38 (Or.inr ⟨_, rfl⟩) (Or.inl (by decide)) ?_
      refine x_iload_n (pc := 251) dX12_set_251 rfl ?_
      refine x_iload_n (pc := 252) dX12_set_252 rfl ?_
      refine m_iast (pc := 253) hM dX12_set_253 (rfl) (by show j < 5; omega) ?_
      refine x_goto (pc := 254) (tgt := 264) dX12_set_254 rfl ?_
      refine x_iload (pc := 264) dX12_set_264 rfl ?_
      refine x_ireturn (pc := 266) dX12_set_266 rfl rfl ?_
      have hF : setF 12 (σ.1 15) 3 σ (nI j) v = (σ.2.2 12 j, tA σ 12 j v) := by
        rw [setF, if_pos ⟨bi_n0 h_57, bi_n0 h_100⟩, nn_nI (by omega)]
      exact ⟨by rw [hF], by rw [hF]⟩
    · refine x_bipush (pc := 103) (v := -2) dX12_set_103 rfl ?_
      refine x_ireturn (pc := 105) dX12_set_105 rfl rfl ?_
      have hF : setF 12 (σ.1 15) 3 σ of v = (-2, σ) := if_neg (fun h => by first | exact absurd h_57 (by rw [bi_t h.1]; decide) | exact absurd h_100 (by rw [bi_t h.2]; decide))
      exact ⟨by rw [hF], by rw [hF]⟩
theorem c_set5 (hM : MOK μ a) (of v : Int32) {n : Nat} (h15 : σ.1 15 = nI n) (hn : n ≤ 5) : XM Γ zX12_set 2 0 0 [.ref a.1, .int 5, .int of, .int v] (MV μ a σ) (rt (.int (setF 13 (σ.1 15) 9 σ of v).1) (MV μ a (setF 13 (σ.1 15) 9 σ of v).2)) := by
  refine XM.of 2 rfl (by decide) (Nat.le_of_ble_eq_true rfl) ?_
  refine x_iload_n (pc := 0) dX12_set_0 rfl ?_
  refine x_if_ne (pc := 1) (tgt := 9) dX12_set_1 rfl (fun h_1 => ?_) (fun h_1 => absurd h_1 (by decide))
  refine x_iload_n (pc := 9) dX12_set_9 rfl ?_
  refine x_iconst (pc := 10) (v := 1) dX12_set_10 rfl ?_
  refine x_icmp_ne (pc := 11) (tgt := 18) dX12_set_11 rfl (fun h_11 => ?_) (fun h_11 => absurd h_11 (by decide))
  refine x_iload_n (pc := 18) dX12_set_18 rfl ?_
  refine x_iconst (pc := 19) (v := 2) dX12_set_19 rfl ?_
  refine x_icmp_ne (pc := 20) (tgt := 28) dX12_set_20 rfl (fun h_20 => ?_) (fun h_20 => absurd h_20 (by decide))
  refine x_aload_n (pc := 28) dX12_set_28 rfl ?_
  refine m_getI (pc := 29) hM dX12_set_29 fk_12_106 (Or.inl rfl) ?_
  refine x_istore (pc := 32) (lv2 := [_, _, _, _, _, _]) dX12_set_32 (by decide) rfl rfl ?_
  refine x_iload_n (pc := 34) dX12_set_34 rfl ?_
  refine x_i2l (pc := 35) dX12_set_35 ?_
  refine x_lconst (pc := 36) (v := 0) dX12_set_36 rfl ?_
  refine x_ldc2 (pc := 37) dX12_set_37 kc_12_113 ?_
  refine x_callS (pc := 40) (As := [.long _, .long _, .long _]) dX12_set_40 mX12_in lk_12_109 (c_inI 0 5) rfl rfl (by decide) ⟨by decide, by decide⟩ ⟨Nat.zero_le _, Nat.zero_le _⟩ (k_rt ?_)
  refine x_if_eq (pc := 43) (tgt := 103) dX12_set_43 rfl (fun h_43 => absurd h_43 (by decide)) (fun h_43 => ?_)
  refine x_iload_n (pc := 46) dX12_set_46 rfl ?_
  refine x_i2l (pc := 47) dX12_set_47 ?_
  refine x_lconst (pc := 48) (v := 0) dX12_set_48 rfl ?_
  refine x_iload (pc := 49) dX12_set_49 rfl ?_
  refine x_iconst (pc := 51) (v := 1) dX12_set_51 rfl ?_
  refine x_isub (pc := 52) dX12_set_52 ?_
  refine x_i2l (pc := 53) dX12_set_53 ?_
  refine x_callS (pc := 54) (As := [.long _, .long _, .long _]) dX12_set_54 mX12_in lk_12_109 (c_inI 0 ((σ.1 15) - 1)) rfl rfl (by decide) ⟨by decide, by decide⟩ ⟨Nat.zero_le _, Nat.zero_le _⟩ (k_rt ?_)
  refine x_if_eq (pc := 57) (tgt := 103) dX12_set_57 rfl (fun h_57 => ?_) (fun h_57 => ?_)
  · refine x_bipush (pc := 103) (v := -2) dX12_set_103 rfl ?_
    refine x_ireturn (pc := 105) dX12_set_105 rfl rfl ?_
    have hF : setF 13 (σ.1 15) 9 σ of v = (-2, σ) := if_neg (fun h => by first | exact absurd h_57 (by rw [bi_t h.1]; decide) | exact absurd h_100 (by rw [bi_t h.2]; decide))
    exact ⟨by rw [hF], by rw [hF]⟩
  · refine x_iload_n (pc := 60) dX12_set_60 rfl ?_
    refine x_i2l (pc := 61) dX12_set_61 ?_
    refine x_lconst (pc := 62) (v := 0) dX12_set_62 rfl ?_
    refine x_iload_n (pc := 63) dX12_set_63 rfl ?_
    refine x_if_eq (pc := 64) (tgt := 72) dX12_set_64 rfl (fun h_64 => absurd h_64 (by decide)) (fun h_64 => ?_)
    refine x_iload_n (pc := 67) dX12_set_67 rfl ?_
    refine x_iconst (pc := 68) (v := 2) dX12_set_68 rfl ?_
    refine x_icmp_ne (pc := 69) (tgt := 78) dX12_set_69 rfl (fun h_69 => ?_) (fun h_69 => absurd h_69 (by decide))
    refine x_iload_n (pc := 78) dX12_set_78 rfl ?_
    refine x_iconst (pc := 79) (v := 1) dX12_set_79 rfl ?_
    refine x_icmp_eq (pc := 80) (tgt := 88) dX12_set_80 rfl (fun h_80 => absurd h_80 (by decide)) (fun h_80 => ?_)
    refine x_iload_n (pc := 83) dX12_set_83 rfl ?_
    refine x_iconst (pc := 84) (v := 4) dX12_set_84 rfl ?_
    refine x_icmp_ne (pc := 85) (tgt := 94) dX12_set_85 rfl (fun h_85 => ?_) (fun h_85 => absurd h_85 (by decide))
    refine x_ldc2 (pc := 94) dX12_set_94 kc_12_119 ?_
    refine x_callS (pc := 97) (As := [.long _, .long _, .long _]) dX12_set_97 mX12_in lk_12_109 (c_inI 0 9) rfl rfl (by decide) ⟨by decide, by decide⟩ ⟨Nat.zero_le _, Nat.zero_le _⟩ (k_rt ?_)
    refine x_if_ne (pc := 100) (tgt := 106) dX12_set_100 rfl (fun h_100 => ?_) (fun h_100 => ?_)
    · obtain ⟨j, hj, rfl⟩ := ixC (c := (σ.1 15)) (n := n) h15 (bi_n0 h_57) (by omega)
      refine x_iload_n (pc := 106) dX12_set_106 rfl ?_
      refine x_if_ne (pc := 107) (tgt := 119) dX12_set_107 rfl (fun h_107 => ?_) (fun h_107 => absurd h_107 (by decide))
      refine x_iload_n (pc := 119) dX12_set_119 rfl ?_
      refine x_iconst (pc := 120) (v := 1) dX12_set_120 rfl ?_
      refine x_icmp_ne (pc := 121) (tgt := 133) dX12_set_121 rfl (fun h_121 => ?_) (fun h_121 => absurd h_121 (by decide))
      refine x_iload_n (pc := 133) dX12_set_133 rfl ?_
      refine x_iconst (pc := 134) (v := 2) dX12_set_134 rfl ?_
      refine x_icmp_ne (pc := 135) (tgt := 147) dX12_set_135 rfl (fun h_135 => ?_) (fun h_135 => absurd h_135 (by decide))
      refine x_iload_n (pc := 147) dX12_set_147 rfl ?_
      refine x_iconst (pc := 148) (v := 3) dX12_set_148 rfl ?_
      refine x_icmp_ne (pc := 149) (tgt := 161) dX12_set_149 rfl (fun h_149 => ?_) (fun h_149 => absurd h_149 (by decide))
      refine x_iload_n (pc := 161) dX12_set_161 rfl ?_
      refine x_iconst (pc := 162) (v := 4) dX12_set_162 rfl ?_
      refine x_icmp_ne (pc := 163) (tgt := 175) dX12_set_163 rfl (fun h_163 => ?_) (fun h_163 => absurd h_163 (by decide))
      refine x_aload_n (pc := 175) dX12_set_175 rfl ?_
      refine m_getR (pc := 176) hM dX12_set_176 fk_12_41 (Or.inr ⟨_, rfl⟩) (Or.inl (by decide)) ?_
      refine x_iload_n (pc := 179) dX12_set_179 rfl ?_
      refine m_iald (pc := 180) hM dX12_set_180 (rfl) (by show j < 5; omega) ?_
      refine x_istore (pc := 181) (lv2 := [_, _, _, _, _, _]) dX12_set_181 (by decide) rfl rfl ?_
      refine x_iload_n (pc := 183) dX12_set_183 rfl ?_
      refine x_if_ne (pc := 184) (tgt := 197) dX12_set_184 rfl (fun h_184 => ?_) (fun h_184 => absurd h_184 (by decide))
      refine x_iload_n (pc := 197) dX12_set_197 rfl ?_
      refine x_iconst (pc := 198) (v := 1) dX12_set_198 rfl ?_
      refine x_icmp_ne (pc := 199) (tgt := 212) dX12_set_199 rfl (fun h_199 => ?_) (fun h_199 => absurd h_199 (by decide))
      refine x_iload_n (pc := 212) dX12_set_212 rfl ?_
      refine x_iconst (pc := 213) (v := 2) dX12_set_213 rfl ?_
      refine x_icmp_ne (pc := 214) (tgt := 227) dX12_set_214 rfl (fun h_214 => ?_) (fun h_214 => absurd h_214 (by decide))
      refine x_iload_n (pc := 227) dX12_set_227 rfl ?_
      refine x_iconst (pc := 228) (v := 3) dX12_set_228 rfl ?_
      refine x_icmp_ne (pc := 229) (tgt := 242) dX12_set_229 rfl (fun h_229 => ?_) (fun h_229 => absurd h_229 (by decide))
      refine x_iload_n (pc := 242) dX12_set_242 rfl ?_
      refine x_iconst (pc := 243) (v := 4) dX12_set_243 rfl ?_
      refine x_icmp_ne (pc := 244) (tgt := 257) dX12_set_244 rfl (fun h_244 => ?_) (fun h_244 => absurd h_244 (by decide))
      refine x_aload_n (pc := 257) dX12_set_257 rfl ?_
      refine m_getR (pc := 258) hM dX12_set_258 fk_12_41 (Or.inr ⟨_, rfl⟩) (Or.inl (by decide)) ?_
      refine x_iload_n (pc := 261) dX12_set_261 rfl ?_
      refine x_iload_n (pc := 262) dX12_set_262 rfl ?_
      refine m_iast (pc := 263) hM dX12_set_263 (rfl) (by show j < 5; omega) ?_
      refine x_iload (pc := 264) dX12_set_264 rfl ?_
      refine x_ireturn (pc := 266) dX12_set_266 rfl rfl ?_
      have hF : setF 13 (σ.1 15) 9 σ (nI j) v = (σ.2.2 13 j, tA σ 13 j v) := by
        rw [setF, if_pos ⟨bi_n0 h_57, bi_n0 h_100⟩, nn_nI (by omega)]
      exact ⟨by rw [hF], by rw [hF]⟩
    · refine x_bipush (pc := 103) (v := -2) dX12_set_103 rfl ?_
      refine x_ireturn (pc := 105) dX12_set_105 rfl rfl ?_
      have hF : setF 13 (σ.1 15) 9 σ of v = (-2, σ) := if_neg (fun h => by first | exact absurd h_57 (by rw [bi_t h.1]; decide) | exact absurd h_100 (by rw [bi_t h.2]; decide))
      exact ⟨by rw [hF], by rw [hF]⟩
theorem c_setX (hM : MOK μ a) (what of v : Int32) (h0 : ¬ what = 0) (h1 : ¬ what = 1) (h2 : ¬ what = 2) (hX : 0 ≤ what → ¬ what ≤ 5) : XM Γ zX12_set 2 0 0 [.ref a.1, .int what, .int of, .int v] (MV μ a σ) (rt (.int (-2)) (MV μ a σ)) := by
  refine XM.of 2 rfl (by decide) (Nat.le_of_ble_eq_true rfl) ?_
  refine x_iload_n (pc := 0) dX12_set_0 rfl ?_
  refine x_if_ne (pc := 1) (tgt := 9) dX12_set_1 rfl (fun h_1 => ?_) (fun h_1 => absurd h_1 (h0))
  refine x_iload_n (pc := 9) dX12_set_9 rfl ?_
  refine x_iconst (pc := 10) (v := 1) dX12_set_10 rfl ?_
  refine x_icmp_ne (pc := 11) (tgt := 18) dX12_set_11 rfl (fun h_11 => ?_) (fun h_11 => absurd h_11 (h1))
  refine x_iload_n (pc := 18) dX12_set_18 rfl ?_
  refine x_iconst (pc := 19) (v := 2) dX12_set_19 rfl ?_
  refine x_icmp_ne (pc := 20) (tgt := 28) dX12_set_20 rfl (fun h_20 => ?_) (fun h_20 => absurd h_20 (h2))
  refine x_aload_n (pc := 28) dX12_set_28 rfl ?_
  refine m_getI (pc := 29) hM dX12_set_29 fk_12_106 (Or.inl rfl) ?_
  refine x_istore (pc := 32) (lv2 := [_, _, _, _, _, _]) dX12_set_32 (by decide) rfl rfl ?_
  refine x_iload_n (pc := 34) dX12_set_34 rfl ?_
  refine x_i2l (pc := 35) dX12_set_35 ?_
  refine x_lconst (pc := 36) (v := 0) dX12_set_36 rfl ?_
  refine x_ldc2 (pc := 37) dX12_set_37 kc_12_113 ?_
  refine x_callS (pc := 40) (As := [.long _, .long _, .long _]) dX12_set_40 mX12_in lk_12_109 (c_inI 0 5) rfl rfl (by decide) ⟨by decide, by decide⟩ ⟨Nat.zero_le _, Nat.zero_le _⟩ (k_rt ?_)
  refine x_if_eq (pc := 43) (tgt := 103) dX12_set_43 rfl (fun h_43 => ?_) (fun h_43 => absurd (bi_f (fun h => hX h.1 h.2)) h_43)
  refine x_bipush (pc := 103) (v := -2) dX12_set_103 rfl ?_
  refine x_ireturn (pc := 105) dX12_set_105 rfl rfl ?_
  exact ⟨rfl, rfl⟩
theorem i5 {x : Int32} (h : 0 ≤ x) (h2 : x ≤ 5) : x = 0 ∨ x = 1 ∨ x = 2 ∨ x = 3 ∨ x = 4 ∨ x = 5 := by
  obtain ⟨j, hj, rfl⟩ := nI_of2 (M := 5) (n := 5) rfl (Int32.not_lt.mpr h) h2
  rcases (show j = 0 ∨ j = 1 ∨ j = 2 ∨ j = 3 ∨ j = 4 ∨ j = 5 by omega) with rfl | rfl | rfl | rfl | rfl | rfl <;> decide
theorem c_set (hM : MOK μ a) (what of v : Int32) {n : Nat} (h15 : σ.1 15 = nI n) (hn : n ≤ 5) : XM Γ zX12_set 2 0 0 [.ref a.1, .int what, .int of, .int v] (MV μ a σ) (rt (.int (setR σ what of v).1) (MV μ a (setR σ what of v).2)) := by
  by_cases hw : 0 ≤ what ∧ what ≤ 5
  · rcases i5 hw.1 hw.2 with rfl | rfl | rfl | rfl | rfl | rfl
    · exact c_set0 hM of v
    · exact c_set1 hM of v
    · exact c_set2 hM of v
    · exact c_set3 hM of v h15 hn
    · exact c_set4 hM of v h15 hn
    · exact c_set5 hM of v h15 hn
  · have hX : ∀ x : Int32, (0 ≤ x ∧ x ≤ 5) → ¬ what = x := fun x hx e => hw (e ▸ hx)
    have e : setR σ what of v = (-2, σ) := by
      rw [setR, if_neg (hX 0 (by decide)), if_neg (hX 1 (by decide)), if_neg (hX 2 (by decide)), if_neg (hX 3 (by decide)), if_neg (hX 4 (by decide)), if_neg (hX 5 (by decide))]
    rw [e]
    exact c_setX hM what of v (hX 0 (by decide)) (hX 1 (by decide)) (hX 2 (by decide)) (fun h h2 => hw ⟨h, h2⟩)
def thR (σ : MS) (k x g : Int32) : Int32 × MS := if (0 ≤ k ∧ k ≤ 5) ∧ (0 ≤ x ∧ x ≤ 99) ∧ (0 ≤ g ∧ g ≤ 3) then (if σ.1 15 = 5 then (-4, σ) else (σ.1 15, tI (tA (tA (tA (tA (tA σ 10 (nn (σ.1 15)) k) 11 (nn (σ.1 15)) (x / 10)) 13 (nn (σ.1 15)) (x - x / 10 * 10)) 12 (nn (σ.1 15)) g) 14 (nn (σ.1 15)) (-1)) 15 (σ.1 15 + 1))) else (-2, σ)
theorem c_thing (hM : MOK μ a) (k x g : Int32) {n : Nat} (h15 : σ.1 15 = nI n) (hn : n ≤ 5) : XM Γ zX12_thing 2 0 0 [.ref a.1, .int k, .int x, .int g] (MV μ a σ) (rt (.int (thR σ k x g).1) (MV μ a (thR σ k x g).2)) := by
  refine XM.of 0 rfl (by decide) (Nat.le_of_ble_eq_true rfl) ?_
  refine x_iload_n (pc := 0) dX12_thing_0 rfl ?_
  refine x_i2l (pc := 1) dX12_thing_1 ?_
  refine x_lconst (pc := 2) (v := 0) dX12_thing_2 rfl ?_
  refine x_ldc2 (pc := 3) dX12_thing_3 kc_12_113 ?_
  refine x_callS (pc := 6) (As := [.long _, .long _, .long _]) dX12_thing_6 mX12_in lk_12_109 (c_inI 0 5) rfl rfl (by decide) ⟨by decide, by decide⟩ ⟨Nat.zero_le _, Nat.zero_le _⟩ (k_rt ?_)
  refine x_if_eq (pc := 9) (tgt := 36) dX12_thing_9 rfl (fun h_9 => ?_) (fun h_9 => ?_)
  · refine x_bipush (pc := 36) (v := -2) dX12_thing_36 rfl ?_
    refine x_ireturn (pc := 38) dX12_thing_38 rfl rfl ?_
    have hF : thR σ k x g = (-2, σ) := if_neg (fun h => by first | exact absurd h_9 (by rw [bi_t h.1]; decide) | exact absurd h_21 (by rw [bi_t h.2.1]; decide) | exact absurd h_33 (by rw [bi_t h.2.2]; decide))
    exact ⟨by rw [hF], by rw [hF]⟩
  · refine x_iload_n (pc := 12) dX12_thing_12 rfl ?_
    refine x_i2l (pc := 13) dX12_thing_13 ?_
    refine x_lconst (pc := 14) (v := 0) dX12_thing_14 rfl ?_
    refine x_ldc2 (pc := 15) dX12_thing_15 kc_12_121 ?_
    refine x_callS (pc := 18) (As := [.long _, .long _, .long _]) dX12_thing_18 mX12_in lk_12_109 (c_inI 0 99) rfl rfl (by decide) ⟨by decide, by decide⟩ ⟨Nat.zero_le _, Nat.zero_le _⟩ (k_rt ?_)
    refine x_if_eq (pc := 21) (tgt := 36) dX12_thing_21 rfl (fun h_21 => ?_) (fun h_21 => ?_)
    · refine x_bipush (pc := 36) (v := -2) dX12_thing_36 rfl ?_
      refine x_ireturn (pc := 38) dX12_thing_38 rfl rfl ?_
      have hF : thR σ k x g = (-2, σ) := if_neg (fun h => by first | exact absurd h_9 (by rw [bi_t h.1]; decide) | exact absurd h_21 (by rw [bi_t h.2.1]; decide) | exact absurd h_33 (by rw [bi_t h.2.2]; decide))
      exact ⟨by rw [hF], by rw [hF]⟩
    · refine x_iload_n (pc := 24) dX12_thing_24 rfl ?_
      refine x_i2l (pc := 25) dX12_thing_25 ?_
      refine x_lconst (pc := 26) (v := 0) dX12_thing_26 rfl ?_
      refine x_ldc2 (pc := 27) dX12_thing_27 kc_12_117 ?_
      refine x_callS (pc := 30) (As := [.long _, .long _, .long _]) dX12_thing_30 mX12_in lk_12_109 (c_inI 0 3) rfl rfl (by decide) ⟨by decide, by decide⟩ ⟨Nat.zero_le _, Nat.zero_le _⟩ (k_rt ?_)
      refine x_if_ne (pc := 33) (tgt := 39) dX12_thing_33 rfl (fun h_33 => ?_) (fun h_33 => ?_)
      · refine x_aload_n (pc := 39) dX12_thing_39 rfl ?_
        refine m_getI (pc := 40) hM dX12_thing_40 fk_12_106 (Or.inl rfl) ?_
        refine x_iconst (pc := 43) (v := 5) dX12_thing_43 rfl ?_
        refine x_icmp_ne (pc := 44) (tgt := 50) dX12_thing_44 rfl (fun h_44 => ?_) (fun h_44 => ?_)
        · have hn5 : n < 5 := by
            rcases Nat.lt_or_ge n 5 with q | q
            · exact q
            · exact absurd (by rw [h15, show n = 5 by omega]; rfl) h_44
          refine x_aload_n (pc := 50) dX12_thing_50 rfl ?_
          refine m_getR (pc := 51) hM dX12_thing_51 fk_12_32 (Or.inr ⟨_, rfl⟩) (Or.inl (by decide)) ?_
          refine x_aload_n (pc := 54) dX12_thing_54 rfl ?_
          refine m_getI (pc := 55) hM dX12_thing_55 fk_12_106 (Or.inl rfl) ?_
          refine x_iload_n (pc := 58) dX12_thing_58 rfl ?_
          refine m_iast (pc := 59) hM dX12_thing_59 (h15) (hn5) ?_
          refine x_aload_n (pc := 60) dX12_thing_60 rfl ?_
          refine m_getR (pc := 61) hM dX12_thing_61 fk_12_35 (Or.inr ⟨_, rfl⟩) (Or.inl (by decide)) ?_
          refine x_aload_n (pc := 64) dX12_thing_64 rfl ?_
          refine m_getI (pc := 65) hM dX12_thing_65 fk_12_106 (Or.inl rfl) ?_
          refine x_iload_n (pc := 68) dX12_thing_68 rfl ?_
          refine x_bipush (pc := 69) (v := 10) dX12_thing_69 rfl ?_
          refine x_idiv (pc := 71) dX12_thing_71 (by decide) ?_
          refine m_iast (pc := 72) hM dX12_thing_72 (h15) (hn5) ?_
          refine x_aload_n (pc := 73) dX12_thing_73 rfl ?_
          refine m_getR (pc := 74) hM dX12_thing_74 fk_12_41 (Or.inr ⟨_, rfl⟩) (Or.inl (by decide)) ?_
          refine x_aload_n (pc := 77) dX12_thing_77 rfl ?_
          refine m_getI (pc := 78) hM dX12_thing_78 fk_12_106 (Or.inl rfl) ?_
          refine x_iload_n (pc := 81) dX12_thing_81 rfl ?_
          refine x_bipush (pc := 82) (v := 10) dX12_thing_82 rfl ?_
          refine x_irem (pc := 84) dX12_thing_84 (by decide) ?_
          refine m_iast (pc := 85) hM dX12_thing_85 (h15) (hn5) ?_
          refine x_aload_n (pc := 86) dX12_thing_86 rfl ?_
          refine m_getR (pc := 87) hM dX12_thing_87 fk_12_38 (Or.inr ⟨_, rfl⟩) (Or.inl (by decide)) ?_
          refine x_aload_n (pc := 90) dX12_thing_90 rfl ?_
          refine m_getI (pc := 91) hM dX12_thing_91 fk_12_106 (Or.inl rfl) ?_
          refine x_iload_n (pc := 94) dX12_thing_94 rfl ?_
          refine m_iast (pc := 95) hM dX12_thing_95 (h15) (hn5) ?_
          refine x_aload_n (pc := 96) dX12_thing_96 rfl ?_
          refine m_getR (pc := 97) hM dX12_thing_97 fk_12_44 (Or.inr ⟨_, rfl⟩) (Or.inl (by decide)) ?_
          refine x_aload_n (pc := 100) dX12_thing_100 rfl ?_
          refine m_getI (pc := 101) hM dX12_thing_101 fk_12_106 (Or.inl rfl) ?_
          refine x_iconst (pc := 104) (v := -1) dX12_thing_104 rfl ?_
          refine m_iast (pc := 105) hM dX12_thing_105 (h15) (hn5) ?_
          refine x_aload_n (pc := 106) dX12_thing_106 rfl ?_
          refine x_dup (pc := 107) dX12_thing_107 rfl ?_
          refine m_getI (pc := 108) hM dX12_thing_108 fk_12_106 (Or.inl rfl) ?_
          refine x_iconst (pc := 111) (v := 1) dX12_thing_111 rfl ?_
          refine x_iadd (pc := 112) dX12_thing_112 ?_
          refine m_putI (pc := 113) hM dX12_thing_113 fk_12_106 rfl (Or.inl rfl) ?_
          refine x_aload_n (pc := 116) dX12_thing_116 rfl ?_
          refine m_getI (pc := 117) hM dX12_thing_117 fk_12_106 (Or.inl rfl) ?_
          refine x_iconst (pc := 120) (v := 1) dX12_thing_120 rfl ?_
          refine x_isub (pc := 121) dX12_thing_121 ?_
          refine x_ireturn (pc := 122) dX12_thing_122 rfl rfl ?_
          have e1 : nn (σ.1 15) = n := by rw [h15]; exact nn_nI (by omega)
          rw [thR, if_pos ⟨bi_n0 h_9, bi_n0 h_21, bi_n0 h_33⟩, if_neg h_44, e1]
          refine ⟨?_, rfl⟩
          congr 2
          show va_up σ.1 15 (σ.1 15 + 1) 15 - 1 = σ.1 15
          rw [va_up_s, h15, ← nI_succ, nI_pred]
        · refine x_bipush (pc := 47) (v := -4) dX12_thing_47 rfl ?_
          refine x_ireturn (pc := 49) dX12_thing_49 rfl rfl ?_
          have hF : thR σ k x g = (-4, σ) := by rw [thR, if_pos ⟨bi_n0 h_9, bi_n0 h_21, bi_n0 h_33⟩, if_pos h_44]
          exact ⟨by rw [hF], by rw [hF]⟩
      · refine x_bipush (pc := 36) (v := -2) dX12_thing_36 rfl ?_
        refine x_ireturn (pc := 38) dX12_thing_38 rfl rfl ?_
        have hF : thR σ k x g = (-2, σ) := if_neg (fun h => by first | exact absurd h_9 (by rw [bi_t h.1]; decide) | exact absurd h_21 (by rw [bi_t h.2.1]; decide) | exact absurd h_33 (by rw [bi_t h.2.2]; decide))
        exact ⟨by rw [hF], by rw [hF]⟩
def fdR (σ : MS) (l : Int32) : Int32 × MS := if 0 ≤ l ∧ l ≤ 255 then (if σ.1 6 = 160 then (-4, σ) else (σ.1 6 + 1, tI (tA σ 5 (nn (σ.1 6)) l) 6 (σ.1 6 + 1))) else (-2, σ)
theorem c_feed (hM : MOK μ a) (l : Int32) {n : Nat} (h6 : σ.1 6 = nI n) (hn : n ≤ 160) : XM Γ zX12_feed 2 0 0 [.ref a.1, .int l] (MV μ a σ) (rt (.int (fdR σ l).1) (MV μ a (fdR σ l).2)) := by
  refine XM.of 0 rfl (by decide) (Nat.le_of_ble_eq_true rfl) ?_
  refine x_iload_n (pc := 0) dX12_feed_0 rfl ?_
  refine x_i2l (pc := 1) dX12_feed_1 ?_
  refine x_lconst (pc := 2) (v := 0) dX12_feed_2 rfl ?_
  refine x_ldc2 (pc := 3) dX12_feed_3 kc_12_143 ?_
  refine x_callS (pc := 6) (As := [.long _, .long _, .long _]) dX12_feed_6 mX12_in lk_12_109 (c_inI 0 255) rfl rfl (by decide) ⟨by decide, by decide⟩ ⟨Nat.zero_le _, Nat.zero_le _⟩ (k_rt ?_)
  refine x_if_ne (pc := 9) (tgt := 15) dX12_feed_9 rfl (fun h_9 => ?_) (fun h_9 => ?_)
  · refine x_aload_n (pc := 15) dX12_feed_15 rfl ?_
    refine m_getI (pc := 16) hM dX12_feed_16 fk_12_145 (Or.inl rfl) ?_
    refine x_sipush (pc := 19) (v := 160) dX12_feed_19 rfl ?_
    refine x_icmp_ne (pc := 22) (tgt := 28) dX12_feed_22 rfl (fun h_22 => ?_) (fun h_22 => ?_)
    · have hn5 : n < 160 := by
        rcases Nat.lt_or_ge n 160 with q | q
        · exact q
        · exact absurd (by rw [h6, show n = 160 by omega]; rfl) h_22
      refine x_aload_n (pc := 28) dX12_feed_28 rfl ?_
      refine m_getR (pc := 29) hM dX12_feed_29 fk_12_20 (Or.inr ⟨_, rfl⟩) (Or.inl (by decide)) ?_
      refine x_aload_n (pc := 32) dX12_feed_32 rfl ?_
      refine m_getI (pc := 33) hM dX12_feed_33 fk_12_145 (Or.inl rfl) ?_
      refine x_iload_n (pc := 36) dX12_feed_36 rfl ?_
      refine m_iast (pc := 37) hM dX12_feed_37 (h6) (hn5) ?_
      refine x_aload_n (pc := 38) dX12_feed_38 rfl ?_
      refine x_dup (pc := 39) dX12_feed_39 rfl ?_
      refine m_getI (pc := 40) hM dX12_feed_40 fk_12_145 (Or.inl rfl) ?_
      refine x_iconst (pc := 43) (v := 1) dX12_feed_43 rfl ?_
      refine x_iadd (pc := 44) dX12_feed_44 ?_
      refine m_putI (pc := 45) hM dX12_feed_45 fk_12_145 rfl (Or.inl rfl) ?_
      refine x_aload_n (pc := 48) dX12_feed_48 rfl ?_
      refine m_getI (pc := 49) hM dX12_feed_49 fk_12_145 (Or.inl rfl) ?_
      refine x_ireturn (pc := 52) dX12_feed_52 rfl rfl ?_
      have e1 : nn (σ.1 6) = n := by rw [h6]; exact nn_nI (by omega)
      rw [fdR, if_pos (bi_n0 h_9), if_neg h_22, e1]
      refine ⟨?_, rfl⟩
      congr 2
    · refine x_bipush (pc := 25) (v := -4) dX12_feed_25 rfl ?_
      refine x_ireturn (pc := 27) dX12_feed_27 rfl rfl ?_
      have hF : fdR σ l = (-4, σ) := by rw [fdR, if_pos (bi_n0 h_9), if_pos h_22]
      exact ⟨by rw [hF], by rw [hF]⟩
  · refine x_bipush (pc := 12) (v := -2) dX12_feed_12 rfl ?_
    refine x_ireturn (pc := 14) dX12_feed_14 rfl rfl ?_
    have hF : fdR σ l = (-2, σ) := if_neg (fun h => absurd h_9 (by rw [bi_t h]; decide))
    exact ⟨by rw [hF], by rw [hF]⟩
def frR (σ : MS) (t : Int32) : Int32 × MS := if 0 ≤ t ∧ t ≤ σ.1 3 - 1 then (σ.1 4, tI σ 4 t) else (-2, σ)
theorem c_force (hM : MOK μ a) (t : Int32) : XM Γ zX12_force 2 0 0 [.ref a.1, .int t] (MV μ a σ) (rt (.int (frR σ t).1) (MV μ a (frR σ t).2)) := by
  refine XM.of 1 rfl (by decide) (Nat.le_of_ble_eq_true rfl) ?_
  refine x_iload_n (pc := 0) dX12_force_0 rfl ?_
  refine x_i2l (pc := 1) dX12_force_1 ?_
  refine x_lconst (pc := 2) (v := 0) dX12_force_2 rfl ?_
  refine x_aload_n (pc := 3) dX12_force_3 rfl ?_
  refine m_getI (pc := 4) hM dX12_force_4 fk_12_103 (Or.inl rfl) ?_
  refine x_iconst (pc := 7) (v := 1) dX12_force_7 rfl ?_
  refine x_isub (pc := 8) dX12_force_8 ?_
  refine x_i2l (pc := 9) dX12_force_9 ?_
  refine x_callS (pc := 10) (As := [.long _, .long _, .long _]) dX12_force_10 mX12_in lk_12_109 (c_inI 0 (σ.1 3 - 1)) rfl rfl (by decide) ⟨by decide, by decide⟩ ⟨Nat.zero_le _, Nat.zero_le _⟩ (k_rt ?_)
  refine x_if_ne (pc := 13) (tgt := 19) dX12_force_13 rfl (fun h_13 => ?_) (fun h_13 => ?_)
  · refine x_aload_n (pc := 19) dX12_force_19 rfl ?_
    refine m_getI (pc := 20) hM dX12_force_20 fk_12_263 (Or.inl rfl) ?_
    refine x_istore_n (pc := 23) (lv2 := [_, _, _]) dX12_force_23 (by decide) rfl rfl ?_
    refine x_aload_n (pc := 24) dX12_force_24 rfl ?_
    refine x_iload_n (pc := 25) dX12_force_25 rfl ?_
    refine m_putI (pc := 26) hM dX12_force_26 fk_12_263 rfl (Or.inl rfl) ?_
    refine x_iload_n (pc := 29) dX12_force_29 rfl ?_
    refine x_ireturn (pc := 30) dX12_force_30 rfl rfl ?_
    rw [frR, if_pos (bi_n0 h_13)]
    exact ⟨rfl, rfl⟩
  · refine x_bipush (pc := 16) (v := -2) dX12_force_16 rfl ?_
    refine x_ireturn (pc := 18) dX12_force_18 rfl rfl ?_
    have hF : frR σ t = (-2, σ) := if_neg (fun h => absurd h_13 (by rw [bi_t h]; decide))
    exact ⟨by rw [hF], by rw [hF]⟩
end M31
