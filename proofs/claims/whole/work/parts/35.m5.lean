/-! the reference: things, taken, told -/
section M35
variable {Γ : Gm} {μ : Mem} {a : Ma} {σ : MS}
def tgo (b : Nat) (fr sz : Int32) : Nat → Nat → Int32 → MS → Int32 × MS
  | 0, _, came, σ => (came, σ)
  | m + 1, k, came, σ => if fr < 0 ∨ ¬ fr ≤ sz - 3 * nI k - 3 then (-12, σ) else tgo b fr sz m (k + 1) (came + (if (thR σ (σ.2.2 55 (b + nn fr + 3 * k)) (σ.2.2 55 (b + nn fr + 3 * k + 1)) (σ.2.2 55 (b + nn fr + 3 * k + 2))).1 < 0 then 0 else 1)) (thR σ (σ.2.2 55 (b + nn fr + 3 * k)) (σ.2.2 55 (b + nn fr + 3 * k + 1)) (σ.2.2 55 (b + nn fr + 3 * k + 2))).2
def tsR (σ : MS) (s k fr n : Int32) : Int32 × MS := if ¬ (0 ≤ s ∧ s ≤ 3) ∨ ¬ (0 ≤ k ∧ k ≤ 2) ∨ ¬ (0 ≤ n ∧ n ≤ 5) then (-2, σ) else if σ.2.2 52 (nn s) = 0 then (-11, σ) else if ¬ σ.2.2 53 (nn s) = k then (-13, σ) else tgo (40 * nn s) fr (σ.2.2 54 (nn s)) (nn n) 0 0 σ
theorem tA_n {σ : MS} {k i k' : Nat} {v : Int32} (h : k' ≠ k) : (tA σ k i v).2.2 k' = σ.2.2 k' := funext fun _ => up2_n (Or.inl h)
theorem thR_kept (σ : MS) (k x g : Int32) {n : Nat} (h15 : σ.1 15 = nI n) (hn : n ≤ 5) : (∃ n', n' ≤ 5 ∧ (thR σ k x g).2.1 15 = nI n') ∧ (thR σ k x g).2.2.2 55 = σ.2.2 55 ∧ (thR σ k x g).2.2.2 54 = σ.2.2 54 := by
  unfold thR
  split
  · split
    · exact ⟨⟨n, hn, h15⟩, rfl, rfl⟩
    · rename_i h5
      have hn5 : n < 5 := by
        rcases Nat.lt_or_ge n 5 with q | q
        · exact q
        · exact absurd (by rw [h15, show n = 5 by omega]; rfl) h5
      refine ⟨⟨n + 1, by omega, ?_⟩, ?_, ?_⟩
      · show va_up σ.1 15 (σ.1 15 + 1) 15 = _
        rw [va_up_s, h15, nI_1]
      · exact (tA_n (by decide)).trans ((tA_n (by decide)).trans ((tA_n (by decide)).trans ((tA_n (by decide)).trans (tA_n (by decide)))))
      · exact (tA_n (by decide)).trans ((tA_n (by decide)).trans ((tA_n (by decide)).trans ((tA_n (by decide)).trans (tA_n (by decide)))))
  · exact ⟨⟨n, hn, h15⟩, rfl, rfl⟩
theorem sb3 {x k i : Nat} (hx : x ≤ 40) (hk : k ≤ 5) (hi : i < 2 ^ 31) (h : nI i ≤ nI x - 3 * nI k - 3) : i + 3 * k + 3 ≤ x := by
  have e1 : (3 : Int32) * nI k = nI (3 * k) := by rw [show (3 : Int32) = nI 3 from rfl, pk_mul]
  rw [e1, Int32.le_iff_toInt_le, nI_toInt hi] at h
  have e2 : (nI x - nI (3 * k) - 3 : Int32).toInt = (x : Int) - 3 * k - 3 := by
    rw [Int32.toInt_sub, Int32.toInt_sub, nI_toInt (by omega), nI_toInt (by omega), show (3 : Int32).toInt = 3 from rfl, Int.bmod_eq_of_le (n := (x : Int) - ((3 * k : Nat) : Int)) (by omega) (by omega), Int.bmod_eq_of_le (by omega) (by omega)]
    omega
  rw [e2] at h
  omega
theorem c_things (hM : MOK μ a) (hS : shO σ) (s k fr n : Int32) {nt : Nat} (h15 : σ.1 15 = nI nt) (hnt : nt ≤ 5) : XM Γ zX12_things 3 0 0 [.ref a.1, .int s, .int k, .int fr, .int n] (MV μ a σ) (rt (.int (tsR σ s k fr n).1) (MV μ a (tsR σ s k fr n).2)) := by
  refine XM.of 3 rfl (by decide) (Nat.le_of_ble_eq_true rfl) ?_
  have L : ∀ (m j x n0 nx : Nat) (came : Int32) (σ' : MS) (z : Option Value) (RES : Int32 × MS), x < 4 → nx ≤ 40 → σ.2.2 54 x = nI nx → n0 ≤ 5 → j + m = n0 → (∃ n', n' ≤ 5 ∧ σ'.1 15 = nI n') → σ'.2.2 55 = σ.2.2 55 → σ'.2.2 54 = σ.2.2 54 → tgo (40 * x) fr (nI nx) m j came σ' = RES → WA Γ zX12_things (xrm 3 0 0) 0 0 0 0 (rt (.int RES.1) (MV μ a RES.2)) 75 [some (.ref a.1), some (.int (nI x)), some (.int k), some (.int fr), some (.int (nI n0)), some (.int came), some (.int (nI j)), z] [] (MV μ a σ') := by
    intro m
    induction m with
    | zero =>
      intro j x n0 nx came σ' z RES hx hnx hs hn0 hj hI h5 h4 hR
      subst hR
      obtain rfl : j = n0 := by omega
      refine x_iload (pc := 75) dX12_things_75 rfl ?_
      refine x_iload (pc := 77) dX12_things_77 rfl ?_
      refine x_icmp_ge (pc := 79) (tgt := 167) dX12_things_79 rfl (fun h_79 => ?_) (fun h_79 => absurd (Int32.le_refl _) h_79)
      refine x_iload (pc := 167) dX12_things_167 rfl ?_
      refine x_ireturn (pc := 169) dX12_things_169 rfl rfl ?_
      exact ⟨rfl, rfl⟩
    | succ m ih =>
      intro j x n0 nx came σ' z RES hx hnx hs hn0 hj hI h5 h4 hR
      have e54 : σ'.2.2 54 x = nI nx := by rw [h4]; exact hs
      obtain ⟨n', hn', hI⟩ := hI
      refine x_iload (pc := 75) dX12_things_75 rfl ?_
      refine x_iload (pc := 77) dX12_things_77 rfl ?_
      refine x_icmp_ge (pc := 79) (tgt := 167) dX12_things_79 rfl (fun h_79 => absurd h_79 (lit_le (n := n0) j (by omega) (by omega))) (fun h_79 => ?_)
      refine x_iload_n (pc := 82) dX12_things_82 rfl ?_
      refine x_if_lt (pc := 83) (tgt := 103) dX12_things_83 rfl (fun h_83 => ?_) (fun h_83 => ?_)
      · refine x_bipush (pc := 103) (v := -12) dX12_things_103 rfl ?_
        refine x_ireturn (pc := 105) dX12_things_105 rfl rfl ?_
        rw [tgo, if_pos (by first | exact Or.inl h_83 | exact Or.inr (by rw [← e54]; exact h_100))] at hR
        subst hR
        exact ⟨rfl, rfl⟩
      · refine x_iload_n (pc := 86) dX12_things_86 rfl ?_
        refine x_aload_n (pc := 87) dX12_things_87 rfl ?_
        refine m_getR (pc := 88) hM dX12_things_88 fk_12_93 (Or.inr ⟨_, rfl⟩) (Or.inl (by decide)) ?_
        refine x_iload_n (pc := 91) dX12_things_91 rfl ?_
        refine m_iald (pc := 92) hM dX12_things_92 (rfl) (hx) ?_
        refine x_iconst (pc := 93) (v := 3) dX12_things_93 rfl ?_
        refine x_iload (pc := 94) dX12_things_94 rfl ?_
        refine x_imul (pc := 96) dX12_things_96 ?_
        refine x_isub (pc := 97) dX12_things_97 ?_
        refine x_iconst (pc := 98) (v := 3) dX12_things_98 rfl ?_
        refine x_isub (pc := 99) dX12_things_99 ?_
        refine x_icmp_le (pc := 100) (tgt := 106) dX12_things_100 rfl (fun h_100 => ?_) (fun h_100 => ?_)
        · obtain ⟨i0, hi0, rfl⟩ := nI_of h_83
          have hz := h_100
          rw [e54] at hz
          have hb3 := sb3 hnx (by omega) hi0 hz
          have eq : (40 : Int32) * nI x + nI i0 + 3 * nI j = nI (40 * x + i0 + 3 * j) := by
            rw [i40, show (3 : Int32) = nI 3 from rfl, pk_mul, nI_add]
          rw [tgo, if_neg (by rintro (y | y); exact h_83 y; exact y hz), nn_nI hi0] at hR
          refine x_bipush (pc := 106) (v := 40) dX12_things_106 rfl ?_
          refine x_iload_n (pc := 108) dX12_things_108 rfl ?_
          refine x_imul (pc := 109) dX12_things_109 ?_
          refine x_iload_n (pc := 110) dX12_things_110 rfl ?_
          refine x_iadd (pc := 111) dX12_things_111 ?_
          refine x_iconst (pc := 112) (v := 3) dX12_things_112 rfl ?_
          refine x_iload (pc := 113) dX12_things_113 rfl ?_
          refine x_imul (pc := 115) dX12_things_115 ?_
          refine x_iadd (pc := 116) dX12_things_116 ?_
          refine x_istore (pc := 117) (lv2 := [_, _, _, _, _, _, _, _]) dX12_things_117 (by decide) rfl rfl ?_
          rw [eq]
          refine x_iload (pc := 119) dX12_things_119 rfl ?_
          refine x_aload_n (pc := 121) dX12_things_121 rfl ?_
          refine x_aload_n (pc := 122) dX12_things_122 rfl ?_
          refine m_getR (pc := 123) hM dX12_things_123 fk_12_96 (Or.inr ⟨_, rfl⟩) (Or.inl (by decide)) ?_
          refine x_iload (pc := 126) dX12_things_126 rfl ?_
          refine m_iald (pc := 128) hM dX12_things_128 (rfl) (by show (40 * x + i0 + 3 * j) < 160; omega) ?_
          refine x_aload_n (pc := 129) dX12_things_129 rfl ?_
          refine m_getR (pc := 130) hM dX12_things_130 fk_12_96 (Or.inr ⟨_, rfl⟩) (Or.inl (by decide)) ?_
          refine x_iload (pc := 133) dX12_things_133 rfl ?_
          refine x_iconst (pc := 135) (v := 1) dX12_things_135 rfl ?_
          refine x_iadd (pc := 136) dX12_things_136 ?_
          refine m_iald (pc := 137) hM dX12_things_137 (nI_1 _) (by show (40 * x + i0 + 3 * j) + 1 < 160; omega) ?_
          refine x_aload_n (pc := 138) dX12_things_138 rfl ?_
          refine m_getR (pc := 139) hM dX12_things_139 fk_12_96 (Or.inr ⟨_, rfl⟩) (Or.inl (by decide)) ?_
          refine x_iload (pc := 142) dX12_things_142 rfl ?_
          refine x_iconst (pc := 144) (v := 2) dX12_things_144 rfl ?_
          refine x_iadd (pc := 145) dX12_things_145 ?_
          refine m_iald (pc := 146) hM dX12_things_146 (by rw [show (2 : Int32) = nI 2 from rfl, nI_add]) (by show (40 * x + i0 + 3 * j) + 2 < 160; omega) ?_
          refine x_callV (pc := 147) (As := [.int _, .int _, .int _]) dX12_things_147 mX12_thing lk_12_377 hM.1 (c_thing hM _ _ _ hI hn') rfl rfl (Nat.le_of_ble_eq_true rfl) ⟨by decide, by decide⟩ ⟨Nat.zero_le _, Nat.zero_le _⟩ (k_rt ?_)
          refine x_if_lt (pc := 150) (tgt := 157) dX12_things_150 rfl (fun h_150 => ?_) (fun h_150 => ?_)
          · refine x_iconst (pc := 157) (v := 0) dX12_things_157 rfl ?_
            refine x_iadd (pc := 158) dX12_things_158 ?_
            refine x_istore (pc := 159) (lv2 := [_, _, _, _, _, _, _, _]) dX12_things_159 (by decide) rfl rfl ?_
            refine x_iinc (pc := 161) (lv2 := [_, _, _, _, _, _, _, _]) dX12_things_161 (by decide) rfl rfl (nI_1 _) rfl ?_
            refine x_goto (pc := 164) (tgt := 75) dX12_things_164 rfl ?_
            first | rw [if_pos h_150] at hR | rw [if_neg h_150] at hR
            obtain ⟨k1, k2, k3⟩ := thR_kept σ' (σ'.2.2 55 (40 * x + i0 + 3 * j)) (σ'.2.2 55 (40 * x + i0 + 3 * j + 1)) (σ'.2.2 55 (40 * x + i0 + 3 * j + 2)) hI hn'
            exact ih (j + 1) x n0 nx _ _ _ RES hx hnx hs hn0 (by omega) k1 (k2.trans h5) (k3.trans h4) hR
          · refine x_iconst (pc := 153) (v := 1) dX12_things_153 rfl ?_
            refine x_goto (pc := 154) (tgt := 158) dX12_things_154 rfl ?_
            refine x_iadd (pc := 158) dX12_things_158 ?_
            refine x_istore (pc := 159) (lv2 := [_, _, _, _, _, _, _, _]) dX12_things_159 (by decide) rfl rfl ?_
            refine x_iinc (pc := 161) (lv2 := [_, _, _, _, _, _, _, _]) dX12_things_161 (by decide) rfl rfl (nI_1 _) rfl ?_
            refine x_goto (pc := 164) (tgt := 75) dX12_things_164 rfl ?_
            first | rw [if_pos h_150] at hR | rw [if_neg h_150] at hR
            obtain ⟨k1, k2, k3⟩ := thR_kept σ' (σ'.2.2 55 (40 * x + i0 + 3 * j)) (σ'.2.2 55 (40 * x + i0 + 3 * j + 1)) (σ'.2.2 55 (40 * x + i0 + 3 * j + 2)) hI hn'
            exact ih (j + 1) x n0 nx _ _ _ RES hx hnx hs hn0 (by omega) k1 (k2.trans h5) (k3.trans h4) hR
        · refine x_bipush (pc := 103) (v := -12) dX12_things_103 rfl ?_
          refine x_ireturn (pc := 105) dX12_things_105 rfl rfl ?_
          rw [tgo, if_pos (by first | exact Or.inl h_83 | exact Or.inr (by rw [← e54]; exact h_100))] at hR
          subst hR
          exact ⟨rfl, rfl⟩
  refine x_iload_n (pc := 0) dX12_things_0 rfl ?_
  refine x_callS (pc := 1) (As := [.int _]) dX12_things_1 mX12_isSheet lk_12_352 (c_isSheet _) rfl rfl (Nat.le_of_ble_eq_true rfl) ⟨by decide, by decide⟩ ⟨Nat.zero_le _, Nat.zero_le _⟩ (k_rt ?_)
  refine x_if_eq (pc := 4) (tgt := 32) dX12_things_4 rfl (fun h_4 => ?_) (fun h_4 => ?_)
  · refine x_bipush (pc := 32) (v := -2) dX12_things_32 rfl ?_
    refine x_ireturn (pc := 34) dX12_things_34 rfl rfl ?_
    have hF : tsR σ s k fr n = (-2, σ) := if_pos (by first | exact Or.inl (bi_0.mp h_4) | exact Or.inr (Or.inl (bi_0.mp h_16)) | exact Or.inr (Or.inr (bi_0.mp h_29)))
    exact ⟨by rw [hF], by rw [hF]⟩
  · refine x_iload_n (pc := 7) dX12_things_7 rfl ?_
    refine x_i2l (pc := 8) dX12_things_8 ?_
    refine x_lconst (pc := 9) (v := 0) dX12_things_9 rfl ?_
    refine x_ldc2 (pc := 10) dX12_things_10 kc_12_339 ?_
    refine x_callS (pc := 13) (As := [.long _, .long _, .long _]) dX12_things_13 mX12_in lk_12_109 (c_inI 0 2) rfl rfl (Nat.le_of_ble_eq_true rfl) ⟨by decide, by decide⟩ ⟨Nat.zero_le _, Nat.zero_le _⟩ (k_rt ?_)
    refine x_if_eq (pc := 16) (tgt := 32) dX12_things_16 rfl (fun h_16 => ?_) (fun h_16 => ?_)
    · refine x_bipush (pc := 32) (v := -2) dX12_things_32 rfl ?_
      refine x_ireturn (pc := 34) dX12_things_34 rfl rfl ?_
      have hF : tsR σ s k fr n = (-2, σ) := if_pos (by first | exact Or.inl (bi_0.mp h_4) | exact Or.inr (Or.inl (bi_0.mp h_16)) | exact Or.inr (Or.inr (bi_0.mp h_29)))
      exact ⟨by rw [hF], by rw [hF]⟩
    · refine x_iload (pc := 19) dX12_things_19 rfl ?_
      refine x_i2l (pc := 21) dX12_things_21 ?_
      refine x_lconst (pc := 22) (v := 0) dX12_things_22 rfl ?_
      refine x_ldc2 (pc := 23) dX12_things_23 kc_12_113 ?_
      refine x_callS (pc := 26) (As := [.long _, .long _, .long _]) dX12_things_26 mX12_in lk_12_109 (c_inI 0 5) rfl rfl (Nat.le_of_ble_eq_true rfl) ⟨by decide, by decide⟩ ⟨Nat.zero_le _, Nat.zero_le _⟩ (k_rt ?_)
      refine x_if_ne (pc := 29) (tgt := 35) dX12_things_29 rfl (fun h_29 => ?_) (fun h_29 => ?_)
      · obtain ⟨x, hx, rfl⟩ := i3 (bi_n0 h_4)
        refine x_aload_n (pc := 35) dX12_things_35 rfl ?_
        refine m_getR (pc := 36) hM dX12_things_36 fk_12_86 (Or.inr ⟨_, rfl⟩) (Or.inr rfl) ?_
        refine x_iload_n (pc := 39) dX12_things_39 rfl ?_
        refine m_zald (pc := 40) hM dX12_things_40 (rfl) (hx) ?_
        refine x_if_eq (pc := 41) (tgt := 57) dX12_things_41 rfl (fun h_41 => ?_) (fun h_41 => ?_)
        · refine x_aload_n (pc := 57) dX12_things_57 rfl ?_
          refine m_getR (pc := 58) hM dX12_things_58 fk_12_86 (Or.inr ⟨_, rfl⟩) (Or.inr rfl) ?_
          refine x_iload_n (pc := 61) dX12_things_61 rfl ?_
          refine m_zald (pc := 62) hM dX12_things_62 (rfl) (hx) ?_
          refine x_if_ne (pc := 63) (tgt := 69) dX12_things_63 rfl (fun h_63 => ?_) (fun h_63 => ?_)
          · refine x_iconst (pc := 69) (v := 0) dX12_things_69 rfl ?_
            refine x_istore (pc := 70) (lv2 := [_, _, _, _, _, _, _, _]) dX12_things_70 (by decide) rfl rfl ?_
            refine x_iconst (pc := 72) (v := 0) dX12_things_72 rfl ?_
            refine x_istore (pc := 73) (lv2 := [_, _, _, _, _, _, _, _]) dX12_things_73 (by decide) rfl rfl ?_
            first
              | (have h_51 := h_51
                 rcases hS x hx with q0 | ⟨-, ⟨nx, hnx, q1⟩, -⟩
                 · exact absurd q0 h_63
                 have hb := bi_n0 h_29
                 obtain ⟨n0, hn0, rfl⟩ := nI_of2 (M := 5) (n := 5) rfl (Int32.not_lt.mpr hb.1) hb.2
                 refine L n0 0 x n0 nx 0 σ _ _ hx hnx q1 hn0 (by omega) ⟨nt, hnt, h15⟩ rfl rfl ?_
                 rw [tsR, if_neg (by rintro (z | z | z); exact z (bi_n0 h_4); exact z (bi_n0 h_16); exact z (bi_n0 h_29)), nn_nI (show x < 2 ^ 31 by omega), if_neg h_63, if_neg (not_not_intro h_51), q1, nn_nI (show n0 < 2 ^ 31 by omega)])
              | exact absurd h_41 h_63
          · refine x_bipush (pc := 66) (v := -11) dX12_things_66 rfl ?_
            refine x_ireturn (pc := 68) dX12_things_68 rfl rfl ?_
            rw [tsR, if_neg (by rintro (z | z | z); exact z (bi_n0 h_4); exact z (bi_n0 h_16); exact z (bi_n0 h_29)), nn_nI (show x < 2 ^ 31 by omega), if_pos h_63]
            exact ⟨rfl, rfl⟩
        · refine x_aload_n (pc := 44) dX12_things_44 rfl ?_
          refine m_getR (pc := 45) hM dX12_things_45 fk_12_90 (Or.inr ⟨_, rfl⟩) (Or.inl (by decide)) ?_
          refine x_iload_n (pc := 48) dX12_things_48 rfl ?_
          refine m_iald (pc := 49) hM dX12_things_49 (rfl) (hx) ?_
          refine x_iload_n (pc := 50) dX12_things_50 rfl ?_
          refine x_icmp_eq (pc := 51) (tgt := 57) dX12_things_51 rfl (fun h_51 => ?_) (fun h_51 => ?_)
          · refine x_aload_n (pc := 57) dX12_things_57 rfl ?_
            refine m_getR (pc := 58) hM dX12_things_58 fk_12_86 (Or.inr ⟨_, rfl⟩) (Or.inr rfl) ?_
            refine x_iload_n (pc := 61) dX12_things_61 rfl ?_
            refine m_zald (pc := 62) hM dX12_things_62 (rfl) (hx) ?_
            refine x_if_ne (pc := 63) (tgt := 69) dX12_things_63 rfl (fun h_63 => ?_) (fun h_63 => ?_)
            · refine x_iconst (pc := 69) (v := 0) dX12_things_69 rfl ?_
              refine x_istore (pc := 70) (lv2 := [_, _, _, _, _, _, _, _]) dX12_things_70 (by decide) rfl rfl ?_
              refine x_iconst (pc := 72) (v := 0) dX12_things_72 rfl ?_
              refine x_istore (pc := 73) (lv2 := [_, _, _, _, _, _, _, _]) dX12_things_73 (by decide) rfl rfl ?_
              first
                | (have h_51 := h_51
                   rcases hS x hx with q0 | ⟨-, ⟨nx, hnx, q1⟩, -⟩
                   · exact absurd q0 h_63
                   have hb := bi_n0 h_29
                   obtain ⟨n0, hn0, rfl⟩ := nI_of2 (M := 5) (n := 5) rfl (Int32.not_lt.mpr hb.1) hb.2
                   refine L n0 0 x n0 nx 0 σ _ _ hx hnx q1 hn0 (by omega) ⟨nt, hnt, h15⟩ rfl rfl ?_
                   rw [tsR, if_neg (by rintro (z | z | z); exact z (bi_n0 h_4); exact z (bi_n0 h_16); exact z (bi_n0 h_29)), nn_nI (show x < 2 ^ 31 by omega), if_neg h_63, if_neg (not_not_intro h_51), q1, nn_nI (show n0 < 2 ^ 31 by omega)])
                | exact absurd h_41 h_63
            · refine x_bipush (pc := 66) (v := -11) dX12_things_66 rfl ?_
              refine x_ireturn (pc := 68) dX12_things_68 rfl rfl ?_
              rw [tsR, if_neg (by rintro (z | z | z); exact z (bi_n0 h_4); exact z (bi_n0 h_16); exact z (bi_n0 h_29)), nn_nI (show x < 2 ^ 31 by omega), if_pos h_63]
              exact ⟨rfl, rfl⟩
          · refine x_bipush (pc := 54) (v := -13) dX12_things_54 rfl ?_
            refine x_ireturn (pc := 56) dX12_things_56 rfl rfl ?_
            rw [tsR, if_neg (by rintro (z | z | z); exact z (bi_n0 h_4); exact z (bi_n0 h_16); exact z (bi_n0 h_29)), nn_nI (show x < 2 ^ 31 by omega), if_neg h_41, if_pos h_51]
            exact ⟨rfl, rfl⟩
      · refine x_bipush (pc := 32) (v := -2) dX12_things_32 rfl ?_
        refine x_ireturn (pc := 34) dX12_things_34 rfl rfl ?_
        have hF : tsR σ s k fr n = (-2, σ) := if_pos (by first | exact Or.inl (bi_0.mp h_4) | exact Or.inr (Or.inl (bi_0.mp h_16)) | exact Or.inr (Or.inr (bi_0.mp h_29)))
        exact ⟨by rw [hF], by rw [hF]⟩
def chn (x : Int32) : List Int32 := if x = 0 then [0] else if x = 1 then [1, 0] else if x = 2 then [2, 0] else if x = 3 then [3, 1, 0] else if x = 4 then [4, 2, 0] else [5, 0]
def tkR (σ : MS) (t k : Int32) : Int32 := if 0 ≤ k ∧ k ≤ 5 then (if 0 ≤ t ∧ t ≤ σ.1 15 - 1 then (if k ∈ chn (σ.2.2 10 (nn t)) then σ.2.2 11 (nn t) else -13) else -11) else -2
theorem c_taken (hM : MOK μ a) (t k : Int32) {n : Nat} (h15 : σ.1 15 = nI n) (hn : n ≤ 5) (hk : ∀ i, i < 5 → ∃ x, x < 6 ∧ σ.2.2 10 i = nI x) : XM Γ zX12_taken 3 0 0 [.ref a.1, .int t, .int k] (MV μ a σ) (rt (.int (tkR σ t k)) (MV μ a σ)) := by
  refine XM.of 1 rfl (by decide) (Nat.le_of_ble_eq_true rfl) ?_
  have Tm : ∀ i, i < 5 → ¬ k = -1 → WA Γ zX12_taken (xrm 3 0 0) 0 0 0 0 (rt (.int (-13)) (MV μ a σ)) 33 [some (.ref a.1), some (.int (nI i)), some (.int k), some (.int (-1))] [] (MV μ a σ) := by
    intro i hi hk1
    refine x_iload_n (pc := 33) dX12_taken_33 rfl ?_
    refine x_iconst (pc := 34) (v := -1) dX12_taken_34 rfl ?_
    refine x_icmp_eq (pc := 35) (tgt := 51) dX12_taken_35 rfl (fun h_35 => ?_) (fun h_35 => absurd (rfl) h_35)
    refine x_iload_n (pc := 51) dX12_taken_51 rfl ?_
    refine x_iload_n (pc := 52) dX12_taken_52 rfl ?_
    refine x_icmp_ne (pc := 53) (tgt := 65) dX12_taken_53 rfl (fun h_53 => ?_) (fun h_53 => absurd h_53 (fun e => hk1 e.symm))
    refine x_bipush (pc := 65) (v := -13) dX12_taken_65 rfl ?_
    refine x_ireturn (pc := 67) dX12_taken_67 rfl rfl ?_
    exact ⟨rfl, rfl⟩
  have T0 : ∀ i, i < 5 → ¬ k = -1 → WA Γ zX12_taken (xrm 3 0 0) 0 0 0 0 (rt (.int (if k ∈ ([0] : List Int32) then σ.2.2 11 i else -13)) (MV μ a σ)) 33 [some (.ref a.1), some (.int (nI i)), some (.int k), some (.int 0)] [] (MV μ a σ) := by
    intro i hi hk1
    refine x_iload_n (pc := 33) dX12_taken_33 rfl ?_
    refine x_iconst (pc := 34) (v := -1) dX12_taken_34 rfl ?_
    refine x_icmp_eq (pc := 35) (tgt := 51) dX12_taken_35 rfl (fun h_35 => absurd h_35 (by decide)) (fun h_35 => ?_)
    refine x_iload_n (pc := 38) dX12_taken_38 rfl ?_
    refine x_iload_n (pc := 39) dX12_taken_39 rfl ?_
    refine x_icmp_eq (pc := 40) (tgt := 51) dX12_taken_40 rfl (fun h_40 => ?_) (fun h_40 => ?_)
    · refine x_iload_n (pc := 51) dX12_taken_51 rfl ?_
      refine x_iload_n (pc := 52) dX12_taken_52 rfl ?_
      refine x_icmp_ne (pc := 53) (tgt := 65) dX12_taken_53 rfl (fun h_53 => absurd (h_40) h_53) (fun h_53 => ?_)
      refine x_aload_n (pc := 56) dX12_taken_56 rfl ?_
      refine m_getR (pc := 57) hM dX12_taken_57 fk_12_35 (Or.inr ⟨_, rfl⟩) (Or.inl (by decide)) ?_
      refine x_iload_n (pc := 60) dX12_taken_60 rfl ?_
      refine m_iald (pc := 61) hM dX12_taken_61 (rfl) (hi) ?_
      refine x_goto (pc := 62) (tgt := 67) dX12_taken_62 rfl ?_
      refine x_ireturn (pc := 67) dX12_taken_67 rfl rfl ?_
      have e : k = 0 := h_40.symm
      exact ⟨by simp [e], rfl⟩
    · refine x_iload_n (pc := 43) dX12_taken_43 rfl ?_
      refine x_callS (pc := 44) (As := [.int _]) dX12_taken_44 mX12_over lk_12_380 (c_over 0) rfl rfl (Nat.le_of_ble_eq_true rfl) ⟨by decide, by decide⟩ ⟨Nat.zero_le _, Nat.zero_le _⟩ (k_rt ?_)
      refine x_istore_n (pc := 47) (lv2 := [_, _, _, _]) dX12_taken_47 (by decide) rfl rfl ?_
      refine x_goto (pc := 48) (tgt := 33) dX12_taken_48 rfl ?_
      have hne : ¬ k = 0 := fun e => h_40 e.symm
      have e : (if k ∈ ([0] : List Int32) then σ.2.2 11 i else -13) = -13 := by simp [hne]
      rw [e]
      exact Tm i hi hk1
  have T1 : ∀ i, i < 5 → ¬ k = -1 → WA Γ zX12_taken (xrm 3 0 0) 0 0 0 0 (rt (.int (if k ∈ ([1, 0] : List Int32) then σ.2.2 11 i else -13)) (MV μ a σ)) 33 [some (.ref a.1), some (.int (nI i)), some (.int k), some (.int 1)] [] (MV μ a σ) := by
    intro i hi hk1
    refine x_iload_n (pc := 33) dX12_taken_33 rfl ?_
    refine x_iconst (pc := 34) (v := -1) dX12_taken_34 rfl ?_
    refine x_icmp_eq (pc := 35) (tgt := 51) dX12_taken_35 rfl (fun h_35 => absurd h_35 (by decide)) (fun h_35 => ?_)
    refine x_iload_n (pc := 38) dX12_taken_38 rfl ?_
    refine x_iload_n (pc := 39) dX12_taken_39 rfl ?_
    refine x_icmp_eq (pc := 40) (tgt := 51) dX12_taken_40 rfl (fun h_40 => ?_) (fun h_40 => ?_)
    · refine x_iload_n (pc := 51) dX12_taken_51 rfl ?_
      refine x_iload_n (pc := 52) dX12_taken_52 rfl ?_
      refine x_icmp_ne (pc := 53) (tgt := 65) dX12_taken_53 rfl (fun h_53 => absurd (h_40) h_53) (fun h_53 => ?_)
      refine x_aload_n (pc := 56) dX12_taken_56 rfl ?_
      refine m_getR (pc := 57) hM dX12_taken_57 fk_12_35 (Or.inr ⟨_, rfl⟩) (Or.inl (by decide)) ?_
      refine x_iload_n (pc := 60) dX12_taken_60 rfl ?_
      refine m_iald (pc := 61) hM dX12_taken_61 (rfl) (hi) ?_
      refine x_goto (pc := 62) (tgt := 67) dX12_taken_62 rfl ?_
      refine x_ireturn (pc := 67) dX12_taken_67 rfl rfl ?_
      have e : k = 1 := h_40.symm
      exact ⟨by simp [e], rfl⟩
    · refine x_iload_n (pc := 43) dX12_taken_43 rfl ?_
      refine x_callS (pc := 44) (As := [.int _]) dX12_taken_44 mX12_over lk_12_380 (c_over 1) rfl rfl (Nat.le_of_ble_eq_true rfl) ⟨by decide, by decide⟩ ⟨Nat.zero_le _, Nat.zero_le _⟩ (k_rt ?_)
      refine x_istore_n (pc := 47) (lv2 := [_, _, _, _]) dX12_taken_47 (by decide) rfl rfl ?_
      refine x_goto (pc := 48) (tgt := 33) dX12_taken_48 rfl ?_
      have hne : ¬ k = 1 := fun e => h_40 e.symm
      have e : (if k ∈ ([1, 0] : List Int32) then σ.2.2 11 i else -13) = (if k ∈ ([0] : List Int32) then σ.2.2 11 i else -13) := by simp [hne]
      rw [e]
      exact T0 i hi hk1
  have T2 : ∀ i, i < 5 → ¬ k = -1 → WA Γ zX12_taken (xrm 3 0 0) 0 0 0 0 (rt (.int (if k ∈ ([2, 0] : List Int32) then σ.2.2 11 i else -13)) (MV μ a σ)) 33 [some (.ref a.1), some (.int (nI i)), some (.int k), some (.int 2)] [] (MV μ a σ) := by
    intro i hi hk1
    refine x_iload_n (pc := 33) dX12_taken_33 rfl ?_
    refine x_iconst (pc := 34) (v := -1) dX12_taken_34 rfl ?_
    refine x_icmp_eq (pc := 35) (tgt := 51) dX12_taken_35 rfl (fun h_35 => absurd h_35 (by decide)) (fun h_35 => ?_)
    refine x_iload_n (pc := 38) dX12_taken_38 rfl ?_
    refine x_iload_n (pc := 39) dX12_taken_39 rfl ?_
    refine x_icmp_eq (pc := 40) (tgt := 51) dX12_taken_40 rfl (fun h_40 => ?_) (fun h_40 => ?_)
    · refine x_iload_n (pc := 51) dX12_taken_51 rfl ?_
      refine x_iload_n (pc := 52) dX12_taken_52 rfl ?_
      refine x_icmp_ne (pc := 53) (tgt := 65) dX12_taken_53 rfl (fun h_53 => absurd (h_40) h_53) (fun h_53 => ?_)
      refine x_aload_n (pc := 56) dX12_taken_56 rfl ?_
      refine m_getR (pc := 57) hM dX12_taken_57 fk_12_35 (Or.inr ⟨_, rfl⟩) (Or.inl (by decide)) ?_
      refine x_iload_n (pc := 60) dX12_taken_60 rfl ?_
      refine m_iald (pc := 61) hM dX12_taken_61 (rfl) (hi) ?_
      refine x_goto (pc := 62) (tgt := 67) dX12_taken_62 rfl ?_
      refine x_ireturn (pc := 67) dX12_taken_67 rfl rfl ?_
      have e : k = 2 := h_40.symm
      exact ⟨by simp [e], rfl⟩
    · refine x_iload_n (pc := 43) dX12_taken_43 rfl ?_
      refine x_callS (pc := 44) (As := [.int _]) dX12_taken_44 mX12_over lk_12_380 (c_over 2) rfl rfl (Nat.le_of_ble_eq_true rfl) ⟨by decide, by decide⟩ ⟨Nat.zero_le _, Nat.zero_le _⟩ (k_rt ?_)
      refine x_istore_n (pc := 47) (lv2 := [_, _, _, _]) dX12_taken_47 (by decide) rfl rfl ?_
      refine x_goto (pc := 48) (tgt := 33) dX12_taken_48 rfl ?_
      have hne : ¬ k = 2 := fun e => h_40 e.symm
      have e : (if k ∈ ([2, 0] : List Int32) then σ.2.2 11 i else -13) = (if k ∈ ([0] : List Int32) then σ.2.2 11 i else -13) := by simp [hne]
      rw [e]
      exact T0 i hi hk1
  have T5 : ∀ i, i < 5 → ¬ k = -1 → WA Γ zX12_taken (xrm 3 0 0) 0 0 0 0 (rt (.int (if k ∈ ([5, 0] : List Int32) then σ.2.2 11 i else -13)) (MV μ a σ)) 33 [some (.ref a.1), some (.int (nI i)), some (.int k), some (.int 5)] [] (MV μ a σ) := by
    intro i hi hk1
    refine x_iload_n (pc := 33) dX12_taken_33 rfl ?_
    refine x_iconst (pc := 34) (v := -1) dX12_taken_34 rfl ?_
    refine x_icmp_eq (pc := 35) (tgt := 51) dX12_taken_35 rfl (fun h_35 => absurd h_35 (by decide)) (fun h_35 => ?_)
    refine x_iload_n (pc := 38) dX12_taken_38 rfl ?_
    refine x_iload_n (pc := 39) dX12_taken_39 rfl ?_
    refine x_icmp_eq (pc := 40) (tgt := 51) dX12_taken_40 rfl (fun h_40 => ?_) (fun h_40 => ?_)
    · refine x_iload_n (pc := 51) dX12_taken_51 rfl ?_
      refine x_iload_n (pc := 52) dX12_taken_52 rfl ?_
      refine x_icmp_ne (pc := 53) (tgt := 65) dX12_taken_53 rfl (fun h_53 => absurd (h_40) h_53) (fun h_53 => ?_)
      refine x_aload_n (pc := 56) dX12_taken_56 rfl ?_
      refine m_getR (pc := 57) hM dX12_taken_57 fk_12_35 (Or.inr ⟨_, rfl⟩) (Or.inl (by decide)) ?_
      refine x_iload_n (pc := 60) dX12_taken_60 rfl ?_
      refine m_iald (pc := 61) hM dX12_taken_61 (rfl) (hi) ?_
      refine x_goto (pc := 62) (tgt := 67) dX12_taken_62 rfl ?_
      refine x_ireturn (pc := 67) dX12_taken_67 rfl rfl ?_
      have e : k = 5 := h_40.symm
      exact ⟨by simp [e], rfl⟩
    · refine x_iload_n (pc := 43) dX12_taken_43 rfl ?_
      refine x_callS (pc := 44) (As := [.int _]) dX12_taken_44 mX12_over lk_12_380 (c_over 5) rfl rfl (Nat.le_of_ble_eq_true rfl) ⟨by decide, by decide⟩ ⟨Nat.zero_le _, Nat.zero_le _⟩ (k_rt ?_)
      refine x_istore_n (pc := 47) (lv2 := [_, _, _, _]) dX12_taken_47 (by decide) rfl rfl ?_
      refine x_goto (pc := 48) (tgt := 33) dX12_taken_48 rfl ?_
      have hne : ¬ k = 5 := fun e => h_40 e.symm
      have e : (if k ∈ ([5, 0] : List Int32) then σ.2.2 11 i else -13) = (if k ∈ ([0] : List Int32) then σ.2.2 11 i else -13) := by simp [hne]
      rw [e]
      exact T0 i hi hk1
  have T3 : ∀ i, i < 5 → ¬ k = -1 → WA Γ zX12_taken (xrm 3 0 0) 0 0 0 0 (rt (.int (if k ∈ ([3, 1, 0] : List Int32) then σ.2.2 11 i else -13)) (MV μ a σ)) 33 [some (.ref a.1), some (.int (nI i)), some (.int k), some (.int 3)] [] (MV μ a σ) := by
    intro i hi hk1
    refine x_iload_n (pc := 33) dX12_taken_33 rfl ?_
    refine x_iconst (pc := 34) (v := -1) dX12_taken_34 rfl ?_
    refine x_icmp_eq (pc := 35) (tgt := 51) dX12_taken_35 rfl (fun h_35 => absurd h_35 (by decide)) (fun h_35 => ?_)
    refine x_iload_n (pc := 38) dX12_taken_38 rfl ?_
    refine x_iload_n (pc := 39) dX12_taken_39 rfl ?_
    refine x_icmp_eq (pc := 40) (tgt := 51) dX12_taken_40 rfl (fun h_40 => ?_) (fun h_40 => ?_)
    · refine x_iload_n (pc := 51) dX12_taken_51 rfl ?_
      refine x_iload_n (pc := 52) dX12_taken_52 rfl ?_
      refine x_icmp_ne (pc := 53) (tgt := 65) dX12_taken_53 rfl (fun h_53 => absurd (h_40) h_53) (fun h_53 => ?_)
      refine x_aload_n (pc := 56) dX12_taken_56 rfl ?_
      refine m_getR (pc := 57) hM dX12_taken_57 fk_12_35 (Or.inr ⟨_, rfl⟩) (Or.inl (by decide)) ?_
      refine x_iload_n (pc := 60) dX12_taken_60 rfl ?_
      refine m_iald (pc := 61) hM dX12_taken_61 (rfl) (hi) ?_
      refine x_goto (pc := 62) (tgt := 67) dX12_taken_62 rfl ?_
      refine x_ireturn (pc := 67) dX12_taken_67 rfl rfl ?_
      have e : k = 3 := h_40.symm
      exact ⟨by simp [e], rfl⟩
    · refine x_iload_n (pc := 43) dX12_taken_43 rfl ?_
      refine x_callS (pc := 44) (As := [.int _]) dX12_taken_44 mX12_over lk_12_380 (c_over 3) rfl rfl (Nat.le_of_ble_eq_true rfl) ⟨by decide, by decide⟩ ⟨Nat.zero_le _, Nat.zero_le _⟩ (k_rt ?_)
      refine x_istore_n (pc := 47) (lv2 := [_, _, _, _]) dX12_taken_47 (by decide) rfl rfl ?_
      refine x_goto (pc := 48) (tgt := 33) dX12_taken_48 rfl ?_
      have hne : ¬ k = 3 := fun e => h_40 e.symm
      have e : (if k ∈ ([3, 1, 0] : List Int32) then σ.2.2 11 i else -13) = (if k ∈ ([1, 0] : List Int32) then σ.2.2 11 i else -13) := by simp [hne]
      rw [e]
      exact T1 i hi hk1
  have T4 : ∀ i, i < 5 → ¬ k = -1 → WA Γ zX12_taken (xrm 3 0 0) 0 0 0 0 (rt (.int (if k ∈ ([4, 2, 0] : List Int32) then σ.2.2 11 i else -13)) (MV μ a σ)) 33 [some (.ref a.1), some (.int (nI i)), some (.int k), some (.int 4)] [] (MV μ a σ) := by
    intro i hi hk1
    refine x_iload_n (pc := 33) dX12_taken_33 rfl ?_
    refine x_iconst (pc := 34) (v := -1) dX12_taken_34 rfl ?_
    refine x_icmp_eq (pc := 35) (tgt := 51) dX12_taken_35 rfl (fun h_35 => absurd h_35 (by decide)) (fun h_35 => ?_)
    refine x_iload_n (pc := 38) dX12_taken_38 rfl ?_
    refine x_iload_n (pc := 39) dX12_taken_39 rfl ?_
    refine x_icmp_eq (pc := 40) (tgt := 51) dX12_taken_40 rfl (fun h_40 => ?_) (fun h_40 => ?_)
    · refine x_iload_n (pc := 51) dX12_taken_51 rfl ?_
      refine x_iload_n (pc := 52) dX12_taken_52 rfl ?_
      refine x_icmp_ne (pc := 53) (tgt := 65) dX12_taken_53 rfl (fun h_53 => absurd (h_40) h_53) (fun h_53 => ?_)
      refine x_aload_n (pc := 56) dX12_taken_56 rfl ?_
      refine m_getR (pc := 57) hM dX12_taken_57 fk_12_35 (Or.inr ⟨_, rfl⟩) (Or.inl (by decide)) ?_
      refine x_iload_n (pc := 60) dX12_taken_60 rfl ?_
      refine m_iald (pc := 61) hM dX12_taken_61 (rfl) (hi) ?_
      refine x_goto (pc := 62) (tgt := 67) dX12_taken_62 rfl ?_
      refine x_ireturn (pc := 67) dX12_taken_67 rfl rfl ?_
      have e : k = 4 := h_40.symm
      exact ⟨by simp [e], rfl⟩
    · refine x_iload_n (pc := 43) dX12_taken_43 rfl ?_
      refine x_callS (pc := 44) (As := [.int _]) dX12_taken_44 mX12_over lk_12_380 (c_over 4) rfl rfl (Nat.le_of_ble_eq_true rfl) ⟨by decide, by decide⟩ ⟨Nat.zero_le _, Nat.zero_le _⟩ (k_rt ?_)
      refine x_istore_n (pc := 47) (lv2 := [_, _, _, _]) dX12_taken_47 (by decide) rfl rfl ?_
      refine x_goto (pc := 48) (tgt := 33) dX12_taken_48 rfl ?_
      have hne : ¬ k = 4 := fun e => h_40 e.symm
      have e : (if k ∈ ([4, 2, 0] : List Int32) then σ.2.2 11 i else -13) = (if k ∈ ([2, 0] : List Int32) then σ.2.2 11 i else -13) := by simp [hne]
      rw [e]
      exact T2 i hi hk1
  refine x_iload_n (pc := 0) dX12_taken_0 rfl ?_
  refine x_i2l (pc := 1) dX12_taken_1 ?_
  refine x_lconst (pc := 2) (v := 0) dX12_taken_2 rfl ?_
  refine x_ldc2 (pc := 3) dX12_taken_3 kc_12_113 ?_
  refine x_callS (pc := 6) (As := [.long _, .long _, .long _]) dX12_taken_6 mX12_in lk_12_109 (c_inI 0 5) rfl rfl (Nat.le_of_ble_eq_true rfl) ⟨by decide, by decide⟩ ⟨Nat.zero_le _, Nat.zero_le _⟩ (k_rt ?_)
  refine x_if_ne (pc := 9) (tgt := 15) dX12_taken_9 rfl (fun h_9 => ?_) (fun h_9 => ?_)
  · refine x_aload_n (pc := 15) dX12_taken_15 rfl ?_
    refine x_iload_n (pc := 16) dX12_taken_16 rfl ?_
    refine x_callV (pc := 17) (As := [.int _]) dX12_taken_17 mX12_isThing lk_12_123 hM.1 (c_isThing hM _) rfl rfl (Nat.le_of_ble_eq_true rfl) ⟨by decide, by decide⟩ ⟨Nat.zero_le _, Nat.zero_le _⟩ (k_rt ?_)
    refine x_if_ne (pc := 20) (tgt := 26) dX12_taken_20 rfl (fun h_20 => ?_) (fun h_20 => ?_)
    · obtain ⟨i, hi, rfl⟩ := ixC h15 (bi_n0 h_20) (by omega)
      obtain ⟨x, hx, ek⟩ := hk i (by omega)
      refine x_aload_n (pc := 26) dX12_taken_26 rfl ?_
      refine m_getR (pc := 27) hM dX12_taken_27 fk_12_32 (Or.inr ⟨_, rfl⟩) (Or.inl (by decide)) ?_
      refine x_iload_n (pc := 30) dX12_taken_30 rfl ?_
      refine m_iald (pc := 31) hM dX12_taken_31 (rfl) (by show i < 5; omega) ?_
      refine x_istore_n (pc := 32) (lv2 := [_, _, _, _]) dX12_taken_32 (by decide) rfl rfl ?_
      rw [tkR, if_pos (bi_n0 h_9), if_pos (bi_n0 h_20), nn_nI (show i < 2 ^ 31 by omega), ek]
      have hk1 : ¬ k = -1 := fun e => by
        have := (bi_n0 h_9).1
        rw [e] at this
        exact absurd this (by decide)
      rcases (show x = 0 ∨ x = 1 ∨ x = 2 ∨ x = 3 ∨ x = 4 ∨ x = 5 by omega) with rfl | rfl | rfl | rfl | rfl | rfl
      · exact T0 i (by omega) hk1
      · exact T1 i (by omega) hk1
      · exact T2 i (by omega) hk1
      · exact T3 i (by omega) hk1
      · exact T4 i (by omega) hk1
      · exact T5 i (by omega) hk1
    · refine x_bipush (pc := 23) (v := -11) dX12_taken_23 rfl ?_
      refine x_ireturn (pc := 25) dX12_taken_25 rfl rfl ?_
      exact ⟨by rw [tkR, if_pos (bi_n0 h_9), if_neg (bi_0.mp h_20)], rfl⟩
  · refine x_bipush (pc := 12) (v := -2) dX12_taken_12 rfl ?_
    refine x_ireturn (pc := 14) dX12_taken_14 rfl rfl ?_
    exact ⟨by rw [tkR, if_neg (bi_0.mp h_9)], rfl⟩
/-- who sees a place that isn't none: bits -/
def sbt (σ : MS) (t : Nat) : Nat → Int32
  | 0 => 0
  | g + 1 => sbt σ t g ||| ((if σ.2.2 14 t = -1 then 0 else seI σ g (nn (σ.2.2 14 t))) <<< (nI g &&& 31))
def tdR (σ : MS) (t x : Int32) : Int32 := if (0 ≤ t ∧ t ≤ σ.1 15 - 1) ∧ (0 ≤ x ∧ x ≤ 11) then (if x ≤ 5 then (if 5 ≤ x then sbt σ (nn t) 4 else if x = 0 then σ.2.2 10 (nn t) else if x = 1 then σ.2.2 11 (nn t) else if x = 2 then σ.2.2 12 (nn t) else if x = 3 then σ.2.2 13 (nn t) else σ.2.2 14 (nn t)) else stI (σ.2.2 10 (nn t)) (x - 6)) else -100
theorem stI_b (k p : Int32) : stI k p = 0 ∨ stI k p = 1 := by
  unfold stI
  repeat' split
  all_goals simp
theorem seI_b (σ : MS) (g p : Nat) : seI σ g p = 0 ∨ seI σ g p = 1 := by
  unfold seI
  split <;> simp
theorem c_told (hM : MOK μ a) (t x : Int32) {n : Nat} (h15 : σ.1 15 = nI n) (hn : n ≤ 5) (hp : ∀ i, i < 5 → σ.2.2 14 i = -1 ∨ ∃ p, p < 6 ∧ σ.2.2 14 i = nI p) : XM Γ zX12_told 3 0 0 [.ref a.1, .int t, .int x] (MV μ a σ) (rt (.int (tdR σ t x)) (MV μ a σ)) := by
  refine XM.of 2 rfl (by decide) (Nat.le_of_ble_eq_true rfl) ?_
  have L : ∀ (m g i : Nat), i < 5 → g + m = 4 → WA Γ zX12_told (xrm 3 0 0) 0 0 0 0 (rt (.int (sbt σ i 4)) (MV μ a σ)) 118 [some (.ref a.1), some (.int (nI i)), some (.int x), some (.int (sbt σ i g)), some (.int (nI g))] [] (MV μ a σ) := by
    intro m
    induction m with
    | zero =>
      intro g i hi hg
      obtain rfl : g = 4 := by omega
      refine x_iload (pc := 118) dX12_told_118 rfl ?_
      refine x_iconst (pc := 120) (v := 4) dX12_told_120 rfl ?_
      refine x_icmp_ge (pc := 121) (tgt := 156) dX12_told_121 rfl (fun h_121 => ?_) (fun h_121 => absurd (by decide) h_121)
      refine x_iload_n (pc := 156) dX12_told_156 rfl ?_
      refine x_ireturn (pc := 157) dX12_told_157 rfl rfl ?_
      exact ⟨rfl, rfl⟩
    | succ m ih =>
      intro g i hi hg
      rcases hp i hi with hpi | ⟨p, hp6, hpi⟩
      · refine x_iload (pc := 118) dX12_told_118 rfl ?_
        refine x_iconst (pc := 120) (v := 4) dX12_told_120 rfl ?_
        refine x_icmp_ge (pc := 121) (tgt := 156) dX12_told_121 rfl (fun h_121 => absurd h_121 (lit_le (n := 4) g (by omega) (by omega))) (fun h_121 => ?_)
        refine x_iload_n (pc := 124) dX12_told_124 rfl ?_
        refine x_aload_n (pc := 125) dX12_told_125 rfl ?_
        refine x_iload (pc := 126) dX12_told_126 rfl ?_
        refine x_aload_n (pc := 128) dX12_told_128 rfl ?_
        refine m_getR (pc := 129) hM dX12_told_129 fk_12_44 (Or.inr ⟨_, rfl⟩) (Or.inl (by decide)) ?_
        refine x_iload_n (pc := 132) dX12_told_132 rfl ?_
        refine m_iald (pc := 133) hM dX12_told_133 (rfl) (hi) ?_
        refine x_callV (pc := 134) (As := [.int _, .int _]) dX12_told_134 mX12_doesSee lk_12_140 hM.1 (by rw [hpi]; exact c_doesSeeN hM _) rfl rfl (Nat.le_of_ble_eq_true rfl) ⟨by decide, by decide⟩ ⟨Nat.zero_le _, Nat.zero_le _⟩ (k_rt ?_)
        refine x_if_eq (pc := 137) (tgt := 144) dX12_told_137 rfl (fun h_137 => ?_) (fun h_137 => absurd (rfl) h_137)
        refine x_iconst (pc := 144) (v := 0) dX12_told_144 rfl ?_
        refine x_iload (pc := 145) dX12_told_145 rfl ?_
        refine x_ishl (pc := 147) dX12_told_147 ?_
        refine x_ior (pc := 148) dX12_told_148 ?_
        refine x_istore_n (pc := 149) (lv2 := [_, _, _, _, _]) dX12_told_149 (by decide) rfl rfl ?_
        refine x_iinc (pc := 150) (lv2 := [_, _, _, _, _]) dX12_told_150 (by decide) rfl rfl (nI_1 _) rfl ?_
        refine x_goto (pc := 153) (tgt := 118) dX12_told_153 rfl ?_
        have e : sbt σ i (g + 1) = sbt σ i g ||| ((if σ.2.2 14 i = -1 then 0 else seI σ g (nn (σ.2.2 14 i))) <<< (nI g &&& 31)) := rfl
        rw [if_pos hpi] at e
        rw [← e]
        exact ih (g + 1) i hi (by omega)
      · refine x_iload (pc := 118) dX12_told_118 rfl ?_
        refine x_iconst (pc := 120) (v := 4) dX12_told_120 rfl ?_
        refine x_icmp_ge (pc := 121) (tgt := 156) dX12_told_121 rfl (fun h_121 => absurd h_121 (lit_le (n := 4) g (by omega) (by omega))) (fun h_121 => ?_)
        refine x_iload_n (pc := 124) dX12_told_124 rfl ?_
        refine x_aload_n (pc := 125) dX12_told_125 rfl ?_
        refine x_iload (pc := 126) dX12_told_126 rfl ?_
        refine x_aload_n (pc := 128) dX12_told_128 rfl ?_
        refine m_getR (pc := 129) hM dX12_told_129 fk_12_44 (Or.inr ⟨_, rfl⟩) (Or.inl (by decide)) ?_
        refine x_iload_n (pc := 132) dX12_told_132 rfl ?_
        refine m_iald (pc := 133) hM dX12_told_133 (rfl) (hi) ?_
        refine x_callV (pc := 134) (As := [.int _, .int _]) dX12_told_134 mX12_doesSee lk_12_140 hM.1 (c_doesSee hM rfl (by omega) hpi hp6) rfl rfl (Nat.le_of_ble_eq_true rfl) ⟨by decide, by decide⟩ ⟨Nat.zero_le _, Nat.zero_le _⟩ (k_rt ?_)
        refine x_if_eq (pc := 137) (tgt := 144) dX12_told_137 rfl (fun h_137 => ?_) (fun h_137 => ?_)
        · refine x_iconst (pc := 144) (v := 0) dX12_told_144 rfl ?_
          refine x_iload (pc := 145) dX12_told_145 rfl ?_
          refine x_ishl (pc := 147) dX12_told_147 ?_
          refine x_ior (pc := 148) dX12_told_148 ?_
          refine x_istore_n (pc := 149) (lv2 := [_, _, _, _, _]) dX12_told_149 (by decide) rfl rfl ?_
          refine x_iinc (pc := 150) (lv2 := [_, _, _, _, _]) dX12_told_150 (by decide) rfl rfl (nI_1 _) rfl ?_
          refine x_goto (pc := 153) (tgt := 118) dX12_told_153 rfl ?_
          have e : sbt σ i (g + 1) = sbt σ i g ||| ((if σ.2.2 14 i = -1 then 0 else seI σ g (nn (σ.2.2 14 i))) <<< (nI g &&& 31)) := rfl
          rw [if_neg (by rw [hpi]; exact nI_m1 (by omega)), hpi, nn_nI (by omega)] at e
          first
            | rw [h_137] at e
            | rw [(seI_b σ g p).resolve_left h_137] at e
          rw [← e]
          exact ih (g + 1) i hi (by omega)
        · refine x_iconst (pc := 140) (v := 1) dX12_told_140 rfl ?_
          refine x_goto (pc := 141) (tgt := 145) dX12_told_141 rfl ?_
          refine x_iload (pc := 145) dX12_told_145 rfl ?_
          refine x_ishl (pc := 147) dX12_told_147 ?_
          refine x_ior (pc := 148) dX12_told_148 ?_
          refine x_istore_n (pc := 149) (lv2 := [_, _, _, _, _]) dX12_told_149 (by decide) rfl rfl ?_
          refine x_iinc (pc := 150) (lv2 := [_, _, _, _, _]) dX12_told_150 (by decide) rfl rfl (nI_1 _) rfl ?_
          refine x_goto (pc := 153) (tgt := 118) dX12_told_153 rfl ?_
          have e : sbt σ i (g + 1) = sbt σ i g ||| ((if σ.2.2 14 i = -1 then 0 else seI σ g (nn (σ.2.2 14 i))) <<< (nI g &&& 31)) := rfl
          rw [if_neg (by rw [hpi]; exact nI_m1 (by omega)), hpi, nn_nI (by omega)] at e
          first
            | rw [h_137] at e
            | rw [(seI_b σ g p).resolve_left h_137] at e
          rw [← e]
          exact ih (g + 1) i hi (by omega)
  refine x_aload_n (pc := 0) dX12_told_0 rfl ?_
  refine x_iload_n (pc := 1) dX12_told_1 rfl ?_
  refine x_callV (pc := 2) (As := [.int _]) dX12_told_2 mX12_isThing lk_12_123 hM.1 (c_isThing hM _) rfl rfl (Nat.le_of_ble_eq_true rfl) ⟨by decide, by decide⟩ ⟨Nat.zero_le _, Nat.zero_le _⟩ (k_rt ?_)
  refine x_if_eq (pc := 5) (tgt := 20) dX12_told_5 rfl (fun h_5 => ?_) (fun h_5 => ?_)
  · refine x_bipush (pc := 20) (v := -100) dX12_told_20 rfl ?_
    refine x_ireturn (pc := 22) dX12_told_22 rfl rfl ?_
    exact ⟨by rw [tdR, if_neg (by rintro ⟨q1, q2⟩; first | exact absurd h_5 (by rw [bi_t q1]; decide) | exact absurd h_17 (by rw [bi_t q2]; decide))], rfl⟩
  · refine x_iload_n (pc := 8) dX12_told_8 rfl ?_
    refine x_i2l (pc := 9) dX12_told_9 ?_
    refine x_lconst (pc := 10) (v := 0) dX12_told_10 rfl ?_
    refine x_ldc2 (pc := 11) dX12_told_11 kc_12_138 ?_
    refine x_callS (pc := 14) (As := [.long _, .long _, .long _]) dX12_told_14 mX12_in lk_12_109 (c_inI 0 11) rfl rfl (Nat.le_of_ble_eq_true rfl) ⟨by decide, by decide⟩ ⟨Nat.zero_le _, Nat.zero_le _⟩ (k_rt ?_)
    refine x_if_ne (pc := 17) (tgt := 23) dX12_told_17 rfl (fun h_17 => ?_) (fun h_17 => ?_)
    · obtain ⟨i, hi, rfl⟩ := ixC h15 (bi_n0 h_5) (by omega)
      refine x_iload_n (pc := 23) dX12_told_23 rfl ?_
      refine x_iconst (pc := 24) (v := 5) dX12_told_24 rfl ?_
      refine x_icmp_le (pc := 25) (tgt := 46) dX12_told_25 rfl (fun h_25 => ?_) (fun h_25 => ?_)
      · refine x_iload_n (pc := 46) dX12_told_46 rfl ?_
        refine x_iconst (pc := 47) (v := 5) dX12_told_47 rfl ?_
        refine x_icmp_ge (pc := 48) (tgt := 113) dX12_told_48 rfl (fun h_48 => ?_) (fun h_48 => ?_)
        · refine x_iconst (pc := 113) (v := 0) dX12_told_113 rfl ?_
          refine x_istore_n (pc := 114) (lv2 := [_, _, _, _, _]) dX12_told_114 (by decide) rfl rfl ?_
          refine x_iconst (pc := 115) (v := 0) dX12_told_115 rfl ?_
          refine x_istore (pc := 116) (lv2 := [_, _, _, _, _]) dX12_told_116 (by decide) rfl rfl ?_
          rw [tdR, if_pos ⟨bi_n0 h_5, bi_n0 h_17⟩, nn_nI (show i < 2 ^ 31 by omega), if_pos h_25, if_pos h_48]
          exact L 4 0 i (by omega) (by omega)
        · refine x_iload_n (pc := 51) dX12_told_51 rfl ?_
          refine x_if_ne (pc := 52) (tgt := 64) dX12_told_52 rfl (fun h_52 => ?_) (fun h_52 => ?_)
          · refine x_iload_n (pc := 64) dX12_told_64 rfl ?_
            refine x_iconst (pc := 65) (v := 1) dX12_told_65 rfl ?_
            refine x_icmp_ne (pc := 66) (tgt := 78) dX12_told_66 rfl (fun h_66 => ?_) (fun h_66 => ?_)
            · refine x_iload_n (pc := 78) dX12_told_78 rfl ?_
              refine x_iconst (pc := 79) (v := 2) dX12_told_79 rfl ?_
              refine x_icmp_ne (pc := 80) (tgt := 92) dX12_told_80 rfl (fun h_80 => ?_) (fun h_80 => ?_)
              · refine x_iload_n (pc := 92) dX12_told_92 rfl ?_
                refine x_iconst (pc := 93) (v := 3) dX12_told_93 rfl ?_
                refine x_icmp_ne (pc := 94) (tgt := 106) dX12_told_94 rfl (fun h_94 => ?_) (fun h_94 => ?_)
                · refine x_aload_n (pc := 106) dX12_told_106 rfl ?_
                  refine m_getR (pc := 107) hM dX12_told_107 fk_12_44 (Or.inr ⟨_, rfl⟩) (Or.inl (by decide)) ?_
                  refine x_iload_n (pc := 110) dX12_told_110 rfl ?_
                  refine m_iald (pc := 111) hM dX12_told_111 (rfl) (by show i < 5; omega) ?_
                  refine x_ireturn (pc := 112) dX12_told_112 rfl rfl ?_
                  rw [tdR, if_pos ⟨bi_n0 h_5, bi_n0 h_17⟩, nn_nI (show i < 2 ^ 31 by omega), if_pos h_25, if_neg h_48]
                  first
                    | rw [if_pos h_52]; exact ⟨rfl, rfl⟩
                    | rw [if_neg h_52, if_pos h_66]; exact ⟨rfl, rfl⟩
                    | rw [if_neg h_52, if_neg h_66, if_pos h_80]; exact ⟨rfl, rfl⟩
                    | rw [if_neg h_52, if_neg h_66, if_neg h_80, if_pos h_94]; exact ⟨rfl, rfl⟩
                    | rw [if_neg h_52, if_neg h_66, if_neg h_80, if_neg h_94]; exact ⟨rfl, rfl⟩
                · refine x_aload_n (pc := 97) dX12_told_97 rfl ?_
                  refine m_getR (pc := 98) hM dX12_told_98 fk_12_41 (Or.inr ⟨_, rfl⟩) (Or.inl (by decide)) ?_
                  refine x_iload_n (pc := 101) dX12_told_101 rfl ?_
                  refine m_iald (pc := 102) hM dX12_told_102 (rfl) (by show i < 5; omega) ?_
                  refine x_goto (pc := 103) (tgt := 112) dX12_told_103 rfl ?_
                  refine x_ireturn (pc := 112) dX12_told_112 rfl rfl ?_
                  rw [tdR, if_pos ⟨bi_n0 h_5, bi_n0 h_17⟩, nn_nI (show i < 2 ^ 31 by omega), if_pos h_25, if_neg h_48]
                  first
                    | rw [if_pos h_52]; exact ⟨rfl, rfl⟩
                    | rw [if_neg h_52, if_pos h_66]; exact ⟨rfl, rfl⟩
                    | rw [if_neg h_52, if_neg h_66, if_pos h_80]; exact ⟨rfl, rfl⟩
                    | rw [if_neg h_52, if_neg h_66, if_neg h_80, if_pos h_94]; exact ⟨rfl, rfl⟩
                    | rw [if_neg h_52, if_neg h_66, if_neg h_80, if_neg h_94]; exact ⟨rfl, rfl⟩
              · refine x_aload_n (pc := 83) dX12_told_83 rfl ?_
                refine m_getR (pc := 84) hM dX12_told_84 fk_12_38 (Or.inr ⟨_, rfl⟩) (Or.inl (by decide)) ?_
                refine x_iload_n (pc := 87) dX12_told_87 rfl ?_
                refine m_iald (pc := 88) hM dX12_told_88 (rfl) (by show i < 5; omega) ?_
                refine x_goto (pc := 89) (tgt := 112) dX12_told_89 rfl ?_
                refine x_ireturn (pc := 112) dX12_told_112 rfl rfl ?_
                rw [tdR, if_pos ⟨bi_n0 h_5, bi_n0 h_17⟩, nn_nI (show i < 2 ^ 31 by omega), if_pos h_25, if_neg h_48]
                first
                  | rw [if_pos h_52]; exact ⟨rfl, rfl⟩
                  | rw [if_neg h_52, if_pos h_66]; exact ⟨rfl, rfl⟩
                  | rw [if_neg h_52, if_neg h_66, if_pos h_80]; exact ⟨rfl, rfl⟩
                  | rw [if_neg h_52, if_neg h_66, if_neg h_80, if_pos h_94]; exact ⟨rfl, rfl⟩
                  | rw [if_neg h_52, if_neg h_66, if_neg h_80, if_neg h_94]; exact ⟨rfl, rfl⟩
            · refine x_aload_n (pc := 69) dX12_told_69 rfl ?_
              refine m_getR (pc := 70) hM dX12_told_70 fk_12_35 (Or.inr ⟨_, rfl⟩) (Or.inl (by decide)) ?_
              refine x_iload_n (pc := 73) dX12_told_73 rfl ?_
              refine m_iald (pc := 74) hM dX12_told_74 (rfl) (by show i < 5; omega) ?_
              refine x_goto (pc := 75) (tgt := 112) dX12_told_75 rfl ?_
              refine x_ireturn (pc := 112) dX12_told_112 rfl rfl ?_
              rw [tdR, if_pos ⟨bi_n0 h_5, bi_n0 h_17⟩, nn_nI (show i < 2 ^ 31 by omega), if_pos h_25, if_neg h_48]
              first
                | rw [if_pos h_52]; exact ⟨rfl, rfl⟩
                | rw [if_neg h_52, if_pos h_66]; exact ⟨rfl, rfl⟩
                | rw [if_neg h_52, if_neg h_66, if_pos h_80]; exact ⟨rfl, rfl⟩
                | rw [if_neg h_52, if_neg h_66, if_neg h_80, if_pos h_94]; exact ⟨rfl, rfl⟩
                | rw [if_neg h_52, if_neg h_66, if_neg h_80, if_neg h_94]; exact ⟨rfl, rfl⟩
          · refine x_aload_n (pc := 55) dX12_told_55 rfl ?_
            refine m_getR (pc := 56) hM dX12_told_56 fk_12_32 (Or.inr ⟨_, rfl⟩) (Or.inl (by decide)) ?_
            refine x_iload_n (pc := 59) dX12_told_59 rfl ?_
            refine m_iald (pc := 60) hM dX12_told_60 (rfl) (by show i < 5; omega) ?_
            refine x_goto (pc := 61) (tgt := 112) dX12_told_61 rfl ?_
            refine x_ireturn (pc := 112) dX12_told_112 rfl rfl ?_
            rw [tdR, if_pos ⟨bi_n0 h_5, bi_n0 h_17⟩, nn_nI (show i < 2 ^ 31 by omega), if_pos h_25, if_neg h_48]
            first
              | rw [if_pos h_52]; exact ⟨rfl, rfl⟩
              | rw [if_neg h_52, if_pos h_66]; exact ⟨rfl, rfl⟩
              | rw [if_neg h_52, if_neg h_66, if_pos h_80]; exact ⟨rfl, rfl⟩
              | rw [if_neg h_52, if_neg h_66, if_neg h_80, if_pos h_94]; exact ⟨rfl, rfl⟩
              | rw [if_neg h_52, if_neg h_66, if_neg h_80, if_neg h_94]; exact ⟨rfl, rfl⟩
      · refine x_aload_n (pc := 28) dX12_told_28 rfl ?_
        refine x_iload_n (pc := 29) dX12_told_29 rfl ?_
        refine x_iload_n (pc := 30) dX12_told_30 rfl ?_
        refine x_bipush (pc := 31) (v := 6) dX12_told_31 rfl ?_
        refine x_isub (pc := 33) dX12_told_33 ?_
        refine x_callV (pc := 34) (As := [.int _, .int _]) dX12_told_34 mX12_stands lk_12_130 hM.1 (c_stands hM _ rfl (by omega)) rfl rfl (Nat.le_of_ble_eq_true rfl) ⟨by decide, by decide⟩ ⟨Nat.zero_le _, Nat.zero_le _⟩ (k_rt ?_)
        refine x_if_eq (pc := 37) (tgt := 44) dX12_told_37 rfl (fun h_37 => ?_) (fun h_37 => ?_)
        · refine x_iconst (pc := 44) (v := 0) dX12_told_44 rfl ?_
          refine x_ireturn (pc := 45) dX12_told_45 rfl rfl ?_
          rw [tdR, if_pos ⟨bi_n0 h_5, bi_n0 h_17⟩, nn_nI (show i < 2 ^ 31 by omega), if_neg h_25]
          exact ⟨by first | rw [h_37] | rw [(stI_b _ _).resolve_left h_37], rfl⟩
        · refine x_iconst (pc := 40) (v := 1) dX12_told_40 rfl ?_
          refine x_goto (pc := 41) (tgt := 45) dX12_told_41 rfl ?_
          refine x_ireturn (pc := 45) dX12_told_45 rfl rfl ?_
          rw [tdR, if_pos ⟨bi_n0 h_5, bi_n0 h_17⟩, nn_nI (show i < 2 ^ 31 by omega), if_neg h_25]
          exact ⟨by first | rw [h_37] | rw [(stI_b _ _).resolve_left h_37], rfl⟩
    · refine x_bipush (pc := 20) (v := -100) dX12_told_20 rfl ?_
      refine x_ireturn (pc := 22) dX12_told_22 rfl rfl ?_
      exact ⟨by rw [tdR, if_neg (by rintro ⟨q1, q2⟩; first | exact absurd h_5 (by rw [bi_t q1]; decide) | exact absurd h_17 (by rw [bi_t q2]; decide))], rfl⟩
end M35
