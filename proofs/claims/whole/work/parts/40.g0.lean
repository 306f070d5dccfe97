/-! the reference's reader: the machine does as the functions -/
section M40
variable {Γ : Gm} {μ : Mem} {a : Ma} {σ : MS}
theorem g_N {f n : Nat} {p : PT} (hM : MOK μ a) (hO : rdO σ f n) (h : okp n p) : XM Γ zX12_next 2 0 0 [.ref a.1] (MV μ a (Pσ σ p)) (rv (MV μ a (Pσ σ (pN σ f n p)))) := c_next hM hO h.1
theorem g_F {n : Nat} {p : PT} (hM : MOK μ a) (h : okp n p) : XM Γ zX12_fail 1 0 0 [.ref a.1] (MV μ a (Pσ σ p)) (rv (MV μ a (Pσ σ (pF p)))) := c_fail hM h.2.2.2.2.1
theorem g_S {n : Nat} {p : PT} (hM : MOK μ a) (h : okp n p) (c : Int32) : XM Γ zX12_isSign 1 0 0 [.ref a.1, .int c] (MV μ a (Pσ σ p)) (rt (.int (qS c p)) (MV μ a (Pσ σ p))) := c_isSign hM h.2.2.2.2.1 h.2.1 c
theorem g_W {f n : Nat} {p : PT} (hM : MOK μ a) (hO : rdO σ f n) (h : okp n p) (c0 c1 c2 c3 c4 c5 c6 c7 : Int32) : XM Γ zX12_isWord 3 0 0 [.ref a.1, .int c0, .int c1, .int c2, .int c3, .int c4, .int c5, .int c6, .int c7] (MV μ a (Pσ σ p)) (rt (.int (qW σ f n c0 c1 c2 c3 c4 c5 c6 c7 p)) (MV μ a (Pσ σ p))) := c_isWord hM hO h.2.2.2.2.1 h.2.1 (by have := hO.2.2.1; have := h.1; omega) (by have := hO.2.2.1; have := h.2.2.1; omega) c0 c1 c2 c3 c4 c5 c6 c7
theorem Pσ_op {p : PT} {v : Nat} : tI (Pσ σ p) 28 (nI v) = Pσ σ (pO p v) := PS_op
theorem g_O5 {n : Nat} {p : PT} (hM : MOK μ a) (h : okp n p) (h5 : pop p = 5) : XM Γ zX12_opens 3 0 0 [.ref a.1] (MV μ a (Pσ σ p)) (rt (.int 0) (MV μ a (Pσ σ (pF p)))) := by
  refine XM.of 0 rfl (by decide) (Nat.le_of_ble_eq_true rfl) ?_
  refine x_aload_n (pc := 0) dX12_opens_0 rfl ?_
  refine m_getIv (pc := 1) (v := nI (pop p)) hM dX12_opens_1 fk_12_191 (Or.inl rfl) (rfl) ?_
  refine x_iconst (pc := 4) (v := 5) dX12_opens_4 rfl ?_
  refine x_icmp_ne (pc := 5) (tgt := 14) dX12_opens_5 rfl (fun h_5 => absurd (by rw [h5]; rfl) h_5) (fun h_5 => ?_)
  refine x_aload_n (pc := 8) dX12_opens_8 rfl ?_
  refine x_callV (pc := 9) (As := []) dX12_opens_9 mX12_fail lk_12_194 hM.1 (g_F hM h) rfl rfl (Nat.le_of_ble_eq_true rfl) ⟨by decide, by decide⟩ ⟨Nat.zero_le _, Nat.zero_le _⟩ (k_rv ?_)
  refine x_iconst (pc := 12) (v := 0) dX12_opens_12 rfl ?_
  refine x_ireturn (pc := 13) dX12_opens_13 rfl (by first | rfl | exact bi_nz) ?_
  exact ⟨rfl, rfl⟩
theorem g_O {f n : Nat} {p : PT} (hM : MOK μ a) (hO : rdO σ f n) (h : okp n p) (h5 : ¬ pop p = 5) : XM Γ zX12_opens 3 0 0 [.ref a.1] (MV μ a (Pσ σ p)) (rt (.int 1) (MV μ a (Pσ σ (pOp σ f n p)))) := by
  refine XM.of 0 rfl (by decide) (Nat.le_of_ble_eq_true rfl) ?_
  have h4 : pop p ≤ 5 := h.2.2.2.1
  refine x_aload_n (pc := 0) dX12_opens_0 rfl ?_
  refine m_getIv (pc := 1) (v := nI (pop p)) hM dX12_opens_1 fk_12_191 (Or.inl rfl) (rfl) ?_
  refine x_iconst (pc := 4) (v := 5) dX12_opens_4 rfl ?_
  refine x_icmp_ne (pc := 5) (tgt := 14) dX12_opens_5 rfl (fun h_5 => ?_) (fun h_5 => absurd h_5 (fun z => h5 ((nI_eq (b := 5) (by omega) (by omega)).mp z)))
  refine x_aload_n (pc := 14) dX12_opens_14 rfl ?_
  refine x_dup (pc := 15) dX12_opens_15 rfl ?_
  refine m_getIv (pc := 16) (v := nI (pop p)) hM dX12_opens_16 fk_12_191 (Or.inl rfl) (rfl) ?_
  refine x_iconst (pc := 19) (v := 1) dX12_opens_19 rfl ?_
  refine x_iadd (pc := 20) dX12_opens_20 ?_
  rw [nI_1]
  refine m_putI (pc := 21) hM dX12_opens_21 fk_12_191 rfl (Or.inl rfl) ?_
  rw [Pσ_op]
  refine x_aload_n (pc := 24) dX12_opens_24 rfl ?_
  refine x_callV (pc := 25) (As := []) dX12_opens_25 mX12_next lk_12_197 hM.1 (g_N hM hO (pO_ok h (by omega))) rfl rfl (Nat.le_of_ble_eq_true rfl) ⟨by decide, by decide⟩ ⟨Nat.zero_le _, Nat.zero_le _⟩ (k_rv ?_)
  refine x_iconst (pc := 28) (v := 1) dX12_opens_28 rfl ?_
  refine x_ireturn (pc := 29) dX12_opens_29 rfl (by first | rfl | exact bi_nz) ?_
  exact ⟨rfl, rfl⟩
theorem g_name {f n : Nat} {p : PT} (hM : MOK μ a) (hO : rdO σ f n) (h : okp n p) : XM Γ zX12_name 4 0 0 [.ref a.1] (MV μ a (Pσ σ p)) (rt (.int (pnm σ f n p).1) (MV μ a (Pσ σ (pnm σ f n p).2))) := by
  refine XM.of 0 rfl (by decide) (Nat.le_of_ble_eq_true rfl) ?_
  refine x_aload_n (pc := 0) dX12_name_0 rfl ?_
  refine x_bipush (pc := 1) (v := 116) dX12_name_1 rfl ?_
  refine x_bipush (pc := 3) (v := 104) dX12_name_3 rfl ?_
  refine x_bipush (pc := 5) (v := 105) dX12_name_5 rfl ?_
  refine x_bipush (pc := 7) (v := 110) dX12_name_7 rfl ?_
  refine x_bipush (pc := 9) (v := 103) dX12_name_9 rfl ?_
  refine x_iconst (pc := 11) (v := 0) dX12_name_11 rfl ?_
  refine x_iconst (pc := 12) (v := 0) dX12_name_12 rfl ?_
  refine x_iconst (pc := 13) (v := 0) dX12_name_13 rfl ?_
  refine x_callV (pc := 14) (As := [.int _, .int _, .int _, .int _, .int _, .int _, .int _, .int _]) dX12_name_14 mX12_isWord lk_12_200 hM.1 (g_W hM hO h _ _ _ _ _ _ _ _) rfl rfl (Nat.le_of_ble_eq_true rfl) ⟨by decide, by decide⟩ ⟨Nat.zero_le _, Nat.zero_le _⟩ (k_rt ?_)
  refine x_if_eq (pc := 17) (tgt := 25) dX12_name_17 rfl (fun h_17 => ?_) (fun h_17 => ?_)
  · refine x_aload_n (pc := 25) dX12_name_25 rfl ?_
    refine x_bipush (pc := 26) (v := 112) dX12_name_26 rfl ?_
    refine x_bipush (pc := 28) (v := 108) dX12_name_28 rfl ?_
    refine x_bipush (pc := 30) (v := 97) dX12_name_30 rfl ?_
    refine x_bipush (pc := 32) (v := 99) dX12_name_32 rfl ?_
    refine x_bipush (pc := 34) (v := 101) dX12_name_34 rfl ?_
    refine x_iconst (pc := 36) (v := 0) dX12_name_36 rfl ?_
    refine x_iconst (pc := 37) (v := 0) dX12_name_37 rfl ?_
    refine x_iconst (pc := 38) (v := 0) dX12_name_38 rfl ?_
    refine x_callV (pc := 39) (As := [.int _, .int _, .int _, .int _, .int _, .int _, .int _, .int _]) dX12_name_39 mX12_isWord lk_12_200 hM.1 (g_W hM hO h _ _ _ _ _ _ _ _) rfl rfl (Nat.le_of_ble_eq_true rfl) ⟨by decide, by decide⟩ ⟨Nat.zero_le _, Nat.zero_le _⟩ (k_rt ?_)
    refine x_if_eq (pc := 42) (tgt := 50) dX12_name_42 rfl (fun h_42 => ?_) (fun h_42 => ?_)
    · refine x_aload_n (pc := 50) dX12_name_50 rfl ?_
      refine x_bipush (pc := 51) (v := 103) dX12_name_51 rfl ?_
      refine x_bipush (pc := 53) (v := 105) dX12_name_53 rfl ?_
      refine x_bipush (pc := 55) (v := 118) dX12_name_55 rfl ?_
      refine x_bipush (pc := 57) (v := 101) dX12_name_57 rfl ?_
      refine x_bipush (pc := 59) (v := 114) dX12_name_59 rfl ?_
      refine x_iconst (pc := 61) (v := 0) dX12_name_61 rfl ?_
      refine x_iconst (pc := 62) (v := 0) dX12_name_62 rfl ?_
      refine x_iconst (pc := 63) (v := 0) dX12_name_63 rfl ?_
      refine x_callV (pc := 64) (As := [.int _, .int _, .int _, .int _, .int _, .int _, .int _, .int _]) dX12_name_64 mX12_isWord lk_12_200 hM.1 (g_W hM hO h _ _ _ _ _ _ _ _) rfl rfl (Nat.le_of_ble_eq_true rfl) ⟨by decide, by decide⟩ ⟨Nat.zero_le _, Nat.zero_le _⟩ (k_rt ?_)
      refine x_if_eq (pc := 67) (tgt := 75) dX12_name_67 rfl (fun h_67 => ?_) (fun h_67 => ?_)
      · refine x_aload_n (pc := 75) dX12_name_75 rfl ?_
        refine x_bipush (pc := 76) (v := 103) dX12_name_76 rfl ?_
        refine x_bipush (pc := 78) (v := 117) dX12_name_78 rfl ?_
        refine x_bipush (pc := 80) (v := 101) dX12_name_80 rfl ?_
        refine x_bipush (pc := 82) (v := 115) dX12_name_82 rfl ?_
        refine x_bipush (pc := 84) (v := 116) dX12_name_84 rfl ?_
        refine x_bipush (pc := 86) (v := 115) dX12_name_86 rfl ?_
        refine x_iconst (pc := 88) (v := 0) dX12_name_88 rfl ?_
        refine x_iconst (pc := 89) (v := 0) dX12_name_89 rfl ?_
        refine x_callV (pc := 90) (As := [.int _, .int _, .int _, .int _, .int _, .int _, .int _, .int _]) dX12_name_90 mX12_isWord lk_12_200 hM.1 (g_W hM hO h _ _ _ _ _ _ _ _) rfl rfl (Nat.le_of_ble_eq_true rfl) ⟨by decide, by decide⟩ ⟨Nat.zero_le _, Nat.zero_le _⟩ (k_rt ?_)
        refine x_if_eq (pc := 93) (tgt := 101) dX12_name_93 rfl (fun h_93 => ?_) (fun h_93 => ?_)
        · refine x_aload_n (pc := 101) dX12_name_101 rfl ?_
          refine x_bipush (pc := 102) (v := 108) dX12_name_102 rfl ?_
          refine x_bipush (pc := 104) (v := 111) dX12_name_104 rfl ?_
          refine x_bipush (pc := 106) (v := 111) dX12_name_106 rfl ?_
          refine x_bipush (pc := 108) (v := 107) dX12_name_108 rfl ?_
          refine x_iconst (pc := 110) (v := 0) dX12_name_110 rfl ?_
          refine x_iconst (pc := 111) (v := 0) dX12_name_111 rfl ?_
          refine x_iconst (pc := 112) (v := 0) dX12_name_112 rfl ?_
          refine x_iconst (pc := 113) (v := 0) dX12_name_113 rfl ?_
          refine x_callV (pc := 114) (As := [.int _, .int _, .int _, .int _, .int _, .int _, .int _, .int _]) dX12_name_114 mX12_isWord lk_12_200 hM.1 (g_W hM hO h _ _ _ _ _ _ _ _) rfl rfl (Nat.le_of_ble_eq_true rfl) ⟨by decide, by decide⟩ ⟨Nat.zero_le _, Nat.zero_le _⟩ (k_rt ?_)
          refine x_if_eq (pc := 117) (tgt := 125) dX12_name_117 rfl (fun h_117 => ?_) (fun h_117 => ?_)
          · refine x_aload_n (pc := 125) dX12_name_125 rfl ?_
            refine x_bipush (pc := 126) (v := 110) dX12_name_126 rfl ?_
            refine x_bipush (pc := 128) (v := 117) dX12_name_128 rfl ?_
            refine x_bipush (pc := 130) (v := 109) dX12_name_130 rfl ?_
            refine x_bipush (pc := 132) (v := 98) dX12_name_132 rfl ?_
            refine x_bipush (pc := 134) (v := 101) dX12_name_134 rfl ?_
            refine x_bipush (pc := 136) (v := 114) dX12_name_136 rfl ?_
            refine x_iconst (pc := 138) (v := 0) dX12_name_138 rfl ?_
            refine x_iconst (pc := 139) (v := 0) dX12_name_139 rfl ?_
            refine x_callV (pc := 140) (As := [.int _, .int _, .int _, .int _, .int _, .int _, .int _, .int _]) dX12_name_140 mX12_isWord lk_12_200 hM.1 (g_W hM hO h _ _ _ _ _ _ _ _) rfl rfl (Nat.le_of_ble_eq_true rfl) ⟨by decide, by decide⟩ ⟨Nat.zero_le _, Nat.zero_le _⟩ (k_rt ?_)
            refine x_if_eq (pc := 143) (tgt := 151) dX12_name_143 rfl (fun h_143 => ?_) (fun h_143 => ?_)
            · refine x_aload_n (pc := 151) dX12_name_151 rfl ?_
              refine x_callV (pc := 152) (As := []) dX12_name_152 mX12_fail lk_12_194 hM.1 (g_F hM h) rfl rfl (Nat.le_of_ble_eq_true rfl) ⟨by decide, by decide⟩ ⟨Nat.zero_le _, Nat.zero_le _⟩ (k_rv ?_)
              refine x_iconst (pc := 155) (v := 0) dX12_name_155 rfl ?_
              refine x_ireturn (pc := 156) dX12_name_156 rfl rfl ?_
              rw [pnm, if_neg (not_not_intro h_17), if_neg (not_not_intro h_42), if_neg (not_not_intro h_67), if_neg (not_not_intro h_93), if_neg (not_not_intro h_117), if_neg (not_not_intro h_143)]
              exact ⟨rfl, rfl⟩
            · refine x_aload_n (pc := 146) dX12_name_146 rfl ?_
              refine m_getI (pc := 147) hM dX12_name_147 fk_12_219 (Or.inl rfl) ?_
              refine x_ireturn (pc := 150) dX12_name_150 rfl rfl ?_
              rw [pnm, if_neg (not_not_intro h_17), if_neg (not_not_intro h_42), if_neg (not_not_intro h_67), if_neg (not_not_intro h_93), if_neg (not_not_intro h_117), if_pos h_143]
              exact ⟨rfl, rfl⟩
          · refine x_aload_n (pc := 120) dX12_name_120 rfl ?_
            refine m_getI (pc := 121) hM dX12_name_121 fk_12_216 (Or.inl rfl) ?_
            refine x_ireturn (pc := 124) dX12_name_124 rfl rfl ?_
            rw [pnm, if_neg (not_not_intro h_17), if_neg (not_not_intro h_42), if_neg (not_not_intro h_67), if_neg (not_not_intro h_93), if_pos h_117]
            exact ⟨rfl, rfl⟩
        · refine x_aload_n (pc := 96) dX12_name_96 rfl ?_
          refine m_getI (pc := 97) hM dX12_name_97 fk_12_213 (Or.inl rfl) ?_
          refine x_ireturn (pc := 100) dX12_name_100 rfl rfl ?_
          rw [pnm, if_neg (not_not_intro h_17), if_neg (not_not_intro h_42), if_neg (not_not_intro h_67), if_pos h_93]
          exact ⟨rfl, rfl⟩
      · refine x_aload_n (pc := 70) dX12_name_70 rfl ?_
        refine m_getI (pc := 71) hM dX12_name_71 fk_12_210 (Or.inl rfl) ?_
        refine x_ireturn (pc := 74) dX12_name_74 rfl rfl ?_
        rw [pnm, if_neg (not_not_intro h_17), if_neg (not_not_intro h_42), if_pos h_67]
        exact ⟨rfl, rfl⟩
    · refine x_aload_n (pc := 45) dX12_name_45 rfl ?_
      refine m_getI (pc := 46) hM dX12_name_46 fk_12_207 (Or.inl rfl) ?_
      refine x_ireturn (pc := 49) dX12_name_49 rfl rfl ?_
      rw [pnm, if_neg (not_not_intro h_17), if_pos h_42]
      exact ⟨rfl, rfl⟩
  · refine x_aload_n (pc := 20) dX12_name_20 rfl ?_
    refine m_getI (pc := 21) hM dX12_name_21 fk_12_204 (Or.inl rfl) ?_
    refine x_ireturn (pc := 24) dX12_name_24 rfl rfl ?_
    rw [pnm, if_pos h_17]
    exact ⟨rfl, rfl⟩
theorem s_atom {f n : Nat} (hM : MOK μ a) (hO : rdO σ f n) (N : Nat) (c0 : ∀ p, okp n p → 7 * (5 - pop p) + 0 < N → XM Γ zX12_atom (N + 4) 0 0 [.ref a.1] (MV μ a (Pσ σ p)) (rt (.int (pz σ f n N 0 p).1) (MV μ a (Pσ σ (pz σ f n N 0 p).2)))) (c5 : ∀ p, okp n p → 7 * (5 - pop p) + 5 < N → XM Γ zX12_either (N + 4) 0 0 [.ref a.1] (MV μ a (Pσ σ p)) (rt (.int (pz σ f n N 5 p).1) (MV μ a (Pσ σ (pz σ f n N 5 p).2)))) : ∀ p, okp n p → 7 * (5 - pop p) + 0 < N + 1 → XM Γ zX12_atom (N + 1 + 4) 0 0 [.ref a.1] (MV μ a (Pσ σ p)) (rt (.int (pz σ f n (N + 1) 0 p).1) (MV μ a (Pσ σ (pz σ f n (N + 1) 0 p).2))) := by
  intro p h hd
  have h4 : pop p ≤ 5 := h.2.2.2.1
  refine XM.of 1 rfl (by decide) (Nat.le_of_ble_eq_true rfl) ?_
  have A5 : ¬ qS 45 p = 0 → pop p = 5 → WA Γ zX12_atom (xrm (N + 5) 0 0) 0 0 0 0 (rt (.int (pz σ f n (N + 1) 0 p).1) (MV μ a (Pσ σ (pz σ f n (N + 1) 0 p).2))) 11 [some (.ref a.1), some (.int 0)] [] (MV μ a (Pσ σ p)) := by
    intro q h5
    refine x_aload_n (pc := 11) dX12_atom_11 rfl ?_
    refine x_callV (pc := 12) (As := []) dX12_atom_12 mX12_opens lk_12_225 hM.1 (g_O5 hM h h5) rfl rfl (Nat.le_of_ble_eq_true rfl) ⟨by show _ ≤ N + 5; omega, by show _ ≤ 64 * (N + 5); omega⟩ ⟨Nat.zero_le _, Nat.zero_le _⟩ (k_rt ?_)
    refine x_if_eq (pc := 15) (tgt := 161) dX12_atom_15 rfl (fun h_15 => ?_) (fun h_15 => absurd (rfl) h_15)
    refine x_iload_n (pc := 161) dX12_atom_161 rfl ?_
    refine x_ireturn (pc := 162) dX12_atom_162 rfl rfl ?_
    show rt (.int (pAt σ f n (pz σ f n N 0) (pz σ f n N 5) p).1) (MV μ a (Pσ σ (pAt σ f n (pz σ f n N 0) (pz σ f n N 5) p).2)) _ _
    rw [pAt, if_pos q, if_pos h5]
    exact ⟨rfl, rfl⟩
  have B5 : qS 45 p = 0 → ¬ qS 40 p = 0 → pop p = 5 → WA Γ zX12_atom (xrm (N + 5) 0 0) 0 0 0 0 (rt (.int (pz σ f n (N + 1) 0 p).1) (MV μ a (Pσ σ (pz σ f n (N + 1) 0 p).2))) 46 [some (.ref a.1), some (.int 0)] [] (MV μ a (Pσ σ p)) := by
    intro q q2 h5
    refine x_aload_n (pc := 46) dX12_atom_46 rfl ?_
    refine x_callV (pc := 47) (As := []) dX12_atom_47 mX12_opens lk_12_225 hM.1 (g_O5 hM h h5) rfl rfl (Nat.le_of_ble_eq_true rfl) ⟨by show _ ≤ N + 5; omega, by show _ ≤ 64 * (N + 5); omega⟩ ⟨Nat.zero_le _, Nat.zero_le _⟩ (k_rt ?_)
    refine x_if_eq (pc := 50) (tgt := 161) dX12_atom_50 rfl (fun h_50 => ?_) (fun h_50 => absurd (rfl) h_50)
    refine x_iload_n (pc := 161) dX12_atom_161 rfl ?_
    refine x_ireturn (pc := 162) dX12_atom_162 rfl rfl ?_
    show rt (.int (pAt σ f n (pz σ f n N 0) (pz σ f n N 5) p).1) (MV μ a (Pσ σ (pAt σ f n (pz σ f n N 0) (pz σ f n N 5) p).2)) _ _
    rw [pAt, if_neg (not_not_intro q), if_pos q2, if_pos h5]
    exact ⟨rfl, rfl⟩
  have A : ¬ qS 45 p = 0 → ¬ pop p = 5 → WA Γ zX12_atom (xrm (N + 5) 0 0) 0 0 0 0 (rt (.int (pz σ f n (N + 1) 0 p).1) (MV μ a (Pσ σ (pz σ f n (N + 1) 0 p).2))) 11 [some (.ref a.1), some (.int 0)] [] (MV μ a (Pσ σ p)) := by
    intro q h5
    have k := kp_op hO h h5 (pz_kp hO N 0)
    have eop : pop (pz σ f n N 0 (pOp σ f n p)).2 = pop p + 1 := k.1.2.2.trans k.2.2.1
    refine x_aload_n (pc := 11) dX12_atom_11 rfl ?_
    refine x_callV (pc := 12) (As := []) dX12_atom_12 mX12_opens lk_12_225 hM.1 (g_O hM hO h h5) rfl rfl (Nat.le_of_ble_eq_true rfl) ⟨by show _ ≤ N + 5; omega, by show _ ≤ 64 * (N + 5); omega⟩ ⟨Nat.zero_le _, Nat.zero_le _⟩ (k_rt ?_)
    refine x_if_eq (pc := 15) (tgt := 161) dX12_atom_15 rfl (fun h_15 => absurd h_15 (by decide)) (fun h_15 => ?_)
    refine x_aload_n (pc := 18) dX12_atom_18 rfl ?_
    refine x_callV (pc := 19) (As := []) dX12_atom_19 mX12_atom lk_12_229 hM.1 (c0 _ k.2.2.2 (by rw [k.2.2.1]; omega)) rfl rfl (Nat.le_of_ble_eq_true rfl) ⟨by show _ ≤ N + 5; omega, by show _ ≤ 64 * (N + 5); omega⟩ ⟨Nat.zero_le _, Nat.zero_le _⟩ (k_rt ?_)
    refine x_ineg (pc := 22) dX12_atom_22 ?_
    refine x_istore_n (pc := 23) (lv2 := [_, _]) dX12_atom_23 (by decide) rfl rfl ?_
    refine x_aload_n (pc := 24) dX12_atom_24 rfl ?_
    refine x_dup (pc := 25) dX12_atom_25 rfl ?_
    refine m_getIv (pc := 26) (v := nI (pop ((pz σ f n N 0 (pOp σ f n p)).2))) hM dX12_atom_26 fk_12_191 (Or.inl rfl) (rfl) ?_
    refine x_iconst (pc := 29) (v := 1) dX12_atom_29 rfl ?_
    refine x_isub (pc := 30) dX12_atom_30 ?_
    rw [show (1 : Int32) = nI 1 from rfl, pk_sub (by omega)]
    refine m_putI (pc := 31) hM dX12_atom_31 fk_12_191 rfl (Or.inl rfl) ?_
    rw [Pσ_op]
    refine x_goto (pc := 34) (tgt := 161) dX12_atom_34 rfl ?_
    refine x_iload_n (pc := 161) dX12_atom_161 rfl ?_
    refine x_ireturn (pc := 162) dX12_atom_162 rfl rfl ?_
    show rt (.int (pAt σ f n (pz σ f n N 0) (pz σ f n N 5) p).1) (MV μ a (Pσ σ (pAt σ f n (pz σ f n N 0) (pz σ f n N 5) p).2)) _ _
    rw [pAt, if_pos q, if_neg h5]
    exact ⟨rfl, rfl⟩
  have B : qS 45 p = 0 → ¬ qS 40 p = 0 → ¬ pop p = 5 → WA Γ zX12_atom (xrm (N + 5) 0 0) 0 0 0 0 (rt (.int (pz σ f n (N + 1) 0 p).1) (MV μ a (Pσ σ (pz σ f n (N + 1) 0 p).2))) 46 [some (.ref a.1), some (.int 0)] [] (MV μ a (Pσ σ p)) := by
    intro q q2 h5
    have k := kp_op hO h h5 (pz_kp hO N 5)
    have eop : pop (pz σ f n N 5 (pOp σ f n p)).2 = pop p + 1 := k.1.2.2.trans k.2.2.1
    have T : ∀ (v : Int32) (r : PT), okp n r → pop r = pop p + 1 → WA Γ zX12_atom (xrm (N + 5) 0 0) 0 0 0 0 (rt (.int v) (MV μ a (Pσ σ (pCl σ f n r)))) 58 [some (.ref a.1), some (.int v)] [] (MV μ a (Pσ σ r)) := by
      intro v r hr er
      have T2 : ∀ (r2 : PT), okp n r2 → pop r2 = pop p + 1 → r2 = (if qS 41 r = 0 then pF r else r) → WA Γ zX12_atom (xrm (N + 5) 0 0) 0 0 0 0 (rt (.int v) (MV μ a (Pσ σ (pCl σ f n r)))) 71 [some (.ref a.1), some (.int v)] [] (MV μ a (Pσ σ r2)) := by
        intro r2 hr2 er2 e2
        refine x_aload_n (pc := 71) dX12_atom_71 rfl ?_
        refine x_dup (pc := 72) dX12_atom_72 rfl ?_
        refine m_getIv (pc := 73) (v := nI (pop (r2))) hM dX12_atom_73 fk_12_191 (Or.inl rfl) (rfl) ?_
        refine x_iconst (pc := 76) (v := 1) dX12_atom_76 rfl ?_
        refine x_isub (pc := 77) dX12_atom_77 ?_
        rw [show (1 : Int32) = nI 1 from rfl, pk_sub (by omega), er2, ← er]
        refine m_putI (pc := 78) hM dX12_atom_78 fk_12_191 rfl (Or.inl rfl) ?_
        rw [Pσ_op]
        refine x_aload_n (pc := 81) dX12_atom_81 rfl ?_
        refine m_getIv (pc := 82) (v := nI (pbd r2)) hM dX12_atom_82 fk_12_181 (Or.inr rfl) (rfl) ?_
        refine x_if_ne (pc := 85) (tgt := 161) dX12_atom_85 rfl (fun h_85 => ?_) (fun h_85 => ?_)
        · refine x_iload_n (pc := 161) dX12_atom_161 rfl ?_
          refine x_ireturn (pc := 162) dX12_atom_162 rfl rfl ?_
          first
            | (have z : pbd r2 = 0 := (nI_eq (b := 0) (by have := hr2.2.2.2.2.1; show pbd r2 < _; unfold pbd; omega) (by omega)).mp (by first | exact h_85 | exact Decidable.not_not.mp h_85)
               have e : pCl σ f n r = pN σ f n (pO r2 (pop r - 1)) := by rw [pCl, ← e2, if_pos z]
               rw [e]
               exact ⟨rfl, rfl⟩)
            | (have z : ¬ pbd r2 = 0 := fun z => h_85 (by rw [z]; rfl)
               have e : pCl σ f n r = pO r2 (pop r - 1) := by rw [pCl, ← e2, if_neg z]
               rw [e]
               exact ⟨rfl, rfl⟩)
        · refine x_aload_n (pc := 88) dX12_atom_88 rfl ?_
          refine x_callV (pc := 89) (As := []) dX12_atom_89 mX12_next lk_12_197 hM.1 (g_N hM hO (pO_ok hr2 (by rw [er]; omega))) rfl rfl (Nat.le_of_ble_eq_true rfl) ⟨by show _ ≤ N + 5; omega, by show _ ≤ 64 * (N + 5); omega⟩ ⟨Nat.zero_le _, Nat.zero_le _⟩ (k_rv ?_)
          refine x_goto (pc := 92) (tgt := 161) dX12_atom_92 rfl ?_
          refine x_iload_n (pc := 161) dX12_atom_161 rfl ?_
          refine x_ireturn (pc := 162) dX12_atom_162 rfl rfl ?_
          first
            | (have z : pbd r2 = 0 := (nI_eq (b := 0) (by have := hr2.2.2.2.2.1; show pbd r2 < _; unfold pbd; omega) (by omega)).mp (by first | exact h_85 | exact Decidable.not_not.mp h_85)
               have e : pCl σ f n r = pN σ f n (pO r2 (pop r - 1)) := by rw [pCl, ← e2, if_pos z]
               rw [e]
               exact ⟨rfl, rfl⟩)
            | (have z : ¬ pbd r2 = 0 := fun z => h_85 (by rw [z]; rfl)
               have e : pCl σ f n r = pO r2 (pop r - 1) := by rw [pCl, ← e2, if_neg z]
               rw [e]
               exact ⟨rfl, rfl⟩)
      refine x_aload_n (pc := 58) dX12_atom_58 rfl ?_
      refine x_bipush (pc := 59) (v := 41) dX12_atom_59 rfl ?_
      refine x_callV (pc := 61) (As := [.int _]) dX12_atom_61 mX12_isSign lk_12_222 hM.1 (g_S hM hr _) rfl rfl (Nat.le_of_ble_eq_true rfl) ⟨by show _ ≤ N + 5; omega, by show _ ≤ 64 * (N + 5); omega⟩ ⟨Nat.zero_le _, Nat.zero_le _⟩ (k_rt ?_)
      refine x_if_ne (pc := 64) (tgt := 71) dX12_atom_64 rfl (fun h_64 => ?_) (fun h_64 => ?_)
      · first
          | exact T2 (pF r) (pF_ok hr).1 er (by rw [if_pos h_64])
          | exact T2 r hr er (by rw [if_neg h_64])
      · refine x_aload_n (pc := 67) dX12_atom_67 rfl ?_
        refine x_callV (pc := 68) (As := []) dX12_atom_68 mX12_fail lk_12_194 hM.1 (g_F hM hr) rfl rfl (Nat.le_of_ble_eq_true rfl) ⟨by show _ ≤ N + 5; omega, by show _ ≤ 64 * (N + 5); omega⟩ ⟨Nat.zero_le _, Nat.zero_le _⟩ (k_rv ?_)
        first
          | exact T2 (pF r) (pF_ok hr).1 er (by rw [if_pos h_64])
          | exact T2 r hr er (by rw [if_neg h_64])
    refine x_aload_n (pc := 46) dX12_atom_46 rfl ?_
    refine x_callV (pc := 47) (As := []) dX12_atom_47 mX12_opens lk_12_225 hM.1 (g_O hM hO h h5) rfl rfl (Nat.le_of_ble_eq_true rfl) ⟨by show _ ≤ N + 5; omega, by show _ ≤ 64 * (N + 5); omega⟩ ⟨Nat.zero_le _, Nat.zero_le _⟩ (k_rt ?_)
    refine x_if_eq (pc := 50) (tgt := 161) dX12_atom_50 rfl (fun h_50 => absurd h_50 (by decide)) (fun h_50 => ?_)
    refine x_aload_n (pc := 53) dX12_atom_53 rfl ?_
    refine x_callV (pc := 54) (As := []) dX12_atom_54 mX12_either lk_12_233 hM.1 (c5 _ k.2.2.2 (by rw [k.2.2.1]; omega)) rfl rfl (Nat.le_of_ble_eq_true rfl) ⟨by show _ ≤ N + 5; omega, by show _ ≤ 64 * (N + 5); omega⟩ ⟨Nat.zero_le _, Nat.zero_le _⟩ (k_rt ?_)
    refine x_istore_n (pc := 57) (lv2 := [_, _]) dX12_atom_57 (by decide) rfl rfl ?_
    have e : pz σ f n (N + 1) 0 p = ((pz σ f n N 5 (pOp σ f n p)).1, pCl σ f n (pz σ f n N 5 (pOp σ f n p)).2) := by
      show pAt σ f n (pz σ f n N 0) (pz σ f n N 5) p = _
      rw [pAt, if_neg (not_not_intro q), if_pos q2, if_neg h5]
    rw [e]
    exact T _ _ k.1.1 eop
  have hbd : nI (pbd p) = 0 → pbd p = 0 := fun z => (nI_eq (b := 0) (by have := h.2.2.2.2.1; show pbd p < _; unfold pbd; omega) (by omega)).mp z
  have htk : ∀ k : Nat, k < 5 → nI p.2.1 = nI k → p.2.1 = k := fun k hk z => (nI_eq (by have := h.2.1; omega) (by omega)).mp z
  refine x_iconst (pc := 0) (v := 0) dX12_atom_0 rfl ?_
  refine x_istore_n (pc := 1) (lv2 := [_, _]) dX12_atom_1 (by decide) rfl rfl ?_
  refine x_aload_n (pc := 2) dX12_atom_2 rfl ?_
  refine x_bipush (pc := 3) (v := 45) dX12_atom_3 rfl ?_
  refine x_callV (pc := 5) (As := [.int _]) dX12_atom_5 mX12_isSign lk_12_222 hM.1 (g_S hM h _) rfl rfl (Nat.le_of_ble_eq_true rfl) ⟨by show _ ≤ N + 5; omega, by show _ ≤ 64 * (N + 5); omega⟩ ⟨Nat.zero_le _, Nat.zero_le _⟩ (k_rt ?_)
  refine x_if_eq (pc := 8) (tgt := 37) dX12_atom_8 rfl (fun h_8 => ?_) (fun h_8 => ?_)
  · refine x_aload_n (pc := 37) dX12_atom_37 rfl ?_
    refine x_bipush (pc := 38) (v := 40) dX12_atom_38 rfl ?_
    refine x_callV (pc := 40) (As := [.int _]) dX12_atom_40 mX12_isSign lk_12_222 hM.1 (g_S hM h _) rfl rfl (Nat.le_of_ble_eq_true rfl) ⟨by show _ ≤ N + 5; omega, by show _ ≤ 64 * (N + 5); omega⟩ ⟨Nat.zero_le _, Nat.zero_le _⟩ (k_rt ?_)
    refine x_if_eq (pc := 43) (tgt := 95) dX12_atom_43 rfl (fun h_43 => ?_) (fun h_43 => ?_)
    · refine x_aload_n (pc := 95) dX12_atom_95 rfl ?_
      refine m_getIv (pc := 96) (v := nI (pbd p)) hM dX12_atom_96 fk_12_181 (Or.inr rfl) (rfl) ?_
      refine x_if_ne (pc := 99) (tgt := 123) dX12_atom_99 rfl (fun h_99 => ?_) (fun h_99 => ?_)
      · refine x_aload_n (pc := 123) dX12_atom_123 rfl ?_
        refine m_getIv (pc := 124) (v := nI (pbd p)) hM dX12_atom_124 fk_12_181 (Or.inr rfl) (rfl) ?_
        refine x_if_ne (pc := 127) (tgt := 157) dX12_atom_127 rfl (fun h_127 => ?_) (fun h_127 => ?_)
        · refine x_aload_n (pc := 157) dX12_atom_157 rfl ?_
          refine x_callV (pc := 158) (As := []) dX12_atom_158 mX12_fail lk_12_194 hM.1 (g_F hM h) rfl rfl (Nat.le_of_ble_eq_true rfl) ⟨by show _ ≤ N + 5; omega, by show _ ≤ 64 * (N + 5); omega⟩ ⟨Nat.zero_le _, Nat.zero_le _⟩ (k_rv ?_)
          refine x_iload_n (pc := 161) dX12_atom_161 rfl ?_
          refine x_ireturn (pc := 162) dX12_atom_162 rfl rfl ?_
          show rt (.int (pAt σ f n (pz σ f n N 0) (pz σ f n N 5) p).1) (MV μ a (Pσ σ (pAt σ f n (pz σ f n N 0) (pz σ f n N 5) p).2)) _ _
          rw [pAt, if_neg (not_not_intro h_8), if_neg (not_not_intro h_43)]
          first
            | (rw [if_pos ⟨hbd (by first | exact h_99 | exact Decidable.not_not.mp h_99), htk 2 (by omega) (by first | exact h_107 | exact Decidable.not_not.mp h_107)⟩]
               exact ⟨rfl, rfl⟩)
            | (rw [if_neg (by first | exact fun z => h_99 (by rw [z.1]; rfl) | exact fun z => h_107 (by rw [z.2]; rfl))]
               first
                 | (rw [if_neg (by first | exact fun z => h_127 (by rw [z.1]; rfl) | exact fun z => h_135 (by rw [z.2]; rfl))]
                    exact ⟨rfl, rfl⟩)
                 | (rw [if_pos ⟨hbd (by first | exact h_127 | exact Decidable.not_not.mp h_127), htk 1 (by omega) (by first | exact h_135 | exact Decidable.not_not.mp h_135)⟩]
                    have hb2 := (pnm_kp (σ := σ) (f := f) h).1.2.2.2.2.1
                    first
                      | (rw [if_neg (by exact fun z => h_147 (by rw [z]; rfl))]
                         exact ⟨rfl, rfl⟩)
                      | (rw [if_pos ((nI_eq (b := 0) (by show pbd _ < _; unfold pbd; omega) (by omega)).mp (by first | exact h_147 | exact Decidable.not_not.mp h_147))]
                         exact ⟨rfl, rfl⟩)))
        · refine x_aload_n (pc := 130) dX12_atom_130 rfl ?_
          refine m_getIv (pc := 131) (v := nI p.2.1) hM dX12_atom_131 fk_12_164 (Or.inl rfl) (rfl) ?_
          refine x_iconst (pc := 134) (v := 1) dX12_atom_134 rfl ?_
          refine x_icmp_ne (pc := 135) (tgt := 157) dX12_atom_135 rfl (fun h_135 => ?_) (fun h_135 => ?_)
          · refine x_aload_n (pc := 157) dX12_atom_157 rfl ?_
            refine x_callV (pc := 158) (As := []) dX12_atom_158 mX12_fail lk_12_194 hM.1 (g_F hM h) rfl rfl (Nat.le_of_ble_eq_true rfl) ⟨by show _ ≤ N + 5; omega, by show _ ≤ 64 * (N + 5); omega⟩ ⟨Nat.zero_le _, Nat.zero_le _⟩ (k_rv ?_)
            refine x_iload_n (pc := 161) dX12_atom_161 rfl ?_
            refine x_ireturn (pc := 162) dX12_atom_162 rfl rfl ?_
            show rt (.int (pAt σ f n (pz σ f n N 0) (pz σ f n N 5) p).1) (MV μ a (Pσ σ (pAt σ f n (pz σ f n N 0) (pz σ f n N 5) p).2)) _ _
            rw [pAt, if_neg (not_not_intro h_8), if_neg (not_not_intro h_43)]
            first
              | (rw [if_pos ⟨hbd (by first | exact h_99 | exact Decidable.not_not.mp h_99), htk 2 (by omega) (by first | exact h_107 | exact Decidable.not_not.mp h_107)⟩]
                 exact ⟨rfl, rfl⟩)
              | (rw [if_neg (by first | exact fun z => h_99 (by rw [z.1]; rfl) | exact fun z => h_107 (by rw [z.2]; rfl))]
                 first
                   | (rw [if_neg (by first | exact fun z => h_127 (by rw [z.1]; rfl) | exact fun z => h_135 (by rw [z.2]; rfl))]
                      exact ⟨rfl, rfl⟩)
                   | (rw [if_pos ⟨hbd (by first | exact h_127 | exact Decidable.not_not.mp h_127), htk 1 (by omega) (by first | exact h_135 | exact Decidable.not_not.mp h_135)⟩]
                      have hb2 := (pnm_kp (σ := σ) (f := f) h).1.2.2.2.2.1
                      first
                        | (rw [if_neg (by exact fun z => h_147 (by rw [z]; rfl))]
                           exact ⟨rfl, rfl⟩)
                        | (rw [if_pos ((nI_eq (b := 0) (by show pbd _ < _; unfold pbd; omega) (by omega)).mp (by first | exact h_147 | exact Decidable.not_not.mp h_147))]
                           exact ⟨rfl, rfl⟩)))
          · refine x_aload_n (pc := 138) dX12_atom_138 rfl ?_
            refine x_callV (pc := 139) (As := []) dX12_atom_139 mX12_name lk_12_236 hM.1 (g_name hM hO h) rfl rfl (Nat.le_of_ble_eq_true rfl) ⟨by show _ ≤ N + 5; omega, by show _ ≤ 64 * (N + 5); omega⟩ ⟨Nat.zero_le _, Nat.zero_le _⟩ (k_rt ?_)
            refine x_istore_n (pc := 142) (lv2 := [_, _]) dX12_atom_142 (by decide) rfl rfl ?_
            refine x_aload_n (pc := 143) dX12_atom_143 rfl ?_
            refine m_getIv (pc := 144) (v := nI (pbd (pnm σ f n p).2)) hM dX12_atom_144 fk_12_181 (Or.inr rfl) (rfl) ?_
            refine x_if_ne (pc := 147) (tgt := 161) dX12_atom_147 rfl (fun h_147 => ?_) (fun h_147 => ?_)
            · refine x_iload_n (pc := 161) dX12_atom_161 rfl ?_
              refine x_ireturn (pc := 162) dX12_atom_162 rfl rfl ?_
              show rt (.int (pAt σ f n (pz σ f n N 0) (pz σ f n N 5) p).1) (MV μ a (Pσ σ (pAt σ f n (pz σ f n N 0) (pz σ f n N 5) p).2)) _ _
              rw [pAt, if_neg (not_not_intro h_8), if_neg (not_not_intro h_43)]
              first
                | (rw [if_pos ⟨hbd (by first | exact h_99 | exact Decidable.not_not.mp h_99), htk 2 (by omega) (by first | exact h_107 | exact Decidable.not_not.mp h_107)⟩]
                   exact ⟨rfl, rfl⟩)
                | (rw [if_neg (by first | exact fun z => h_99 (by rw [z.1]; rfl) | exact fun z => h_107 (by rw [z.2]; rfl))]
                   first
                     | (rw [if_neg (by first | exact fun z => h_127 (by rw [z.1]; rfl) | exact fun z => h_135 (by rw [z.2]; rfl))]
                        exact ⟨rfl, rfl⟩)
                     | (rw [if_pos ⟨hbd (by first | exact h_127 | exact Decidable.not_not.mp h_127), htk 1 (by omega) (by first | exact h_135 | exact Decidable.not_not.mp h_135)⟩]
                        have hb2 := (pnm_kp (σ := σ) (f := f) h).1.2.2.2.2.1
                        first
                          | (rw [if_neg (by exact fun z => h_147 (by rw [z]; rfl))]
                             exact ⟨rfl, rfl⟩)
                          | (rw [if_pos ((nI_eq (b := 0) (by show pbd _ < _; unfold pbd; omega) (by omega)).mp (by first | exact h_147 | exact Decidable.not_not.mp h_147))]
                             exact ⟨rfl, rfl⟩)))
            · refine x_aload_n (pc := 150) dX12_atom_150 rfl ?_
              refine x_callV (pc := 151) (As := []) dX12_atom_151 mX12_next lk_12_197 hM.1 (g_N hM hO (pnm_kp h).1) rfl rfl (Nat.le_of_ble_eq_true rfl) ⟨by show _ ≤ N + 5; omega, by show _ ≤ 64 * (N + 5); omega⟩ ⟨Nat.zero_le _, Nat.zero_le _⟩ (k_rv ?_)
              refine x_goto (pc := 154) (tgt := 161) dX12_atom_154 rfl ?_
              refine x_iload_n (pc := 161) dX12_atom_161 rfl ?_
              refine x_ireturn (pc := 162) dX12_atom_162 rfl rfl ?_
              show rt (.int (pAt σ f n (pz σ f n N 0) (pz σ f n N 5) p).1) (MV μ a (Pσ σ (pAt σ f n (pz σ f n N 0) (pz σ f n N 5) p).2)) _ _
              rw [pAt, if_neg (not_not_intro h_8), if_neg (not_not_intro h_43)]
              first
                | (rw [if_pos ⟨hbd (by first | exact h_99 | exact Decidable.not_not.mp h_99), htk 2 (by omega) (by first | exact h_107 | exact Decidable.not_not.mp h_107)⟩]
                   exact ⟨rfl, rfl⟩)
                | (rw [if_neg (by first | exact fun z => h_99 (by rw [z.1]; rfl) | exact fun z => h_107 (by rw [z.2]; rfl))]
                   first
                     | (rw [if_neg (by first | exact fun z => h_127 (by rw [z.1]; rfl) | exact fun z => h_135 (by rw [z.2]; rfl))]
                        exact ⟨rfl, rfl⟩)
                     | (rw [if_pos ⟨hbd (by first | exact h_127 | exact Decidable.not_not.mp h_127), htk 1 (by omega) (by first | exact h_135 | exact Decidable.not_not.mp h_135)⟩]
                        have hb2 := (pnm_kp (σ := σ) (f := f) h).1.2.2.2.2.1
                        first
                          | (rw [if_neg (by exact fun z => h_147 (by rw [z]; rfl))]
                             exact ⟨rfl, rfl⟩)
                          | (rw [if_pos ((nI_eq (b := 0) (by show pbd _ < _; unfold pbd; omega) (by omega)).mp (by first | exact h_147 | exact Decidable.not_not.mp h_147))]
                             exact ⟨rfl, rfl⟩)))
      · refine x_aload_n (pc := 102) dX12_atom_102 rfl ?_
        refine m_getIv (pc := 103) (v := nI p.2.1) hM dX12_atom_103 fk_12_164 (Or.inl rfl) (rfl) ?_
        refine x_iconst (pc := 106) (v := 2) dX12_atom_106 rfl ?_
        refine x_icmp_ne (pc := 107) (tgt := 123) dX12_atom_107 rfl (fun h_107 => ?_) (fun h_107 => ?_)
        · refine x_aload_n (pc := 123) dX12_atom_123 rfl ?_
          refine m_getIv (pc := 124) (v := nI (pbd p)) hM dX12_atom_124 fk_12_181 (Or.inr rfl) (rfl) ?_
          refine x_if_ne (pc := 127) (tgt := 157) dX12_atom_127 rfl (fun h_127 => ?_) (fun h_127 => ?_)
          · refine x_aload_n (pc := 157) dX12_atom_157 rfl ?_
            refine x_callV (pc := 158) (As := []) dX12_atom_158 mX12_fail lk_12_194 hM.1 (g_F hM h) rfl rfl (Nat.le_of_ble_eq_true rfl) ⟨by show _ ≤ N + 5; omega, by show _ ≤ 64 * (N + 5); omega⟩ ⟨Nat.zero_le _, Nat.zero_le _⟩ (k_rv ?_)
            refine x_iload_n (pc := 161) dX12_atom_161 rfl ?_
            refine x_ireturn (pc := 162) dX12_atom_162 rfl rfl ?_
            show rt (.int (pAt σ f n (pz σ f n N 0) (pz σ f n N 5) p).1) (MV μ a (Pσ σ (pAt σ f n (pz σ f n N 0) (pz σ f n N 5) p).2)) _ _
            rw [pAt, if_neg (not_not_intro h_8), if_neg (not_not_intro h_43)]
            first
              | (rw [if_pos ⟨hbd (by first | exact h_99 | exact Decidable.not_not.mp h_99), htk 2 (by omega) (by first | exact h_107 | exact Decidable.not_not.mp h_107)⟩]
                 exact ⟨rfl, rfl⟩)
              | (rw [if_neg (by first | exact fun z => h_99 (by rw [z.1]; rfl) | exact fun z => h_107 (by rw [z.2]; rfl))]
                 first
                   | (rw [if_neg (by first | exact fun z => h_127 (by rw [z.1]; rfl) | exact fun z => h_135 (by rw [z.2]; rfl))]
                      exact ⟨rfl, rfl⟩)
                   | (rw [if_pos ⟨hbd (by first | exact h_127 | exact Decidable.not_not.mp h_127), htk 1 (by omega) (by first | exact h_135 | exact Decidable.not_not.mp h_135)⟩]
                      have hb2 := (pnm_kp (σ := σ) (f := f) h).1.2.2.2.2.1
                      first
                        | (rw [if_neg (by exact fun z => h_147 (by rw [z]; rfl))]
                           exact ⟨rfl, rfl⟩)
                        | (rw [if_pos ((nI_eq (b := 0) (by show pbd _ < _; unfold pbd; omega) (by omega)).mp (by first | exact h_147 | exact Decidable.not_not.mp h_147))]
                           exact ⟨rfl, rfl⟩)))
          · refine x_aload_n (pc := 130) dX12_atom_130 rfl ?_
            refine m_getIv (pc := 131) (v := nI p.2.1) hM dX12_atom_131 fk_12_164 (Or.inl rfl) (rfl) ?_
            refine x_iconst (pc := 134) (v := 1) dX12_atom_134 rfl ?_
            refine x_icmp_ne (pc := 135) (tgt := 157) dX12_atom_135 rfl (fun h_135 => ?_) (fun h_135 => ?_)
            · refine x_aload_n (pc := 157) dX12_atom_157 rfl ?_
              refine x_callV (pc := 158) (As := []) dX12_atom_158 mX12_fail lk_12_194 hM.1 (g_F hM h) rfl rfl (Nat.le_of_ble_eq_true rfl) ⟨by show _ ≤ N + 5; omega, by show _ ≤ 64 * (N + 5); omega⟩ ⟨Nat.zero_le _, Nat.zero_le _⟩ (k_rv ?_)
              refine x_iload_n (pc := 161) dX12_atom_161 rfl ?_
              refine x_ireturn (pc := 162) dX12_atom_162 rfl rfl ?_
              show rt (.int (pAt σ f n (pz σ f n N 0) (pz σ f n N 5) p).1) (MV μ a (Pσ σ (pAt σ f n (pz σ f n N 0) (pz σ f n N 5) p).2)) _ _
              rw [pAt, if_neg (not_not_intro h_8), if_neg (not_not_intro h_43)]
              first
                | (rw [if_pos ⟨hbd (by first | exact h_99 | exact Decidable.not_not.mp h_99), htk 2 (by omega) (by first | exact h_107 | exact Decidable.not_not.mp h_107)⟩]
                   exact ⟨rfl, rfl⟩)
                | (rw [if_neg (by first | exact fun z => h_99 (by rw [z.1]; rfl) | exact fun z => h_107 (by rw [z.2]; rfl))]
                   first
                     | (rw [if_neg (by first | exact fun z => h_127 (by rw [z.1]; rfl) | exact fun z => h_135 (by rw [z.2]; rfl))]
                        exact ⟨rfl, rfl⟩)
                     | (rw [if_pos ⟨hbd (by first | exact h_127 | exact Decidable.not_not.mp h_127), htk 1 (by omega) (by first | exact h_135 | exact Decidable.not_not.mp h_135)⟩]
                        have hb2 := (pnm_kp (σ := σ) (f := f) h).1.2.2.2.2.1
                        first
                          | (rw [if_neg (by exact fun z => h_147 (by rw [z]; rfl))]
                             exact ⟨rfl, rfl⟩)
                          | (rw [if_pos ((nI_eq (b := 0) (by show pbd _ < _; unfold pbd; omega) (by omega)).mp (by first | exact h_147 | exact Decidable.not_not.mp h_147))]
                             exact ⟨rfl, rfl⟩)))
            · refine x_aload_n (pc := 138) dX12_atom_138 rfl ?_
              refine x_callV (pc := 139) (As := []) dX12_atom_139 mX12_name lk_12_236 hM.1 (g_name hM hO h) rfl rfl (Nat.le_of_ble_eq_true rfl) ⟨by show _ ≤ N + 5; omega, by show _ ≤ 64 * (N + 5); omega⟩ ⟨Nat.zero_le _, Nat.zero_le _⟩ (k_rt ?_)
              refine x_istore_n (pc := 142) (lv2 := [_, _]) dX12_atom_142 (by decide) rfl rfl ?_
              refine x_aload_n (pc := 143) dX12_atom_143 rfl ?_
              refine m_getIv (pc := 144) (v := nI (pbd (pnm σ f n p).2)) hM dX12_atom_144 fk_12_181 (Or.inr rfl) (rfl) ?_
              refine x_if_ne (pc := 147) (tgt := 161) dX12_atom_147 rfl (fun h_147 => ?_) (fun h_147 => ?_)
              · refine x_iload_n (pc := 161) dX12_atom_161 rfl ?_
                refine x_ireturn (pc := 162) dX12_atom_162 rfl rfl ?_
                show rt (.int (pAt σ f n (pz σ f n N 0) (pz σ f n N 5) p).1) (MV μ a (Pσ σ (pAt σ f n (pz σ f n N 0) (pz σ f n N 5) p).2)) _ _
                rw [pAt, if_neg (not_not_intro h_8), if_neg (not_not_intro h_43)]
                first
                  | (rw [if_pos ⟨hbd (by first | exact h_99 | exact Decidable.not_not.mp h_99), htk 2 (by omega) (by first | exact h_107 | exact Decidable.not_not.mp h_107)⟩]
                     exact ⟨rfl, rfl⟩)
                  | (rw [if_neg (by first | exact fun z => h_99 (by rw [z.1]; rfl) | exact fun z => h_107 (by rw [z.2]; rfl))]
                     first
                       | (rw [if_neg (by first | exact fun z => h_127 (by rw [z.1]; rfl) | exact fun z => h_135 (by rw [z.2]; rfl))]
                          exact ⟨rfl, rfl⟩)
                       | (rw [if_pos ⟨hbd (by first | exact h_127 | exact Decidable.not_not.mp h_127), htk 1 (by omega) (by first | exact h_135 | exact Decidable.not_not.mp h_135)⟩]
                          have hb2 := (pnm_kp (σ := σ) (f := f) h).1.2.2.2.2.1
                          first
                            | (rw [if_neg (by exact fun z => h_147 (by rw [z]; rfl))]
                               exact ⟨rfl, rfl⟩)
                            | (rw [if_pos ((nI_eq (b := 0) (by show pbd _ < _; unfold pbd; omega) (by omega)).mp (by first | exact h_147 | exact Decidable.not_not.mp h_147))]
                               exact ⟨rfl, rfl⟩)))
              · refine x_aload_n (pc := 150) dX12_atom_150 rfl ?_
                refine x_callV (pc := 151) (As := []) dX12_atom_151 mX12_next lk_12_197 hM.1 (g_N hM hO (pnm_kp h).1) rfl rfl (Nat.le_of_ble_eq_true rfl) ⟨by show _ ≤ N + 5; omega, by show _ ≤ 64 * (N + 5); omega⟩ ⟨Nat.zero_le _, Nat.zero_le _⟩ (k_rv ?_)
                refine x_goto (pc := 154) (tgt := 161) dX12_atom_154 rfl ?_
                refine x_iload_n (pc := 161) dX12_atom_161 rfl ?_
                refine x_ireturn (pc := 162) dX12_atom_162 rfl rfl ?_
                show rt (.int (pAt σ f n (pz σ f n N 0) (pz σ f n N 5) p).1) (MV μ a (Pσ σ (pAt σ f n (pz σ f n N 0) (pz σ f n N 5) p).2)) _ _
                rw [pAt, if_neg (not_not_intro h_8), if_neg (not_not_intro h_43)]
                first
                  | (rw [if_pos ⟨hbd (by first | exact h_99 | exact Decidable.not_not.mp h_99), htk 2 (by omega) (by first | exact h_107 | exact Decidable.not_not.mp h_107)⟩]
                     exact ⟨rfl, rfl⟩)
                  | (rw [if_neg (by first | exact fun z => h_99 (by rw [z.1]; rfl) | exact fun z => h_107 (by rw [z.2]; rfl))]
                     first
                       | (rw [if_neg (by first | exact fun z => h_127 (by rw [z.1]; rfl) | exact fun z => h_135 (by rw [z.2]; rfl))]
                          exact ⟨rfl, rfl⟩)
                       | (rw [if_pos ⟨hbd (by first | exact h_127 | exact Decidable.not_not.mp h_127), htk 1 (by omega) (by first | exact h_135 | exact Decidable.not_not.mp h_135)⟩]
                          have hb2 := (pnm_kp (σ := σ) (f := f) h).1.2.2.2.2.1
                          first
                            | (rw [if_neg (by exact fun z => h_147 (by rw [z]; rfl))]
                               exact ⟨rfl, rfl⟩)
                            | (rw [if_pos ((nI_eq (b := 0) (by show pbd _ < _; unfold pbd; omega) (by omega)).mp (by first | exact h_147 | exact Decidable.not_not.mp h_147))]
                               exact ⟨rfl, rfl⟩)))
        · refine x_aload_n (pc := 110) dX12_atom_110 rfl ?_
          refine m_getJ (pc := 111) hM dX12_atom_111 fk_12_175 ?_
          refine x_l2i (pc := 114) dX12_atom_114 ?_
          refine x_istore_n (pc := 115) (lv2 := [_, _]) dX12_atom_115 (by decide) rfl rfl ?_
          refine x_aload_n (pc := 116) dX12_atom_116 rfl ?_
          refine x_callV (pc := 117) (As := []) dX12_atom_117 mX12_next lk_12_197 hM.1 (g_N hM hO h) rfl rfl (Nat.le_of_ble_eq_true rfl) ⟨by show _ ≤ N + 5; omega, by show _ ≤ 64 * (N + 5); omega⟩ ⟨Nat.zero_le _, Nat.zero_le _⟩ (k_rv ?_)
          refine x_goto (pc := 120) (tgt := 161) dX12_atom_120 rfl ?_
          refine x_iload_n (pc := 161) dX12_atom_161 rfl ?_
          refine x_ireturn (pc := 162) dX12_atom_162 rfl rfl ?_
          show rt (.int (pAt σ f n (pz σ f n N 0) (pz σ f n N 5) p).1) (MV μ a (Pσ σ (pAt σ f n (pz σ f n N 0) (pz σ f n N 5) p).2)) _ _
          rw [pAt, if_neg (not_not_intro h_8), if_neg (not_not_intro h_43)]
          first
            | (rw [if_pos ⟨hbd (by first | exact h_99 | exact Decidable.not_not.mp h_99), htk 2 (by omega) (by first | exact h_107 | exact Decidable.not_not.mp h_107)⟩]
               exact ⟨rfl, rfl⟩)
            | (rw [if_neg (by first | exact fun z => h_99 (by rw [z.1]; rfl) | exact fun z => h_107 (by rw [z.2]; rfl))]
               first
                 | (rw [if_neg (by first | exact fun z => h_127 (by rw [z.1]; rfl) | exact fun z => h_135 (by rw [z.2]; rfl))]
                    exact ⟨rfl, rfl⟩)
                 | (rw [if_pos ⟨hbd (by first | exact h_127 | exact Decidable.not_not.mp h_127), htk 1 (by omega) (by first | exact h_135 | exact Decidable.not_not.mp h_135)⟩]
                    have hb2 := (pnm_kp (σ := σ) (f := f) h).1.2.2.2.2.1
                    first
                      | (rw [if_neg (by exact fun z => h_147 (by rw [z]; rfl))]
                         exact ⟨rfl, rfl⟩)
                      | (rw [if_pos ((nI_eq (b := 0) (by show pbd _ < _; unfold pbd; omega) (by omega)).mp (by first | exact h_147 | exact Decidable.not_not.mp h_147))]
                         exact ⟨rfl, rfl⟩)))
    · by_cases h5 : pop p = 5
      · exact B5 h_8 h_43 h5
      · exact B h_8 h_43 h5
  · by_cases h5 : pop p = 5
    · exact A5 h_8 h5
    · exact A h_8 h5
end M40
