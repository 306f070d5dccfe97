/-! the class: its reader; the next token -/
section M90
variable {Γ : Gm} {μ : Mem} {b : Kb} {κ : KS} {σ : MS} {f n lt : Nat}
theorem k_advance {c : CT} (hK : KO μ b 4 6 rdL) (hT : KTp μ b lt) (hO : cO κ σ f n) (hl : n ≤ lt) (hl2 : lt < 2 ^ 31) (hc : c.1 ≤ n) : XM Γ zX6_advance 7 0 0 [.ref (adO b 4)] (KV μ b (rK κ c)) (rv (KV μ b (rK κ (cA σ f n c)))) := by
  refine XM.of 0 rfl (by decide) (Nat.le_of_ble_eq_true rfl) ?_
  obtain ⟨x, s, t, u, fl, l, cd⟩ := c
  have hn160 := hO.2.1.2.2.1
  have hc : x ≤ n := hc
  have T : ∀ x : Nat, x ≤ n → WA Γ zX6_advance (xrm 7 0 0) 0 0 0 0 (rv (KV μ b (rK κ (cAx σ f n x (x, s, t, u, fl, l, cd))))) 61 [some (.ref (adO b 4))] [] (KV μ b (rK κ (x, s, t, u, fl, l, cd))) := by
    intro x hx
    refine x_aload_n (pc := 61) dX6_advance_61 rfl ?_
    refine x_aload_n (pc := 62) dX6_advance_62 rfl ?_
    refine k_getI (pc := 63) hK dX6_advance_63 fk_6_19 (Or.inl rfl) ?_
    refine k_putI (pc := 66) hK dX6_advance_66 fk_6_22 (Or.inl rfl) (Or.inl rfl) ?_
    rw [show (rK κ (x, s, t, u, fl, l, cd)).1 4 2 = nI x from rfl, rK_st]
    refine x_aload_n (pc := 69) dX6_advance_69 rfl ?_
    refine k_getI (pc := 70) hK dX6_advance_70 fk_6_19 (Or.inl rfl) ?_
    refine x_aload_n (pc := 73) dX6_advance_73 rfl ?_
    refine k_getI (pc := 74) hK dX6_advance_74 fk_6_15 (Or.inl rfl) ?_
    rw [cO_1 hO]
    refine x_icmp_lt (pc := 77) (tgt := 89) dX6_advance_77 rfl (fun h_77 => ?_) (fun h_77 => ?_)
    · have hlt : x < n := (nI_ltI (by omega) (by omega)).mp h_77
      refine x_aload_n (pc := 89) dX6_advance_89 rfl ?_
      refine k_getR (pc := 90) hK dX6_advance_90 fk_6_9 (Or.inr ⟨_, rfl⟩) (hT.2.2.2) ?_
      refine x_aload_n (pc := 93) dX6_advance_93 rfl ?_
      refine k_getI (pc := 94) hK dX6_advance_94 fk_6_19 (Or.inl rfl) ?_
      refine k_tape (pc := 97) hT hO dX6_advance_97 (by omega) hl hl2 ?_
      refine x_callS (pc := 98) (As := [.int _]) dX6_advance_98 mX6_isLetter lk_6_82 (k_isLetter) rfl rfl (Nat.le_of_ble_eq_true rfl) ⟨by decide, by decide⟩ ⟨Nat.zero_le _, Nat.zero_le _⟩ (k_rt ?_)
      refine x_if_eq (pc := 101) (tgt := 115) dX6_advance_101 rfl (fun h_101 => ?_) (fun h_101 => ?_)
      · refine x_aload_n (pc := 115) dX6_advance_115 rfl ?_
        refine k_getR (pc := 116) hK dX6_advance_116 fk_6_9 (Or.inr ⟨_, rfl⟩) (hT.2.2.2) ?_
        refine x_aload_n (pc := 119) dX6_advance_119 rfl ?_
        refine k_getI (pc := 120) hK dX6_advance_120 fk_6_19 (Or.inl rfl) ?_
        refine k_tape (pc := 123) hT hO dX6_advance_123 (by omega) hl hl2 ?_
        refine x_callS (pc := 124) (As := [.int _]) dX6_advance_124 mX6_isDigit lk_6_90 (k_isDigit) rfl rfl (Nat.le_of_ble_eq_true rfl) ⟨by decide, by decide⟩ ⟨Nat.zero_le _, Nat.zero_le _⟩ (k_rt ?_)
        refine x_if_eq (pc := 127) (tgt := 141) dX6_advance_127 rfl (fun h_127 => ?_) (fun h_127 => ?_)
        · refine x_aload_n (pc := 141) dX6_advance_141 rfl ?_
          refine x_aload_n (pc := 142) dX6_advance_142 rfl ?_
          refine k_getR (pc := 143) hK dX6_advance_143 fk_6_9 (Or.inr ⟨_, rfl⟩) (hT.2.2.2) ?_
          refine x_aload_n (pc := 146) dX6_advance_146 rfl ?_
          refine k_getI (pc := 147) hK dX6_advance_147 fk_6_19 (Or.inl rfl) ?_
          refine k_tape (pc := 150) hT hO dX6_advance_150 (by omega) hl hl2 ?_
          refine x_callS (pc := 151) (As := [.int _]) dX6_advance_151 mX6_sign lk_6_96 (k_sign) rfl rfl (Nat.le_of_ble_eq_true rfl) ⟨by decide, by decide⟩ ⟨Nat.zero_le _, Nat.zero_le _⟩ (k_rt ?_)
          refine k_putI (pc := 154) hK dX6_advance_154 fk_6_25 (Or.inl rfl) (Or.inl rfl) ?_
          rw [rK_tk]
          refine x_aload_n (pc := 157) dX6_advance_157 rfl ?_
          refine x_dup (pc := 158) dX6_advance_158 rfl ?_
          refine k_getI (pc := 159) hK dX6_advance_159 fk_6_19 (Or.inl rfl) ?_
          refine x_iconst (pc := 162) (v := 1) dX6_advance_162 rfl ?_
          refine x_iadd (pc := 163) dX6_advance_163 ?_
          refine k_putI (pc := 164) hK dX6_advance_164 fk_6_19 (Or.inl rfl) (Or.inl rfl) ?_
          try rw [show (rK κ (x, x, sgC (bA σ f n x), u, fl, l, cd)).1 4 2 + 1 = nI (x + 1) from nI_1 x, rK_at]
          refine x_return (pc := 167) dX6_advance_167 rfl ?_
          dsimp only [cAx]
          first
            | (rw [if_pos hge]
               exact ⟨rfl, rfl⟩)
            | (rw [if_neg (Nat.not_le.mpr hlt), if_pos (by exact bi_n0 h_101)]
               exact ⟨rfl, rfl⟩)
            | (rw [if_neg (Nat.not_le.mpr hlt), if_neg (by exact bi_0.mp h_101), if_pos (by exact bi_n0 h_127)]
               exact ⟨rfl, rfl⟩)
            | (rw [if_neg (Nat.not_le.mpr hlt), if_neg (by exact bi_0.mp h_101), if_neg (by exact bi_0.mp h_127)]
               exact ⟨rfl, rfl⟩)
        · refine x_aload_n (pc := 130) dX6_advance_130 rfl ?_
          refine x_aload_n (pc := 131) dX6_advance_131 rfl ?_
          refine x_callV (pc := 132) (As := []) dX6_advance_132 mX6_digits lk_6_93 hK.2.2.1 (k_digits hK hT hO hl hl2 (Nat.le_refl x) hx) rfl rfl (Nat.le_of_ble_eq_true rfl) ⟨by decide, by decide⟩ ⟨Nat.zero_le _, Nat.zero_le _⟩ (k_rt ?_)
          refine k_putI (pc := 135) hK dX6_advance_135 fk_6_25 (Or.inl rfl) (Or.inl rfl) ?_
          rw [rK_tk]
          refine x_goto (pc := 138) (tgt := 167) dX6_advance_138 rfl ?_
          try rw [show (rK κ (x, x, sgC (bA σ f n x), u, fl, l, cd)).1 4 2 + 1 = nI (x + 1) from nI_1 x, rK_at]
          refine x_return (pc := 167) dX6_advance_167 rfl ?_
          dsimp only [cAx]
          first
            | (rw [if_pos hge]
               exact ⟨rfl, rfl⟩)
            | (rw [if_neg (Nat.not_le.mpr hlt), if_pos (by exact bi_n0 h_101)]
               exact ⟨rfl, rfl⟩)
            | (rw [if_neg (Nat.not_le.mpr hlt), if_neg (by exact bi_0.mp h_101), if_pos (by exact bi_n0 h_127)]
               exact ⟨rfl, rfl⟩)
            | (rw [if_neg (Nat.not_le.mpr hlt), if_neg (by exact bi_0.mp h_101), if_neg (by exact bi_0.mp h_127)]
               exact ⟨rfl, rfl⟩)
      · refine x_aload_n (pc := 104) dX6_advance_104 rfl ?_
        refine x_aload_n (pc := 105) dX6_advance_105 rfl ?_
        refine x_callV (pc := 106) (As := []) dX6_advance_106 mX6_word lk_6_86 hK.2.2.1 (k_word hK hT hO hl hl2 (Nat.le_refl x) hx) rfl rfl (Nat.le_of_ble_eq_true rfl) ⟨by decide, by decide⟩ ⟨Nat.zero_le _, Nat.zero_le _⟩ (k_rt ?_)
        refine k_putI (pc := 109) hK dX6_advance_109 fk_6_25 (Or.inl rfl) (Or.inl rfl) ?_
        rw [rK_tk]
        refine x_goto (pc := 112) (tgt := 167) dX6_advance_112 rfl ?_
        try rw [show (rK κ (x, x, sgC (bA σ f n x), u, fl, l, cd)).1 4 2 + 1 = nI (x + 1) from nI_1 x, rK_at]
        refine x_return (pc := 167) dX6_advance_167 rfl ?_
        dsimp only [cAx]
        first
          | (rw [if_pos hge]
             exact ⟨rfl, rfl⟩)
          | (rw [if_neg (Nat.not_le.mpr hlt), if_pos (by exact bi_n0 h_101)]
             exact ⟨rfl, rfl⟩)
          | (rw [if_neg (Nat.not_le.mpr hlt), if_neg (by exact bi_0.mp h_101), if_pos (by exact bi_n0 h_127)]
             exact ⟨rfl, rfl⟩)
          | (rw [if_neg (Nat.not_le.mpr hlt), if_neg (by exact bi_0.mp h_101), if_neg (by exact bi_0.mp h_127)]
             exact ⟨rfl, rfl⟩)
    · have hge : n ≤ x := Nat.le_of_not_lt (fun z => h_77 (nI_lt (a := x) z (by omega)))
      refine x_aload_n (pc := 80) dX6_advance_80 rfl ?_
      refine x_bipush (pc := 81) (v := -23) dX6_advance_81 rfl ?_
      refine k_putI (pc := 83) hK dX6_advance_83 fk_6_25 (Or.inl rfl) (Or.inl rfl) ?_
      rw [rK_tk]
      refine x_goto (pc := 86) (tgt := 167) dX6_advance_86 rfl ?_
      try rw [show (rK κ (x, x, sgC (bA σ f n x), u, fl, l, cd)).1 4 2 + 1 = nI (x + 1) from nI_1 x, rK_at]
      refine x_return (pc := 167) dX6_advance_167 rfl ?_
      dsimp only [cAx]
      first
        | (rw [if_pos hge]
           exact ⟨rfl, rfl⟩)
        | (rw [if_neg (Nat.not_le.mpr hlt), if_pos (by exact bi_n0 h_101)]
           exact ⟨rfl, rfl⟩)
        | (rw [if_neg (Nat.not_le.mpr hlt), if_neg (by exact bi_0.mp h_101), if_pos (by exact bi_n0 h_127)]
           exact ⟨rfl, rfl⟩)
        | (rw [if_neg (Nat.not_le.mpr hlt), if_neg (by exact bi_0.mp h_101), if_neg (by exact bi_0.mp h_127)]
           exact ⟨rfl, rfl⟩)
  have L : ∀ m x : Nat, x + m = n → WA Γ zX6_advance (xrm 7 0 0) 0 0 0 0 (rv (KV μ b (rK κ (cAx σ f n (skB σ f n m x) (x, s, t, u, fl, l, cd))))) 9 [some (.ref (adO b 4))] [] (KV μ b (rK κ (x, s, t, u, fl, l, cd))) := by
    intro m
    induction m with
    | zero =>
      intro x hx
      refine x_aload_n (pc := 9) dX6_advance_9 rfl ?_
      refine k_getI (pc := 10) hK dX6_advance_10 fk_6_19 (Or.inl rfl) ?_
      refine x_aload_n (pc := 13) dX6_advance_13 rfl ?_
      refine k_getI (pc := 14) hK dX6_advance_14 fk_6_15 (Or.inl rfl) ?_
      rw [cO_1 hO]
      refine x_icmp_ge (pc := 17) (tgt := 61) dX6_advance_17 rfl (fun h_17 => ?_) (fun h_17 => absurd (nI_le (a := n) (b := x) (by omega) (by omega)) h_17)
      exact T x (by omega)
    | succ m ih =>
      intro x hx
      rw [skB]
      refine x_aload_n (pc := 9) dX6_advance_9 rfl ?_
      refine k_getI (pc := 10) hK dX6_advance_10 fk_6_19 (Or.inl rfl) ?_
      refine x_aload_n (pc := 13) dX6_advance_13 rfl ?_
      refine k_getI (pc := 14) hK dX6_advance_14 fk_6_15 (Or.inl rfl) ?_
      rw [cO_1 hO]
      refine x_icmp_ge (pc := 17) (tgt := 61) dX6_advance_17 rfl (fun h_17 => absurd h_17 (nI_ge (a := x) (b := n) (by omega) (by omega))) (fun h_17 => ?_)
      refine x_aload_n (pc := 20) dX6_advance_20 rfl ?_
      refine k_getR (pc := 21) hK dX6_advance_21 fk_6_9 (Or.inr ⟨_, rfl⟩) (hT.2.2.2) ?_
      refine x_aload_n (pc := 24) dX6_advance_24 rfl ?_
      refine k_getI (pc := 25) hK dX6_advance_25 fk_6_19 (Or.inl rfl) ?_
      refine k_tape (pc := 28) hT hO dX6_advance_28 (by omega) hl hl2 ?_
      refine x_bipush (pc := 29) (v := 32) dX6_advance_29 rfl ?_
      refine x_icmp_eq (pc := 31) (tgt := 48) dX6_advance_31 rfl (fun h_31 => ?_) (fun h_31 => ?_)
      · refine x_aload_n (pc := 48) dX6_advance_48 rfl ?_
        refine x_dup (pc := 49) dX6_advance_49 rfl ?_
        refine k_getI (pc := 50) hK dX6_advance_50 fk_6_19 (Or.inl rfl) ?_
        refine x_iconst (pc := 53) (v := 1) dX6_advance_53 rfl ?_
        refine x_iadd (pc := 54) dX6_advance_54 ?_
        refine k_putI (pc := 55) hK dX6_advance_55 fk_6_19 (Or.inl rfl) (Or.inl rfl) ?_
        rw [show (rK κ (x, s, t, u, fl, l, cd)).1 4 2 + 1 = nI (x + 1) from nI_1 x, rK_at]
        refine x_goto (pc := 58) (tgt := 9) dX6_advance_58 rfl ?_
        rw [if_pos (show bA σ f n x = 32 ∨ bA σ f n x = 10 by first | exact Or.inl h_31 | exact Or.inr h_45 | exact Or.inr (Decidable.not_not.mp h_45))]
        exact ih (x + 1) (by omega)
      · refine x_aload_n (pc := 34) dX6_advance_34 rfl ?_
        refine k_getR (pc := 35) hK dX6_advance_35 fk_6_9 (Or.inr ⟨_, rfl⟩) (hT.2.2.2) ?_
        refine x_aload_n (pc := 38) dX6_advance_38 rfl ?_
        refine k_getI (pc := 39) hK dX6_advance_39 fk_6_19 (Or.inl rfl) ?_
        refine k_tape (pc := 42) hT hO dX6_advance_42 (by omega) hl hl2 ?_
        refine x_bipush (pc := 43) (v := 10) dX6_advance_43 rfl ?_
        refine x_icmp_ne (pc := 45) (tgt := 61) dX6_advance_45 rfl (fun h_45 => ?_) (fun h_45 => ?_)
        · rw [if_neg (show ¬ (bA σ f n x = 32 ∨ bA σ f n x = 10) from fun z => z.elim (fun q => h_31 q) (fun q => h_45 q))]
          exact T x (by omega)
        · refine x_aload_n (pc := 48) dX6_advance_48 rfl ?_
          refine x_dup (pc := 49) dX6_advance_49 rfl ?_
          refine k_getI (pc := 50) hK dX6_advance_50 fk_6_19 (Or.inl rfl) ?_
          refine x_iconst (pc := 53) (v := 1) dX6_advance_53 rfl ?_
          refine x_iadd (pc := 54) dX6_advance_54 ?_
          refine k_putI (pc := 55) hK dX6_advance_55 fk_6_19 (Or.inl rfl) (Or.inl rfl) ?_
          rw [show (rK κ (x, s, t, u, fl, l, cd)).1 4 2 + 1 = nI (x + 1) from nI_1 x, rK_at]
          refine x_goto (pc := 58) (tgt := 9) dX6_advance_58 rfl ?_
          rw [if_pos (show bA σ f n x = 32 ∨ bA σ f n x = 10 by first | exact Or.inl h_31 | exact Or.inr h_45 | exact Or.inr (Decidable.not_not.mp h_45))]
          exact ih (x + 1) (by omega)
  refine x_aload_n (pc := 0) dX6_advance_0 rfl ?_
  refine k_getI (pc := 1) hK dX6_advance_1 fk_6_31 (Or.inl rfl) ?_
  refine x_iconst (pc := 4) (v := -1) dX6_advance_4 rfl ?_
  refine x_icmp_eq (pc := 5) (tgt := 9) dX6_advance_5 rfl (fun h_5 => ?_) (fun h_5 => ?_)
  · rw [show cA σ f n (x, s, t, u, fl, l, cd) = cAx σ f n (skB σ f n (n - x) x) (x, s, t, u, fl, l, cd) from if_pos (by exact h_5)]
    exact L (n - x) x (by omega)
  · rw [show cA σ f n (x, s, t, u, fl, l, cd) = (x, s, t, u, fl, l, cd) from if_neg (by exact h_5)]
    refine x_return (pc := 8) dX6_advance_8 rfl ?_
    exact ⟨rfl, rfl⟩
theorem k_expect {c : CT} {v : Int32} (hK : KO μ b 4 6 rdL) (hT : KTp μ b lt) (hO : cO κ σ f n) (hl : n ≤ lt) (hl2 : lt < 2 ^ 31) (hc : c.1 ≤ n) : XM Γ zX6_expect 8 0 0 [.ref (adO b 4), .int v] (KV μ b (rK κ c)) (rv (KV μ b (rK κ (cX σ f n v c)))) := by
  refine XM.of 0 rfl (by decide) (Nat.le_of_ble_eq_true rfl) ?_
  unfold cX
  refine x_aload_n (pc := 0) dX6_expect_0 rfl ?_
  refine k_getI (pc := 1) hK dX6_expect_1 fk_6_25 (Or.inl rfl) ?_
  refine x_iload_n (pc := 4) dX6_expect_4 rfl ?_
  refine x_icmp_ne (pc := 5) (tgt := 15) dX6_expect_5 rfl (fun h_5 => ?_) (fun h_5 => ?_)
  · refine x_aload_n (pc := 15) dX6_expect_15 rfl ?_
    rw [if_neg (show ¬ c.2.2.1 = v from h_5)]
    refine x_callV (pc := 16) (As := []) dX6_expect_16 mX6_fail lk_6_70 hK.2.2.1 (k_fail hK) rfl rfl (Nat.le_of_ble_eq_true rfl) ⟨by decide, by decide⟩ ⟨Nat.zero_le _, Nat.zero_le _⟩ (k_rv ?_)
    refine x_return (pc := 19) dX6_expect_19 rfl ?_
    exact ⟨rfl, rfl⟩
  · refine x_aload_n (pc := 8) dX6_expect_8 rfl ?_
    rw [if_pos (show c.2.2.1 = v by first | exact h_5 | exact Decidable.not_not.mp h_5)]
    refine x_callV (pc := 9) (As := []) dX6_expect_9 mX6_advance lk_6_43 hK.2.2.1 (k_advance hK hT hO hl hl2 hc) rfl rfl (Nat.le_of_ble_eq_true rfl) ⟨by decide, by decide⟩ ⟨Nat.zero_le _, Nat.zero_le _⟩ (k_rv ?_)
    refine x_goto (pc := 12) (tgt := 19) dX6_expect_12 rfl ?_
    refine x_return (pc := 19) dX6_expect_19 rfl ?_
    exact ⟨rfl, rfl⟩
end M90
