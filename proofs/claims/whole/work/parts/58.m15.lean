/-! the reference: chance, day -/
def chB (D : PD) (n : Nat) (z : Int32) : Nat := if brC (onD (drD D z) n) ≤ (wkD (drD D z) n 9 7).2.1 then 1 else 0
def chC (D : PD) (n : Nat) (sd : Int32) : Nat → Nat
  | 0 => 0
  | k + 1 => chC D n sd k + chB D n (sd + nI k)
theorem ch_le (D : PD) (n : Nat) (sd : Int32) : ∀ k, chC D n sd k ≤ k
  | 0 => Nat.le_refl _
  | k + 1 => by
    have := ch_le D n sd k
    unfold chC chB
    split <;> omega
def chV (D : PD) (n : Nat) (sd N p : Int32) : Int64 := if (1 ≤ N ∧ N ≤ 10) ∧ (0 ≤ p ∧ p ≤ 1) then (if p = 0 then lN (chC D n sd (nn N) / Nat.gcd (chC D n sd (nn N)) (nn N)) else lN (nn N / Nat.gcd (chC D n sd (nn N)) (nn N))) else -4611686018427387904
theorem on_le {D : PD} {n : Nat} (h : okD D n) (hg : okG D n) : brC (onD D n) ≤ 46000 := (bsD_ok h hg (dy_ok h 7 (Nat.le_refl 7)) (by rw [dy_len]; exact Nat.le_refl 7) (bsD_ne h.1)).1
section M58
variable {Γ : Gm} {μ : Mem} {a : Ma} {σ : MS}
theorem c_chance (hM : MOK μ a) {D : PD} {n r m : Nat} (sd N p : Int32) (hR : RR σ D n r m) : XM Γ zX12_chance 52 0 0 [.ref a.1, .int sd, .int N, .int p] (MV μ a σ) (fun v μ2 => ∃ s : MS, v = some (.long (chV D n sd N p)) ∧ μ2 = MV μ a s ∧ pq9 σ s) := by
  refine XM.of 8 rfl (by decide) (Nat.le_of_ble_eq_true rfl) ?_
  have Lg : ∀ (s : MS) (A K : Nat), pq9 σ s → N = nI K → 0 < K → K ≤ 10 → A ≤ 10 → A = chC D n sd K → (1 ≤ N ∧ N ≤ 10) ∧ (0 ≤ p ∧ p ≤ 1) → ∀ (f P q : Nat) (z10 z11 : Option Value), q < f → P ≤ 10 → q ≤ 10 → Nat.gcd P q = Nat.gcd A K → WA Γ zX12_chance (xrm 52 0 0) 0 0 0 0 (fun v μ2 => ∃ s : MS, v = some (.long (chV D n sd N p)) ∧ μ2 = MV μ a s ∧ pq9 σ s) 101 [some (.ref a.1), some (.int sd), some (.int N), some (.int p), some (.long (lN A)), none, some (.long (lN P)), none, some (.long (lN q)), none, z10, z11] [] (MV μ a s) := by
    intro s A K hp hN hK hK10 hA hAc hv f
    subst hN
    induction f with
    | zero => exact fun P q z10 z11 h => absurd h (by omega)
    | succ f ih =>
      intro P q z10 z11 hq hP hq10 hg
      by_cases hq0 : q = 0
      · subst hq0
        have hPg : P = Nat.gcd A K := by rw [← hg]; exact (Nat.gcd_zero_right P).symm
        have hP0 : 0 < P := by rw [hPg]; exact Nat.gcd_pos_of_pos_right A hK
        have hPn : ¬ lN P = 0 := fun z => by
          have := (lN_eq (a := P) (b := 0) (by omega) (by omega)).mp z
          omega
        refine x_lload (pc := 101) dX12_chance_101 rfl ?_
        refine x_lconst (pc := 103) (v := 0) dX12_chance_103 rfl ?_
        refine x_lcmp (pc := 104) dX12_chance_104 ?_
        refine x_if_eq (pc := 105) (tgt := 126) dX12_chance_105 rfl (fun h_105 => ?_) (fun h_105 => absurd ((lg_cmp_eq _ _).mpr rfl) h_105)
        refine x_iload_n (pc := 126) dX12_chance_126 rfl ?_
        refine x_if_ne (pc := 127) (tgt := 138) dX12_chance_127 rfl (fun h_127 => ?_) (fun h_127 => ?_)
        · refine x_iload_n (pc := 138) dX12_chance_138 rfl ?_
          refine x_i2l (pc := 139) dX12_chance_139 ?_
          rw [nI_l (by omega)]
          refine x_lload (pc := 140) dX12_chance_140 rfl ?_
          refine x_ldiv (pc := 142) dX12_chance_142 hPn ?_
          rw [pk_lDiv (by omega) hP0 (by omega)]
          refine x_lreturn (pc := 143) dX12_chance_143 rfl ?_
          refine ⟨s, ?_, rfl, hp⟩
          unfold chV
          rw [if_pos hv, nn_nI (by omega), ← hAc, ← hPg]
          first
            | rw [if_pos (by first | exact h_127 | exact Decidable.not_not.mp h_127)]
            | rw [if_neg (by exact h_127)]
        · refine x_lload (pc := 130) dX12_chance_130 rfl ?_
          refine x_lload (pc := 132) dX12_chance_132 rfl ?_
          refine x_ldiv (pc := 134) dX12_chance_134 hPn ?_
          rw [pk_lDiv (by omega) hP0 (by omega)]
          refine x_goto (pc := 135) (tgt := 143) dX12_chance_135 rfl ?_
          refine x_lreturn (pc := 143) dX12_chance_143 rfl ?_
          refine ⟨s, ?_, rfl, hp⟩
          unfold chV
          rw [if_pos hv, nn_nI (by omega), ← hAc, ← hPg]
          first
            | rw [if_pos (by first | exact h_127 | exact Decidable.not_not.mp h_127)]
            | rw [if_neg (by exact h_127)]
      · have hqn : ¬ lN q = 0 := fun z => hq0 ((lN_eq (a := q) (b := 0) (by omega) (by omega)).mp z)
        refine x_lload (pc := 101) dX12_chance_101 rfl ?_
        refine x_lconst (pc := 103) (v := 0) dX12_chance_103 rfl ?_
        refine x_lcmp (pc := 104) dX12_chance_104 ?_
        refine x_if_eq (pc := 105) (tgt := 126) dX12_chance_105 rfl (fun h_105 => absurd h_105 (fun z => hqn ((lg_cmp_eq _ _).mp z))) (fun h_105 => ?_)
        refine x_lload (pc := 108) dX12_chance_108 rfl ?_
        refine x_lload (pc := 110) dX12_chance_110 rfl ?_
        refine x_lrem (pc := 112) dX12_chance_112 hqn ?_
        rw [pk_lRem (by omega) (by omega) (by omega)]
        refine x_lstore (pc := 113) (lv2 := [_, _, _, _, _, _, _, _, _, _, _, _]) dX12_chance_113 (by decide) rfl rfl ?_
        refine x_lload (pc := 115) dX12_chance_115 rfl ?_
        refine x_lstore (pc := 117) (lv2 := [_, _, _, _, _, _, _, _, _, _, _, _]) dX12_chance_117 (by decide) rfl rfl ?_
        refine x_lload (pc := 119) dX12_chance_119 rfl ?_
        refine x_lstore (pc := 121) (lv2 := [_, _, _, _, _, _, _, _, _, _, _, _]) dX12_chance_121 (by decide) rfl rfl ?_
        refine x_goto (pc := 123) (tgt := 101) dX12_chance_123 rfl ?_
        have hm := Nat.mod_lt P (show q > 0 by omega)
        refine ih q (P % q) _ _ (by omega) hq10 (by omega) ?_
        rw [← hg, Nat.gcd_comm q, ← Nat.gcd_rec, Nat.gcd_comm]
  have Lo : ∀ (s0 : MS) (K : Nat), pq σ s0 → RD s0 D n → RG s0 D n → s0.1 35 = -1 → N = nI K → 0 < K → K ≤ 10 → (1 ≤ N ∧ N ≤ 10) ∧ (0 ≤ p ∧ p ≤ 1) → ∀ (m k : Nat) (s : MS), k + m = K → ds (it f_kd 7 s0) s → WA Γ zX12_chance (xrm 52 0 0) 0 0 0 0 (fun v μ2 => ∃ s : MS, v = some (.long (chV D n sd N p)) ∧ μ2 = MV μ a s ∧ pq9 σ s) 40 [some (.ref a.1), some (.int sd), some (.int N), some (.int p), some (.long (lN (chC D n sd k))), none, some (.int (nI k)), none, none, none, none, none] [] (MV μ a s) := by
    intro s0 K hp h hg h35 hN hK hK10 hv m
    subst hN
    obtain ⟨kR, kG, k35, k46⟩ := kd_RD h hg
    rw [h35] at k35
    induction m with
    | zero =>
      intro k s hk hs
      obtain rfl : k = K := by omega
      have hcl := ch_le D n sd k
      refine x_iload (pc := 40) dX12_chance_40 rfl ?_
      refine x_iload_n (pc := 42) dX12_chance_42 rfl ?_
      refine x_icmp_ge (pc := 43) (tgt := 89) dX12_chance_43 rfl (fun h_43 => ?_) (fun h_43 => absurd (Int32.le_refl _) h_43)
      refine x_aload_n (pc := 89) dX12_chance_89 rfl ?_
      refine x_callV (pc := 90) (As := []) dX12_chance_90 mX12_daysBack lk_12_347 hM.1 (c_daysBack hM) rfl rfl (Nat.le_of_ble_eq_true rfl) ⟨by decide, by decide⟩ ⟨Nat.zero_le _, Nat.zero_le _⟩ (k_rv ?_)
      refine x_lload (pc := 93) dX12_chance_93 rfl ?_
      refine x_lstore (pc := 95) (lv2 := [_, _, _, _, _, _, _, _, _, _, _, _]) dX12_chance_95 (by decide) rfl rfl ?_
      refine x_iload_n (pc := 97) dX12_chance_97 rfl ?_
      refine x_i2l (pc := 98) dX12_chance_98 ?_
      rw [nI_l (by omega)]
      refine x_lstore (pc := 99) (lv2 := [_, _, _, _, _, _, _, _, _, _, _, _]) dX12_chance_99 (by decide) rfl rfl ?_
      exact Lg _ _ k (back_9 hp hs) rfl hK hK10 (by omega) rfl hv 20 _ k _ _ (by omega) (by omega) hK10 rfl
    | succ m ih =>
      intro k s hk hs
      obtain ⟨d1, d2, d3, d4⟩ := dr_st (sd := sd + nI k) kR kG k35 hs
      refine x_iload (pc := 40) dX12_chance_40 rfl ?_
      refine x_iload_n (pc := 42) dX12_chance_42 rfl ?_
      refine x_icmp_ge (pc := 43) (tgt := 89) dX12_chance_43 rfl (fun h_43 => absurd h_43 (by exact lit_le (n := K) k (by omega) (by omega))) (fun h_43 => ?_)
      refine x_aload_n (pc := 46) dX12_chance_46 rfl ?_
      refine x_iload_n (pc := 47) dX12_chance_47 rfl ?_
      refine x_iload (pc := 48) dX12_chance_48 rfl ?_
      refine x_iadd (pc := 50) dX12_chance_50 ?_
      refine x_callV (pc := 51) (As := [.int _]) dX12_chance_51 mX12_draws lk_12_365 hM.1 (c_draws hM _) rfl rfl (Nat.le_of_ble_eq_true rfl) ⟨by decide, by decide⟩ ⟨Nat.zero_le _, Nat.zero_le _⟩ (k_rv ?_)
      refine x_aload_n (pc := 54) dX12_chance_54 rfl ?_
      refine x_callV (pc := 55) (As := []) dX12_chance_55 mX12_weeks lk_12_341 hM.1 (c_weeks (aw := 9) hM d1 d2 d3) rfl rfl (Nat.le_of_ble_eq_true rfl) ⟨by decide, by decide⟩ ⟨Nat.zero_le _, Nat.zero_le _⟩ (fun v μ2 hq => ?_)
      obtain ⟨s4, rfl, rfl, hs4, c43, -, -⟩ := hq
      refine x_aload_n (pc := 58) dX12_chance_58 rfl ?_
      refine x_callV (pc := 59) (As := []) dX12_chance_59 mX12_seeksOnce lk_12_327 hM.1 (c_seeksOnce hM (d1.sq hs4) (d2.sq hs4) ((hs4.1 35 (by omega)).trans d3)) rfl rfl (Nat.le_of_ble_eq_true rfl) ⟨by decide, by decide⟩ ⟨Nat.zero_le _, Nat.zero_le _⟩ (fun v μ2 hq => ?_)
      obtain ⟨s5, rfl, rfl, hs5, hw0, c38, -⟩ := hq
      have hw : s5.1 43 = nI (wkD (drD D (sd + nI k)) n 9 7).2.1 := hw0.trans c43
      have hb1 := (wk_ok (aw := 9) d1.1 d2.1 7 (Nat.le_refl 7)).1
      have hb2 := on_le d1.1 d2.1
      have hst : chC D n sd (k + 1) = chC D n sd k + chB D n (sd + nI k) := rfl
      refine x_lload (pc := 62) dX12_chance_62 rfl ?_
      refine x_aload_n (pc := 64) dX12_chance_64 rfl ?_
      refine m_getI (pc := 65) hM dX12_chance_65 fk_12_288 (Or.inl rfl) ?_
      refine x_aload_n (pc := 68) dX12_chance_68 rfl ?_
      refine m_getI (pc := 69) hM dX12_chance_69 fk_12_330 (Or.inl rfl) ?_
      rw [hw, c38]
      refine x_icmp_gt (pc := 72) (tgt := 79) dX12_chance_72 rfl (fun h_72 => ?_) (fun h_72 => ?_)
      · refine x_lconst (pc := 79) (v := 0) dX12_chance_79 rfl ?_
        refine x_ladd (pc := 80) dX12_chance_80 ?_
        first
          | (rw [Int64.add_zero, show chC D n sd k = chC D n sd (k + 1) by
              rw [hst]
              unfold chB
              rw [if_neg (fun z => Int32.not_le.mpr h_72 (nI_le z (by omega)))]
              rfl])
          | (rw [lN_1, show chC D n sd k + 1 = chC D n sd (k + 1) by
              rw [hst]
              unfold chB
              rw [if_pos ((nI_leI (by omega) (by omega)).mp (by first | exact h_72 | exact Int32.not_lt.mp h_72))]])
        refine x_lstore (pc := 81) (lv2 := [_, _, _, _, _, _, _, _, _, _, _, _]) dX12_chance_81 (by decide) rfl rfl ?_
        refine x_iinc (pc := 83) (lv2 := [_, _, _, _, _, _, _, _, _, _, _, _]) dX12_chance_83 (by decide) rfl rfl (nI_1 _) rfl ?_
        refine x_goto (pc := 86) (tgt := 40) dX12_chance_86 rfl ?_
        exact ih (k + 1) _ (by omega) (d4.sq (hs4.trans hs5))
      · refine x_lconst (pc := 75) (v := 1) dX12_chance_75 rfl ?_
        refine x_goto (pc := 76) (tgt := 80) dX12_chance_76 rfl ?_
        refine x_ladd (pc := 80) dX12_chance_80 ?_
        first
          | (rw [Int64.add_zero, show chC D n sd k = chC D n sd (k + 1) by
              rw [hst]
              unfold chB
              rw [if_neg (fun z => Int32.not_le.mpr h_72 (nI_le z (by omega)))]
              rfl])
          | (rw [lN_1, show chC D n sd k + 1 = chC D n sd (k + 1) by
              rw [hst]
              unfold chB
              rw [if_pos ((nI_leI (by omega) (by omega)).mp (by first | exact h_72 | exact Int32.not_lt.mp h_72))]])
        refine x_lstore (pc := 81) (lv2 := [_, _, _, _, _, _, _, _, _, _, _, _]) dX12_chance_81 (by decide) rfl rfl ?_
        refine x_iinc (pc := 83) (lv2 := [_, _, _, _, _, _, _, _, _, _, _, _]) dX12_chance_83 (by decide) rfl rfl (nI_1 _) rfl ?_
        refine x_goto (pc := 86) (tgt := 40) dX12_chance_86 rfl ?_
        exact ih (k + 1) _ (by omega) (d4.sq (hs4.trans hs5))
  refine x_iload_n (pc := 0) dX12_chance_0 rfl ?_
  refine x_i2l (pc := 1) dX12_chance_1 ?_
  refine x_lconst (pc := 2) (v := 1) dX12_chance_2 rfl ?_
  refine x_ldc2 (pc := 3) dX12_chance_3 kc_12_179 ?_
  refine x_callS (pc := 6) (As := [.long _, .long _, .long _]) dX12_chance_6 mX12_in lk_12_109 (c_inI 1 10) rfl rfl (Nat.le_of_ble_eq_true rfl) ⟨by decide, by decide⟩ ⟨Nat.zero_le _, Nat.zero_le _⟩ (k_rt ?_)
  refine x_if_eq (pc := 9) (tgt := 22) dX12_chance_9 rfl (fun h_9 => ?_) (fun h_9 => ?_)
  · refine x_ldc2 (pc := 22) dX12_chance_22 kc_12_368 ?_
    refine x_lreturn (pc := 25) dX12_chance_25 rfl ?_
    refine ⟨σ, ?_, rfl, pq.rf.q9⟩
    unfold chV
    rw [if_neg]
    rintro ⟨q1, q2⟩
    first
      | exact absurd h_9 (by rw [bi_t q1]; decide)
      | exact absurd h_19 (by rw [bi_t q2]; decide)
  · refine x_iload_n (pc := 12) dX12_chance_12 rfl ?_
    refine x_i2l (pc := 13) dX12_chance_13 ?_
    refine x_lconst (pc := 14) (v := 0) dX12_chance_14 rfl ?_
    refine x_lconst (pc := 15) (v := 1) dX12_chance_15 rfl ?_
    refine x_callS (pc := 16) (As := [.long _, .long _, .long _]) dX12_chance_16 mX12_in lk_12_109 (c_inI 0 1) rfl rfl (Nat.le_of_ble_eq_true rfl) ⟨by decide, by decide⟩ ⟨Nat.zero_le _, Nat.zero_le _⟩ (k_rt ?_)
    refine x_if_ne (pc := 19) (tgt := 26) dX12_chance_19 rfl (fun h_19 => ?_) (fun h_19 => ?_)
    · have hv : (1 ≤ N ∧ N ≤ 10) ∧ (0 ≤ p ∧ p ≤ 1) := ⟨bi_n0 h_9, bi_n0 h_19⟩
      obtain ⟨K, hK10, hN⟩ := ixB (x := N) (n := 10) rfl ⟨Int32.le_trans (by decide) hv.1.1, hv.1.2⟩ (by omega)
      have hK : 0 < K := by
        rcases Nat.eq_zero_or_pos K with q | q
        · rw [hN, q] at hv
          exact absurd hv.1.1 (by decide)
        · exact q
      refine x_aload_n (pc := 26) dX12_chance_26 rfl ?_
      refine x_callV (pc := 27) (As := []) dX12_chance_27 mX12_gathers lk_12_311 hM.1 (c_gatherD hM hR) rfl rfl (Nat.le_of_ble_eq_true rfl) ⟨by decide, by decide⟩ ⟨Nat.zero_le _, Nat.zero_le _⟩ (fun v μ2 hq => ?_)
      obtain ⟨s0, rfl, rfl, hgk, h1, h2, h3⟩ := hq
      refine x_aload_n (pc := 30) dX12_chance_30 rfl ?_
      refine x_callV (pc := 31) (As := []) dX12_chance_31 mX12_keepsDays lk_12_344 hM.1 (c_keepsDays hM) rfl rfl (Nat.le_of_ble_eq_true rfl) ⟨by decide, by decide⟩ ⟨Nat.zero_le _, Nat.zero_le _⟩ (k_rv ?_)
      refine x_lconst (pc := 34) (v := 0) dX12_chance_34 rfl ?_
      refine x_lstore (pc := 35) (lv2 := [_, _, _, _, _, _, _, _, _, _, _, _]) dX12_chance_35 (by decide) rfl rfl ?_
      refine x_iconst (pc := 37) (v := 0) dX12_chance_37 rfl ?_
      refine x_istore (pc := 38) (lv2 := [_, _, _, _, _, _, _, _, _, _, _, _]) dX12_chance_38 (by decide) rfl rfl ?_
      exact Lo s0 K (pq.gk hgk) h1 h2 h3 hN hK hK10 hv K 0 _ (by omega) ds.rf
    · refine x_ldc2 (pc := 22) dX12_chance_22 kc_12_368 ?_
      refine x_lreturn (pc := 25) dX12_chance_25 rfl ?_
      refine ⟨σ, ?_, rfl, pq.rf.q9⟩
      unfold chV
      rw [if_neg]
      rintro ⟨q1, q2⟩
      first
        | exact absurd h_9 (by rw [bi_t q1]; decide)
        | exact absurd h_19 (by rw [bi_t q2]; decide)
def offD (D : PD) (i s G : Nat) : Nat → Nat
  | 0 => 0
  | g + 1 => offD D i s G g + (if G.testBit g = true ∧ g ≠ D 2 i ∧ seeD D g s = true then ofD (D 0 i) (D 1 i) (D 2 i) g else 0)
def isMs (D : PD) (i s G : Nat) : Bool := G.testBit (D 2 i) && !seeD D (D 2 i) s && decide (0 < msD (D 0 i) (D 1 i))
def dyP (D : PD) (i G w : Nat) : Bool := if w = 1 then isMs D i (D 3 i) G else if w = 2 then decide (0 < offD D i (D 3 i) G 4) else decide (D 9 (5 * i + bc G) * tbD D i (D 3 i) G 4 = 0)
def dyS (D : PD) (G w : Nat) : Nat → Nat
  | 0 => 0
  | i + 1 => dyS D G w i ||| ((if dyP D i G w = true then 1 else 0) <<< i)
def dyV (D : PD) (n : Nat) (x y : Int32) : Int32 := if (0 ≤ x ∧ x ≤ 15) ∧ (0 ≤ y ∧ y ≤ 3) then (if y = 0 then nI (bnD D (D 3) (nn x) n) else nI (dyS D (nn x) (nn y) n)) else -2
theorem or_a : ∀ x, x < 32 → ∀ b, b < 2 → ∀ i, i < 5 → nI x ||| (nI b <<< (nI i &&& 31)) = nI (x ||| (b <<< i)) ∧ (x ||| (b <<< i)) < 32 := by decide +kernel
theorem dyS_lt (D : PD) (G w : Nat) : ∀ i, i ≤ 5 → dyS D G w i < 32
  | 0, _ => by show 0 < 32; omega
  | i + 1, hi => (or_a _ (dyS_lt D G w i (by omega)) _ (by split <;> omega) i (by omega)).2
theorem off_a {σ : MS} {D : PD} {n i s G g : Nat} (h : RD σ D n) (hi : i < 5) (hs : s < 7) (hG : G < 16) (hg : g < 4) : (nI (offD D i s G g) + (if gbt (nI G) (nI g) = 1 ∧ ¬ nI g = σ.2.2 12 i ∧ ¬ seS σ g s = 0 then ofI (σ.2.2 10 i) (σ.2.2 11 i) (σ.2.2 12 i) (nI g) else 0)) = nI (offD D i s G (g + 1)) := by
  obtain ⟨h10, h11, h12, -⟩ := h.2.2.1 i hi
  obtain ⟨k1, k2, k3, -⟩ := h.1.2.1 i hi
  have e1 := bit_a G hG g hg
  have e2 := see_a h (g := g) hg hs
  have e3 := (of_a (D 0 i) k1 (D 1 i) k2 (D 2 i) k3 g hg).1
  have e4 : nI g = nI (D 2 i) ↔ g = D 2 i := nI_eq (by omega) (by omega)
  have hst : offD D i s G (g + 1) = offD D i s G g + (if G.testBit g = true ∧ g ≠ D 2 i ∧ seeD D g s = true then ofD (D 0 i) (D 1 i) (D 2 i) g else 0) := rfl
  rw [h10, h11, h12, hst]
  by_cases hc : G.testBit g = true ∧ g ≠ D 2 i ∧ seeD D g s = true
  · rw [if_pos hc, if_pos ⟨e1.mpr hc.1, fun z => hc.2.1 (e4.mp z), fun z => by rw [e2.mp z] at hc; exact absurd hc.2.2 (by decide)⟩, e3, nI_add]
  · rw [if_neg hc, if_neg (fun z => hc ⟨e1.mp z.1, fun y => z.2.1 (e4.mpr y), by
      have := z.2.2
      rw [e2] at this
      cases hsd : seeD D g s
      · exact absurd hsd this
      · rfl⟩), Int32.add_zero, Nat.add_zero]
theorem off_le {D : PD} {n i s G : Nat} (h : okD D n) (hi : i < 5) : ∀ g, g ≤ 4 → offD D i s G g ≤ 2 * g
  | 0, _ => Nat.le_refl _
  | g + 1, hg => by
    have := off_le (s := s) (G := G) h hi g (by omega)
    obtain ⟨k1, k2, k3, -⟩ := h.2.1 i hi
    have := (of_a (D 0 i) k1 (D 1 i) k2 (D 2 i) k3 g (by omega)).2
    unfold offD
    split <;> omega
theorem c_day (hM : MOK μ a) {D : PD} {n r m : Nat} (x y : Int32) (hR : RR σ D n r m) : XM Γ zX12_day 51 0 0 [.ref a.1, .int x, .int y] (MV μ a σ) (fun v μ2 => ∃ s : MS, v = some (.int (dyV D n x y)) ∧ μ2 = MV μ a s ∧ pq σ s) := by
  refine XM.of 6 rfl (by decide) (Nat.le_of_ble_eq_true rfl) ?_
  have hn := hR.1.1.1
  have Lo : ∀ (G k : Nat) (s : MS), G < 16 → k ≤ 3 → ¬ k = 0 → x = nI G → y = nI k → pq σ s → RD s D n → RG s D n → ∀ (m i : Nat) (z5 z6 z7 z8 : Option Value), i + m = n → WA Γ zX12_day (xrm 51 0 0) 0 0 0 0 (fun v μ2 => ∃ s : MS, v = some (.int (dyV D n x y)) ∧ μ2 = MV μ a s ∧ pq σ s) 41 [some (.ref a.1), some (.int x), some (.int y), some (.int (nI (dyS D G k i))), some (.int (nI i)), z5, z6, z7, z8] [] (MV μ a s) := by
    intro G k s hG hk hk0 hx hy hp h hg m
    subst hx
    subst hy
    have h15 := h.2.1
    have gB : 0 ≤ nI G ∧ nI G ≤ 15 := by exact ⟨nI_pos' (by omega), nI_le (b := 15) (by omega) (by omega)⟩
    have kB : 0 ≤ nI k ∧ nI k ≤ 3 := by exact ⟨nI_pos' (by omega), nI_le (b := 3) (by omega) (by omega)⟩
    induction m with
    | zero =>
      intro i z5 z6 z7 z8 hi
      obtain rfl : i = n := by omega
      refine x_iload (pc := 41) dX12_day_41 rfl ?_
      refine x_aload_n (pc := 43) dX12_day_43 rfl ?_
      refine m_getI (pc := 44) hM dX12_day_44 fk_12_106 (Or.inl rfl) ?_
      refine x_icmp_ge (pc := 47) (tgt := 256) dX12_day_47 rfl (fun h_47 => ?_) (fun h_47 => absurd (by rw [h15]; exact Int32.le_refl _) h_47)
      refine x_iload_n (pc := 256) dX12_day_256 rfl ?_
      refine x_ireturn (pc := 257) dX12_day_257 rfl rfl ?_
      refine ⟨s, ?_, rfl, hp⟩
      unfold dyV
      rw [if_pos ⟨gB, kB⟩, if_neg (by exact nI_ne0 (by omega) (by omega)), nn_nI (by omega), nn_nI (by omega)]
    | succ m ih =>
      intro i z5 z6 z7 z8 hi
      obtain ⟨h10, h11, h12, h14⟩ := h.2.2.1 i (by omega)
      obtain ⟨k1, k2, k3, k4⟩ := h.1.2.1 i (by omega)
      have e1 := bit_b G hG (D 2 i) k3
      have e2 := see_a h k3 k4
      have e3 := ms_a (D 0 i) k1 (D 1 i) k2
      -- the end of a thing's turn
      have F : ∀ (bm : Nat), bm = (if isMs D i (D 3 i) G = true then 1 else 0) → WA Γ zX12_day (xrm 51 0 0) 0 0 0 0 (fun v μ2 => ∃ s : MS, v = some (.int (dyV D n (nI G) (nI k))) ∧ μ2 = MV μ a s ∧ pq σ s) 169 [some (.ref a.1), some (.int (nI G)), some (.int (nI k)), some (.int (nI (dyS D G k i))), some (.int (nI i)), some (.int (nI (D 2 i))), some (.int (nI bm)), some (.int (nI (offD D i (D 3 i) G 4))), some (.int 4)] [] (MV μ a s) := by
        intro bm hbm
        obtain ⟨t1, t2⟩ := tb_a h (show i < 5 by omega) k4 hG 4 (Nat.le_refl 4)
        have ho := off_le (s := D 3 i) (G := G) h.1 (show i < 5 by omega) 4 (Nat.le_refl 4)
        have hm99 := (hg.1 i (by omega)).2 (bc G) (by have := bc_le hG; omega)
        have e33 := (hg.2 i (by omega)).2 (bc G) (by have := bc_le hG; omega)
        have hmul : D 9 (5 * i + bc G) * tbD D i (D 3 i) G 4 ≤ 99 * 12 := Nat.mul_le_mul hm99 (by omega)
        have hlt := dyS_lt D G k i (by omega)
        have IH : ∀ (b : Nat) (z5 z6 z7 z8 : Option Value), b < 2 → (b = 1 ↔ dyP D i G k = true) → WA Γ zX12_day (xrm 51 0 0) 0 0 0 0 (fun v μ2 => ∃ s : MS, v = some (.int (dyV D n (nI G) (nI k))) ∧ μ2 = MV μ a s ∧ pq σ s) 41 [some (.ref a.1), some (.int (nI G)), some (.int (nI k)), some (.int (nI (dyS D G k i) ||| (nI b <<< (nI i &&& 31)))), some (.int (nI (i + 1))), z5, z6, z7, z8] [] (MV μ a s) := by
          intro b z5 z6 z7 z8 hb hbp
          rw [(or_a _ hlt b hb i (by omega)).1]
          have : b = (if dyP D i G k = true then 1 else 0) := by
            split
            · rename_i q; exact hbp.mpr q
            · rename_i q
              have : ¬ b = 1 := fun z => q (hbp.mp z)
              omega
          rw [this]
          exact ih (i + 1) _ _ _ _ (by omega)
        refine x_aload_n (pc := 169) dX12_day_169 rfl ?_
        refine m_getR (pc := 170) hM dX12_day_170 fk_12_53 (Or.inr ⟨_, rfl⟩) (Or.inl (by decide)) ?_
        refine x_iconst (pc := 173) (v := 5) dX12_day_173 rfl ?_
        refine x_iload (pc := 174) dX12_day_174 rfl ?_
        refine x_imul (pc := 176) dX12_day_176 ?_
        refine x_iload_n (pc := 177) dX12_day_177 rfl ?_
        refine x_callS (pc := 178) (As := [.int _]) dX12_day_178 mX12_bitsOf lk_12_276 (c_bitsOf hG) rfl rfl (Nat.le_of_ble_eq_true rfl) ⟨by decide, by decide⟩ ⟨Nat.zero_le _, Nat.zero_le _⟩ (k_rt ?_)
        refine x_iadd (pc := 181) dX12_day_181 ?_
        refine m_iald (pc := 182) hM dX12_day_182 (i5m i _) (by show 5 * i + bc G < 25; have := bc_le hG; omega) ?_
        refine x_aload_n (pc := 183) dX12_day_183 rfl ?_
        refine x_iload (pc := 184) dX12_day_184 rfl ?_
        refine x_aload_n (pc := 186) dX12_day_186 rfl ?_
        refine m_getR (pc := 187) hM dX12_day_187 fk_12_44 (Or.inr ⟨_, rfl⟩) (Or.inl (by decide)) ?_
        refine x_iload (pc := 190) dX12_day_190 rfl ?_
        refine m_iald (pc := 192) hM dX12_day_192 (rfl) (by show i < 5; omega) ?_
        rw [h14]
        refine x_iload_n (pc := 193) dX12_day_193 rfl ?_
        refine x_callV (pc := 194) (As := [.int _, .int _, .int _]) dX12_day_194 mX12_timesBad lk_12_279 hM.1 (c_timesBad hM _ (by omega) (by omega) h.gv) rfl rfl (Nat.le_of_ble_eq_true rfl) ⟨by decide, by decide⟩ ⟨Nat.zero_le _, Nat.zero_le _⟩ (k_rt ?_)
        refine x_imul (pc := 197) dX12_day_197 ?_
        rw [e33, t1, pk_mul]
        refine x_if_ne (pc := 198) (tgt := 205) dX12_day_198 rfl (fun h_198 => ?_) (fun h_198 => ?_)
        · refine x_iconst (pc := 205) (v := 0) dX12_day_205 rfl ?_
          refine x_istore (pc := 206) (lv2 := [_, _, _, _, _, _, _, _, _]) dX12_day_206 (by decide) rfl rfl ?_
          refine x_iload_n (pc := 208) dX12_day_208 rfl ?_
          refine x_iload_n (pc := 209) dX12_day_209 rfl ?_
          refine x_iconst (pc := 210) (v := 1) dX12_day_210 rfl ?_
          refine x_icmp_ne (pc := 211) (tgt := 222) dX12_day_211 rfl (fun h_211 => ?_) (fun h_211 => ?_)
          · refine x_iload_n (pc := 222) dX12_day_222 rfl ?_
            refine x_iconst (pc := 223) (v := 2) dX12_day_223 rfl ?_
            refine x_icmp_ne (pc := 224) (tgt := 235) dX12_day_224 rfl (fun h_224 => ?_) (fun h_224 => ?_)
            · refine x_iload (pc := 235) dX12_day_235 rfl ?_
              refine x_if_eq (pc := 237) (tgt := 244) dX12_day_237 rfl (fun h_237 => ?_) (fun h_237 => absurd (by decide) h_237)
              refine x_iconst (pc := 244) (v := 0) dX12_day_244 rfl ?_
              refine x_iload (pc := 245) dX12_day_245 rfl ?_
              refine x_ishl (pc := 247) dX12_day_247 ?_
              refine x_ior (pc := 248) dX12_day_248 ?_
              refine x_istore_n (pc := 249) (lv2 := [_, _, _, _, _, _, _, _, _]) dX12_day_249 (by decide) rfl rfl ?_
              refine x_iinc (pc := 250) (lv2 := [_, _, _, _, _, _, _, _, _]) dX12_day_250 (by decide) rfl rfl (nI_1 _) rfl ?_
              refine x_goto (pc := 253) (tgt := 41) dX12_day_253 rfl ?_
              first
                | refine IH 1 (some (.int (nI (D 2 i)))) (some (.int (nI bm))) _ _ (by omega) ⟨fun _ => ?_, fun _ => rfl⟩
                | refine IH 0 (some (.int (nI (D 2 i)))) (some (.int (nI bm))) _ _ (by omega) ⟨fun q => absurd q (by decide), fun q => ?_⟩
              all_goals
                unfold dyP at *
                first
                  | (have hk1 : k = 1 := by
                       have q := h_211
                       first
                         | exact (nI_eq (a := k) (b := 1) (by omega) (by omega)).mp (by exact q)
                         | exact (nI_eq (a := k) (b := 1) (by omega) (by omega)).mp (by exact Decidable.not_not.mp q)
                     subst hk1
                     simp only [if_true] at *
                     first
                       | (rw [if_neg (by assumption)] at hbm; subst hbm; exact absurd rfl h_216)
                       | (cases hq : isMs D i (D 3 i) G
                          · rw [hq] at hbm
                            subst hbm
                            exact absurd rfl h_216
                          · rfl)
                       | (rw [if_pos (by assumption)] at hbm; subst hbm; exact absurd h_216 (by decide)))
                  | (have hk2 : k = 2 := by
                       have q := h_224
                       first
                         | exact (nI_eq (a := k) (b := 2) (by omega) (by omega)).mp (by exact q)
                         | exact (nI_eq (a := k) (b := 2) (by omega) (by omega)).mp (by exact Decidable.not_not.mp q)
                     subst hk2
                     rw [if_neg (by omega), if_pos rfl] at *
                     first
                       | exact decide_eq_true (by
                           have := (nI_ltI (a := 0) (by omega) (by omega)).mp (Int32.not_le.mp h_229)
                           exact this)
                       | (have q1 := of_decide_eq_true q
                          exact absurd h_229 (nI_nle (by omega) (by omega))))
                  | (have hk1 : ¬ k = 1 := fun z => h_211 (by rw [z]; rfl)
                     have hk2 : ¬ k = 2 := fun z => h_224 (by rw [z]; rfl)
                     rw [if_neg hk1, if_neg hk2] at *
                     first
                       | exact absurd rfl h_237
                       | (have q := Decidable.not_not.mp h_198
                          exact decide_eq_true ((nI_eq (b := 0) (by omega) (by omega)).mp q))
                       | exact decide_eq_true ((nI_eq (b := 0) (by omega) (by omega)).mp h_198)
                       | (have q1 := of_decide_eq_true q
                          exact absurd (by rw [q1]; rfl) h_198))
            · refine x_iload (pc := 227) dX12_day_227 rfl ?_
              refine x_if_le (pc := 229) (tgt := 244) dX12_day_229 rfl (fun h_229 => ?_) (fun h_229 => ?_)
              · refine x_iconst (pc := 244) (v := 0) dX12_day_244 rfl ?_
                refine x_iload (pc := 245) dX12_day_245 rfl ?_
                refine x_ishl (pc := 247) dX12_day_247 ?_
                refine x_ior (pc := 248) dX12_day_248 ?_
                refine x_istore_n (pc := 249) (lv2 := [_, _, _, _, _, _, _, _, _]) dX12_day_249 (by decide) rfl rfl ?_
                refine x_iinc (pc := 250) (lv2 := [_, _, _, _, _, _, _, _, _]) dX12_day_250 (by decide) rfl rfl (nI_1 _) rfl ?_
                refine x_goto (pc := 253) (tgt := 41) dX12_day_253 rfl ?_
                first
                  | refine IH 1 (some (.int (nI (D 2 i)))) (some (.int (nI bm))) _ _ (by omega) ⟨fun _ => ?_, fun _ => rfl⟩
                  | refine IH 0 (some (.int (nI (D 2 i)))) (some (.int (nI bm))) _ _ (by omega) ⟨fun q => absurd q (by decide), fun q => ?_⟩
                all_goals
                  unfold dyP at *
                  first
                    | (have hk1 : k = 1 := by
                         have q := h_211
                         first
                           | exact (nI_eq (a := k) (b := 1) (by omega) (by omega)).mp (by exact q)
                           | exact (nI_eq (a := k) (b := 1) (by omega) (by omega)).mp (by exact Decidable.not_not.mp q)
                       subst hk1
                       simp only [if_true] at *
                       first
                         | (rw [if_neg (by assumption)] at hbm; subst hbm; exact absurd rfl h_216)
                         | (cases hq : isMs D i (D 3 i) G
                            · rw [hq] at hbm
                              subst hbm
                              exact absurd rfl h_216
                            · rfl)
                         | (rw [if_pos (by assumption)] at hbm; subst hbm; exact absurd h_216 (by decide)))
                    | (have hk2 : k = 2 := by
                         have q := h_224
                         first
                           | exact (nI_eq (a := k) (b := 2) (by omega) (by omega)).mp (by exact q)
                           | exact (nI_eq (a := k) (b := 2) (by omega) (by omega)).mp (by exact Decidable.not_not.mp q)
                       subst hk2
                       rw [if_neg (by omega), if_pos rfl] at *
                       first
                         | exact decide_eq_true (by
                             have := (nI_ltI (a := 0) (by omega) (by omega)).mp (Int32.not_le.mp h_229)
                             exact this)
                         | (have q1 := of_decide_eq_true q
                            exact absurd h_229 (nI_nle (by omega) (by omega))))
                    | (have hk1 : ¬ k = 1 := fun z => h_211 (by rw [z]; rfl)
                       have hk2 : ¬ k = 2 := fun z => h_224 (by rw [z]; rfl)
                       rw [if_neg hk1, if_neg hk2] at *
                       first
                         | exact absurd rfl h_237
                         | (have q := Decidable.not_not.mp h_198
                            exact decide_eq_true ((nI_eq (b := 0) (by omega) (by omega)).mp q))
                         | exact decide_eq_true ((nI_eq (b := 0) (by omega) (by omega)).mp h_198)
                         | (have q1 := of_decide_eq_true q
                            exact absurd (by rw [q1]; rfl) h_198))
              · refine x_goto (pc := 232) (tgt := 240) dX12_day_232 rfl ?_
                refine x_iconst (pc := 240) (v := 1) dX12_day_240 rfl ?_
                refine x_goto (pc := 241) (tgt := 245) dX12_day_241 rfl ?_
                refine x_iload (pc := 245) dX12_day_245 rfl ?_
                refine x_ishl (pc := 247) dX12_day_247 ?_
                refine x_ior (pc := 248) dX12_day_248 ?_
                refine x_istore_n (pc := 249) (lv2 := [_, _, _, _, _, _, _, _, _]) dX12_day_249 (by decide) rfl rfl ?_
                refine x_iinc (pc := 250) (lv2 := [_, _, _, _, _, _, _, _, _]) dX12_day_250 (by decide) rfl rfl (nI_1 _) rfl ?_
                refine x_goto (pc := 253) (tgt := 41) dX12_day_253 rfl ?_
                first
                  | refine IH 1 (some (.int (nI (D 2 i)))) (some (.int (nI bm))) _ _ (by omega) ⟨fun _ => ?_, fun _ => rfl⟩
                  | refine IH 0 (some (.int (nI (D 2 i)))) (some (.int (nI bm))) _ _ (by omega) ⟨fun q => absurd q (by decide), fun q => ?_⟩
                all_goals
                  unfold dyP at *
                  first
                    | (have hk1 : k = 1 := by
                         have q := h_211
                         first
                           | exact (nI_eq (a := k) (b := 1) (by omega) (by omega)).mp (by exact q)
                           | exact (nI_eq (a := k) (b := 1) (by omega) (by omega)).mp (by exact Decidable.not_not.mp q)
                       subst hk1
                       simp only [if_true] at *
                       first
                         | (rw [if_neg (by assumption)] at hbm; subst hbm; exact absurd rfl h_216)
                         | (cases hq : isMs D i (D 3 i) G
                            · rw [hq] at hbm
                              subst hbm
                              exact absurd rfl h_216
                            · rfl)
                         | (rw [if_pos (by assumption)] at hbm; subst hbm; exact absurd h_216 (by decide)))
                    | (have hk2 : k = 2 := by
                         have q := h_224
                         first
                           | exact (nI_eq (a := k) (b := 2) (by omega) (by omega)).mp (by exact q)
                           | exact (nI_eq (a := k) (b := 2) (by omega) (by omega)).mp (by exact Decidable.not_not.mp q)
                       subst hk2
                       rw [if_neg (by omega), if_pos rfl] at *
                       first
                         | exact decide_eq_true (by
                             have := (nI_ltI (a := 0) (by omega) (by omega)).mp (Int32.not_le.mp h_229)
                             exact this)
                         | (have q1 := of_decide_eq_true q
                            exact absurd h_229 (nI_nle (by omega) (by omega))))
                    | (have hk1 : ¬ k = 1 := fun z => h_211 (by rw [z]; rfl)
                       have hk2 : ¬ k = 2 := fun z => h_224 (by rw [z]; rfl)
                       rw [if_neg hk1, if_neg hk2] at *
                       first
                         | exact absurd rfl h_237
                         | (have q := Decidable.not_not.mp h_198
                            exact decide_eq_true ((nI_eq (b := 0) (by omega) (by omega)).mp q))
                         | exact decide_eq_true ((nI_eq (b := 0) (by omega) (by omega)).mp h_198)
                         | (have q1 := of_decide_eq_true q
                            exact absurd (by rw [q1]; rfl) h_198))
          · refine x_iload (pc := 214) dX12_day_214 rfl ?_
            refine x_if_eq (pc := 216) (tgt := 244) dX12_day_216 rfl (fun h_216 => ?_) (fun h_216 => ?_)
            · refine x_iconst (pc := 244) (v := 0) dX12_day_244 rfl ?_
              refine x_iload (pc := 245) dX12_day_245 rfl ?_
              refine x_ishl (pc := 247) dX12_day_247 ?_
              refine x_ior (pc := 248) dX12_day_248 ?_
              refine x_istore_n (pc := 249) (lv2 := [_, _, _, _, _, _, _, _, _]) dX12_day_249 (by decide) rfl rfl ?_
              refine x_iinc (pc := 250) (lv2 := [_, _, _, _, _, _, _, _, _]) dX12_day_250 (by decide) rfl rfl (nI_1 _) rfl ?_
              refine x_goto (pc := 253) (tgt := 41) dX12_day_253 rfl ?_
              first
                | refine IH 1 (some (.int (nI (D 2 i)))) (some (.int (nI bm))) _ _ (by omega) ⟨fun _ => ?_, fun _ => rfl⟩
                | refine IH 0 (some (.int (nI (D 2 i)))) (some (.int (nI bm))) _ _ (by omega) ⟨fun q => absurd q (by decide), fun q => ?_⟩
              all_goals
                unfold dyP at *
                first
                  | (have hk1 : k = 1 := by
                       have q := h_211
                       first
                         | exact (nI_eq (a := k) (b := 1) (by omega) (by omega)).mp (by exact q)
                         | exact (nI_eq (a := k) (b := 1) (by omega) (by omega)).mp (by exact Decidable.not_not.mp q)
                     subst hk1
                     simp only [if_true] at *
                     first
                       | (rw [if_neg (by assumption)] at hbm; subst hbm; exact absurd rfl h_216)
                       | (cases hq : isMs D i (D 3 i) G
                          · rw [hq] at hbm
                            subst hbm
                            exact absurd rfl h_216
                          · rfl)
                       | (rw [if_pos (by assumption)] at hbm; subst hbm; exact absurd h_216 (by decide)))
                  | (have hk2 : k = 2 := by
                       have q := h_224
                       first
                         | exact (nI_eq (a := k) (b := 2) (by omega) (by omega)).mp (by exact q)
                         | exact (nI_eq (a := k) (b := 2) (by omega) (by omega)).mp (by exact Decidable.not_not.mp q)
                     subst hk2
                     rw [if_neg (by omega), if_pos rfl] at *
                     first
                       | exact decide_eq_true (by
                           have := (nI_ltI (a := 0) (by omega) (by omega)).mp (Int32.not_le.mp h_229)
                           exact this)
                       | (have q1 := of_decide_eq_true q
                          exact absurd h_229 (nI_nle (by omega) (by omega))))
                  | (have hk1 : ¬ k = 1 := fun z => h_211 (by rw [z]; rfl)
                     have hk2 : ¬ k = 2 := fun z => h_224 (by rw [z]; rfl)
                     rw [if_neg hk1, if_neg hk2] at *
                     first
                       | exact absurd rfl h_237
                       | (have q := Decidable.not_not.mp h_198
                          exact decide_eq_true ((nI_eq (b := 0) (by omega) (by omega)).mp q))
                       | exact decide_eq_true ((nI_eq (b := 0) (by omega) (by omega)).mp h_198)
                       | (have q1 := of_decide_eq_true q
                          exact absurd (by rw [q1]; rfl) h_198))
            · refine x_goto (pc := 219) (tgt := 240) dX12_day_219 rfl ?_
              refine x_iconst (pc := 240) (v := 1) dX12_day_240 rfl ?_
              refine x_goto (pc := 241) (tgt := 245) dX12_day_241 rfl ?_
              refine x_iload (pc := 245) dX12_day_245 rfl ?_
              refine x_ishl (pc := 247) dX12_day_247 ?_
              refine x_ior (pc := 248) dX12_day_248 ?_
              refine x_istore_n (pc := 249) (lv2 := [_, _, _, _, _, _, _, _, _]) dX12_day_249 (by decide) rfl rfl ?_
              refine x_iinc (pc := 250) (lv2 := [_, _, _, _, _, _, _, _, _]) dX12_day_250 (by decide) rfl rfl (nI_1 _) rfl ?_
              refine x_goto (pc := 253) (tgt := 41) dX12_day_253 rfl ?_
              first
                | refine IH 1 (some (.int (nI (D 2 i)))) (some (.int (nI bm))) _ _ (by omega) ⟨fun _ => ?_, fun _ => rfl⟩
                | refine IH 0 (some (.int (nI (D 2 i)))) (some (.int (nI bm))) _ _ (by omega) ⟨fun q => absurd q (by decide), fun q => ?_⟩
              all_goals
                unfold dyP at *
                first
                  | (have hk1 : k = 1 := by
                       have q := h_211
                       first
                         | exact (nI_eq (a := k) (b := 1) (by omega) (by omega)).mp (by exact q)
                         | exact (nI_eq (a := k) (b := 1) (by omega) (by omega)).mp (by exact Decidable.not_not.mp q)
                     subst hk1
                     simp only [if_true] at *
                     first
                       | (rw [if_neg (by assumption)] at hbm; subst hbm; exact absurd rfl h_216)
                       | (cases hq : isMs D i (D 3 i) G
                          · rw [hq] at hbm
                            subst hbm
                            exact absurd rfl h_216
                          · rfl)
                       | (rw [if_pos (by assumption)] at hbm; subst hbm; exact absurd h_216 (by decide)))
                  | (have hk2 : k = 2 := by
                       have q := h_224
                       first
                         | exact (nI_eq (a := k) (b := 2) (by omega) (by omega)).mp (by exact q)
                         | exact (nI_eq (a := k) (b := 2) (by omega) (by omega)).mp (by exact Decidable.not_not.mp q)
                     subst hk2
                     rw [if_neg (by omega), if_pos rfl] at *
                     first
                       | exact decide_eq_true (by
                           have := (nI_ltI (a := 0) (by omega) (by omega)).mp (Int32.not_le.mp h_229)
                           exact this)
                       | (have q1 := of_decide_eq_true q
                          exact absurd h_229 (nI_nle (by omega) (by omega))))
                  | (have hk1 : ¬ k = 1 := fun z => h_211 (by rw [z]; rfl)
                     have hk2 : ¬ k = 2 := fun z => h_224 (by rw [z]; rfl)
                     rw [if_neg hk1, if_neg hk2] at *
                     first
                       | exact absurd rfl h_237
                       | (have q := Decidable.not_not.mp h_198
                          exact decide_eq_true ((nI_eq (b := 0) (by omega) (by omega)).mp q))
                       | exact decide_eq_true ((nI_eq (b := 0) (by omega) (by omega)).mp h_198)
                       | (have q1 := of_decide_eq_true q
                          exact absurd (by rw [q1]; rfl) h_198))
        · refine x_iconst (pc := 201) (v := 1) dX12_day_201 rfl ?_
          refine x_goto (pc := 202) (tgt := 206) dX12_day_202 rfl ?_
          refine x_istore (pc := 206) (lv2 := [_, _, _, _, _, _, _, _, _]) dX12_day_206 (by decide) rfl rfl ?_
          refine x_iload_n (pc := 208) dX12_day_208 rfl ?_
          refine x_iload_n (pc := 209) dX12_day_209 rfl ?_
          refine x_iconst (pc := 210) (v := 1) dX12_day_210 rfl ?_
          refine x_icmp_ne (pc := 211) (tgt := 222) dX12_day_211 rfl (fun h_211 => ?_) (fun h_211 => ?_)
          · refine x_iload_n (pc := 222) dX12_day_222 rfl ?_
            refine x_iconst (pc := 223) (v := 2) dX12_day_223 rfl ?_
            refine x_icmp_ne (pc := 224) (tgt := 235) dX12_day_224 rfl (fun h_224 => ?_) (fun h_224 => ?_)
            · refine x_iload (pc := 235) dX12_day_235 rfl ?_
              refine x_if_eq (pc := 237) (tgt := 244) dX12_day_237 rfl (fun h_237 => absurd h_237 (by decide)) (fun h_237 => ?_)
              refine x_iconst (pc := 240) (v := 1) dX12_day_240 rfl ?_
              refine x_goto (pc := 241) (tgt := 245) dX12_day_241 rfl ?_
              refine x_iload (pc := 245) dX12_day_245 rfl ?_
              refine x_ishl (pc := 247) dX12_day_247 ?_
              refine x_ior (pc := 248) dX12_day_248 ?_
              refine x_istore_n (pc := 249) (lv2 := [_, _, _, _, _, _, _, _, _]) dX12_day_249 (by decide) rfl rfl ?_
              refine x_iinc (pc := 250) (lv2 := [_, _, _, _, _, _, _, _, _]) dX12_day_250 (by decide) rfl rfl (nI_1 _) rfl ?_
              refine x_goto (pc := 253) (tgt := 41) dX12_day_253 rfl ?_
              first
                | refine IH 1 (some (.int (nI (D 2 i)))) (some (.int (nI bm))) _ _ (by omega) ⟨fun _ => ?_, fun _ => rfl⟩
                | refine IH 0 (some (.int (nI (D 2 i)))) (some (.int (nI bm))) _ _ (by omega) ⟨fun q => absurd q (by decide), fun q => ?_⟩
              all_goals
                unfold dyP at *
                first
                  | (have hk1 : k = 1 := by
                       have q := h_211
                       first
                         | exact (nI_eq (a := k) (b := 1) (by omega) (by omega)).mp (by exact q)
                         | exact (nI_eq (a := k) (b := 1) (by omega) (by omega)).mp (by exact Decidable.not_not.mp q)
                     subst hk1
                     simp only [if_true] at *
                     first
                       | (rw [if_neg (by assumption)] at hbm; subst hbm; exact absurd rfl h_216)
                       | (cases hq : isMs D i (D 3 i) G
                          · rw [hq] at hbm
                            subst hbm
                            exact absurd rfl h_216
                          · rfl)
                       | (rw [if_pos (by assumption)] at hbm; subst hbm; exact absurd h_216 (by decide)))
                  | (have hk2 : k = 2 := by
                       have q := h_224
                       first
                         | exact (nI_eq (a := k) (b := 2) (by omega) (by omega)).mp (by exact q)
                         | exact (nI_eq (a := k) (b := 2) (by omega) (by omega)).mp (by exact Decidable.not_not.mp q)
                     subst hk2
                     rw [if_neg (by omega), if_pos rfl] at *
                     first
                       | exact decide_eq_true (by
                           have := (nI_ltI (a := 0) (by omega) (by omega)).mp (Int32.not_le.mp h_229)
                           exact this)
                       | (have q1 := of_decide_eq_true q
                          exact absurd h_229 (nI_nle (by omega) (by omega))))
                  | (have hk1 : ¬ k = 1 := fun z => h_211 (by rw [z]; rfl)
                     have hk2 : ¬ k = 2 := fun z => h_224 (by rw [z]; rfl)
                     rw [if_neg hk1, if_neg hk2] at *
                     first
                       | exact absurd rfl h_237
                       | (have q := Decidable.not_not.mp h_198
                          exact decide_eq_true ((nI_eq (b := 0) (by omega) (by omega)).mp q))
                       | exact decide_eq_true ((nI_eq (b := 0) (by omega) (by omega)).mp h_198)
                       | (have q1 := of_decide_eq_true q
                          exact absurd (by rw [q1]; rfl) h_198))
            · refine x_iload (pc := 227) dX12_day_227 rfl ?_
              refine x_if_le (pc := 229) (tgt := 244) dX12_day_229 rfl (fun h_229 => ?_) (fun h_229 => ?_)
              · refine x_iconst (pc := 244) (v := 0) dX12_day_244 rfl ?_
                refine x_iload (pc := 245) dX12_day_245 rfl ?_
                refine x_ishl (pc := 247) dX12_day_247 ?_
                refine x_ior (pc := 248) dX12_day_248 ?_
                refine x_istore_n (pc := 249) (lv2 := [_, _, _, _, _, _, _, _, _]) dX12_day_249 (by decide) rfl rfl ?_
                refine x_iinc (pc := 250) (lv2 := [_, _, _, _, _, _, _, _, _]) dX12_day_250 (by decide) rfl rfl (nI_1 _) rfl ?_
                refine x_goto (pc := 253) (tgt := 41) dX12_day_253 rfl ?_
                first
                  | refine IH 1 (some (.int (nI (D 2 i)))) (some (.int (nI bm))) _ _ (by omega) ⟨fun _ => ?_, fun _ => rfl⟩
                  | refine IH 0 (some (.int (nI (D 2 i)))) (some (.int (nI bm))) _ _ (by omega) ⟨fun q => absurd q (by decide), fun q => ?_⟩
                all_goals
                  unfold dyP at *
                  first
                    | (have hk1 : k = 1 := by
                         have q := h_211
                         first
                           | exact (nI_eq (a := k) (b := 1) (by omega) (by omega)).mp (by exact q)
                           | exact (nI_eq (a := k) (b := 1) (by omega) (by omega)).mp (by exact Decidable.not_not.mp q)
                       subst hk1
                       simp only [if_true] at *
                       first
                         | (rw [if_neg (by assumption)] at hbm; subst hbm; exact absurd rfl h_216)
                         | (cases hq : isMs D i (D 3 i) G
                            · rw [hq] at hbm
                              subst hbm
                              exact absurd rfl h_216
                            · rfl)
                         | (rw [if_pos (by assumption)] at hbm; subst hbm; exact absurd h_216 (by decide)))
                    | (have hk2 : k = 2 := by
                         have q := h_224
                         first
                           | exact (nI_eq (a := k) (b := 2) (by omega) (by omega)).mp (by exact q)
                           | exact (nI_eq (a := k) (b := 2) (by omega) (by omega)).mp (by exact Decidable.not_not.mp q)
                       subst hk2
                       rw [if_neg (by omega), if_pos rfl] at *
                       first
                         | exact decide_eq_true (by
                             have := (nI_ltI (a := 0) (by omega) (by omega)).mp (Int32.not_le.mp h_229)
                             exact this)
                         | (have q1 := of_decide_eq_true q
                            exact absurd h_229 (nI_nle (by omega) (by omega))))
                    | (have hk1 : ¬ k = 1 := fun z => h_211 (by rw [z]; rfl)
                       have hk2 : ¬ k = 2 := fun z => h_224 (by rw [z]; rfl)
                       rw [if_neg hk1, if_neg hk2] at *
                       first
                         | exact absurd rfl h_237
                         | (have q := Decidable.not_not.mp h_198
                            exact decide_eq_true ((nI_eq (b := 0) (by omega) (by omega)).mp q))
                         | exact decide_eq_true ((nI_eq (b := 0) (by omega) (by omega)).mp h_198)
                         | (have q1 := of_decide_eq_true q
                            exact absurd (by rw [q1]; rfl) h_198))
              · refine x_goto (pc := 232) (tgt := 240) dX12_day_232 rfl ?_
                refine x_iconst (pc := 240) (v := 1) dX12_day_240 rfl ?_
                refine x_goto (pc := 241) (tgt := 245) dX12_day_241 rfl ?_
                refine x_iload (pc := 245) dX12_day_245 rfl ?_
                refine x_ishl (pc := 247) dX12_day_247 ?_
                refine x_ior (pc := 248) dX12_day_248 ?_
                refine x_istore_n (pc := 249) (lv2 := [_, _, _, _, _, _, _, _, _]) dX12_day_249 (by decide) rfl rfl ?_
                refine x_iinc (pc := 250) (lv2 := [_, _, _, _, _, _, _, _, _]) dX12_day_250 (by decide) rfl rfl (nI_1 _) rfl ?_
                refine x_goto (pc := 253) (tgt := 41) dX12_day_253 rfl ?_
                first
                  | refine IH 1 (some (.int (nI (D 2 i)))) (some (.int (nI bm))) _ _ (by omega) ⟨fun _ => ?_, fun _ => rfl⟩
                  | refine IH 0 (some (.int (nI (D 2 i)))) (some (.int (nI bm))) _ _ (by omega) ⟨fun q => absurd q (by decide), fun q => ?_⟩
                all_goals
                  unfold dyP at *
                  first
                    | (have hk1 : k = 1 := by
                         have q := h_211
                         first
                           | exact (nI_eq (a := k) (b := 1) (by omega) (by omega)).mp (by exact q)
                           | exact (nI_eq (a := k) (b := 1) (by omega) (by omega)).mp (by exact Decidable.not_not.mp q)
                       subst hk1
                       simp only [if_true] at *
                       first
                         | (rw [if_neg (by assumption)] at hbm; subst hbm; exact absurd rfl h_216)
                         | (cases hq : isMs D i (D 3 i) G
                            · rw [hq] at hbm
                              subst hbm
                              exact absurd rfl h_216
                            · rfl)
                         | (rw [if_pos (by assumption)] at hbm; subst hbm; exact absurd h_216 (by decide)))
                    | (have hk2 : k = 2 := by
                         have q := h_224
                         first
                           | exact (nI_eq (a := k) (b := 2) (by omega) (by omega)).mp (by exact q)
                           | exact (nI_eq (a := k) (b := 2) (by omega) (by omega)).mp (by exact Decidable.not_not.mp q)
                       subst hk2
                       rw [if_neg (by omega), if_pos rfl] at *
                       first
                         | exact decide_eq_true (by
                             have := (nI_ltI (a := 0) (by omega) (by omega)).mp (Int32.not_le.mp h_229)
                             exact this)
                         | (have q1 := of_decide_eq_true q
                            exact absurd h_229 (nI_nle (by omega) (by omega))))
                    | (have hk1 : ¬ k = 1 := fun z => h_211 (by rw [z]; rfl)
                       have hk2 : ¬ k = 2 := fun z => h_224 (by rw [z]; rfl)
                       rw [if_neg hk1, if_neg hk2] at *
                       first
                         | exact absurd rfl h_237
                         | (have q := Decidable.not_not.mp h_198
                            exact decide_eq_true ((nI_eq (b := 0) (by omega) (by omega)).mp q))
                         | exact decide_eq_true ((nI_eq (b := 0) (by omega) (by omega)).mp h_198)
                         | (have q1 := of_decide_eq_true q
                            exact absurd (by rw [q1]; rfl) h_198))
          · refine x_iload (pc := 214) dX12_day_214 rfl ?_
            refine x_if_eq (pc := 216) (tgt := 244) dX12_day_216 rfl (fun h_216 => ?_) (fun h_216 => ?_)
            · refine x_iconst (pc := 244) (v := 0) dX12_day_244 rfl ?_
              refine x_iload (pc := 245) dX12_day_245 rfl ?_
              refine x_ishl (pc := 247) dX12_day_247 ?_
              refine x_ior (pc := 248) dX12_day_248 ?_
              refine x_istore_n (pc := 249) (lv2 := [_, _, _, _, _, _, _, _, _]) dX12_day_249 (by decide) rfl rfl ?_
              refine x_iinc (pc := 250) (lv2 := [_, _, _, _, _, _, _, _, _]) dX12_day_250 (by decide) rfl rfl (nI_1 _) rfl ?_
              refine x_goto (pc := 253) (tgt := 41) dX12_day_253 rfl ?_
              first
                | refine IH 1 (some (.int (nI (D 2 i)))) (some (.int (nI bm))) _ _ (by omega) ⟨fun _ => ?_, fun _ => rfl⟩
                | refine IH 0 (some (.int (nI (D 2 i)))) (some (.int (nI bm))) _ _ (by omega) ⟨fun q => absurd q (by decide), fun q => ?_⟩
              all_goals
                unfold dyP at *
                first
                  | (have hk1 : k = 1 := by
                       have q := h_211
                       first
                         | exact (nI_eq (a := k) (b := 1) (by omega) (by omega)).mp (by exact q)
                         | exact (nI_eq (a := k) (b := 1) (by omega) (by omega)).mp (by exact Decidable.not_not.mp q)
                     subst hk1
                     simp only [if_true] at *
                     first
                       | (rw [if_neg (by assumption)] at hbm; subst hbm; exact absurd rfl h_216)
                       | (cases hq : isMs D i (D 3 i) G
                          · rw [hq] at hbm
                            subst hbm
                            exact absurd rfl h_216
                          · rfl)
                       | (rw [if_pos (by assumption)] at hbm; subst hbm; exact absurd h_216 (by decide)))
                  | (have hk2 : k = 2 := by
                       have q := h_224
                       first
                         | exact (nI_eq (a := k) (b := 2) (by omega) (by omega)).mp (by exact q)
                         | exact (nI_eq (a := k) (b := 2) (by omega) (by omega)).mp (by exact Decidable.not_not.mp q)
                     subst hk2
                     rw [if_neg (by omega), if_pos rfl] at *
                     first
                       | exact decide_eq_true (by
                           have := (nI_ltI (a := 0) (by omega) (by omega)).mp (Int32.not_le.mp h_229)
                           exact this)
                       | (have q1 := of_decide_eq_true q
                          exact absurd h_229 (nI_nle (by omega) (by omega))))
                  | (have hk1 : ¬ k = 1 := fun z => h_211 (by rw [z]; rfl)
                     have hk2 : ¬ k = 2 := fun z => h_224 (by rw [z]; rfl)
                     rw [if_neg hk1, if_neg hk2] at *
                     first
                       | exact absurd rfl h_237
                       | (have q := Decidable.not_not.mp h_198
                          exact decide_eq_true ((nI_eq (b := 0) (by omega) (by omega)).mp q))
                       | exact decide_eq_true ((nI_eq (b := 0) (by omega) (by omega)).mp h_198)
                       | (have q1 := of_decide_eq_true q
                          exact absurd (by rw [q1]; rfl) h_198))
            · refine x_goto (pc := 219) (tgt := 240) dX12_day_219 rfl ?_
              refine x_iconst (pc := 240) (v := 1) dX12_day_240 rfl ?_
              refine x_goto (pc := 241) (tgt := 245) dX12_day_241 rfl ?_
              refine x_iload (pc := 245) dX12_day_245 rfl ?_
              refine x_ishl (pc := 247) dX12_day_247 ?_
              refine x_ior (pc := 248) dX12_day_248 ?_
              refine x_istore_n (pc := 249) (lv2 := [_, _, _, _, _, _, _, _, _]) dX12_day_249 (by decide) rfl rfl ?_
              refine x_iinc (pc := 250) (lv2 := [_, _, _, _, _, _, _, _, _]) dX12_day_250 (by decide) rfl rfl (nI_1 _) rfl ?_
              refine x_goto (pc := 253) (tgt := 41) dX12_day_253 rfl ?_
              first
                | refine IH 1 (some (.int (nI (D 2 i)))) (some (.int (nI bm))) _ _ (by omega) ⟨fun _ => ?_, fun _ => rfl⟩
                | refine IH 0 (some (.int (nI (D 2 i)))) (some (.int (nI bm))) _ _ (by omega) ⟨fun q => absurd q (by decide), fun q => ?_⟩
              all_goals
                unfold dyP at *
                first
                  | (have hk1 : k = 1 := by
                       have q := h_211
                       first
                         | exact (nI_eq (a := k) (b := 1) (by omega) (by omega)).mp (by exact q)
                         | exact (nI_eq (a := k) (b := 1) (by omega) (by omega)).mp (by exact Decidable.not_not.mp q)
                     subst hk1
                     simp only [if_true] at *
                     first
                       | (rw [if_neg (by assumption)] at hbm; subst hbm; exact absurd rfl h_216)
                       | (cases hq : isMs D i (D 3 i) G
                          · rw [hq] at hbm
                            subst hbm
                            exact absurd rfl h_216
                          · rfl)
                       | (rw [if_pos (by assumption)] at hbm; subst hbm; exact absurd h_216 (by decide)))
                  | (have hk2 : k = 2 := by
                       have q := h_224
                       first
                         | exact (nI_eq (a := k) (b := 2) (by omega) (by omega)).mp (by exact q)
                         | exact (nI_eq (a := k) (b := 2) (by omega) (by omega)).mp (by exact Decidable.not_not.mp q)
                     subst hk2
                     rw [if_neg (by omega), if_pos rfl] at *
                     first
                       | exact decide_eq_true (by
                           have := (nI_ltI (a := 0) (by omega) (by omega)).mp (Int32.not_le.mp h_229)
                           exact this)
                       | (have q1 := of_decide_eq_true q
                          exact absurd h_229 (nI_nle (by omega) (by omega))))
                  | (have hk1 : ¬ k = 1 := fun z => h_211 (by rw [z]; rfl)
                     have hk2 : ¬ k = 2 := fun z => h_224 (by rw [z]; rfl)
                     rw [if_neg hk1, if_neg hk2] at *
                     first
                       | exact absurd rfl h_237
                       | (have q := Decidable.not_not.mp h_198
                          exact decide_eq_true ((nI_eq (b := 0) (by omega) (by omega)).mp q))
                       | exact decide_eq_true ((nI_eq (b := 0) (by omega) (by omega)).mp h_198)
                       | (have q1 := of_decide_eq_true q
                          exact absurd (by rw [q1]; rfl) h_198))
      have Li : ∀ (bm : Nat), bm = (if isMs D i (D 3 i) G = true then 1 else 0) → ∀ (m2 g : Nat), g + m2 = 4 → WA Γ zX12_day (xrm 51 0 0) 0 0 0 0 (fun v μ2 => ∃ s : MS, v = some (.int (dyV D n (nI G) (nI k))) ∧ μ2 = MV μ a s ∧ pq σ s) 107 [some (.ref a.1), some (.int (nI G)), some (.int (nI k)), some (.int (nI (dyS D G k i))), some (.int (nI i)), some (.int (nI (D 2 i))), some (.int (nI bm)), some (.int (nI (offD D i (D 3 i) G g))), some (.int (nI g))] [] (MV μ a s) := by
        intro bm hbm m2
        induction m2 with
        | zero =>
          intro g hg4
          obtain rfl : g = 4 := by omega
          refine x_iload (pc := 107) dX12_day_107 rfl ?_
          refine x_iconst (pc := 109) (v := 4) dX12_day_109 rfl ?_
          refine x_icmp_ge (pc := 110) (tgt := 169) dX12_day_110 rfl (fun h_110 => ?_) (fun h_110 => absurd (by decide) h_110)
          exact F bm hbm
        | succ m2 ih2 =>
          intro g hg4
          have eo := off_a h (show i < 5 by omega) k4 hG (show g < 4 by omega)
          refine x_iload (pc := 107) dX12_day_107 rfl ?_
          refine x_iconst (pc := 109) (v := 4) dX12_day_109 rfl ?_
          refine x_icmp_ge (pc := 110) (tgt := 169) dX12_day_110 rfl (fun h_110 => absurd h_110 (lit_le (n := 4) g (by omega) (by omega))) (fun h_110 => ?_)
          refine x_iload (pc := 113) dX12_day_113 rfl ?_
          refine x_iload_n (pc := 115) dX12_day_115 rfl ?_
          refine x_iload (pc := 116) dX12_day_116 rfl ?_
          refine x_ishr (pc := 118) dX12_day_118 ?_
          refine x_iconst (pc := 119) (v := 1) dX12_day_119 rfl ?_
          refine x_iand (pc := 120) dX12_day_120 ?_
          refine x_iconst (pc := 121) (v := 1) dX12_day_121 rfl ?_
          refine x_icmp_ne (pc := 122) (tgt := 159) dX12_day_122 rfl (fun h_122 => ?_) (fun h_122 => ?_)
          · refine x_iconst (pc := 159) (v := 0) dX12_day_159 rfl ?_
            refine x_iadd (pc := 160) dX12_day_160 ?_
            first
              | rw [if_pos ⟨by rw [gbt]; first | exact h_122 | exact Decidable.not_not.mp h_122, by rw [h12]; exact h_129, by exact h_145⟩] at eo
              | rw [if_neg (by
                  rintro ⟨q1, q2, q3⟩
                  first
                    | exact h_122 (by exact q1)
                    | exact q2 (by rw [h12]; exact h_129)
                    | exact q3 (by exact h_145))] at eo
            rw [eo]
            refine x_istore (pc := 161) (lv2 := [_, _, _, _, _, _, _, _, _]) dX12_day_161 (by decide) rfl rfl ?_
            refine x_iinc (pc := 163) (lv2 := [_, _, _, _, _, _, _, _, _]) dX12_day_163 (by decide) rfl rfl (nI_1 _) rfl ?_
            refine x_goto (pc := 166) (tgt := 107) dX12_day_166 rfl ?_
            exact ih2 (g + 1) (by omega)
          · refine x_iload (pc := 125) dX12_day_125 rfl ?_
            refine x_iload (pc := 127) dX12_day_127 rfl ?_
            refine x_icmp_eq (pc := 129) (tgt := 159) dX12_day_129 rfl (fun h_129 => ?_) (fun h_129 => ?_)
            · refine x_iconst (pc := 159) (v := 0) dX12_day_159 rfl ?_
              refine x_iadd (pc := 160) dX12_day_160 ?_
              first
                | rw [if_pos ⟨by rw [gbt]; first | exact h_122 | exact Decidable.not_not.mp h_122, by rw [h12]; exact h_129, by exact h_145⟩] at eo
                | rw [if_neg (by
                    rintro ⟨q1, q2, q3⟩
                    first
                      | exact h_122 (by exact q1)
                      | exact q2 (by rw [h12]; exact h_129)
                      | exact q3 (by exact h_145))] at eo
              rw [eo]
              refine x_istore (pc := 161) (lv2 := [_, _, _, _, _, _, _, _, _]) dX12_day_161 (by decide) rfl rfl ?_
              refine x_iinc (pc := 163) (lv2 := [_, _, _, _, _, _, _, _, _]) dX12_day_163 (by decide) rfl rfl (nI_1 _) rfl ?_
              refine x_goto (pc := 166) (tgt := 107) dX12_day_166 rfl ?_
              exact ih2 (g + 1) (by omega)
            · refine x_aload_n (pc := 132) dX12_day_132 rfl ?_
              refine x_iload (pc := 133) dX12_day_133 rfl ?_
              refine x_aload_n (pc := 135) dX12_day_135 rfl ?_
              refine m_getR (pc := 136) hM dX12_day_136 fk_12_44 (Or.inr ⟨_, rfl⟩) (Or.inl (by decide)) ?_
              refine x_iload (pc := 139) dX12_day_139 rfl ?_
              refine m_iald (pc := 141) hM dX12_day_141 (rfl) (by show i < 5; omega) ?_
              rw [h14]
              refine x_callV (pc := 142) (As := [.int _, .int _]) dX12_day_142 mX12_doesSee lk_12_140 hM.1 (c_doesSeeS hM (by omega) (by omega)) rfl rfl (Nat.le_of_ble_eq_true rfl) ⟨by decide, by decide⟩ ⟨Nat.zero_le _, Nat.zero_le _⟩ (k_rt ?_)
              refine x_if_eq (pc := 145) (tgt := 159) dX12_day_145 rfl (fun h_145 => ?_) (fun h_145 => ?_)
              · refine x_iconst (pc := 159) (v := 0) dX12_day_159 rfl ?_
                refine x_iadd (pc := 160) dX12_day_160 ?_
                first
                  | rw [if_pos ⟨by rw [gbt]; first | exact h_122 | exact Decidable.not_not.mp h_122, by rw [h12]; exact h_129, by exact h_145⟩] at eo
                  | rw [if_neg (by
                      rintro ⟨q1, q2, q3⟩
                      first
                        | exact h_122 (by exact q1)
                        | exact q2 (by rw [h12]; exact h_129)
                        | exact q3 (by exact h_145))] at eo
                rw [eo]
                refine x_istore (pc := 161) (lv2 := [_, _, _, _, _, _, _, _, _]) dX12_day_161 (by decide) rfl rfl ?_
                refine x_iinc (pc := 163) (lv2 := [_, _, _, _, _, _, _, _, _]) dX12_day_163 (by decide) rfl rfl (nI_1 _) rfl ?_
                refine x_goto (pc := 166) (tgt := 107) dX12_day_166 rfl ?_
                exact ih2 (g + 1) (by omega)
              · refine x_aload_n (pc := 148) dX12_day_148 rfl ?_
                refine x_iload (pc := 149) dX12_day_149 rfl ?_
                refine x_iload (pc := 151) dX12_day_151 rfl ?_
                refine x_callV (pc := 153) (As := [.int _, .int _]) dX12_day_153 mX12_offendsOf lk_12_273 hM.1 (c_offendsOf hM _ rfl (by omega)) rfl rfl (Nat.le_of_ble_eq_true rfl) ⟨by decide, by decide⟩ ⟨Nat.zero_le _, Nat.zero_le _⟩ (k_rt ?_)
                refine x_goto (pc := 156) (tgt := 160) dX12_day_156 rfl ?_
                refine x_iadd (pc := 160) dX12_day_160 ?_
                first
                  | rw [if_pos ⟨by rw [gbt]; first | exact h_122 | exact Decidable.not_not.mp h_122, by rw [h12]; exact h_129, by exact h_145⟩] at eo
                  | rw [if_neg (by
                      rintro ⟨q1, q2, q3⟩
                      first
                        | exact h_122 (by exact q1)
                        | exact q2 (by rw [h12]; exact h_129)
                        | exact q3 (by exact h_145))] at eo
                rw [eo]
                refine x_istore (pc := 161) (lv2 := [_, _, _, _, _, _, _, _, _]) dX12_day_161 (by decide) rfl rfl ?_
                refine x_iinc (pc := 163) (lv2 := [_, _, _, _, _, _, _, _, _]) dX12_day_163 (by decide) rfl rfl (nI_1 _) rfl ?_
                refine x_goto (pc := 166) (tgt := 107) dX12_day_166 rfl ?_
                exact ih2 (g + 1) (by omega)
      refine x_iload (pc := 41) dX12_day_41 rfl ?_
      refine x_aload_n (pc := 43) dX12_day_43 rfl ?_
      refine m_getI (pc := 44) hM dX12_day_44 fk_12_106 (Or.inl rfl) ?_
      refine x_icmp_ge (pc := 47) (tgt := 256) dX12_day_47 rfl (fun h_47 => absurd h_47 (by rw [h15]; exact lit_le i (by omega) (by omega))) (fun h_47 => ?_)
      refine x_aload_n (pc := 50) dX12_day_50 rfl ?_
      refine m_getR (pc := 51) hM dX12_day_51 fk_12_38 (Or.inr ⟨_, rfl⟩) (Or.inl (by decide)) ?_
      refine x_iload (pc := 54) dX12_day_54 rfl ?_
      refine m_iald (pc := 56) hM dX12_day_56 (rfl) (by show i < 5; omega) ?_
      rw [h12]
      refine x_istore (pc := 57) (lv2 := [_, _, _, _, _, _, _, _, _]) dX12_day_57 (by decide) rfl rfl ?_
      refine x_iload_n (pc := 59) dX12_day_59 rfl ?_
      refine x_iload (pc := 60) dX12_day_60 rfl ?_
      refine x_ishr (pc := 62) dX12_day_62 ?_
      refine x_iconst (pc := 63) (v := 1) dX12_day_63 rfl ?_
      refine x_iand (pc := 64) dX12_day_64 ?_
      refine x_iconst (pc := 65) (v := 1) dX12_day_65 rfl ?_
      refine x_icmp_ne (pc := 66) (tgt := 98) dX12_day_66 rfl (fun h_66 => ?_) (fun h_66 => ?_)
      · refine x_iconst (pc := 98) (v := 0) dX12_day_98 rfl ?_
        refine x_istore (pc := 99) (lv2 := [_, _, _, _, _, _, _, _, _]) dX12_day_99 (by decide) rfl rfl ?_
        refine x_iconst (pc := 101) (v := 0) dX12_day_101 rfl ?_
        refine x_istore (pc := 102) (lv2 := [_, _, _, _, _, _, _, _, _]) dX12_day_102 (by decide) rfl rfl ?_
        refine x_iconst (pc := 104) (v := 0) dX12_day_104 rfl ?_
        refine x_istore (pc := 105) (lv2 := [_, _, _, _, _, _, _, _, _]) dX12_day_105 (by decide) rfl rfl ?_
        first
          | exact Li 1 (by
              rw [if_pos]
              unfold isMs
              rw [e1.mp (by first | exact h_66 | exact Decidable.not_not.mp h_66), e2.mp (by first | exact h_82 | exact Decidable.not_not.mp h_82), decide_eq_true (by
                have q := Int32.not_le.mp h_91
                rw [h10, h11, e3.1] at q
                exact (nI_ltI (a := 0) (by omega) (by omega)).mp q)]
              rfl) 4 0 (by omega)
          | exact Li 0 (by
              rw [if_neg]
              unfold isMs
              intro q
              simp only [Bool.and_eq_true, Bool.not_eq_true', decide_eq_true_eq] at q
              first
                | exact h_66 (by exact e1.mpr q.1.1)
                | exact h_82 (e2.mpr q.1.2)
                | (have z := h_91
                   rw [h10, h11, e3.1] at z
                   exact nI_nle q.2 (by omega) z)) 4 0 (by omega)
      · refine x_aload_n (pc := 69) dX12_day_69 rfl ?_
        refine x_iload (pc := 70) dX12_day_70 rfl ?_
        refine x_aload_n (pc := 72) dX12_day_72 rfl ?_
        refine m_getR (pc := 73) hM dX12_day_73 fk_12_44 (Or.inr ⟨_, rfl⟩) (Or.inl (by decide)) ?_
        refine x_iload (pc := 76) dX12_day_76 rfl ?_
        refine m_iald (pc := 78) hM dX12_day_78 (rfl) (by show i < 5; omega) ?_
        rw [h14]
        refine x_callV (pc := 79) (As := [.int _, .int _]) dX12_day_79 mX12_doesSee lk_12_140 hM.1 (c_doesSeeS hM k3 (by omega)) rfl rfl (Nat.le_of_ble_eq_true rfl) ⟨by decide, by decide⟩ ⟨Nat.zero_le _, Nat.zero_le _⟩ (k_rt ?_)
        refine x_if_ne (pc := 82) (tgt := 98) dX12_day_82 rfl (fun h_82 => ?_) (fun h_82 => ?_)
        · refine x_iconst (pc := 98) (v := 0) dX12_day_98 rfl ?_
          refine x_istore (pc := 99) (lv2 := [_, _, _, _, _, _, _, _, _]) dX12_day_99 (by decide) rfl rfl ?_
          refine x_iconst (pc := 101) (v := 0) dX12_day_101 rfl ?_
          refine x_istore (pc := 102) (lv2 := [_, _, _, _, _, _, _, _, _]) dX12_day_102 (by decide) rfl rfl ?_
          refine x_iconst (pc := 104) (v := 0) dX12_day_104 rfl ?_
          refine x_istore (pc := 105) (lv2 := [_, _, _, _, _, _, _, _, _]) dX12_day_105 (by decide) rfl rfl ?_
          first
            | exact Li 1 (by
                rw [if_pos]
                unfold isMs
                rw [e1.mp (by first | exact h_66 | exact Decidable.not_not.mp h_66), e2.mp (by first | exact h_82 | exact Decidable.not_not.mp h_82), decide_eq_true (by
                  have q := Int32.not_le.mp h_91
                  rw [h10, h11, e3.1] at q
                  exact (nI_ltI (a := 0) (by omega) (by omega)).mp q)]
                rfl) 4 0 (by omega)
            | exact Li 0 (by
                rw [if_neg]
                unfold isMs
                intro q
                simp only [Bool.and_eq_true, Bool.not_eq_true', decide_eq_true_eq] at q
                first
                  | exact h_66 (by exact e1.mpr q.1.1)
                  | exact h_82 (e2.mpr q.1.2)
                  | (have z := h_91
                     rw [h10, h11, e3.1] at z
                     exact nI_nle q.2 (by omega) z)) 4 0 (by omega)
        · refine x_aload_n (pc := 85) dX12_day_85 rfl ?_
          refine x_iload (pc := 86) dX12_day_86 rfl ?_
          refine x_callV (pc := 88) (As := [.int _]) dX12_day_88 mX12_missedOf lk_12_270 hM.1 (c_missedOf hM rfl (by omega)) rfl rfl (Nat.le_of_ble_eq_true rfl) ⟨by decide, by decide⟩ ⟨Nat.zero_le _, Nat.zero_le _⟩ (k_rt ?_)
          refine x_if_le (pc := 91) (tgt := 98) dX12_day_91 rfl (fun h_91 => ?_) (fun h_91 => ?_)
          · refine x_iconst (pc := 98) (v := 0) dX12_day_98 rfl ?_
            refine x_istore (pc := 99) (lv2 := [_, _, _, _, _, _, _, _, _]) dX12_day_99 (by decide) rfl rfl ?_
            refine x_iconst (pc := 101) (v := 0) dX12_day_101 rfl ?_
            refine x_istore (pc := 102) (lv2 := [_, _, _, _, _, _, _, _, _]) dX12_day_102 (by decide) rfl rfl ?_
            refine x_iconst (pc := 104) (v := 0) dX12_day_104 rfl ?_
            refine x_istore (pc := 105) (lv2 := [_, _, _, _, _, _, _, _, _]) dX12_day_105 (by decide) rfl rfl ?_
            first
              | exact Li 1 (by
                  rw [if_pos]
                  unfold isMs
                  rw [e1.mp (by first | exact h_66 | exact Decidable.not_not.mp h_66), e2.mp (by first | exact h_82 | exact Decidable.not_not.mp h_82), decide_eq_true (by
                    have q := Int32.not_le.mp h_91
                    rw [h10, h11, e3.1] at q
                    exact (nI_ltI (a := 0) (by omega) (by omega)).mp q)]
                  rfl) 4 0 (by omega)
              | exact Li 0 (by
                  rw [if_neg]
                  unfold isMs
                  intro q
                  simp only [Bool.and_eq_true, Bool.not_eq_true', decide_eq_true_eq] at q
                  first
                    | exact h_66 (by exact e1.mpr q.1.1)
                    | exact h_82 (e2.mpr q.1.2)
                    | (have z := h_91
                       rw [h10, h11, e3.1] at z
                       exact nI_nle q.2 (by omega) z)) 4 0 (by omega)
          · refine x_iconst (pc := 94) (v := 1) dX12_day_94 rfl ?_
            refine x_goto (pc := 95) (tgt := 99) dX12_day_95 rfl ?_
            refine x_istore (pc := 99) (lv2 := [_, _, _, _, _, _, _, _, _]) dX12_day_99 (by decide) rfl rfl ?_
            refine x_iconst (pc := 101) (v := 0) dX12_day_101 rfl ?_
            refine x_istore (pc := 102) (lv2 := [_, _, _, _, _, _, _, _, _]) dX12_day_102 (by decide) rfl rfl ?_
            refine x_iconst (pc := 104) (v := 0) dX12_day_104 rfl ?_
            refine x_istore (pc := 105) (lv2 := [_, _, _, _, _, _, _, _, _]) dX12_day_105 (by decide) rfl rfl ?_
            first
              | exact Li 1 (by
                  rw [if_pos]
                  unfold isMs
                  rw [e1.mp (by first | exact h_66 | exact Decidable.not_not.mp h_66), e2.mp (by first | exact h_82 | exact Decidable.not_not.mp h_82), decide_eq_true (by
                    have q := Int32.not_le.mp h_91
                    rw [h10, h11, e3.1] at q
                    exact (nI_ltI (a := 0) (by omega) (by omega)).mp q)]
                  rfl) 4 0 (by omega)
              | exact Li 0 (by
                  rw [if_neg]
                  unfold isMs
                  intro q
                  simp only [Bool.and_eq_true, Bool.not_eq_true', decide_eq_true_eq] at q
                  first
                    | exact h_66 (by exact e1.mpr q.1.1)
                    | exact h_82 (e2.mpr q.1.2)
                    | (have z := h_91
                       rw [h10, h11, e3.1] at z
                       exact nI_nle q.2 (by omega) z)) 4 0 (by omega)
  refine x_iload_n (pc := 0) dX12_day_0 rfl ?_
  refine x_callS (pc := 1) (As := [.int _]) dX12_day_1 mX12_areGuests lk_12_308 (c_areGuests _) rfl rfl (Nat.le_of_ble_eq_true rfl) ⟨by decide, by decide⟩ ⟨Nat.zero_le _, Nat.zero_le _⟩ (k_rt ?_)
  refine x_if_eq (pc := 4) (tgt := 19) dX12_day_4 rfl (fun h_4 => ?_) (fun h_4 => ?_)
  · refine x_bipush (pc := 19) (v := -2) dX12_day_19 rfl ?_
    refine x_ireturn (pc := 21) dX12_day_21 rfl rfl ?_
    refine ⟨σ, ?_, rfl, pq.rf⟩
    unfold dyV
    rw [if_neg]
    rintro ⟨q1, q2⟩
    first
      | exact absurd h_4 (by rw [bi_t q1]; decide)
      | exact absurd h_16 (by rw [bi_t q2]; decide)
  · refine x_iload_n (pc := 7) dX12_day_7 rfl ?_
    refine x_i2l (pc := 8) dX12_day_8 ?_
    refine x_lconst (pc := 9) (v := 0) dX12_day_9 rfl ?_
    refine x_ldc2 (pc := 10) dX12_day_10 kc_12_117 ?_
    refine x_callS (pc := 13) (As := [.long _, .long _, .long _]) dX12_day_13 mX12_in lk_12_109 (c_inI 0 3) rfl rfl (Nat.le_of_ble_eq_true rfl) ⟨by decide, by decide⟩ ⟨Nat.zero_le _, Nat.zero_le _⟩ (k_rt ?_)
    refine x_if_ne (pc := 16) (tgt := 22) dX12_day_16 rfl (fun h_16 => ?_) (fun h_16 => ?_)
    · have hvv : (0 ≤ x ∧ x ≤ 15) ∧ (0 ≤ y ∧ y ≤ 3) := ⟨bi_n0 h_4, bi_n0 h_16⟩
      obtain ⟨G, hG, hx⟩ := ixB (n := 15) rfl hvv.1 (by omega)
      obtain ⟨k, hk, hy⟩ := ixB (n := 3) rfl hvv.2 (by omega)
      refine x_aload_n (pc := 22) dX12_day_22 rfl ?_
      refine x_callV (pc := 23) (As := []) dX12_day_23 mX12_gathers lk_12_311 hM.1 (c_gatherD hM hR) rfl rfl (Nat.le_of_ble_eq_true rfl) ⟨by decide, by decide⟩ ⟨Nat.zero_le _, Nat.zero_le _⟩ (fun v μ2 hq => ?_)
      obtain ⟨s0, rfl, rfl, hgk, h1, h2, h3⟩ := hq
      refine x_iload_n (pc := 26) dX12_day_26 rfl ?_
      refine x_if_ne (pc := 27) (tgt := 36) dX12_day_27 rfl (fun h_27 => ?_) (fun h_27 => ?_)
      · refine x_iconst (pc := 36) (v := 0) dX12_day_36 rfl ?_
        refine x_istore_n (pc := 37) (lv2 := [_, _, _, _, _, _, _, _, _]) dX12_day_37 (by decide) rfl rfl ?_
        refine x_iconst (pc := 38) (v := 0) dX12_day_38 rfl ?_
        refine x_istore (pc := 39) (lv2 := [_, _, _, _, _, _, _, _, _]) dX12_day_39 (by decide) rfl rfl ?_
        exact Lo G k s0 (by omega) hk (fun z => h_27 (by rw [hy, z]; rfl)) hx hy (pq.gk hgk) h1 h2 n 0 _ _ _ _ (by omega)
      · refine x_aload_n (pc := 30) dX12_day_30 rfl ?_
        refine x_iload_n (pc := 31) dX12_day_31 rfl ?_
        subst hx
        refine x_callV (pc := 32) (As := [.int _]) dX12_day_32 mX12_badNow lk_12_314 hM.1 (c_badNow hM (G := G) (by omega) h1.2.1 hn h1.gv h1.pu) rfl rfl (Nat.le_of_ble_eq_true rfl) ⟨by decide, by decide⟩ ⟨Nat.zero_le _, Nat.zero_le _⟩ (k_rt ?_)
        refine x_ireturn (pc := 35) dX12_day_35 rfl rfl ?_
        refine ⟨s0, ?_, rfl, pq.gk hgk⟩
        unfold dyV
        rw [if_pos hvv, if_pos (by first | exact h_27 | exact Decidable.not_not.mp h_27), nn_nI (by omega), (bn_a h1 h2 (by omega) n (Nat.le_refl n)).1]
    · refine x_bipush (pc := 19) (v := -2) dX12_day_19 rfl ?_
      refine x_ireturn (pc := 21) dX12_day_21 rfl rfl ?_
      refine ⟨σ, ?_, rfl, pq.rf⟩
      unfold dyV
      rw [if_neg]
      rintro ⟨q1, q2⟩
      first
        | exact absurd h_4 (by rw [bi_t q1]; decide)
        | exact absurd h_16 (by rw [bi_t q2]; decide)
end M58
