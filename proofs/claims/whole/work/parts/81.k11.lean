/-! the class: search, prices -/
def seP : Nat → Nat → Prop := fun a k => a = 3 ∧ (k = 8 ∨ 100 ≤ k)
section M81a
variable {Γ : Gm} {μ : Mem} {b : Kb} {κ : KS} {o : Nat}
theorem k_fillR {f n : Nat} (hK : KR μ b o f n) (v : Int32) (hl2 : n < 2 ^ 31) : XM Γ zJ7_fill_53178 1 0 0 [.ref (adR b o f), .int v] (KV μ b κ) (rv (KV μ b (kS κ o f (pre (fun _ => v) (κ.2 o f) n)))) := by
  refine XM.of 2 rfl (by decide) (Nat.le_of_ble_eq_true rfl) ?_
  have L : ∀ (m j : Nat), j + m = n → WA Γ zJ7_fill_53178 (xrm 1 0 0) 0 0 0 0 (rv (KV μ b (kS κ o f (pre (fun _ => v) (κ.2 o f) n)))) 5 [some (.ref (adR b o f)), some (.int v), some (.int (nI j)), some (.int (nI n))] [] (KV μ b (kS κ o f (pre (fun _ => v) (κ.2 o f) j))) := by
    intro m
    induction m with
    | zero =>
      intro j hj
      obtain rfl : j = n := by omega
      refine x_iload_n (pc := 5) dJ7_fill_53178_5 rfl ?_
      refine x_iload_n (pc := 6) dJ7_fill_53178_6 rfl ?_
      refine x_icmp_ge (pc := 7) (tgt := 20) dJ7_fill_53178_7 rfl (fun h_7 => ?_) (fun h_7 => absurd (Int32.le_refl _) h_7)
      refine x_return (pc := 20) dJ7_fill_53178_20 rfl ?_
      exact ⟨rfl, rfl⟩
    | succ m ih =>
      intro j hj
      refine x_iload_n (pc := 5) dJ7_fill_53178_5 rfl ?_
      refine x_iload_n (pc := 6) dJ7_fill_53178_6 rfl ?_
      refine x_icmp_ge (pc := 7) (tgt := 20) dJ7_fill_53178_7 rfl (fun h_7 => absurd h_7 (lit_le (n := n) j (by omega) (by omega))) (fun h_7 => ?_)
      refine x_aload_n (pc := 10) dJ7_fill_53178_10 rfl ?_
      refine x_iload_n (pc := 11) dJ7_fill_53178_11 rfl ?_
      refine x_iload_n (pc := 12) dJ7_fill_53178_12 rfl ?_
      refine r_iast (pc := 13) hK dJ7_fill_53178_13 rfl (by omega) hl2 ?_
      rw [kS_A, pre_s (E := fun _ => v)]
      refine x_iinc (pc := 14) (lv2 := [_, _, _, _]) dJ7_fill_53178_14 (by decide) rfl rfl (nI_1 _) rfl ?_
      refine x_goto (pc := 17) (tgt := 5) dJ7_fill_53178_17 rfl ?_
      exact ih (j + 1) (by omega)
  refine x_iconst (pc := 0) (v := 0) dJ7_fill_53178_0 rfl ?_
  refine x_istore_n (pc := 1) (lv2 := [_, _, _, _]) dJ7_fill_53178_1 (by decide) rfl rfl ?_
  refine x_aload_n (pc := 2) dJ7_fill_53178_2 rfl ?_
  refine x_alen (pc := 3) dJ7_fill_53178_3 hK.2.2.1 (Or.inl rfl) rfl ?_
  refine x_istore_n (pc := 4) (lv2 := [_, _, _, _]) dJ7_fill_53178_4 (by decide) rfl rfl ?_
  have h := L n 0 (by omega)
  rw [pre_0, kS_0 rfl] at h
  exact h
end M81a
section M81
variable {Γ : Gm} {μ : Mem} {b : Kb} {κ : KS}
theorem k_search {kd : Nat → Nat} {n : Nat} (hP : KP μ b kd) (hn : n ≤ 5) {cp pr : Nat → Nat → Nat} {ok : Nat → Nat → Bool} {rm : Nat → Nat} (hcp : cpO cp pr ok n) (hpr : PRc κ cp n) (hrm : RMc κ rm n) (hcnt : κ.1 3 1 = nI n) {M : Nat} (hM : M ≤ 5) {r : Nat × List Nat} (hr0 : bst pr ok rm (decide (M < n)) n 0 0 M = some r) : XM Γ zX4_search 4 0 0 [.ref (adO b 3), .int (nI M)] (KV μ b κ) (fun x μ2 => ∃ κ2, x = some (.int (nI r.1)) ∧ μ2 = KV μ b κ2 ∧ kq seP κ κ2 ∧ ∀ t, t < n → κ2.2 3 8 t = nI (r.2.getD t 0) - 1) := by
  refine XM.of 4 rfl (by decide) (Nat.le_of_ble_eq_true rfl) ?_
  have hP0 := hP
  obtain ⟨hK, hth0, hX, hle0, hleT, hleX⟩ := hP
  -- what is left: M if it is counted
  have hlft : ∃ lm, lm ≤ 4 ∧ (if M < n then nI M else 0) = nI lm ∧ bst pr ok rm (decide (M < n)) n 0 0 lm = some r := by
    by_cases h : M < n
    · exact ⟨M, by omega, if_pos h, hr0⟩
    · refine ⟨0, by omega, if_neg h, ?_⟩
      rw [decide_eq_false h] at hr0 ⊢
      rw [bst_l n 0 0 0 M]
      exact hr0
  obtain ⟨lm, hlm4, elm, hr⟩ := hlft
  generalize hcn : decide (M < n) = cn at hr
  have E : ∀ (κ2 : KS) (z4 z5 : Option Value), kq seP κ κ2 → (∀ t, t ≤ n → LT κ2 pr ok rm cn n lm t) → WA Γ zX4_search (xrm 4 0 0) 0 0 0 0 (fun x μ2 => ∃ κ2, x = some (.int (nI r.1)) ∧ μ2 = KV μ b κ2 ∧ kq seP κ κ2 ∧ ∀ t, t < n → κ2.2 3 8 t = nI (r.2.getD t 0) - 1) 80 [some (.ref (adO b 3)), some (.int (nI M)), some (.int (cnI cn)), some (.int (nI lm)), z4, z5] [] (KV μ b κ2) := by
    intro κ2 z4 z5 hq hLT
    have hcnt2 : κ2.1 3 1 = nI n := (hq 3 1 (fun z => by have := z.2; omega)).1.trans hcnt
    have hpr2 := hpr.kq hq (fun x _ z => by have := z.1; omega)
    have hrm2 := hrm.kq hq (fun z => by have := z.2; omega)
    have eix : nI lm * 64 = nI (64 * lm + 0) := by rw [show (64 : Int32) = nI 64 from rfl, pk_mul, Nat.mul_comm]; rfl
    refine x_aload_n (pc := 80) dX4_search_80 rfl ?_
    refine x_iload_n (pc := 81) dX4_search_81 rfl ?_
    refine x_iload_n (pc := 82) dX4_search_82 rfl ?_
    refine x_callV (pc := 83) (As := [.int _, .int _]) dX4_search_83 mX4_follow lk_4_158 hK.2.2.1 (k_follow hP0 hn hcp hpr2 hrm2 hcnt2 (Nat.le_refl lm) hlm4 hLT hr) rfl rfl (Nat.le_of_ble_eq_true rfl) ⟨by decide, by decide⟩ ⟨Nat.zero_le _, Nat.zero_le _⟩ (fun x μ3 hq3 => ?_)
    obtain ⟨κ3, rfl, rfl, hq4, hf⟩ := hq3
    have e0 : κ3.2 3 100 (64 * lm + 0) = nI r.1 := by
      rw [(hq4 3 100 (fun z => by have := z.2; omega)).2]
      have := hLT 0 (Nat.zero_le _) lm (Nat.le_refl lm) 0 (by omega) (by decide)
      rw [Nat.sub_zero, hr] at this
      exact this
    refine x_aload_n (pc := 86) dX4_search_86 rfl ?_
    refine k_getR (pc := 87) hK dX4_search_87 fk_4_51 (Or.inr ⟨_, rfl⟩) (hle0) ?_
    refine x_iconst (pc := 90) (v := 0) dX4_search_90 rfl ?_
    refine x_aald7 (pc := 91) (i := 0) dX4_search_91 hleT rfl (by omega) (by decide) (hleX 0 (by omega)).1 ?_
    refine x_iload_n (pc := 92) dX4_search_92 rfl ?_
    refine x_bipush (pc := 93) (v := 64) dX4_search_93 rfl ?_
    refine x_imul (pc := 95) dX4_search_95 ?_
    rw [eix]
    refine r_iald (pc := 96) (hleX 0 (by omega)).2 dX4_search_96 rfl (by omega) (by decide) ?_
    rw [e0]
    refine x_ireturn (pc := 97) dX4_search_97 rfl rfl ?_
    exact ⟨κ3, rfl, rfl, hq.trans (hq4.mono (fun a k z => ⟨z.1, Or.inl z.2⟩)), hf⟩
  have Lo : ∀ (k : Nat) (κ2 : KS) (z5 : Option Value), k ≤ n → kq seP κ κ2 → (∀ t, k ≤ t → t ≤ n → LT κ2 pr ok rm cn n lm t) → WA Γ zX4_search (xrm 4 0 0) 0 0 0 0 (fun x μ2 => ∃ κ2, x = some (.int (nI r.1)) ∧ μ2 = KV μ b κ2 ∧ kq seP κ κ2 ∧ ∀ t, t < n → κ2.2 3 8 t = nI (r.2.getD t 0) - 1) 45 [some (.ref (adO b 3)), some (.int (nI M)), some (.int (cnI cn)), some (.int (nI lm)), some (.int (nI k - 1)), z5] [] (KV μ b κ2) := by
    intro k
    induction k with
    | zero =>
      intro κ2 z5 hk hq hLT
      refine x_iload (pc := 45) dX4_search_45 rfl ?_
      refine x_if_lt (pc := 47) (tgt := 80) dX4_search_47 rfl (fun h_47 => ?_) (fun h_47 => absurd (by decide) h_47)
      exact E κ2 _ _ hq (fun t ht => hLT t (Nat.zero_le _) ht)
    | succ k ih =>
      intro κ2 z5 hk hq hLT
      have Li : ∀ (m l : Nat) (κ3 : KS), l + m = lm + 1 → kq seP κ κ3 → (∀ t, k + 1 ≤ t → t ≤ n → LT κ3 pr ok rm cn n lm t) → (∀ l', l' < l → ∀ u, u < 64 → bcu u ≤ k → κ3.2 3 (100 + k) (64 * l' + u) = nI (cst (bst pr ok rm cn (n - k) k u l'))) → WA Γ zX4_search (xrm 4 0 0) 0 0 0 0 (fun x μ2 => ∃ κ2, x = some (.int (nI r.1)) ∧ μ2 = KV μ b κ2 ∧ kq seP κ κ2 ∧ ∀ t, t < n → κ2.2 3 8 t = nI (r.2.getD t 0) - 1) 53 [some (.ref (adO b 3)), some (.int (nI M)), some (.int (cnI cn)), some (.int (nI lm)), some (.int (nI k)), some (.int (nI l))] [] (KV μ b κ3) := by
        intro m
        induction m with
        | zero =>
          intro l κ3 hl hq3 hLT3 hrow
          obtain rfl : l = lm + 1 := by omega
          refine x_iload (pc := 53) dX4_search_53 rfl ?_
          refine x_iload_n (pc := 55) dX4_search_55 rfl ?_
          refine x_icmp_gt (pc := 56) (tgt := 74) dX4_search_56 rfl (fun h_56 => ?_) (fun h_56 => absurd (nI_lt (by omega) (by omega)) h_56)
          refine x_iinc (pc := 74) (lv2 := [_, _, _, _, _, _]) dX4_search_74 (by decide) rfl rfl (incm _) rfl ?_
          refine x_goto (pc := 77) (tgt := 45) dX4_search_77 rfl ?_
          refine ih κ3 _ (by omega) hq3 (fun t h1 h2 => ?_)
          rcases Nat.lt_or_ge k t with q | q
          · exact hLT3 t (by omega) h2
          · obtain rfl : t = k := by omega
            exact fun l hl u hu hb => hrow l (by omega) u hu hb
        | succ m ih2 =>
          intro l κ3 hl hq3 hLT3 hrow
          have hpr3 := hpr.kq hq3 (fun x _ z => by have := z.1; omega)
          have hrm3 := hrm.kq hq3 (fun z => by have := z.2; omega)
          refine x_iload (pc := 53) dX4_search_53 rfl ?_
          refine x_iload_n (pc := 55) dX4_search_55 rfl ?_
          refine x_icmp_gt (pc := 56) (tgt := 74) dX4_search_56 rfl (fun h_56 => absurd h_56 (nI_nlt (by omega) (by omega))) (fun h_56 => ?_)
          refine x_aload_n (pc := 59) dX4_search_59 rfl ?_
          refine x_iload (pc := 60) dX4_search_60 rfl ?_
          refine x_iload (pc := 62) dX4_search_62 rfl ?_
          refine x_iload_n (pc := 64) dX4_search_64 rfl ?_
          refine x_callV (pc := 65) (As := [.int _, .int _, .int _]) dX4_search_65 mX4_fillLeast lk_4_154 hK.2.2.1 (k_fillLeast hP0 hn hcp hpr3 hrm3 (by omega) (show l ≤ lm by omega) hlm4 (hLT3 (k + 1) (by omega) (by omega))) rfl rfl (Nat.le_of_ble_eq_true rfl) ⟨by decide, by decide⟩ ⟨Nat.zero_le _, Nat.zero_le _⟩ (fun x μ3 hq4 => ?_)
          obtain ⟨κ4, rfl, rfl, hq5, g1, g2⟩ := hq4
          refine x_iinc (pc := 68) (lv2 := [_, _, _, _, _, _]) dX4_search_68 (by decide) rfl rfl (nI_1 _) rfl ?_
          refine x_goto (pc := 71) (tgt := 53) dX4_search_71 rfl ?_
          refine ih2 (l + 1) κ4 (by omega) (hq3.trans (hq5.mono (fun a y z => ⟨z.1, Or.inr (by have := z.2; omega)⟩))) (fun t h1 h2 => (hLT3 t h1 h2).kq hq5 (fun z => by have := z.2; omega)) (fun l' hl' u hu hb => ?_)
          rcases Nat.lt_or_ge l' l with q | q
          · rw [g2 _ (by omega)]
            exact hrow l' q u hu hb
          · obtain rfl : l' = l := by omega
            exact g1 u hu hb
      refine x_iload (pc := 45) dX4_search_45 rfl ?_
      refine x_if_lt (pc := 47) (tgt := 80) dX4_search_47 rfl (fun h_47 => absurd h_47 (by rw [nI_pred]; exact nI_pos (by omega))) (fun h_47 => ?_)
      refine x_iconst (pc := 50) (v := 0) dX4_search_50 rfl ?_
      refine x_istore (pc := 51) (lv2 := [_, _, _, _, _, _]) dX4_search_51 (by decide) rfl rfl ?_
      rw [nI_pred]
      exact Li (lm + 1) 0 κ2 (by omega) hq hLT (fun l' h => absurd h (by omega))
  have hn0 : LT (kS κ 3 (100 + n) (pre (fun _ => 0) (κ.2 3 (100 + n)) 320)) pr ok rm cn n lm n := fun l hl u hu hb => by
    have hb6 := bcu_le u hu
    rw [kS_s, pre_lt (by omega), Nat.sub_self]
    rfl
  have S : WA Γ zX4_search (xrm 4 0 0) 0 0 0 0 (fun x μ2 => ∃ κ2, x = some (.int (nI r.1)) ∧ μ2 = KV μ b κ2 ∧ kq seP κ κ2 ∧ ∀ t, t < n → κ2.2 3 8 t = nI (r.2.getD t 0) - 1) 24 [some (.ref (adO b 3)), some (.int (nI M)), some (.int (cnI cn)), some (.int (nI lm)), none, none] [] (KV μ b κ) := by
    refine x_aload_n (pc := 24) dX4_search_24 rfl ?_
    refine k_getR (pc := 25) hK dX4_search_25 fk_4_51 (Or.inr ⟨_, rfl⟩) (hle0) ?_
    refine x_aload_n (pc := 28) dX4_search_28 rfl ?_
    skip
    refine k_getI (pc := 29) hK dX4_search_29 fk_4_17 (Or.inl rfl) ?_
    rw [hcnt]
    refine x_aald7 (pc := 32) dX4_search_32 hleT rfl (by omega) (by decide) (hleX n (by omega)).1 ?_
    refine x_iconst (pc := 33) (v := 0) dX4_search_33 rfl ?_
    refine x_callS (pc := 34) (As := [.ref _, .int _]) dX4_search_34 mJ7_fill_53178 lk_4_148 (k_fillR (hleX n (by omega)).2 0 (by decide)) rfl rfl (Nat.le_of_ble_eq_true rfl) ⟨by decide, by decide⟩ ⟨Nat.zero_le _, Nat.zero_le _⟩ (k_rv ?_)
    refine x_aload_n (pc := 37) dX4_search_37 rfl ?_
    refine k_getI (pc := 38) hK dX4_search_38 fk_4_17 (Or.inl rfl) ?_
    rw [show (kS κ 3 (100 + n) (pre (fun _ => 0) (κ.2 3 (100 + n)) 320)).1 3 1 = nI n from hcnt]
    refine x_iconst (pc := 41) (v := 1) dX4_search_41 rfl ?_
    refine x_isub (pc := 42) dX4_search_42 ?_
    refine x_istore (pc := 43) (lv2 := [_, _, _, _, _, _]) dX4_search_43 (by decide) rfl rfl ?_
    refine Lo n _ _ (Nat.le_refl n) (kq.rf.S ⟨rfl, Or.inr (by omega)⟩) (fun t h1 h2 => ?_)
    obtain rfl : t = n := by omega
    exact hn0
  refine x_iload_n (pc := 0) dX4_search_0 rfl ?_
  refine x_aload_n (pc := 1) dX4_search_1 rfl ?_
  refine k_getI (pc := 2) hK dX4_search_2 fk_4_17 (Or.inl rfl) ?_
  rw [hcnt]
  refine x_icmp_ge (pc := 5) (tgt := 12) dX4_search_5 rfl (fun h_5 => ?_) (fun h_5 => ?_)
  · refine x_iconst (pc := 12) (v := 0) dX4_search_12 rfl ?_
    refine x_istore_n (pc := 13) (lv2 := [_, _, _, _, _, _]) dX4_search_13 (by decide) rfl rfl ?_
    refine x_iload_n (pc := 14) dX4_search_14 rfl ?_
    refine x_if_eq (pc := 15) (tgt := 22) dX4_search_15 rfl (fun h_15 => ?_) (fun h_15 => absurd (by decide) h_15)
    refine x_iconst (pc := 22) (v := 0) dX4_search_22 rfl ?_
    refine x_istore_n (pc := 23) (lv2 := [_, _, _, _, _, _]) dX4_search_23 (by decide) rfl rfl ?_
    have S2 := S
    rw [← elm, ← hcn] at S2
    first
      | (have hlt : M < n := (nI_ltI (by omega) (by omega)).mp (Int32.not_le.mp h_5)
         rw [decide_eq_true hlt, if_pos hlt] at S2
         exact S2)
      | (have hlt : ¬ M < n := fun z => absurd h_5 (Int32.not_le.mpr (nI_lt z (by omega)))
         rw [decide_eq_false hlt, if_neg hlt] at S2
         exact S2)
  · refine x_iconst (pc := 8) (v := 1) dX4_search_8 rfl ?_
    refine x_goto (pc := 9) (tgt := 13) dX4_search_9 rfl ?_
    refine x_istore_n (pc := 13) (lv2 := [_, _, _, _, _, _]) dX4_search_13 (by decide) rfl rfl ?_
    refine x_iload_n (pc := 14) dX4_search_14 rfl ?_
    refine x_if_eq (pc := 15) (tgt := 22) dX4_search_15 rfl (fun h_15 => absurd h_15 (by decide)) (fun h_15 => ?_)
    refine x_iload_n (pc := 18) dX4_search_18 rfl ?_
    refine x_goto (pc := 19) (tgt := 23) dX4_search_19 rfl ?_
    refine x_istore_n (pc := 23) (lv2 := [_, _, _, _, _, _]) dX4_search_23 (by decide) rfl rfl ?_
    have S2 := S
    rw [← elm, ← hcn] at S2
    first
      | (have hlt : M < n := (nI_ltI (by omega) (by omega)).mp (Int32.not_le.mp h_5)
         rw [decide_eq_true hlt, if_pos hlt] at S2
         exact S2)
      | (have hlt : ¬ M < n := fun z => absurd h_5 (Int32.not_le.mpr (nI_lt z (by omega)))
         rw [decide_eq_false hlt, if_neg hlt] at S2
         exact S2)
end M81
