/-! the class: fills the table, follows it, seeks -/
theorem kA_s {κ : KS} {o k i : Nat} {v : Int32} : (kA κ o k i v).2 o k i = v := up3_s
theorem kA_i {κ : KS} {o k i j : Nat} {v : Int32} (h : j ≠ i) : (kA κ o k i v).2 o k j = κ.2 o k j := up3_i h
theorem kA_n {κ : KS} {o k i a c : Nat} {v : Int32} (h : a ≠ o ∨ c ≠ k) : (kA κ o k i v).2 a c = κ.2 a c := up3_n h
def flP (t : Nat) : Nat → Nat → Prop := fun a k => a = 3 ∧ k = 100 + t
theorem PRc.kq {κ κ2 : KS} {cp : Nat → Nat → Nat} {n : Nat} {P : Nat → Nat → Prop} (h : PRc κ cp n) (q : kq P κ κ2) (hp : ∀ t, t < n → ¬ P (15 + t) 12) : PRc κ2 cp n := fun t ht s hs => by
  rw [(q (15 + t) 12 (hp t ht)).2]
  exact h t ht s hs
theorem RMc.kq {κ κ2 : KS} {rm : Nat → Nat} {n : Nat} {P : Nat → Nat → Prop} (h : RMc κ rm n) (q : kq P κ κ2) (hp : ¬ P 3 7) : RMc κ2 rm n := fun t ht => by
  rw [(q 3 7 hp).2]
  exact h t ht
theorem LT.kq {κ κ2 : KS} {pr : Nat → Nat → Nat} {ok : Nat → Nat → Bool} {rm : Nat → Nat} {cn : Bool} {n lm t : Nat} {P : Nat → Nat → Prop} (h : LT κ pr ok rm cn n lm t) (q : kq P κ κ2) (hp : ¬ P 3 (100 + t)) : LT κ2 pr ok rm cn n lm t := fun l hl u hu hb => by
  rw [(q 3 (100 + t) hp).2]
  exact h l hl u hu hb
theorem bcu_le : ∀ u, u < 64 → bcu u ≤ 6 := by decide +kernel
section M80
variable {Γ : Gm} {μ : Mem} {b : Kb} {κ : KS}
theorem k_fillLeast {kd : Nat → Nat} {n : Nat} (hP : KP μ b kd) (hn : n ≤ 5) {cp pr : Nat → Nat → Nat} {ok : Nat → Nat → Bool} {rm : Nat → Nat} {cn : Bool} (hcp : cpO cp pr ok n) (hpr : PRc κ cp n) (hrm : RMc κ rm n) {t l lm : Nat} (ht : t < n) (hl : l ≤ lm) (hlm : lm ≤ 4) (hLT : LT κ pr ok rm cn n lm (t + 1)) : XM Γ zX4_fillLeast 3 0 0 [.ref (adO b 3), .int (nI t), .int (nI l), .int (cnI cn)] (KV μ b κ) (fun r μ2 => ∃ κ2, r = none ∧ μ2 = KV μ b κ2 ∧ kq (flP t) κ κ2 ∧ (∀ u, u < 64 → bcu u ≤ t → κ2.2 3 (100 + t) (64 * l + u) = nI (cst (bst pr ok rm cn (n - t) t u l))) ∧ ∀ x, x < 64 * l ∨ 64 * l + 64 ≤ x → κ2.2 3 (100 + t) x = κ.2 3 (100 + t) x) := by
  refine XM.of 3 rfl (by decide) (Nat.le_of_ble_eq_true rfl) ?_
  have hP0 := hP
  obtain ⟨hK, hth0, hX, hle0, hleT, hleX⟩ := hP
  have hmt : n - t = (n - t - 1) + 1 := by omega
  have Lo : ∀ (m u : Nat) (κ2 : KS) (z5 z6 : Option Value), u + m = 64 → kq (flP t) κ κ2 → (∀ v, v < u → bcu v ≤ t → κ2.2 3 (100 + t) (64 * l + v) = nI (cst (bst pr ok rm cn (n - t) t v l))) → (∀ x, x < 64 * l ∨ 64 * l + 64 ≤ x → κ2.2 3 (100 + t) x = κ.2 3 (100 + t) x) → WA Γ zX4_fillLeast (xrm 3 0 0) 0 0 0 0 (fun r μ2 => ∃ κ2, r = none ∧ μ2 = KV μ b κ2 ∧ kq (flP t) κ κ2 ∧ (∀ u, u < 64 → bcu u ≤ t → κ2.2 3 (100 + t) (64 * l + u) = nI (cst (bst pr ok rm cn (n - t) t u l))) ∧ ∀ x, x < 64 * l ∨ 64 * l + 64 ≤ x → κ2.2 3 (100 + t) x = κ.2 3 (100 + t) x) 3 [some (.ref (adO b 3)), some (.int (nI t)), some (.int (nI l)), some (.int (cnI cn)), some (.int (nI u)), z5, z6] [] (KV μ b κ2) := by
    intro m
    induction m with
    | zero =>
      intro u κ2 z5 z6 hu hq h1 h2
      obtain rfl : u = 64 := by omega
      refine x_iload (pc := 3) dX4_fillLeast_3 rfl ?_
      refine x_bipush (pc := 5) (v := 64) dX4_fillLeast_5 rfl ?_
      refine x_icmp_ge (pc := 7) (tgt := 79) dX4_fillLeast_7 rfl (fun h_7 => ?_) (fun h_7 => absurd (by decide) h_7)
      refine x_return (pc := 79) dX4_fillLeast_79 rfl ?_
      exact ⟨κ2, rfl, rfl, hq, h1, h2⟩
    | succ m ih =>
      intro u κ2 z5 z6 hu hq h1 h2
      have hu64 : u < 64 := by omega
      have hb6 := bcu_le u hu64
      have ebc : pcI (nI u) = nI (bcu u) := pc_64 u hu64
      by_cases hbu : bcu u ≤ t
      · have hpr2 := hpr.kq hq (fun x _ z => by have := z.1; omega)
        have hrm2 := hrm.kq hq (fun z => by have := z.2; omega)
        have hLT2 := hLT.kq hq (fun z => by have := z.2; omega)
        have MF := fun k hk => mn_fold hcp hn (was := rm) (cn := cn) (u := u) (l := l) (show t + (n - t - 1) + 1 = n by omega) k hk
        have Li : ∀ (m2 s : Nat), s + m2 = 7 → WA Γ zX4_fillLeast (xrm 3 0 0) 0 0 0 0 (fun r μ2 => ∃ κ2, r = none ∧ μ2 = KV μ b κ2 ∧ kq (flP t) κ κ2 ∧ (∀ u, u < 64 → bcu u ≤ t → κ2.2 3 (100 + t) (64 * l + u) = nI (cst (bst pr ok rm cn (n - t) t u l))) ∧ ∀ x, x < 64 * l ∨ 64 * l + 64 ≤ x → κ2.2 3 (100 + t) x = κ.2 3 (100 + t) x) 26 [some (.ref (adO b 3)), some (.int (nI t)), some (.int (nI l)), some (.int (cnI cn)), some (.int (nI u)), some (.int (nI (mnN (cfN cp pr ok rm cn (n - t - 1) t u l) s))), some (.int (nI s))] [] (KV μ b κ2) := by
          intro m2
          induction m2 with
          | zero =>
            intro s hs
            obtain rfl : s = 7 := by omega
            have eix : nI l * 64 + nI u = nI (64 * l + u) := by rw [show (64 : Int32) = nI 64 from rfl, pk_mul, nI_add, Nat.mul_comm]
            refine x_iload (pc := 26) dX4_fillLeast_26 rfl ?_
            refine x_bipush (pc := 28) (v := 7) dX4_fillLeast_28 rfl ?_
            refine x_icmp_ge (pc := 30) (tgt := 57) dX4_fillLeast_30 rfl (fun h_30 => ?_) (fun h_30 => absurd (by decide) h_30)
            refine x_aload_n (pc := 57) dX4_fillLeast_57 rfl ?_
            refine k_getR (pc := 58) hK dX4_fillLeast_58 fk_4_51 (Or.inr ⟨_, rfl⟩) (hle0) ?_
            refine x_iload_n (pc := 61) dX4_fillLeast_61 rfl ?_
            refine x_aald7 (pc := 62) dX4_fillLeast_62 hleT rfl (by omega) (by decide) (hleX t (by omega)).1 ?_
            refine x_iload_n (pc := 63) dX4_fillLeast_63 rfl ?_
            refine x_bipush (pc := 64) (v := 64) dX4_fillLeast_64 rfl ?_
            refine x_imul (pc := 66) dX4_fillLeast_66 ?_
            refine x_iload (pc := 67) dX4_fillLeast_67 rfl ?_
            refine x_iadd (pc := 69) dX4_fillLeast_69 ?_
            rw [eix]
            refine x_iload (pc := 70) dX4_fillLeast_70 rfl ?_
            refine r_iast (pc := 72) (hleX t (by omega)).2 dX4_fillLeast_72 rfl (by omega) (by decide) ?_
            refine x_iinc (pc := 73) (lv2 := [_, _, _, _, _, _, _]) dX4_fillLeast_73 (by decide) rfl rfl (nI_1 _) rfl ?_
            refine x_goto (pc := 76) (tgt := 3) dX4_fillLeast_76 rfl ?_
            refine ih (u + 1) _ _ _ (by omega) (hq.A ⟨rfl, rfl⟩) (fun v hv hbv => ?_) (fun x hx => ?_)
            · rcases Nat.lt_or_ge v u with q | q
              · rw [show (kA κ2 3 (100 + t) (64 * l + u) (nI (mnN (cfN cp pr ok rm cn (n - t - 1) t u l) 7))).2 3 (100 + t) (64 * l + v) = κ2.2 3 (100 + t) (64 * l + v) from up3_i (by omega)]
                exact h1 v q hbv
              · obtain rfl : v = u := by omega
                rw [show (kA κ2 3 (100 + t) (64 * l + v) (nI (mnN (cfN cp pr ok rm cn (n - t - 1) t v l) 7))).2 3 (100 + t) (64 * l + v) = nI (mnN (cfN cp pr ok rm cn (n - t - 1) t v l) 7) from up3_s, (MF 7 (Nat.le_refl 7)).1, hmt, bst_s]
                rfl
            · rw [show (kA κ2 3 (100 + t) (64 * l + u) (nI (mnN (cfN cp pr ok rm cn (n - t - 1) t u l) 7))).2 3 (100 + t) x = κ2.2 3 (100 + t) x from up3_i (by omega)]
              exact h2 x hx
          | succ m2 ih2 =>
            intro s hs
            have hcf := (cf_cst hcp hn (was := rm) (cn := cn) (u := u) (l := l) (show t + (n - t - 1) + 1 = n by omega) (show s < 7 by omega)).2.1
            have hmn := (MF s (by omega)).2
            rw [← (MF s (by omega)).1] at hmn
            have hst : mnN (cfN cp pr ok rm cn (n - t - 1) t u l) (s + 1) = min (mnN (cfN cp pr ok rm cn (n - t - 1) t u l) s) (cfN cp pr ok rm cn (n - t - 1) t u l s) := rfl
            have emin : (if nI (cfN cp pr ok rm cn (n - t - 1) t u l s) < nI (mnN (cfN cp pr ok rm cn (n - t - 1) t u l) s) then nI (cfN cp pr ok rm cn (n - t - 1) t u l s) else nI (mnN (cfN cp pr ok rm cn (n - t - 1) t u l) s)) = nI (mnN (cfN cp pr ok rm cn (n - t - 1) t u l) (s + 1)) := by
              rw [hst]
              by_cases hlt : cfN cp pr ok rm cn (n - t - 1) t u l s < mnN (cfN cp pr ok rm cn (n - t - 1) t u l) s
              · rw [if_pos (nI_lt hlt (by omega)), Nat.min_eq_right (by omega)]
              · rw [if_neg (nI_nlt (by omega) (by omega)), Nat.min_eq_left (by omega)]
            refine x_iload (pc := 26) dX4_fillLeast_26 rfl ?_
            refine x_bipush (pc := 28) (v := 7) dX4_fillLeast_28 rfl ?_
            refine x_icmp_ge (pc := 30) (tgt := 57) dX4_fillLeast_30 rfl (fun h_30 => absurd h_30 (lit_le (n := 7) s (by omega) (by omega))) (fun h_30 => ?_)
            refine x_iload (pc := 33) dX4_fillLeast_33 rfl ?_
            refine x_aload_n (pc := 35) dX4_fillLeast_35 rfl ?_
            refine x_iload_n (pc := 36) dX4_fillLeast_36 rfl ?_
            refine x_iload (pc := 37) dX4_fillLeast_37 rfl ?_
            refine x_iload_n (pc := 39) dX4_fillLeast_39 rfl ?_
            refine x_iload (pc := 40) dX4_fillLeast_40 rfl ?_
            refine x_iload_n (pc := 42) dX4_fillLeast_42 rfl ?_
            refine x_callV (pc := 43) (As := [.int _, .int _, .int _, .int _, .int _]) dX4_fillLeast_43 mX4_costFrom lk_4_168 hK.2.2.1 (k_costFrom hP0 hn hcp hpr2 hrm2 ht (by omega) hl hlm hu64 hbu hLT2) rfl rfl (Nat.le_of_ble_eq_true rfl) ⟨by decide, by decide⟩ ⟨Nat.zero_le _, Nat.zero_le _⟩ (k_rt ?_)
            refine x_mmin (pc := 46) dX4_fillLeast_46 lk_4_172.1 (by decide) ⟨by decide, by decide⟩ ⟨by decide, by decide⟩ ?_
            rw [emin]
            refine x_istore (pc := 49) (lv2 := [_, _, _, _, _, _, _]) dX4_fillLeast_49 (by decide) rfl rfl ?_
            refine x_iinc (pc := 51) (lv2 := [_, _, _, _, _, _, _]) dX4_fillLeast_51 (by decide) rfl rfl (nI_1 _) rfl ?_
            refine x_goto (pc := 54) (tgt := 26) dX4_fillLeast_54 rfl ?_
            exact ih2 (s + 1) (by omega)
        refine x_iload (pc := 3) dX4_fillLeast_3 rfl ?_
        refine x_bipush (pc := 5) (v := 64) dX4_fillLeast_5 rfl ?_
        refine x_icmp_ge (pc := 7) (tgt := 79) dX4_fillLeast_7 rfl (fun h_7 => absurd h_7 (lit_le (n := 64) u (by omega) (by omega))) (fun h_7 => ?_)
        refine x_iload (pc := 10) dX4_fillLeast_10 rfl ?_
        refine x_callS (pc := 12) (As := [.int _]) dX4_fillLeast_12 mJ6_bitCount_0f7a4 lk_4_162 (k_bitCount _) rfl rfl (Nat.le_of_ble_eq_true rfl) ⟨by decide, by decide⟩ ⟨Nat.zero_le _, Nat.zero_le _⟩ (k_rt ?_)
        rw [ebc]
        refine x_iload_n (pc := 15) dX4_fillLeast_15 rfl ?_
        refine x_icmp_gt (pc := 16) (tgt := 73) dX4_fillLeast_16 rfl (fun h_16 => absurd h_16 (nI_nlt hbu (by omega))) (fun h_16 => ?_)
        refine x_ldc (pc := 19) dX4_fillLeast_19 kc_4_167 ?_
        refine x_istore (pc := 21) (lv2 := [_, _, _, _, _, _, _]) dX4_fillLeast_21 (by decide) rfl rfl ?_
        refine x_iconst (pc := 23) (v := 0) dX4_fillLeast_23 rfl ?_
        refine x_istore (pc := 24) (lv2 := [_, _, _, _, _, _, _]) dX4_fillLeast_24 (by decide) rfl rfl ?_
        exact Li 7 0 (by omega)
      · refine x_iload (pc := 3) dX4_fillLeast_3 rfl ?_
        refine x_bipush (pc := 5) (v := 64) dX4_fillLeast_5 rfl ?_
        refine x_icmp_ge (pc := 7) (tgt := 79) dX4_fillLeast_7 rfl (fun h_7 => absurd h_7 (lit_le (n := 64) u (by omega) (by omega))) (fun h_7 => ?_)
        refine x_iload (pc := 10) dX4_fillLeast_10 rfl ?_
        refine x_callS (pc := 12) (As := [.int _]) dX4_fillLeast_12 mJ6_bitCount_0f7a4 lk_4_162 (k_bitCount _) rfl rfl (Nat.le_of_ble_eq_true rfl) ⟨by decide, by decide⟩ ⟨Nat.zero_le _, Nat.zero_le _⟩ (k_rt ?_)
        rw [ebc]
        refine x_iload_n (pc := 15) dX4_fillLeast_15 rfl ?_
        refine x_icmp_gt (pc := 16) (tgt := 73) dX4_fillLeast_16 rfl (fun h_16 => ?_) (fun h_16 => absurd (nI_lt (by omega) (by omega)) h_16)
        refine x_iinc (pc := 73) (lv2 := [_, _, _, _, _, _, _]) dX4_fillLeast_73 (by decide) rfl rfl (nI_1 _) rfl ?_
        refine x_goto (pc := 76) (tgt := 3) dX4_fillLeast_76 rfl ?_
        refine ih (u + 1) _ _ _ (by omega) hq (fun v hv hbv => ?_) h2
        rcases Nat.lt_or_ge v u with q | q
        · exact h1 v q hbv
        · obtain rfl : v = u := by omega
          exact absurd hbv hbu
  refine x_iconst (pc := 0) (v := 0) dX4_fillLeast_0 rfl ?_
  refine x_istore (pc := 1) (lv2 := [_, _, _, _, _, _, _]) dX4_fillLeast_1 (by decide) rfl rfl ?_
  exact Lo 64 0 κ _ _ (by omega) kq.rf (fun v hv => absurd hv (by omega)) (fun _ _ => rfl)
def fwP : Nat → Nat → Prop := fun a k => a = 3 ∧ k = 8
theorem k_follow {kd : Nat → Nat} {n : Nat} (hP : KP μ b kd) (hn : n ≤ 5) {cp pr : Nat → Nat → Nat} {ok : Nat → Nat → Bool} {rm : Nat → Nat} {cn : Bool} (hcp : cpO cp pr ok n) (hpr : PRc κ cp n) (hrm : RMc κ rm n) (hcnt : κ.1 3 1 = nI n) {l0 lm : Nat} (hl : l0 ≤ lm) (hlm : lm ≤ 4) (hLT : ∀ t, t ≤ n → LT κ pr ok rm cn n lm t) {r : Nat × List Nat} (hr : bst pr ok rm cn n 0 0 l0 = some r) : XM Γ zX4_follow 3 0 0 [.ref (adO b 3), .int (nI l0), .int (cnI cn)] (KV μ b κ) (fun x μ2 => ∃ κ2, x = none ∧ μ2 = KV μ b κ2 ∧ kq fwP κ κ2 ∧ ∀ t, t < n → κ2.2 3 8 t = nI (r.2.getD t 0) - 1) := by
  refine XM.of 5 rfl (by decide) (Nat.le_of_ble_eq_true rfl) ?_
  have hP0 := hP
  obtain ⟨hK, hth0, hX, hle0, hleT, hleX⟩ := hP
  have Lo : ∀ (m t l u : Nat) (κ2 : KS) (z6 z7 : Option Value) (pf : List Nat) (q : Nat × List Nat), t + m = n → kq fwP κ κ2 → l ≤ lm → u < 64 → bcu u ≤ t → bst pr ok rm cn m t u l = some q → r.2 = pf ++ q.2 → pf.length = t → (∀ i, i < t → κ2.2 3 8 i = nI (pf.getD i 0) - 1) → WA Γ zX4_follow (xrm 3 0 0) 0 0 0 0 (fun x μ2 => ∃ κ2, x = none ∧ μ2 = KV μ b κ2 ∧ kq fwP κ κ2 ∧ ∀ t, t < n → κ2.2 3 8 t = nI (r.2.getD t 0) - 1) 8 [some (.ref (adO b 3)), some (.int (nI l0)), some (.int (cnI cn)), some (.int (nI l)), some (.int (nI u)), some (.int (nI t)), z6, z7] [] (KV μ b κ2) := by
    intro m
    induction m with
    | zero =>
      intro t l u κ2 z6 z7 pf q ht hq hl2 hu hbu hb hrp hpl hf
      obtain rfl : t = n := by omega
      have ec : κ2.1 3 1 = nI t := (hq 3 1 (fun z => by have := z.2; omega)).1.trans hcnt
      refine x_iload (pc := 8) dX4_follow_8 rfl ?_
      refine x_aload_n (pc := 10) dX4_follow_10 rfl ?_
      refine k_getI (pc := 11) hK dX4_follow_11 fk_4_17 (Or.inl rfl) ?_
      refine x_icmp_ge (pc := 14) (tgt := 123) dX4_follow_14 rfl (fun h_14 => ?_) (fun h_14 => absurd (by rw [ec]; exact Int32.le_refl _) h_14)
      refine x_return (pc := 123) dX4_follow_123 rfl ?_
      refine ⟨κ2, rfl, rfl, hq, fun i hi => ?_⟩
      rw [hf i hi, hrp]
      simp [List.getD_eq_getElem?_getD, List.getElem?_append_left (show i < pf.length by omega)]
    | succ m ih =>
      intro t l u κ2 z6 z7 pf q ht hq hl2 hu hbu hb hrp hpl hf
      have htn : t < n := by omega
      have ec : κ2.1 3 1 = nI n := (hq 3 1 (fun z => by have := z.2; omega)).1.trans hcnt
      have hpr2 := hpr.kq hq (fun x _ z => by have := z.1; omega)
      have hrm2 := hrm.kq hq (fun z => by have := z.2; omega)
      have hLT2 : ∀ x, x ≤ n → LT κ2 pr ok rm cn n lm x := fun x hx => (hLT x hx).kq hq (fun z => by have := z.2; omega)
      have em : n - t - 1 = m := by omega
      have em2 : n - t = m + 1 := by omega
      obtain ⟨s, q2, f1, f2, f3, f4, f5, f6, f7⟩ := first_at hcp hn (was := rm) (cn := cn) (show t + m + 1 = n by omega) hb
      have edue : κ2.2 3 (100 + t) (64 * l + u) = nI q.1 := by
        rw [hLT2 t (by omega) l hl2 u hu hbu, em2, hb]
        rfl
      have eix : nI l * 64 + nI u = nI (64 * l + u) := by rw [show (64 : Int32) = nI 64 from rfl, pk_mul, nI_add, Nat.mul_comm]
      obtain ⟨ub1, ub2⟩ := bcu_u u hu s f1
      obtain ⟨ua1, ua2⟩ := us_a u hu s f1
      obtain ⟨er, hr7⟩ := hrm2 t htn
      have hq46 : q.1 ≤ 46000 := by
        have := (cst_le (pr := pr) (ok := ok) (was := rm) (cn := cn) (u := u) (l := l) (fun t s h1 h2 h3 => ((hcp t s h1 h2).1 h3).2) hn (show t + (m + 1) ≤ n by omega)).2 (by rw [hb]; exact fun z => by cases z)
        rw [hb] at this
        exact this
      -- behind the spot that was found
      have F : WA Γ zX4_follow (xrm 3 0 0) 0 0 0 0 (fun x μ2 => ∃ κ2, x = none ∧ μ2 = KV μ b κ2 ∧ kq fwP κ κ2 ∧ ∀ t, t < n → κ2.2 3 8 t = nI (r.2.getD t 0) - 1) 67 [some (.ref (adO b 3)), some (.int (nI l0)), some (.int (cnI cn)), some (.int (nI l)), some (.int (nI u)), some (.int (nI t)), some (.int (nI q.1)), some (.int (nI s))] [] (KV μ b κ2) := by
        have efo : (kA κ2 3 8 t (nI s - 1)).2 3 8 t = nI s - 1 := kA_s
        have erm : (kA κ2 3 8 t (nI s - 1)).2 3 7 t = nI (rm t) - 1 := (congrFun (kA_n (Or.inr (by decide))) t).trans er
        have esr := sp_eq s f1 (rm t) hr7
        have NX : ∀ l2, l2 = lft cn rm t s l → WA Γ zX4_follow (xrm 3 0 0) 0 0 0 0 (fun x μ2 => ∃ κ2, x = none ∧ μ2 = KV μ b κ2 ∧ kq fwP κ κ2 ∧ ∀ t, t < n → κ2.2 3 8 t = nI (r.2.getD t 0) - 1) 8 [some (.ref (adO b 3)), some (.int (nI l0)), some (.int (cnI cn)), some (.int (nI l2)), some (.int (nI (ust u s))), some (.int (nI (t + 1))), some (.int (nI q.1)), some (.int (nI s))] [] (KV μ b (kA κ2 3 8 t (nI s - 1))) := by
          intro l2 hl3
          have hl4 : l2 ≤ l := by
            rw [hl3]
            unfold lft
            split <;> omega
          refine ih (t + 1) l2 (ust u s) _ _ _ (pf ++ [s]) q2 (by omega) (hq.A ⟨rfl, rfl⟩) (by omega) ub2 (by omega) (by rw [hl3]; exact f2) ?_ ?_ (fun i hi => ?_)
          · rw [hrp, f3]
            simp
          · simp [hpl]
          · rcases Nat.lt_or_ge i t with y | y
            · rw [show (kA κ2 3 8 t (nI s - 1)).2 3 8 i = κ2.2 3 8 i from kA_i (by omega), hf i y]
              simp [List.getD_eq_getElem?_getD, List.getElem?_append_left (show i < pf.length by omega)]
            · obtain rfl : i = t := by omega
              rw [show (kA κ2 3 8 i (nI s - 1)).2 3 8 i = nI s - 1 from kA_s]
              simp [List.getD_eq_getElem?_getD, ← hpl]
        rcases (show cn = true ∨ cn = false by cases cn; exact Or.inr rfl; exact Or.inl rfl) with hc | hc
        · subst hc
          by_cases hmv : rm t = s
          · refine x_aload_n (pc := 67) dX4_follow_67 rfl ?_
            refine k_getA (pc := 68) hK dX4_follow_68 fk_4_40 (Or.inr ⟨_, rfl⟩) (by decide) ?_
            refine x_iload (pc := 71) dX4_follow_71 rfl ?_
            refine x_iload (pc := 73) dX4_follow_73 rfl ?_
            refine x_iconst (pc := 75) (v := 1) dX4_follow_75 rfl ?_
            refine x_isub (pc := 76) dX4_follow_76 ?_
            refine k_iast (pc := 77) hK dX4_follow_77 (rfl) (by show t < 5; omega) (by decide) ?_
            refine x_iload_n (pc := 78) dX4_follow_78 rfl ?_
            refine x_iload_n (pc := 79) dX4_follow_79 rfl ?_
            refine x_if_eq (pc := 80) (tgt := 104) dX4_follow_80 rfl (fun h_80 => absurd h_80 (by decide)) (fun h_80 => ?_)
            refine x_aload_n (pc := 83) dX4_follow_83 rfl ?_
            refine k_getA (pc := 84) hK dX4_follow_84 fk_4_40 (Or.inr ⟨_, rfl⟩) (by decide) ?_
            refine x_iload (pc := 87) dX4_follow_87 rfl ?_
            skip
            refine k_iald (pc := 89) hK dX4_follow_89 (rfl) (by show t < 5; omega) (by decide) ?_
            rw [efo]
            refine x_aload_n (pc := 90) dX4_follow_90 rfl ?_
            refine k_getA (pc := 91) hK dX4_follow_91 fk_4_37 (Or.inr ⟨_, rfl⟩) (by decide) ?_
            refine x_iload (pc := 94) dX4_follow_94 rfl ?_
            refine k_iald (pc := 96) hK dX4_follow_96 (rfl) (by show t < 5; omega) (by decide) ?_
            rw [erm]
            refine x_icmp_eq (pc := 97) (tgt := 104) dX4_follow_97 rfl (fun h_97 => ?_) (fun h_97 => absurd (esr.mpr hmv.symm) h_97)
            refine x_iconst (pc := 104) (v := 0) dX4_follow_104 rfl ?_
            refine x_isub (pc := 105) dX4_follow_105 ?_
            rw [Int32.sub_zero]
            refine x_istore_n (pc := 106) (lv2 := [_, _, _, _, _, _, _, _]) dX4_follow_106 (by decide) rfl rfl ?_
            refine x_iload (pc := 107) dX4_follow_107 rfl ?_
            refine x_iload (pc := 109) dX4_follow_109 rfl ?_
            refine x_callS (pc := 111) (As := [.int _]) dX4_follow_111 mX4_bitOf lk_4_88 (k_bitOf _) rfl rfl (Nat.le_of_ble_eq_true rfl) ⟨by decide, by decide⟩ ⟨Nat.zero_le _, Nat.zero_le _⟩ (k_rt ?_)
            rw [bp_a s f1]
            refine x_ior (pc := 114) dX4_follow_114 ?_
            rw [ua2]
            refine x_istore (pc := 115) (lv2 := [_, _, _, _, _, _, _, _]) dX4_follow_115 (by decide) rfl rfl ?_
            refine x_iinc (pc := 117) (lv2 := [_, _, _, _, _, _, _, _]) dX4_follow_117 (by decide) rfl rfl (nI_1 _) rfl ?_
            refine x_goto (pc := 120) (tgt := 8) dX4_follow_120 rfl ?_
            exact NX l (by unfold lft; rw [if_neg (fun z => z.2 hmv)])
          · refine x_aload_n (pc := 67) dX4_follow_67 rfl ?_
            refine k_getA (pc := 68) hK dX4_follow_68 fk_4_40 (Or.inr ⟨_, rfl⟩) (by decide) ?_
            refine x_iload (pc := 71) dX4_follow_71 rfl ?_
            refine x_iload (pc := 73) dX4_follow_73 rfl ?_
            refine x_iconst (pc := 75) (v := 1) dX4_follow_75 rfl ?_
            refine x_isub (pc := 76) dX4_follow_76 ?_
            refine k_iast (pc := 77) hK dX4_follow_77 (rfl) (by show t < 5; omega) (by decide) ?_
            refine x_iload_n (pc := 78) dX4_follow_78 rfl ?_
            refine x_iload_n (pc := 79) dX4_follow_79 rfl ?_
            refine x_if_eq (pc := 80) (tgt := 104) dX4_follow_80 rfl (fun h_80 => absurd h_80 (by decide)) (fun h_80 => ?_)
            refine x_aload_n (pc := 83) dX4_follow_83 rfl ?_
            refine k_getA (pc := 84) hK dX4_follow_84 fk_4_40 (Or.inr ⟨_, rfl⟩) (by decide) ?_
            refine x_iload (pc := 87) dX4_follow_87 rfl ?_
            skip
            refine k_iald (pc := 89) hK dX4_follow_89 (rfl) (by show t < 5; omega) (by decide) ?_
            rw [efo]
            refine x_aload_n (pc := 90) dX4_follow_90 rfl ?_
            refine k_getA (pc := 91) hK dX4_follow_91 fk_4_37 (Or.inr ⟨_, rfl⟩) (by decide) ?_
            refine x_iload (pc := 94) dX4_follow_94 rfl ?_
            refine k_iald (pc := 96) hK dX4_follow_96 (rfl) (by show t < 5; omega) (by decide) ?_
            rw [erm]
            refine x_icmp_eq (pc := 97) (tgt := 104) dX4_follow_97 rfl (fun h_97 => absurd h_97 (fun z => hmv (esr.mp z).symm)) (fun h_97 => ?_)
            refine x_iconst (pc := 100) (v := 1) dX4_follow_100 rfl ?_
            refine x_goto (pc := 101) (tgt := 105) dX4_follow_101 rfl ?_
            refine x_isub (pc := 105) dX4_follow_105 ?_
            rw [show nI l - 1 = nI (l - 1) by obtain ⟨z, hz⟩ : ∃ z, l = z + 1 := ⟨l - 1, by have := f7 rfl hmv; omega⟩; rw [hz, nI_pred]; rfl]
            refine x_istore_n (pc := 106) (lv2 := [_, _, _, _, _, _, _, _]) dX4_follow_106 (by decide) rfl rfl ?_
            refine x_iload (pc := 107) dX4_follow_107 rfl ?_
            refine x_iload (pc := 109) dX4_follow_109 rfl ?_
            refine x_callS (pc := 111) (As := [.int _]) dX4_follow_111 mX4_bitOf lk_4_88 (k_bitOf _) rfl rfl (Nat.le_of_ble_eq_true rfl) ⟨by decide, by decide⟩ ⟨Nat.zero_le _, Nat.zero_le _⟩ (k_rt ?_)
            rw [bp_a s f1]
            refine x_ior (pc := 114) dX4_follow_114 ?_
            rw [ua2]
            refine x_istore (pc := 115) (lv2 := [_, _, _, _, _, _, _, _]) dX4_follow_115 (by decide) rfl rfl ?_
            refine x_iinc (pc := 117) (lv2 := [_, _, _, _, _, _, _, _]) dX4_follow_117 (by decide) rfl rfl (nI_1 _) rfl ?_
            refine x_goto (pc := 120) (tgt := 8) dX4_follow_120 rfl ?_
            exact NX (l - 1) (by unfold lft; rw [if_pos ⟨rfl, hmv⟩])
        · subst hc
          refine x_aload_n (pc := 67) dX4_follow_67 rfl ?_
          refine k_getA (pc := 68) hK dX4_follow_68 fk_4_40 (Or.inr ⟨_, rfl⟩) (by decide) ?_
          refine x_iload (pc := 71) dX4_follow_71 rfl ?_
          refine x_iload (pc := 73) dX4_follow_73 rfl ?_
          refine x_iconst (pc := 75) (v := 1) dX4_follow_75 rfl ?_
          refine x_isub (pc := 76) dX4_follow_76 ?_
          refine k_iast (pc := 77) hK dX4_follow_77 (rfl) (by show t < 5; omega) (by decide) ?_
          refine x_iload_n (pc := 78) dX4_follow_78 rfl ?_
          refine x_iload_n (pc := 79) dX4_follow_79 rfl ?_
          refine x_if_eq (pc := 80) (tgt := 104) dX4_follow_80 rfl (fun h_80 => ?_) (fun h_80 => absurd (rfl) h_80)
          refine x_iconst (pc := 104) (v := 0) dX4_follow_104 rfl ?_
          refine x_isub (pc := 105) dX4_follow_105 ?_
          rw [Int32.sub_zero]
          refine x_istore_n (pc := 106) (lv2 := [_, _, _, _, _, _, _, _]) dX4_follow_106 (by decide) rfl rfl ?_
          refine x_iload (pc := 107) dX4_follow_107 rfl ?_
          refine x_iload (pc := 109) dX4_follow_109 rfl ?_
          refine x_callS (pc := 111) (As := [.int _]) dX4_follow_111 mX4_bitOf lk_4_88 (k_bitOf _) rfl rfl (Nat.le_of_ble_eq_true rfl) ⟨by decide, by decide⟩ ⟨Nat.zero_le _, Nat.zero_le _⟩ (k_rt ?_)
          rw [bp_a s f1]
          refine x_ior (pc := 114) dX4_follow_114 ?_
          rw [ua2]
          refine x_istore (pc := 115) (lv2 := [_, _, _, _, _, _, _, _]) dX4_follow_115 (by decide) rfl rfl ?_
          refine x_iinc (pc := 117) (lv2 := [_, _, _, _, _, _, _, _]) dX4_follow_117 (by decide) rfl rfl (nI_1 _) rfl ?_
          refine x_goto (pc := 120) (tgt := 8) dX4_follow_120 rfl ?_
          exact NX l (by unfold lft; rw [if_neg (fun z => by have := z.1; cases this)])
      have Li : ∀ (m2 x : Nat), x + m2 = s → WA Γ zX4_follow (xrm 3 0 0) 0 0 0 0 (fun x μ2 => ∃ κ2, x = none ∧ μ2 = KV μ b κ2 ∧ kq fwP κ κ2 ∧ ∀ t, t < n → κ2.2 3 8 t = nI (r.2.getD t 0) - 1) 37 [some (.ref (adO b 3)), some (.int (nI l0)), some (.int (cnI cn)), some (.int (nI l)), some (.int (nI u)), some (.int (nI t)), some (.int (nI q.1)), some (.int (nI x))] [] (KV μ b κ2) := by
        intro m2
        induction m2 with
        | zero =>
          intro x hx
          obtain rfl : x = s := by omega
          refine x_iload (pc := 37) dX4_follow_37 rfl ?_
          refine x_bipush (pc := 39) (v := 6) dX4_follow_39 rfl ?_
          refine x_icmp_ge (pc := 41) (tgt := 67) dX4_follow_41 rfl (fun h_41 => ?_) (fun h_41 => ?_)
          · exact F
          · refine x_aload_n (pc := 44) dX4_follow_44 rfl ?_
            refine x_iload (pc := 45) dX4_follow_45 rfl ?_
            refine x_iload (pc := 47) dX4_follow_47 rfl ?_
            refine x_iload_n (pc := 49) dX4_follow_49 rfl ?_
            refine x_iload (pc := 50) dX4_follow_50 rfl ?_
            refine x_iload_n (pc := 52) dX4_follow_52 rfl ?_
            refine x_callV (pc := 53) (As := [.int _, .int _, .int _, .int _, .int _]) dX4_follow_53 mX4_costFrom lk_4_168 hK.2.2.1 (k_costFrom hP0 hn hcp hpr2 hrm2 htn (by omega) hl2 hlm hu hbu (hLT2 (t + 1) (by omega))) rfl rfl (Nat.le_of_ble_eq_true rfl) ⟨by decide, by decide⟩ ⟨Nat.zero_le _, Nat.zero_le _⟩ (k_rt ?_)
            rw [em, f4]
            refine x_iload (pc := 56) dX4_follow_56 rfl ?_
            refine x_icmp_eq (pc := 58) (tgt := 67) dX4_follow_58 rfl (fun h_58 => ?_) (fun h_58 => absurd (rfl) h_58)
            exact F
        | succ m2 ih2 =>
          intro x hx
          have hne := f5 x (by omega)
          have hcf := (cf_cst hcp hn (was := rm) (cn := cn) (u := u) (l := l) (show t + m + 1 = n by omega) (show x < 7 by omega)).2.1
          refine x_iload (pc := 37) dX4_follow_37 rfl ?_
          refine x_bipush (pc := 39) (v := 6) dX4_follow_39 rfl ?_
          refine x_icmp_ge (pc := 41) (tgt := 67) dX4_follow_41 rfl (fun h_41 => absurd h_41 (lit_le (n := 6) x (by omega) (by omega))) (fun h_41 => ?_)
          refine x_aload_n (pc := 44) dX4_follow_44 rfl ?_
          refine x_iload (pc := 45) dX4_follow_45 rfl ?_
          refine x_iload (pc := 47) dX4_follow_47 rfl ?_
          refine x_iload_n (pc := 49) dX4_follow_49 rfl ?_
          refine x_iload (pc := 50) dX4_follow_50 rfl ?_
          refine x_iload_n (pc := 52) dX4_follow_52 rfl ?_
          refine x_callV (pc := 53) (As := [.int _, .int _, .int _, .int _, .int _]) dX4_follow_53 mX4_costFrom lk_4_168 hK.2.2.1 (k_costFrom hP0 hn hcp hpr2 hrm2 htn (by omega) hl2 hlm hu hbu (hLT2 (t + 1) (by omega))) rfl rfl (Nat.le_of_ble_eq_true rfl) ⟨by decide, by decide⟩ ⟨Nat.zero_le _, Nat.zero_le _⟩ (k_rt ?_)
          rw [em]
          refine x_iload (pc := 56) dX4_follow_56 rfl ?_
          refine x_icmp_eq (pc := 58) (tgt := 67) dX4_follow_58 rfl (fun h_58 => absurd h_58 (fun z => hne ((nI_eq (by omega) (by omega)).mp z))) (fun h_58 => ?_)
          refine x_iinc (pc := 61) (lv2 := [_, _, _, _, _, _, _, _]) dX4_follow_61 (by decide) rfl rfl (nI_1 _) rfl ?_
          refine x_goto (pc := 64) (tgt := 37) dX4_follow_64 rfl ?_
          exact ih2 (x + 1) (by omega)
      refine x_iload (pc := 8) dX4_follow_8 rfl ?_
      refine x_aload_n (pc := 10) dX4_follow_10 rfl ?_
      refine k_getI (pc := 11) hK dX4_follow_11 fk_4_17 (Or.inl rfl) ?_
      refine x_icmp_ge (pc := 14) (tgt := 123) dX4_follow_14 rfl (fun h_14 => absurd h_14 (by rw [ec]; exact lit_le t (by omega) (by omega))) (fun h_14 => ?_)
      refine x_aload_n (pc := 17) dX4_follow_17 rfl ?_
      refine k_getR (pc := 18) hK dX4_follow_18 fk_4_51 (Or.inr ⟨_, rfl⟩) (hle0) ?_
      refine x_iload (pc := 21) dX4_follow_21 rfl ?_
      refine x_aald7 (pc := 23) dX4_follow_23 hleT rfl (by omega) (by decide) (hleX t (by omega)).1 ?_
      refine x_iload_n (pc := 24) dX4_follow_24 rfl ?_
      refine x_bipush (pc := 25) (v := 64) dX4_follow_25 rfl ?_
      refine x_imul (pc := 27) dX4_follow_27 ?_
      refine x_iload (pc := 28) dX4_follow_28 rfl ?_
      refine x_iadd (pc := 30) dX4_follow_30 ?_
      rw [eix]
      refine r_iald (pc := 31) (hleX t (by omega)).2 dX4_follow_31 rfl (by omega) (by decide) ?_
      rw [edue]
      refine x_istore (pc := 32) (lv2 := [_, _, _, _, _, _, _, _]) dX4_follow_32 (by decide) rfl rfl ?_
      refine x_iconst (pc := 34) (v := 0) dX4_follow_34 rfl ?_
      refine x_istore (pc := 35) (lv2 := [_, _, _, _, _, _, _, _]) dX4_follow_35 (by decide) rfl rfl ?_
      exact Li s 0 (by omega)
  refine x_iload_n (pc := 0) dX4_follow_0 rfl ?_
  refine x_istore_n (pc := 1) (lv2 := [_, _, _, _, _, _, _, _]) dX4_follow_1 (by decide) rfl rfl ?_
  refine x_iconst (pc := 2) (v := 0) dX4_follow_2 rfl ?_
  refine x_istore (pc := 3) (lv2 := [_, _, _, _, _, _, _, _]) dX4_follow_3 (by decide) rfl rfl ?_
  refine x_iconst (pc := 5) (v := 0) dX4_follow_5 rfl ?_
  refine x_istore (pc := 6) (lv2 := [_, _, _, _, _, _, _, _]) dX4_follow_6 (by decide) rfl rfl ?_
  exact Lo n 0 l0 0 κ _ _ [] r (by omega) kq.rf hl (by omega) (Nat.zero_le _) hr rfl rfl (fun i hi => absurd hi (by omega))
end M80
