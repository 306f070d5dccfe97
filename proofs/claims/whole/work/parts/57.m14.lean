/-! the reference: give, seat, chance -/
/-- what it costs that a thing isn't there any more, the first d days -/
def lkD (D : PD) (t : Nat) : Nat → Nat
  | 0 => 0
  | d + 1 => lkD D t d + (if (D 6 d).testBit (D 2 t) = true then D 9 (5 * t + bc (D 6 d)) * msD (D 0 t) (D 1 t) else 0)
def gaA (D : PD) (n t : Nat) : Nat := (wkD D n t 7).2.1 + lkD D t 7
def gvD (D : PD) (n : Nat) : Nat → Nat × Nat
  | 0 => (0, (wkD D n 9 7).2.1)
  | t + 1 => if gaA D n t < (gvD D n t).2 then (t + 1, gaA D n t) else gvD D n t
theorem lk_le {D : PD} {n t : Nat} (h : okD D n) (hg : okG D n) (ht : t < n) : ∀ d, d ≤ 7 → lkD D t d ≤ 400 * d
  | 0, _ => Nat.le_refl _
  | d + 1, hd => by
    have h1 := lk_le h hg ht d (by omega)
    have h2 := (hg t ht).2 (bc (D 6 d)) (by have := bc_le (h.2.2.2.2 d (by omega)); omega)
    obtain ⟨k1, k2, -, -⟩ := h.2.1 t (by have := h.1; omega)
    have h3 := (ms_a (D 0 t) k1 (D 1 t) k2).2
    have : D 9 (5 * t + bc (D 6 d)) * msD (D 0 t) (D 1 t) ≤ 99 * 4 := Nat.mul_le_mul h2 h3
    unfold lkD
    split <;> omega
theorem ga_le {D : PD} {n t : Nat} (h : okD D n) (hg : okG D n) (ht : t < n) : gaA D n t < 400000 := by
  have h1 := (wk_ok (aw := t) h hg 7 (Nat.le_refl 7)).1
  have h2 := lk_le h hg ht 7 (Nat.le_refl 7)
  unfold gaA
  omega
theorem gv_le {D : PD} {n : Nat} (h : okD D n) (hg : okG D n) : ∀ t, t ≤ n → (gvD D n t).2 < 400000 ∧ (gvD D n t).1 ≤ t
  | 0, _ => by
    have h1 := (wk_ok (aw := 9) h hg 7 (Nat.le_refl 7)).1
    exact ⟨by show (wkD D n 9 7).2.1 < 400000; omega, Nat.le_refl _⟩
  | t + 1, ht => by
    have := gv_le h hg t (by omega)
    have h2 := ga_le h hg (show t < n by omega)
    rw [gvD]
    split
    · exact ⟨h2, Nat.le_refl _⟩
    · exact ⟨this.1, by omega⟩
theorem RD.aw {s : MS} {D : PD} {n : Nat} {v : Int32} (h : RD s D n) : RD (tI s 35 v) D n := h
theorem bit_c : ∀ G, G < 16 → ∀ g, g < 4 → ((nI G >>> (nI g &&& 31)) &&& 1 = 1 ↔ G.testBit g = true) := bit_b
section M57
variable {Γ : Gm} {μ : Mem} {a : Ma} {σ : MS}
theorem c_give (hM : MOK μ a) {D : PD} {n r m : Nat} (hR : RR σ D n r m) : XM Γ zX12_give 52 0 0 [.ref a.1] (MV μ a σ) (fun v μ2 => ∃ s : MS, v = some (.int (nI (gvD D n n).1 - 1)) ∧ μ2 = MV μ a s ∧ pq σ s) := by
  refine XM.of 5 rfl (by decide) (Nat.le_of_ble_eq_true rfl) ?_
  have hn := hR.1.1.1
  have Lo : ∀ (m t : Nat) (s : MS) (z4 z5 : Option Value), t + m = n → pq σ s → RD s D n → RG s D n → s.1 35 = -1 → WA Γ zX12_give (xrm 52 0 0) 0 0 0 0 (fun v μ2 => ∃ s : MS, v = some (.int (nI (gvD D n n).1 - 1)) ∧ μ2 = MV μ a s ∧ pq σ s) 17 [some (.ref a.1), some (.int (nI (gvD D n t).2)), some (.int (nI (gvD D n t).1 - 1)), some (.int (nI t)), z4, z5] [] (MV μ a s) := by
    intro m
    induction m with
    | zero =>
      intro t s z4 z5 ht hp h hg h35
      obtain rfl : t = n := by omega
      refine x_iload_n (pc := 17) dX12_give_17 rfl ?_
      refine x_aload_n (pc := 18) dX12_give_18 rfl ?_
      refine m_getI (pc := 19) hM dX12_give_19 fk_12_106 (Or.inl rfl) ?_
      refine x_icmp_ge (pc := 22) (tgt := 132) dX12_give_22 rfl (fun h_22 => ?_) (fun h_22 => absurd (by rw [h.2.1]; exact Int32.le_refl _) h_22)
      refine x_iload_n (pc := 132) dX12_give_132 rfl ?_
      refine x_ireturn (pc := 133) dX12_give_133 rfl rfl ?_
      exact ⟨s, rfl, rfl, hp⟩
    | succ m ih =>
      intro t s z4 z5 ht hp h hg h35
      have Li : ∀ (s4 : MS), pq σ s4 → RD s4 D n → RG s4 D n → s4.1 35 = -1 → ∀ (m2 d : Nat), d + m2 = 7 → WA Γ zX12_give (xrm 52 0 0) 0 0 0 0 (fun v μ2 => ∃ s : MS, v = some (.int (nI (gvD D n n).1 - 1)) ∧ μ2 = MV μ a s ∧ pq σ s) 48 [some (.ref a.1), some (.int (nI (gvD D n t).2)), some (.int (nI (gvD D n t).1 - 1)), some (.int (nI t)), some (.int (nI ((wkD D n t 7).2.1 + lkD D t d))), some (.int (nI d))] [] (MV μ a s4) := by
        intro s4 hp4 h4 hg4 h354 m2
        obtain ⟨t10, t11, t12, -⟩ := h4.2.2.1 t (by omega)
        obtain ⟨k1, k2, k3, -⟩ := h.1.2.1 t (by omega)
        induction m2 with
        | zero =>
          intro d hd
          obtain rfl : d = 7 := by omega
          have hb := gv_le h.1 hg.1 t (by omega)
          have hc := ga_le h.1 hg.1 (show t < n by omega)
          refine x_iload (pc := 48) dX12_give_48 rfl ?_
          refine x_bipush (pc := 50) (v := 7) dX12_give_50 rfl ?_
          refine x_icmp_ge (pc := 52) (tgt := 115) dX12_give_52 rfl (fun h_52 => ?_) (fun h_52 => absurd (by decide) h_52)
          refine x_iload (pc := 115) dX12_give_115 rfl ?_
          refine x_iload_n (pc := 117) dX12_give_117 rfl ?_
          refine x_icmp_ge (pc := 118) (tgt := 126) dX12_give_118 rfl (fun h_118 => ?_) (fun h_118 => ?_)
          · refine x_iinc (pc := 126) (lv2 := [_, _, _, _, _, _]) dX12_give_126 (by decide) rfl rfl (nI_1 _) rfl ?_
            refine x_goto (pc := 129) (tgt := 17) dX12_give_129 rfl ?_
            have hl := ih (t + 1) s4 (some (.int (nI ((wkD D n t 7).2.1 + lkD D t 7)))) (some (.int (nI 7))) (by omega) hp4 h4 hg4 h354
            have eA : gvD D n (t + 1) = if gaA D n t < (gvD D n t).2 then (t + 1, gaA D n t) else gvD D n t := rfl
            rw [eA] at hl
            first
              | (rw [if_pos (by
                  have q := Int32.not_le.mp h_118
                  exact (nI_ltI (a := gaA D n t) (by omega) (by omega)).mp q), nI_pred] at hl
                 exact hl)
              | (rw [if_neg (by
                  have := (nI_leI (b := gaA D n t) (by omega) (by omega)).mp h_118
                  omega)] at hl
                 exact hl)
          · refine x_iload_n (pc := 121) dX12_give_121 rfl ?_
            refine x_istore_n (pc := 122) (lv2 := [_, _, _, _, _, _]) dX12_give_122 (by decide) rfl rfl ?_
            refine x_iload (pc := 123) dX12_give_123 rfl ?_
            refine x_istore_n (pc := 125) (lv2 := [_, _, _, _, _, _]) dX12_give_125 (by decide) rfl rfl ?_
            refine x_iinc (pc := 126) (lv2 := [_, _, _, _, _, _]) dX12_give_126 (by decide) rfl rfl (nI_1 _) rfl ?_
            refine x_goto (pc := 129) (tgt := 17) dX12_give_129 rfl ?_
            have hl := ih (t + 1) s4 (some (.int (nI ((wkD D n t 7).2.1 + lkD D t 7)))) (some (.int (nI 7))) (by omega) hp4 h4 hg4 h354
            have eA : gvD D n (t + 1) = if gaA D n t < (gvD D n t).2 then (t + 1, gaA D n t) else gvD D n t := rfl
            rw [eA] at hl
            first
              | (rw [if_pos (by
                  have q := Int32.not_le.mp h_118
                  exact (nI_ltI (a := gaA D n t) (by omega) (by omega)).mp q), nI_pred] at hl
                 exact hl)
              | (rw [if_neg (by
                  have := (nI_leI (b := gaA D n t) (by omega) (by omega)).mp h_118
                  omega)] at hl
                 exact hl)
        | succ m2 ih2 =>
          intro d hd
          have e9 := h4.2.2.2.2.2 d (by omega)
          have hG := h4.1.2.2.2.2 d (by omega)
          have eb := bit_b (D 6 d) hG (D 2 t) k3
          have e33 := (hg4.2 t (by omega)).2 (bc (D 6 d)) (by have := bc_le hG; omega)
          have em := (ms_a (D 0 t) k1 (D 1 t) k2).1
          have hst : lkD D t (d + 1) = lkD D t d + (if (D 6 d).testBit (D 2 t) = true then D 9 (5 * t + bc (D 6 d)) * msD (D 0 t) (D 1 t) else 0) := rfl
          have ha1 : (D 6 d).testBit (D 2 t) = true → nI ((wkD D n t 7).2.1 + lkD D t d) + nI (D 9 (5 * t + bc (D 6 d)) * msD (D 0 t) (D 1 t)) = nI ((wkD D n t 7).2.1 + lkD D t (d + 1)) := fun q => by
            rw [hst, if_pos q, nI_add, Nat.add_assoc]
          have ha2 : ¬ (D 6 d).testBit (D 2 t) = true → nI ((wkD D n t 7).2.1 + lkD D t d) + 0 = nI ((wkD D n t 7).2.1 + lkD D t (d + 1)) := fun q => by
            rw [hst, if_neg q, Int32.add_zero]
            rfl
          refine x_iload (pc := 48) dX12_give_48 rfl ?_
          refine x_bipush (pc := 50) (v := 7) dX12_give_50 rfl ?_
          refine x_icmp_ge (pc := 52) (tgt := 115) dX12_give_52 rfl (fun h_52 => absurd h_52 (lit_le (n := 7) d (by omega) (by omega))) (fun h_52 => ?_)
          refine x_iload (pc := 55) dX12_give_55 rfl ?_
          refine x_aload_n (pc := 57) dX12_give_57 rfl ?_
          refine m_getR (pc := 58) hM dX12_give_58 fk_12_29 (Or.inr ⟨_, rfl⟩) (Or.inl (by decide)) ?_
          refine x_iload (pc := 61) dX12_give_61 rfl ?_
          refine m_iald (pc := 63) hM dX12_give_63 (rfl) (by show d < 7; omega) ?_
          rw [e9]
          refine x_aload_n (pc := 64) dX12_give_64 rfl ?_
          refine m_getR (pc := 65) hM dX12_give_65 fk_12_38 (Or.inr ⟨_, rfl⟩) (Or.inl (by decide)) ?_
          refine x_iload_n (pc := 68) dX12_give_68 rfl ?_
          refine m_iald (pc := 69) hM dX12_give_69 (rfl) (by show t < 5; omega) ?_
          rw [t12]
          refine x_ishr (pc := 70) dX12_give_70 ?_
          refine x_iconst (pc := 71) (v := 1) dX12_give_71 rfl ?_
          refine x_iand (pc := 72) dX12_give_72 ?_
          refine x_iconst (pc := 73) (v := 1) dX12_give_73 rfl ?_
          refine x_icmp_ne (pc := 74) (tgt := 105) dX12_give_74 rfl (fun h_74 => ?_) (fun h_74 => ?_)
          · refine x_iconst (pc := 105) (v := 0) dX12_give_105 rfl ?_
            refine x_iadd (pc := 106) dX12_give_106 ?_
            first
              | rw [e33, t10, t11, em, pk_mul, ha1 (eb.mp (by first | exact h_74 | exact Decidable.not_not.mp h_74))]
              | rw [ha2 (fun q => absurd (eb.mpr q) (by exact h_74))]
            refine x_istore (pc := 107) (lv2 := [_, _, _, _, _, _]) dX12_give_107 (by decide) rfl rfl ?_
            refine x_iinc (pc := 109) (lv2 := [_, _, _, _, _, _]) dX12_give_109 (by decide) rfl rfl (nI_1 _) rfl ?_
            refine x_goto (pc := 112) (tgt := 48) dX12_give_112 rfl ?_
            exact ih2 (d + 1) (by omega)
          · refine x_aload_n (pc := 77) dX12_give_77 rfl ?_
            refine m_getR (pc := 78) hM dX12_give_78 fk_12_53 (Or.inr ⟨_, rfl⟩) (Or.inl (by decide)) ?_
            refine x_iconst (pc := 81) (v := 5) dX12_give_81 rfl ?_
            refine x_iload_n (pc := 82) dX12_give_82 rfl ?_
            refine x_imul (pc := 83) dX12_give_83 ?_
            refine x_aload_n (pc := 84) dX12_give_84 rfl ?_
            refine m_getR (pc := 85) hM dX12_give_85 fk_12_29 (Or.inr ⟨_, rfl⟩) (Or.inl (by decide)) ?_
            refine x_iload (pc := 88) dX12_give_88 rfl ?_
            refine m_iald (pc := 90) hM dX12_give_90 (rfl) (by show d < 7; omega) ?_
            rw [e9]
            refine x_callS (pc := 91) (As := [.int _]) dX12_give_91 mX12_bitsOf lk_12_276 (c_bitsOf hG) rfl rfl (Nat.le_of_ble_eq_true rfl) ⟨by decide, by decide⟩ ⟨Nat.zero_le _, Nat.zero_le _⟩ (k_rt ?_)
            refine x_iadd (pc := 94) dX12_give_94 ?_
            refine m_iald (pc := 95) hM dX12_give_95 (i5m t _) (by show 5 * t + bc (D 6 d) < 25; have := bc_le hG; omega) ?_
            refine x_aload_n (pc := 96) dX12_give_96 rfl ?_
            refine x_iload_n (pc := 97) dX12_give_97 rfl ?_
            refine x_callV (pc := 98) (As := [.int _]) dX12_give_98 mX12_missedOf lk_12_270 hM.1 (c_missedOf hM rfl (by omega)) rfl rfl (Nat.le_of_ble_eq_true rfl) ⟨by decide, by decide⟩ ⟨Nat.zero_le _, Nat.zero_le _⟩ (k_rt ?_)
            refine x_imul (pc := 101) dX12_give_101 ?_
            refine x_goto (pc := 102) (tgt := 106) dX12_give_102 rfl ?_
            refine x_iadd (pc := 106) dX12_give_106 ?_
            first
              | rw [e33, t10, t11, em, pk_mul, ha1 (eb.mp (by first | exact h_74 | exact Decidable.not_not.mp h_74))]
              | rw [ha2 (fun q => absurd (eb.mpr q) (by exact h_74))]
            refine x_istore (pc := 107) (lv2 := [_, _, _, _, _, _]) dX12_give_107 (by decide) rfl rfl ?_
            refine x_iinc (pc := 109) (lv2 := [_, _, _, _, _, _]) dX12_give_109 (by decide) rfl rfl (nI_1 _) rfl ?_
            refine x_goto (pc := 112) (tgt := 48) dX12_give_112 rfl ?_
            exact ih2 (d + 1) (by omega)
      refine x_iload_n (pc := 17) dX12_give_17 rfl ?_
      refine x_aload_n (pc := 18) dX12_give_18 rfl ?_
      refine m_getI (pc := 19) hM dX12_give_19 fk_12_106 (Or.inl rfl) ?_
      refine x_icmp_ge (pc := 22) (tgt := 132) dX12_give_22 rfl (fun h_22 => absurd h_22 (by rw [h.2.1]; exact lit_le t (by omega) (by omega))) (fun h_22 => ?_)
      refine x_aload_n (pc := 25) dX12_give_25 rfl ?_
      refine x_iload_n (pc := 26) dX12_give_26 rfl ?_
      refine m_putI (pc := 27) hM dX12_give_27 fk_12_59 rfl (Or.inl rfl) ?_
      refine x_aload_n (pc := 30) dX12_give_30 rfl ?_
      refine x_callV (pc := 31) (As := []) dX12_give_31 mX12_weeks lk_12_341 hM.1 (c_weeks (aw := t) hM (RD.aw h) hg (show nI t = awI t by unfold awI; rw [if_pos (by omega)])) rfl rfl (Nat.le_of_ble_eq_true rfl) ⟨by decide, by decide⟩ ⟨Nat.zero_le _, Nat.zero_le _⟩ (fun v μ2 hq => ?_)
      obtain ⟨s4, rfl, rfl, hs4, c43, -, -⟩ := hq
      refine x_aload_n (pc := 34) dX12_give_34 rfl ?_
      refine x_iconst (pc := 35) (v := -1) dX12_give_35 rfl ?_
      refine m_putI (pc := 36) hM dX12_give_36 fk_12_59 rfl (Or.inl rfl) ?_
      refine x_aload_n (pc := 39) dX12_give_39 rfl ?_
      refine m_getI (pc := 40) hM dX12_give_40 fk_12_330 (Or.inl rfl) ?_
      refine x_istore (pc := 43) (lv2 := [_, _, _, _, _, _]) dX12_give_43 (by decide) rfl rfl ?_
      rw [show (tI s4 35 (-1)).1 43 = nI ((wkD D n t 7).2.1 + lkD D t 0) from c43]
      refine x_iconst (pc := 45) (v := 0) dX12_give_45 rfl ?_
      refine x_istore (pc := 46) (lv2 := [_, _, _, _, _, _]) dX12_give_46 (by decide) rfl rfl ?_
      have hs5 : sq s (tI s4 35 (-1)) := ⟨fun k hk => by
        by_cases hk35 : k = 35
        · subst hk35; exact (show (-1 : Int32) = s.1 35 from h35.symm)
        · rw [show (tI s4 35 (-1)).1 k = s4.1 k from va_up_n hk35, hs4.1 k hk]
          exact va_up_n hk35, hs4.2.1, hs4.2.2⟩
      exact Li _ (hp.trans (pq.sq hs5)) (h.sq hs5) (hg.sq hs5) rfl 7 0 (by omega)
  refine x_aload_n (pc := 0) dX12_give_0 rfl ?_
  refine x_callV (pc := 1) (As := []) dX12_give_1 mX12_gathers lk_12_311 hM.1 (c_gatherD hM hR) rfl rfl (Nat.le_of_ble_eq_true rfl) ⟨by decide, by decide⟩ ⟨Nat.zero_le _, Nat.zero_le _⟩ (fun v μ2 hq => ?_)
  obtain ⟨s0, rfl, rfl, hgk, h1, h2, h3⟩ := hq
  refine x_aload_n (pc := 4) dX12_give_4 rfl ?_
  refine x_callV (pc := 5) (As := []) dX12_give_5 mX12_weeks lk_12_341 hM.1 (c_weeks (aw := 9) hM h1 h2 h3) rfl rfl (Nat.le_of_ble_eq_true rfl) ⟨by decide, by decide⟩ ⟨Nat.zero_le _, Nat.zero_le _⟩ (fun v μ2 hq => ?_)
  obtain ⟨s4, rfl, rfl, hs4, c43, -, -⟩ := hq
  refine x_aload_n (pc := 8) dX12_give_8 rfl ?_
  refine m_getI (pc := 9) hM dX12_give_9 fk_12_330 (Or.inl rfl) ?_
  rw [c43]
  refine x_istore_n (pc := 12) (lv2 := [_, _, _, _, _, _]) dX12_give_12 (by decide) rfl rfl ?_
  refine x_iconst (pc := 13) (v := -1) dX12_give_13 rfl ?_
  refine x_istore_n (pc := 14) (lv2 := [_, _, _, _, _, _]) dX12_give_14 (by decide) rfl rfl ?_
  refine x_iconst (pc := 15) (v := 0) dX12_give_15 rfl ?_
  refine x_istore_n (pc := 16) (lv2 := [_, _, _, _, _, _]) dX12_give_16 (by decide) rfl rfl ?_
  exact Lo n 0 s4 _ _ (by omega) ((pq.gk hgk).trans (pq.sq hs4)) (h1.sq hs4) (h2.sq hs4) ((hs4.1 35 (by omega)).trans h3)
def stF (D : PD) (n g d s : Nat) : Nat := bnD (upF D 5 (fun x => if x = g then s else D 5 x)) (D 3) (D 6 d) n
def seV (D : PD) (n : Nat) (x y : Int32) : Int32 := if (0 ≤ x ∧ x ≤ 3) ∧ (0 ≤ y ∧ y ≤ 6) then nI (am (stF D n (nn x) (nn y)) 3).1 else -2
def pq8 (σ s : MS) : Prop := (∀ k, pk k → s.1 k = σ.1 k) ∧ (∀ k, pa k → k ≠ 8 → s.2.2 k = σ.2.2 k) ∧ ∀ d, d < 4 → s.2.2 8 d = σ.2.2 8 d
theorem pq.q8 {σ s : MS} (h : pq σ s) : pq8 σ s := ⟨h.1, fun k hk _ => h.2 k hk, fun d _ => by rw [h.2 8 (Or.inl (by omega))]⟩
theorem stF_le {D : PD} {n g d : Nat} (h : okD D n) (hg : okG D n) (hG : D 6 d < 16) (s : Nat) : stF D n g d s < 400000 := by
  have hn := h.1
  -- a seat beyond 3 sees as bit s, all the same bounded
  have key : ∀ (E : PD), (∀ i, i < 5 → E 0 i < 6 ∧ E 1 i < 10) → okG E n → ∀ i, i ≤ n → bnD E (D 3) (D 6 d) i ≤ 1300 * i := by
    intro E h0 hE i
    induction i with
    | zero => exact fun _ => Nat.le_refl _
    | succ i ih =>
      intro hi
      have h1 := ih (by omega)
      have h7 := (h.2.1 i (by omega)).2.2.2
      have hb := bc_le hG
      have h9 := (hE i (by omega)).2 (bc (D 6 d)) (by omega)
      have h8 := ((hE i (by omega)).1 (D 3 i) h7).2
      obtain ⟨k1, k2⟩ := h0 i (by omega)
      have hof : ∀ x, x < 4 → ofD (E 0 i) (E 1 i) (E 2 i) x ≤ 2 := fun x _ => by
        unfold ofD
        split
        · split <;> omega
        · split
          · split <;> omega
          · split
            · omega
            · split
              · split <;> omega
              · omega
      have ht : ∀ g, g ≤ 4 → tbD E i (D 3 i) (D 6 d) g ≤ 4 + 2 * g := by
        intro g
        induction g with
        | zero =>
          intro _
          have := (ms_a (E 0 i) k1 (E 1 i) k2).2
          unfold tbD
          split <;> omega
        | succ g ihg =>
          intro hg4
          have q1 := ihg (by omega)
          have q2 := hof g (by omega)
          unfold tbD
          split <;> omega
      have q := ht 4 (Nat.le_refl 4)
      have : E 9 (5 * i + bc (D 6 d)) * tbD E i (D 3 i) (D 6 d) 4 ≤ 99 * 12 := Nat.mul_le_mul h9 (by omega)
      show bnD E (D 3) (D 6 d) i + (E 9 (5 * i + bc (D 6 d)) * tbD E i (D 3 i) (D 6 d) 4 + E 8 (7 * i + D 3 i)) ≤ 1300 * (i + 1)
      omega
  have := key (upF D 5 (fun x => if x = g then s else D 5 x)) (fun i hi => ⟨(h.2.1 i hi).1, (h.2.1 i hi).2.1⟩) hg n (Nat.le_refl n)
  unfold stF
  omega
theorem RD_seat {σ : MS} {D : PD} {n g s : Nat} (hR : RD σ D n) (hs : s < 4) : RD (tA σ 8 g (nI s)) (upF D 5 (fun x => if x = g then s else D 5 x)) n := by
  obtain ⟨⟨h1, h2, h3, h4, h5⟩, h6, h7, h8, h9, h10⟩ := hR
  refine ⟨⟨h1, h2, h3, fun x hx => ?_, h5⟩, h6, ?_, ?_, fun x hx => ?_, ?_⟩
  · show (if x = g then s else D 5 x) < 4
    split
    · exact hs
    · exact h4 x hx
  · rw [tA_n (by decide), tA_n (by decide), tA_n (by decide), tA_n (by decide)]
    exact h7
  · rw [tA_n (by decide)]
    exact h8
  · show up2 σ.2.2 8 g (nI s) 8 x = nI (if x = g then s else D 5 x)
    by_cases hx2 : x = g
    · rw [if_pos hx2, hx2, up2_s]
    · rw [if_neg hx2, up2_n (Or.inr hx2), h9 x hx]
  · rw [tA_n (by decide)]
    exact h10
theorem RG_seat {σ : MS} {D : PD} {n g : Nat} {v : Int32} {f : Nat → Nat} (hR : RG σ D n) : RG (tA σ 8 g v) (upF D 5 f) n := by
  refine ⟨hR.1, ?_⟩
  rw [tA_n (by decide), tA_n (by decide), tA_n (by decide)]
  exact hR.2
theorem c_seat (hM : MOK μ a) {D : PD} {n r m : Nat} (x y : Int32) (hR : RR σ D n r m) : XM Γ zX12_seat 51 0 0 [.ref a.1, .int x, .int y] (MV μ a σ) (fun v μ2 => ∃ s : MS, v = some (.int (seV D n x y)) ∧ μ2 = MV μ a s ∧ pq8 σ s) := by
  refine XM.of 5 rfl (by decide) (Nat.le_of_ble_eq_true rfl) ?_
  have hn := hR.1.1.1
  have Lo : ∀ (g d : Nat) (s0 : MS), g < 4 → d < 7 → x = nI g → y = nI d → pq σ s0 → RD s0 D n → RG s0 D n → ∀ (m j : Nat) (s : MS) (z7 : Option Value), j + m = 4 → s.1 = s0.1 → (∀ k, k ≠ 8 → s.2.2 k = s0.2.2 k) → (∀ i, i ≠ g → s.2.2 8 i = s0.2.2 8 i) → WA Γ zX12_seat (xrm 51 0 0) 0 0 0 0 (fun v μ2 => ∃ s : MS, v = some (.int (seV D n x y)) ∧ μ2 = MV μ a s ∧ pq8 σ s) 47 [some (.ref a.1), some (.int x), some (.int y), some (.int (nI (D 5 g))), some (.int (amI (stF D n g d) j).1), some (.int (amI (stF D n g d) j).2), some (.int (nI j)), z7] [] (MV μ a s) := by
    intro g d s0 hg4 hd7 hx hy hp h hg m
    induction m with
    | zero =>
      intro j s z7 hj q1 q2 q3
      obtain rfl : j = 4 := by omega
      refine x_iload (pc := 47) dX12_seat_47 rfl ?_
      refine x_iconst (pc := 49) (v := 4) dX12_seat_49 rfl ?_
      refine x_icmp_ge (pc := 50) (tgt := 100) dX12_seat_50 rfl (fun h_50 => ?_) (fun h_50 => absurd (by decide) h_50)
      refine x_aload_n (pc := 100) dX12_seat_100 rfl ?_
      refine m_getR (pc := 101) hM dX12_seat_101 fk_12_26 (Or.inr ⟨_, rfl⟩) (Or.inl (by decide)) ?_
      refine x_iload_n (pc := 104) dX12_seat_104 rfl ?_
      refine x_iload_n (pc := 105) dX12_seat_105 rfl ?_
      refine m_iast (pc := 106) hM dX12_seat_106 (hx) (by show g < 4; omega) ?_
      refine x_iload (pc := 107) dX12_seat_107 rfl ?_
      refine x_ireturn (pc := 109) dX12_seat_109 rfl rfl ?_
      refine ⟨_, ?_, rfl, ⟨fun k hk => by rw [show (tA s 8 g (nI (D 5 g))).1 k = s.1 k from rfl, q1]; exact hp.1 k hk, fun k hk h8 => by rw [tA_n h8, q2 k h8]; exact hp.2 k hk, fun i hi => ?_⟩⟩
      · unfold seV
        rw [if_pos ⟨by rw [hx]; exact ⟨nI_pos' (by omega), nI_le (b := 3) (by omega) (by omega)⟩, by rw [hy]; exact ⟨nI_pos' (by omega), nI_le (b := 6) (by omega) (by omega)⟩⟩, hx, hy, nn_nI (by omega), nn_nI (by omega)]
        rfl
      · rw [← hp.2 8 (Or.inl (by omega))]
        show up2 s.2.2 8 g _ 8 i = _
        by_cases hi2 : i = g
        · rw [hi2, up2_s, h.2.2.2.2.1 g hg4]
        · rw [up2_n (Or.inr hi2), q3 i hi2]
    | succ m ih =>
      intro j s z7 hj q1 q2 q3
      have hs0 : RD s (upF D 5 (fun i => if i = g then (nn (s.2.2 8 g)) else D 5 i)) n → True := fun _ => trivial
      have hR2 : RD (tA s 8 g (nI j)) (upF D 5 (fun i => if i = g then j else D 5 i)) n := by
        obtain ⟨⟨h1, h2, h3, h4, h5⟩, h6, h7, h8, h9, h10⟩ := h
        refine ⟨⟨h1, h2, h3, fun i hi => ?_, h5⟩, by rw [show (tA s 8 g (nI j)).1 15 = s.1 15 from rfl, q1]; exact h6, ?_, ?_, fun i hi => ?_, ?_⟩
        · show (if i = g then j else D 5 i) < 4
          split
          · omega
          · exact h4 i hi
        · rw [tA_n (by decide), tA_n (by decide), tA_n (by decide), tA_n (by decide), q2 10 (by decide), q2 11 (by decide), q2 12 (by decide), q2 14 (by decide)]
          exact h7
        · rw [tA_n (by decide), q2 7 (by decide)]
          exact h8
        · show up2 s.2.2 8 g (nI j) 8 i = nI (if i = g then j else D 5 i)
          by_cases hi2 : i = g
          · rw [if_pos hi2, hi2, up2_s]
          · rw [if_neg hi2, up2_n (Or.inr hi2), q3 i hi2, h9 i hi]
        · rw [tA_n (by decide), q2 9 (by decide)]
          exact h10
      have hG2 : RG (tA s 8 g (nI j)) (upF D 5 (fun i => if i = g then j else D 5 i)) n := by
        refine ⟨hg.1, ?_⟩
        rw [tA_n (by decide), tA_n (by decide), tA_n (by decide), q2 31 (by decide), q2 32 (by decide), q2 33 (by decide)]
        exact hg.2
      have e9 : (tA s 8 g (nI j)).2.2 9 d = nI (D 6 d) := hR2.2.2.2.2.2 d hd7
      have hGd := h.1.2.2.2.2 d hd7
      obtain ⟨bn1, bn2⟩ := bn_a hR2 hG2 hGd n (Nat.le_refl n)
      have bn3 : bnI (tA s 8 g (nI j)) (D 6 d) n = nI (stF D n g d j) := bn1
      refine x_iload (pc := 47) dX12_seat_47 rfl ?_
      refine x_iconst (pc := 49) (v := 4) dX12_seat_49 rfl ?_
      refine x_icmp_ge (pc := 50) (tgt := 100) dX12_seat_50 rfl (fun h_50 => absurd h_50 (lit_le (n := 4) j (by omega) (by omega))) (fun h_50 => ?_)
      refine x_aload_n (pc := 53) dX12_seat_53 rfl ?_
      refine m_getR (pc := 54) hM dX12_seat_54 fk_12_26 (Or.inr ⟨_, rfl⟩) (Or.inl (by decide)) ?_
      refine x_iload_n (pc := 57) dX12_seat_57 rfl ?_
      refine x_iload (pc := 58) dX12_seat_58 rfl ?_
      refine m_iast (pc := 60) hM dX12_seat_60 (hx) (by show g < 4; omega) ?_
      refine x_aload_n (pc := 61) dX12_seat_61 rfl ?_
      refine x_aload_n (pc := 62) dX12_seat_62 rfl ?_
      refine m_getR (pc := 63) hM dX12_seat_63 fk_12_29 (Or.inr ⟨_, rfl⟩) (Or.inl (by decide)) ?_
      refine x_iload_n (pc := 66) dX12_seat_66 rfl ?_
      refine m_iald (pc := 67) hM dX12_seat_67 (hy) (by show d < 7; omega) ?_
      rw [e9]
      refine x_callV (pc := 68) (As := [.int _]) dX12_seat_68 mX12_badNow lk_12_314 hM.1 (c_badNow hM hGd hR2.2.1 hn hR2.gv hR2.pu) rfl rfl (Nat.le_of_ble_eq_true rfl) ⟨by decide, by decide⟩ ⟨Nat.zero_le _, Nat.zero_le _⟩ (k_rt ?_)
      rw [bn3]
      refine x_istore (pc := 71) (lv2 := [_, _, _, _, _, _, _, _]) dX12_seat_71 (by decide) rfl rfl ?_
      refine x_iload (pc := 73) dX12_seat_73 rfl ?_
      refine x_iconst (pc := 75) (v := -1) dX12_seat_75 rfl ?_
      refine x_icmp_eq (pc := 76) (tgt := 86) dX12_seat_76 rfl (fun h_76 => ?_) (fun h_76 => ?_)
      · refine x_iload (pc := 86) dX12_seat_86 rfl ?_
        refine x_istore (pc := 88) (lv2 := [_, _, _, _, _, _, _, _]) dX12_seat_88 (by decide) rfl rfl ?_
        refine x_iload (pc := 90) dX12_seat_90 rfl ?_
        refine x_istore (pc := 92) (lv2 := [_, _, _, _, _, _, _, _]) dX12_seat_92 (by decide) rfl rfl ?_
        refine x_iinc (pc := 94) (lv2 := [_, _, _, _, _, _, _, _]) dX12_seat_94 (by decide) rfl rfl (nI_1 _) rfl ?_
        refine x_goto (pc := 97) (tgt := 47) dX12_seat_97 rfl ?_
        have hl := ih (j + 1) (tA s 8 g (nI j)) (some (.int (nI (stF D n g d j)))) (by omega) q1 (fun k hk => by rw [tA_n hk]; exact q2 k hk) (fun i hi => by rw [← q3 i hi]; exact up2_n (Or.inr hi))
        have hB : ∀ k, stF D n g d k < 400000 := fun k => stF_le h.1 hg.1 hGd k
        have hc := hB j
        rcases j with _ | j
        · first
            | exact absurd rfl h_76
            | exact absurd (show (amI (stF D n g d) 0).1 = -1 from rfl) h_76
            | exact hl
        · have hb := am_lt (f := stF D n g d) (B := 400000) hB j
          have eA : amI (stF D n g d) (j + 1 + 1) = if stF D n g d (j + 1) < (am (stF D n g d) j).2 then (nI (j + 1), nI (stF D n g d (j + 1))) else amI (stF D n g d) (j + 1) := by
            show (nI (am (stF D n g d) (j + 1)).1, nI (am (stF D n g d) (j + 1)).2) = _
            rw [am]
            split <;> rfl
          rw [eA] at hl
          first
            | (rw [if_pos (by
                first
                  | exact absurd (show nI (am (stF D n g d) j).1 = -1 by exact h_76) (nI_m1 (by have := hb.2; omega))
                  | exact (nI_ltI (by omega) (by have := hb.1; omega)).mp (Int32.not_le.mp h_83))] at hl
               exact hl)
            | (rw [if_neg (by
                have := (nI_leI (by have := hb.1; omega) (by omega)).mp h_83
                omega)] at hl
               exact hl)
      · refine x_iload (pc := 79) dX12_seat_79 rfl ?_
        refine x_iload (pc := 81) dX12_seat_81 rfl ?_
        refine x_icmp_ge (pc := 83) (tgt := 94) dX12_seat_83 rfl (fun h_83 => ?_) (fun h_83 => ?_)
        · refine x_iinc (pc := 94) (lv2 := [_, _, _, _, _, _, _, _]) dX12_seat_94 (by decide) rfl rfl (nI_1 _) rfl ?_
          refine x_goto (pc := 97) (tgt := 47) dX12_seat_97 rfl ?_
          have hl := ih (j + 1) (tA s 8 g (nI j)) (some (.int (nI (stF D n g d j)))) (by omega) q1 (fun k hk => by rw [tA_n hk]; exact q2 k hk) (fun i hi => by rw [← q3 i hi]; exact up2_n (Or.inr hi))
          have hB : ∀ k, stF D n g d k < 400000 := fun k => stF_le h.1 hg.1 hGd k
          have hc := hB j
          rcases j with _ | j
          · first
              | exact absurd rfl h_76
              | exact absurd (show (amI (stF D n g d) 0).1 = -1 from rfl) h_76
              | exact hl
          · have hb := am_lt (f := stF D n g d) (B := 400000) hB j
            have eA : amI (stF D n g d) (j + 1 + 1) = if stF D n g d (j + 1) < (am (stF D n g d) j).2 then (nI (j + 1), nI (stF D n g d (j + 1))) else amI (stF D n g d) (j + 1) := by
              show (nI (am (stF D n g d) (j + 1)).1, nI (am (stF D n g d) (j + 1)).2) = _
              rw [am]
              split <;> rfl
            rw [eA] at hl
            first
              | (rw [if_pos (by
                  first
                    | exact absurd (show nI (am (stF D n g d) j).1 = -1 by exact h_76) (nI_m1 (by have := hb.2; omega))
                    | exact (nI_ltI (by omega) (by have := hb.1; omega)).mp (Int32.not_le.mp h_83))] at hl
                 exact hl)
              | (rw [if_neg (by
                  have := (nI_leI (by have := hb.1; omega) (by omega)).mp h_83
                  omega)] at hl
                 exact hl)
        · refine x_iload (pc := 86) dX12_seat_86 rfl ?_
          refine x_istore (pc := 88) (lv2 := [_, _, _, _, _, _, _, _]) dX12_seat_88 (by decide) rfl rfl ?_
          refine x_iload (pc := 90) dX12_seat_90 rfl ?_
          refine x_istore (pc := 92) (lv2 := [_, _, _, _, _, _, _, _]) dX12_seat_92 (by decide) rfl rfl ?_
          refine x_iinc (pc := 94) (lv2 := [_, _, _, _, _, _, _, _]) dX12_seat_94 (by decide) rfl rfl (nI_1 _) rfl ?_
          refine x_goto (pc := 97) (tgt := 47) dX12_seat_97 rfl ?_
          have hl := ih (j + 1) (tA s 8 g (nI j)) (some (.int (nI (stF D n g d j)))) (by omega) q1 (fun k hk => by rw [tA_n hk]; exact q2 k hk) (fun i hi => by rw [← q3 i hi]; exact up2_n (Or.inr hi))
          have hB : ∀ k, stF D n g d k < 400000 := fun k => stF_le h.1 hg.1 hGd k
          have hc := hB j
          rcases j with _ | j
          · first
              | exact absurd rfl h_76
              | exact absurd (show (amI (stF D n g d) 0).1 = -1 from rfl) h_76
              | exact hl
          · have hb := am_lt (f := stF D n g d) (B := 400000) hB j
            have eA : amI (stF D n g d) (j + 1 + 1) = if stF D n g d (j + 1) < (am (stF D n g d) j).2 then (nI (j + 1), nI (stF D n g d (j + 1))) else amI (stF D n g d) (j + 1) := by
              show (nI (am (stF D n g d) (j + 1)).1, nI (am (stF D n g d) (j + 1)).2) = _
              rw [am]
              split <;> rfl
            rw [eA] at hl
            first
              | (rw [if_pos (by
                  first
                    | exact absurd (show nI (am (stF D n g d) j).1 = -1 by exact h_76) (nI_m1 (by have := hb.2; omega))
                    | exact (nI_ltI (by omega) (by have := hb.1; omega)).mp (Int32.not_le.mp h_83))] at hl
                 exact hl)
              | (rw [if_neg (by
                  have := (nI_leI (by have := hb.1; omega) (by omega)).mp h_83
                  omega)] at hl
                 exact hl)
  refine x_iload_n (pc := 0) dX12_seat_0 rfl ?_
  refine x_i2l (pc := 1) dX12_seat_1 ?_
  refine x_lconst (pc := 2) (v := 0) dX12_seat_2 rfl ?_
  refine x_ldc2 (pc := 3) dX12_seat_3 kc_12_117 ?_
  refine x_callS (pc := 6) (As := [.long _, .long _, .long _]) dX12_seat_6 mX12_in lk_12_109 (c_inI 0 3) rfl rfl (Nat.le_of_ble_eq_true rfl) ⟨by decide, by decide⟩ ⟨Nat.zero_le _, Nat.zero_le _⟩ (k_rt ?_)
  refine x_if_eq (pc := 9) (tgt := 24) dX12_seat_9 rfl (fun h_9 => ?_) (fun h_9 => ?_)
  · refine x_bipush (pc := 24) (v := -2) dX12_seat_24 rfl ?_
    refine x_ireturn (pc := 26) dX12_seat_26 rfl rfl ?_
    refine ⟨σ, ?_, rfl, pq.rf.q8⟩
    unfold seV
    rw [if_neg]
    rintro ⟨q1, q2⟩
    first
      | exact absurd h_9 (by rw [bi_t q1]; decide)
      | exact absurd h_21 (by rw [bi_t q2]; decide)
  · refine x_iload_n (pc := 12) dX12_seat_12 rfl ?_
    refine x_i2l (pc := 13) dX12_seat_13 ?_
    refine x_lconst (pc := 14) (v := 0) dX12_seat_14 rfl ?_
    refine x_ldc2 (pc := 15) dX12_seat_15 kc_12_350 ?_
    refine x_callS (pc := 18) (As := [.long _, .long _, .long _]) dX12_seat_18 mX12_in lk_12_109 (c_inI 0 6) rfl rfl (Nat.le_of_ble_eq_true rfl) ⟨by decide, by decide⟩ ⟨Nat.zero_le _, Nat.zero_le _⟩ (k_rt ?_)
    refine x_if_ne (pc := 21) (tgt := 27) dX12_seat_21 rfl (fun h_21 => ?_) (fun h_21 => ?_)
    · obtain ⟨g, hg4, hx⟩ := ixB (n := 3) rfl (bi_n0 h_9) (by omega)
      obtain ⟨d, hd7, hy⟩ := ixB (n := 6) rfl (bi_n0 h_21) (by omega)
      refine x_aload_n (pc := 27) dX12_seat_27 rfl ?_
      refine x_callV (pc := 28) (As := []) dX12_seat_28 mX12_gathers lk_12_311 hM.1 (c_gatherD hM hR) rfl rfl (Nat.le_of_ble_eq_true rfl) ⟨by decide, by decide⟩ ⟨Nat.zero_le _, Nat.zero_le _⟩ (fun v μ2 hq => ?_)
      obtain ⟨s0, rfl, rfl, hgk, h1, h2, h3⟩ := hq
      refine x_aload_n (pc := 31) dX12_seat_31 rfl ?_
      refine m_getR (pc := 32) hM dX12_seat_32 fk_12_26 (Or.inr ⟨_, rfl⟩) (Or.inl (by decide)) ?_
      refine x_iload_n (pc := 35) dX12_seat_35 rfl ?_
      refine m_iald (pc := 36) hM dX12_seat_36 (hx) (by show g < 4; omega) ?_
      rw [h1.2.2.2.2.1 g (by omega)]
      refine x_istore_n (pc := 37) (lv2 := [_, _, _, _, _, _, _, _]) dX12_seat_37 (by decide) rfl rfl ?_
      refine x_iconst (pc := 38) (v := -1) dX12_seat_38 rfl ?_
      refine x_istore (pc := 39) (lv2 := [_, _, _, _, _, _, _, _]) dX12_seat_39 (by decide) rfl rfl ?_
      refine x_iconst (pc := 41) (v := 0) dX12_seat_41 rfl ?_
      refine x_istore (pc := 42) (lv2 := [_, _, _, _, _, _, _, _]) dX12_seat_42 (by decide) rfl rfl ?_
      refine x_iconst (pc := 44) (v := 0) dX12_seat_44 rfl ?_
      refine x_istore (pc := 45) (lv2 := [_, _, _, _, _, _, _, _]) dX12_seat_45 (by decide) rfl rfl ?_
      exact Lo g d s0 (by omega) (by omega) hx hy (pq.gk hgk) h1 h2 4 0 s0 _ (by omega) rfl (fun _ _ => rfl) (fun _ _ => rfl)
    · refine x_bipush (pc := 24) (v := -2) dX12_seat_24 rfl ?_
      refine x_ireturn (pc := 26) dX12_seat_26 rfl rfl ?_
      refine ⟨σ, ?_, rfl, pq.rf.q8⟩
      unfold seV
      rw [if_neg]
      rintro ⟨q1, q2⟩
      first
        | exact absurd h_9 (by rw [bi_t q1]; decide)
        | exact absurd h_21 (by rw [bi_t q2]; decide)
end M57
