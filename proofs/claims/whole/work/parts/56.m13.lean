/-! the reference: dearest, give, seat, drawn -/
def upF (D : PD) (f : Nat) (h : Nat → Nat) : PD := fun k i => if k = f then h i else D k i
/-- the first of the least -/
def am (f : Nat → Nat) : Nat → Nat × Nat
  | 0 => (0, f 0)
  | k + 1 => if f (k + 1) < (am f k).2 then (k + 1, f (k + 1)) else am f k
theorem am_lt {f : Nat → Nat} {B : Nat} (h : ∀ k, f k < B) : ∀ k, (am f k).2 < B ∧ (am f k).1 ≤ k
  | 0 => ⟨h 0, Nat.le_refl _⟩
  | k + 1 => by
    have := am_lt h k
    rw [am]
    split
    · exact ⟨h (k + 1), Nat.le_refl _⟩
    · exact ⟨this.1, by omega⟩
def rmG (x g : Nat) : Nat := if x.testBit g then x - 2 ^ g else x
theorem rm_a : ∀ x, x < 16 → ∀ g, g < 4 → nI x &&& (((1 : Int32) <<< (nI g &&& 31)) ^^^ (-1)) = nI (rmG x g) ∧ rmG x g < 16 := by decide +kernel
def dlD (D : PD) (g : Nat) : PD := upF D 6 (fun d => rmG (D 6 d) g)
/-- what stays but for days and what is sought -/
def ds (σ s : MS) : Prop := (∀ k, k < 38 ∨ 45 < k → s.1 k = σ.1 k) ∧ ∀ k, k < 34 ∨ k = 35 ∨ 41 < k → k ≠ 9 → s.2.2 k = σ.2.2 k
theorem ds.rf {σ : MS} : ds σ σ := ⟨fun _ _ => rfl, fun _ _ _ => rfl⟩
theorem ds.sq {σ s s' : MS} (h : ds σ s) (q : sq s s') : ds σ s' := ⟨fun k hk => (q.1 k hk).trans (h.1 k hk), fun k hk h9 => (q.2.2 k hk).trans (h.2 k hk h9)⟩
theorem ds.tA {σ s : MS} {i : Nat} {v : Int32} (h : ds σ s) : ds σ (tA s 9 i v) := ⟨h.1, fun k hk h9 => (tA_n h9).trans (h.2 k hk h9)⟩
theorem ds.bt {σ s s' : MS} (h : ds σ s) (q : but 9 s s') : ds σ s' := ⟨fun k hk => by rw [q.1]; exact h.1 k hk, fun k hk h9 => (q.2.2 k h9).trans (h.2 k hk h9)⟩
theorem RD_days {σ s : MS} {D : PD} {n : Nat} {h : Nat → Nat} (hR : RD σ D n) (q : ds σ s) (hd : ∀ d, d < 7 → h d < 16 ∧ s.2.2 9 d = nI (h d)) : RD s (upF D 6 h) n := by
  obtain ⟨⟨h1, h2, h3, h4, -⟩, h6, h7, h8, h9, -⟩ := hR
  refine ⟨⟨h1, h2, h3, h4, fun d hd2 => (hd d hd2).1⟩, (q.1 15 (by omega)).trans h6, ?_, ?_, ?_, fun d hd2 => (hd d hd2).2⟩
  · rw [q.2 10 (by omega) (by omega), q.2 11 (by omega) (by omega), q.2 12 (by omega) (by omega), q.2 14 (by omega) (by omega)]
    exact h7
  · rw [q.2 7 (by omega) (by omega)]
    exact h8
  · rw [q.2 8 (by omega) (by omega)]
    exact h9
theorem RG_days {σ s : MS} {D : PD} {n : Nat} {h : Nat → Nat} (hR : RG σ D n) (q : ds σ s) : RG s (upF D 6 h) n := by
  refine ⟨hR.1, ?_⟩
  rw [q.2 31 (by omega) (by omega), q.2 32 (by omega) (by omega), q.2 33 (by omega) (by omega)]
  exact hR.2
theorem kd_i {σ : MS} : ∀ k, but 46 σ (it f_kd k σ) ∧ ∀ j, j < k → (it f_kd k σ).2.2 46 j = σ.2.2 9 j
  | 0 => ⟨but.rf, fun j h => absurd h (by omega)⟩
  | k + 1 => by
    obtain ⟨h1, h2⟩ := kd_i (σ := σ) k
    refine ⟨h1.tA, fun j hj => ?_⟩
    show up2 _ 46 _ _ 46 _ = _
    rcases Nat.lt_or_ge j k with q | q
    · rw [up2_n (Or.inr (by omega)), h2 j q]
    · obtain rfl : j = k := by omega
      rw [up2_s, h1.2.2 9 (by decide)]
theorem db_i {σ : MS} : ∀ k, but 9 σ (it f_db k σ) ∧ ∀ j, (it f_db k σ).2.2 9 j = if j < k then σ.2.2 46 j else σ.2.2 9 j
  | 0 => ⟨but.rf, fun j => by rw [if_neg (by omega)]; rfl⟩
  | k + 1 => by
    obtain ⟨h1, h2⟩ := db_i (σ := σ) k
    refine ⟨h1.tA, fun j => ?_⟩
    show up2 _ 9 _ _ 9 _ = _
    rcases Nat.lt_trichotomy j k with q | q | q
    · rw [up2_n (Or.inr (by omega)), h2, if_pos q, if_pos (by omega)]
    · subst q
      rw [up2_s, h1.2.2 46 (by decide), if_pos (by omega)]
    · rw [up2_n (Or.inr (by omega)), h2, if_neg (by omega), if_neg (by omega)]
/-- but for days that are never there -/
def pq9 (σ s : MS) : Prop := (∀ k, pk k → s.1 k = σ.1 k) ∧ (∀ k, pa k → k ≠ 9 → s.2.2 k = σ.2.2 k) ∧ ∀ d, d < 7 → s.2.2 9 d = σ.2.2 9 d
theorem pq.q9 {σ s : MS} (h : pq σ s) : pq9 σ s := ⟨h.1, fun k hk _ => h.2 k hk, fun d _ => by rw [h.2 9 (Or.inl (by omega))]⟩
/-- days kept, changed, laid back -/
theorem back_9 {σ s0 s : MS} (h0 : pq σ s0) (h : ds (it f_kd 7 s0) s) : pq9 σ (it f_db 7 s) := by
  obtain ⟨k1, k2⟩ := kd_i (σ := s0) 7
  obtain ⟨b1, b2⟩ := db_i (σ := s) 7
  refine ⟨fun k hk => ?_, fun k hk h9 => ?_, fun d hd => ?_⟩
  · rw [b1.1, h.1 k (by unfold pk at hk; omega), k1.1]
    exact h0.1 k hk
  · rw [b1.2.2 k h9, h.2 k (by unfold pa at hk; omega) h9, k1.2.2 k (by unfold pa at hk; omega)]
    exact h0.2 k hk
  · rw [b2 d, if_pos hd, h.2 46 (by omega) (by omega), k2 d hd, h0.2 9 (Or.inl (by omega))]
theorem kd_RD {s : MS} {D : PD} {n : Nat} (h : RD s D n) (hg : RG s D n) : RD (it f_kd 7 s) D n ∧ RG (it f_kd 7 s) D n ∧ (it f_kd 7 s).1 35 = s.1 35 ∧ ∀ d, d < 7 → (it f_kd 7 s).2.2 46 d = nI (D 6 d) := by
  obtain ⟨k1, k2⟩ := kd_i (σ := s) 7
  refine ⟨?_, ?_, by rw [k1.1], fun d hd => by rw [k2 d hd, h.2.2.2.2.2 d hd]⟩
  · unfold RD at h ⊢
    rw [k1.1, k1.2.2 10 (by decide), k1.2.2 11 (by decide), k1.2.2 12 (by decide), k1.2.2 14 (by decide), k1.2.2 7 (by decide), k1.2.2 8 (by decide), k1.2.2 9 (by decide)]
    exact h
  · unfold RG at hg ⊢
    rw [k1.2.2 31 (by decide), k1.2.2 32 (by decide), k1.2.2 33 (by decide)]
    exact hg
section M56
variable {Γ : Gm} {μ : Mem} {a : Ma} {σ : MS}
def deF (D : PD) (n g : Nat) : Nat := (wkD (dlD D g) n 9 7).2.1
def deV (D : PD) (n : Nat) (z : Int32) : Int32 := if 0 ≤ z ∧ z ≤ 1 then (if z = 0 then nI (am (deF D n) 3).1 else nI (am (deF D n) 3).2) else -2
theorem deF_lt {D : PD} {n g : Nat} (h : okD D n) (hg : okG D n) (hg4 : g < 4) : deF D n g < 400000 := by
  have := (wk_ok (D := dlD D g) (aw := 9) (n := n) ⟨h.1, h.2.1, h.2.2.1, h.2.2.2.1, fun d hd => (rm_a (D 6 d) (h.2.2.2.2 d hd) g hg4).2⟩ hg 7 (Nat.le_refl 7)).1
  show (wkD (dlD D g) n 9 7).2.1 < 400000
  omega
theorem am_lt2 {f : Nat → Nat} {B : Nat} : ∀ k, (∀ j, j ≤ k → f j < B) → (am f k).2 < B ∧ (am f k).1 ≤ k
  | 0, h => ⟨h 0 (Nat.le_refl _), Nat.le_refl _⟩
  | k + 1, h => by
    have := am_lt2 (f := f) (B := B) k (fun j hj => h j (by omega))
    rw [am]
    split
    · exact ⟨h (k + 1) (Nat.le_refl _), Nat.le_refl _⟩
    · exact ⟨this.1, by omega⟩
/-- found and least, behind the first k -/
def amI (f : Nat → Nat) (k : Nat) : Int32 × Int32 := match k with
  | 0 => (-1, 0)
  | k + 1 => (nI (am f k).1, nI (am f k).2)
theorem c_dearest (hM : MOK μ a) {D : PD} {n r m : Nat} (z : Int32) (hR : RR σ D n r m) : XM Γ zX12_dearest 52 0 0 [.ref a.1, .int z] (MV μ a σ) (fun v μ2 => ∃ s : MS, v = some (.int (deV D n z)) ∧ μ2 = MV μ a s ∧ pq9 σ s) := by
  refine XM.of 4 rfl (by decide) (Nat.le_of_ble_eq_true rfl) ?_
  have Lo : ∀ (s0 : MS), pq σ s0 → RD s0 D n → RG s0 D n → s0.1 35 = -1 → 0 ≤ z ∧ z ≤ 1 → ∀ (m g : Nat) (s : MS) (z5 : Option Value), g + m = 4 → ds (it f_kd 7 s0) s → WA Γ zX12_dearest (xrm 52 0 0) 0 0 0 0 (fun v μ2 => ∃ s : MS, v = some (.int (deV D n z)) ∧ μ2 = MV μ a s ∧ pq9 σ s) 28 [some (.ref a.1), some (.int z), some (.int (amI (deF D n) g).1), some (.int (amI (deF D n) g).2), some (.int (nI g)), z5] [] (MV μ a s) := by
    intro s0 hp h hg h35 hz m
    obtain ⟨kR, kG, k35, k46⟩ := kd_RD h hg
    rw [h35] at k35
    induction m with
    | zero =>
      intro g s z5 hg4 hs
      obtain rfl : g = 4 := by omega
      refine x_iload (pc := 28) dX12_dearest_28 rfl ?_
      refine x_iconst (pc := 30) (v := 4) dX12_dearest_30 rfl ?_
      refine x_icmp_ge (pc := 31) (tgt := 102) dX12_dearest_31 rfl (fun h_31 => ?_) (fun h_31 => absurd (by decide) h_31)
      refine x_aload_n (pc := 102) dX12_dearest_102 rfl ?_
      refine x_callV (pc := 103) (As := []) dX12_dearest_103 mX12_daysBack lk_12_347 hM.1 (c_daysBack hM) rfl rfl (Nat.le_of_ble_eq_true rfl) ⟨by decide, by decide⟩ ⟨Nat.zero_le _, Nat.zero_le _⟩ (k_rv ?_)
      refine x_iload_n (pc := 106) dX12_dearest_106 rfl ?_
      refine x_if_ne (pc := 107) (tgt := 114) dX12_dearest_107 rfl (fun h_107 => ?_) (fun h_107 => ?_)
      · refine x_iload_n (pc := 114) dX12_dearest_114 rfl ?_
        refine x_ireturn (pc := 115) dX12_dearest_115 rfl rfl ?_
        refine ⟨_, ?_, rfl, back_9 hp hs⟩
        unfold deV
        rw [if_pos hz]
        first
          | rw [if_pos (by first | exact h_107 | exact Decidable.not_not.mp h_107)]
          | rw [if_neg (by exact h_107)]
        rfl
      · refine x_iload_n (pc := 110) dX12_dearest_110 rfl ?_
        refine x_goto (pc := 111) (tgt := 115) dX12_dearest_111 rfl ?_
        refine x_ireturn (pc := 115) dX12_dearest_115 rfl rfl ?_
        refine ⟨_, ?_, rfl, back_9 hp hs⟩
        unfold deV
        rw [if_pos hz]
        first
          | rw [if_pos (by first | exact h_107 | exact Decidable.not_not.mp h_107)]
          | rw [if_neg (by exact h_107)]
        rfl
    | succ m ih =>
      intro g s z5 hg4 hs
      have F46 : ∀ s2, ds (it f_kd 7 s0) s2 → ∀ d, d < 7 → s2.2.2 46 d = nI (D 6 d) := fun s2 h2 d hd => by rw [h2.2 46 (by omega) (by omega), k46 d hd]
      have Li : ∀ (m2 d : Nat) (s2 : MS), d + m2 = 7 → ds (it f_kd 7 s0) s2 → (∀ e, e < d → s2.2.2 9 e = nI (rmG (D 6 e) g)) → WA Γ zX12_dearest (xrm 52 0 0) 0 0 0 0 (fun v μ2 => ∃ s : MS, v = some (.int (deV D n z)) ∧ μ2 = MV μ a s ∧ pq9 σ s) 37 [some (.ref a.1), some (.int z), some (.int (amI (deF D n) g).1), some (.int (amI (deF D n) g).2), some (.int (nI g)), some (.int (nI d))] [] (MV μ a s2) := by
        intro m2
        induction m2 with
        | zero =>
          intro d s2 hd h2 h9
          obtain rfl : d = 7 := by omega
          have hR2 : RD s2 (dlD D g) n := RD_days kR h2 (fun d hd => ⟨(rm_a (D 6 d) (h.1.2.2.2.2 d hd) g (by omega)).2, h9 d hd⟩)
          have hG2 : RG s2 (dlD D g) n := RG_days kG h2
          have e35 : s2.1 35 = -1 := (h2.1 35 (by omega)).trans k35
          refine x_iload (pc := 37) dX12_dearest_37 rfl ?_
          refine x_bipush (pc := 39) (v := 7) dX12_dearest_39 rfl ?_
          refine x_icmp_ge (pc := 41) (tgt := 71) dX12_dearest_41 rfl (fun h_41 => ?_) (fun h_41 => absurd (by decide) h_41)
          refine x_aload_n (pc := 71) dX12_dearest_71 rfl ?_
          refine x_callV (pc := 72) (As := []) dX12_dearest_72 mX12_weeks lk_12_341 hM.1 (c_weeks (aw := 9) hM hR2 hG2 e35) rfl rfl (Nat.le_of_ble_eq_true rfl) ⟨by decide, by decide⟩ ⟨Nat.zero_le _, Nat.zero_le _⟩ (fun v μ2 hq => ?_)
          obtain ⟨s4, rfl, rfl, hs4, c43, -, -⟩ := hq
          refine x_iload_n (pc := 75) dX12_dearest_75 rfl ?_
          refine x_iconst (pc := 76) (v := -1) dX12_dearest_76 rfl ?_
          refine x_icmp_eq (pc := 77) (tgt := 88) dX12_dearest_77 rfl (fun h_77 => ?_) (fun h_77 => ?_)
          · refine x_iload (pc := 88) dX12_dearest_88 rfl ?_
            refine x_istore_n (pc := 90) (lv2 := [_, _, _, _, _, _]) dX12_dearest_90 (by decide) rfl rfl ?_
            refine x_aload_n (pc := 91) dX12_dearest_91 rfl ?_
            refine m_getI (pc := 92) hM dX12_dearest_92 fk_12_330 (Or.inl rfl) ?_
            refine x_istore_n (pc := 95) (lv2 := [_, _, _, _, _, _]) dX12_dearest_95 (by decide) rfl rfl ?_
            refine x_iinc (pc := 96) (lv2 := [_, _, _, _, _, _]) dX12_dearest_96 (by decide) rfl rfl (nI_1 _) rfl ?_
            refine x_goto (pc := 99) (tgt := 28) dX12_dearest_99 rfl ?_
            have hl := ih (g + 1) s4 (some (.int (nI 7))) (by omega) (h2.sq hs4)
            have hc := deF_lt (g := g) h.1 hg.1 (by omega)
            have c43' : s4.1 43 = nI (deF D n g) := c43
            rcases g with _ | g
            · first
                | exact absurd rfl h_77
                | exact absurd (show (amI (deF D n) 0).1 = -1 from rfl) h_77
                | (rw [c43']; exact hl)
            · have hb := am_lt2 (f := deF D n) (B := 400000) g (fun k hk => deF_lt h.1 hg.1 (by omega))
              have eA : amI (deF D n) (g + 1 + 1) = if deF D n (g + 1) < (am (deF D n) g).2 then (nI (g + 1), nI (deF D n (g + 1))) else amI (deF D n) (g + 1) := by
                show (nI (am (deF D n) (g + 1)).1, nI (am (deF D n) (g + 1)).2) = _
                rw [am]
                split <;> rfl
              rw [eA] at hl
              first
                | (rw [if_pos (by
                    first
                      | exact absurd (show nI (am (deF D n) g).1 = -1 by exact h_77) (nI_m1 (by have := hb.2; omega))
                      | (have q := Int32.not_le.mp h_85
                         rw [c43'] at q
                         exact (nI_ltI (by omega) (by have := hb.1; omega)).mp q))] at hl
                   rw [c43']
                   exact hl)
                | (rw [if_neg (by
                    have q := h_85
                    rw [c43'] at q
                    have := (nI_leI (by have := hb.1; omega) (by omega)).mp q
                    omega)] at hl
                   exact hl)
          · refine x_aload_n (pc := 80) dX12_dearest_80 rfl ?_
            refine m_getI (pc := 81) hM dX12_dearest_81 fk_12_330 (Or.inl rfl) ?_
            refine x_iload_n (pc := 84) dX12_dearest_84 rfl ?_
            refine x_icmp_ge (pc := 85) (tgt := 96) dX12_dearest_85 rfl (fun h_85 => ?_) (fun h_85 => ?_)
            · refine x_iinc (pc := 96) (lv2 := [_, _, _, _, _, _]) dX12_dearest_96 (by decide) rfl rfl (nI_1 _) rfl ?_
              refine x_goto (pc := 99) (tgt := 28) dX12_dearest_99 rfl ?_
              have hl := ih (g + 1) s4 (some (.int (nI 7))) (by omega) (h2.sq hs4)
              have hc := deF_lt (g := g) h.1 hg.1 (by omega)
              have c43' : s4.1 43 = nI (deF D n g) := c43
              rcases g with _ | g
              · first
                  | exact absurd rfl h_77
                  | exact absurd (show (amI (deF D n) 0).1 = -1 from rfl) h_77
                  | (rw [c43']; exact hl)
              · have hb := am_lt2 (f := deF D n) (B := 400000) g (fun k hk => deF_lt h.1 hg.1 (by omega))
                have eA : amI (deF D n) (g + 1 + 1) = if deF D n (g + 1) < (am (deF D n) g).2 then (nI (g + 1), nI (deF D n (g + 1))) else amI (deF D n) (g + 1) := by
                  show (nI (am (deF D n) (g + 1)).1, nI (am (deF D n) (g + 1)).2) = _
                  rw [am]
                  split <;> rfl
                rw [eA] at hl
                first
                  | (rw [if_pos (by
                      first
                        | exact absurd (show nI (am (deF D n) g).1 = -1 by exact h_77) (nI_m1 (by have := hb.2; omega))
                        | (have q := Int32.not_le.mp h_85
                           rw [c43'] at q
                           exact (nI_ltI (by omega) (by have := hb.1; omega)).mp q))] at hl
                     rw [c43']
                     exact hl)
                  | (rw [if_neg (by
                      have q := h_85
                      rw [c43'] at q
                      have := (nI_leI (by have := hb.1; omega) (by omega)).mp q
                      omega)] at hl
                     exact hl)
            · refine x_iload (pc := 88) dX12_dearest_88 rfl ?_
              refine x_istore_n (pc := 90) (lv2 := [_, _, _, _, _, _]) dX12_dearest_90 (by decide) rfl rfl ?_
              refine x_aload_n (pc := 91) dX12_dearest_91 rfl ?_
              refine m_getI (pc := 92) hM dX12_dearest_92 fk_12_330 (Or.inl rfl) ?_
              refine x_istore_n (pc := 95) (lv2 := [_, _, _, _, _, _]) dX12_dearest_95 (by decide) rfl rfl ?_
              refine x_iinc (pc := 96) (lv2 := [_, _, _, _, _, _]) dX12_dearest_96 (by decide) rfl rfl (nI_1 _) rfl ?_
              refine x_goto (pc := 99) (tgt := 28) dX12_dearest_99 rfl ?_
              have hl := ih (g + 1) s4 (some (.int (nI 7))) (by omega) (h2.sq hs4)
              have hc := deF_lt (g := g) h.1 hg.1 (by omega)
              have c43' : s4.1 43 = nI (deF D n g) := c43
              rcases g with _ | g
              · first
                  | exact absurd rfl h_77
                  | exact absurd (show (amI (deF D n) 0).1 = -1 from rfl) h_77
                  | (rw [c43']; exact hl)
              · have hb := am_lt2 (f := deF D n) (B := 400000) g (fun k hk => deF_lt h.1 hg.1 (by omega))
                have eA : amI (deF D n) (g + 1 + 1) = if deF D n (g + 1) < (am (deF D n) g).2 then (nI (g + 1), nI (deF D n (g + 1))) else amI (deF D n) (g + 1) := by
                  show (nI (am (deF D n) (g + 1)).1, nI (am (deF D n) (g + 1)).2) = _
                  rw [am]
                  split <;> rfl
                rw [eA] at hl
                first
                  | (rw [if_pos (by
                      first
                        | exact absurd (show nI (am (deF D n) g).1 = -1 by exact h_77) (nI_m1 (by have := hb.2; omega))
                        | (have q := Int32.not_le.mp h_85
                           rw [c43'] at q
                           exact (nI_ltI (by omega) (by have := hb.1; omega)).mp q))] at hl
                     rw [c43']
                     exact hl)
                  | (rw [if_neg (by
                      have q := h_85
                      rw [c43'] at q
                      have := (nI_leI (by have := hb.1; omega) (by omega)).mp q
                      omega)] at hl
                     exact hl)
        | succ m2 ih2 =>
          intro d s2 hd h2 h9
          have e46 := F46 s2 h2 d (by omega)
          have er := (rm_a (D 6 d) (h.1.2.2.2.2 d (by omega)) g (by omega)).1
          refine x_iload (pc := 37) dX12_dearest_37 rfl ?_
          refine x_bipush (pc := 39) (v := 7) dX12_dearest_39 rfl ?_
          refine x_icmp_ge (pc := 41) (tgt := 71) dX12_dearest_41 rfl (fun h_41 => absurd h_41 (lit_le (n := 7) d (by omega) (by omega))) (fun h_41 => ?_)
          refine x_aload_n (pc := 44) dX12_dearest_44 rfl ?_
          refine m_getR (pc := 45) hM dX12_dearest_45 fk_12_29 (Or.inr ⟨_, rfl⟩) (Or.inl (by decide)) ?_
          refine x_iload (pc := 48) dX12_dearest_48 rfl ?_
          refine x_aload_n (pc := 50) dX12_dearest_50 rfl ?_
          refine m_getR (pc := 51) hM dX12_dearest_51 fk_12_71 (Or.inr ⟨_, rfl⟩) (Or.inl (by decide)) ?_
          refine x_iload (pc := 54) dX12_dearest_54 rfl ?_
          refine m_iald (pc := 56) hM dX12_dearest_56 (rfl) (by show d < 7; omega) ?_
          refine x_iconst (pc := 57) (v := 1) dX12_dearest_57 rfl ?_
          refine x_iload (pc := 58) dX12_dearest_58 rfl ?_
          refine x_ishl (pc := 60) dX12_dearest_60 ?_
          refine x_iconst (pc := 61) (v := -1) dX12_dearest_61 rfl ?_
          refine x_ixor (pc := 62) dX12_dearest_62 ?_
          refine x_iand (pc := 63) dX12_dearest_63 ?_
          rw [e46, er]
          refine m_iast (pc := 64) hM dX12_dearest_64 (rfl) (by show d < 7; omega) ?_
          refine x_iinc (pc := 65) (lv2 := [_, _, _, _, _, _]) dX12_dearest_65 (by decide) rfl rfl (nI_1 _) rfl ?_
          refine x_goto (pc := 68) (tgt := 37) dX12_dearest_68 rfl ?_
          refine ih2 (d + 1) _ (by omega) h2.tA (fun e he => ?_)
          show up2 s2.2.2 9 d _ 9 e = _
          rcases Nat.lt_or_ge e d with q | q
          · rw [up2_n (Or.inr (by omega)), h9 e q]
          · obtain rfl : e = d := by omega
            rw [up2_s]
      refine x_iload (pc := 28) dX12_dearest_28 rfl ?_
      refine x_iconst (pc := 30) (v := 4) dX12_dearest_30 rfl ?_
      refine x_icmp_ge (pc := 31) (tgt := 102) dX12_dearest_31 rfl (fun h_31 => absurd h_31 (lit_le (n := 4) g (by omega) (by omega))) (fun h_31 => ?_)
      refine x_iconst (pc := 34) (v := 0) dX12_dearest_34 rfl ?_
      refine x_istore (pc := 35) (lv2 := [_, _, _, _, _, _]) dX12_dearest_35 (by decide) rfl rfl ?_
      exact Li 7 0 s (by omega) hs (fun e he => absurd he (by omega))
  refine x_iload_n (pc := 0) dX12_dearest_0 rfl ?_
  refine x_i2l (pc := 1) dX12_dearest_1 ?_
  refine x_lconst (pc := 2) (v := 0) dX12_dearest_2 rfl ?_
  refine x_lconst (pc := 3) (v := 1) dX12_dearest_3 rfl ?_
  refine x_callS (pc := 4) (As := [.long _, .long _, .long _]) dX12_dearest_4 mX12_in lk_12_109 (c_inI 0 1) rfl rfl (Nat.le_of_ble_eq_true rfl) ⟨by decide, by decide⟩ ⟨Nat.zero_le _, Nat.zero_le _⟩ (k_rt ?_)
  refine x_if_ne (pc := 7) (tgt := 13) dX12_dearest_7 rfl (fun h_7 => ?_) (fun h_7 => ?_)
  · refine x_aload_n (pc := 13) dX12_dearest_13 rfl ?_
    refine x_callV (pc := 14) (As := []) dX12_dearest_14 mX12_gathers lk_12_311 hM.1 (c_gatherD hM hR) rfl rfl (Nat.le_of_ble_eq_true rfl) ⟨by decide, by decide⟩ ⟨Nat.zero_le _, Nat.zero_le _⟩ (fun v μ2 hq => ?_)
    obtain ⟨s0, rfl, rfl, hgk, h1, h2, h3⟩ := hq
    refine x_aload_n (pc := 17) dX12_dearest_17 rfl ?_
    refine x_callV (pc := 18) (As := []) dX12_dearest_18 mX12_keepsDays lk_12_344 hM.1 (c_keepsDays hM) rfl rfl (Nat.le_of_ble_eq_true rfl) ⟨by decide, by decide⟩ ⟨Nat.zero_le _, Nat.zero_le _⟩ (k_rv ?_)
    refine x_iconst (pc := 21) (v := -1) dX12_dearest_21 rfl ?_
    refine x_istore_n (pc := 22) (lv2 := [_, _, _, _, _, _]) dX12_dearest_22 (by decide) rfl rfl ?_
    refine x_iconst (pc := 23) (v := 0) dX12_dearest_23 rfl ?_
    refine x_istore_n (pc := 24) (lv2 := [_, _, _, _, _, _]) dX12_dearest_24 (by decide) rfl rfl ?_
    refine x_iconst (pc := 25) (v := 0) dX12_dearest_25 rfl ?_
    refine x_istore (pc := 26) (lv2 := [_, _, _, _, _, _]) dX12_dearest_26 (by decide) rfl rfl ?_
    exact Lo s0 (pq.gk hgk) h1 h2 h3 (bi_n0 h_7) 4 0 _ _ (by omega) ds.rf
  · refine x_bipush (pc := 10) (v := -2) dX12_dearest_10 rfl ?_
    refine x_ireturn (pc := 12) dX12_dearest_12 rfl rfl ?_
    exact ⟨σ, by unfold deV; rw [if_neg (bi_0.mp h_7)], rfl, pq.rf.q9⟩
def dwN (z : Int32) : Nat := z.toBitVec.toNat / 512 % 16
theorem dw_a (z : Int32) : dw z = nI (dwN z) ∧ dwN z < 16 := by
  refine ⟨?_, Nat.mod_lt _ (by omega)⟩
  have hb : z.toBitVec.toNat < 2 ^ 32 := z.toBitVec.isLt
  have hz : z = nI z.toBitVec.toNat := Int32.toBitVec_inj.mp (by
    show z.toBitVec = BitVec.ofNat 32 z.toBitVec.toNat
    simp)
  unfold dw dwN
  generalize z.toBitVec.toNat = m at hb hz
  subst hz
  rw [pk_ushrN hb 9 9 (by decide)]
  exact pk_rem (d := 16) (by omega) (by omega) (by omega)
def drD (D : PD) (sd : Int32) : PD := upF D 6 (fun d => dwN (zz sd (d + 1)))
theorem dr_i {σ : MS} {sd : Int32} : ∀ k, but 9 σ (it (f_dr sd) k σ) ∧ ∀ j, j < k → (it (f_dr sd) k σ).2.2 9 j = dw (zz sd (j + 1))
  | 0 => ⟨but.rf, fun j h => absurd h (by omega)⟩
  | k + 1 => by
    obtain ⟨h1, h2⟩ := dr_i (σ := σ) (sd := sd) k
    refine ⟨h1.tA, fun j hj => ?_⟩
    show up2 _ 9 _ _ 9 _ = _
    rcases Nat.lt_or_ge j k with q | q
    · rw [up2_n (Or.inr (by omega)), h2 j q]
    · obtain rfl : j = k := by omega
      rw [up2_s]
theorem dr_st {σ s : MS} {D : PD} {n : Nat} {sd : Int32} (hR : RD σ D n) (hg : RG σ D n) (h35 : σ.1 35 = -1) (q : ds σ s) : RD (it (f_dr sd) 7 s) (drD D sd) n ∧ RG (it (f_dr sd) 7 s) (drD D sd) n ∧ (it (f_dr sd) 7 s).1 35 = -1 ∧ ds σ (it (f_dr sd) 7 s) := by
  obtain ⟨d1, d2⟩ := dr_i (σ := s) (sd := sd) 7
  have q2 := q.bt d1
  refine ⟨RD_days hR q2 (fun d hd => ⟨(dw_a _).2, by rw [d2 d hd, (dw_a _).1]⟩), RG_days hg q2, (q2.1 35 (by omega)).trans h35, q2⟩
theorem c_drawn (hM : MOK μ a) {D : PD} {n r m : Nat} (z : Int32) (hR : RR σ D n r m) : XM Γ zX12_drawn 52 0 0 [.ref a.1, .int z] (MV μ a σ) (fun v μ2 => ∃ s : MS, v = some (.int (nI (wkD (drD D z) n 9 7).2.1)) ∧ μ2 = MV μ a s ∧ pq9 σ s) := by
  refine XM.of 0 rfl (by decide) (Nat.le_of_ble_eq_true rfl) ?_
  refine x_aload_n (pc := 0) dX12_drawn_0 rfl ?_
  refine x_callV (pc := 1) (As := []) dX12_drawn_1 mX12_gathers lk_12_311 hM.1 (c_gatherD hM hR) rfl rfl (Nat.le_of_ble_eq_true rfl) ⟨by decide, by decide⟩ ⟨Nat.zero_le _, Nat.zero_le _⟩ (fun v μ2 hq => ?_)
  obtain ⟨s0, rfl, rfl, hgk, h1, h2, h3⟩ := hq
  obtain ⟨kR, kG, k35, k46⟩ := kd_RD h1 h2
  rw [h3] at k35
  obtain ⟨d1, d2, d3, d4⟩ := dr_st (sd := z) kR kG k35 ds.rf
  refine x_aload_n (pc := 4) dX12_drawn_4 rfl ?_
  refine x_callV (pc := 5) (As := []) dX12_drawn_5 mX12_keepsDays lk_12_344 hM.1 (c_keepsDays hM) rfl rfl (Nat.le_of_ble_eq_true rfl) ⟨by decide, by decide⟩ ⟨Nat.zero_le _, Nat.zero_le _⟩ (k_rv ?_)
  refine x_aload_n (pc := 8) dX12_drawn_8 rfl ?_
  refine x_iload_n (pc := 9) dX12_drawn_9 rfl ?_
  refine x_callV (pc := 10) (As := [.int _]) dX12_drawn_10 mX12_draws lk_12_365 hM.1 (c_draws hM _) rfl rfl (Nat.le_of_ble_eq_true rfl) ⟨by decide, by decide⟩ ⟨Nat.zero_le _, Nat.zero_le _⟩ (k_rv ?_)
  refine x_aload_n (pc := 13) dX12_drawn_13 rfl ?_
  refine x_callV (pc := 14) (As := []) dX12_drawn_14 mX12_weeks lk_12_341 hM.1 (c_weeks (aw := 9) hM d1 d2 d3) rfl rfl (Nat.le_of_ble_eq_true rfl) ⟨by decide, by decide⟩ ⟨Nat.zero_le _, Nat.zero_le _⟩ (fun v μ2 hq => ?_)
  obtain ⟨s4, rfl, rfl, hs4, c43, -, -⟩ := hq
  refine x_aload_n (pc := 17) dX12_drawn_17 rfl ?_
  refine x_callV (pc := 18) (As := []) dX12_drawn_18 mX12_daysBack lk_12_347 hM.1 (c_daysBack hM) rfl rfl (Nat.le_of_ble_eq_true rfl) ⟨by decide, by decide⟩ ⟨Nat.zero_le _, Nat.zero_le _⟩ (k_rv ?_)
  refine x_aload_n (pc := 21) dX12_drawn_21 rfl ?_
  refine m_getI (pc := 22) hM dX12_drawn_22 fk_12_330 (Or.inl rfl) ?_
  refine x_ireturn (pc := 25) dX12_drawn_25 rfl rfl ?_
  refine ⟨_, ?_, rfl, back_9 (pq.gk hgk) (d4.sq hs4)⟩
  rw [(db_i 7).1.1, c43]
end M56
