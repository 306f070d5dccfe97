/-! the reference: what the rule says of all things; putting one -/
theorem XM_post {Γ : Gm} {M : Mt} {d mc ms : Nat} {As : List Value} {μ : Mem} {Q Q2 : Option Value → Mem → Prop} (h : XM Γ M d mc ms As μ Q) (hq : ∀ r μ2, Q r μ2 → Q2 r μ2) : XM Γ M d mc ms As μ Q2 := by
  intro p e ha hc hk s m args below hf happ hP hK
  obtain ⟨t, o, h1, h2, h3, ⟨⟨⟨r, μ2, e1, e2, e3⟩, e4⟩, e5⟩⟩ := h p e ha hc hk s m args below hf happ hP hK
  exact ⟨t, o, h1, h2, h3, ⟨⟨r, μ2, e1, hq r μ2 e2, e3⟩, e4⟩, e5⟩
section M45
variable {Γ : Gm} {μ : Mem} {a : Ma} {σ : MS}
/-- v is what the rule (text r of n bytes) says in its part x of thing i, at a place, by so many guests -/
def SV (σ : MS) (r n : Nat) (x : Int32) (i : Nat) (pl gs v : Int32) : Prop := ∃ (s : MS) (tk ta ft : Nat), s.2.2 1 = σ.2.2 1 ∧ v = wit (rdV (sB (sE s (nI i) pl (σ.2.2 12 i) gs (σ.2.2 13 i) (σ.2.2 11 i)) (160 * r) (nI n)) (160 * r) n (0, tk, ta, s.2.1, 0, 0, ft) x) 0 99
/-- the rule as it is: its text, its size, its bytes -/
def rlO (σ : MS) (r n : Nat) : Prop := σ.1 4 = nI r ∧ r < 6 ∧ σ.2.2 2 r = nI n ∧ n ≤ 160 ∧ ∀ j, j < n → ∃ c, c < 256 ∧ σ.2.2 1 (160 * r + j) = nI c
/-- s is σ but for the reader's numbers and three arrays -/
def gk (σ s : MS) : Prop := (∀ k, k < 16 ∨ 30 < k → s.1 k = σ.1 k) ∧ ∀ k, k ≠ 31 → k ≠ 32 → k ≠ 33 → s.2.2 k = σ.2.2 k
theorem gk.rf {σ : MS} : gk σ σ := ⟨fun _ _ => rfl, fun _ _ _ _ => rfl⟩
theorem gk.tA {σ s : MS} {k0 i : Nat} {v : Int32} (h : gk σ s) (hk : k0 = 31 ∨ k0 = 32 ∨ k0 = 33) : gk σ (tA s k0 i v) := ⟨h.1, fun k h1 h2 h3 => (tA_n (by rcases hk with rfl | rfl | rfl <;> assumption)).trans (h.2 k h1 h2 h3)⟩
theorem gk.rl {σ s : MS} {r n : Nat} (h : gk σ s) (hr : rlO σ r n) : rlO s r n := by
  refine ⟨(h.1 4 (by omega)).trans hr.1, hr.2.1, ?_, hr.2.2.2.1, fun j hj => ?_⟩
  · rw [h.2 2 (by decide) (by decide) (by decide)]; exact hr.2.2.1
  · rw [h.2 1 (by decide) (by decide) (by decide)]; exact hr.2.2.2.2 j hj
theorem va_up_o {f : Nat → Int32} {k j : Nat} {v : Int32} (h : j ≠ k) : va_up f k v j = f j := va_up_n h
theorem gk_Pσ {σ s : MS} {p : PT} {t pl gv gs lk nu n : Int32} {f : Nat} (h : gk σ s) : gk σ (Pσ (sB (sE s t pl gv gs lk nu) f n) p) := by
  refine ⟨fun k hk => ?_, h.2⟩
  rw [← h.1 k hk]
  show (if k = 24 then _ else if k = 25 then _ else if k = 26 then _ else if k = 28 then _ else if k = 29 then _ else if k = 30 then _ else _) = _
  rw [if_neg (by omega), if_neg (by omega), if_neg (by omega), if_neg (by omega), if_neg (by omega), if_neg (by omega)]
  show va_up (va_up (va_up (va_up (va_up (va_up (va_up (va_up s.1 16 _) 17 _) 18 _) 19 _) 20 _) 21 _) 22 _) 23 _ k = s.1 k
  rw [va_up_o (by omega), va_up_o (by omega), va_up_o (by omega), va_up_o (by omega), va_up_o (by omega), va_up_o (by omega), va_up_o (by omega), va_up_o (by omega)]
theorem Pσ_arr {s : MS} {p : PT} {t pl gv gs lk nu n : Int32} {f : Nat} : (Pσ (sB (sE s t pl gv gs lk nu) f n) p).2.2 = s.2.2 := rfl
theorem says_fin {s : MS} {r n i tk ta ft : Nat} {x pl gs : Int32} (hg : gk σ s) : ∃ (y : Int32) (s2 : MS), some (Value.int (wit (rdV (sB (sE s (nI i) pl (σ.2.2 12 i) gs (σ.2.2 13 i) (σ.2.2 11 i)) (160 * r) (nI n)) (160 * r) n (0, tk, ta, s.2.1, 0, 0, ft) x) 0 99)) = some (.int y) ∧ MV μ a (Pσ (sB (sE s (nI i) pl (σ.2.2 12 i) gs (σ.2.2 13 i) (σ.2.2 11 i)) (160 * r) (nI n)) (rdE (sB (sE s (nI i) pl (σ.2.2 12 i) gs (σ.2.2 13 i) (σ.2.2 11 i)) (160 * r) (nI n)) (160 * r) n (0, tk, ta, s.2.1, 0, 0, ft))) = MV μ a s2 ∧ SV σ r n x i pl gs y ∧ gk σ s2 ∧ s2.2.2 = s.2.2 := by
  generalize hp : rdE (sB (sE s (nI i) pl (σ.2.2 12 i) gs (σ.2.2 13 i) (σ.2.2 11 i)) (160 * r) (nI n)) (160 * r) n (0, tk, ta, s.2.1, 0, 0, ft) = pe
  clear hp
  refine ⟨wit (rdV (sB (sE s (nI i) pl (σ.2.2 12 i) gs (σ.2.2 13 i) (σ.2.2 11 i)) (160 * r) (nI n)) (160 * r) n (0, tk, ta, s.2.1, 0, 0, ft) x) 0 99, Pσ (sB (sE s (nI i) pl (σ.2.2 12 i) gs (σ.2.2 13 i) (σ.2.2 11 i)) (160 * r) (nI n)) pe, Eq.refl _, Eq.refl _, ?_, gk_Pσ hg, Pσ_arr⟩
  exact ⟨s, tk, ta, ft, hg.2 1 (by decide) (by decide) (by decide), Eq.refl _⟩
/-- says, as all that use it need it -/
theorem c_says2 {i r n : Nat} (x pl gs : Int32) {s : MS} (hM : MOK μ a) (hi : i < 5) (hr : rlO σ r n) (hg : gk σ s) : XM Γ zX12_says 49 0 0 [.ref a.1, .int x, .int (nI i), .int pl, .int gs] (MV μ a s) (fun v μ2 => ∃ (y : Int32) (s2 : MS), v = some (.int y) ∧ μ2 = MV μ a s2 ∧ SV σ r n x i pl gs y ∧ gk σ s2 ∧ s2.2.2 = s.2.2) := by
  have hr2 := hg.rl hr
  have h := c_says (Γ := Γ) (σ := s) x pl gs hM hi hr2.1 hr2.2.1 hr2.2.2.1 hr2.2.2.2.1 hr2.2.2.2.2
  have e12 := hg.2 12 (by decide) (by decide) (by decide)
  have e13 := hg.2 13 (by decide) (by decide) (by decide)
  have e11 := hg.2 11 (by decide) (by decide) (by decide)
  rw [e12, e13, e11] at h
  refine XM_post h (fun v μ2 q => ?_)
  obtain ⟨tk, ta, ft, e1, e2⟩ := q
  rw [e1, e2]
  exact says_fin hg
/-- what gathers leaves, for the things up to n -/
def spl (k : Nat) : Int32 := if k = 0 then 6 else nI k - 1
def gaM (σ : MS) (r m i : Nat) (s : MS) (k : Nat) : Prop := SV σ r m 0 i (spl k) 0 (s.2.2 32 (7 * i + k)) ∧ (if k = 0 then s.2.2 31 (7 * i + k) = 0 else SV σ r m 1 i (nI k - 1) 0 (s.2.2 31 (7 * i + k)))
def gaN (σ : MS) (r m i : Nat) (s : MS) (k : Nat) : Prop := SV σ r m 2 i 0 (nI k) (s.2.2 33 (5 * i + k))
def GA (σ : MS) (r m n : Nat) (s : MS) : Prop := gk σ s ∧ ∀ i, i < n → (∀ k, k < 7 → gaM σ r m i s k) ∧ ∀ k, k < 5 → gaN σ r m i s k
theorem c_gathers (hM : MOK μ a) {n r m : Nat} (h15 : σ.1 15 = nI n) (hn : n ≤ 5) (hr : rlO σ r m) : XM Γ zX12_gathers 50 0 0 [.ref a.1] (MV μ a σ) (fun v μ2 => ∃ s : MS, v = none ∧ μ2 = MV μ a s ∧ GA σ r m n s) := by
  refine XM.of 2 rfl (by decide) (Nat.le_of_ble_eq_true rfl) ?_
  have Lo : ∀ (d i : Nat) (s : MS) (z : Option Value), i + d = n → GA σ r m i s → WA Γ zX12_gathers (xrm 50 0 0) 0 0 0 0 (fun v μ2 => ∃ s : MS, v = none ∧ μ2 = MV μ a s ∧ GA σ r m n s) 2 [some (.ref a.1), some (.int (nI i)), z] [] (MV μ a s) := by
    intro d
    induction d with
    | zero =>
      intro i s z hi hG
      obtain rfl : i = n := by omega
      refine x_iload_n (pc := 2) dX12_gathers_2 rfl ?_
      refine x_aload_n (pc := 3) dX12_gathers_3 rfl ?_
      refine m_getI (pc := 4) hM dX12_gathers_4 fk_12_106 (Or.inl rfl) ?_
      refine x_icmp_ge (pc := 7) (tgt := 120) dX12_gathers_7 rfl (fun h_7 => ?_) (fun h_7 => absurd (by rw [hG.1.1 15 (by omega), h15]; exact Int32.le_refl _) h_7)
      refine x_return (pc := 120) dX12_gathers_120 rfl ?_
      exact ⟨s, rfl, rfl, hG⟩
    | succ d ih =>
      intro i s0 z hi hG
      have L2 : ∀ (d2 k : Nat) (s : MS), k + d2 = 5 → gk σ s → (∀ i', i' < i → (∀ k, k < 7 → gaM σ r m i' s k) ∧ ∀ k, k < 5 → gaN σ r m i' s k) → (∀ k, k < 7 → gaM σ r m i s k) → (∀ k', k' < k → gaN σ r m i s k') → WA Γ zX12_gathers (xrm 50 0 0) 0 0 0 0 (fun v μ2 => ∃ s : MS, v = none ∧ μ2 = MV μ a s ∧ GA σ r m n s) 85 [some (.ref a.1), some (.int (nI i)), some (.int (nI k))] [] (MV μ a s) := by
        intro d2
        induction d2 with
        | zero =>
          intro k s hk hg h1 h2 h3
          obtain rfl : k = 5 := by omega
          refine x_iload_n (pc := 85) dX12_gathers_85 rfl ?_
          refine x_iconst (pc := 86) (v := 4) dX12_gathers_86 rfl ?_
          refine x_icmp_gt (pc := 87) (tgt := 114) dX12_gathers_87 rfl (fun h_87 => ?_) (fun h_87 => absurd (by decide) h_87)
          refine x_iinc (pc := 114) (lv2 := [_, _, _]) dX12_gathers_114 (by decide) rfl rfl (nI_1 _) rfl ?_
          refine x_goto (pc := 117) (tgt := 2) dX12_gathers_117 rfl ?_
          refine ih (i + 1) s _ (by omega) ⟨hg, fun i' hi' => ?_⟩
          rcases Nat.lt_or_ge i' i with q | q
          · exact h1 i' q
          · obtain rfl : i' = i := by omega
            exact ⟨h2, h3⟩
        | succ d2 ih2 =>
          intro k s hk hg h1 h2 h3
          refine x_iload_n (pc := 85) dX12_gathers_85 rfl ?_
          refine x_iconst (pc := 86) (v := 4) dX12_gathers_86 rfl ?_
          refine x_icmp_gt (pc := 87) (tgt := 114) dX12_gathers_87 rfl (fun h_87 => absurd h_87 (fun z => absurd z (Int32.not_lt.mpr (nI_le (b := 4) (by omega) (by omega))))) (fun h_87 => ?_)
          refine x_aload_n (pc := 90) dX12_gathers_90 rfl ?_
          refine m_getR (pc := 91) hM dX12_gathers_91 fk_12_53 (Or.inr ⟨_, rfl⟩) (Or.inl (by decide)) ?_
          refine x_iconst (pc := 94) (v := 5) dX12_gathers_94 rfl ?_
          refine x_iload_n (pc := 95) dX12_gathers_95 rfl ?_
          refine x_imul (pc := 96) dX12_gathers_96 ?_
          refine x_iload_n (pc := 97) dX12_gathers_97 rfl ?_
          refine x_iadd (pc := 98) dX12_gathers_98 ?_
          refine x_aload_n (pc := 99) dX12_gathers_99 rfl ?_
          refine x_iconst (pc := 100) (v := 2) dX12_gathers_100 rfl ?_
          refine x_iload_n (pc := 101) dX12_gathers_101 rfl ?_
          refine x_iconst (pc := 102) (v := 0) dX12_gathers_102 rfl ?_
          refine x_iload_n (pc := 103) dX12_gathers_103 rfl ?_
          refine x_callV (pc := 104) (As := [.int _, .int _, .int _, .int _]) dX12_gathers_104 mX12_says lk_12_134 hM.1 (c_says2 2 0 (nI k) hM (by omega) hr hg) rfl rfl (Nat.le_of_ble_eq_true rfl) ⟨by decide, by decide⟩ ⟨Nat.zero_le _, Nat.zero_le _⟩ (fun v μ2 hq => ?_)
          obtain ⟨y, s2, rfl, rfl, hy, hg2, e2⟩ := hq
          refine m_iast (pc := 107) hM dX12_gathers_107 (i5m i k) (by show 5 * i + k < 25; omega) ?_
          refine x_iinc (pc := 108) (lv2 := [_, _, _]) dX12_gathers_108 (by decide) rfl rfl (nI_1 _) rfl ?_
          refine x_goto (pc := 111) (tgt := 85) dX12_gathers_111 rfl ?_
          refine ih2 (k + 1) (tA s2 33 (5 * i + k) y) (by omega) (hg2.tA (Or.inr (Or.inr rfl))) (fun i' hi' => ⟨fun k' hk' => ?_, fun k' hk' => ?_⟩) (fun k' hk' => ?_) (fun k' hk' => ?_)
          · have := (h1 i' hi').1 k' hk'
            unfold gaM at this ⊢
            rw [tA_n (by decide), tA_n (by decide), e2]
            exact this
          · have := (h1 i' hi').2 k' hk'
            unfold gaN at this ⊢
            rw [show (tA s2 33 (5 * i + k) y).2.2 33 (5 * i' + k') = s.2.2 33 (5 * i' + k') by rw [← e2]; exact up2_n (Or.inr (by omega))]
            exact this
          · have := h2 k' hk'
            unfold gaM at this ⊢
            rw [tA_n (by decide), tA_n (by decide), e2]
            exact this
          · unfold gaN
            rcases Nat.lt_or_ge k' k with q | q
            · have := h3 k' q
              unfold gaN at this
              rw [show (tA s2 33 (5 * i + k) y).2.2 33 (5 * i + k') = s.2.2 33 (5 * i + k') by rw [← e2]; exact up2_n (Or.inr (by omega))]
              exact this
            · obtain rfl : k' = k := by omega
              rw [show (tA s2 33 (5 * i + k') y).2.2 33 (5 * i + k') = y from up2_s]
              exact hy
      have L1 : ∀ (d1 k : Nat) (s : MS), k + d1 = 7 → gk σ s → (∀ i', i' < i → (∀ k, k < 7 → gaM σ r m i' s k) ∧ ∀ k, k < 5 → gaN σ r m i' s k) → (∀ k', k' < k → gaM σ r m i s k') → WA Γ zX12_gathers (xrm 50 0 0) 0 0 0 0 (fun v μ2 => ∃ s : MS, v = none ∧ μ2 = MV μ a s ∧ GA σ r m n s) 12 [some (.ref a.1), some (.int (nI i)), some (.int (nI k))] [] (MV μ a s) := by
        intro d1
        induction d1 with
        | zero =>
          intro k s hk hg h1 h2
          obtain rfl : k = 7 := by omega
          refine x_iload_n (pc := 12) dX12_gathers_12 rfl ?_
          refine x_bipush (pc := 13) (v := 7) dX12_gathers_13 rfl ?_
          refine x_icmp_ge (pc := 15) (tgt := 83) dX12_gathers_15 rfl (fun h_15 => ?_) (fun h_15 => absurd (by decide) h_15)
          refine x_iconst (pc := 83) (v := 0) dX12_gathers_83 rfl ?_
          refine x_istore_n (pc := 84) (lv2 := [_, _, _]) dX12_gathers_84 (by decide) rfl rfl ?_
          exact L2 5 0 s (by omega) hg h1 h2 (fun k' h => absurd h (by omega))
        | succ d1 ih1 =>
          intro k s hk hg h1 h2
          have FIN : ∀ (s3 : MS) (y u : Int32), gk σ s3 → s3.2.2 = (tA s 32 (7 * i + k) y).2.2 → SV σ r m 0 i (spl k) 0 y → (if k = 0 then u = 0 else SV σ r m 1 i (nI k - 1) 0 u) → WA Γ zX12_gathers (xrm 50 0 0) 0 0 0 0 (fun v μ2 => ∃ s : MS, v = none ∧ μ2 = MV μ a s ∧ GA σ r m n s) 12 [some (.ref a.1), some (.int (nI i)), some (.int (nI (k + 1)))] [] (MV μ a (tA s3 31 (7 * i + k) u)) := by
            intro s3 y u hg3 e3 hy hu
            have f32 : ∀ q, q ≠ 7 * i + k → (tA s3 31 (7 * i + k) u).2.2 32 q = s.2.2 32 q := fun q hq => by
              rw [tA_n (by decide), e3]; exact up2_n (Or.inr hq)
            have f31 : ∀ q, q ≠ 7 * i + k → (tA s3 31 (7 * i + k) u).2.2 31 q = s.2.2 31 q := fun q hq => by
              rw [show (tA s3 31 (7 * i + k) u).2.2 31 q = s3.2.2 31 q from up2_n (Or.inr hq), e3, tA_n (by decide)]
            have f33 : (tA s3 31 (7 * i + k) u).2.2 33 = s.2.2 33 := by rw [tA_n (by decide), e3, tA_n (by decide)]
            refine ih1 (k + 1) _ (by omega) (hg3.tA (Or.inl rfl)) (fun i' hi' => ⟨fun k' hk' => ?_, fun k' hk' => ?_⟩) (fun k' hk' => ?_)
            · have := (h1 i' hi').1 k' hk'
              unfold gaM at this ⊢
              rw [f32 _ (by omega), f31 _ (by omega)]
              exact this
            · have := (h1 i' hi').2 k' hk'
              unfold gaN at this ⊢
              rw [f33]
              exact this
            · rcases Nat.lt_or_ge k' k with q | q
              · have := h2 k' q
                unfold gaM at this ⊢
                rw [f32 _ (by omega), f31 _ (by omega)]
                exact this
              · obtain rfl : k' = k := by omega
                unfold gaM
                rw [show (tA s3 31 (7 * i + k') u).2.2 32 (7 * i + k') = y by rw [tA_n (by decide), e3]; exact up2_s, show (tA s3 31 (7 * i + k') u).2.2 31 (7 * i + k') = u from up2_s]
                exact ⟨hy, hu⟩
          by_cases hk0 : k = 0
          · refine x_iload_n (pc := 12) dX12_gathers_12 rfl ?_
            refine x_bipush (pc := 13) (v := 7) dX12_gathers_13 rfl ?_
            refine x_icmp_ge (pc := 15) (tgt := 83) dX12_gathers_15 rfl (fun h_15 => absurd h_15 (lit_le (n := 7) k (by omega) (by omega))) (fun h_15 => ?_)
            refine x_aload_n (pc := 18) dX12_gathers_18 rfl ?_
            refine m_getR (pc := 19) hM dX12_gathers_19 fk_12_50 (Or.inr ⟨_, rfl⟩) (Or.inl (by decide)) ?_
            refine x_bipush (pc := 22) (v := 7) dX12_gathers_22 rfl ?_
            refine x_iload_n (pc := 24) dX12_gathers_24 rfl ?_
            refine x_imul (pc := 25) dX12_gathers_25 ?_
            refine x_iload_n (pc := 26) dX12_gathers_26 rfl ?_
            refine x_iadd (pc := 27) dX12_gathers_27 ?_
            refine x_aload_n (pc := 28) dX12_gathers_28 rfl ?_
            refine x_iconst (pc := 29) (v := 0) dX12_gathers_29 rfl ?_
            refine x_iload_n (pc := 30) dX12_gathers_30 rfl ?_
            refine x_iload_n (pc := 31) dX12_gathers_31 rfl ?_
            refine x_if_ne (pc := 32) (tgt := 40) dX12_gathers_32 rfl (fun h_32 => absurd (by rw [hk0]; rfl) h_32) (fun h_32 => ?_)
            refine x_bipush (pc := 35) (v := 6) dX12_gathers_35 rfl ?_
            refine x_goto (pc := 37) (tgt := 43) dX12_gathers_37 rfl ?_
            refine x_iconst (pc := 43) (v := 0) dX12_gathers_43 rfl ?_
            refine x_callV (pc := 44) (As := [.int _, .int _, .int _, .int _]) dX12_gathers_44 mX12_says lk_12_134 hM.1 (c_says2 0 6 0 hM (by omega) hr hg) rfl rfl (Nat.le_of_ble_eq_true rfl) ⟨by decide, by decide⟩ ⟨Nat.zero_le _, Nat.zero_le _⟩ (fun v μ2 hq => ?_)
            obtain ⟨y, s2, rfl, rfl, hy, hg2, e2⟩ := hq
            refine m_iast (pc := 47) hM dX12_gathers_47 (i7 i k) (by show 7 * i + k < 35; omega) ?_
            refine x_aload_n (pc := 48) dX12_gathers_48 rfl ?_
            refine m_getR (pc := 49) hM dX12_gathers_49 fk_12_47 (Or.inr ⟨_, rfl⟩) (Or.inl (by decide)) ?_
            refine x_bipush (pc := 52) (v := 7) dX12_gathers_52 rfl ?_
            refine x_iload_n (pc := 54) dX12_gathers_54 rfl ?_
            refine x_imul (pc := 55) dX12_gathers_55 ?_
            refine x_iload_n (pc := 56) dX12_gathers_56 rfl ?_
            refine x_iadd (pc := 57) dX12_gathers_57 ?_
            refine x_iload_n (pc := 58) dX12_gathers_58 rfl ?_
            refine x_if_ne (pc := 59) (tgt := 66) dX12_gathers_59 rfl (fun h_59 => absurd (by rw [hk0]; rfl) h_59) (fun h_59 => ?_)
            refine x_iconst (pc := 62) (v := 0) dX12_gathers_62 rfl ?_
            refine x_goto (pc := 63) (tgt := 76) dX12_gathers_63 rfl ?_
            refine m_iast (pc := 76) hM dX12_gathers_76 (i7 i k) (by show 7 * i + k < 35; omega) ?_
            refine x_iinc (pc := 77) (lv2 := [_, _, _]) dX12_gathers_77 (by decide) rfl rfl (nI_1 _) rfl ?_
            refine x_goto (pc := 80) (tgt := 12) dX12_gathers_80 rfl ?_
            exact FIN (tA s2 32 (7 * i + k) y) y 0 (hg2.tA (Or.inr (Or.inl rfl))) (by show up2 s2.2.2 32 _ y = up2 s.2.2 32 _ y; rw [e2]) (by rw [spl, if_pos hk0]; exact hy) (by rw [if_pos hk0])
          · refine x_iload_n (pc := 12) dX12_gathers_12 rfl ?_
            refine x_bipush (pc := 13) (v := 7) dX12_gathers_13 rfl ?_
            refine x_icmp_ge (pc := 15) (tgt := 83) dX12_gathers_15 rfl (fun h_15 => absurd h_15 (lit_le (n := 7) k (by omega) (by omega))) (fun h_15 => ?_)
            refine x_aload_n (pc := 18) dX12_gathers_18 rfl ?_
            refine m_getR (pc := 19) hM dX12_gathers_19 fk_12_50 (Or.inr ⟨_, rfl⟩) (Or.inl (by decide)) ?_
            refine x_bipush (pc := 22) (v := 7) dX12_gathers_22 rfl ?_
            refine x_iload_n (pc := 24) dX12_gathers_24 rfl ?_
            refine x_imul (pc := 25) dX12_gathers_25 ?_
            refine x_iload_n (pc := 26) dX12_gathers_26 rfl ?_
            refine x_iadd (pc := 27) dX12_gathers_27 ?_
            refine x_aload_n (pc := 28) dX12_gathers_28 rfl ?_
            refine x_iconst (pc := 29) (v := 0) dX12_gathers_29 rfl ?_
            refine x_iload_n (pc := 30) dX12_gathers_30 rfl ?_
            refine x_iload_n (pc := 31) dX12_gathers_31 rfl ?_
            refine x_if_ne (pc := 32) (tgt := 40) dX12_gathers_32 rfl (fun h_32 => ?_) (fun h_32 => absurd h_32 (nI_ne0 (by omega) (by omega)))
            refine x_iload_n (pc := 40) dX12_gathers_40 rfl ?_
            refine x_iconst (pc := 41) (v := 1) dX12_gathers_41 rfl ?_
            refine x_isub (pc := 42) dX12_gathers_42 ?_
            refine x_iconst (pc := 43) (v := 0) dX12_gathers_43 rfl ?_
            refine x_callV (pc := 44) (As := [.int _, .int _, .int _, .int _]) dX12_gathers_44 mX12_says lk_12_134 hM.1 (c_says2 0 (nI k - 1) 0 hM (by omega) hr hg) rfl rfl (Nat.le_of_ble_eq_true rfl) ⟨by decide, by decide⟩ ⟨Nat.zero_le _, Nat.zero_le _⟩ (fun v μ2 hq => ?_)
            obtain ⟨y, s2, rfl, rfl, hy, hg2, e2⟩ := hq
            refine m_iast (pc := 47) hM dX12_gathers_47 (i7 i k) (by show 7 * i + k < 35; omega) ?_
            refine x_aload_n (pc := 48) dX12_gathers_48 rfl ?_
            refine m_getR (pc := 49) hM dX12_gathers_49 fk_12_47 (Or.inr ⟨_, rfl⟩) (Or.inl (by decide)) ?_
            refine x_bipush (pc := 52) (v := 7) dX12_gathers_52 rfl ?_
            refine x_iload_n (pc := 54) dX12_gathers_54 rfl ?_
            refine x_imul (pc := 55) dX12_gathers_55 ?_
            refine x_iload_n (pc := 56) dX12_gathers_56 rfl ?_
            refine x_iadd (pc := 57) dX12_gathers_57 ?_
            refine x_iload_n (pc := 58) dX12_gathers_58 rfl ?_
            refine x_if_ne (pc := 59) (tgt := 66) dX12_gathers_59 rfl (fun h_59 => ?_) (fun h_59 => absurd h_59 (nI_ne0 (by omega) (by omega)))
            refine x_aload_n (pc := 66) dX12_gathers_66 rfl ?_
            refine x_iconst (pc := 67) (v := 1) dX12_gathers_67 rfl ?_
            refine x_iload_n (pc := 68) dX12_gathers_68 rfl ?_
            refine x_iload_n (pc := 69) dX12_gathers_69 rfl ?_
            refine x_iconst (pc := 70) (v := 1) dX12_gathers_70 rfl ?_
            refine x_isub (pc := 71) dX12_gathers_71 ?_
            refine x_iconst (pc := 72) (v := 0) dX12_gathers_72 rfl ?_
            refine x_callV (pc := 73) (As := [.int _, .int _, .int _, .int _]) dX12_gathers_73 mX12_says lk_12_134 hM.1 (c_says2 1 (nI k - 1) 0 hM (by omega) hr (hg2.tA (Or.inr (Or.inl rfl)))) rfl rfl (Nat.le_of_ble_eq_true rfl) ⟨by decide, by decide⟩ ⟨Nat.zero_le _, Nat.zero_le _⟩ (fun v μ2 hq => ?_)
            obtain ⟨u, s3, rfl, rfl, hu, hg3, e3⟩ := hq
            refine m_iast (pc := 76) hM dX12_gathers_76 (i7 i k) (by show 7 * i + k < 35; omega) ?_
            refine x_iinc (pc := 77) (lv2 := [_, _, _]) dX12_gathers_77 (by decide) rfl rfl (nI_1 _) rfl ?_
            refine x_goto (pc := 80) (tgt := 12) dX12_gathers_80 rfl ?_
            exact FIN s3 y u hg3 (by rw [e3]; show up2 s2.2.2 32 _ y = up2 s.2.2 32 _ y; rw [e2]) (by rw [spl, if_neg hk0]; exact hy) (by rw [if_neg hk0]; exact hu)
      refine x_iload_n (pc := 2) dX12_gathers_2 rfl ?_
      refine x_aload_n (pc := 3) dX12_gathers_3 rfl ?_
      refine m_getI (pc := 4) hM dX12_gathers_4 fk_12_106 (Or.inl rfl) ?_
      refine x_icmp_ge (pc := 7) (tgt := 120) dX12_gathers_7 rfl (fun h_7 => absurd h_7 (by rw [hG.1.1 15 (by omega), h15]; exact lit_le (n := n) i (by omega) (by omega))) (fun h_7 => ?_)
      refine x_iconst (pc := 10) (v := 0) dX12_gathers_10 rfl ?_
      refine x_istore_n (pc := 11) (lv2 := [_, _, _]) dX12_gathers_11 (by decide) rfl rfl ?_
      exact L1 7 0 s0 (by omega) hG.1 hG.2 (fun k' h => absurd h (by omega))
  refine x_iconst (pc := 0) (v := 0) dX12_gathers_0 rfl ?_
  refine x_istore_n (pc := 1) (lv2 := [_, _, _]) dX12_gathers_1 (by decide) rfl rfl ?_
  exact Lo n 0 σ _ (by omega) ⟨gk.rf, fun i h => absurd h (by omega)⟩
/-- is a place taken by one of the first things -/
def tkn (σ : MS) (p : Int32) : Nat → Prop := fun n => ∃ i, i < n ∧ σ.2.2 14 i = p
theorem c_put (hM : MOK μ a) (t p : Int32) {n r m : Nat} (h15 : σ.1 15 = nI n) (hn : n ≤ 5) (hr : rlO σ r m) : XM Γ zX12_put 50 0 0 [.ref a.1, .int t, .int p] (MV μ a σ) (fun v μ2 => (¬ (0 ≤ t ∧ t ≤ σ.1 15 - 1) ∨ (¬ p = -1 ∧ ¬ (0 ≤ p ∧ p ≤ 5))) ∧ v = some (.int (-2)) ∧ μ2 = MV μ a σ ∨ ∃ i, i < n ∧ t = nI i ∧ (p = -1 ∨ (0 ≤ p ∧ p ≤ 5)) ∧ ((p = σ.2.2 14 i ∧ v = some (.int 0) ∧ μ2 = MV μ a σ) ∨ (¬ p = σ.2.2 14 i ∧ ¬ p = -1 ∧ (stI (σ.2.2 10 i) p = 0 ∨ tkn σ p n) ∧ v = some (.int (-3)) ∧ μ2 = MV μ a σ) ∨ (¬ p = σ.2.2 14 i ∧ (p = -1 ∨ (¬ stI (σ.2.2 10 i) p = 0 ∧ ¬ tkn σ p n)) ∧ ∃ (y : Int32) (s : MS), v = some (.int y) ∧ μ2 = MV μ a s ∧ SV (tA σ 14 i p) r m 0 i (if p = -1 then 6 else p) 0 y ∧ gk (tA σ 14 i p) s))) := by
  refine XM.of 1 rfl (by decide) (Nat.le_of_ble_eq_true rfl) ?_
  have T : ∀ (i : Nat) (z : Option Value), i < n → t = nI i → (p = -1 ∨ (0 ≤ p ∧ p ≤ 5)) → ¬ p = σ.2.2 14 i → (p = -1 ∨ (¬ stI (σ.2.2 10 i) p = 0 ∧ ¬ tkn σ p n)) → WA Γ zX12_put (xrm 50 0 0) 0 0 0 0 (fun v μ2 => (¬ (0 ≤ t ∧ t ≤ σ.1 15 - 1) ∨ (¬ p = -1 ∧ ¬ (0 ≤ p ∧ p ≤ 5))) ∧ v = some (.int (-2)) ∧ μ2 = MV μ a σ ∨ ∃ i, i < n ∧ t = nI i ∧ (p = -1 ∨ (0 ≤ p ∧ p ≤ 5)) ∧ ((p = σ.2.2 14 i ∧ v = some (.int 0) ∧ μ2 = MV μ a σ) ∨ (¬ p = σ.2.2 14 i ∧ ¬ p = -1 ∧ (stI (σ.2.2 10 i) p = 0 ∨ tkn σ p n) ∧ v = some (.int (-3)) ∧ μ2 = MV μ a σ) ∨ (¬ p = σ.2.2 14 i ∧ (p = -1 ∨ (¬ stI (σ.2.2 10 i) p = 0 ∧ ¬ tkn σ p n)) ∧ ∃ (y : Int32) (s : MS), v = some (.int y) ∧ μ2 = MV μ a s ∧ SV (tA σ 14 i p) r m 0 i (if p = -1 then 6 else p) 0 y ∧ gk (tA σ 14 i p) s))) 81 [some (.ref a.1), some (.int (nI i)), some (.int p), z] [] (MV μ a σ) := by
    intro i z hi et hp h1 h2
    have hr2 : rlO (tA σ 14 i p) r m := ⟨hr.1, hr.2.1, by rw [tA_n (by decide)]; exact hr.2.2.1, hr.2.2.2.1, fun j hj => by rw [tA_n (by decide)]; exact hr.2.2.2.2 j hj⟩
    refine x_aload_n (pc := 81) dX12_put_81 rfl ?_
    refine m_getR (pc := 82) hM dX12_put_82 fk_12_44 (Or.inr ⟨_, rfl⟩) (Or.inl (by decide)) ?_
    refine x_iload_n (pc := 85) dX12_put_85 rfl ?_
    refine x_iload_n (pc := 86) dX12_put_86 rfl ?_
    refine m_iast (pc := 87) hM dX12_put_87 (rfl) (by show i < 5; omega) ?_
    refine x_aload_n (pc := 88) dX12_put_88 rfl ?_
    refine x_iconst (pc := 89) (v := 0) dX12_put_89 rfl ?_
    refine x_iload_n (pc := 90) dX12_put_90 rfl ?_
    refine x_iload_n (pc := 91) dX12_put_91 rfl ?_
    refine x_iconst (pc := 92) (v := -1) dX12_put_92 rfl ?_
    refine x_icmp_ne (pc := 93) (tgt := 101) dX12_put_93 rfl (fun h_93 => ?_) (fun h_93 => ?_)
    · refine x_iload_n (pc := 101) dX12_put_101 rfl ?_
      refine x_iconst (pc := 102) (v := 0) dX12_put_102 rfl ?_
      refine x_callV (pc := 103) (As := [.int _, .int _, .int _, .int _]) dX12_put_103 mX12_says lk_12_134 hM.1 (c_says2 0 _ 0 hM (by omega) hr2 gk.rf) rfl rfl (Nat.le_of_ble_eq_true rfl) ⟨by decide, by decide⟩ ⟨Nat.zero_le _, Nat.zero_le _⟩ (fun v μ2 hq => ?_)
      obtain ⟨y, s2, rfl, rfl, hy, hg2, e2⟩ := hq
      refine x_ireturn (pc := 106) dX12_put_106 rfl rfl ?_
      refine Or.inr ⟨i, hi, et, hp, Or.inr (Or.inr ⟨h1, h2, y, s2, rfl, rfl, ?_, hg2⟩)⟩
      first
        | (rw [if_pos (by first | exact h_93 | exact Decidable.not_not.mp h_93)]; exact hy)
        | (rw [if_neg (by exact h_93)]; exact hy)
    · refine x_bipush (pc := 96) (v := 6) dX12_put_96 rfl ?_
      refine x_goto (pc := 98) (tgt := 102) dX12_put_98 rfl ?_
      refine x_iconst (pc := 102) (v := 0) dX12_put_102 rfl ?_
      refine x_callV (pc := 103) (As := [.int _, .int _, .int _, .int _]) dX12_put_103 mX12_says lk_12_134 hM.1 (c_says2 0 _ 0 hM (by omega) hr2 gk.rf) rfl rfl (Nat.le_of_ble_eq_true rfl) ⟨by decide, by decide⟩ ⟨Nat.zero_le _, Nat.zero_le _⟩ (fun v μ2 hq => ?_)
      obtain ⟨y, s2, rfl, rfl, hy, hg2, e2⟩ := hq
      refine x_ireturn (pc := 106) dX12_put_106 rfl rfl ?_
      refine Or.inr ⟨i, hi, et, hp, Or.inr (Or.inr ⟨h1, h2, y, s2, rfl, rfl, ?_, hg2⟩)⟩
      first
        | (rw [if_pos (by first | exact h_93 | exact Decidable.not_not.mp h_93)]; exact hy)
        | (rw [if_neg (by exact h_93)]; exact hy)
  have L : ∀ (d j i : Nat), j + d = n → i < n → t = nI i → (0 ≤ p ∧ p ≤ 5) → ¬ p = -1 → ¬ p = σ.2.2 14 i → ¬ stI (σ.2.2 10 i) p = 0 → (∀ q, q < j → ¬ σ.2.2 14 q = p) → WA Γ zX12_put (xrm 50 0 0) 0 0 0 0 (fun v μ2 => (¬ (0 ≤ t ∧ t ≤ σ.1 15 - 1) ∨ (¬ p = -1 ∧ ¬ (0 ≤ p ∧ p ≤ 5))) ∧ v = some (.int (-2)) ∧ μ2 = MV μ a σ ∨ ∃ i, i < n ∧ t = nI i ∧ (p = -1 ∨ (0 ≤ p ∧ p ≤ 5)) ∧ ((p = σ.2.2 14 i ∧ v = some (.int 0) ∧ μ2 = MV μ a σ) ∨ (¬ p = σ.2.2 14 i ∧ ¬ p = -1 ∧ (stI (σ.2.2 10 i) p = 0 ∨ tkn σ p n) ∧ v = some (.int (-3)) ∧ μ2 = MV μ a σ) ∨ (¬ p = σ.2.2 14 i ∧ (p = -1 ∨ (¬ stI (σ.2.2 10 i) p = 0 ∧ ¬ tkn σ p n)) ∧ ∃ (y : Int32) (s : MS), v = some (.int y) ∧ μ2 = MV μ a s ∧ SV (tA σ 14 i p) r m 0 i (if p = -1 then 6 else p) 0 y ∧ gk (tA σ 14 i p) s))) 54 [some (.ref a.1), some (.int (nI i)), some (.int p), some (.int (nI j))] [] (MV μ a σ) := by
    intro d
    induction d with
    | zero =>
      intro j i hj hi et hp hp1 h1 h2 h3
      obtain rfl : j = n := by omega
      refine x_iload_n (pc := 54) dX12_put_54 rfl ?_
      refine x_aload_n (pc := 55) dX12_put_55 rfl ?_
      refine m_getI (pc := 56) hM dX12_put_56 fk_12_106 (Or.inl rfl) ?_
      refine x_icmp_ge (pc := 59) (tgt := 81) dX12_put_59 rfl (fun h_59 => ?_) (fun h_59 => absurd (by rw [h15]; exact Int32.le_refl _) h_59)
      exact T i _ hi et (Or.inr hp) h1 (Or.inr ⟨h2, fun ⟨q, hq, e⟩ => h3 q hq e⟩)
    | succ d ih =>
      intro j i hj hi et hp hp1 h1 h2 h3
      refine x_iload_n (pc := 54) dX12_put_54 rfl ?_
      refine x_aload_n (pc := 55) dX12_put_55 rfl ?_
      refine m_getI (pc := 56) hM dX12_put_56 fk_12_106 (Or.inl rfl) ?_
      refine x_icmp_ge (pc := 59) (tgt := 81) dX12_put_59 rfl (fun h_59 => absurd h_59 (by rw [h15]; exact lit_le (n := n) j (by omega) (by omega))) (fun h_59 => ?_)
      refine x_aload_n (pc := 62) dX12_put_62 rfl ?_
      refine m_getR (pc := 63) hM dX12_put_63 fk_12_44 (Or.inr ⟨_, rfl⟩) (Or.inl (by decide)) ?_
      refine x_iload_n (pc := 66) dX12_put_66 rfl ?_
      refine m_iald (pc := 67) hM dX12_put_67 (rfl) (by show j < 5; omega) ?_
      refine x_iload_n (pc := 68) dX12_put_68 rfl ?_
      refine x_icmp_ne (pc := 69) (tgt := 75) dX12_put_69 rfl (fun h_69 => ?_) (fun h_69 => ?_)
      · refine x_iinc (pc := 75) (lv2 := [_, _, _, _]) dX12_put_75 (by decide) rfl rfl (nI_1 _) rfl ?_
        refine x_goto (pc := 78) (tgt := 54) dX12_put_78 rfl ?_
        refine ih (j + 1) i (by omega) hi et hp hp1 h1 h2 (fun q hq => ?_)
        rcases Nat.lt_or_ge q j with z | z
        · exact h3 q z
        · obtain rfl : q = j := by omega
          exact h_69
      · refine x_bipush (pc := 72) (v := -3) dX12_put_72 rfl ?_
        refine x_ireturn (pc := 74) dX12_put_74 rfl rfl ?_
        exact Or.inr ⟨i, hi, et, Or.inr hp, Or.inr (Or.inl ⟨h1, hp1, Or.inr ⟨j, by omega, by first | exact h_69 | exact Decidable.not_not.mp h_69⟩, rfl, rfl⟩)⟩
  refine x_aload_n (pc := 0) dX12_put_0 rfl ?_
  refine x_iload_n (pc := 1) dX12_put_1 rfl ?_
  refine x_callV (pc := 2) (As := [.int _]) dX12_put_2 mX12_isThing lk_12_123 hM.1 (c_isThing hM _) rfl rfl (Nat.le_of_ble_eq_true rfl) ⟨by decide, by decide⟩ ⟨Nat.zero_le _, Nat.zero_le _⟩ (k_rt ?_)
  refine x_if_eq (pc := 5) (tgt := 20) dX12_put_5 rfl (fun h_5 => ?_) (fun h_5 => ?_)
  · refine x_bipush (pc := 20) (v := -2) dX12_put_20 rfl ?_
    refine x_ireturn (pc := 22) dX12_put_22 rfl rfl ?_
    exact Or.inl ⟨by first | exact Or.inl (bi_0.mp h_5) | exact Or.inr ⟨h_10, bi_0.mp h_17⟩, rfl, rfl⟩
  · refine x_iload_n (pc := 8) dX12_put_8 rfl ?_
    refine x_iconst (pc := 9) (v := -1) dX12_put_9 rfl ?_
    refine x_icmp_eq (pc := 10) (tgt := 23) dX12_put_10 rfl (fun h_10 => ?_) (fun h_10 => ?_)
    · obtain ⟨i, hi, rfl⟩ := ixC h15 (bi_n0 h_5) (by omega)
      have hp : p = -1 ∨ (0 ≤ p ∧ p ≤ 5) := by
        first | exact Or.inl h_10 | exact Or.inr (bi_n0 h_17)
      refine x_iload_n (pc := 23) dX12_put_23 rfl ?_
      refine x_aload_n (pc := 24) dX12_put_24 rfl ?_
      refine m_getR (pc := 25) hM dX12_put_25 fk_12_44 (Or.inr ⟨_, rfl⟩) (Or.inl (by decide)) ?_
      refine x_iload_n (pc := 28) dX12_put_28 rfl ?_
      refine m_iald (pc := 29) hM dX12_put_29 (rfl) (by show i < 5; omega) ?_
      refine x_icmp_ne (pc := 30) (tgt := 35) dX12_put_30 rfl (fun h_30 => ?_) (fun h_30 => ?_)
      · refine x_iload_n (pc := 35) dX12_put_35 rfl ?_
        refine x_iconst (pc := 36) (v := -1) dX12_put_36 rfl ?_
        refine x_icmp_eq (pc := 37) (tgt := 81) dX12_put_37 rfl (fun h_37 => ?_) (fun h_37 => ?_)
        · exact T i _ hi rfl hp h_30 (Or.inl h_37)
        · refine x_aload_n (pc := 40) dX12_put_40 rfl ?_
          refine x_iload_n (pc := 41) dX12_put_41 rfl ?_
          refine x_iload_n (pc := 42) dX12_put_42 rfl ?_
          refine x_callV (pc := 43) (As := [.int _, .int _]) dX12_put_43 mX12_stands lk_12_130 hM.1 (c_stands hM _ rfl (by omega)) rfl rfl (Nat.le_of_ble_eq_true rfl) ⟨by decide, by decide⟩ ⟨Nat.zero_le _, Nat.zero_le _⟩ (k_rt ?_)
          refine x_if_ne (pc := 46) (tgt := 52) dX12_put_46 rfl (fun h_46 => ?_) (fun h_46 => ?_)
          · refine x_iconst (pc := 52) (v := 0) dX12_put_52 rfl ?_
            refine x_istore_n (pc := 53) (lv2 := [_, _, _, _]) dX12_put_53 (by decide) rfl rfl ?_
            exact L n 0 i (by omega) hi rfl (hp.resolve_left h_37) h_37 h_30 h_46 (fun q h => absurd h (by omega))
          · refine x_bipush (pc := 49) (v := -3) dX12_put_49 rfl ?_
            refine x_ireturn (pc := 51) dX12_put_51 rfl rfl ?_
            exact Or.inr ⟨i, hi, rfl, hp, Or.inr (Or.inl ⟨h_30, h_37, Or.inl h_46, rfl, rfl⟩)⟩
      · refine x_iconst (pc := 33) (v := 0) dX12_put_33 rfl ?_
        refine x_ireturn (pc := 34) dX12_put_34 rfl rfl ?_
        exact Or.inr ⟨i, hi, rfl, hp, Or.inl ⟨by first | exact h_30 | exact Decidable.not_not.mp h_30, rfl, rfl⟩⟩
    · refine x_iload_n (pc := 13) dX12_put_13 rfl ?_
      refine x_callS (pc := 14) (As := [.int _]) dX12_put_14 mX12_isPlace lk_12_127 (c_isPlace _) rfl rfl (Nat.le_of_ble_eq_true rfl) ⟨by decide, by decide⟩ ⟨Nat.zero_le _, Nat.zero_le _⟩ (k_rt ?_)
      refine x_if_ne (pc := 17) (tgt := 23) dX12_put_17 rfl (fun h_17 => ?_) (fun h_17 => ?_)
      · obtain ⟨i, hi, rfl⟩ := ixC h15 (bi_n0 h_5) (by omega)
        have hp : p = -1 ∨ (0 ≤ p ∧ p ≤ 5) := by
          first | exact Or.inl h_10 | exact Or.inr (bi_n0 h_17)
        refine x_iload_n (pc := 23) dX12_put_23 rfl ?_
        refine x_aload_n (pc := 24) dX12_put_24 rfl ?_
        refine m_getR (pc := 25) hM dX12_put_25 fk_12_44 (Or.inr ⟨_, rfl⟩) (Or.inl (by decide)) ?_
        refine x_iload_n (pc := 28) dX12_put_28 rfl ?_
        refine m_iald (pc := 29) hM dX12_put_29 (rfl) (by show i < 5; omega) ?_
        refine x_icmp_ne (pc := 30) (tgt := 35) dX12_put_30 rfl (fun h_30 => ?_) (fun h_30 => ?_)
        · refine x_iload_n (pc := 35) dX12_put_35 rfl ?_
          refine x_iconst (pc := 36) (v := -1) dX12_put_36 rfl ?_
          refine x_icmp_eq (pc := 37) (tgt := 81) dX12_put_37 rfl (fun h_37 => ?_) (fun h_37 => ?_)
          · exact T i _ hi rfl hp h_30 (Or.inl h_37)
          · refine x_aload_n (pc := 40) dX12_put_40 rfl ?_
            refine x_iload_n (pc := 41) dX12_put_41 rfl ?_
            refine x_iload_n (pc := 42) dX12_put_42 rfl ?_
            refine x_callV (pc := 43) (As := [.int _, .int _]) dX12_put_43 mX12_stands lk_12_130 hM.1 (c_stands hM _ rfl (by omega)) rfl rfl (Nat.le_of_ble_eq_true rfl) ⟨by decide, by decide⟩ ⟨Nat.zero_le _, Nat.zero_le _⟩ (k_rt ?_)
            refine x_if_ne (pc := 46) (tgt := 52) dX12_put_46 rfl (fun h_46 => ?_) (fun h_46 => ?_)
            · refine x_iconst (pc := 52) (v := 0) dX12_put_52 rfl ?_
              refine x_istore_n (pc := 53) (lv2 := [_, _, _, _]) dX12_put_53 (by decide) rfl rfl ?_
              exact L n 0 i (by omega) hi rfl (hp.resolve_left h_37) h_37 h_30 h_46 (fun q h => absurd h (by omega))
            · refine x_bipush (pc := 49) (v := -3) dX12_put_49 rfl ?_
              refine x_ireturn (pc := 51) dX12_put_51 rfl rfl ?_
              exact Or.inr ⟨i, hi, rfl, hp, Or.inr (Or.inl ⟨h_30, h_37, Or.inl h_46, rfl, rfl⟩)⟩
        · refine x_iconst (pc := 33) (v := 0) dX12_put_33 rfl ?_
          refine x_ireturn (pc := 34) dX12_put_34 rfl rfl ?_
          exact Or.inr ⟨i, hi, rfl, hp, Or.inl ⟨by first | exact h_30 | exact Decidable.not_not.mp h_30, rfl, rfl⟩⟩
      · refine x_bipush (pc := 20) (v := -2) dX12_put_20 rfl ?_
        refine x_ireturn (pc := 22) dX12_put_22 rfl rfl ?_
        exact Or.inl ⟨by first | exact Or.inl (bi_0.mp h_5) | exact Or.inr ⟨h_10, bi_0.mp h_17⟩, rfl, rfl⟩
end M45
