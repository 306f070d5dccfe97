/-! the reference: a text is taken, what a text says -/
theorem rdE_ok {σ : MS} {f n : Nat} {p : PT} (hO : rdO σ f n) (h : okp n (pN σ f n p)) : okp n (rdE σ f n p) := by
  have k1 : okp n (rd1 σ f n p).2 := by
    unfold rd1
    exact (kp_Pt hO h).1
  have k2 : okp n (rd2 σ f n p).2 := by
    unfold rd2
    split
    · exact (kp_Pt hO k1).1
    · dsimp only
      exact k1
  have k3 : okp n (rd3 σ f n p).2 := by
    unfold rd3
    split
    · exact (kp_Pt hO k2).1
    · dsimp only
      exact k2
  unfold rdE
  split
  · exact (pF_ok k3).1
  · exact k3
section M43
variable {Γ : Gm} {μ : Mem} {a : Ma} {σ : MS}
theorem rdO_sB {s : MS} {f n : Nat} (hn : n ≤ 160) (hf : f + n ≤ 960) (hb : ∀ i, i < n → ∃ c, c < 256 ∧ s.2.2 1 (f + i) = nI c) : rdO (sB s f (nI n)) f n := ⟨rfl, rfl, hn, hf, hb⟩
def f_tx (tc : Nat) : Nat → MS → MS := fun j s => tA s 1 (160 * tc + j) (s.2.2 5 j)
def txS (σ : MS) (tc n : Nat) : MS := tI (tA (it (f_tx tc) n σ) 2 tc (nI n)) 6 0
theorem it_tx (tc : Nat) (σ : MS) : ∀ n, (it (f_tx tc) n σ).1 = σ.1 ∧ (∀ k, k ≠ 1 → (it (f_tx tc) n σ).2.2 k = σ.2.2 k) ∧ ∀ i, i < n → (it (f_tx tc) n σ).2.2 1 (160 * tc + i) = σ.2.2 5 i
  | 0 => ⟨rfl, fun _ _ => rfl, fun i h => absurd h (by omega)⟩
  | n + 1 => by
    obtain ⟨h1, h2, h3⟩ := it_tx tc σ n
    refine ⟨h1, fun k hk => (tA_n hk).trans (h2 k hk), fun i hi => ?_⟩
    show up2 (it (f_tx tc) n σ).2.2 1 (160 * tc + n) _ 1 (160 * tc + i) = _
    by_cases e : i = n
    · subst e
      rw [up2_s, h2 5 (by decide)]
    · rw [up2_n (Or.inr (by omega)), h3 i (by omega)]
theorem tx_J (tc : Nat) (σ : MS) : ∀ n, (it (f_tx tc) n σ).2.1 = σ.2.1
  | 0 => rfl
  | n + 1 => tx_J tc σ n
theorem rdO_tx {tc n : Nat} (hn : n ≤ 160) (htc : tc < 6) (hb : ∀ i, i < n → ∃ c, c < 256 ∧ σ.2.2 5 i = nI c) : rdO (sB (txS σ tc n) (160 * tc) (nI n)) (160 * tc) n := by
  refine rdO_sB hn (by omega) (fun i hi => ?_)
  obtain ⟨c, hc, e⟩ := hb i hi
  refine ⟨c, hc, ?_⟩
  rw [← e, ← (it_tx tc σ n).2.2 i hi]
  exact congrFun (tA_n (by decide)) _
theorem c_text {tc n : Nat} (hM : MOK μ a) (h3 : σ.1 3 = nI tc) (htc : tc < 6) (h6 : σ.1 6 = nI n) (hn : n ≤ 160) (hb : ∀ i, i < n → ∃ c, c < 256 ∧ σ.2.2 5 i = nI c) : XM Γ zX12_text 49 0 0 [.ref a.1] (MV μ a σ) (fun r μ2 => ∃ tk ta ft : Nat, (¬ pbd (rdE (sB (txS σ tc n) (160 * tc) (nI n)) (160 * tc) n (0, tk, ta, σ.2.1, 0, 0, ft)) = 0 ∧ r = some (.int (-100 - nI (rdE (sB (txS σ tc n) (160 * tc) (nI n)) (160 * tc) n (0, tk, ta, σ.2.1, 0, 0, ft)).2.2.2.2.2.2)) ∧ μ2 = MV μ a (Pσ (sB (txS σ tc n) (160 * tc) (nI n)) (rdE (sB (txS σ tc n) (160 * tc) (nI n)) (160 * tc) n (0, tk, ta, σ.2.1, 0, 0, ft)))) ∨ (pbd (rdE (sB (txS σ tc n) (160 * tc) (nI n)) (160 * tc) n (0, tk, ta, σ.2.1, 0, 0, ft)) = 0 ∧ r = some (.int (nI tc)) ∧ μ2 = MV μ a (tI (Pσ (sB (txS σ tc n) (160 * tc) (nI n)) (rdE (sB (txS σ tc n) (160 * tc) (nI n)) (160 * tc) n (0, tk, ta, σ.2.1, 0, 0, ft))) 3 (nI (tc + 1))))) := by
  refine XM.of 1 rfl (by decide) (Nat.le_of_ble_eq_true rfl) ?_
  have T : ∀ (r : Int32) (tk ta ft : Nat) (z : Option Value), WA Γ zX12_text (xrm 49 0 0) 0 0 0 0 (fun r μ2 => ∃ tk ta ft : Nat, (¬ pbd (rdE (sB (txS σ tc n) (160 * tc) (nI n)) (160 * tc) n (0, tk, ta, σ.2.1, 0, 0, ft)) = 0 ∧ r = some (.int (-100 - nI (rdE (sB (txS σ tc n) (160 * tc) (nI n)) (160 * tc) n (0, tk, ta, σ.2.1, 0, 0, ft)).2.2.2.2.2.2)) ∧ μ2 = MV μ a (Pσ (sB (txS σ tc n) (160 * tc) (nI n)) (rdE (sB (txS σ tc n) (160 * tc) (nI n)) (160 * tc) n (0, tk, ta, σ.2.1, 0, 0, ft)))) ∨ (pbd (rdE (sB (txS σ tc n) (160 * tc) (nI n)) (160 * tc) n (0, tk, ta, σ.2.1, 0, 0, ft)) = 0 ∧ r = some (.int (nI tc)) ∧ μ2 = MV μ a (tI (Pσ (sB (txS σ tc n) (160 * tc) (nI n)) (rdE (sB (txS σ tc n) (160 * tc) (nI n)) (160 * tc) n (0, tk, ta, σ.2.1, 0, 0, ft))) 3 (nI (tc + 1))))) 77 [some (.ref a.1), some (.int r)] [] (MV μ a (Pσ (sB (txS σ tc n) (160 * tc) (nI n)) (rdE (sB (txS σ tc n) (160 * tc) (nI n)) (160 * tc) n (0, tk, ta, σ.2.1, 0, 0, ft)))) := by
    intro r tk ta ft z
    have hO := rdO_tx (σ := σ) hn htc hb
    have hb2 : pbd (rdE (sB (txS σ tc n) (160 * tc) (nI n)) (160 * tc) n (0, tk, ta, σ.2.1, 0, 0, ft)) < 2 := by
      have k0 := okp_1 (tk := tk) (ta := ta) (ft := ft) (tw := σ.2.1) hO
      exact (rdE_ok hO k0.1).2.2.2.2.1
    have e3 : (Pσ (sB (txS σ tc n) (160 * tc) (nI n)) (rdE (sB (txS σ tc n) (160 * tc) (nI n)) (160 * tc) n (0, tk, ta, σ.2.1, 0, 0, ft))).1 3 = nI tc := by rw [← h3, ← (it_tx tc σ n).1]; rfl
    generalize hpe : (rdE (sB (txS σ tc n) (160 * tc) (nI n)) (160 * tc) n (0, tk, ta, σ.2.1, 0, 0, ft)) = pe at hb2 e3 ⊢
    refine x_aload_n (pc := 77) dX12_text_77 rfl ?_
    refine m_getIv (pc := 78) (v := nI (pbd pe)) hM dX12_text_78 fk_12_181 (Or.inr rfl) (rfl) ?_
    refine x_if_eq (pc := 81) (tgt := 92) dX12_text_81 rfl (fun h_81 => ?_) (fun h_81 => ?_)
    · refine x_aload_n (pc := 92) dX12_text_92 rfl ?_
      refine x_dup (pc := 93) dX12_text_93 rfl ?_
      refine m_getIv (pc := 94) (v := nI tc) hM dX12_text_94 fk_12_103 (Or.inl rfl) e3 ?_
      refine x_iconst (pc := 97) (v := 1) dX12_text_97 rfl ?_
      refine x_iadd (pc := 98) dX12_text_98 ?_
      rw [nI_1]
      refine m_putI (pc := 99) hM dX12_text_99 fk_12_103 rfl (Or.inl rfl) ?_
      refine x_aload_n (pc := 102) dX12_text_102 rfl ?_
      refine m_getIv (pc := 103) (v := nI (tc + 1)) hM dX12_text_103 fk_12_103 (Or.inl rfl) (rfl) ?_
      refine x_iconst (pc := 106) (v := 1) dX12_text_106 rfl ?_
      refine x_isub (pc := 107) dX12_text_107 ?_
      rw [nI_pred]
      refine x_ireturn (pc := 108) dX12_text_108 rfl rfl ?_
      refine ⟨tk, ta, ft, Or.inr ?_⟩
      rw [hpe]
      exact ⟨(nI_eq (b := 0) (by omega) (by omega)).mp h_81, rfl, rfl⟩
    · refine x_bipush (pc := 84) (v := -100) dX12_text_84 rfl ?_
      refine x_aload_n (pc := 86) dX12_text_86 rfl ?_
      refine m_getIv (pc := 87) (v := nI pe.2.2.2.2.2.2) hM dX12_text_87 fk_12_185 (Or.inl rfl) (rfl) ?_
      refine x_isub (pc := 90) dX12_text_90 ?_
      refine x_ireturn (pc := 91) dX12_text_91 rfl rfl ?_
      refine ⟨tk, ta, ft, Or.inl ?_⟩
      rw [hpe]
      exact ⟨b1 h_81, rfl, rfl⟩
  have L : ∀ (m j : Nat), j + m = n → WA Γ zX12_text (xrm 49 0 0) 0 0 0 0 (fun r μ2 => ∃ tk ta ft : Nat, (¬ pbd (rdE (sB (txS σ tc n) (160 * tc) (nI n)) (160 * tc) n (0, tk, ta, σ.2.1, 0, 0, ft)) = 0 ∧ r = some (.int (-100 - nI (rdE (sB (txS σ tc n) (160 * tc) (nI n)) (160 * tc) n (0, tk, ta, σ.2.1, 0, 0, ft)).2.2.2.2.2.2)) ∧ μ2 = MV μ a (Pσ (sB (txS σ tc n) (160 * tc) (nI n)) (rdE (sB (txS σ tc n) (160 * tc) (nI n)) (160 * tc) n (0, tk, ta, σ.2.1, 0, 0, ft)))) ∨ (pbd (rdE (sB (txS σ tc n) (160 * tc) (nI n)) (160 * tc) n (0, tk, ta, σ.2.1, 0, 0, ft)) = 0 ∧ r = some (.int (nI tc)) ∧ μ2 = MV μ a (tI (Pσ (sB (txS σ tc n) (160 * tc) (nI n)) (rdE (sB (txS σ tc n) (160 * tc) (nI n)) (160 * tc) n (0, tk, ta, σ.2.1, 0, 0, ft))) 3 (nI (tc + 1))))) 14 [some (.ref a.1), some (.int (nI j))] [] (MV μ a (it (f_tx tc) j σ)) := by
    intro m
    induction m with
    | zero =>
      intro j hj
      obtain rfl : j = n := by omega
      refine x_iload_n (pc := 14) dX12_text_14 rfl ?_
      refine x_aload_n (pc := 15) dX12_text_15 rfl ?_
      refine m_getI (pc := 16) hM dX12_text_16 fk_12_145 (Or.inl rfl) ?_
      refine x_icmp_ge (pc := 19) (tgt := 49) dX12_text_19 rfl (fun h_19 => ?_) (fun h_19 => absurd (by rw [(it_tx tc σ j).1, h6]; exact Int32.le_refl _) h_19)
      refine x_aload_n (pc := 49) dX12_text_49 rfl ?_
      refine m_getR (pc := 50) hM dX12_text_50 fk_12_17 (Or.inr ⟨_, rfl⟩) (Or.inl (by decide)) ?_
      refine x_aload_n (pc := 53) dX12_text_53 rfl ?_
      refine m_getI (pc := 54) hM dX12_text_54 fk_12_103 (Or.inl rfl) ?_
      refine x_aload_n (pc := 57) dX12_text_57 rfl ?_
      refine m_getI (pc := 58) hM dX12_text_58 fk_12_145 (Or.inl rfl) ?_
      refine m_iast (pc := 61) (i := tc) hM dX12_text_61 (by rw [(it_tx tc σ j).1, h3]) (by show tc < 6; omega) ?_
      rw [show (it (f_tx tc) j σ).1 6 = nI j by rw [(it_tx tc σ j).1, h6]]
      refine x_aload_n (pc := 62) dX12_text_62 rfl ?_
      refine x_iconst (pc := 63) (v := 0) dX12_text_63 rfl ?_
      refine m_putI (pc := 64) hM dX12_text_64 fk_12_145 rfl (Or.inl rfl) ?_
      rw [show tI (tA (it (f_tx tc) j σ) 2 tc (nI j)) 6 0 = txS σ tc j from rfl]
      refine x_aload_n (pc := 67) dX12_text_67 rfl ?_
      refine x_aload_n (pc := 68) dX12_text_68 rfl ?_
      refine m_getIv (pc := 69) (v := nI tc) hM dX12_text_69 fk_12_103 (Or.inl rfl) (by rw [← h3, ← (it_tx tc σ j).1]; rfl) ?_
      refine x_iconst (pc := 72) (v := 0) dX12_text_72 rfl ?_
      refine x_callV (pc := 73) (As := [.int _, .int _]) dX12_text_73 mX12_read lk_12_259 hM.1 (g_read 0 hM (rdO_tx hn htc hb) rfl htc (by show up2 _ 2 tc (nI j) 2 tc = nI j; rw [up2_s])) rfl rfl (Nat.le_of_ble_eq_true rfl) ⟨by decide, by decide⟩ ⟨Nat.zero_le _, Nat.zero_le _⟩ (fun r μ2 hq => ?_)
      obtain ⟨tk, ta, ft, rfl, rfl⟩ := hq
      refine x_istore_n (pc := 76) (lv2 := [_, _]) dX12_text_76 (by decide) rfl rfl ?_
      have eJ : (txS σ tc j).2.1 = σ.2.1 := tx_J tc σ j
      rw [eJ]
      exact T _ tk ta ft none
    | succ m ih =>
      intro j hj
      refine x_iload_n (pc := 14) dX12_text_14 rfl ?_
      refine x_aload_n (pc := 15) dX12_text_15 rfl ?_
      refine m_getI (pc := 16) hM dX12_text_16 fk_12_145 (Or.inl rfl) ?_
      refine x_icmp_ge (pc := 19) (tgt := 49) dX12_text_19 rfl (fun h_19 => absurd h_19 (by rw [(it_tx tc σ j).1, h6]; exact lit_le (n := n) j (by omega) (by omega))) (fun h_19 => ?_)
      refine x_aload_n (pc := 22) dX12_text_22 rfl ?_
      refine m_getR (pc := 23) hM dX12_text_23 fk_12_13 (Or.inr ⟨_, rfl⟩) (Or.inl (by decide)) ?_
      refine x_sipush (pc := 26) (v := 160) dX12_text_26 rfl ?_
      refine x_aload_n (pc := 29) dX12_text_29 rfl ?_
      refine m_getI (pc := 30) hM dX12_text_30 fk_12_103 (Or.inl rfl) ?_
      refine x_imul (pc := 33) dX12_text_33 ?_
      refine x_iload_n (pc := 34) dX12_text_34 rfl ?_
      refine x_iadd (pc := 35) dX12_text_35 ?_
      refine x_aload_n (pc := 36) dX12_text_36 rfl ?_
      refine m_getR (pc := 37) hM dX12_text_37 fk_12_20 (Or.inr ⟨_, rfl⟩) (Or.inl (by decide)) ?_
      refine x_iload_n (pc := 40) dX12_text_40 rfl ?_
      refine m_iald (pc := 41) hM dX12_text_41 (rfl) (by show j < 160; omega) ?_
      refine m_iast (pc := 42) hM dX12_text_42 (by rw [(it_tx tc σ j).1, h3, show (160 : Int32) = nI 160 from rfl, pk_mul, nI_add]) (by show 160 * tc + j < 960; omega) ?_
      refine x_iinc (pc := 43) (lv2 := [_, _]) dX12_text_43 (by decide) rfl rfl (nI_1 _) rfl ?_
      refine x_goto (pc := 46) (tgt := 14) dX12_text_46 rfl ?_
      exact ih (j + 1) (by omega)
  refine x_aload_n (pc := 0) dX12_text_0 rfl ?_
  refine m_getI (pc := 1) hM dX12_text_1 fk_12_103 (Or.inl rfl) ?_
  refine x_bipush (pc := 4) (v := 6) dX12_text_4 rfl ?_
  refine x_icmp_ne (pc := 6) (tgt := 12) dX12_text_6 rfl (fun h_6 => ?_) (fun h_6 => absurd h_6 (by rw [h3]; exact fun z => absurd ((nI_eq (b := 6) (by omega) (by omega)).mp z) (by omega)))
  refine x_iconst (pc := 12) (v := 0) dX12_text_12 rfl ?_
  refine x_istore_n (pc := 13) (lv2 := [_, _]) dX12_text_13 (by decide) rfl rfl ?_
  exact L n 0 (by omega)
theorem c_textF (hM : MOK μ a) (h3 : σ.1 3 = 6) : XM Γ zX12_text 1 0 0 [.ref a.1] (MV μ a σ) (rt (.int (-4)) (MV μ a σ)) := by
  refine XM.of 1 rfl (by decide) (Nat.le_of_ble_eq_true rfl) ?_
  refine x_aload_n (pc := 0) dX12_text_0 rfl ?_
  refine m_getI (pc := 1) hM dX12_text_1 fk_12_103 (Or.inl rfl) ?_
  refine x_bipush (pc := 4) (v := 6) dX12_text_4 rfl ?_
  refine x_icmp_ne (pc := 6) (tgt := 12) dX12_text_6 rfl (fun h_6 => absurd (h3) h_6) (fun h_6 => ?_)
  refine x_bipush (pc := 9) (v := -4) dX12_text_9 rfl ?_
  refine x_ireturn (pc := 11) dX12_text_11 rfl rfl ?_
  exact ⟨rfl, rfl⟩
def sE (σ : MS) (t pl gv gs lk nu : Int32) : MS := tI (tI (tI (tI (tI (tI σ 16 t) 17 pl) 18 gv) 19 gs) 20 lk) 21 nu
theorem c_says {i r n : Nat} (x pl gs : Int32) (hM : MOK μ a) (hi : i < 5) (h4 : σ.1 4 = nI r) (hr : r < 6) (hsz : σ.2.2 2 r = nI n) (hn : n ≤ 160) (hb : ∀ j, j < n → ∃ c, c < 256 ∧ σ.2.2 1 (160 * r + j) = nI c) : XM Γ zX12_says 49 0 0 [.ref a.1, .int x, .int (nI i), .int pl, .int gs] (MV μ a σ) (fun v μ2 => ∃ tk ta ft : Nat, v = some (.int (wit (rdV (sB (sE σ (nI i) pl (σ.2.2 12 i) gs (σ.2.2 13 i) (σ.2.2 11 i)) (160 * r) (nI n)) (160 * r) n (0, tk, ta, σ.2.1, 0, 0, ft) x) 0 99)) ∧ μ2 = MV μ a (Pσ (sB (sE σ (nI i) pl (σ.2.2 12 i) gs (σ.2.2 13 i) (σ.2.2 11 i)) (160 * r) (nI n)) (rdE (sB (sE σ (nI i) pl (σ.2.2 12 i) gs (σ.2.2 13 i) (σ.2.2 11 i)) (160 * r) (nI n)) (160 * r) n (0, tk, ta, σ.2.1, 0, 0, ft)))) := by
  refine XM.of 0 rfl (by decide) (Nat.le_of_ble_eq_true rfl) ?_
  refine x_aload_n (pc := 0) dX12_says_0 rfl ?_
  refine x_iload_n (pc := 1) dX12_says_1 rfl ?_
  refine m_putI (pc := 2) hM dX12_says_2 fk_12_204 rfl (Or.inl rfl) ?_
  refine x_aload_n (pc := 5) dX12_says_5 rfl ?_
  refine x_iload_n (pc := 6) dX12_says_6 rfl ?_
  refine m_putI (pc := 7) hM dX12_says_7 fk_12_207 rfl (Or.inl rfl) ?_
  refine x_aload_n (pc := 10) dX12_says_10 rfl ?_
  refine x_aload_n (pc := 11) dX12_says_11 rfl ?_
  refine m_getR (pc := 12) hM dX12_says_12 fk_12_38 (Or.inr ⟨_, rfl⟩) (Or.inl (by decide)) ?_
  refine x_iload_n (pc := 15) dX12_says_15 rfl ?_
  refine m_iald (pc := 16) hM dX12_says_16 (rfl) (hi) ?_
  refine m_putI (pc := 17) hM dX12_says_17 fk_12_210 rfl (Or.inl rfl) ?_
  refine x_aload_n (pc := 20) dX12_says_20 rfl ?_
  refine x_iload (pc := 21) dX12_says_21 rfl ?_
  refine m_putI (pc := 23) hM dX12_says_23 fk_12_213 rfl (Or.inl rfl) ?_
  refine x_aload_n (pc := 26) dX12_says_26 rfl ?_
  refine x_aload_n (pc := 27) dX12_says_27 rfl ?_
  refine m_getR (pc := 28) hM dX12_says_28 fk_12_41 (Or.inr ⟨_, rfl⟩) (Or.inl (by decide)) ?_
  refine x_iload_n (pc := 31) dX12_says_31 rfl ?_
  refine m_iald (pc := 32) hM dX12_says_32 (rfl) (hi) ?_
  refine m_putI (pc := 33) hM dX12_says_33 fk_12_216 rfl (Or.inl rfl) ?_
  refine x_aload_n (pc := 36) dX12_says_36 rfl ?_
  refine x_aload_n (pc := 37) dX12_says_37 rfl ?_
  refine m_getR (pc := 38) hM dX12_says_38 fk_12_35 (Or.inr ⟨_, rfl⟩) (Or.inl (by decide)) ?_
  refine x_iload_n (pc := 41) dX12_says_41 rfl ?_
  refine m_iald (pc := 42) hM dX12_says_42 (rfl) (hi) ?_
  refine m_putI (pc := 43) hM dX12_says_43 fk_12_219 rfl (Or.inl rfl) ?_
  show WA Γ zX12_says _ 0 0 0 0 _ (43 + 3) _ [] (MV μ a (sE σ (nI i) pl (σ.2.2 12 i) gs (σ.2.2 13 i) (σ.2.2 11 i)))
  refine x_aload_n (pc := 46) dX12_says_46 rfl ?_
  refine x_aload_n (pc := 47) dX12_says_47 rfl ?_
  refine m_getIv (pc := 48) (v := nI r) hM dX12_says_48 fk_12_263 (Or.inl rfl) (h4) ?_
  refine x_iload_n (pc := 51) dX12_says_51 rfl ?_
  refine x_callV (pc := 52) (As := [.int _, .int _]) dX12_says_52 mX12_read lk_12_259 hM.1 (g_read x hM (rdO_sB hn (by omega) hb) rfl hr hsz) rfl rfl (Nat.le_of_ble_eq_true rfl) ⟨by decide, by decide⟩ ⟨Nat.zero_le _, Nat.zero_le _⟩ (fun v μ2 hq => ?_)
  obtain ⟨tk, ta, ft, rfl, rfl⟩ := hq
  refine x_iconst (pc := 55) (v := 0) dX12_says_55 rfl ?_
  refine x_bipush (pc := 56) (v := 99) dX12_says_56 rfl ?_
  refine x_callS (pc := 58) (As := [.int _, .int _, .int _]) dX12_says_58 mX12_within lk_12_266 (c_within _ _ _) rfl rfl (Nat.le_of_ble_eq_true rfl) ⟨by decide, by decide⟩ ⟨Nat.zero_le _, Nat.zero_le _⟩ (k_rt ?_)
  refine x_ireturn (pc := 61) dX12_says_61 rfl rfl ?_
  exact ⟨tk, ta, ft, rfl, rfl⟩
end M43
