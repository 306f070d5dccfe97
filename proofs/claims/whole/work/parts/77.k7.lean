/-! the class: a thing learns the rule -/
def lnP (o tx : Nat) : Nat → Nat → Prop := fun a k => (a = o ∧ (k = 6 ∨ k = 7 ∨ k = 8 ∨ k = 9 ∨ k = 10 ∨ k = 11)) ∨ tP tx a k
/-- what the text tells of thing i, as numbers -/
def TV (κ : KS) (tx tn o : Nat) (D : PD) (i : Nat) : Prop := (∀ s, s < 7 → tVal κ tx tn o 0 (spl s) 0 = nI (D 7 (7 * i + s)) ∧ (s ≠ 0 → tVal κ tx tn o 1 (nI s - 1) 0 = nI (D 8 (7 * i + s)))) ∧ D 8 (7 * i) = 0 ∧ ∀ c, c < 5 → tVal κ tx tn o 2 0 (nI c) = nI (D 9 (5 * i + c))
theorem tV_kq {κ κ2 : KS} {tx tn o : Nat} {P : Nat → Nat → Prop} (h : kq P κ κ2) (h1 : ∀ k, k = 0 ∨ k = 1 → ¬ P tx k) (h2 : ∀ k, k = 1 ∨ k = 2 ∨ k = 3 ∨ k = 4 → ¬ P o k) (x : Nat) (pl gs : Int32) : tVal κ2 tx tn o x pl gs = tVal κ tx tn o x pl gs := by
  have e : tEn κ2 o pl gs = tEn κ o pl gs := by
    funext j
    unfold tEn
    rw [(h o 1 (h2 1 (by omega))).1, (h o 2 (h2 2 (by omega))).1, (h o 3 (h2 3 (by omega))).1, (h o 4 (h2 4 (by omega))).1]
  unfold tVal
  rw [e, (h tx 0 (h1 0 (by omega))).2, (h tx 1 (h1 1 (by omega))).2]
theorem lnP_t {o tx : Nat} (hne : o ≠ tx) : ∀ k, k = 0 ∨ k = 1 → ¬ lnP o tx tx k := fun k hk z => by
  rcases z with z | z
  · exact hne z.1.symm
  · have := z.2; omega
theorem lnP_o {o tx : Nat} (hne : o ≠ tx) : ∀ k, k = 1 ∨ k = 2 ∨ k = 3 ∨ k = 4 ∨ k = 5 → ¬ lnP o tx o k := fun k hk z => by
  rcases z with z | z
  · have := z.2; omega
  · exact hne z.1
theorem TH.kq {κ κ2 : KS} {o : Nat} {D : PD} {i : Nat} {P : Nat → Nat → Prop} (h : TH κ o D i) (q : kq P κ κ2) (hp : ∀ k, k = 1 ∨ k = 2 ∨ k = 3 ∨ k = 4 ∨ k = 5 → ¬ P o k) : TH κ2 o D i := by
  obtain ⟨h1, h2, h3, h4, h5, h6⟩ := h
  exact ⟨h1, h2, h3, (q o 1 (hp 1 (by omega))).1.trans h4, (q o 2 (hp 2 (by omega))).1.trans h5, (q o 3 (hp 3 (by omega))).1.trans h6⟩
/-- the spots that are learnt -/
def lS (κ : KS) (o : Nat) (D : PD) (i s : Nat) : Prop := κ.2 o 6 s = nI (D 7 (7 * i + s)) ∧ κ.2 o 7 s = nI (D 8 (7 * i + s)) ∧ κ.2 o 11 s = if stD (D 0 i) s = true then 0 else 1000000
section M77
variable {Γ : Gm} {μ : Mem} {b : Kb} {κ : KS} {o : Nat}
theorem k_learn {D : PD} {i tx tn : Nat} (hK : KO μ b o (kci (D 0 i)) thL) (hT : TH κ o D i) (hX : KO μ b tx 8 (tLen tn)) (htn : tn ≠ 0) (htn2 : tn < 2 ^ 31) (hne : o ≠ tx) (ht : tOk κ tx) (hV : TV κ tx tn o D i) : XM Γ zX9_learn 5 0 0 [.ref (adO b o), .ref (adO b tx)] (KV μ b κ) (fun r μ2 => ∃ κ2, r = none ∧ μ2 = KV μ b κ2 ∧ kq (lnP o tx) κ κ2 ∧ LN κ2 o D i) := by
  refine XM.of 1 rfl (by decide) (Nat.le_of_ble_eq_true rfl) ?_
  have hth := kci_th (D 0 i)
  have tv : ∀ κ2, kq (lnP o tx) κ κ2 → ∀ x pl gs, tVal κ2 tx tn o x pl gs = tVal κ tx tn o x pl gs := fun κ2 hq x pl gs => tV_kq hq (lnP_t hne) (fun k hk => lnP_o hne k (by omega)) x pl gs
  have tk : ∀ κ2, kq (lnP o tx) κ κ2 → tOk κ2 tx := fun κ2 hq x hx => by
    rw [(hq tx 1 (lnP_t hne 1 (by omega))).2]
    exact ht x hx
  have tmono : ∀ a k, tP tx a k → lnP o tx a k := fun a k z => Or.inr z
  have keep : ∀ (κ2 κ3 : KS), kq (tP tx) κ2 κ3 → ∀ k, κ3.2 o k = κ2.2 o k := fun κ2 κ3 hq k => (hq o k (fun z => hne z.1)).2
  have L3 : ∀ (m j : Nat) (κ2 : KS), j + m = 16 → kq (lnP o tx) κ κ2 → (∀ s, s < 7 → lS κ2 o D i s) → (∀ c, c < 5 → κ2.2 o 8 c = nI (D 9 (5 * i + c))) → (∀ x, x < j → κ2.2 o 9 x = nI (ofsD D i x 4)) → WA Γ zX9_learn (xrm 5 0 0) 0 0 0 0 (fun r μ2 => ∃ κ2, r = none ∧ μ2 = KV μ b κ2 ∧ kq (lnP o tx) κ κ2 ∧ LN κ2 o D i) 105 [some (.ref (adO b o)), some (.ref (adO b tx)), some (.int (nI j))] [] (KV μ b κ2) := by
    intro m
    induction m with
    | zero =>
      intro j κ2 hj hq h1 h2 h3
      obtain rfl : j = 16 := by omega
      have hT2 := hT.kq hq (lnP_o hne)
      refine x_iload_n (pc := 105) dX9_learn_105 rfl ?_
      refine x_bipush (pc := 106) (v := 16) dX9_learn_106 rfl ?_
      refine x_icmp_ge (pc := 108) (tgt := 128) dX9_learn_108 rfl (fun h_108 => ?_) (fun h_108 => absurd (by decide) h_108)
      refine x_aload_n (pc := 128) dX9_learn_128 rfl ?_
      refine x_aload_n (pc := 129) dX9_learn_129 rfl ?_
      refine x_callU (pc := 130) (As := []) dX9_learn_130 (mMi hth) (lv_9_75 hth) hK.2.2.1 (k_msV hT.1 hK) rfl rfl (Nat.le_of_ble_eq_true rfl) ⟨by decide, by decide⟩ ⟨Nat.zero_le _, Nat.zero_le _⟩ (k_rt ?_)
      rw [hT2.2.2.2.2.1, (ms_a (D 0 i) hT.1 (D 1 i) hT.2.1).1]
      refine k_putI (pc := 133) hK dX9_learn_133 (fk_9_28 hth) (Or.inl (th_f hth (by decide))) (Or.inl (th_i hth (by decide))) ?_
      refine x_return (pc := 136) dX9_learn_136 rfl ?_
      refine ⟨_, rfl, rfl, hq.I (Or.inl ⟨rfl, by omega⟩), fun s hs => h1 s hs, h2, h3, ?_⟩
      exact up2_s
    | succ m ih =>
      intro j κ2 hj hq h1 h2 h3
      have hT2 := hT.kq hq (lnP_o hne)
      refine x_iload_n (pc := 105) dX9_learn_105 rfl ?_
      refine x_bipush (pc := 106) (v := 16) dX9_learn_106 rfl ?_
      refine x_icmp_ge (pc := 108) (tgt := 128) dX9_learn_108 rfl (fun h_108 => absurd h_108 (lit_le (n := 16) j (by omega) (by omega))) (fun h_108 => ?_)
      refine x_aload_n (pc := 111) dX9_learn_111 rfl ?_
      refine k_getA (pc := 112) hK dX9_learn_112 (fk_9_25 hth) (th_a hth (by decide)) (by decide) ?_
      refine x_iload_n (pc := 115) dX9_learn_115 rfl ?_
      refine x_aload_n (pc := 116) dX9_learn_116 rfl ?_
      refine x_iload_n (pc := 117) dX9_learn_117 rfl ?_
      refine x_callP (pc := 118) (As := [.int _]) dX9_learn_118 mX9_offenceTo lp_9_71 (isTh_lt hth) hK.2.2.1 (k_offenceTo hK hT2 (by omega)) rfl rfl (Nat.le_of_ble_eq_true rfl) ⟨by decide, by decide⟩ ⟨Nat.zero_le _, Nat.zero_le _⟩ (k_rt ?_)
      refine k_iast (pc := 121) hK dX9_learn_121 (rfl) (by show j < 16; omega) (by decide) ?_
      refine x_iinc (pc := 122) (lv2 := [_, _, _]) dX9_learn_122 (by decide) rfl rfl (nI_1 _) rfl ?_
      refine x_goto (pc := 125) (tgt := 105) dX9_learn_125 rfl ?_
      refine ih (j + 1) _ (by omega) (hq.A (Or.inl ⟨rfl, by omega⟩)) (fun s hs => ?_) (fun c hc => ?_) (fun x hx => ?_)
      · have := h1 s hs
        unfold lS at this ⊢
        rw [show (kA κ2 o 9 j (nI (ofsD D i j 4))).2 o 6 = κ2.2 o 6 from up3_n (Or.inr (by decide)), show (kA κ2 o 9 j (nI (ofsD D i j 4))).2 o 7 = κ2.2 o 7 from up3_n (Or.inr (by decide)), show (kA κ2 o 9 j (nI (ofsD D i j 4))).2 o 11 = κ2.2 o 11 from up3_n (Or.inr (by decide))]
        exact this
      · rw [show (kA κ2 o 9 j (nI (ofsD D i j 4))).2 o 8 = κ2.2 o 8 from up3_n (Or.inr (by decide))]
        exact h2 c hc
      · rcases Nat.lt_or_ge x j with q | q
        · rw [show (kA κ2 o 9 j (nI (ofsD D i j 4))).2 o 9 x = κ2.2 o 9 x from up3_i (by omega)]
          exact h3 x q
        · obtain rfl : x = j := by omega
          exact up3_s
  have L2 : ∀ (m j : Nat) (κ2 : KS), j + m = 5 → kq (lnP o tx) κ κ2 → (∀ s, s < 7 → lS κ2 o D i s) → (∀ c, c < j → κ2.2 o 8 c = nI (D 9 (5 * i + c))) → WA Γ zX9_learn (xrm 5 0 0) 0 0 0 0 (fun r μ2 => ∃ κ2, r = none ∧ μ2 = KV μ b κ2 ∧ kq (lnP o tx) κ κ2 ∧ LN κ2 o D i) 78 [some (.ref (adO b o)), some (.ref (adO b tx)), some (.int (nI j))] [] (KV μ b κ2) := by
    intro m
    induction m with
    | zero =>
      intro j κ2 hj hq h1 h2
      obtain rfl : j = 5 := by omega
      refine x_iload_n (pc := 78) dX9_learn_78 rfl ?_
      refine x_iconst (pc := 79) (v := 4) dX9_learn_79 rfl ?_
      refine x_icmp_gt (pc := 80) (tgt := 103) dX9_learn_80 rfl (fun h_80 => ?_) (fun h_80 => absurd (by decide) h_80)
      refine x_iconst (pc := 103) (v := 0) dX9_learn_103 rfl ?_
      refine x_istore_n (pc := 104) (lv2 := [_, _, _]) dX9_learn_104 (by decide) rfl rfl ?_
      exact L3 16 0 κ2 (by omega) hq h1 h2 (fun x hx => absurd hx (by omega))
    | succ m ih =>
      intro j κ2 hj hq h1 h2
      obtain ⟨sx, hsx, es⟩ := tk κ2 hq 2 (by omega)
      have ev := (tv κ2 hq 2 0 (nI j)).trans (hV.2.2 j (by omega))
      refine x_iload_n (pc := 78) dX9_learn_78 rfl ?_
      refine x_iconst (pc := 79) (v := 4) dX9_learn_79 rfl ?_
      refine x_icmp_gt (pc := 80) (tgt := 103) dX9_learn_80 rfl (fun h_80 => absurd h_80 (Int32.not_lt.mpr (nI_le (b := 4) (by omega) (by omega)))) (fun h_80 => ?_)
      refine x_aload_n (pc := 83) dX9_learn_83 rfl ?_
      refine k_getA (pc := 84) hK dX9_learn_84 (fk_9_22 hth) (th_a hth (by decide)) (by decide) ?_
      refine x_iload_n (pc := 87) dX9_learn_87 rfl ?_
      refine x_aload_n (pc := 88) dX9_learn_88 rfl ?_
      refine x_iconst (pc := 89) (v := 2) dX9_learn_89 rfl ?_
      refine x_aload_n (pc := 90) dX9_learn_90 rfl ?_
      refine x_iconst (pc := 91) (v := 0) dX9_learn_91 rfl ?_
      refine x_iload_n (pc := 92) dX9_learn_92 rfl ?_
      refine x_callV (pc := 93) (As := [.int (nI 2), .ref _, .int _, .int _]) dX9_learn_93 mX8_tells lk_9_56 hX.2.2.1 (k_tells (x := 2) hX htn htn2 hth hK hne (by omega) es hsx _ _) rfl rfl (Nat.le_of_ble_eq_true rfl) ⟨by decide, by decide⟩ ⟨Nat.zero_le _, Nat.zero_le _⟩ (fun r μ2 hq3 => ?_)
      obtain ⟨κ3, rfl, rfl, hq4⟩ := hq3
      rw [ev]
      have kp := keep κ2 κ3 hq4
      refine k_iast (pc := 96) hK dX9_learn_96 (rfl) (by show j < 5; omega) (by decide) ?_
      refine x_iinc (pc := 97) (lv2 := [_, _, _]) dX9_learn_97 (by decide) rfl rfl (nI_1 _) rfl ?_
      refine x_goto (pc := 100) (tgt := 78) dX9_learn_100 rfl ?_
      refine ih (j + 1) _ (by omega) ((hq.trans (hq4.mono tmono)).A (Or.inl ⟨rfl, by omega⟩)) (fun s hs => ?_) (fun c hc => ?_)
      · have := h1 s hs
        unfold lS at this ⊢
        rw [show (kA κ3 o 8 j (nI (D 9 (5 * i + j)))).2 o 6 = κ2.2 o 6 from (up3_n (Or.inr (by decide))).trans (kp 6), show (kA κ3 o 8 j (nI (D 9 (5 * i + j)))).2 o 7 = κ2.2 o 7 from (up3_n (Or.inr (by decide))).trans (kp 7), show (kA κ3 o 8 j (nI (D 9 (5 * i + j)))).2 o 11 = κ2.2 o 11 from (up3_n (Or.inr (by decide))).trans (kp 11)]
        exact this
      · rcases Nat.lt_or_ge c j with q | q
        · rw [show (kA κ3 o 8 j (nI (D 9 (5 * i + j)))).2 o 8 c = κ3.2 o 8 c from up3_i (by omega), kp]
          exact h2 c q
        · obtain rfl : c = j := by omega
          exact up3_s
  have L1 : ∀ (m j : Nat) (κ2 : KS), j + m = 7 → kq (lnP o tx) κ κ2 → (∀ s, s < j → lS κ2 o D i s) → WA Γ zX9_learn (xrm 5 0 0) 0 0 0 0 (fun r μ2 => ∃ κ2, r = none ∧ μ2 = KV μ b κ2 ∧ kq (lnP o tx) κ κ2 ∧ LN κ2 o D i) 2 [some (.ref (adO b o)), some (.ref (adO b tx)), some (.int (nI j))] [] (KV μ b κ2) := by
    intro m
    induction m with
    | zero =>
      intro j κ2 hj hq h1
      obtain rfl : j = 7 := by omega
      refine x_iload_n (pc := 2) dX9_learn_2 rfl ?_
      refine x_bipush (pc := 3) (v := 7) dX9_learn_3 rfl ?_
      refine x_icmp_ge (pc := 5) (tgt := 76) dX9_learn_5 rfl (fun h_5 => ?_) (fun h_5 => absurd (by decide) h_5)
      refine x_iconst (pc := 76) (v := 0) dX9_learn_76 rfl ?_
      refine x_istore_n (pc := 77) (lv2 := [_, _, _]) dX9_learn_77 (by decide) rfl rfl ?_
      exact L2 5 0 κ2 (by omega) hq h1 (fun x hx => absurd hx (by omega))
    | succ m ih =>
      intro j κ2 hj hq h1
      have hj7 : j < 7 := by omega
      have evm := (tv κ2 hq 0 (spl j) 0).trans (hV.1 j hj7).1
      -- the end of a turn: what the row of ugly and that of the barred come to
      have F : ∀ (κ3 κ4 : KS) (u v : Int32), kq (tP tx) κ2 κ3 → kq (tP tx) (kA κ3 o 6 j (nI (D 7 (7 * i + j)))) κ4 → u = nI (D 8 (7 * i + j)) → v = (if stD (D 0 i) j = true then 0 else 1000000) → WA Γ zX9_learn (xrm 5 0 0) 0 0 0 0 (fun r μ2 => ∃ κ2, r = none ∧ μ2 = KV μ b κ2 ∧ kq (lnP o tx) κ κ2 ∧ LN κ2 o D i) 2 [some (.ref (adO b o)), some (.ref (adO b tx)), some (.int (nI (j + 1)))] [] (KV μ b (kA (kA κ4 o 7 j u) o 11 j v)) := by
        intro κ3 κ4 u v g3 g4 hu hv
        have k3 := keep _ _ g3
        have k4 := keep _ _ g4
        have q4 : kq (lnP o tx) κ κ4 := (((hq.trans (g3.mono tmono)).A (Or.inl ⟨rfl, by omega⟩) : kq (lnP o tx) κ (kA κ3 o 6 j (nI (D 7 (7 * i + j)))))).trans (g4.mono tmono)
        refine ih (j + 1) _ (by omega) ((q4.A (Or.inl ⟨rfl, by omega⟩)).A (Or.inl ⟨rfl, by omega⟩)) (fun s hs => ?_)
        have e6 : (kA (kA κ4 o 7 j u) o 11 j v).2 o 6 = va_up (κ2.2 o 6) j (nI (D 7 (7 * i + j))) := by
          rw [show (kA (kA κ4 o 7 j u) o 11 j v).2 o 6 = κ4.2 o 6 from (up3_n (Or.inr (by decide))).trans (up3_n (Or.inr (by decide))), k4 6, show (kA κ3 o 6 j (nI (D 7 (7 * i + j)))).2 o 6 = va_up (κ3.2 o 6) j (nI (D 7 (7 * i + j))) from up3_r, k3 6]
        have e7 : (kA (kA κ4 o 7 j u) o 11 j v).2 o 7 = va_up (κ2.2 o 7) j u := by
          rw [show (kA (kA κ4 o 7 j u) o 11 j v).2 o 7 = (kA κ4 o 7 j u).2 o 7 from up3_n (Or.inr (by decide)), show (kA κ4 o 7 j u).2 o 7 = va_up (κ4.2 o 7) j u from up3_r, k4 7, show (kA κ3 o 6 j (nI (D 7 (7 * i + j)))).2 o 7 = κ3.2 o 7 from up3_n (Or.inr (by decide)), k3 7]
        have e11 : (kA (kA κ4 o 7 j u) o 11 j v).2 o 11 = va_up (κ2.2 o 11) j v := by
          rw [show (kA (kA κ4 o 7 j u) o 11 j v).2 o 11 = va_up ((kA κ4 o 7 j u).2 o 11) j v from up3_r, show (kA κ4 o 7 j u).2 o 11 = κ4.2 o 11 from up3_n (Or.inr (by decide)), k4 11, show (kA κ3 o 6 j (nI (D 7 (7 * i + j)))).2 o 11 = κ3.2 o 11 from up3_n (Or.inr (by decide)), k3 11]
        unfold lS
        rw [e6, e7, e11]
        rcases Nat.lt_or_ge s j with q | q
        · rw [va_up_n (by omega), va_up_n (by omega), va_up_n (by omega)]
          exact h1 s q
        · obtain rfl : s = j := by omega
          rw [va_up_s, va_up_s, va_up_s]
          exact ⟨rfl, hu, hv⟩
      by_cases hj0 : j = 0
      · refine x_iload_n (pc := 2) dX9_learn_2 rfl ?_
        refine x_bipush (pc := 3) (v := 7) dX9_learn_3 rfl ?_
        refine x_icmp_ge (pc := 5) (tgt := 76) dX9_learn_5 rfl (fun h_5 => absurd h_5 (lit_le (n := 7) j (by omega) (by omega))) (fun h_5 => ?_)
        refine x_aload_n (pc := 8) dX9_learn_8 rfl ?_
        refine k_getA (pc := 9) hK dX9_learn_9 (fk_9_15 hth) (th_a hth (by decide)) (by decide) ?_
        refine x_iload_n (pc := 12) dX9_learn_12 rfl ?_
        refine x_aload_n (pc := 13) dX9_learn_13 rfl ?_
        refine x_aload_n (pc := 14) dX9_learn_14 rfl ?_
        refine x_iload_n (pc := 15) dX9_learn_15 rfl ?_
        refine x_callU (pc := 16) (As := [.ref _, .int _]) dX9_learn_16 mX9_movesTo (lt_9_62 hth) hK.2.2.1 (k_movesTo hth hK hX htn htn2 hne hj7 (tk κ2 hq)) rfl rfl (Nat.le_of_ble_eq_true rfl) ⟨by decide, by decide⟩ ⟨Nat.zero_le _, Nat.zero_le _⟩ (fun r μ2 hq3 => ?_)
        obtain ⟨κ3, rfl, rfl, hq4⟩ := hq3
        rw [evm]
        refine k_iast (pc := 19) hK dX9_learn_19 (rfl) (by show j < 7; omega) (by decide) ?_
        refine x_aload_n (pc := 20) dX9_learn_20 rfl ?_
        refine k_getA (pc := 21) hK dX9_learn_21 (fk_9_19 hth) (th_a hth (by decide)) (by decide) ?_
        refine x_iload_n (pc := 24) dX9_learn_24 rfl ?_
        refine x_iload_n (pc := 25) dX9_learn_25 rfl ?_
        refine x_if_ne (pc := 26) (tgt := 33) dX9_learn_26 rfl (fun h_26 => absurd (by rw [hj0]; rfl) h_26) (fun h_26 => ?_)
        refine x_iconst (pc := 29) (v := 0) dX9_learn_29 rfl ?_
        refine x_goto (pc := 30) (tgt := 43) dX9_learn_30 rfl ?_
        refine k_iast (pc := 43) hK dX9_learn_43 (rfl) (by show j < 7; omega) (by decide) ?_
        refine x_aload_n (pc := 44) dX9_learn_44 rfl ?_
        refine k_getA (pc := 45) hK dX9_learn_45 (fk_9_31 hth) (th_a hth (by decide)) (by decide) ?_
        refine x_iload_n (pc := 48) dX9_learn_48 rfl ?_
        refine x_iload_n (pc := 49) dX9_learn_49 rfl ?_
        refine x_if_eq (pc := 50) (tgt := 63) dX9_learn_50 rfl (fun h_50 => ?_) (fun h_50 => absurd (by rw [hj0]; rfl) h_50)
        refine x_iconst (pc := 63) (v := 0) dX9_learn_63 rfl ?_
        refine x_goto (pc := 64) (tgt := 69) dX9_learn_64 rfl ?_
        refine k_iast (pc := 69) hK dX9_learn_69 (rfl) (by show j < 7; omega) (by decide) ?_
        refine x_iinc (pc := 70) (lv2 := [_, _, _]) dX9_learn_70 (by decide) rfl rfl (nI_1 _) rfl ?_
        refine x_goto (pc := 73) (tgt := 2) dX9_learn_73 rfl ?_
        refine F κ3 _ _ _ hq4 kq.rf ?_ ?_
        · rw [hj0, show 7 * i + 0 = 7 * i by omega, hV.2.1]
          rfl
        · rw [hj0]
          rfl
      · refine x_iload_n (pc := 2) dX9_learn_2 rfl ?_
        refine x_bipush (pc := 3) (v := 7) dX9_learn_3 rfl ?_
        refine x_icmp_ge (pc := 5) (tgt := 76) dX9_learn_5 rfl (fun h_5 => absurd h_5 (lit_le (n := 7) j (by omega) (by omega))) (fun h_5 => ?_)
        refine x_aload_n (pc := 8) dX9_learn_8 rfl ?_
        refine k_getA (pc := 9) hK dX9_learn_9 (fk_9_15 hth) (th_a hth (by decide)) (by decide) ?_
        refine x_iload_n (pc := 12) dX9_learn_12 rfl ?_
        refine x_aload_n (pc := 13) dX9_learn_13 rfl ?_
        refine x_aload_n (pc := 14) dX9_learn_14 rfl ?_
        refine x_iload_n (pc := 15) dX9_learn_15 rfl ?_
        refine x_callU (pc := 16) (As := [.ref _, .int _]) dX9_learn_16 mX9_movesTo (lt_9_62 hth) hK.2.2.1 (k_movesTo hth hK hX htn htn2 hne hj7 (tk κ2 hq)) rfl rfl (Nat.le_of_ble_eq_true rfl) ⟨by decide, by decide⟩ ⟨Nat.zero_le _, Nat.zero_le _⟩ (fun r μ2 hq3 => ?_)
        obtain ⟨κ3, rfl, rfl, hq4⟩ := hq3
        rw [evm]
        refine k_iast (pc := 19) hK dX9_learn_19 (rfl) (by show j < 7; omega) (by decide) ?_
        refine x_aload_n (pc := 20) dX9_learn_20 rfl ?_
        refine k_getA (pc := 21) hK dX9_learn_21 (fk_9_19 hth) (th_a hth (by decide)) (by decide) ?_
        refine x_iload_n (pc := 24) dX9_learn_24 rfl ?_
        refine x_iload_n (pc := 25) dX9_learn_25 rfl ?_
        refine x_if_ne (pc := 26) (tgt := 33) dX9_learn_26 rfl (fun h_26 => ?_) (fun h_26 => absurd h_26 (nI_ne0 (by omega) (by omega)))
        refine x_aload_n (pc := 33) dX9_learn_33 rfl ?_
        refine x_iconst (pc := 34) (v := 1) dX9_learn_34 rfl ?_
        refine x_aload_n (pc := 35) dX9_learn_35 rfl ?_
        refine x_iload_n (pc := 36) dX9_learn_36 rfl ?_
        refine x_iconst (pc := 37) (v := 1) dX9_learn_37 rfl ?_
        refine x_isub (pc := 38) dX9_learn_38 ?_
        refine x_iconst (pc := 39) (v := 0) dX9_learn_39 rfl ?_
        have q3 : kq (lnP o tx) κ (kA κ3 o 6 j (nI (D 7 (7 * i + j)))) := (hq.trans (hq4.mono tmono)).A (Or.inl ⟨rfl, by omega⟩)
        obtain ⟨sx, hsx, es⟩ := tk _ q3 1 (by omega)
        have evu := (tv _ q3 1 (nI j - 1) 0).trans ((hV.1 j hj7).2 hj0)
        refine x_callV (pc := 40) (As := [.int (nI 1), .ref _, .int _, .int _]) dX9_learn_40 mX8_tells lk_9_56 hX.2.2.1 (k_tells (x := 1) hX htn htn2 hth hK hne (by omega) es hsx _ _) rfl rfl (Nat.le_of_ble_eq_true rfl) ⟨by decide, by decide⟩ ⟨Nat.zero_le _, Nat.zero_le _⟩ (fun r μ2 hq5 => ?_)
        obtain ⟨κ4, rfl, rfl, hq6⟩ := hq5
        rw [evu]
        refine k_iast (pc := 43) hK dX9_learn_43 (rfl) (by show j < 7; omega) (by decide) ?_
        refine x_aload_n (pc := 44) dX9_learn_44 rfl ?_
        refine k_getA (pc := 45) hK dX9_learn_45 (fk_9_31 hth) (th_a hth (by decide)) (by decide) ?_
        refine x_iload_n (pc := 48) dX9_learn_48 rfl ?_
        refine x_iload_n (pc := 49) dX9_learn_49 rfl ?_
        refine x_if_eq (pc := 50) (tgt := 63) dX9_learn_50 rfl (fun h_50 => absurd h_50 (nI_ne0 (by omega) (by omega))) (fun h_50 => ?_)
        refine x_aload_n (pc := 53) dX9_learn_53 rfl ?_
        refine x_iload_n (pc := 54) dX9_learn_54 rfl ?_
        refine x_iconst (pc := 55) (v := 1) dX9_learn_55 rfl ?_
        refine x_isub (pc := 56) dX9_learn_56 ?_
        refine x_callU (pc := 57) (As := [.int _]) dX9_learn_57 (mS hth) (lv_9_66 hth) hK.2.2.1 (k_stV (μ := KV μ b _) (q := adO b o) hT.1 hK.2.2.1 _) rfl rfl (Nat.le_of_ble_eq_true rfl) ⟨by decide, by decide⟩ ⟨Nat.zero_le _, Nat.zero_le _⟩ (k_rt ?_)
        refine x_if_eq (pc := 60) (tgt := 67) dX9_learn_60 rfl (fun h_60 => ?_) (fun h_60 => ?_)
        · refine x_ldc (pc := 67) dX9_learn_67 kc_9_70 ?_
          refine k_iast (pc := 69) hK dX9_learn_69 (rfl) (by show j < 7; omega) (by decide) ?_
          refine x_iinc (pc := 70) (lv2 := [_, _, _]) dX9_learn_70 (by decide) rfl rfl (nI_1 _) rfl ?_
          refine x_goto (pc := 73) (tgt := 2) dX9_learn_73 rfl ?_
          refine F κ3 κ4 _ _ hq4 hq6 rfl ?_
          have es := st_a (D 0 i) hT.1 j hj7
          first
            | rw [if_pos (es.mpr (Or.inr (by first | exact h_60 | exact fun z => h_60 z)))]
            | (rw [if_neg (fun z => (es.mp z).elim (fun y => hj0 y) (fun y => y (by first | exact h_60 | exact Decidable.not_not.mp h_60)))])
        · refine x_iconst (pc := 63) (v := 0) dX9_learn_63 rfl ?_
          refine x_goto (pc := 64) (tgt := 69) dX9_learn_64 rfl ?_
          refine k_iast (pc := 69) hK dX9_learn_69 (rfl) (by show j < 7; omega) (by decide) ?_
          refine x_iinc (pc := 70) (lv2 := [_, _, _]) dX9_learn_70 (by decide) rfl rfl (nI_1 _) rfl ?_
          refine x_goto (pc := 73) (tgt := 2) dX9_learn_73 rfl ?_
          refine F κ3 κ4 _ _ hq4 hq6 rfl ?_
          have es := st_a (D 0 i) hT.1 j hj7
          first
            | rw [if_pos (es.mpr (Or.inr (by first | exact h_60 | exact fun z => h_60 z)))]
            | (rw [if_neg (fun z => (es.mp z).elim (fun y => hj0 y) (fun y => y (by first | exact h_60 | exact Decidable.not_not.mp h_60)))])
  refine x_iconst (pc := 0) (v := 0) dX9_learn_0 rfl ?_
  refine x_istore_n (pc := 1) (lv2 := [_, _, _]) dX9_learn_1 (by decide) rfl rfl ?_
  exact L1 7 0 κ (by omega) kq.rf (fun s hs => absurd hs (by omega))
end M77
