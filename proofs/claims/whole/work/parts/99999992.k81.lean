/-! both go on together: put, set -/
section M99999992
variable {Γ : Gm} {σ s : MS} {κ κ2 : KS} {kd : Nat → Nat} {kp : Bool} {n nt : Nat} {tn : Nat → Nat}
theorem JP {zc zm : Mt} {dc dm : Nat} {As : List Value} (h : ∀ (μ : Mem) (b : Kb) (κ : KS) (σ : MS) (kd : Nat → Nat) (kp : Bool) (n nt : Nat) (tn : Nat → Nat), CI μ b kd kp 4 nt tn → BRe σ κ kd kp n nt tn → ∃ (v : Int32) (C : KS → Prop) (E : MS → Prop), XM Γ zc dc 0 0 (.ref (adO b 0) :: As) (KV μ b κ) (fun r M => ∃ κ2, r = some (.int v) ∧ M = KV μ b κ2 ∧ C κ2) ∧ (∀ (μ' : Mem) (a : Ma), MOK μ' a → XM Γ zm dm 0 0 (.ref a.1 :: As) (MV μ' a σ) (fun r M => ∃ s, r = some (.int v) ∧ M = MV μ' a s ∧ E s)) ∧ ∀ κ2 s, C κ2 → E s → BRe s κ2 kd kp n nt tn) : JX Γ zc zm dc 0 0 dm As := by
  intro μ b κ σ kd kp n nt tn hI hB
  obtain ⟨v, C, E, h1, h2, h3⟩ := h μ b κ σ kd kp n nt tn hI hB
  refine ⟨v, fun κ3 kd2 kp2 n2 nt2 tn2 => C κ3 ∧ kd2 = kd ∧ kp2 = kp ∧ n2 = n ∧ nt2 = nt ∧ tn2 = tn, E, XM_post h1 (fun x M hx => ?_), fun μ' a hM => XM_post (h2 μ' a hM) (fun x M hx => ?_), ?_⟩
  · obtain ⟨κ2, rfl, rfl, q⟩ := hx
    exact ⟨rfl, μ, b, κ2, kd, kp, n, nt, tn, rfl, hI, FO_any, rfl, q, rfl, rfl, rfl, rfl, rfl⟩
  · obtain ⟨s, rfl, rfl, q⟩ := hx
    exact ⟨rfl, s, rfl, q⟩
  · rintro κ3 kd2 kp2 n2 nt2 tn2 σ2 ⟨q, rfl, rfl, rfl, rfl, rfl⟩ hE
    exact h3 κ3 σ2 q hE
theorem J_put (t p : Int32) : JX Γ zX11_put zX12_put 4 0 0 50 [.int t, .int p] := JP fun μ b κ σ kd kp n nt tn hI hB => by
  obtain ⟨hA, hH, hT, hX, hP, hS, hI2⟩ := id hB
  obtain ⟨⟨r, r1, r2, r3⟩, x1, x2, x3, x4⟩ := id hX
  obtain ⟨m, m1, m2, m3, m4⟩ := x4 r r1
  obtain ⟨o1, o2, o3⟩ := TR_ok m1 (by omega) m3 m4
  have hrl : rlO σ r m := ⟨r2, by omega, m2, m1, m3⟩
  have hn := hA.1
  have hc := k_put (Γ := Γ) (κ := κ) hI t p hA.2.2.1 hn (kdB hB) r1 x1 r3 ⟨o1, by omega, o3⟩
  have hm : ∀ (μ' : Mem) (a : Ma), MOK μ' a → _ := fun μ' a hM => c_put (Γ := Γ) (σ := σ) hM t p hA.2.1 hn hrl
  have hpp : (p = -1 ∨ (0 ≤ p ∧ p < 6)) ↔ (p = -1 ∨ (0 ≤ p ∧ p ≤ 5)) := or_congr_right x6
  have same : ∀ v : Int32, (∀ w κ2, puK κ kd n r tn t p w κ2 → w = v ∧ κ2 = κ) → (∀ (μ' : Mem) (a : Ma), MOK μ' a → XM Γ zX12_put 50 0 0 (.ref a.1 :: [.int t, .int p]) (MV μ' a σ) (fun r M => r = some (.int v) ∧ M = MV μ' a σ)) → ∃ (v : Int32) (C : KS → Prop) (E : MS → Prop), XM Γ zX11_put 4 0 0 (.ref (adO b 0) :: [.int t, .int p]) (KV μ b κ) (fun r M => ∃ κ2, r = some (.int v) ∧ M = KV μ b κ2 ∧ C κ2) ∧ (∀ (μ' : Mem) (a : Ma), MOK μ' a → XM Γ zX12_put 50 0 0 (.ref a.1 :: [.int t, .int p]) (MV μ' a σ) (fun r M => ∃ s, r = some (.int v) ∧ M = MV μ' a s ∧ E s)) ∧ ∀ κ2 s, C κ2 → E s → BRe s κ2 kd kp n nt tn := fun v h1 h2 => by
    refine ⟨v, fun κ2 => κ2 = κ, fun s => s = σ, XM_post hc (fun x M hx => ?_), fun μ' a hM => XM_post (h2 μ' a hM) (fun x M hx => ⟨σ, hx.1, hx.2, rfl⟩), ?_⟩
    · obtain ⟨w, κ2, rfl, rfl, q⟩ := hx
      obtain ⟨e1, e2⟩ := h1 w κ2 q
      exact ⟨κ2, by rw [e1], rfl, e2⟩
    · rintro κ2 s rfl rfl
      exact hB
  by_cases hg : (0 ≤ t ∧ t < nI n) ∧ (p = -1 ∨ (0 ≤ p ∧ p < 6))
  · obtain ⟨i, hi, rfl⟩ := ixD (n := n) hg.1 (by omega)
    have hp5 := hpp.mp hg.2
    have eI : ∀ j, j < n → nI i = nI j → j = i := fun j hj e => by
      have := congrArg nn e
      rw [nn_nI (by omega), nn_nI (by omega)] at this
      exact this.symm
    obtain ⟨t0, t2, t3, t4, t5⟩ := BT_t hT hn hi
    have e0 : σ.2.2 10 i = nI (kd i) := (hT.1 i (by omega)).2.1
    have tk_ : (∃ t, t < n ∧ κ.1 (15 + t) 5 = p) ↔ tkn σ p n := ⟨fun ⟨t, h1, h2⟩ => ⟨t, h1, (BT_t hT hn h1).2.2.2.2 ▸ h2⟩, fun ⟨t, h1, h2⟩ => ⟨t, h1, (BT_t hT hn h1).2.2.2.2.trans h2⟩⟩
    have rule : ¬ (¬ (0 ≤ nI i ∧ nI i ≤ σ.1 15 - 1) ∨ (¬ p = -1 ∧ ¬ (0 ≤ p ∧ p ≤ 5))) := fun z => z.elim (fun z => z ((lt_n hB).mp hg.1)) (fun z => hp5.elim z.1 z.2)
    by_cases h1 : σ.2.2 14 i = p
    · refine same 0 (fun w κ2 q => ?_) (fun μ' a hM => XM_post (hm μ' a hM) (fun x M hx => ?_))
      · rcases q with q | ⟨j, hj, ej, -, q⟩
        · exact absurd hg q.1
        · obtain rfl := eI j hj ej
          rw [t5] at q
          rcases q with q | q | q
          · exact q.2
          · exact absurd h1 q.1
          · exact absurd h1 q.1
      · rcases hx with hx | ⟨j, hj, ej, -, q⟩
        · exact absurd hx.1 rule
        · obtain rfl := eI j hj ej
          rcases q with q | q | q
          · exact q.2
          · exact absurd h1.symm q.1
          · exact absurd h1.symm q.1
    · by_cases h2 : ¬ p = -1 ∧ (stI (nI (kd i)) p = 0 ∨ tkn σ p n)
      · have h3 : ¬ (p = -1 ∨ (¬ stI (nI (kd i)) p = 0 ∧ ¬ tkn σ p n)) := fun z => z.elim h2.1 (fun z => h2.2.elim z.1 z.2)
        refine same (-3) (fun w κ2 q => ?_) (fun μ' a hM => XM_post (hm μ' a hM) (fun x M hx => ?_))
        · rcases q with q | ⟨j, hj, ej, -, q⟩
          · exact absurd hg q.1
          · obtain rfl := eI j hj ej
            rw [t5, tk_] at q
            rcases q with q | q | q
            · exact absurd q.1 h1
            · exact q.2.2.2
            · exact absurd q.2.1 h3
        · rcases hx with hx | ⟨j, hj, ej, -, q⟩
          · exact absurd hx.1 rule
          · obtain rfl := eI j hj ej
            rw [e0] at q
            rcases q with q | q | q
            · exact absurd q.1.symm h1
            · exact q.2.2.2
            · exact absurd q.2.1 h3
      · have h3 : p = -1 ∨ (¬ stI (nI (kd i)) p = 0 ∧ ¬ tkn σ p n) := Classical.byContradiction fun z => h2 ⟨fun y => z (Or.inl y), Classical.byContradiction fun y => z (Or.inr ⟨fun u => y (Or.inl u), fun u => y (Or.inr u)⟩)⟩
        obtain ⟨s, hs, rfl⟩ : ∃ s, s < 7 ∧ p = nI s - 1 := by
          rcases hg.2 with e | h
          · exact ⟨0, by decide, e⟩
          · obtain ⟨j, hj, e⟩ := ixD (n := 6) h (by decide)
            exact ⟨j + 1, by omega, by rw [e, ← nI_1, Int32.add_sub_cancel]⟩
        have eS : ∀ s', s' < 7 → nI s - 1 = nI s' - 1 → s' = s := fun s' h' e => by
          have : nn (nI s - 1 + 1) = nn (nI s' - 1 + 1) := congrArg (fun z => nn (z + 1)) e
          rw [nI_p1 (by omega), nI_p1 (by omega)] at this
          exact this.symm
        have espl : (if nI s - 1 = -1 then 6 else nI s - 1) = spl s := by
          unfold spl
          by_cases hs0 : s = 0
          · subst hs0
            rfl
          · rw [if_neg hs0, if_neg (show ¬ nI s - 1 = -1 from fun e => hs0 (eS 0 (by decide) e).symm)]
        have hTR : TR (tA σ 14 i (nI s - 1)) (160 * r) m (kI κ (15 + i) 5 (nI s - 1)) (9 + r) (tn r) := TR_cg (σ := σ) (τ := tA σ 14 i (nI s - 1)) (κ := κ) (κ2 := kI κ (15 + i) 5 (nI s - 1)) rfl rfl rfl m4
        have hrl2 : rlO (tA σ 14 i (nI s - 1)) r m := hrl
        refine ⟨tVal (kI κ (15 + i) 5 (nI s - 1)) (9 + r) (tn r) (15 + i) 0 (spl s) 0, kq (tP (9 + r)) (kI κ (15 + i) 5 (nI s - 1)), gk (tA σ 14 i (nI s - 1)), XM_post hc (fun x M hx => ?_), fun μ' a hM => XM_post (hm μ' a hM) (fun x M hx => ?_), fun κ2 s2 hC hE => ?_⟩
        · obtain ⟨w, κ2, rfl, rfl, q⟩ := hx
          rcases q with q | ⟨j, hj, ej, -, q⟩
          · exact absurd hg q.1
          · obtain rfl := eI j hj ej
            rw [t5, tk_] at q
            rcases q with q | q | q
            · exact absurd q.1 h1
            · exact absurd ⟨q.2.1, q.2.2.1⟩ h2
            · obtain ⟨-, -, s', hs', es, rfl, q⟩ := q
              obtain rfl := eS s' hs' es
              exact ⟨κ2, rfl, rfl, q⟩
        · rcases hx with hx | ⟨j, hj, ej, -, q⟩
          · exact absurd hx.1 rule
          · obtain rfl := eI j hj ej
            rw [e0] at q
            rcases q with q | q | q
            · exact absurd q.1.symm h1
            · exact absurd ⟨q.2.1, q.2.2.1⟩ h2
            · obtain ⟨-, -, y, s2, rfl, rfl, hsv, hgk⟩ := q
              refine ⟨s2, ?_, rfl, hgk⟩
              obtain ⟨s0, tk, ta, ft, q1, q2⟩ := hsv
              rw [espl] at q2
              have hh := tR_says (part := 0) (pl := spl s) (gs := 0) (t := 15 + j) (i := j) (tk := tk) (ta := ta) (ft := ft) hrl2 hTR (by decide) q1 ((kI_n (Or.inr (by decide))).trans (hT.1 j (by omega)).2.2.2.1) ((kI_n (Or.inr (by decide))).trans t2) ((kI_n (Or.inr (by decide))).trans t3) ((kI_n (Or.inr (by decide))).trans t4)
              rw [q2, hh]
              rfl
        · have b14 : ∀ j, s2.2.2 14 j = if j = i then nI s - 1 else σ.2.2 14 j := fun j => by
            refine (congrFun (hE.2 14 (by decide) (by decide) (by decide)) j).trans ?_
            show up2 σ.2.2 14 i (nI s - 1) 14 j = _
            by_cases hj : j = i
            · rw [hj, up2_s, if_pos rfl]
            · rw [up2_n (Or.inr hj), if_neg hj]
          have hkq : kq (fun a k => scP a k ∨ tdP a k) κ κ2 := (kq.rf.I (Or.inr ⟨by omega, by omega, rfl⟩)).trans (hC.mono (fun a k z => Or.inl (by
            unfold tP at z
            unfold scP
            omega)))
          have hst : stD (kd i) s = true := (st_a (kd i) (hT.1 i (by omega)).1 s hs).mpr (h3.imp (fun e => (eS 0 (by decide) e).symm) (fun z => z.1))
          refine BR_fr hB (fun k hk => hE.1 k (by unfold pk at hk; omega)) (fun k hk h14 => (hE.2 k (by unfold pa at hk; omega) (by unfold pa at hk; omega) (by unfold pa at hk; omega)).trans (tA_n h14)) hkq ?_ (fun j hj => ?_) ⟨fun t ht => ?_, fun j k hjk hk e => ?_⟩
          · refine (congrFun ((hC 3 6 (by unfold tP; omega)).2) 0).trans ?_
            exact hA.2.2.2.2
          · rw [b14 j]
            by_cases hji : j = i
            · subst hji
              exact ⟨s, hs, if_pos rfl, fun _ => (hC (15 + j) 5 (by unfold tP; omega)).1.trans kI_s⟩
            · obtain ⟨-, -, -, -, -, -, -, v4, g1, g2, g3⟩ := hT.1 j hj
              refine ⟨v4, g1, (if_neg hji).trans g2, fun hjn => ?_⟩
              exact ((hC (15 + j) 5 (by unfold tP; omega)).1.trans (kI_n (Or.inl (by omega)))).trans (g3 hjn)
          · show stD (kd t) (nn (s2.2.2 14 t + 1)) = true
            rw [b14 t]
            by_cases hti : t = i
            · rw [if_pos hti, nI_p1 (by omega), hti]
              exact hst
            · rw [if_neg hti]
              exact hT.2.1 t ht
          · have e : nn (s2.2.2 14 j + 1) = nn (s2.2.2 14 k + 1) := e
            show nn (s2.2.2 14 j + 1) = 0
            have tkx : ∀ k, k < n → k ≠ i → s = nn (σ.2.2 14 k + 1) → s = 0 := fun k hk hki e => by
              obtain ⟨-, -, -, -, -, -, -, v4, g1, g2, -⟩ := hT.1 k (by omega)
              rw [g2, nI_p1 (by omega)] at e
              rcases h3 with h3 | h3
              · exact (eS 0 (by decide) h3).symm
              · exact absurd ⟨k, hk, by rw [g2, e]⟩ h3.2
            rw [b14 j, b14 k] at e
            rw [b14 j]
            by_cases hji : j = i
            · rw [if_pos hji, nI_p1 (by omega)] at e ⊢
              rw [if_neg (by omega)] at e
              exact tkx k hk (by omega) e
            · rw [if_neg hji] at e ⊢
              by_cases hki : k = i
              · rw [if_pos hki, nI_p1 (by omega)] at e
                rw [e]
                exact tkx j (by omega) hji e.symm
              · rw [if_neg hki] at e
                exact hT.2.2 j k hjk hk e
  · refine same (-2) (fun w κ2 q => ?_) (fun μ' a hM => XM_post (hm μ' a hM) (fun x M hx => ?_))
    · rcases q with q | ⟨j, hj, ej, hp, q⟩
      · exact q.2
      · exact absurd ⟨by rw [ej]; exact ⟨nI_pos' (by omega), (nI_ltI (by omega) (by omega)).mpr hj⟩, hp⟩ hg
    · rcases hx with hx | ⟨j, hj, ej, hp, q⟩
      · exact hx.2
      · exact absurd ⟨by rw [ej]; exact ⟨nI_pos' (by omega), (nI_ltI (by omega) (by omega)).mpr hj⟩, hpp.mpr hp⟩ hg
end M99999992
