/-! the class: text, thing -/
def thC (κ : KS) (kd : Nat → Nat) (n : Nat) (k x g v : Int32) (κ2 : KS) (kd2 : Nat → Nat) (n2 : Nat) : Prop := (¬ ((0 ≤ k ∧ k < 6) ∧ (0 ≤ x ∧ x < 100) ∧ (0 ≤ g ∧ g < 4)) ∧ v = -2 ∧ κ2 = κ ∧ kd2 = kd ∧ n2 = n) ∨ (((0 ≤ k ∧ k < 6) ∧ (0 ≤ x ∧ x < 100) ∧ (0 ≤ g ∧ g < 4)) ∧ n = 5 ∧ v = -4 ∧ κ2 = κ ∧ kd2 = kd ∧ n2 = n) ∨ (((0 ≤ k ∧ k < 6) ∧ (0 ≤ x ∧ x < 100) ∧ (0 ≤ g ∧ g < 4)) ∧ n < 5 ∧ v = nI n ∧ n2 = n + 1 ∧ (∃ j, j < 6 ∧ k = nI j ∧ kd2 = fun t => if t = n then j else kd t) ∧ (∀ a, a < 25 → a ≠ 15 + n → a ≠ 1 → κ2.1 a = κ.1 a ∧ κ2.2 a = κ.2 a) ∧ κ2.2 1 = κ.2 1 ∧ (∀ f, f ≠ 4 → κ2.1 1 f = κ.1 1 f) ∧ κ2.1 1 4 = nI (n + 1) ∧ TV0 κ2 (15 + n) k (nI n) x g)
section M9999992
variable {Γ : Gm} {μ μ2 : Mem} {b b2 : Kb} {κ κ2 : KS} {kd : Nat → Nat} {kp : Bool} {n k q ns nt : Nat} {tn : Nat → Nat}
theorem CI_th (h : CI μ b kd kp ns nt tn) (hns : ns ≤ 4) (hnt : nt ≤ 6) (hn : n < 5) (e3 : EV (fun x => x = 15 + n) μ b κ μ2 b2 κ2) (e2 : KF μ2 b2) (e1 : KV μ2 b2 κ2 = μ2) (e5 : adO b2 (15 + n) = q) (e6 : KO μ2 b2 (15 + n) (kci k) thL) : sX μ2 (adR b 1 3) n (some q) = KV (sX μ2 (adR b 1 3) n (some q)) b2 κ2 ∧ CI (sX μ2 (adR b 1 3) n (some q)) b2 (fun t => if t = n then k else kd t) kp ns nt tn ∧ (FO μ b κ μ2 b2 κ2 → FO μ b κ (sX μ2 (adR b 1 3) n (some q)) b2 κ2) ∧ (∀ a, a < 25 → a ≠ 15 + n → adO b2 a = adO b a ∧ κ2.1 a = κ.1 a ∧ κ2.2 a = κ.2 a) ∧ mT μ2 (adR b 1 3) = (4, 5) := by
  obtain ⟨h1, ⟨c1, c2, c3, c4, c5, c6, c7⟩, ⟨r5, r7⟩, hh, hk, ⟨p1, p2⟩, h4, hs, ht⟩ := h
  obtain ⟨x1, x2, x3, x4, x5, x6, x7, x8, x9, x10⟩ := RX_step (j := n) (q := q) e3 e2 e1 (show 1 ≠ 15 + n by omega) hh.2.1
  obtain ⟨y1, y2⟩ := x6 2 hsL hh.1
  obtain ⟨z1, z2, z3, z4⟩ := x7
  have aO : ∀ x, x < 25 → x ≠ 15 + n → adO b2 x = adO b x := fun x hx hn => (e3.1 x hx hn).1
  have aR : ∀ f, adR b2 0 f = adR b 0 f := (e3.1 0 (by decide) (show ¬ 0 = 15 + n by omega)).2.1
  have nP : ∀ x, x < 25 → x ≠ 15 + n → x ≠ 1 → ¬ (x = 15 + n ∨ x = 1) := fun x _ h h' z => z.elim h h'
  have hR : ∀ f, mR (sX μ2 (adR b 1 3) n (some q)) (adO b2 0) f = mR μ (adO b 0) f := fun f => by
    have h := mR_EV (k := f) x3 (nP 0 (by decide) (by omega) (by decide)) c1
    exact h
  have r5' := RO_EV x3 (nP 0 (by decide) (by omega) (by decide)) r5
  have r7' := RO_EV x3 (nP 0 (by decide) (by omega) (by decide)) r7
  refine ⟨x1, ⟨x2, ⟨KO_EV x3 x2.1 (nP 0 (by decide) (by omega) (by decide)) c1, ?_, ?_, ?_, ?_, ?_, ?_⟩, ⟨r5'.1, r7'.1⟩, ⟨y1, x4, ?_, x4.2.1, fun t ht5 => ?_⟩, fun z => HS_EV x3 x2.1 (nP 2 (by decide) (by omega) (by decide)) (fun t ht => nP _ (by omega) (by omega) (by omega)) (hk z), ⟨KO_EV x3 x2.1 (nP 3 (by decide) (by omega) (by decide)) p1, KLo_EV x3 x2.1 (nP 3 (by decide) (by omega) (by decide)) p1 p2⟩, KO_EV x3 x2.1 (nP 4 (by decide) (by omega) (by decide)) h4, fun i hi => ⟨?_, KO_EV x3 x2.1 (nP (5 + i) (by omega) (by omega) (by omega)) (hs i hi).2⟩, fun i hi => ⟨?_, KO_EV x3 x2.1 (nP (9 + i) (by omega) (by omega) (by omega)) (ht i hi).2⟩⟩, x9, fun a ha han => ⟨aO a ha han, (e3.1 a ha han).2.2.1, (e3.1 a ha han).2.2.2⟩, x10⟩
  · rw [hR, c2, aO 1 (by decide) (by omega)]
  · rw [hR, c3, aO 4 (by decide) (by omega)]
  · rw [hR, c4, aO 3 (by decide) (by omega)]
  · rw [hR, c5, aR]
  · rw [hR, c6, aR]
  · rw [hR, c7, aO 2 (by decide) (by omega)]
  · rw [y2, hh.2.2.1, z4]
  · rw [x5 t]
    by_cases htn : t = n
    · rw [if_pos htn, htn, e5]
      refine ⟨rfl, ?_⟩
      show KO (sX μ2 (adR b 1 3) n (some q)) b2 (15 + n) (kci (if n = n then k else kd n)) thL
      rw [if_pos rfl]
      exact e6
    · rw [if_neg htn, (hh.2.2.2.2 t ht5).1, aO (15 + t) (by omega) (by omega)]
      refine ⟨rfl, ?_⟩
      show KO (sX μ2 (adR b 1 3) n (some q)) b2 (15 + t) (kci (if t = n then k else kd t)) thL
      rw [if_neg htn]
      exact KO_EV x3 x2.1 (nP (15 + t) (by omega) (by omega) (by omega)) (hh.2.2.2.2 t ht5).2
  · rw [aO (5 + i) (by omega) (by omega), ← (hs i hi).1]
    exact r7'.2 i
  · rw [aO (9 + i) (by omega) (by omega), ← (ht i hi).1]
    exact r5'.2 i
theorem k_thing (hI : CI μ b kd kp 4 nt tn) (hnt : nt ≤ 6) (k x g : Int32) (h14 : κ.1 1 4 = nI n) (hn5 : n ≤ 5) : XM Γ zX11_thing 5 7 62 [.ref (adO b 0), .int k, .int x, .int g] (KV μ b κ) (fun r M => ∃ v μ2 b2 κ2 kd2 n2, r = some (.int v) ∧ M = KV μ2 b2 κ2 ∧ CI μ2 b2 kd2 kp 4 nt tn ∧ FO μ b κ μ2 b2 κ2 ∧ (∀ a, a < 15 → adO b2 a = adO b a) ∧ thC κ kd n k x g v κ2 kd2 n2) := by
  refine XM.of 1 rfl (by decide) (Nat.le_of_ble_eq_true rfl) ?_
  have hI' := hI
  obtain ⟨-, ⟨c1, c2, c3, c4, c5, c6, c7⟩, ⟨c8, c9⟩, hh, -, ⟨p1, p2⟩, c10, hsh, -⟩ := hI'
  refine x_iload_n (pc := 0) dX11_thing_0 rfl ?_
  refine x_bipush (pc := 1) (v := 6) dX11_thing_1 rfl ?_
  refine x_callS (pc := 3) (As := [.int _, .int _]) dX11_thing_3 mX11_isBelow lk_11_104 (k_isBelow _ _) rfl rfl (Nat.le_of_ble_eq_true rfl) ⟨by decide, by decide⟩ ⟨Nat.zero_le _, Nat.zero_le _⟩ (k_rt ?_)
  refine x_if_eq (pc := 6) (tgt := 26) dX11_thing_6 rfl (fun h_6 => ?_) (fun h_6 => ?_)
  · refine x_bipush (pc := 26) (v := -2) dX11_thing_26 rfl ?_
    refine x_widen (k := 7) (n := 62) (Nat.le_of_ble_eq_true rfl) (Nat.le_of_ble_eq_true rfl) ?_
    refine x_ireturn (pc := 28) dX11_thing_28 rfl rfl ?_
    exact ⟨_, μ, b, κ, kd, n, rfl, rfl, hI, FO.rf, fun _ _ => rfl, Or.inl ⟨fun z => by first | exact bi_0.mp h_6 z.1 | exact bi_0.mp h_15 z.2.1 | exact bi_0.mp h_23 z.2.2, rfl, rfl, rfl, rfl⟩⟩
  · refine x_iload_n (pc := 9) dX11_thing_9 rfl ?_
    refine x_bipush (pc := 10) (v := 100) dX11_thing_10 rfl ?_
    refine x_callS (pc := 12) (As := [.int _, .int _]) dX11_thing_12 mX11_isBelow lk_11_104 (k_isBelow _ _) rfl rfl (Nat.le_of_ble_eq_true rfl) ⟨by decide, by decide⟩ ⟨Nat.zero_le _, Nat.zero_le _⟩ (k_rt ?_)
    refine x_if_eq (pc := 15) (tgt := 26) dX11_thing_15 rfl (fun h_15 => ?_) (fun h_15 => ?_)
    · refine x_bipush (pc := 26) (v := -2) dX11_thing_26 rfl ?_
      refine x_widen (k := 7) (n := 62) (Nat.le_of_ble_eq_true rfl) (Nat.le_of_ble_eq_true rfl) ?_
      refine x_ireturn (pc := 28) dX11_thing_28 rfl rfl ?_
      exact ⟨_, μ, b, κ, kd, n, rfl, rfl, hI, FO.rf, fun _ _ => rfl, Or.inl ⟨fun z => by first | exact bi_0.mp h_6 z.1 | exact bi_0.mp h_15 z.2.1 | exact bi_0.mp h_23 z.2.2, rfl, rfl, rfl, rfl⟩⟩
    · refine x_iload_n (pc := 18) dX11_thing_18 rfl ?_
      refine x_iconst (pc := 19) (v := 4) dX11_thing_19 rfl ?_
      refine x_callS (pc := 20) (As := [.int _, .int _]) dX11_thing_20 mX11_isBelow lk_11_104 (k_isBelow _ _) rfl rfl (Nat.le_of_ble_eq_true rfl) ⟨by decide, by decide⟩ ⟨Nat.zero_le _, Nat.zero_le _⟩ (k_rt ?_)
      refine x_if_ne (pc := 23) (tgt := 29) dX11_thing_23 rfl (fun h_23 => ?_) (fun h_23 => ?_)
      · refine x_aload_n (pc := 29) dX11_thing_29 rfl ?_
        refine k_getR (pc := 30) c1 dX11_thing_30 fk_11_10 (Or.inl ⟨_, rfl⟩) (c2) ?_
        refine k_getI (pc := 33) hh.1 dX11_thing_33 fk_11_108 (Or.inl rfl) ?_
        rw [h14]
        refine x_iconst (pc := 36) (v := 5) dX11_thing_36 rfl ?_
        refine x_icmp_lt (pc := 37) (tgt := 43) dX11_thing_37 rfl (fun h_37 => ?_) (fun h_37 => ?_)
        · have hn : n < 5 := (nI_ltI (b := 5) (by omega) (by decide)).mp h_37
          have hg := bi_n0 h_6
          obtain ⟨j, hj, rfl⟩ := ixD (n := 6) hg (by decide)
          refine x_aload_n (pc := 43) dX11_thing_43 rfl ?_
          refine k_getR (pc := 44) c1 dX11_thing_44 fk_11_10 (Or.inl ⟨_, rfl⟩) (c2) ?_
          refine k_getI (pc := 47) hh.1 dX11_thing_47 fk_11_108 (Or.inl rfl) ?_
          rw [h14]
          refine x_istore (pc := 50) (lv2 := [_, _, _, _, _]) dX11_thing_50 (by decide) rfl rfl ?_
          refine x_aload_n (pc := 52) dX11_thing_52 rfl ?_
          refine k_getR (pc := 53) c1 dX11_thing_53 fk_11_10 (Or.inl ⟨_, rfl⟩) (c2) ?_
          refine k_getR (pc := 56) hh.1 dX11_thing_56 fk_11_94 (Or.inr ⟨_, rfl⟩) (hh.2.2.1) ?_
          refine x_iload (pc := 59) dX11_thing_59 rfl ?_
          refine x_iload_n (pc := 61) dX11_thing_61 rfl ?_
          refine x_iload (pc := 62) dX11_thing_62 rfl ?_
          refine x_iload_n (pc := 64) dX11_thing_64 rfl ?_
          refine x_iload_n (pc := 65) dX11_thing_65 rfl ?_
          refine x_callS (pc := 66) (As := [.int _, .int _, .int _, .int _]) dX11_thing_66 mX11_made lk_11_111 (k_mkd hj (nI n) x g) rfl rfl (Nat.le_of_ble_eq_true rfl) ⟨by decide, by decide⟩ ⟨Nat.le_refl _, Nat.le_refl _⟩ (fun r μ2 hr => ?_)
          obtain ⟨q, rfl, hq, hX⟩ := hr
          dsimp only [Option.toList, List.cons_append, List.nil_append]
          obtain ⟨b2, κ2, e1, e2, e3, e4, e5, e6, e7⟩ := TH_reg (o := 15 + n) hX hq hI.1 (by omega)
          obtain ⟨g1, g2, g3, g4, g5⟩ := CI_th (k := j) (q := q) hI (Nat.le_refl 4) hnt hn e3 e2 e1 e5 e6
          have hT : mT μ2 q = (1, kci j) := by
            rw [← e5]
            exact e6.2.2.1
          refine x_aast (pc := 69) (k := 0) (n := 5) (ci := kci j) (i := n) dX11_thing_69 (by decide) g5 hT (isTh_lt (kci_th j)) (by
            rcases k6 hj with rfl | rfl | rfl | rfl | rfl | rfl
            · exact Or.inl rfl
            · exact Or.inr (by decide)
            · exact Or.inr (by decide)
            · exact Or.inr (by decide)
            · exact Or.inr (by decide)
            · exact Or.inr (by decide)) rfl hn (by decide) ?_
          rw [g1, ← (g4 0 (by decide) (by omega)).1]
          have g2' := g2
          obtain ⟨-, ⟨d1, d2, d3, d4, d5, d6, d7⟩, ⟨d8, d9⟩, dh, -, -, -, -, -⟩ := g2'
          refine x_aload_n (pc := 70) dX11_thing_70 rfl ?_
          refine k_getR (pc := 71) d1 dX11_thing_71 fk_11_10 (Or.inl ⟨_, rfl⟩) (d2) ?_
          refine x_iload (pc := 74) dX11_thing_74 rfl ?_
          refine x_iconst (pc := 76) (v := 1) dX11_thing_76 rfl ?_
          refine x_iadd (pc := 77) dX11_thing_77 ?_
          refine k_putI (pc := 78) dh.1 dX11_thing_78 fk_11_108 (Or.inl rfl) (Or.inl rfl) ?_
          refine x_iload (pc := 81) dX11_thing_81 rfl ?_
          refine x_ireturn (pc := 83) dX11_thing_83 rfl rfl ?_
          have eb : adO b2 0 = adO b 0 := (g4 0 (by decide) (by omega)).1
          refine ⟨_, _, b2, _, (fun t => if t = n then j else kd t), n + 1, rfl, rfl, g2, (g3 e4).trans FO_any, fun a ha => (g4 a (by omega) (by omega)).1, Or.inr (Or.inr ⟨⟨hg, bi_n0 h_15, bi_n0 h_23⟩, hn, rfl, rfl, ⟨j, hj, rfl, rfl⟩, fun a ha h1 h2 => ⟨?_, ?_⟩, ?_, fun f hf => ?_, ?_, ?_⟩)⟩
          · funext f
            rw [kI_n (Or.inl h2), (g4 a ha h1).2.1]
          · rw [kI_2, (g4 a ha h1).2.2]
          · rw [kI_2, (g4 1 (by decide) (by omega)).2.2]
          · rw [kI_n (Or.inr hf), (g4 1 (by decide) (by omega)).2.1]
          · rw [kI_s, nI_1]
          · unfold TV0
            rw [kI_n (Or.inl (by omega)), kI_n (Or.inl (by omega)), kI_n (Or.inl (by omega)), kI_n (Or.inl (by omega)), kI_n (Or.inl (by omega)), kI_n (Or.inl (by omega))]
            exact e7
        · refine x_bipush (pc := 40) (v := -4) dX11_thing_40 rfl ?_
          refine x_widen (k := 7) (n := 62) (Nat.le_of_ble_eq_true rfl) (Nat.le_of_ble_eq_true rfl) ?_
          refine x_ireturn (pc := 42) dX11_thing_42 rfl rfl ?_
          have h5 : n = 5 := by
            rcases Nat.lt_or_ge n 5 with q | q
            · exact absurd ((nI_ltI (b := 5) (by omega) (by decide)).mpr q) h_37
            · omega
          exact ⟨_, μ, b, κ, kd, n, rfl, rfl, hI, FO.rf, fun _ _ => rfl, Or.inr (Or.inl ⟨⟨bi_n0 h_6, bi_n0 h_15, bi_n0 h_23⟩, h5, rfl, rfl, rfl, rfl⟩)⟩
      · refine x_bipush (pc := 26) (v := -2) dX11_thing_26 rfl ?_
        refine x_widen (k := 7) (n := 62) (Nat.le_of_ble_eq_true rfl) (Nat.le_of_ble_eq_true rfl) ?_
        refine x_ireturn (pc := 28) dX11_thing_28 rfl rfl ?_
        exact ⟨_, μ, b, κ, kd, n, rfl, rfl, hI, FO.rf, fun _ _ => rfl, Or.inl ⟨fun z => by first | exact bi_0.mp h_6 z.1 | exact bi_0.mp h_15 z.2.1 | exact bi_0.mp h_23 z.2.2, rfl, rfl, rfl, rfl⟩⟩
def txC (κ : KS) (σ : MS) (f fd nt : Nat) (tn : Nat → Nat) (v : Int32) (κ2 : KS) (nt2 : Nat) (tn2 : Nat → Nat) : Prop := (nt = 6 ∧ v = -4 ∧ κ2 = κ ∧ nt2 = nt ∧ tn2 = tn) ∨ (nt < 6 ∧ ∃ c : CT, (¬ (cX σ f fd (-23) (rc σ f fd c 3)).2.2.2.2.1 = -1 ∧ v = -100 - (cX σ f fd (-23) (rc σ f fd c 3)).2.2.2.2.1 ∧ nt2 = nt ∧ tn2 = tn ∧ kq (fun a k => a = 4 ∨ (a = 0 ∧ k = 3)) κ κ2 ∧ κ2.1 0 3 = 0) ∨ ((cX σ f fd (-23) (rc σ f fd c 3)).2.2.2.2.1 = -1 ∧ v = nI nt ∧ nt2 = nt + 1 ∧ tn2 = (fun i => if i = nt then (cX σ f fd (-23) (rc σ f fd c 3)).2.2.2.2.2.1 else tn i) ∧ (∀ a, a < 25 → a ≠ 0 → a ≠ 4 → a ≠ 9 + nt → κ2.1 a = κ.1 a ∧ κ2.2 a = κ.2 a) ∧ κ2.1 0 3 = 0 ∧ κ2.1 0 6 = nI (nt + 1) ∧ (∀ j, j < (cX σ f fd (-23) (rc σ f fd c 3)).2.2.2.2.2.1 → κ2.2 (9 + nt) 0 j = (cX σ f fd (-23) (rc σ f fd c 3)).2.2.2.2.2.2 j) ∧ ∀ i, i < 3 → κ2.2 (9 + nt) 1 i = nI (rs σ f fd c i)))
theorem CI_tx {l : Nat} (hC : CI μ b kd kp 4 nt tn) (hnt : nt < 6) (e3 : EV (fun x => x = 9 + nt) μ b κ μ2 b2 κ2) (e2 : KF μ2 b2) (e1 : KV μ2 b2 κ2 = μ2) (e5 : adO b2 (9 + nt) = q) (e6 : KO μ2 b2 (9 + nt) 8 (tLen l)) : KV (sX μ2 (adR b 0 5) nt (some q)) b2 κ2 = sX μ2 (adR b 0 5) nt (some q) ∧ CI (sX μ2 (adR b 0 5) nt (some q)) b2 kd kp 4 (nt + 1) (fun i => if i = nt then l else tn i) ∧ (FO μ b κ μ2 b2 κ2 → FO μ b κ (sX μ2 (adR b 0 5) nt (some q)) b2 κ2) ∧ (∀ x, x < 25 → x ≠ 9 + nt → adO b2 x = adO b x ∧ κ2.1 x = κ.1 x ∧ κ2.2 x = κ.2 x) ∧ mT μ2 (adR b 0 5) = (5, 6) := by
  obtain ⟨g1, g2, g3, g4, g5, g6, g7, g8, g9⟩ := CI_RX (f := 5) (t := 5) (n := 6) (j := nt) (q := q) (tn2 := fun i => if i = nt then l else tn i) hC e3 e2 e1 (by omega) (Or.inl ⟨rfl, rfl, rfl⟩)
  obtain ⟨-, -, -, -, -, -, -, hs, ht⟩ := hC
  refine ⟨g1, CI_put g3 (fun i hi => ?_) (fun i hi => ?_), g8, g5, g9⟩
  · refine ⟨?_, g4 _ _ _ (by omega) (by omega) (by omega) (hs i hi).2⟩
    rw [g7 7 (Or.inr rfl) (by decide) i, (hs i hi).1, (g5 (5 + i) (by omega) (by omega)).1]
  · by_cases hin : i = nt
    · subst hin
      refine ⟨?_, ?_⟩
      · rw [g6 i, if_pos rfl, e5]
      · show KO _ b2 (9 + i) 8 (tLen (if i = i then l else tn i))
        rw [if_pos rfl]
        exact e6
    · refine ⟨?_, ?_⟩
      · rw [g6 i, if_neg hin, (ht i (by omega)).1, (g5 (9 + i) (by omega) (by omega)).1]
      · show KO _ b2 (9 + i) 8 (tLen (if i = nt then l else tn i))
        rw [if_neg hin]
        exact g4 _ _ _ (by omega) (by omega) (by omega) (ht i (by omega)).2
theorem cX_l160 {σ : MS} {f n : Nat} (c : CT) : (cX σ f n (-23) (rc σ f n c 3)).2.2.2.2.2.1 ≤ 160 := by
  have e : (rdA σ f n NN κE c).2 = rc σ f n c 3 := congrArg Prod.snd (rc_rd κE c)
  rw [← e]
  exact (okc_X (rdN_ok 3 0 _ (okc_A ⟨Nat.zero_le _, Nat.zero_le _⟩))).2
theorem k_tx_27 (hI : CI μ b kd kp 4 nt tn) (hlt : nt < 6) {σ : MS} {f fd : Nat} {c F : CT} {κr : KS} (h06 : κ.1 0 6 = nI nt) (hfd : κ.1 0 3 = nI fd) (hl : F.2.2.2.2.2.1 ≤ 160) (hF : cX σ f fd (-23) (rc σ f fd c 3) = F) (hq : kq (thP 4) κ (rK κr F) ∧ ∀ i, i < 3 → (rK κr F).2 4 9 i = nI (rs σ f fd c i)) : WA Γ zX11_text (xrm 92 4 400) 4 400 0 0 (fun r M => ∃ v μ2 b2 κ2 nt2 tn2, r = some (.int v) ∧ M = KV μ2 b2 κ2 ∧ CI μ2 b2 kd kp 4 nt2 tn2 ∧ FO μ b κ μ2 b2 κ2 ∧ adO b2 0 = adO b 0 ∧ txC κ σ f fd nt tn v κ2 nt2 tn2) 27 [some (.ref (adO b 0)), none] [.int F.2.2.2.2.1] (KV (thR4 μ b) b (rK κr F)) := by
  obtain ⟨q1, q2⟩ := hq
  have hI4 := CI_t4 hI
  have fo4 : FO μ b κ (thR4 μ b) b κ := (EV_sR (κ := κ) (k := 0) (v := some (adR b 0 2)) hI.2.2.2.2.2.2.1.2.2.2.1 hI.1 (by decide)).2.1
  have hI4' := hI4
  obtain ⟨dd, ⟨d1, d2, d3, d4, d5, d6, d7⟩, ⟨d8, d9⟩, dh, -, -, d10, dsh, -⟩ := hI4'
  have z1 : kq (fun a k => a = 4 ∨ (a = 0 ∧ k = 3)) κ (kI (rK κr F) 0 3 0) := (q1.mono (fun a k z => (Or.inl z : a = 4 ∨ (a = 0 ∧ k = 3)))).I (Or.inr ⟨rfl, rfl⟩)
  have eR : kI (rK κr F) 0 3 0 = rK (kI κr 0 3 0) F := by
    refine Prod.ext (funext fun a => funext fun k => ?_) rfl
    show up2 (rK κr F).1 0 3 0 a k = (rK (kI κr 0 3 0) F).1 a k
    by_cases ha : a = 0 ∧ k = 3
    · rw [ha.1, ha.2, up2_s]
      show (0 : Int32) = (kI κr 0 3 0).1 0 3
      exact kI_s.symm
    · rw [up2_n (by
        by_cases h1 : a = 0
        · exact Or.inr (fun z => ha ⟨h1, z⟩)
        · exact Or.inl h1)]
      show (if a = 4 then (if k = 2 then nI F.1 else if k = 3 then nI F.2.1 else if k = 4 then F.2.2.1 else if k = 5 then F.2.2.2.1 else if k = 6 then F.2.2.2.2.1 else if k = 8 then nI F.2.2.2.2.2.1 else κr.1 a k) else κr.1 a k) = if a = 4 then (if k = 2 then nI F.1 else if k = 3 then nI F.2.1 else if k = 4 then F.2.2.1 else if k = 5 then F.2.2.2.1 else if k = 6 then F.2.2.2.2.1 else if k = 8 then nI F.2.2.2.2.2.1 else (kI κr 0 3 0).1 a k) else (kI κr 0 3 0).1 a k
      rw [kI_n (by
        by_cases h1 : a = 0
        · exact Or.inr (fun z => ha ⟨h1, z⟩)
        · exact Or.inl h1)]
  have e06 : (kI (rK κr F) 0 3 0).1 0 6 = nI nt := ((z1 0 6 (by omega)).1).trans h06
  have q2' : ∀ i, i < 3 → (kI κr 0 3 0).2 4 9 i = nI (rs σ f fd c i) := fun i hi => by
    have := q2 i hi
    have e9 : (rK κr F).2 4 9 = κr.2 4 9 := by
      show (if (4 : Nat) = 4 ∧ (9 : Nat) = 7 then F.2.2.2.2.2.2 else κr.2 4 9) = κr.2 4 9
      exact if_neg (by decide)
    rw [e9] at this
    exact this
  have hmk := k_made (Γ := Γ) (κ := kI κr 0 3 0) (c := F) d10 hl
  rw [← eR] at hmk
  refine x_istore_n (pc := 27) (lv2 := [_, _]) dX11_text_27 (by decide) rfl rfl ?_
  refine x_aload_n (pc := 28) dX11_text_28 rfl ?_
  refine x_iconst (pc := 29) (v := 0) dX11_text_29 rfl ?_
  refine k_putI (pc := 30) d1 dX11_text_30 fk_11_23 (Or.inl rfl) (Or.inl rfl) ?_
  refine x_iload_n (pc := 33) dX11_text_33 rfl ?_
  refine x_iconst (pc := 34) (v := -1) dX11_text_34 rfl ?_
  refine x_icmp_eq (pc := 35) (tgt := 43) dX11_text_35 rfl (fun h_35 => ?_) (fun h_35 => ?_)
  · refine x_aload_n (pc := 43) dX11_text_43 rfl ?_
    refine k_getR (pc := 44) d1 dX11_text_44 fk_11_36 (Or.inr ⟨_, rfl⟩) (d5) ?_
    refine x_aload_n (pc := 47) dX11_text_47 rfl ?_
    refine k_getI (pc := 48) d1 dX11_text_48 fk_11_40 (Or.inl rfl) ?_
    rw [e06]
    refine x_aload_n (pc := 51) dX11_text_51 rfl ?_
    refine k_getR (pc := 52) d1 dX11_text_52 fk_11_30 (Or.inl ⟨_, rfl⟩) (d3) ?_
    refine x_callV (pc := 55) (As := []) dX11_text_55 mX6_made lk_11_73 d10.2.2.1 (hmk) rfl rfl (Nat.le_of_ble_eq_true rfl) ⟨by decide, by decide⟩ ⟨by show 0 + 4 ≤ 4; omega, by show 0 + (4 + (F.2.2.2.2.2.1 + 3 + F.2.2.2.2.2.1)) ≤ 400; omega⟩ (fun r μ2 hr => ?_)
    obtain ⟨q, rfl, hqf, hX⟩ := hr
    dsimp only [Option.toList, List.cons_append, List.nil_append]
    obtain ⟨b2, κ3, e1, e2, e3, e4, e5, e6, e7, e8, e9⟩ := TX_reg (o := 9 + nt) hX hqf dd (by omega)
    obtain ⟨g1, g2, g3, g4, g5⟩ := CI_tx hI4 hlt e3 e2 e1 e5 e6
    have hT : mT μ2 q = (1, 8) := by
      rw [← e5]
      exact e6.2.2.1
    refine x_aast (pc := 58) (k := 1) (n := 6) (ci := 8) (i := nt) dX11_text_58 (by decide) g5 hT (by decide) (Or.inl rfl) rfl hlt (by decide) ?_
    have eb : adO b2 0 = adO b 0 := (g4 0 (by decide) (by omega)).1
    rw [← g1, ← eb]
    have f1 := g2.2.1.1
    have e06' : κ3.1 0 6 = nI nt := by
      rw [(g4 0 (by decide) (by omega)).2.1]
      exact e06
    refine x_aload_n (pc := 59) dX11_text_59 rfl ?_
    refine x_dup (pc := 60) dX11_text_60 rfl ?_
    refine k_getI (pc := 61) f1 dX11_text_61 fk_11_40 (Or.inl rfl) ?_
    rw [e06']
    refine x_iconst (pc := 64) (v := 1) dX11_text_64 rfl ?_
    refine x_iadd (pc := 65) dX11_text_65 ?_
    rw [nI_1]
    refine k_putI (pc := 66) f1 dX11_text_66 fk_11_40 (Or.inl rfl) (Or.inl rfl) ?_
    refine x_aload_n (pc := 69) dX11_text_69 rfl ?_
    refine k_getI (pc := 70) f1 dX11_text_70 fk_11_40 (Or.inl rfl) ?_
    rw [kI_s]
    refine x_iconst (pc := 73) (v := 1) dX11_text_73 rfl ?_
    refine x_isub (pc := 74) dX11_text_74 ?_
    rw [show nI (nt + 1) - 1 = nI nt from nI_pred nt]
    refine x_widen (k := 4) (n := 400) (Nat.le_refl _) (by omega) ?_
    refine x_ireturn (pc := 75) dX11_text_75 rfl rfl ?_
    refine ⟨_, _, b2, _, nt + 1, (fun i => if i = nt then F.2.2.2.2.2.1 else tn i), rfl, rfl, g2, (fo4.trans (FO_any.trans (g3 e4))).trans FO_any, rfl, Or.inr ⟨hlt, c, Or.inr ?_⟩⟩
    rw [hF]
    refine ⟨h_35, rfl, rfl, rfl, fun a ha h0 h4 h9 => ⟨?_, ?_⟩, ?_, kI_s, fun j hj => ?_, fun i hi => ?_⟩
    · funext k
      rw [kI_n (Or.inl h0), (g4 a ha h9).2.1]
      exact (z1 a k (by omega)).1
    · rw [kI_2, (g4 a ha h9).2.2]
      exact funext fun j => congrFun (funext fun k => (z1 a k (by omega)).2) j
    · rw [kI_n (Or.inr (by decide)), (g4 0 (by decide) (by omega)).2.1]
      exact kI_s
    · rw [kI_2]
      exact e8 j hj
    · rw [kI_2, e9 i hi]
      exact q2' i hi
  · refine x_bipush (pc := 38) (v := -100) dX11_text_38 rfl ?_
    refine x_iload_n (pc := 40) dX11_text_40 rfl ?_
    refine x_isub (pc := 41) dX11_text_41 ?_
    refine x_widen (k := 4) (n := 400) (Nat.le_of_ble_eq_true rfl) (Nat.le_of_ble_eq_true rfl) ?_
    refine x_ireturn (pc := 42) dX11_text_42 rfl rfl ?_
    refine ⟨_, thR4 μ b, b, _, nt, tn, rfl, rfl, hI4, fo4.trans FO_any, rfl, Or.inr ⟨hlt, c, Or.inl ⟨?_, ?_, rfl, rfl, z1, kI_s⟩⟩⟩
    · rw [hF]
      exact h_35
    · rw [hF]
theorem k_text (hI : CI μ b kd kp 4 nt tn) (hnt : nt ≤ 6) {σ : MS} {f fd : Nat} (h06 : κ.1 0 6 = nI nt) (hfd : κ.1 0 3 = nI fd) (hO : nt < 6 → rdO σ f fd) (hB : nt < 6 → ∀ i, i < fd → κ.2 0 2 i = σ.2.2 1 (f + i)) : XM Γ zX11_text 92 4 400 [.ref (adO b 0)] (KV μ b κ) (fun r M => ∃ v μ2 b2 κ2 nt2 tn2, r = some (.int v) ∧ M = KV μ2 b2 κ2 ∧ CI μ2 b2 kd kp 4 nt2 tn2 ∧ FO μ b κ μ2 b2 κ2 ∧ adO b2 0 = adO b 0 ∧ txC κ σ f fd nt tn v κ2 nt2 tn2) := by
  refine XM.of 1 rfl (by decide) (Nat.le_of_ble_eq_true rfl) ?_
  have hI' := hI
  obtain ⟨-, ⟨c1, c2, c3, c4, c5, c6, c7⟩, ⟨c8, c9⟩, hh, -, ⟨p1, p2⟩, c10, hsh, -⟩ := hI'
  refine x_aload_n (pc := 0) dX11_text_0 rfl ?_
  refine k_getI (pc := 1) c1 dX11_text_1 fk_11_40 (Or.inl rfl) ?_
  rw [h06]
  refine x_bipush (pc := 4) (v := 6) dX11_text_4 rfl ?_
  refine x_icmp_lt (pc := 6) (tgt := 12) dX11_text_6 rfl (fun h_6 => ?_) (fun h_6 => ?_)
  · have hlt : nt < 6 := (nI_ltI (b := 6) (by omega) (by decide)).mp h_6
    obtain ⟨c, hc⟩ := rK_self κ
    have hrd := k_readK (Γ := Γ) c10 c1 (hO hlt) (hB hlt) hc
    refine x_aload_n (pc := 12) dX11_text_12 rfl ?_
    refine k_getR (pc := 13) c1 dX11_text_13 fk_11_30 (Or.inl ⟨_, rfl⟩) (c3) ?_
    refine x_aload_n (pc := 16) dX11_text_16 rfl ?_
    refine k_getA (pc := 17) c1 dX11_text_17 fk_11_19 (Or.inr ⟨_, rfl⟩) (by decide) ?_
    refine x_aload_n (pc := 20) dX11_text_20 rfl ?_
    refine k_getI (pc := 21) c1 dX11_text_21 fk_11_23 (Or.inl rfl) ?_
    rw [hfd]
    refine x_callV (pc := 24) (As := [.ref _, .int _]) dX11_text_24 mX6_read lk_11_69 c10.2.2.1 (hrd) rfl rfl (Nat.le_of_ble_eq_true rfl) ⟨by decide, by decide⟩ ⟨Nat.zero_le _, Nat.zero_le _⟩ (fun r μ2 hr => ?_)
    obtain ⟨rfl, rfl⟩ := hr
    dsimp only [Option.toList, List.cons_append, List.nil_append]
    exact k_tx_27 hI hlt h06 hfd (cX_l160 c) rfl (rdK_kq (κ := κ) (σ := σ) (f := f) (n := fd) (c := c) (d := cX σ f fd (-23) (rc σ f fd c 3)))
  · refine x_bipush (pc := 9) (v := -4) dX11_text_9 rfl ?_
    refine x_widen (k := 4) (n := 400) (Nat.le_of_ble_eq_true rfl) (Nat.le_of_ble_eq_true rfl) ?_
    refine x_ireturn (pc := 11) dX11_text_11 rfl rfl ?_
    have h6 : nt = 6 := by
      rcases Nat.lt_or_ge nt 6 with q | q
      · exact absurd ((nI_ltI (b := 6) (by omega) (by decide)).mpr q) h_6
      · omega
    exact ⟨_, μ, b, κ, nt, tn, rfl, rfl, hI, FO.rf, rfl, Or.inl ⟨h6, rfl, rfl, rfl, rfl⟩⟩
end M9999992
