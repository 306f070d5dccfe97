/-! the class: a new PutOut, its sheets -/
section M99995
variable {Γ : Gm} {μ μ2 M : Mem} {b b2 : Kb} {κ κ2 : KS} {q0 o f t n j q : Nat} {kd : Nat → Nat} {kp : Bool} {ns nt : Nat} {tn tn2 : Nat → Nat} {Q : Option Value → Mem → Prop}
theorem CI_RX (h : CI μ b kd kp ns nt tn) (e3 : EV (fun x => x = o) μ b κ μ2 b2 κ2) (e2 : KF μ2 b2) (e1 : KV μ2 b2 κ2 = μ2) (ho : 5 ≤ o ∧ o < 15) (hf : (f = 5 ∧ t = 5 ∧ n = 6) ∨ (f = 7 ∧ t = 6 ∧ n = 4)) :
    KV (sX μ2 (adR b 0 f) j (some q)) b2 κ2 = sX μ2 (adR b 0 f) j (some q) ∧ EV (fun x => x = o ∨ x = 0) μ b κ (sX μ2 (adR b 0 f) j (some q)) b2 κ2 ∧ CI (sX μ2 (adR b 0 f) j (some q)) b2 kd kp 0 0 tn2 ∧ (∀ ci len x, x < 25 → x ≠ o → x ≠ 0 → KO μ b x ci len → KO (sX μ2 (adR b 0 f) j (some q)) b2 x ci len) ∧ (∀ x, x < 25 → x ≠ o → adO b2 x = adO b x ∧ κ2.1 x = κ.1 x ∧ κ2.2 x = κ.2 x) ∧ (∀ i, mX (sX μ2 (adR b 0 f) j (some q)) (adR b2 0 f) i = if i = j then some q else mX μ (adR b 0 f) i) ∧ (∀ f2, (f2 = 5 ∨ f2 = 7) → f2 ≠ f → ∀ i, mX (sX μ2 (adR b 0 f) j (some q)) (adR b2 0 f2) i = mX μ (adR b 0 f2) i) ∧ (FO μ b κ μ2 b2 κ2 → FO μ b κ (sX μ2 (adR b 0 f) j (some q)) b2 κ2) ∧ mT μ2 (adR b 0 f) = (t, n) := by
  obtain ⟨h1, ⟨c1, c2, c3, c4, c5, c6, c7⟩, ⟨r5, r7⟩, hh, hk, ⟨p1, p2⟩, h4, hs, ht⟩ := h
  have hRO : RO μ b 0 f t n := by
    rcases hf with ⟨rfl, rfl, rfl⟩ | ⟨rfl, rfl, rfl⟩
    · exact r5
    · exact r7
  obtain ⟨x1, x2, x3, x4, x5, x6, x7, x8, x9, x10⟩ := RX_step (j := j) (q := q) e3 e2 e1 (show 0 ≠ o by omega) hRO
  obtain ⟨y1, y2⟩ := x6 11 pL c1
  obtain ⟨z1, z2, z3, z4⟩ := x7
  have aO : ∀ x, x < 25 → x ≠ o → adO b2 x = adO b x := fun x hx hn => (e3.1 x hx hn).1
  refine ⟨x1.symm, x3, ⟨x2, ⟨y1, ?_, ?_, ?_, ?_, ?_, ?_⟩, ⟨?_, ?_⟩, HS_EV x3 x2.1 (by omega) (fun t ht => by omega) hh, fun z => HS_EV x3 x2.1 (by omega) (fun t ht => by omega) (hk z), ⟨KO_EV x3 x2.1 (by omega) p1, KLo_EV x3 x2.1 (by omega) p1 p2⟩, KO_EV x3 x2.1 (by omega) h4, fun i hi => absurd hi (Nat.not_lt_zero i), fun i hi => absurd hi (Nat.not_lt_zero i)⟩, fun ci len x hx hn h0 hK => KO_EV x3 x2.1 (by omega) hK, fun x hx hn => ⟨aO x hx hn, (e3.1 x hx hn).2.2.1, (e3.1 x hx hn).2.2.2⟩, x5, fun f2 h2 hn i => ?_, x9, x10⟩
  · rw [y2, c2, aO 1 (by decide) (by omega)]
  · rw [y2, c3, aO 4 (by decide) (by omega)]
  · rw [y2, c4, aO 3 (by decide) (by omega)]
  · rw [y2, c5, z4]
  · rw [y2, c6, z4]
  · rw [y2, c7, aO 2 (by decide) (by omega)]
  · by_cases hf5 : (5 : Nat) = f
    · rcases hf with ⟨-, rfl, rfl⟩ | ⟨hf, -, -⟩
      · subst hf5
        exact x4
      · omega
    · exact (x8 5 5 6 hf5 r5).1
  · by_cases hf7 : (7 : Nat) = f
    · rcases hf with ⟨hf, -, -⟩ | ⟨-, rfl, rfl⟩
      · omega
      · subst hf7
        exact x4
    · exact (x8 7 6 4 hf7 r7).1
  · rcases h2 with rfl | rfl
    · exact (x8 5 5 6 hn r5).2 i
    · exact (x8 7 6 4 hn r7).2 i
theorem CI_put (h : CI μ b kd kp 0 0 tn) (hs : ∀ i, i < ns → mX μ (adR b 0 7) i = some (adO b (5 + i)) ∧ KO μ b (5 + i) 7 shLen) (ht : ∀ i, i < nt → mX μ (adR b 0 5) i = some (adO b (9 + i)) ∧ KO μ b (9 + i) 8 (tLen (tn i))) : CI μ b kd kp ns nt tn := by
  obtain ⟨h1, h2, h3, h4, h5, h6, h7, -, -⟩ := h
  exact ⟨h1, h2, h3, h4, h5, h6, h7, hs, ht⟩
theorem k_po_2 (hw : ∀ (M : Mem) (b : Kb) (κ : KS), poI 4 M b κ q0 → WA Γ zX11_init (xrm 92 74 2848) 74 2848 70 2825 Q 104 [some (.ref q0), some (.int (nI 4))] [] M) : ∀ (m j : Nat) (M : Mem) (b : Kb) (κ : KS), j + m = 4 → poI j M b κ q0 → WA Γ zX11_init (xrm 92 74 2848) 74 2848 (62 + 2 * j) (2653 + 43 * j) Q 80 [some (.ref q0), some (.int (nI j))] [] M := by
  intro m
  induction m with
  | zero =>
    intro j M b κ hj h
    obtain rfl : j = 4 := by omega
    refine x_iload_n (pc := 80) dX11_init_80 rfl ?_
    refine x_iconst (pc := 81) (v := 4) dX11_init_81 rfl ?_
    refine x_icmp_ge (pc := 82) (tgt := 104) dX11_init_82 rfl (fun h_82 => ?_) (fun h_82 => absurd (by decide) h_82)
    exact hw M b κ h
  | succ m ih =>
    intro j M b κ hj h
    have hj4 : j < 4 := by omega
    obtain ⟨hk, hC, ad, cv, hsh⟩ := h
    have hC' := hC
    obtain ⟨h1, ⟨c1, -, -, -, -, c6, -⟩, ⟨-, r7⟩, -, -, -, -, hs, -⟩ := hC'
    refine x_iload_n (pc := 80) dX11_init_80 rfl ?_
    refine x_iconst (pc := 81) (v := 4) dX11_init_81 rfl ?_
    refine x_icmp_ge (pc := 82) (tgt := 104) dX11_init_82 rfl (fun h_82 => absurd h_82 (lit_le (n := 4) j (by omega) (by decide))) (fun h_82 => ?_)
    refine x_aload_n (pc := 85) dX11_init_85 rfl ?_
    refine x_getR (pc := 86) (a := adR b 0 7) dX11_init_86 fk_11_45 (by rw [← ad]; exact c1.2.2.1) (Or.inr ⟨_, rfl⟩) (by rw [← ad]; exact c6) ?_
    refine x_iload_n (pc := 89) dX11_init_89 rfl ?_
    refine x_new (pc := 90) (ci := 7) dX11_init_90 (by decide) kl_11_43 ki_7 kn_7 ⟨by show 62 + 2 * j + 1 ≤ 74; omega, by show 2653 + 43 * j + 3 ≤ 2848; omega⟩ (fun q hq => ?_)
    refine x_dup (pc := 93) dX11_init_93 rfl ?_
    refine x_callIN (pc := 94) (As := []) dX11_init_94 mX7_init rfl lk_11_56 (k_shInit (μ0 := nw M q 1 7) AI_new) rfl rfl (Nat.le_of_ble_eq_true rfl) ⟨by decide, by decide⟩ ⟨by show 62 + 2 * j + 1 + 1 ≤ 74; omega, by show 2653 + 43 * j + 3 + 40 ≤ 2848; omega⟩ (fun r μ2 hr => ?_)
    obtain ⟨rfl, q1, I⟩ := hr
    rw [← hk] at I
    obtain ⟨b2, κ2, e1, e2, e3, -, e5, e6, e7, e8, e9⟩ := SH_reg (o := 5 + j) I hq h1 (by omega)
    obtain ⟨g1, g2, g3, g4, g5, g6, -, -, g9⟩ := CI_RX (f := 7) (t := 6) (n := 4) (j := j) (q := q) (tn2 := fun _ => 0) hC e3 e2 e1 (by omega) (Or.inr ⟨rfl, rfl, rfl⟩)
    refine x_aast (pc := 97) (k := 2) (n := 4) (ci := 7) (i := j) dX11_init_97 (by decide) g9 (by rw [← e5]; exact e6.2.2.1) (by decide) (Or.inl rfl) rfl hj4 (by decide) ?_
    refine x_iinc (pc := 98) (lv2 := [_, _]) dX11_init_98 (by decide) rfl rfl (nI_1 _) rfl ?_
    refine x_goto (pc := 101) (tgt := 80) dX11_init_101 rfl ?_
    have hh := ih (j + 1) _ b2 κ2 (by omega) (⟨g1, CI_put (ns := j + 1) (nt := 0) g3 (fun i hi => ?_) (fun i hi => absurd hi (Nat.not_lt_zero i)), ?_, ⟨?_, fun t ht => ?_, ?_, ?_, ?_⟩, fun i hi => ?_⟩ : poI (j + 1) (sX μ2 (adR b 0 7) j (some q)) b2 κ2 q0)
    · rw [show 62 + 2 * (j + 1) = 62 + 2 * j + 1 + 1 by omega, show 2653 + 43 * (j + 1) = 2653 + 43 * j + 3 + 40 by omega] at hh
      exact hh
    · rcases Nat.lt_or_ge i j with hlt | hge
      · obtain ⟨s1, s2⟩ := hs i hlt
        refine ⟨?_, g4 _ _ _ (by omega) (by omega) (by omega) s2⟩
        rw [g6 i, if_neg (by omega), s1, (g5 (5 + i) (by omega) (by omega)).1]
      · obtain rfl : i = j := by omega
        refine ⟨?_, e6⟩
        rw [g6 i, if_pos rfl, e5]
    · rw [(g5 0 (by decide) (by omega)).1]
      exact ad
    · unfold HV0
      rw [(g5 1 (by decide) (by omega)).2.1, (g5 1 (by decide) (by omega)).2.2]
      exact cv.1
    · unfold TV0
      rw [(g5 (15 + t) (by omega) (by omega)).2.1]
      exact cv.2.1 t ht
    · rw [(g5 3 (by decide) (by omega)).2.2]
      exact cv.2.2.1
    · rw [(g5 0 (by decide) (by omega)).2.1]
      exact cv.2.2.2.1
    · unfold RV
      rw [(g5 4 (by decide) (by omega)).2.1, (g5 4 (by decide) (by omega)).2.2]
      exact cv.2.2.2.2
    · rcases Nat.lt_or_ge i j with hlt | hge
      · rw [(g5 (5 + i) (by omega) (by omega)).2.1, (g5 (5 + i) (by omega) (by omega)).2.2]
        exact hsh i hlt
      · obtain rfl : i = j := by omega
        exact ⟨e7, e8, e9⟩
end M99995
