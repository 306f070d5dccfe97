/-! out of what both hold: the document's numbers -/
def BD (σ : MS) (κ : KS) (kd : Nat → Nat) (r t : Nat) : PD := fun k i => if k = 0 then kd i else if k = 1 then nn (σ.2.2 11 i) else if k = 2 then nn (σ.2.2 12 i) else if k = 3 then nn (σ.2.2 14 i + 1) else if k = 4 then nn (σ.2.2 7 i) else if k = 5 then nn (σ.2.2 8 i) else if k = 6 then nn (σ.2.2 9 i) else if k = 7 then nn (tVal κ (9 + r) t (15 + i / 7) 0 (spl (i % 7)) 0) else if k = 8 then (if i % 7 = 0 then 0 else nn (tVal κ (9 + r) t (15 + i / 7) 1 (nI (i % 7) - 1) 0)) else nn (tVal κ (9 + r) t (15 + i / 5) 2 0 (nI (i % 5)))
section M9999995
variable {σ τ : MS} {κ κ2 : KS} {kd : Nat → Nat} {kp : Bool} {n nt : Nat} {tn : Nat → Nat}
theorem tV_99 (o t i part : Nat) (pl gs : Int32) : ∃ v, v ≤ 99 ∧ tVal κ o t i part pl gs = nI v := by
  unfold tVal
  generalize hdL _ = y
  unfold wit
  split
  · exact ⟨0, by decide, rfl⟩
  · rename_i h1
    split
    · exact ⟨99, by decide, rfl⟩
    · rename_i h2
      exact ixB (c := 99) (n := 99) rfl ⟨Int32.not_lt.mp h1, Int32.not_lt.mp h2⟩ (by decide)
theorem eqb_nn {B : Nat} {x y : Int32} (h : eqb B x y) (hB : B ≤ 1000) : nn x < B ∧ x = nI (nn x) ∧ y = nI (nn x) := by
  obtain ⟨v, h1, rfl, rfl⟩ := h
  rw [nn_nI (by omega)]
  exact ⟨h1, rfl, rfl⟩
theorem BR_D (h : BRe σ κ kd kp n nt tn) : ∃ (D : PD) (r m : Nat), D 0 = kd ∧ RR σ D n r m ∧ roomOk D n ∧ r < nt ∧ σ.1 4 = nI r ∧ ∀ (μ : Mem) (b : Kb), CI μ b kd kp 4 nt tn → CX μ b κ D kp n r nt tn := by
  obtain ⟨⟨a1, a2, a3, a4, a5⟩, ⟨b1, b2, b3⟩, ⟨c1, c2⟩, ⟨⟨r, r1, r2, r3⟩, x1, x2, x3, x4⟩, -, -, -⟩ := h
  obtain ⟨m, m1, m2, m3, m4⟩ := x4 r r1
  obtain ⟨o1, o2, o3⟩ := TR_ok m1 (by omega) m3 m4
  have hrl : rlO σ r m := ⟨r2, by omega, m2, m1, m3⟩
  have n7 : ∀ i k, k < 7 → (7 * i + k) / 7 = i ∧ (7 * i + k) % 7 = k := fun i k hk => by omega
  have n5 : ∀ i k, k < 5 → (5 * i + k) / 5 = i ∧ (5 * i + k) % 5 = k := fun i k hk => by omega
  have d7 : ∀ i k, k < 7 → BD σ κ kd r (tn r) 7 (7 * i + k) = nn (tVal κ (9 + r) (tn r) (15 + i) 0 (spl k) 0) := fun i k hk => by
    show nn (tVal κ (9 + r) (tn r) (15 + (7 * i + k) / 7) 0 (spl ((7 * i + k) % 7)) 0) = _
    rw [(n7 i k hk).1, (n7 i k hk).2]
  have d8 : ∀ i k, k < 7 → BD σ κ kd r (tn r) 8 (7 * i + k) = if k = 0 then 0 else nn (tVal κ (9 + r) (tn r) (15 + i) 1 (nI k - 1) 0) := fun i k hk => by
    show (if (7 * i + k) % 7 = 0 then 0 else nn (tVal κ (9 + r) (tn r) (15 + (7 * i + k) / 7) 1 (nI ((7 * i + k) % 7) - 1) 0)) = _
    rw [(n7 i k hk).1, (n7 i k hk).2]
  have d9 : ∀ i k, k < 5 → BD σ κ kd r (tn r) 9 (5 * i + k) = nn (tVal κ (9 + r) (tn r) (15 + i) 2 0 (nI k)) := fun i k hk => by
    show nn (tVal κ (9 + r) (tn r) (15 + (5 * i + k) / 5) 2 0 (nI ((5 * i + k) % 5))) = _
    rw [(n5 i k hk).1, (n5 i k hk).2]
  have d1 : ∀ i, BD σ κ kd r (tn r) 1 i = nn (σ.2.2 11 i) := fun _ => rfl
  have d2 : ∀ i, BD σ κ kd r (tn r) 2 i = nn (σ.2.2 12 i) := fun _ => rfl
  have d3 : ∀ i, BD σ κ kd r (tn r) 3 i = nn (σ.2.2 14 i + 1) := fun _ => rfl
  have d4 : ∀ i, BD σ κ kd r (tn r) 4 i = nn (σ.2.2 7 i) := fun _ => rfl
  have d5 : ∀ i, BD σ κ kd r (tn r) 5 i = nn (σ.2.2 8 i) := fun _ => rfl
  have d6 : ∀ i, BD σ κ kd r (tn r) 6 i = nn (σ.2.2 9 i) := fun _ => rfl
  have d0 : BD σ κ kd r (tn r) 0 = kd := rfl
  generalize BD σ κ kd r (tn r) = D at d0 d1 d2 d3 d4 d5 d6 d7 d8 d9
  have hth : ∀ i, i < 5 → D 0 i < 6 ∧ D 1 i < 10 ∧ D 2 i < 4 ∧ D 3 i < 7 ∧ σ.2.2 10 i = nI (D 0 i) ∧ σ.2.2 11 i = nI (D 1 i) ∧ σ.2.2 12 i = nI (D 2 i) ∧ σ.2.2 14 i = nI (D 3 i) - 1 ∧ (i < n → κ.1 (15 + i) 2 = nI (D 1 i) ∧ κ.1 (15 + i) 3 = nI (D 2 i) ∧ κ.1 (15 + i) 4 = σ.2.2 13 i ∧ κ.1 (15 + i) 5 = nI (D 3 i) - 1) := fun i hi => by
    obtain ⟨k1, k2, k3, k4, ⟨v1, p1, p2, p3⟩, ⟨v2, q1, q2, q3⟩, ⟨v3, s1, s2, s3⟩, v4, t1, t2, t3⟩ := c1 i hi
    rw [d0, d1, d2, d3, p2, q2, s2, t2, k2, Int32.sub_add_cancel, nn_nI (by omega), nn_nI (by omega), nn_nI (by omega)]
    exact ⟨k1, p1, q1, t1, rfl, rfl, rfl, rfl, fun hn => ⟨p3 hn, q3 hn, s3 hn, t3 hn⟩⟩
  have hok : okD D n := ⟨a1, fun i hi => ⟨(hth i hi).1, (hth i hi).2.1, (hth i hi).2.2.1, (hth i hi).2.2.2.1⟩, fun p hp => by rw [d4]; exact (eqb_nn (b1 p hp) (by decide)).1, fun g hg => by rw [d5]; exact (eqb_nn (b2 g hg) (by decide)).1, fun d hd => by rw [d6]; exact (eqb_nn (b3 d hd) (by decide)).1⟩
  have hG : okG D n := fun i hi => ⟨fun k hk => ⟨?_, ?_⟩, fun c hc => ?_⟩
  · have hRD : RD σ D n := ⟨hok, a2, fun i hi => ⟨(hth i hi).2.2.2.2.1, (hth i hi).2.2.2.2.2.1, (hth i hi).2.2.2.2.2.2.1, (hth i hi).2.2.2.2.2.2.2.1⟩, fun p hp => by rw [d4]; exact (eqb_nn (b1 p hp) (by decide)).2.1, fun g hg => by rw [d5]; exact (eqb_nn (b2 g hg) (by decide)).2.1, fun d hd => by rw [d6]; exact (eqb_nn (b3 d hd) (by decide)).2.1⟩
    have nnV : ∀ (i part : Nat) (pl gs : Int32), tVal κ (9 + r) (tn r) i part pl gs = nI (nn (tVal κ (9 + r) (tn r) i part pl gs)) := fun i part pl gs => by
      obtain ⟨v, v1, v2⟩ := tV_99 (κ := κ) (9 + r) (tn r) i part pl gs
      rw [v2, nn_nI (by omega)]
    have hsay : ∀ i, i < n → ∀ part, part < 3 → ∀ (pl gs v : Int32), SV σ r m (nI part) i pl gs v → v = tVal κ (9 + r) (tn r) (15 + i) part pl gs := fun i hi part hp pl gs v hv => by
      obtain ⟨s, tk, ta, ft, hs, e⟩ := hv
      obtain ⟨g1, g2, g3, -⟩ := (hth i (by omega)).2.2.2.2.2.2.2.2 hi
      refine e.trans (tR_says hrl m4 hp hs (c1 i (by omega)).2.2.2.1 ?_ ?_ g3).symm
      · rw [g1, (hth i (by omega)).2.2.2.2.2.1]
      · rw [g2, (hth i (by omega)).2.2.2.2.2.2.1]
    have hTD : TD σ r m D n := fun i hi => ⟨fun k hk => ⟨fun v hv => ?_, ?_⟩, fun c hc v hv => ?_⟩
    · refine ⟨D, r, m, d0, ⟨hRD, a4, hrl, hTD, hG⟩, ⟨fun t ht => ⟨?_, ?_⟩, fun i j hij hj e => ?_⟩, r1, r2, fun μ b hI => ⟨by rw [d0]; exact hI, ⟨hok, a3, fun p hp => by rw [d4]; exact (eqb_nn (b1 p hp) (by decide)).2.2, fun g hg => by rw [d5]; exact (eqb_nn (b2 g hg) (by decide)).2.2, fun d hd => by rw [d6]; exact (eqb_nn (b3 d hd) (by decide)).2.2, fun t ht => ?_⟩, hG, ⟨r1, x1, r3⟩, fun t ht => ?_, ⟨o1, by omega, o3⟩, a5⟩⟩
      · show (if t = 9 then 0 else D 3 t) < 7
        rw [if_neg (by omega)]
        exact (hth t (by omega)).2.2.2.1
      · show (if t = 9 then (if t = 9 then 0 else D 3 t) == 0 else stD (D 0 t) (if t = 9 then 0 else D 3 t)) = true
        rw [if_neg (by omega), if_neg (by omega), d0, d3]
        exact c2.1 t ht
      · have e : (if i = 9 then 0 else D 3 i) = if j = 9 then 0 else D 3 j := e
        show (if i = 9 then 0 else D 3 i) = 0
        rw [if_neg (by omega), if_neg (by omega), d3, d3] at e
        rw [if_neg (by omega), d3]
        exact c2.2 i j hij hj e
      · obtain ⟨h1, h2, h3, h4, -, -, -, -, h5⟩ := hth t (by omega)
        obtain ⟨g1, g2, g3, g4⟩ := h5 ht
        exact ⟨⟨h1, h2, h3, (c1 t (by omega)).2.2.2.1, g1, g2⟩, g4⟩
      · obtain ⟨g1, g2, g3, g4⟩ := (hth t (by omega)).2.2.2.2.2.2.2.2 ht
        exact TV_of hrl m4 ht hTD (c1 t (by omega)).2.2.2.1 (by rw [g1, (hth t (by omega)).2.2.2.2.2.1]) (by rw [g2, (hth t (by omega)).2.2.2.2.2.2.1]) g3
    · rw [d7 i k hk, ← nnV]
      exact hsay i hi 0 (by decide) _ _ v hv
    · rw [d8 i k hk]
      by_cases hk0 : k = 0
      · rw [if_pos hk0, if_pos hk0]
      · rw [if_neg hk0, if_neg hk0]
        intro v hv
        rw [← nnV]
        exact hsay i hi 1 (by decide) _ _ v hv
    · rw [d9 i c hc, ← nnV]
      exact hsay i hi 2 (by decide) _ _ v hv
  · rw [d7 i k hk]
    obtain ⟨v, v1, v2⟩ := tV_99 (κ := κ) (9 + r) (tn r) (15 + i) 0 (spl k) 0
    rw [v2, nn_nI (by omega)]
    exact v1
  · rw [d8 i k hk]
    split
    · omega
    · obtain ⟨v, v1, v2⟩ := tV_99 (κ := κ) (9 + r) (tn r) (15 + i) 1 (nI k - 1) 0
      rw [v2, nn_nI (by omega)]
      exact v1
  · rw [d9 i c hc]
    obtain ⟨v, v1, v2⟩ := tV_99 (κ := κ) (9 + r) (tn r) (15 + i) 2 0 (nI c)
    rw [v2, nn_nI (by omega)]
    exact v1
end M9999995
