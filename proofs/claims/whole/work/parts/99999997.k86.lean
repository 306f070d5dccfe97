/-! both go on together: text -/
section M99999997
variable {Γ : Gm} {μ : Mem} {a : Ma} {σ s : MS} {κ κ2 : KS} {kd kd2 : Nat → Nat} {kp : Bool} {n n2 nt : Nat} {tn : Nat → Nat}
theorem c_textF2 (hM : MOK μ a) (h3 : σ.1 3 = 6) : XM Γ zX12_text 49 0 0 [.ref a.1] (MV μ a σ) (rt (.int (-4)) (MV μ a σ)) := by
  refine XM.of 1 rfl (by decide) (Nat.le_of_ble_eq_true rfl) ?_
  refine x_aload_n (pc := 0) dX12_text_0 rfl ?_
  refine m_getI (pc := 1) hM dX12_text_1 fk_12_103 (Or.inl rfl) ?_
  refine x_bipush (pc := 4) (v := 6) dX12_text_4 rfl ?_
  refine x_icmp_ne (pc := 6) (tgt := 12) dX12_text_6 rfl (fun h_6 => absurd (h3) h_6) (fun h_6 => ?_)
  refine x_bipush (pc := 9) (v := -4) dX12_text_9 rfl ?_
  refine x_ireturn (pc := 11) dX12_text_11 rfl rfl ?_
  exact ⟨rfl, rfl⟩
theorem Pt {s : MS} {f : Nat} {m : Int32} {p : PT} {k : Nat} (hk : k < 16 ∨ 30 < k) : (Pσ (sB s f m) p).1 k = s.1 k := by
  show (if k = 24 then _ else if k = 25 then _ else if k = 26 then _ else if k = 28 then _ else if k = 29 then _ else if k = 30 then _ else _) = _
  rw [if_neg (by omega), if_neg (by omega), if_neg (by omega), if_neg (by omega), if_neg (by omega), if_neg (by omega)]
  show va_up (va_up s.1 22 _) 23 _ k = s.1 k
  rw [va_up_o (by omega), va_up_o (by omega)]
theorem BI_m (h : BI σ κ kd kp n nt) : BI σ κ kd kp n (nt + 1) := by
  rcases h with h | ⟨h1, k, g1, g2, g3, ⟨r, r1, r2, r3⟩, g5⟩
  · exact Or.inl h
  · exact Or.inr ⟨h1, k, g1, g2, g3, ⟨r, by omega, r2, r3⟩, g5⟩
/-- the state of the reference after a text has been taken in -/
def txE (σ : MS) (nt fd : Nat) (x3 : Int32) (s : MS) : Prop := (∀ k, k < 16 ∨ 30 < k → k ≠ 3 → k ≠ 6 → s.1 k = σ.1 k) ∧ s.1 6 = 0 ∧ s.1 3 = x3 ∧ s.2.2 = (sB (txS σ nt fd) (160 * nt) (nI fd)).2.2
theorem txS_is (σ : MS) (nt fd : Nat) : (∀ k, k ≠ 6 → (txS σ nt fd).1 k = σ.1 k) ∧ (txS σ nt fd).1 6 = 0 ∧ (∀ k, k ≠ 1 → k ≠ 2 → (txS σ nt fd).2.2 k = σ.2.2 k) ∧ (∀ i, (txS σ nt fd).2.2 2 i = if i = nt then nI fd else σ.2.2 2 i) ∧ ∀ x, (txS σ nt fd).2.2 1 x = if 160 * nt ≤ x ∧ x < 160 * nt + fd then σ.2.2 5 (x - 160 * nt) else σ.2.2 1 x := by
  obtain ⟨h1, h2, h3⟩ := it_rc (K := 1) (L := 5) (a := 160 * nt) (c := 0) (f := f_tx nt) (fun j s => by rw [Nat.zero_add]; rfl) (by decide) σ fd
  have e : txS σ nt fd = tI (tA (it (f_tx nt) fd σ) 2 nt (nI fd)) 6 0 := rfl
  rw [e]
  generalize it (f_tx nt) fd σ = z at h1 h2 h3
  refine ⟨fun k hk => (tI_n hk).trans (congrFun h1 k), tI_s, fun k k1 k2 => (tA_n k2).trans (h2 k k1), fun i => ?_, fun x => ?_⟩
  · show up2 z.2.2 2 nt (nI fd) 2 i = _
    by_cases hi : i = nt
    · rw [if_pos hi, hi, up2_s]
    · rw [if_neg hi, up2_n (Or.inr hi), h2 2 (by decide)]
  · refine ((congrFun (tA_n (k := 2) (by decide)) x).trans (h3 x)).trans ?_
    by_cases hx : 160 * nt ≤ x ∧ x < 160 * nt + fd
    · rw [if_pos hx, if_pos hx, Nat.zero_add]
    · rw [if_neg hx, if_neg hx]
theorem tx_BR (hB : BRe σ κ kd kp n nt tn) {fd : Nat} (h0 : nt < 6) (f1 : fd ≤ 160) (f4 : ∀ i, i < fd → eqb 256 (σ.2.2 5 i) (κ.2 0 2 i)) {nt2 : Nat} {tn2 : Nat → Nat} (hE : txE σ nt fd (nI nt2) s) (g : ∀ a, a < 25 → a ≠ 0 → a ≠ 4 → a ≠ 9 + nt → κ2.1 a = κ.1 a ∧ κ2.2 a = κ.2 a) (g03 : κ2.1 0 3 = 0) (g06 : κ2.1 0 6 = nI nt2) (hnt : (nt2 = nt ∧ tn2 = tn) ∨ (nt2 = nt + 1 ∧ (∀ i, i < nt → tn2 i = tn i) ∧ TR s (160 * nt) fd κ2 (9 + nt) (tn2 nt))) : BRe s κ2 kd kp n nt2 tn2 := by
  obtain ⟨e1, e2, e3, e4⟩ := hE
  obtain ⟨w1, w2, w3, w4, w5⟩ := txS_is σ nt fd
  have e5 : s.2.2 = (txS σ nt fd).2.2 := e4
  have r1 : ∀ k, k ≠ 1 → k ≠ 2 → s.2.2 k = σ.2.2 k := fun k k1 k2 => by rw [e5]; exact w3 k k1 k2
  have i1 : ∀ k, k < 16 ∨ 30 < k → k ≠ 3 → k ≠ 6 → s.1 k = σ.1 k := e1
  obtain ⟨hA, hH, hT, ⟨⟨r, q1, q2, q3⟩, x1, x2, x3, x4⟩, hP, hS, hI2⟩ := hB
  have hI3 : BI σ κ kd kp n nt2 := by
    rcases hnt with ⟨rfl, -⟩ | ⟨rfl, -⟩
    · exact hI2
    · exact BI_m hI2
  refine ⟨BA_f hA (i1 15 (by omega) (by decide) (by decide)) (i1 35 (by omega) (by decide) (by decide)) (congrFun (g 1 (by omega) (by omega) (by omega) (by omega)).1 4) (congrFun (g 3 (by omega) (by omega) (by omega) (by omega)).2 6), BH_f hH (r1 7 (by decide) (by decide)) (r1 8 (by decide) (by decide)) (r1 9 (by decide) (by decide)) (g 1 (by omega) (by omega) (by omega) (by omega)).2, BT_f hT (r1 10 (by decide) (by decide)) (r1 11 (by decide) (by decide)) (r1 12 (by decide) (by decide)) (r1 13 (by decide) (by decide)) (r1 14 (by decide) (by decide)) (fun i hi => (g (15 + i) (by omega) (by omega) (by omega) (by omega)).1), ⟨⟨r, by omega, (i1 4 (by omega) (by decide) (by decide)).trans q2, (congrFun (g 1 (by omega) (by omega) (by omega) (by omega)).1 5).trans q3⟩, by omega, e3, g06, ?_⟩, ⟨0, by omega, e2, g03, fun i hi => absurd hi (Nat.not_lt_zero i)⟩, BS_f hS (r1 52 (by decide) (by decide)) (r1 53 (by decide) (by decide)) (r1 54 (by decide) (by decide)) (r1 55 (by decide) (by decide)) (fun i hi => ⟨(g (5 + i) (by omega) (by omega) (by omega) (by omega)).1, congrFun (g (5 + i) (by omega) (by omega) (by omega) (by omega)).2 2⟩), BI_f hI3 (i1 50 (by omega) (by decide) (by decide)) (i1 51 (by omega) (by decide) (by decide)) (r1 48 (by decide) (by decide)) (r1 49 (by decide) (by decide)) (g 2 (by omega) (by omega) (by omega) (by omega)).1 (g 2 (by omega) (by omega) (by omega) (by omega)).2 (fun i hi => (g (20 + i) (by omega) (by omega) (by omega) (by omega)).1)⟩
  have old : ∀ i, i < nt → ∃ m, m ≤ 160 ∧ s.2.2 2 i = nI m ∧ (∀ j, j < m → ∃ c, c < 256 ∧ s.2.2 1 (160 * i + j) = nI c) ∧ TR s (160 * i) m κ2 (9 + i) (tn i) := fun i hi => by
    obtain ⟨m, m1, m2, m3, m4⟩ := x4 i hi
    have hb : ∀ j, j < m → s.2.2 1 (160 * i + j) = σ.2.2 1 (160 * i + j) := fun j hj => by rw [e5, w5, if_neg (by omega)]
    refine ⟨m, m1, by rw [e5, w4 i, if_neg (by omega)]; exact m2, fun j hj => by rw [hb j hj]; exact m3 j hj, ?_⟩
    refine TR_cg (σ := σ) (τ := s) (κ := κ) (κ2 := κ2) (f := 160 * i) (m := m) (o := 9 + i) (l := tn i) ?_ (congrFun (g (9 + i) (by omega) (by omega) (by omega) (by omega)).2 0) (congrFun (g (9 + i) (by omega) (by omega) (by omega) (by omega)).2 1) m4
    funext j
    unfold bA
    by_cases hj : j < m
    · rw [if_pos hj, if_pos hj, hb j hj]
    · rw [if_neg hj, if_neg hj]
  rcases hnt with ⟨rfl, rfl⟩ | ⟨rfl, h1, h2⟩
  · exact old
  · intro i hi
    by_cases hin : i = nt
    · subst hin
      refine ⟨fd, f1, by rw [e5, w4 i, if_pos rfl], fun j hj => ?_, h2⟩
      rw [e5, w5, if_pos (by omega), show 160 * i + j - 160 * i = j by omega]
      obtain ⟨c, c1, c2, -⟩ := f4 j hj
      exact ⟨c, c1, c2⟩
    · rw [h1 i (by omega)]
      exact old i (by omega)
theorem J_text : JX Γ zX11_text zX12_text 92 4 400 49 [] := by
  intro μ b κ σ kd kp n nt tn hI hB
  obtain ⟨hA, hH, hT, hX, hP, hS, hI2⟩ := id hB
  obtain ⟨fd, f1, f2, f3, f4⟩ := hP
  obtain ⟨-, x1, x2, x3, -⟩ := hX
  have hby : ∀ i, i < fd → ∃ c, c < 256 ∧ σ.2.2 5 i = nI c := fun i hi => by
    obtain ⟨c, c1, c2, -⟩ := f4 i hi
    exact ⟨c, c1, c2⟩
  have hrow : nt < 6 → ∀ i, i < fd → κ.2 0 2 i = (sB (txS σ nt fd) (160 * nt) (nI fd)).2.2 1 (160 * nt + i) := fun h0 i hi => by
    show _ = (txS σ nt fd).2.2 1 (160 * nt + i)
    rw [(txS_is σ nt fd).2.2.2.2, if_pos (by omega), show 160 * nt + i - 160 * nt = i by omega]
    obtain ⟨c, c1, c2, c3⟩ := f4 i hi
    rw [c2, c3]
  have hc := k_text (Γ := Γ) hI x1 (σ := sB (txS σ nt fd) (160 * nt) (nI fd)) (f := 160 * nt) (fd := fd) x3 f3 (fun h0 => rdO_tx f1 h0 hby) hrow
  by_cases h6 : nt = 6
  · refine ⟨(-4), fun κ2 kd2 kp2 n2 nt2 tn2 => κ2 = κ ∧ kd2 = kd ∧ kp2 = kp ∧ n2 = n ∧ nt2 = nt ∧ tn2 = tn, fun s => s = σ, XM_post hc (fun r M hx => ?_), fun μ' a hM => XM_post (c_textF2 hM (by rw [x2, h6]; rfl)) (fun r M hx => ?_), ?_⟩
    · obtain ⟨v, μ2, b2, κ2, nt2, tn2, rfl, rfl, h1, h2, h3, h4⟩ := hx
      rcases h4 with ⟨-, rfl, rfl, rfl, rfl⟩ | ⟨h, -⟩
      · exact ⟨rfl, μ2, b2, κ2, kd, kp, n, nt2, tn2, rfl, h1, h2, h3, rfl, rfl, rfl, rfl, rfl, rfl⟩
      · exact absurd h (by omega)
    · obtain ⟨rfl, rfl⟩ := hx
      exact ⟨rfl, _, rfl, rfl⟩
    · rintro κ2 kd2 kp2 n2 nt2 tn2 σ2 ⟨rfl, rfl, rfl, rfl, rfl, rfl⟩ rfl
      exact hB
  · have h0 : nt < 6 := by omega
    have hO := rdO_tx (σ := σ) (tc := nt) (n := fd) f1 h0 hby
    have hm : ∀ (μ' : Mem) (a : Ma), MOK μ' a → _ := fun μ' a hM => c_text (Γ := Γ) (σ := σ) hM x2 h0 f2 f1 hby
    have hs : ∀ (c : CT) (tk ta ft : Nat), _ := fun c tk ta ft => rd_sim (c := c) (tk := tk) (ta := ta) (ft := ft) (tw := σ.2.1) hO
    obtain ⟨S, hS0⟩ : ∃ S, S = sB (txS σ nt fd) (160 * nt) (nI fd) := ⟨_, rfl⟩
    have hEx : ∀ (p : PT), txE σ nt fd (nI nt) (Pσ S p) ∧ txE σ nt fd (nI (nt + 1)) (tI (Pσ S p) 3 (nI (nt + 1))) := fun p => by
      obtain ⟨w1, w2, -⟩ := txS_is σ nt fd
      rw [hS0]
      refine ⟨⟨fun k hk _ k6 => (Pt hk).trans (w1 k k6), (Pt (by omega)).trans w2, (Pt (by omega)).trans ((w1 3 (by decide)).trans x2), rfl⟩, ⟨fun k hk k3 k6 => (tI_n k3).trans ((Pt hk).trans (w1 k k6)), (tI_n (by decide)).trans ((Pt (by omega)).trans w2), tI_s, rfl⟩⟩
    have hSa : S.2.2 = (sB (txS σ nt fd) (160 * nt) (nI fd)).2.2 := by rw [hS0]
    rw [← hS0] at hc hm hs
    obtain ⟨FL, hFL⟩ : ∃ FL : CT → Int32, ∀ c, FL c = (cX S (160 * nt) fd (-23) (rc S (160 * nt) fd c 3)).2.2.2.2.1 := ⟨_, fun _ => rfl⟩
    have hs1 : ∀ (c : CT) (tk ta ft : Nat), (pbd (rdE S (160 * nt) fd (0, tk, ta, σ.2.1, 0, 0, ft)) = 0 → FL c = -1) ∧ (¬ pbd (rdE S (160 * nt) fd (0, tk, ta, σ.2.1, 0, 0, ft)) = 0 → ¬ FL c = -1 ∧ FL c = nI (rdE S (160 * nt) fd (0, tk, ta, σ.2.1, 0, 0, ft)).2.2.2.2.2.2) := fun c tk ta ft => ⟨fun z => by rw [hFL]; exact ((hs c tk ta ft).1 z).1, fun z => by rw [hFL]; exact (hs c tk ta ft).2 z⟩
    obtain ⟨c0⟩ : Nonempty CT := ⟨(0, 0, 0, 0, 0, 0, fun _ => 0)⟩
    have hFc : ∀ c, FL c = FL c0 := fun c => by
      by_cases hz : pbd (rdE S (160 * nt) fd (0, 0, 0, σ.2.1, 0, 0, 0)) = 0
      · rw [(hs1 c 0 0 0).1 hz, (hs1 c0 0 0 0).1 hz]
      · rw [((hs1 c 0 0 0).2 hz).2, ((hs1 c0 0 0 0).2 hz).2]
    by_cases hf : FL c0 = -1
    · refine ⟨(nI nt), fun κ2 kd2 kp2 n2 nt2 tn2 => kd2 = kd ∧ kp2 = kp ∧ n2 = n ∧ ∃ w, txC κ S (160 * nt) fd nt tn w κ2 nt2 tn2, txE σ nt fd (nI (nt + 1)), XM_post hc (fun r M hx => ?_), fun μ' a hM => XM_post (hm μ' a hM) (fun r M hx => ?_), ?_⟩
      · obtain ⟨v, μ2, b2, κ2, nt2, tn2, rfl, rfl, h1, h2, h3, h4⟩ := hx
        refine ⟨?_, μ2, b2, κ2, kd, kp, n, nt2, tn2, rfl, h1, h2, h3, rfl, rfl, rfl, v, h4⟩
        rcases h4 with ⟨h, -⟩ | ⟨-, c, h | h⟩
        · exact absurd h h6
        · exact absurd ((hFL c).symm.trans ((hFc c).trans hf)) h.1
        · rw [h.2.1]
      · obtain ⟨tk, ta, ft, h | h⟩ := hx
        · exact absurd hf ((hs1 c0 tk ta ft).2 h.1).1
        · obtain ⟨-, rfl, rfl⟩ := h
          exact ⟨rfl, _, rfl, (hEx _).2⟩
      · rintro κ2 kd2 kp2 n2 nt2 tn2 σ2 ⟨rfl, rfl, rfl, w, h⟩ hE
        rcases h with ⟨h, -⟩ | ⟨-, c, h | h⟩
        · exact absurd h h6
        · exact absurd ((hFL c).symm.trans ((hFc c).trans hf)) h.1
        · obtain ⟨g1, -, rfl, rfl, g2, g3, g4, g5, g6⟩ := h
          refine tx_BR hB h0 f1 f4 hE g2 g3 g4 (Or.inr ⟨rfl, fun i hi => if_neg (by omega), ?_⟩)
          rw [if_pos rfl]
          have hT0 : TR S (160 * nt) fd κ2 (9 + nt) (cX S (160 * nt) fd (-23) (rc S (160 * nt) fd c 3)).2.2.2.2.2.1 := ⟨c, g1, rfl, g5, g6⟩
          refine TR_cg (σ := S) (τ := σ2) (κ := κ2) (κ2 := κ2) ?_ rfl rfl hT0
          funext j
          unfold bA
          rw [hE.2.2.2, ← hSa]
    · refine ⟨(-100 - FL c0), fun κ2 kd2 kp2 n2 nt2 tn2 => kd2 = kd ∧ kp2 = kp ∧ n2 = n ∧ ∃ w, txC κ S (160 * nt) fd nt tn w κ2 nt2 tn2, txE σ nt fd (nI nt), XM_post hc (fun r M hx => ?_), fun μ' a hM => XM_post (hm μ' a hM) (fun r M hx => ?_), ?_⟩
      · obtain ⟨v, μ2, b2, κ2, nt2, tn2, rfl, rfl, h1, h2, h3, h4⟩ := hx
        refine ⟨?_, μ2, b2, κ2, kd, kp, n, nt2, tn2, rfl, h1, h2, h3, rfl, rfl, rfl, v, h4⟩
        rcases h4 with ⟨h, -⟩ | ⟨-, c, h | h⟩
        · exact absurd h h6
        · rw [h.2.1, ← hFL c, hFc c]
        · exact absurd ((hFc c).symm.trans ((hFL c).trans h.1)) hf
      · obtain ⟨tk, ta, ft, h | h⟩ := hx
        · obtain ⟨hz, rfl, rfl⟩ := h
          refine ⟨?_, _, rfl, (hEx _).1⟩
          rw [((hs1 c0 tk ta ft).2 hz).2]
        · exact absurd ((hs1 c0 tk ta ft).1 h.1) hf
      · rintro κ2 kd2 kp2 n2 nt2 tn2 σ2 ⟨rfl, rfl, rfl, w, h⟩ hE
        rcases h with ⟨h, -⟩ | ⟨-, c, h | h⟩
        · exact absurd h h6
        · obtain ⟨g1, -, rfl, rfl, g2, g3⟩ := h
          refine tx_BR hB h0 f1 f4 hE (fun a ha a0 a4 _ => ⟨funext fun k => (g2 a k (by omega)).1, funext fun k => (g2 a k (by omega)).2⟩) g3 ((g2 0 6 (by omega)).1.trans x3) (Or.inl ⟨rfl, rfl⟩)
        · exact absurd ((hFc c).symm.trans ((hFL c).trans h.1)) hf
end M99999997
