/-! both go on together: image, back -/
theorem it_rc {K L a c : Nat} {f : Nat → MS → MS} (hf : ∀ j s, f j s = tA s K (a + j) (s.2.2 L (c + j))) (h : L ≠ K) (s : MS) : ∀ N, (it f N s).1 = s.1 ∧ (∀ k, k ≠ K → (it f N s).2.2 k = s.2.2 k) ∧ ∀ x, (it f N s).2.2 K x = if a ≤ x ∧ x < a + N then s.2.2 L (c + (x - a)) else s.2.2 K x
  | 0 => ⟨rfl, fun _ _ => rfl, fun j => by rw [if_neg (by omega)]; rfl⟩
  | m + 1 => by
    obtain ⟨h1, h2, h3⟩ := it_rc hf h s m
    have e : it f (m + 1) s = tA (it f m s) K (a + m) ((it f m s).2.2 L (c + m)) := hf m (it f m s)
    rw [e]
    refine ⟨h1, fun k hk => (tA_n hk).trans (h2 k hk), fun j => ?_⟩
    show up2 (it f m s).2.2 K (a + m) ((it f m s).2.2 L (c + m)) K j = _
    by_cases hj : j = a + m
    · rw [hj, up2_s, if_pos (by omega), h2 L h, show a + m - a = m by omega]
    · rw [up2_n (Or.inr hj), h3 j]
      by_cases h : a ≤ j ∧ j < a + m
      · rw [if_pos h, if_pos (by omega)]
      · rw [if_neg h, if_neg (by omega)]
theorem it_i4 (s : MS) : ∀ N, N ≤ 5 → (it f_i4 N s).1 = s.1 ∧ (∀ k, k ≠ 49 → (it f_i4 N s).2.2 k = s.2.2 k) ∧ ∀ t, t < N → (it f_i4 N s).2.2 49 t = s.2.2 11 t ∧ (it f_i4 N s).2.2 49 (5 + t) = s.2.2 12 t ∧ (it f_i4 N s).2.2 49 (10 + t) = s.2.2 13 t ∧ (it f_i4 N s).2.2 49 (15 + t) = s.2.2 14 t
  | 0, _ => ⟨rfl, fun _ _ => rfl, fun t ht => absurd ht (Nat.not_lt_zero t)⟩
  | m + 1, hm => by
    obtain ⟨h1, h2, h3⟩ := it_i4 s m (by omega)
    have e : it f_i4 (m + 1) s = tA (tA (tA (tA (it f_i4 m s) 49 m ((it f_i4 m s).2.2 11 m)) 49 (5 + m) ((it f_i4 m s).2.2 12 m)) 49 (10 + m) ((it f_i4 m s).2.2 13 m)) 49 (15 + m) ((it f_i4 m s).2.2 14 m) := rfl
    rw [e, h2 11 (by decide), h2 12 (by decide), h2 13 (by decide), h2 14 (by decide)]
    generalize it f_i4 m s = z at h1 h2 h3
    refine ⟨h1, fun k hk => ((tA_n hk).trans ((tA_n hk).trans ((tA_n hk).trans (tA_n hk)))).trans (h2 k hk), fun t ht => ?_⟩
    have rd : ∀ x, (tA (tA (tA (tA z 49 m (s.2.2 11 m)) 49 (5 + m) (s.2.2 12 m)) 49 (10 + m) (s.2.2 13 m)) 49 (15 + m) (s.2.2 14 m)).2.2 49 x = if x = 15 + m then s.2.2 14 m else if x = 10 + m then s.2.2 13 m else if x = 5 + m then s.2.2 12 m else if x = m then s.2.2 11 m else z.2.2 49 x := fun x => by
      show up2 (up2 (up2 (up2 z.2.2 49 m (s.2.2 11 m)) 49 (5 + m) (s.2.2 12 m)) 49 (10 + m) (s.2.2 13 m)) 49 (15 + m) (s.2.2 14 m) 49 x = _
      by_cases q1 : x = 15 + m
      · rw [if_pos q1, q1, up2_s]
      rw [if_neg q1, up2_n (Or.inr q1)]
      by_cases q2 : x = 10 + m
      · rw [if_pos q2, q2, up2_s]
      rw [if_neg q2, up2_n (Or.inr q2)]
      by_cases q3 : x = 5 + m
      · rw [if_pos q3, q3, up2_s]
      rw [if_neg q3, up2_n (Or.inr q3)]
      by_cases q4 : x = m
      · rw [if_pos q4, q4, up2_s]
      rw [if_neg q4, up2_n (Or.inr q4)]
    rw [rd, rd, rd, rd]
    by_cases htm : t = m
    · subst htm
      rw [if_neg (by omega), if_neg (by omega), if_neg (by omega), if_pos rfl, if_neg (by omega), if_neg (by omega), if_pos rfl, if_neg (by omega), if_pos rfl, if_pos rfl]
      exact ⟨rfl, rfl, rfl, rfl⟩
    · rw [if_neg (by omega), if_neg (by omega), if_neg (by omega), if_neg htm, if_neg (by omega), if_neg (by omega), if_neg (by omega), if_neg (by omega), if_neg (by omega), if_neg (by omega), if_neg (by omega), if_neg (by omega), if_neg (by omega), if_neg (by omega), if_neg (by omega), if_neg (by omega)]
      exact h3 t (by omega)
theorem it_b4 (s : MS) : ∀ N, N ≤ 5 → (it f_b4 N s).1 = s.1 ∧ (∀ k, k ≠ 11 → k ≠ 12 → k ≠ 13 → k ≠ 14 → (it f_b4 N s).2.2 k = s.2.2 k) ∧ ∀ t, t < N → (it f_b4 N s).2.2 11 t = s.2.2 49 t ∧ (it f_b4 N s).2.2 12 t = s.2.2 49 (5 + t) ∧ (it f_b4 N s).2.2 13 t = s.2.2 49 (10 + t) ∧ (it f_b4 N s).2.2 14 t = s.2.2 49 (15 + t)
  | 0, _ => ⟨rfl, fun _ _ _ _ _ => rfl, fun t ht => absurd ht (Nat.not_lt_zero t)⟩
  | m + 1, hm => by
    obtain ⟨h1, h2, h3⟩ := it_b4 s m (by omega)
    have e : it f_b4 (m + 1) s = tA (tA (tA (tA (it f_b4 m s) 11 m ((it f_b4 m s).2.2 49 m)) 12 m ((it f_b4 m s).2.2 49 (5 + m))) 13 m ((it f_b4 m s).2.2 49 (10 + m))) 14 m ((it f_b4 m s).2.2 49 (15 + m)) := rfl
    rw [e, h2 49 (by decide) (by decide) (by decide) (by decide)]
    generalize it f_b4 m s = z at h1 h2 h3
    refine ⟨h1, fun k k1 k2 k3 k4 => ((tA_n k4).trans ((tA_n k3).trans ((tA_n k2).trans (tA_n k1)))).trans (h2 k k1 k2 k3 k4), fun t ht => ?_⟩
    show up2 (up2 (up2 (up2 z.2.2 11 m (s.2.2 49 m)) 12 m (s.2.2 49 (5 + m))) 13 m (s.2.2 49 (10 + m))) 14 m (s.2.2 49 (15 + m)) 11 t = _ ∧ up2 (up2 (up2 (up2 z.2.2 11 m (s.2.2 49 m)) 12 m (s.2.2 49 (5 + m))) 13 m (s.2.2 49 (10 + m))) 14 m (s.2.2 49 (15 + m)) 12 t = _ ∧ up2 (up2 (up2 (up2 z.2.2 11 m (s.2.2 49 m)) 12 m (s.2.2 49 (5 + m))) 13 m (s.2.2 49 (10 + m))) 14 m (s.2.2 49 (15 + m)) 13 t = _ ∧ up2 (up2 (up2 (up2 z.2.2 11 m (s.2.2 49 m)) 12 m (s.2.2 49 (5 + m))) 13 m (s.2.2 49 (10 + m))) 14 m (s.2.2 49 (15 + m)) 14 t = _
    rw [up2_n (k := m) (q := 14) (a := 11) (Or.inl (by decide)), up2_n (k := m) (q := 13) (a := 11) (Or.inl (by decide)), up2_n (k := m) (q := 12) (a := 11) (Or.inl (by decide)), up2_n (k := m) (q := 14) (a := 12) (Or.inl (by decide)), up2_n (k := m) (q := 13) (a := 12) (Or.inl (by decide)), up2_n (k := m) (q := 14) (a := 13) (Or.inl (by decide))]
    by_cases htm : t = m
    · subst htm
      rw [up2_s, up2_s, up2_s, up2_s]
      exact ⟨rfl, rfl, rfl, rfl⟩
    · have un : ∀ (F : Nat → Nat → Int32) (q : Nat) (v : Int32) (c : Nat), up2 F q m v c t = F c t := fun F q v c => up2_n (Or.inr htm)
      simp only [un]
      exact h3 t (by omega)
/-- what image leaves -/
theorem imA_is (σ : MS) : (imA σ).1 = σ.1 ∧ (∀ k, k ≠ 48 → k ≠ 49 → (imA σ).2.2 k = σ.2.2 k) ∧ (∀ p, p < 6 → (imA σ).2.2 48 p = σ.2.2 7 p) ∧ (∀ p, p < 4 → (imA σ).2.2 48 (6 + p) = σ.2.2 8 p) ∧ (∀ p, p < 7 → (imA σ).2.2 48 (10 + p) = σ.2.2 9 p) ∧ ∀ t, t < 5 → (imA σ).2.2 49 t = σ.2.2 11 t ∧ (imA σ).2.2 49 (5 + t) = σ.2.2 12 t ∧ (imA σ).2.2 49 (10 + t) = σ.2.2 13 t ∧ (imA σ).2.2 49 (15 + t) = σ.2.2 14 t := by
  obtain ⟨a1, a2, a3⟩ := it_rc (K := 48) (L := 7) (a := 0) (c := 0) (f := f_i1) (fun j s => by rw [Nat.zero_add]; rfl) (by decide) σ 6
  obtain ⟨b1, b2, b3⟩ := it_rc (K := 48) (L := 8) (a := 6) (c := 0) (f := f_i2) (fun j s => by rw [Nat.zero_add]; rfl) (by decide) (it f_i1 6 σ) 4
  obtain ⟨c1, c2, c3⟩ := it_rc (K := 48) (L := 9) (a := 10) (c := 0) (f := f_i3) (fun j s => by rw [Nat.zero_add]; rfl) (by decide) (it f_i2 4 (it f_i1 6 σ)) 7
  obtain ⟨d1, d2, d3⟩ := it_i4 (it f_i3 7 (it f_i2 4 (it f_i1 6 σ))) 5 (by decide)
  have ng : ∀ k, k ≠ 48 → (it f_i3 7 (it f_i2 4 (it f_i1 6 σ))).2.2 k = σ.2.2 k := fun k hk => by rw [c2 k hk, b2 k hk, a2 k hk]
  rw [ng 11 (by decide), ng 12 (by decide), ng 13 (by decide), ng 14 (by decide)] at d3
  unfold imA
  refine ⟨by rw [d1, c1, b1, a1], fun k h8 h9 => (d2 k h9).trans (ng k h8), fun p hp => ?_, fun p hp => ?_, fun p hp => ?_, d3⟩
  · rw [d2 48 (by decide), c3, if_neg (by omega), b3, if_neg (by omega), a3, if_pos (by omega)]
    exact congrArg _ (by omega)
  · rw [d2 48 (by decide), c3, if_neg (by omega), b3, if_pos (by omega), a2 8 (by decide)]
    exact congrArg _ (by omega)
  · rw [d2 48 (by decide), c3, if_pos (by omega), b2 9 (by decide), a2 9 (by decide)]
    exact congrArg _ (by omega)
theorem bkA_is (σ : MS) : (bkA σ).1 = σ.1 ∧ (∀ k, k < 7 ∨ k = 10 ∨ 14 < k → (bkA σ).2.2 k = σ.2.2 k) ∧ (∀ p, p < 6 → (bkA σ).2.2 7 p = σ.2.2 48 p) ∧ (∀ p, p < 4 → (bkA σ).2.2 8 p = σ.2.2 48 (6 + p)) ∧ (∀ p, p < 7 → (bkA σ).2.2 9 p = σ.2.2 48 (10 + p)) ∧ ∀ t, t < 5 → (bkA σ).2.2 11 t = σ.2.2 49 t ∧ (bkA σ).2.2 12 t = σ.2.2 49 (5 + t) ∧ (bkA σ).2.2 13 t = σ.2.2 49 (10 + t) ∧ (bkA σ).2.2 14 t = σ.2.2 49 (15 + t) := by
  obtain ⟨a1, a2, a3⟩ := it_rc (K := 7) (L := 48) (a := 0) (c := 0) (f := f_b1) (fun j s => by rw [Nat.zero_add]; rfl) (by decide) σ 6
  obtain ⟨b1, b2, b3⟩ := it_rc (K := 8) (L := 48) (a := 0) (c := 6) (f := f_b2) (fun j s => by rw [Nat.zero_add]; rfl) (by decide) (it f_b1 6 σ) 4
  obtain ⟨c1, c2, c3⟩ := it_rc (K := 9) (L := 48) (a := 0) (c := 10) (f := f_b3) (fun j s => by rw [Nat.zero_add]; rfl) (by decide) (it f_b2 4 (it f_b1 6 σ)) 7
  obtain ⟨d1, d2, d3⟩ := it_b4 (it f_b3 7 (it f_b2 4 (it f_b1 6 σ))) 5 (by decide)
  have ng : ∀ k, k ≠ 7 → k ≠ 8 → k ≠ 9 → (it f_b3 7 (it f_b2 4 (it f_b1 6 σ))).2.2 k = σ.2.2 k := fun k h7 h8 h9 => by rw [c2 k h9, b2 k h8, a2 k h7]
  rw [ng 49 (by decide) (by decide) (by decide)] at d3
  unfold bkA
  refine ⟨by rw [d1, c1, b1, a1], fun k hk => (d2 k (by omega) (by omega) (by omega) (by omega)).trans (ng k (by omega) (by omega) (by omega)), fun p hp => ?_, fun p hp => ?_, fun p hp => ?_, d3⟩
  · rw [d2 7 (by decide) (by decide) (by decide) (by decide), c2 7 (by decide), b2 7 (by decide), a3, if_pos (by omega)]
    exact congrArg _ (by omega)
  · rw [d2 8 (by decide) (by decide) (by decide) (by decide), c2 8 (by decide), b3, if_pos (by omega), a2 48 (by decide)]
    exact congrArg _ (by omega)
  · rw [d2 9 (by decide) (by decide) (by decide) (by decide), c3, if_pos (by omega), b2 48 (by decide), a2 48 (by decide)]
    exact congrArg _ (by omega)
section M99999994
variable {Γ : Gm} {σ s : MS} {κ κ2 : KS} {kd : Nat → Nat} {kp : Bool} {n nt : Nat} {tn : Nat → Nat}
theorem J_image : JX Γ zX11_image zX12_image 4 40 338 1 [] := by
  intro μ b κ σ kd kp n nt tn hI hB
  obtain ⟨hA, hH, hT, hX, hP, hS, hI2⟩ := id hB
  have hn := hA.1
  obtain ⟨w1, w2, w3, w4, w5, w6⟩ := imA_is σ
  have e15 : (imA σ).1 15 = nI n := by rw [w1]; exact hA.2.1
  have hm : ∀ (μ' : Mem) (a : Ma), MOK μ' a → _ := fun μ' a hM => c_image (Γ := Γ) (σ := σ) hM
  rw [e15] at hm
  refine ⟨(nI n), fun κ2 kd2 kp2 n2 nt2 tn2 => imE κ κ2 n ∧ kd2 = kd ∧ kp2 = true ∧ n2 = n ∧ nt2 = nt ∧ tn2 = tn, fun s => s = imR σ, XM_post (k_image hI hX.2.1 hA.2.2.1 hn) (fun r M hx => ?_), fun μ' a hM => XM_post (hm μ' a hM) (fun r M hx => ?_), ?_⟩
  · obtain ⟨μ2, b2, κ2, rfl, rfl, h1, h2, h3, h4⟩ := hx
    exact ⟨rfl, μ2, b2, κ2, kd, true, n, nt, tn, rfl, h1, h2, h3, h4, rfl, rfl, rfl, rfl, rfl⟩
  · obtain ⟨rfl, rfl⟩ := hx
    exact ⟨rfl, _, rfl, rfl⟩
  · rintro κ2 kd2 kp2 n2 nt2 tn2 σ2 ⟨hE, rfl, rfl, rfl, rfl, rfl⟩ rfl
    obtain ⟨f1, f2, f3, f4, f5, f6, f7⟩ := hE
    have j1 : ∀ k, k ≠ 50 → k ≠ 51 → (imR σ).1 k = σ.1 k := fun k h50 h51 => ((tI_n h51).trans (tI_n h50)).trans (congrFun w1 k)
    have j50 : (imR σ).1 50 = nI n2 := ((tI_n (by decide)).trans tI_s).trans e15
    have j51 : (imR σ).1 51 = σ.1 4 := (tI_s).trans (congrFun w1 4)
    have j2 : ∀ k, k ≠ 48 → k ≠ 49 → (imR σ).2.2 k = σ.2.2 k := w2
    have g : ∀ a, a < 2 ∨ (2 < a ∧ a < 20) → κ2.1 a = κ.1 a ∧ κ2.2 a = κ.2 a := fun a ha => f1 a (by omega) (by omega) (by omega)
    refine ⟨BA_f hA (j1 15 (by decide) (by decide)) (j1 35 (by decide) (by decide)) (congrFun (g 1 (by omega)).1 4) (congrFun (g 3 (by omega)).2 6), BH_f hH (j2 7 (by decide) (by decide)) (j2 8 (by decide) (by decide)) (j2 9 (by decide) (by decide)) (g 1 (by omega)).2, BT_f hT (j2 10 (by decide) (by decide)) (j2 11 (by decide) (by decide)) (j2 12 (by decide) (by decide)) (j2 13 (by decide) (by decide)) (j2 14 (by decide) (by decide)) (fun i hi => (g (15 + i) (by omega)).1), BX_fr hX (j1 3 (by decide) (by decide)) (j1 4 (by decide) (by decide)) ⟨j2 1 (by decide) (by decide), j2 2 (by decide) (by decide)⟩ (congrFun (g 1 (by omega)).1 5) (congrFun (g 0 (by omega)).1 6) (fun i hi => ⟨congrFun (g (9 + i) (by omega)).2 0, congrFun (g (9 + i) (by omega)).2 1⟩), BP_f hP (j1 6 (by decide) (by decide)) (j2 5 (by decide) (by decide)) (congrFun (g 0 (by omega)).1 3) (congrFun (g 0 (by omega)).2 2), BS_f hS (j2 52 (by decide) (by decide)) (j2 53 (by decide) (by decide)) (j2 54 (by decide) (by decide)) (j2 55 (by decide) (by decide)) (fun i hi => ⟨(g (5 + i) (by omega)).1, congrFun (g (5 + i) (by omega)).2 2⟩), Or.inr ⟨rfl, n2, Nat.le_refl n2, j50, f2.trans hA.2.2.1, ?_, fun p hp => ?_, fun p hp => ?_, fun p hp => ?_, fun i hi => ?_, ?_⟩⟩
    · obtain ⟨⟨r, r1, r2, r3⟩, -⟩ := hX
      exact ⟨r, r1, j51.trans r2, f3.trans r3⟩
    · show eqb 16 ((imA σ).2.2 48 p) _
      rw [w3 p hp, f4 p hp]
      exact hH.1 p hp
    · show eqb 4 ((imA σ).2.2 48 (6 + p)) _
      rw [w4 p hp, f5 p hp]
      exact hH.2.1 p hp
    · show eqb 16 ((imA σ).2.2 48 (10 + p)) _
      rw [w5 p hp, f6 p hp]
      exact hH.2.2 p hp
    · obtain ⟨t1, t2, t3, t4⟩ := w6 i hi
      show thB ((imA σ).2.2 49 i) ((imA σ).2.2 49 (5 + i)) ((imA σ).2.2 49 (10 + i)) ((imA σ).2.2 49 (15 + i)) _ _ _ _ _
      rw [t1, t2, t3, t4]
      obtain ⟨-, -, -, -, ⟨v1, a1, b1, c1⟩, ⟨v2, a2, b2, c2⟩, ⟨v3, a3, b3, c3⟩, v4, a4, b4, c4⟩ := hT.1 i hi
      exact ⟨⟨v1, a1, b1, fun h => (f7 i h 2 (by decide) (by decide)).trans (c1 h)⟩, ⟨v2, a2, b2, fun h => (f7 i h 3 (by decide) (by decide)).trans (c2 h)⟩, ⟨v3, a3, b3, fun h => (f7 i h 4 (by decide) (by decide)).trans (c3 h)⟩, v4, a4, b4, fun h => (f7 i h 5 (by decide) (by decide)).trans (c4 h)⟩
    · refine ⟨fun t ht => ?_, fun i j hij hj e => ?_⟩
      · show stD (kd2 t) (nn ((imA σ).2.2 49 (15 + t) + 1)) = true
        rw [(w6 t (by omega)).2.2.2]
        exact hT.2.1 t ht
      · have e : nn ((imA σ).2.2 49 (15 + i) + 1) = nn ((imA σ).2.2 49 (15 + j) + 1) := e
        show nn ((imA σ).2.2 49 (15 + i) + 1) = 0
        rw [(w6 i (by omega)).2.2.2, (w6 j (by omega)).2.2.2] at e
        rw [(w6 i (by omega)).2.2.2]
        exact hT.2.2 i j hij hj e
theorem J_back : JX Γ zX11_back zX12_back 3 0 0 1 [] := by
  intro μ b κ σ kd kp n nt tn hI hB
  obtain ⟨hA, hH, hT, hX, hP, hS, hI2⟩ := id hB
  have hn := hA.1
  rcases id hI2 with ⟨rfl, h50⟩ | ⟨rfl, k, k1, k2, k3, ⟨r, r1, r2, r3⟩, k4, k5, k6, k7, k8⟩
  · refine ⟨(-3), fun κ2 kd2 kp2 n2 nt2 tn2 => κ2 = κ ∧ kd2 = kd ∧ kp2 = false ∧ n2 = n ∧ nt2 = nt ∧ tn2 = tn, fun s => s = σ, XM_post (k_backN hI) (fun r M hx => ?_), fun μ' a hM => XM_post (c_backN hM h50) (fun r M hx => ?_), ?_⟩
    · obtain ⟨rfl, rfl⟩ := hx
      exact ⟨rfl, μ, b, κ, kd, false, n, nt, tn, rfl, hI, FO_any, rfl, rfl, rfl, rfl, rfl, rfl, rfl⟩
    · obtain ⟨rfl, rfl⟩ := hx
      exact ⟨rfl, _, rfl, rfl⟩
    · rintro κ2 kd2 kp2 n2 nt2 tn2 σ2 ⟨rfl, rfl, rfl, rfl, rfl, rfl⟩ rfl
      exact hB
  · obtain ⟨w1, w2, w3, w4, w5, w6⟩ := bkA_is σ
    have e50 : (bkA σ).1 50 = nI k := by rw [w1]; exact k2
    have h50 : ¬ σ.1 50 = -1 := by
      rw [k2]
      rcases (by omega : k = 0 ∨ k = 1 ∨ k = 2 ∨ k = 3 ∨ k = 4 ∨ k = 5) with rfl | rfl | rfl | rfl | rfl | rfl <;> decide
    have hm : ∀ (μ' : Mem) (a : Ma), MOK μ' a → _ := fun μ' a hM => c_back (Γ := Γ) (σ := σ) hM h50
    rw [e50] at hm
    refine ⟨(nI k), fun κ2 kd2 kp2 n2 nt2 tn2 => (kq (htP 1 15) κ κ2 ∧ htE κ κ2 1 2 15 20 k) ∧ kd2 = kd ∧ kp2 = true ∧ n2 = k ∧ nt2 = nt ∧ tn2 = tn, fun s => s = bkR σ, XM_post (k_back hI k3 (by omega)) (fun r M hx => ?_), fun μ' a hM => XM_post (hm μ' a hM) (fun r M hx => ?_), ?_⟩
    · obtain ⟨κ2, rfl, rfl, h1, h2⟩ := hx
      exact ⟨rfl, μ, b, κ2, kd, true, k, nt, tn, rfl, hI, FO_any, rfl, ⟨h1, h2⟩, rfl, rfl, rfl, rfl, rfl⟩
    · obtain ⟨rfl, rfl⟩ := hx
      exact ⟨rfl, _, rfl, rfl⟩
    · rintro κ2 kd2 kp2 n2 nt2 tn2 σ2 ⟨⟨hq, hE⟩, rfl, rfl, rfl, rfl, rfl⟩ rfl
      obtain ⟨f1, f2, f3, f4, f5, f6⟩ := hE
      have j1 : ∀ k, k ≠ 15 → k ≠ 4 → (bkR σ).1 k = σ.1 k := fun k h50 h51 => ((tI_n h51).trans (tI_n h50)).trans (congrFun w1 k)
      have j15 : (bkR σ).1 15 = nI n2 := ((tI_n (by decide)).trans tI_s).trans e50
      have j4 : (bkR σ).1 4 = nI r := ((tI_s).trans (congrFun w1 51)).trans r2
      have j2 : ∀ k, k < 7 ∨ k = 10 ∨ 14 < k → (bkR σ).2.2 k = σ.2.2 k := w2
      have g : ∀ a, (a < 15 ∧ a ≠ 1) ∨ 20 ≤ a → κ2.1 a = κ.1 a ∧ κ2.2 a = κ.2 a := fun a ha => ⟨funext fun k => (hq a k (by unfold htP; omega)).1, funext fun k => (hq a k (by unfold htP; omega)).2⟩
      have g15 : ∀ i, i < 5 → κ2.1 (15 + i) 0 = κ.1 (15 + i) 0 ∧ κ2.1 (15 + i) 1 = κ.1 (15 + i) 1 := fun i hi => ⟨(hq (15 + i) 0 (by unfold htP; omega)).1, (hq (15 + i) 1 (by unfold htP; omega)).1⟩
      obtain ⟨-, x1, x2, x3, x4⟩ := hX
      refine ⟨⟨by omega, j15, f1.trans k3, (j1 35 (by decide) (by decide)).trans hA.2.2.2.1, ?_⟩, ⟨fun p hp => ?_, fun p hp => ?_, fun p hp => ?_⟩, ⟨fun i hi => ?_, fun t ht => ?_, fun i j hij hj e => ?_⟩, ⟨⟨r, r1, j4, f2.trans r3⟩, x1, (j1 3 (by decide) (by decide)).trans x2, (congrFun (g 0 (by omega)).1 6).trans x3, fun i hi => ?_⟩, BP_f hP (j1 6 (by decide) (by decide)) (j2 5 (by omega)) (congrFun (g 0 (by omega)).1 3) (congrFun (g 0 (by omega)).2 2), BS_f hS (j2 52 (by omega)) (j2 53 (by omega)) (j2 54 (by omega)) (j2 55 (by omega)) (fun i hi => ⟨(g (5 + i) (by omega)).1, congrFun (g (5 + i) (by omega)).2 2⟩), BI_f (n := n2) (Or.inr ⟨rfl, n2, Nat.le_refl n2, k2, k3, ⟨r, r1, r2, r3⟩, k4, k5, k6, k7, k8⟩) (j1 50 (by decide) (by decide)) (j1 51 (by decide) (by decide)) (j2 48 (by omega)) (j2 49 (by omega)) (g 2 (by omega)).1 (g 2 (by omega)).2 (fun i hi => (g (20 + i) (by omega)).1)⟩
      · rw [(g 3 (by omega)).2]
        exact hA.2.2.2.2
      · show eqb 16 ((bkA σ).2.2 7 p) _
        rw [w3 p hp, f3 p hp]
        exact k4 p hp
      · show eqb 4 ((bkA σ).2.2 8 p) _
        rw [w4 p hp, f4 p hp]
        exact k5 p hp
      · show eqb 16 ((bkA σ).2.2 9 p) _
        rw [w5 p hp, f5 p hp]
        exact k6 p hp
      · obtain ⟨q1, q2, q3, q4, -⟩ := hT.1 i hi
        obtain ⟨t1, t2, t3, t4⟩ := w6 i hi
        rw [j2 10 (by omega), (g15 i hi).1, (g15 i hi).2]
        refine ⟨q1, q2, q3, q4, ?_⟩
        show thB ((bkA σ).2.2 11 i) ((bkA σ).2.2 12 i) ((bkA σ).2.2 13 i) ((bkA σ).2.2 14 i) _ _ _ _ _
        rw [t1, t2, t3, t4]
        obtain ⟨⟨v1, a1, b1, c1⟩, ⟨v2, a2, b2, c2⟩, ⟨v3, a3, b3, c3⟩, v4, a4, b4, c4⟩ := k7 i hi
        exact ⟨⟨v1, a1, b1, fun h => (f6 i h 2 (by decide) (by decide)).trans (c1 h)⟩, ⟨v2, a2, b2, fun h => (f6 i h 3 (by decide) (by decide)).trans (c2 h)⟩, ⟨v3, a3, b3, fun h => (f6 i h 4 (by decide) (by decide)).trans (c3 h)⟩, v4, a4, b4, fun h => (f6 i h 5 (by decide) (by decide)).trans (c4 h)⟩
      · show stD (kd2 t) (nn ((bkA σ).2.2 14 t + 1)) = true
        rw [(w6 t (by omega)).2.2.2]
        exact k8.1 t ht
      · have e : nn ((bkA σ).2.2 14 i + 1) = nn ((bkA σ).2.2 14 j + 1) := e
        show nn ((bkA σ).2.2 14 i + 1) = 0
        rw [(w6 i (by omega)).2.2.2, (w6 j (by omega)).2.2.2] at e
        rw [(w6 i (by omega)).2.2.2]
        exact k8.2 i j hij hj e
      · obtain ⟨m, m1, m2, m3, m4⟩ := x4 i hi
        have q := TR_cg (σ := σ) (τ := bkR σ) (κ := κ) (κ2 := κ2) (f := 160 * i) (m := m) (o := 9 + i) (l := tn2 i) (by
          funext j
          unfold bA
          rw [j2 1 (by omega)]) (congrFun (g (9 + i) (by omega)).2 0) (congrFun (g (9 + i) (by omega)).2 1) m4
        refine ⟨m, m1, ?_, ?_, q⟩
        · rw [j2 2 (by omega)]
          exact m2
        · rw [j2 1 (by omega)]
          exact m3
end M99999994
