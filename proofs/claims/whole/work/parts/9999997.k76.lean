/-! both go on together: seen, tidy, film -/
section M9999997
variable {Γ : Gm} {σ s : MS} {κ κ2 : KS} {kd : Nat → Nat} {kp : Bool} {n nt : Nat} {tn : Nat → Nat} {D : PD} {sp sp' : Nat → Nat}
theorem irD_c (h : ∀ t, t < n → sp t = sp' t) : ∀ t, t ≤ n → irD kd sp t = irD kd sp' t
  | 0, _ => rfl
  | t + 1, ht => by
    unfold irD
    rw [irD_c h t (by omega), h t (by omega)]
theorem bnD_c {G : Nat} (h : ∀ t, t < n → sp t = sp' t) : ∀ t, t ≤ n → bnD D sp G t = bnD D sp' G t
  | 0, _ => rfl
  | t + 1, ht => by
    rw [bnD, bnD, bnD_c h t (by omega), h t (by omega)]
theorem suD_c (h : ∀ t, t < n → sp t = sp' t) : ∀ t, t ≤ n → suD D sp t = suD D sp' t
  | 0, _ => rfl
  | t + 1, ht => by
    rw [suD, suD, suD_c h t (by omega), h t (by omega)]
theorem exP_c {G : Nat} (h : ∀ t, t < n → sp t = sp' t) : exP D n sp G = exP D n sp' G := by
  unfold exP
  rw [bnD_c h n (Nat.le_refl n)]
theorem exCF_c (h : ∀ t, t < n → sp t = sp' t) : ∀ G, exC D n sp G = exC D n sp' G ∧ exF D n sp G = exF D n sp' G
  | 0 => ⟨rfl, rfl⟩
  | G + 1 => by
    obtain ⟨h1, h2⟩ := exCF_c h G
    rw [exC, exC, exF, exF, h1, h2, exP_c h]
    exact ⟨rfl, rfl⟩
theorem snV_c {y : Int32} (h : ∀ t, t < n → sp t = sp' t) : snV D n sp y = snV D n sp' y := by
  unfold snV
  rw [irD_c h n (Nat.le_refl n), suD_c h n (Nat.le_refl n), (exCF_c h 16).1, (exCF_c h 16).2]
theorem seen_eq {x y : Int32} (hn : n ≤ 5) (hS : BSh σ κ) : seenC κ D n x y = seenV σ D n x y := by
  unfold seenC seenV
  by_cases hg : (0 ≤ x ∧ x < 4) ∧ (0 ≤ y ∧ y < 3)
  · have hg2 : (0 ≤ x ∧ x ≤ 3) ∧ (0 ≤ y ∧ y ≤ 2) := ⟨⟨hg.1.1, (i_lt 3 (by decide)).mp hg.1.2⟩, hg.2.1, (i_lt 2 (by decide)).mp hg.2.2⟩
    rw [if_pos hg, if_pos hg2]
    obtain ⟨i, hi, rfl⟩ := ixD (n := 4) hg.1 (by decide)
    rw [nn_nI (by omega)]
    rcases hS i hi with ⟨s1, s2⟩ | ⟨s1, ⟨k, s2, s3, s4⟩, z, z1, z2, z3, z4⟩
    · rw [if_pos s2, if_pos s1]
    · rw [if_neg (fun q => by
        rw [s4] at q
        rcases (by omega : k = 0 ∨ k = 1 ∨ k = 2) with rfl | rfl | rfl <;> exact absurd q (by decide)), if_neg (show ¬ σ.2.2 52 i = 0 by rw [s1]; decide), z2, z3]
      by_cases hz : nI z = nI n
      · rw [if_neg (fun q => q hz), if_neg (fun q => q hz)]
        have ez : z = n := by
          have := congrArg nn hz
          rw [nn_nI (by omega), nn_nI (by omega)] at this
          exact this
        exact snV_c (fun t ht => congrArg spI (z4 t (by omega)))
      · rw [if_pos hz, if_pos hz]
  · rw [if_neg hg, if_neg (fun q => hg ⟨⟨q.1.1, (i_lt 3 (by decide)).mpr q.1.2⟩, q.2.1, (i_lt 2 (by decide)).mpr q.2.2⟩)]
theorem J_seen (x y : Int32) : JX Γ zX11_seen zX12_seen 8 0 0 52 [.int x, .int y] := JQ fun μ b κ σ D kp n r m nt tn hR hO hX hB => ⟨(seenV σ D n x y), by
  have h := k_seen (Γ := Γ) x y hX
  rw [seen_eq hX.2.1.1.1 hB.2.2.2.2.2.1] at h
  exact h, fun μ' a hM => XM_post (c_seen hM x y hR) (fun r M ⟨s2, h1, h2, h3⟩ => ⟨s2, h1, h2, ps.pq h3⟩)⟩
theorem ut_r {u s s' : Nat} (h : utk (ust u s) s' = false) : utk u s' = false ∧ (s' = s → s' = 0) := by
  unfold utk ust at *
  by_cases h0 : s' = 0
  · subst h0
    exact ⟨rfl, fun _ => rfl⟩
  · by_cases hs : s = 0
    · rw [if_pos hs] at h
      exact ⟨h, fun e => e.trans hs⟩
    · rw [if_neg hs, Nat.testBit_or, Nat.testBit_two_pow] at h
      have hb : (s' != 0) = true := by simp [h0]
      rw [hb, Bool.true_and, Bool.or_eq_false_iff] at h
      rw [hb, Bool.true_and]
      refine ⟨h.1, fun e => ?_⟩
      subst e
      exact absurd h.2 (by simp)
theorem bst_ds {pr : Nat → Nat → Nat} {ok : Nat → Nat → Bool} {was : Nat → Nat} {cn : Bool} : ∀ (m t u l : Nat), ∀ r, bst pr ok was cn m t u l = some r → (∀ j, j < m → utk u (r.2.getD j 0) = false) ∧ ∀ i j, i < j → j < m → r.2.getD i 0 = r.2.getD j 0 → r.2.getD i 0 = 0
  | 0, t, u, l, r, _ => ⟨fun j hj => absurd hj (Nat.not_lt_zero j), fun i j _ hj => absurd hj (Nat.not_lt_zero j)⟩
  | m + 1, t, u, l, r, h => by
    rw [bst] at h
    refine bfold_mem (P := fun r => (∀ j, j < m + 1 → utk u (r.2.getD j 0) = false) ∧ ∀ i j, i < j → j < m + 1 → r.2.getD i 0 = r.2.getD j 0 → r.2.getD i 0 = 0) (fun s hs r hr => ?_) r h
    by_cases hc : ok t s = true ∧ utk u s = false ∧ (cn = false ∨ was t = s ∨ 0 < l)
    · rw [if_pos hc] at hr
      obtain ⟨q, hq, rfl⟩ := badd_some hr
      obtain ⟨g1, g2⟩ := bst_ds m (t + 1) (ust u s) _ q hq
      refine ⟨fun j hj => ?_, fun i j hij hj e => ?_⟩
      · cases j with
        | zero => exact hc.2.1
        | succ j => exact (ut_r (g1 j (by omega))).1
      · cases j with
        | zero => omega
        | succ j =>
          cases i with
          | zero =>
            have e : s = q.2.getD j 0 := e
            show s = 0
            have := (ut_r (g1 j (by omega))).2 e.symm
            rw [← e] at this
            exact this
          | succ i => exact g2 i j (by omega) (by omega) e
    · rw [if_neg hc] at hr
      cases hr
/-- the best room is a room -/
theorem be_room {G : Nat} (h : okD D n) (hg : okG D n) (hG : G < 16) (hR : roomOk D n) : (∀ t, t < n → brR (beD D n G 5) t < 7 ∧ stD (D 0 t) (brR (beD D n G 5) t) = true) ∧ ∀ i j, i < j → j < n → brR (beD D n G 5) i = brR (beD D n G 5) j → brR (beD D n G 5) i = 0 := by
  have hn := h.1
  have hne : bsD D n [G] (wasA D 9) 9 true 5 ≠ none := be_ne hR
  obtain ⟨-, g2⟩ := bsD_ok h hg (L := [G]) (by
    intro x hx
    rw [List.mem_singleton.mp hx]
    exact hG) (show [G].length ≤ 7 by simp) hne
  refine ⟨fun t ht => ⟨(g2 t ht).1, ?_⟩, fun i j hij hj e => ?_⟩
  · have := (g2 t ht).2
    unfold okA at this
    rw [if_neg (by omega)] at this
    exact this
  · cases hb : bsD D n [G] (wasA D 9) 9 true 5 with
    | none => exact absurd hb hne
    | some r =>
      have hd := (bst_ds n 0 0 5 r hb).2 i j hij hj
      have e1 : ∀ k, brR (beD D n G 5) k = r.2.getD k 0 := fun k => by
        unfold beD
        rw [hb]
        rfl
      rw [e1, e1] at e
      rw [e1]
      exact hd e
/-- what a question with a change says -/
theorem JW {zc zm : Mt} {dc dm : Nat} {As : List Value} (h : ∀ (μ : Mem) (b : Kb) (κ : KS) (σ : MS) (D : PD) (kp : Bool) (n r m nt : Nat) (tn : Nat → Nat), RR σ D n r m → roomOk D n → CX μ b κ D kp n r nt tn → BRe σ κ (D 0) kp n nt tn → ∃ (v : Int32) (C : KS → Prop) (E : MS → Prop), XM Γ zc dc 0 0 (.ref (adO b 0) :: As) (KV μ b κ) (PX μ b κ (.int v) C) ∧ (∀ (μ' : Mem) (a : Ma), MOK μ' a → XM Γ zm dm 0 0 (.ref a.1 :: As) (MV μ' a σ) (fun r M => ∃ s2 : MS, r = some (.int v) ∧ M = MV μ' a s2 ∧ E s2)) ∧ ∀ κ2 s2, C κ2 → κ2.2 3 6 0 = 0 → E s2 → BRe s2 κ2 (D 0) kp n nt tn) : JX Γ zc zm dc 0 0 dm As := by
  intro μ b κ σ kd kp n nt tn hI hB
  obtain ⟨D, r, m, rfl, hR, hO, -, -, hX⟩ := BR_D hB
  obtain ⟨v, C, E, h1, h2, h3⟩ := h μ b κ σ D kp n r m nt tn hR hO (hX μ b hI) hB
  refine ⟨v, fun κ2 kd2 kp2 n2 nt2 tn2 => kd2 = D 0 ∧ kp2 = kp ∧ n2 = n ∧ nt2 = nt ∧ tn2 = tn ∧ C κ2 ∧ κ2.2 3 6 0 = 0, E, XM_post h1 (fun x M hx => ?_), fun μ' a hM => XM_post (h2 μ' a hM) (fun x M hx => ?_), ?_⟩
  · obtain ⟨μ2, κ2, rfl, rfl, e, h60, q⟩ := hx
    refine ⟨rfl, μ2, b, κ2, D 0, kp, n, nt, tn, rfl, ?_, ?_, rfl, rfl, rfl, rfl, rfl, rfl, q, h60⟩
    · rcases e with rfl | rfl
      · exact hI
      · exact (CI_t3 (κ := κ) hI).1
    · rcases e with rfl | rfl
      · exact FO_any
      · exact (CI_t3 (κ := κ) hI).2.trans FO_any
  · obtain ⟨s2, rfl, rfl, hs⟩ := hx
    exact ⟨rfl, s2, rfl, hs⟩
  · rintro κ2 kd2 kp2 n2 nt2 tn2 σ2 ⟨rfl, rfl, rfl, rfl, rfl, q, h60⟩ hs
    exact h3 κ2 σ2 q h60 hs
theorem nI_p1 {s : Nat} (h : s < 100) : nn (nI s - 1 + 1) = s := by
  rw [Int32.sub_add_cancel, nn_nI (by omega)]
theorem x16 {x : Int32} : (0 ≤ x ∧ x < 16) ↔ (0 ≤ x ∧ x ≤ 15) := and_congr_right (fun _ => i_lt 15 (by decide))
theorem x4 {x : Int32} : (0 ≤ x ∧ x < 4) ↔ (0 ≤ x ∧ x ≤ 3) := and_congr_right (fun _ => i_lt 3 (by decide))
/-- where things are put may change -/
theorem BR_fr (h : BRe σ κ kd kp n nt tn) (p1 : ∀ k, pk k → s.1 k = σ.1 k) (p2 : ∀ k, pa k → k ≠ 14 → s.2.2 k = σ.2.2 k) (hk : kq (fun a k => scP a k ∨ tdP a k) κ κ2) (h60 : κ2.2 3 6 0 = 0) (hpl : ∀ i, i < 5 → ∃ v, v < 7 ∧ s.2.2 14 i = nI v - 1 ∧ (i < n → κ2.1 (15 + i) 5 = nI v - 1)) (hrk : RK kd (fun t => nn (s.2.2 14 t + 1)) n) : BRe s κ2 kd kp n nt tn := by
  obtain ⟨⟨a1, a2, a3, a4, a5⟩, ⟨b1, b2, b3⟩, ⟨c1, c2⟩, hX, hP, hS, hI⟩ := h
  have k1 : ∀ a k, a < 3 ∨ (5 ≤ a ∧ a < 9) ∨ (15 ≤ a ∧ k < 5) ∨ (20 ≤ a ∧ k < 6) → κ2.1 a k = κ.1 a k ∧ κ2.2 a k = κ.2 a k := fun a k h => hk a k (by unfold scP tdP; omega)
  have i1 : ∀ k, k < 16 ∨ k = 35 ∨ k = 50 ∨ k = 51 → s.1 k = σ.1 k := fun k h => p1 k h
  have r1 : ∀ k, k < 14 ∨ k = 48 ∨ k = 49 ∨ 51 < k → s.2.2 k = σ.2.2 k := fun k h => p2 k (by unfold pa; omega) (by omega)
  refine ⟨⟨a1, by rw [i1 15 (by omega)]; exact a2, by rw [(k1 1 4 (by omega)).1]; exact a3, by rw [i1 35 (by omega)]; exact a4, h60⟩, ⟨by rw [r1 7 (by omega), (k1 1 0 (by omega)).2]; exact b1, by rw [r1 8 (by omega), (k1 1 1 (by omega)).2]; exact b2, by rw [r1 9 (by omega), (k1 1 2 (by omega)).2]; exact b3⟩, ⟨fun i hi => ?_, hrk⟩, BX_fr hX (i1 3 (by omega)) (i1 4 (by omega)) ⟨r1 1 (by omega), r1 2 (by omega)⟩ (k1 1 5 (by omega)).1 (k1 0 6 (by omega)).1 (fun i hi => ⟨(hk (9 + i) 0 (by unfold scP tdP; omega)).2, (hk (9 + i) 1 (by unfold scP tdP; omega)).2⟩), ?_, fun i hi => ?_, ?_⟩
  · rw [r1 10 (by omega), r1 11 (by omega), r1 12 (by omega), r1 13 (by omega), (k1 (15 + i) 0 (by omega)).1, (k1 (15 + i) 1 (by omega)).1, (k1 (15 + i) 2 (by omega)).1, (k1 (15 + i) 3 (by omega)).1, (k1 (15 + i) 4 (by omega)).1]
    obtain ⟨g1, g2, g3, g4, g5, g6, g7, -⟩ := c1 i hi
    exact ⟨g1, g2, g3, g4, g5, g6, g7, hpl i hi⟩
  · unfold BP
    rw [i1 6 (by omega), (k1 0 3 (by omega)).1, r1 5 (by omega), (k1 0 2 (by omega)).2]
    exact hP
  · rw [r1 52 (by omega), r1 53 (by omega), r1 54 (by omega), r1 55 (by omega), (k1 (5 + i) 0 (by omega)).1, (k1 (5 + i) 1 (by omega)).1, (k1 (5 + i) 2 (by omega)).2]
    exact hS i hi
  · unfold BI
    rw [i1 50 (by omega), i1 51 (by omega), r1 48 (by omega), r1 49 (by omega), (k1 2 4 (by omega)).1, (k1 2 5 (by omega)).1, (k1 2 0 (by omega)).2, (k1 2 1 (by omega)).2, (k1 2 2 (by omega)).2]
    rcases hI with hI | ⟨hI, k, g1, g2, g3, g4, g5, g6, g7, g8, g9⟩
    · exact Or.inl hI
    · refine Or.inr ⟨hI, k, g1, g2, g3, g4, g5, g6, g7, fun i hi => ?_, g9⟩
      rw [(k1 (20 + i) 2 (by omega)).1, (k1 (20 + i) 3 (by omega)).1, (k1 (20 + i) 4 (by omega)).1, (k1 (20 + i) 5 (by omega)).1]
      exact g8 i hi
theorem J_tidy (x : Int32) : JX Γ zX11_tidy zX12_tidy 8 0 0 53 [.int x] := JW fun μ b κ σ D kp n r m nt tn hR hO hX hB => by
  refine ⟨(tdV D n x), tdC κ D n x, fun s => (∀ k, pk k → s.1 k = σ.1 k) ∧ (∀ k, pa k → k ≠ 14 → s.2.2 k = σ.2.2 k) ∧ ∀ j, s.2.2 14 j = if (0 ≤ x ∧ x < 16) ∧ j < n then nI (brR (beD D n (nn x) 5) j) - 1 else σ.2.2 14 j, k_tidy hO x hX, fun μ' a hM => XM_post (c_tidy hM x hR hO) (fun r M ⟨s2, h1, h2⟩ => ⟨s2, ?_⟩), fun κ2 s2 hC h60 hE => ?_⟩
  · rcases h2 with ⟨g1, g2, g3⟩ | ⟨g1, g2, g3, g4⟩
    · rw [g2, g3]
      refine ⟨?_, by rw [← g3]; exact h1, fun _ _ => rfl, fun _ _ _ => rfl, fun j => ?_⟩
      · unfold tdV
        rw [if_neg (fun z => g1 (x16.mp z))]
      · rw [if_neg (fun z => g1 (x16.mp z.1))]
    · rw [g2]
      refine ⟨?_, h1, g3.1, g3.2, fun j => ?_⟩
      · unfold tdV
        rw [if_pos (x16.mpr g1)]
      · rw [g4 j]
        by_cases hj : j < n
        · rw [if_pos hj, if_pos ⟨x16.mpr g1, hj⟩]
        · rw [if_neg hj, if_neg (fun z => hj z.2)]
  · have hn5 := hX.2.1.1.1
    obtain ⟨q1, q2⟩ := hC
    obtain ⟨e1, e2, e3⟩ := hE
    have c1 := hB.2.2.1.1
    have c2 := hB.2.2.1.2
    by_cases hx : 0 ≤ x ∧ x < 16
    · obtain ⟨G, hG, rfl⟩ := ixD (n := 16) hx (by decide)
      rw [nn_nI (by omega)] at e3 q2
      obtain ⟨f1, f2⟩ := be_room (D := D) hX.2.1.1 hX.2.2.1 hG hO
      generalize brR (beD D n G 5) = R at e3 q2 f1 f2
      have e4 : ∀ t, t < n → nn (s2.2.2 14 t + 1) = R t := fun t ht => by
        rw [e3 t, if_pos ⟨hx, ht⟩]
        exact nI_p1 (by have := (f1 t ht).1; omega)
      refine BR_fr hB e1 e2 q1 h60 (fun i hi => ?_) ⟨fun t ht => ?_, fun i j hij hj e => ?_⟩
      · obtain ⟨-, -, -, -, -, -, -, v, v1, v2, v3⟩ := c1 i hi
        by_cases hin : i < n
        · exact ⟨R i, (f1 i hin).1, by rw [e3 i, if_pos ⟨hx, hin⟩], fun _ => by rw [q2 i hi, if_pos ⟨hx, hin⟩]⟩
        · exact ⟨v, v1, by rw [e3 i, if_neg (fun z => hin z.2)]; exact v2, fun z => absurd z hin⟩
      · show stD (D 0 t) (nn (s2.2.2 14 t + 1)) = true
        rw [e4 t ht]
        exact (f1 t ht).2
      · have e : nn (s2.2.2 14 i + 1) = nn (s2.2.2 14 j + 1) := e
        show nn (s2.2.2 14 i + 1) = 0
        rw [e4 i (by omega), e4 j hj] at e
        rw [e4 i (by omega)]
        exact f2 i j hij hj e
    · have e4 : s2.2.2 14 = σ.2.2 14 := funext fun j => by rw [e3 j, if_neg (fun z => hx z.1)]
      refine BR_fr hB e1 e2 q1 h60 (fun i hi => ?_) (by rw [e4]; exact c2)
      obtain ⟨-, -, -, -, -, -, -, v, v1, v2, v3⟩ := c1 i hi
      rw [e4, q2 i hi, if_neg (fun z => hx z.1)]
      exact ⟨v, v1, v2, v3⟩
end M9999997
