/-! both go on together: told, count, taken -/
theorem sv_d : ∀ u, u < 16 → ∀ w, w < 4 → hbI (nI u) (nI w) = if (nI u >>> (nI w &&& 31)) &&& 1 = 1 then 1 else 0 := by decide +kernel
theorem ct_d : ∀ j, j < 22 → ((0 ≤ nI j ∧ nI j ≤ 21) ∧ (0 ≤ nI j ∧ nI j < 22) ∧ ((5 ≤ nI j ∧ nI j < 11) ↔ (5 ≤ j ∧ j < 11)) ∧ ((11 ≤ nI j ∧ nI j < 15) ↔ (11 ≤ j ∧ j < 15)) ∧ ((15 ≤ nI j ∧ nI j < 22) ↔ 15 ≤ j) ∧ (nI j ≤ 4 ↔ j ≤ 4) ∧ (11 ≤ nI j ↔ 11 ≤ j) ∧ (15 ≤ nI j ↔ 15 ≤ j) ∧ (5 ≤ j → nn (nI j - 5) = j - 5) ∧ (11 ≤ j → nn (nI j - 11) = j - 11) ∧ (15 ≤ j → nn (nI j - 15) = j - 15)) := by decide +kernel
theorem pl_d : ∀ v, v < 7 → nI v - 1 = -1 ∨ ∃ p, p < 6 ∧ nI v - 1 = nI p := by
  intro v hv
  rcases v with _ | v
  · exact Or.inl rfl
  · exact Or.inr ⟨v, by omega, by rw [← nI_1, Int32.add_sub_cancel]⟩
section M9999999
variable {Γ : Gm} {σ s : MS} {κ κ2 : KS} {kd : Nat → Nat} {kp : Bool} {n nt : Nat} {tn : Nat → Nat}
theorem BT_t (h : BT σ κ kd n) (hn : n ≤ 5) {t : Nat} (ht : t < n) : κ.1 (15 + t) 0 = σ.2.2 10 t ∧ κ.1 (15 + t) 2 = σ.2.2 11 t ∧ κ.1 (15 + t) 3 = σ.2.2 12 t ∧ κ.1 (15 + t) 4 = σ.2.2 13 t ∧ κ.1 (15 + t) 5 = σ.2.2 14 t := by
  obtain ⟨-, g2, g3, -, ⟨v1, -, a1, b1⟩, ⟨v2, -, a2, b2⟩, ⟨v3, -, a3, b3⟩, v4, -, a4, b4⟩ := h.1 t (by omega)
  rw [g2, g3, a1, a2, a3, a4, b1 ht, b2 ht, b3 ht, b4 ht]
  exact ⟨rfl, rfl, rfl, rfl, rfl⟩
theorem BT_p (h : BT σ κ kd n) : ∀ i, i < 5 → σ.2.2 14 i = -1 ∨ ∃ p, p < 6 ∧ σ.2.2 14 i = nI p := fun i hi => by
  obtain ⟨-, -, -, -, -, -, -, v4, g, a4, -⟩ := h.1 i hi
  rw [a4]
  exact pl_d v4 g
theorem BT_k (h : BT σ κ kd n) : ∀ i, i < 5 → ∃ x, x < 6 ∧ σ.2.2 10 i = nI x := fun i hi => ⟨kd i, (h.1 i hi).1, (h.1 i hi).2.1⟩
theorem sbt_eq (hH : BH σ κ) {t p : Nat} (hp : p < 6) (h : σ.2.2 14 t = nI p) : ∀ G, G ≤ 4 → sbt σ t G = vwI (κ.2 1 0 p) (κ.2 1 1) G
  | 0, _ => rfl
  | G + 1, hG => by
    have ih := sbt_eq hH hp h G (by omega)
    obtain ⟨u, hu, e1, e2⟩ := hH.1 p hp
    obtain ⟨w, hw, e3, e4⟩ := hH.2.1 G (by omega)
    have hd := sv_d u hu w hw
    have hs : seI σ G p = hbI (nI u) (nI w) := by
      unfold seI
      rw [e1, e3, hd]
    rw [sbt, vwI, ih, h, if_neg (show ¬ nI p = -1 from fun z => by
      rcases (by omega : p = 0 ∨ p = 1 ∨ p = 2 ∨ p = 3 ∨ p = 4 ∨ p = 5) with rfl | rfl | rfl | rfl | rfl | rfl <;> exact absurd z (by decide)), nn_nI (by omega), hs, e2, e4]
    by_cases hz : (nI u >>> (nI w &&& 31)) &&& 1 = 1
    · rw [if_pos hz] at hd
      rw [hd, if_neg (show ¬ (1 : Int32) = 0 by decide)]
    · rw [if_neg hz] at hd
      rw [hd, if_pos rfl]
      rcases (by omega : G = 0 ∨ G = 1 ∨ G = 2 ∨ G = 3) with rfl | rfl | rfl | rfl <;> exact Int32.or_zero
theorem J_told (t x : Int32) : JX Γ zX11_told zX12_told 3 0 0 3 [.int t, .int x] := JS fun μ b κ σ kd kp n nt tn hI hB => by
  obtain ⟨hA, hH, hT, hX, hP, hS, hI2⟩ := id hB
  have hc := k_told (Γ := Γ) (κ := κ) hI t x hA.2.2.1 hA.1 (kdB hB)
  have hm : ∀ (μ' : Mem) (a : Ma), MOK μ' a → _ := fun μ' a hM => c_told (Γ := Γ) (σ := σ) hM t x hA.2.1 hA.1 (BT_p hT)
  refine ⟨tdK2 κ kd n t x, κ, σ, hc, ?_, hB⟩
  have e : tdR σ t x = tdK2 κ kd n t x := by
    have hn := hA.1
    unfold tdR tdK2
    by_cases ht : 0 ≤ t ∧ t < nI n
    · have ht2 := (lt_n hB).mp ht
      obtain ⟨i, hi, rfl⟩ := ixD (n := n) ht (by omega)
      obtain ⟨t0, t2, t3, t4, t5⟩ := BT_t hT hn hi
      rw [if_pos ht, nn_nI (by omega), t0, t2, t3, t4, t5]
      by_cases hx : 0 ≤ x ∧ x ≤ 11
      · rw [if_pos ⟨ht2, hx⟩]
        obtain ⟨j, hj, rfl⟩ := ixD (x := x) (n := 12) ⟨hx.1, (i_lt 11 (by decide)).mpr hx.2⟩ (by decide)
        by_cases h6 : j < 6
        · rcases (by omega : j = 0 ∨ j = 1 ∨ j = 2 ∨ j = 3 ∨ j = 4 ∨ j = 5) with rfl | rfl | rfl | rfl | rfl | rfl
          · rw [if_pos (by decide), if_neg (by decide), if_pos (by decide), if_pos (by decide)]
          · rw [if_pos (by decide), if_neg (by decide), if_neg (by decide), if_pos (by decide), if_neg (by decide), if_pos (by decide)]
          · rw [if_pos (by decide), if_neg (by decide), if_neg (by decide), if_neg (by decide), if_pos (by decide), if_neg (by decide), if_neg (by decide), if_pos (by decide)]
          · rw [if_pos (by decide), if_neg (by decide), if_neg (by decide), if_neg (by decide), if_neg (by decide), if_pos (by decide), if_neg (by decide), if_neg (by decide), if_neg (by decide), if_pos (by decide)]
          · rw [if_pos (by decide), if_neg (by decide), if_neg (by decide), if_neg (by decide), if_neg (by decide), if_neg (by decide), if_neg (by decide), if_neg (by decide), if_neg (by decide), if_neg (by decide), if_pos (by decide)]
          · rw [if_pos (by decide), if_pos (by decide), if_neg (by decide), if_neg (by decide), if_neg (by decide), if_neg (by decide), if_neg (by decide), if_pos (by decide)]
            rcases BT_p hT i (by omega) with e | ⟨p, hp, e⟩
            · rw [e, if_neg (by decide)]
              show (((0 : Int32) ||| ((if σ.2.2 14 i = -1 then 0 else seI σ 0 (nn (σ.2.2 14 i))) <<< (nI 0 &&& 31))) ||| ((if σ.2.2 14 i = -1 then 0 else seI σ 1 (nn (σ.2.2 14 i))) <<< (nI 1 &&& 31))) ||| ((if σ.2.2 14 i = -1 then 0 else seI σ 2 (nn (σ.2.2 14 i))) <<< (nI 2 &&& 31)) ||| ((if σ.2.2 14 i = -1 then 0 else seI σ 3 (nn (σ.2.2 14 i))) <<< (nI 3 &&& 31)) = 0
              rw [if_pos e, if_pos e, if_pos e, if_pos e]
              decide
            · rw [e, if_pos (by
                rcases (by omega : p = 0 ∨ p = 1 ∨ p = 2 ∨ p = 3 ∨ p = 4 ∨ p = 5) with rfl | rfl | rfl | rfl | rfl | rfl <;> decide), nn_nI (by omega)]
              exact sbt_eq hH hp e 4 (by omega)
        · have e0 : σ.2.2 10 i = nI (kd i) := (hT.1 i (by omega)).2.1
          rcases (by omega : j = 6 ∨ j = 7 ∨ j = 8 ∨ j = 9 ∨ j = 10 ∨ j = 11) with rfl | rfl | rfl | rfl | rfl | rfl
          all_goals
            rw [if_neg (by decide), if_neg (by decide), if_neg (by decide), if_neg (by decide), if_neg (by decide), if_neg (by decide), if_neg (by decide), if_neg (by decide), if_pos (by decide), e0]
            rcases stI_b (nI (kd i)) _ with q | q
            · rw [q]; rfl
            · rw [q]; rfl
      · rw [if_neg (fun z => hx z.2)]
        have hne : ∀ j, j < 12 → ¬ x = nI j := fun j hj z => hx (by
          rw [z]
          exact ⟨(ct_d j (by omega)).1.1, (i_lt 11 (by decide)).mp (show nI j < 12 from (nI_ltI (b := 12) (by omega) (by decide)).mpr hj)⟩)
        rw [if_neg (show ¬ x = 0 from hne 0 (by decide)), if_neg (show ¬ x = 1 from hne 1 (by decide)), if_neg (show ¬ x = 2 from hne 2 (by decide)), if_neg (show ¬ x = 3 from hne 3 (by decide)), if_neg (show ¬ x = 4 from hne 4 (by decide)), if_neg (show ¬ x = 5 from hne 5 (by decide))]
        by_cases h6 : x < 6
        · rw [if_pos h6]
        · rw [if_neg h6, if_neg (fun z => hx ⟨Int32.le_trans (by decide) (Int32.not_lt.mp h6), (i_lt 11 (by decide)).mp z⟩)]
    · rw [if_neg ht, if_neg (fun z => ht ((lt_n hB).mpr z.1))]
  rw [← e]
  exact hm
theorem cpt_eq (hT : BT σ κ kd n) (hn : n ≤ 5) : ∀ m, m ≤ n → cpt σ m = nI (cntP κ 15 m)
  | 0, _ => rfl
  | m + 1, hm => by
    rw [cpt, cntP, cpt_eq hT hn m (by omega), (BT_t hT hn (t := m) (by omega)).2.2.2.2]
    by_cases h : σ.2.2 14 m = -1
    · rw [if_pos h, if_pos h, Int32.add_zero, Nat.add_zero]
    · rw [if_neg h, if_neg h]
      exact nI_1 _
theorem J_count (x : Int32) : JX Γ zX11_count zX12_count 2 0 0 2 [.int x] := JS fun μ b κ σ kd kp n nt tn hI hB => by
  obtain ⟨hA, hH, hT, hX, hP, hS, hI2⟩ := id hB
  have hc := k_count (Γ := Γ) (κ := κ) hI x hA.2.2.1 hA.1
  have hm : ∀ (μ' : Mem) (a : Ma), MOK μ' a → _ := fun μ' a hM => c_count (Γ := Γ) (σ := σ) hM x hA.2.1 hA.1
  refine ⟨ctK κ n x, κ, σ, hc, ?_, hB⟩
  have e : ctR σ n x = ctK κ n x := by
    unfold ctR ctK
    by_cases hx : 0 ≤ x ∧ x ≤ 21
    · rw [if_pos hx]
      obtain ⟨j, hj, rfl⟩ := ixD (x := x) (n := 22) ⟨hx.1, (i_lt 21 (by decide)).mpr hx.2⟩ (by decide)
      obtain ⟨-, -, d1, d2, d3, d4, d5, d6, d7, d8, d9⟩ := ct_d j hj
      by_cases h1 : j ≤ 4
      · rw [if_pos (d4.mpr h1), if_neg (fun z => absurd (d1.mp z) (by omega)), if_neg (fun z => absurd (d2.mp z) (by omega)), if_neg (fun z => absurd (d3.mp z) (by omega))]
        rcases (by omega : j = 0 ∨ j = 1 ∨ j = 2 ∨ j = 3 ∨ j = 4) with rfl | rfl | rfl | rfl | rfl
        · rw [if_neg (by decide), if_pos (by decide), if_pos (by decide), hA.2.1, hA.2.2.1]
        · rw [if_pos (by decide), if_neg (by decide), if_pos (by decide)]
          exact cpt_eq hT hA.1 n (Nat.le_refl n)
        · rw [if_neg (by decide), if_neg (by decide), if_pos (by decide), if_neg (by decide), if_neg (by decide), if_pos (by decide), hX.2.2.1, hX.2.2.2.1]
        · rw [if_neg (by decide), if_neg (by decide), if_neg (by decide), if_pos (by decide), if_neg (by decide), if_neg (by decide), if_neg (by decide), if_pos (by decide)]
          obtain ⟨fd, -, f2, f3, -⟩ := hP
          rw [f2, f3]
        · rw [if_neg (by decide), if_neg (by decide), if_neg (by decide), if_neg (by decide), if_neg (by decide), if_neg (by decide), if_neg (by decide), if_neg (by decide), if_pos (by decide)]
          obtain ⟨⟨r, -, r2, r3⟩, -⟩ := hX
          rw [r2, r3]
      · rw [if_neg (fun z => h1 (d4.mp z))]
        by_cases h2 : 11 ≤ j
        · rw [if_pos (d5.mpr h2), if_neg (fun z => absurd (d1.mp z) (by omega))]
          by_cases h3 : 15 ≤ j
          · rw [if_pos (d6.mpr h3), if_neg (fun z => absurd (d2.mp z) (by omega)), if_pos (d3.mpr h3), d9 h3, nn_nI (by omega)]
            obtain ⟨v, -, e1, e2⟩ := hH.2.2 (j - 15) (by omega)
            rw [e1, e2]
          · rw [if_neg (fun z => h3 (d6.mp z)), if_pos (d2.mpr ⟨h2, by omega⟩), d8 h2, nn_nI (by omega)]
            obtain ⟨v, -, e1, e2⟩ := hH.2.1 (j - 11) (by omega)
            rw [e1, e2]
        · rw [if_neg (fun z => h2 (d5.mp z)), if_pos (d1.mpr ⟨by omega, by omega⟩), d7 (by omega), nn_nI (by omega)]
          obtain ⟨v, -, e1, e2⟩ := hH.1 (j - 5) (by omega)
          rw [e1, e2]
    · have hne : ∀ j, j < 22 → ¬ x = nI j := fun j hj z => hx (by
        rw [z]
        exact (ct_d j hj).1)
      rw [if_neg hx, if_neg (fun z => hx ⟨Int32.le_trans (by decide) z.1, Int32.le_trans (Int32.le_of_lt z.2) (by decide)⟩), if_neg (fun z => hx ⟨Int32.le_trans (by decide) z.1, Int32.le_trans (Int32.le_of_lt z.2) (by decide)⟩), if_neg (fun z => hx ⟨Int32.le_trans (by decide) z.1, (i_lt 21 (by decide)).mp z.2⟩), if_neg (show ¬ x = 0 from hne 0 (by decide)), if_neg (show ¬ x = 1 from hne 1 (by decide)), if_neg (show ¬ x = 2 from hne 2 (by decide)), if_neg (show ¬ x = 3 from hne 3 (by decide)), if_neg (show ¬ x = 4 from hne 4 (by decide))]
  rw [← e]
  exact hm
theorem x6 {x : Int32} : (0 ≤ x ∧ x < 6) ↔ (0 ≤ x ∧ x ≤ 5) := and_congr_right (fun _ => i_lt 5 (by decide))
theorem J_taken (t k : Int32) : JX Γ zX11_taken zX12_taken 3 0 0 3 [.int t, .int k] := JS fun μ b κ σ kd kp n nt tn hI hB => by
  obtain ⟨hA, hH, hT, hX, hP, hS, hI2⟩ := id hB
  have hc := k_taken (Γ := Γ) (κ := κ) hI t k hA.2.2.1 hA.1 (kdB hB)
  have hm : ∀ (μ' : Mem) (a : Ma), MOK μ' a → _ := fun μ' a hM => c_taken (Γ := Γ) (σ := σ) hM t k hA.2.1 hA.1 (BT_k hT)
  refine ⟨tkK2 κ kd n t k, κ, σ, hc, ?_, hB⟩
  have e : tkR σ t k = tkK2 κ kd n t k := by
    have hn := hA.1
    unfold tkR tkK2
    by_cases hk : 0 ≤ k ∧ k < 6
    · rw [if_pos (x6.mp hk), if_pos hk]
      by_cases ht : 0 ≤ t ∧ t < nI n
      · rw [if_pos ((lt_n hB).mp ht), if_pos ht]
        obtain ⟨i, hi, rfl⟩ := ixD (n := n) ht (by omega)
        rw [nn_nI (by omega), (BT_t hT hn hi).2.1, (hT.1 i (by omega)).2.1]
      · rw [if_neg (fun z => ht ((lt_n hB).mpr z)), if_neg ht]
    · rw [if_neg (fun z => hk (x6.mpr z)), if_neg hk]
  rw [← e]
  exact hm
end M9999999
