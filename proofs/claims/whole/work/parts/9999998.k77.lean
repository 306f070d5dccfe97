/-! both go on together: told, count, taken, force, feed, set -/
section M9999998
variable {Γ : Gm} {σ s : MS} {κ κ2 : KS} {kd : Nat → Nat} {kp : Bool} {n nt : Nat} {tn : Nat → Nat}
theorem JS {zc zm : Mt} {dc dm : Nat} {As : List Value} (h : ∀ (μ : Mem) (b : Kb) (κ : KS) (σ : MS) (kd : Nat → Nat) (kp : Bool) (n nt : Nat) (tn : Nat → Nat), CI μ b kd kp 4 nt tn → BRe σ κ kd kp n nt tn → ∃ (v : Int32) (κ2 : KS) (s : MS), XM Γ zc dc 0 0 (.ref (adO b 0) :: As) (KV μ b κ) (rt (.int v) (KV μ b κ2)) ∧ (∀ (μ' : Mem) (a : Ma), MOK μ' a → XM Γ zm dm 0 0 (.ref a.1 :: As) (MV μ' a σ) (rt (.int v) (MV μ' a s))) ∧ BRe s κ2 kd kp n nt tn) : JX Γ zc zm dc 0 0 dm As := by
  intro μ b κ σ kd kp n nt tn hI hB
  obtain ⟨v, κ2, s, h1, h2, h3⟩ := h μ b κ σ kd kp n nt tn hI hB
  refine ⟨v, fun κ3 kd2 kp2 n2 nt2 tn2 => κ3 = κ2 ∧ kd2 = kd ∧ kp2 = kp ∧ n2 = n ∧ nt2 = nt ∧ tn2 = tn, fun s2 => s2 = s, XM_post h1 (fun x M hx => ?_), fun μ' a hM => XM_post (h2 μ' a hM) (fun x M hx => ?_), ?_⟩
  · obtain ⟨rfl, rfl⟩ := hx
    exact ⟨rfl, μ, b, κ2, kd, kp, n, nt, tn, rfl, hI, FO_any, rfl, rfl, rfl, rfl, rfl, rfl, rfl⟩
  · obtain ⟨rfl, rfl⟩ := hx
    exact ⟨rfl, s, rfl, rfl⟩
  · rintro κ3 kd2 kp2 n2 nt2 tn2 σ2 ⟨rfl, rfl, rfl, rfl, rfl, rfl⟩ rfl
    exact h3
theorem kdB (h : BRe σ κ kd kp n nt tn) : ∀ i, i < 5 → kd i < 6 := fun i hi => (h.2.2.1.1 i hi).1
theorem lt_n (h : BRe σ κ kd kp n nt tn) {t : Int32} : (0 ≤ t ∧ t < nI n) ↔ (0 ≤ t ∧ t ≤ σ.1 15 - 1) := by
  rw [h.1.2.1]
  exact and_congr_right (fun _ => lt_sub1 h.1.1)
theorem BA_f (h : BA σ κ n) (e1 : s.1 15 = σ.1 15) (e2 : s.1 35 = σ.1 35) (e3 : κ2.1 1 4 = κ.1 1 4) (e4 : κ2.2 3 6 = κ.2 3 6) : BA s κ2 n := by
  unfold BA
  rw [e1, e2, e3, e4]
  exact h
theorem BH_f (h : BH σ κ) (e7 : s.2.2 7 = σ.2.2 7) (e8 : s.2.2 8 = σ.2.2 8) (e9 : s.2.2 9 = σ.2.2 9) (k : κ2.2 1 = κ.2 1) : BH s κ2 := by
  unfold BH
  rw [e7, e8, e9, k]
  exact h
theorem BT_f (h : BT σ κ kd n) (e0 : s.2.2 10 = σ.2.2 10) (e1 : s.2.2 11 = σ.2.2 11) (e2 : s.2.2 12 = σ.2.2 12) (e3 : s.2.2 13 = σ.2.2 13) (e4 : s.2.2 14 = σ.2.2 14) (k : ∀ i, i < 5 → κ2.1 (15 + i) = κ.1 (15 + i)) : BT s κ2 kd n := by
  refine ⟨fun i hi => ?_, by rw [e4]; exact h.2⟩
  rw [e0, e1, e2, e3, e4, k i hi]
  exact h.1 i hi
theorem BP_f (h : BP σ κ) (e1 : s.1 6 = σ.1 6) (e2 : s.2.2 5 = σ.2.2 5) (k1 : κ2.1 0 3 = κ.1 0 3) (k2 : κ2.2 0 2 = κ.2 0 2) : BP s κ2 := by
  unfold BP
  rw [e1, e2, k1, k2]
  exact h
theorem BS_f (h : BSh σ κ) (e2 : s.2.2 52 = σ.2.2 52) (e3 : s.2.2 53 = σ.2.2 53) (e4 : s.2.2 54 = σ.2.2 54) (e5 : s.2.2 55 = σ.2.2 55) (k : ∀ i, i < 4 → κ2.1 (5 + i) = κ.1 (5 + i) ∧ κ2.2 (5 + i) 2 = κ.2 (5 + i) 2) : BSh s κ2 := fun i hi => by
  rw [e2, e3, e4, e5, (k i hi).1, (k i hi).2]
  exact h i hi
theorem BI_f (h : BI σ κ kd kp n nt) (e1 : s.1 50 = σ.1 50) (e2 : s.1 51 = σ.1 51) (e3 : s.2.2 48 = σ.2.2 48) (e4 : s.2.2 49 = σ.2.2 49) (k1 : κ2.1 2 = κ.1 2) (k2 : κ2.2 2 = κ.2 2) (k : ∀ i, i < 5 → κ2.1 (20 + i) = κ.1 (20 + i)) : BI s κ2 kd kp n nt := by
  unfold BI
  rw [e1, e2, e3, e4, k1, k2]
  rcases h with hI | ⟨hI, k0, g1, g2, g3, g4, g5, g6, g7, g8, g9⟩
  · exact Or.inl hI
  · refine Or.inr ⟨hI, k0, g1, g2, g3, g4, g5, g6, g7, fun i hi => ?_, g9⟩
    rw [k i hi]
    exact g8 i hi
theorem kI_o {o k a : Nat} {v : Int32} (h : a ≠ o) : (kI κ o k v).1 a = κ.1 a := funext fun _ => kI_n (Or.inl h)
theorem kA_o {o k i a : Nat} {v : Int32} (h : a ≠ o) : (kA κ o k i v).2 a = κ.2 a := funext fun _ => up3_n (Or.inl h)
theorem kA_k {o k i a c : Nat} {v : Int32} (h : a ≠ o ∨ c ≠ k) : (kA κ o k i v).2 a c = κ.2 a c := up3_n h
theorem kS_o {o k a : Nat} {g : Nat → Int32} (h : a ≠ o) : (kS κ o k g).2 a = κ.2 a := funext fun _ => kS_n (Or.inl h)
theorem nt_lt {x : Int32} (h : nt ≤ 6) : x < nI nt ↔ x ≤ nI nt - 1 := i_lt _ (by
  rcases (by omega : nt = 0 ∨ nt = 1 ∨ nt = 2 ∨ nt = 3 ∨ nt = 4 ∨ nt = 5 ∨ nt = 6) with rfl | rfl | rfl | rfl | rfl | rfl | rfl <;> decide)
theorem fr_eq (hX : BX σ κ nt tn) (t : Int32) : ((0 ≤ t ∧ t < nI nt) ∧ frR σ t = (κ.1 1 5, tI σ 4 t) ∧ frK κ t = (κ.1 1 5, kI κ 1 5 t)) ∨ (frR σ t = (-2, σ) ∧ frK κ t = (-2, κ)) := by
  obtain ⟨⟨r, r1, r2, r3⟩, x1, x2, x3, -⟩ := hX
  unfold frR frK
  rw [x2, x3]
  by_cases ht : 0 ≤ t ∧ t < nI nt
  · rw [if_pos ht, if_pos ⟨ht.1, (nt_lt x1).mp ht.2⟩, r2, r3]
    exact Or.inl ⟨ht, rfl, rfl⟩
  · rw [if_neg ht, if_neg (fun z => ht ⟨z.1, (nt_lt x1).mpr z.2⟩)]
    exact Or.inr ⟨rfl, rfl⟩
theorem tI_n {k j : Nat} {v : Int32} (h : j ≠ k) : (tI σ k v).1 j = σ.1 j := va_up_n h
theorem tI_s {k : Nat} {v : Int32} : (tI σ k v).1 k = v := va_up_s
theorem tIA_1 {k i k2 j : Nat} {v v2 : Int32} (h : j ≠ k2) : (tI (tA σ k i v) k2 v2).1 j = σ.1 j := va_up_n h
theorem tIA_n {k i k2 j : Nat} {v v2 : Int32} (h : j ≠ k) : (tI (tA σ k i v) k2 v2).2.2 j = σ.2.2 j := tA_n h
theorem kIA_1 {o k i o2 k2 a c : Nat} {v v2 : Int32} (h : a ≠ o2 ∨ c ≠ k2) : (kI (kA κ o k i v) o2 k2 v2).1 a c = κ.1 a c := kI_n h
theorem kIA_o {o k i o2 k2 a : Nat} {v v2 : Int32} (h : a ≠ o2) : (kI (kA κ o k i v) o2 k2 v2).1 a = κ.1 a := kI_o h
theorem kIA_k {o k i o2 k2 a c : Nat} {v v2 : Int32} (h : a ≠ o ∨ c ≠ k) : (kI (kA κ o k i v) o2 k2 v2).2 a c = κ.2 a c := kA_k h
theorem kIA_2 {o k i o2 k2 a : Nat} {v v2 : Int32} (h : a ≠ o) : (kI (kA κ o k i v) o2 k2 v2).2 a = κ.2 a := kA_o h
theorem J_force (t : Int32) : JX Γ zX11_force zX12_force 2 0 0 2 [.int t] := JS fun μ b κ σ kd kp n nt tn hI hB => by
  obtain ⟨hA, hH, hT, hX, hP, hS, hI2⟩ := id hB
  have hc := k_force (Γ := Γ) (κ := κ) hI t
  have hm : ∀ (μ' : Mem) (a : Ma), MOK μ' a → _ := fun μ' a hM => c_force (Γ := Γ) (σ := σ) hM t
  rcases fr_eq hX t with ⟨ht, e1, e2⟩ | ⟨e1, e2⟩
  · rw [e2] at hc
    rw [e1] at hm
    refine ⟨κ.1 1 5, kI κ 1 5 t, tI σ 4 t, hc, hm, ?_⟩
    obtain ⟨⟨r, r1, r2, r3⟩, x1, x2, x3, x4⟩ := hX
    obtain ⟨j, hj, rfl⟩ := ixD (n := nt) ht (by omega)
    refine ⟨BA_f hA (tI_n (by decide)) (tI_n (by decide)) (kI_n (Or.inr (by decide))) rfl, BH_f hH rfl rfl rfl rfl, BT_f hT rfl rfl rfl rfl rfl (fun i hi => kI_o (by omega)), ⟨⟨j, hj, tI_s, kI_s⟩, x1, (tI_n (by decide)).trans x2, (kI_n (Or.inl (by decide))).trans x3, fun i hi => ?_⟩, BP_f hP (tI_n (by decide)) rfl (kI_n (Or.inl (by decide))) rfl, BS_f hS rfl rfl rfl rfl (fun i hi => ⟨kI_o (by omega), rfl⟩), BI_f hI2 (tI_n (by decide)) (tI_n (by decide)) rfl rfl (kI_o (by decide)) rfl (fun i hi => kI_o (by omega))⟩
    obtain ⟨m, m1, m2, m3, m4⟩ := x4 i hi
    have q := TR_cg (σ := σ) (τ := tI σ 4 (nI j)) (κ := κ) (κ2 := kI κ 1 5 (nI j)) (f := 160 * i) (m := m) (o := 9 + i) (l := tn i) rfl rfl rfl m4
    exact ⟨m, m1, m2, m3, q⟩
  · rw [e2] at hc
    rw [e1] at hm
    exact ⟨-2, κ, σ, hc, hm, hB⟩
/-! feed -/
theorem J_feed (l : Int32) : JX Γ zX11_feed zX12_feed 2 0 0 2 [.int l] := JS fun μ b κ σ kd kp n nt tn hI hB => by
  obtain ⟨hA, hH, hT, hX, hP, hS, hI2⟩ := id hB
  obtain ⟨fd, f1, f2, f3, f4⟩ := id hP
  have hc := k_feed (Γ := Γ) (κ := κ) hI l f3 f1
  have hm : ∀ (μ' : Mem) (a : Ma), MOK μ' a → _ := fun μ' a hM => c_feed (Γ := Γ) (σ := σ) hM l f2 f1
  have h256 : (0 ≤ l ∧ l < 256) ↔ (0 ≤ l ∧ l ≤ 255) := and_congr_right (fun _ => i_lt 255 (by decide))
  by_cases hl : 0 ≤ l ∧ l < 256
  · by_cases hf : fd < 160
    · have e2 : fdK κ l = (nI fd + 1, kI (kA κ 0 2 fd l) 0 3 (nI fd + 1)) := by
        unfold fdK
        rw [if_pos hl, f3, if_pos (show nI fd < 160 from (nI_ltI (b := 160) (by omega) (by decide)).mpr hf), nn_nI (by omega)]
      have e1 : fdR σ l = (nI fd + 1, tI (tA σ 5 fd l) 6 (nI fd + 1)) := by
        unfold fdR
        rw [if_pos (h256.mp hl), f2, if_neg (fun z => by
          have := congrArg nn z
          rw [nn_nI (by omega), show nn 160 = 160 from rfl] at this
          omega), nn_nI (by omega)]
      rw [e2] at hc
      rw [e1] at hm
      refine ⟨nI fd + 1, kI (kA κ 0 2 fd l) 0 3 (nI fd + 1), tI (tA σ 5 fd l) 6 (nI fd + 1), hc, hm, ?_⟩
      obtain ⟨c, hc1, rfl⟩ := ixD (n := 256) hl (by decide)
      have k1 : (kI (kA κ 0 2 fd (nI c)) 0 3 (nI fd + 1)).2 = (kA κ 0 2 fd (nI c)).2 := rfl
      refine ⟨BA_f hA (tIA_1 (by decide)) (tIA_1 (by decide)) (kIA_1 (Or.inl (by decide))) (kIA_k (Or.inl (by decide))), BH_f hH (tIA_n (by decide)) (tIA_n (by decide)) (tIA_n (by decide)) (kIA_2 (by decide)), BT_f hT (tIA_n (by decide)) (tIA_n (by decide)) (tIA_n (by decide)) (tIA_n (by decide)) (tIA_n (by decide)) (fun i hi => kIA_o (by omega)), BX_fr hX (tIA_1 (by decide)) (tIA_1 (by decide)) ⟨tIA_n (by decide), tIA_n (by decide)⟩ (kIA_1 (Or.inl (by decide))) (kIA_1 (Or.inr (by decide))) (fun i hi => ⟨kIA_k (Or.inl (by omega)), kIA_k (Or.inl (by omega))⟩), ⟨fd + 1, by omega, ?_, ?_, fun i hi => ?_⟩, BS_f hS (tIA_n (by decide)) (tIA_n (by decide)) (tIA_n (by decide)) (tIA_n (by decide)) (fun i hi => ⟨kIA_o (by omega), kIA_k (Or.inl (by omega))⟩), BI_f hI2 (tIA_1 (by decide)) (tIA_1 (by decide)) (tIA_n (by decide)) (tIA_n (by decide)) (kIA_o (by decide)) (kIA_2 (by decide)) (fun i hi => kIA_o (by omega))⟩
      · refine Eq.trans tI_s (nI_1 fd)
      · exact kI_s.trans (nI_1 fd)
      · show eqb 256 (up2 σ.2.2 5 fd (nI c) 5 i) (up3 κ.2 0 2 fd (nI c) 0 2 i)
        by_cases hi2 : i = fd
        · rw [hi2, up2_s, up3_s]
          exact ⟨c, hc1, rfl, rfl⟩
        · rw [up2_n (Or.inr hi2), up3_i hi2]
          exact f4 i (by omega)
    · have e160 : fd = 160 := by omega
      have e2 : fdK κ l = (-4, κ) := by
        unfold fdK
        rw [if_pos hl, f3, if_neg (fun z : nI fd < 160 => hf ((nI_ltI (b := 160) (by omega) (by decide)).mp z))]
      have e1 : fdR σ l = (-4, σ) := by
        unfold fdR
        rw [if_pos (h256.mp hl), f2, if_pos (by rw [e160]; rfl)]
      rw [e2] at hc
      rw [e1] at hm
      exact ⟨-4, κ, σ, hc, hm, hB⟩
  · have e2 : fdK κ l = (-2, κ) := if_neg hl
    have e1 : fdR σ l = (-2, σ) := if_neg (fun z => hl (h256.mpr z))
    rw [e2] at hc
    rw [e1] at hm
    exact ⟨-2, κ, σ, hc, hm, hB⟩
end M9999998
