/-! both go on together: set -/
section M99999993
variable {Γ : Gm} {σ s : MS} {κ κ2 : KS} {kd : Nat → Nat} {kp : Bool} {n nt : Nat} {tn : Nat → Nat}
theorem BR_h {k f i : Nat} {v : Int32} (hk : k = 7 + f) (hf : f < 3) (h : BRe σ κ kd kp n nt tn) (hH : BH (tA σ k i v) (kA κ 1 f i v)) : BRe (tA σ k i v) (kA κ 1 f i v) kd kp n nt tn := by
  obtain ⟨hA, -, hT, hX, hP, hS, hI2⟩ := h
  refine ⟨BA_f hA rfl rfl rfl (kA_k (Or.inl (by decide))), hH, BT_f hT (tA_n (by omega)) (tA_n (by omega)) (tA_n (by omega)) (tA_n (by omega)) (tA_n (by omega)) (fun i hi => rfl), ?_, BP_f hP rfl (tA_n (by omega)) rfl (kA_k (Or.inl (by decide))), BS_f hS (tA_n (by omega)) (tA_n (by omega)) (tA_n (by omega)) (tA_n (by omega)) (fun i hi => ⟨rfl, kA_k (Or.inl (by omega))⟩), BI_f hI2 rfl rfl (tA_n (by omega)) (tA_n (by omega)) rfl (kA_o (by decide)) (fun i hi => rfl)⟩
  have q1 : (tA σ k i v).2.2 1 = σ.2.2 1 := tA_n (by omega)
  have q2 : (tA σ k i v).2.2 2 = σ.2.2 2 := tA_n (by omega)
  exact BX_fr hX rfl rfl ⟨q1, q2⟩ rfl rfl (fun j hj => ⟨kA_k (Or.inl (by omega)), kA_k (Or.inl (by omega))⟩)
theorem BT_i {i : Nat} (h : BT σ κ kd n) (e10 : s.2.2 10 = σ.2.2 10) (e14 : s.2.2 14 = σ.2.2 14) (o : ∀ j, j ≠ i → s.2.2 11 j = σ.2.2 11 j ∧ s.2.2 12 j = σ.2.2 12 j ∧ s.2.2 13 j = σ.2.2 13 j ∧ κ2.1 (15 + j) = κ.1 (15 + j)) (k0 : κ2.1 (15 + i) 0 = κ.1 (15 + i) 0) (k1 : κ2.1 (15 + i) 1 = κ.1 (15 + i) 1) (hi : thB (s.2.2 11 i) (s.2.2 12 i) (s.2.2 13 i) (s.2.2 14 i) (κ2.1 (15 + i) 2) (κ2.1 (15 + i) 3) (κ2.1 (15 + i) 4) (κ2.1 (15 + i) 5) (i < n)) : BT s κ2 kd n := by
  refine ⟨fun j hj => ?_, by rw [e14]; exact h.2⟩
  obtain ⟨g1, g2, g3, g4, g5⟩ := h.1 j hj
  by_cases hji : j = i
  · subst hji
    rw [e10, k0, k1]
    exact ⟨g1, g2, g3, g4, hi⟩
  · obtain ⟨o1, o2, o3, o4⟩ := o j hji
    rw [e10, e14, o1, o2, o3, o4]
    exact ⟨g1, g2, g3, g4, g5⟩
theorem BR_t {k f i : Nat} {v : Int32} (hk : k = 9 + f) (hf : 2 ≤ f ∧ f < 5) (hi : i < 5) (h : BRe σ κ kd kp n nt tn) (hT : BT (tA σ k i v) (kI κ (15 + i) f v) kd n) : BRe (tA σ k i v) (kI κ (15 + i) f v) kd kp n nt tn := by
  obtain ⟨hA, hH, -, hX, hP, hS, hI2⟩ := h
  refine ⟨BA_f hA rfl rfl (kI_n (Or.inl (by omega))) rfl, BH_f hH (tA_n (by omega)) (tA_n (by omega)) (tA_n (by omega)) rfl, hT, ?_, BP_f hP rfl (tA_n (by omega)) (kI_n (Or.inl (by omega))) rfl, BS_f hS (tA_n (by omega)) (tA_n (by omega)) (tA_n (by omega)) (tA_n (by omega)) (fun j hj => ⟨kI_o (by omega), rfl⟩), BI_f hI2 rfl rfl (tA_n (by omega)) (tA_n (by omega)) (kI_o (by omega)) rfl (fun j hj => kI_o (by omega))⟩
  have q1 : (tA σ k i v).2.2 1 = σ.2.2 1 := tA_n (by omega)
  have q2 : (tA σ k i v).2.2 2 = σ.2.2 2 := tA_n (by omega)
  exact BX_fr hX rfl rfl ⟨q1, q2⟩ (kI_n (Or.inl (by omega))) (kI_n (Or.inl (by omega))) (fun j hj => ⟨rfl, rfl⟩)
theorem eqb_up {B N k f i : Nat} {v : Nat} (h : ∀ p, p < N → eqb B (σ.2.2 k p) (κ.2 1 f p)) (hv : v < B) : ∀ p, p < N → eqb B ((tA σ k i (nI v)).2.2 k p) ((kA κ 1 f i (nI v)).2 1 f p) := fun p hp => by
  show eqb B (up2 σ.2.2 k i (nI v) k p) (up3 κ.2 1 f i (nI v) 1 f p)
  by_cases hpi : p = i
  · rw [hpi, up2_s, up3_s]
    exact ⟨v, hv, rfl, rfl⟩
  · rw [up2_n (Or.inr hpi), up3_i hpi]
    exact h p hp
theorem x10 {x : Int32} : (0 ≤ x ∧ x < 10) ↔ (0 ≤ x ∧ x ≤ 9) := and_congr_right (fun _ => i_lt 9 (by decide))
theorem x7 {x : Int32} : (0 ≤ x ∧ x < 7) ↔ (0 ≤ x ∧ x ≤ 6) := and_congr_right (fun _ => i_lt 6 (by decide))
/-- a row of the house: what was there and what stands then -/
theorem set_h {k f N B : Nat} {cN cB dB : Int32} (hk : k = 7 + f) (hf : f < 3) (hN : N ≤ 7) (eN : ∀ x : Int32, (0 ≤ x ∧ x < nI N) ↔ (0 ≤ x ∧ x ≤ cN - 1)) (eB : ∀ x : Int32, (0 ≤ x ∧ x < dB) ↔ (0 ≤ x ∧ x ≤ cB)) (hdB : dB = nI B) (hB2 : B ≤ 16) (hB : BRe σ κ kd kp n nt tn) (hrow : ∀ p, p < N → eqb B (σ.2.2 k p) (κ.2 1 f p)) (hH : ∀ i v, i < N → v < B → BH (tA σ k i (nI v)) (kA κ 1 f i (nI v))) (of v : Int32) : (exV κ 1 f N of v dB).1 = (setF k cN cB σ of v).1 ∧ BRe (setF k cN cB σ of v).2 (exV κ 1 f N of v dB).2 kd kp n nt tn := by
  unfold exV setF
  by_cases h : (0 ≤ of ∧ of < nI N) ∧ (0 ≤ v ∧ v < dB)
  · rw [if_pos h, if_pos ⟨(eN of).mp h.1, (eB v).mp h.2⟩]
    obtain ⟨i, hi, rfl⟩ := ixD (n := N) h.1 (by omega)
    obtain ⟨w, hw, rfl⟩ := ixD (x := v) (n := B) (by rw [← hdB]; exact h.2) (by omega)
    rw [nn_nI (by omega)]
    refine ⟨?_, BR_h hk hf hB (hH i w hi hw)⟩
    obtain ⟨u, -, e1, e2⟩ := hrow i hi
    exact e2.trans e1.symm
  · rw [if_neg h, if_neg (fun z => h ⟨(eN of).mpr z.1, (eB v).mpr z.2⟩)]
    exact ⟨rfl, hB⟩
theorem set_t {k f B : Nat} {cN cB dB : Int32} (hk : k = 9 + f) (hf : 2 ≤ f ∧ f < 5) (hn : n ≤ 5) (eN : ∀ x : Int32, (0 ≤ x ∧ x < nI n) ↔ (0 ≤ x ∧ x ≤ cN - 1)) (eB : ∀ x : Int32, (0 ≤ x ∧ x < dB) ↔ (0 ≤ x ∧ x ≤ cB)) (hdB : dB = nI B) (hB2 : B ≤ 16) (hB : BRe σ κ kd kp n nt tn) (hrow : ∀ p, p < n → κ.1 (15 + p) f = σ.2.2 k p) (hT : ∀ i v, i < n → v < B → BT (tA σ k i (nI v)) (kI κ (15 + i) f (nI v)) kd n) (of v : Int32) : (chK κ n f dB of v).1 = (setF k cN cB σ of v).1 ∧ BRe (setF k cN cB σ of v).2 (chK κ n f dB of v).2 kd kp n nt tn := by
  unfold chK setF
  by_cases h : (0 ≤ of ∧ of < nI n) ∧ (0 ≤ v ∧ v < dB)
  · rw [if_pos h, if_pos ⟨(eN of).mp h.1, (eB v).mp h.2⟩]
    obtain ⟨i, hi, rfl⟩ := ixD (n := n) h.1 (by omega)
    obtain ⟨w, hw, rfl⟩ := ixD (x := v) (n := B) (by rw [← hdB]; exact h.2) (by omega)
    rw [nn_nI (by omega)]
    exact ⟨hrow i hi, BR_t hk hf (by omega) hB (hT i w hi hw)⟩
  · rw [if_neg h, if_neg (fun z => h ⟨(eN of).mpr z.1, (eB v).mpr z.2⟩)]
    exact ⟨rfl, hB⟩
theorem J_set (w x v : Int32) : JX Γ zX11_set zX12_set 3 0 0 2 [.int w, .int x, .int v] := JS fun μ b κ σ kd kp n nt tn hI hB => by
  obtain ⟨hA, hH, hT, hX, hP, hS, hI2⟩ := id hB
  have hn := hA.1
  have hc := k_set (Γ := Γ) (κ := κ) hI w x v hA.2.2.1 hn
  have hm : ∀ (μ' : Mem) (a : Ma), MOK μ' a → _ := fun μ' a hM => c_set (Γ := Γ) (σ := σ) hM w x v hA.2.1 hn
  have e : (setK κ n w x v).1 = (setR σ w x v).1 ∧ BRe (setR σ w x v).2 (setK κ n w x v).2 kd kp n nt tn := by
    have eN : ∀ x : Int32, (0 ≤ x ∧ x < nI n) ↔ (0 ≤ x ∧ x ≤ σ.1 15 - 1) := fun x => lt_n hB
    unfold setK setR
    by_cases w0 : w = 0
    · rw [if_pos w0, if_pos w0]
      exact set_h (k := 7) (f := 0) rfl (by decide) (by decide) (fun x => x6) (fun x => x16) (B := 16) rfl (by decide) hB hH.1 (fun i v hi hv => ⟨eqb_up hH.1 hv, by rw [tA_n (by decide), kA_k (Or.inr (by decide))]; exact hH.2.1, by rw [tA_n (by decide), kA_k (Or.inr (by decide))]; exact hH.2.2⟩) x v
    rw [if_neg w0, if_neg w0]
    by_cases w1 : w = 1
    · rw [if_pos w1, if_pos w1]
      exact set_h (k := 8) (f := 1) rfl (by decide) (by decide) (fun x => x4) (fun x => x4) (B := 4) rfl (by decide) hB hH.2.1 (fun i v hi hv => ⟨by rw [tA_n (by decide), kA_k (Or.inr (by decide))]; exact hH.1, eqb_up hH.2.1 hv, by rw [tA_n (by decide), kA_k (Or.inr (by decide))]; exact hH.2.2⟩) x v
    rw [if_neg w1, if_neg w1]
    by_cases w2 : w = 2
    · rw [if_pos w2, if_pos w2]
      exact set_h (k := 9) (f := 2) rfl (by decide) (by decide) (fun x => x7) (fun x => x16) (B := 16) rfl (by decide) hB hH.2.2 (fun i v hi hv => ⟨by rw [tA_n (by decide), kA_k (Or.inr (by decide))]; exact hH.1, by rw [tA_n (by decide), kA_k (Or.inr (by decide))]; exact hH.2.1, eqb_up hH.2.2 hv⟩) x v
    rw [if_neg w2, if_neg w2]
    by_cases w3 : w = 3
    · rw [if_pos w3, if_pos w3]
      refine set_t (k := 11) (f := 2) rfl (by decide) hn eN (fun x => x10) (B := 10) rfl (by decide) hB (fun p hp => (BT_t hT hn hp).2.1) (fun i v hi hv => BT_i (i := i) hT (tA_n (by decide)) (tA_n (by decide)) (fun j hj => ⟨up2_n (Or.inr hj), congrFun (tA_n (by decide)) j, congrFun (tA_n (by decide)) j, kI_o (by omega)⟩) (kI_n (Or.inr (by decide))) (kI_n (Or.inr (by decide))) ?_) x v
      obtain ⟨-, -, -, -, -, g2, g3, g4⟩ := hT.1 i (by omega)
      refine ⟨⟨v, hv, up2_s, fun _ => kI_s⟩, ?_, ?_, ?_⟩
      · rw [tA_n (by decide), kI_n (Or.inr (by decide))]; exact g2
      · rw [tA_n (by decide), kI_n (Or.inr (by decide))]; exact g3
      · rw [tA_n (by decide), kI_n (Or.inr (by decide))]; exact g4
    rw [if_neg w3, if_neg w3]
    by_cases w4 : w = 4
    · rw [if_pos w4, if_pos w4]
      refine set_t (k := 12) (f := 3) rfl (by decide) hn eN (fun x => x4) (B := 4) rfl (by decide) hB (fun p hp => (BT_t hT hn hp).2.2.1) (fun i v hi hv => BT_i (i := i) hT (tA_n (by decide)) (tA_n (by decide)) (fun j hj => ⟨congrFun (tA_n (by decide)) j, up2_n (Or.inr hj), congrFun (tA_n (by decide)) j, kI_o (by omega)⟩) (kI_n (Or.inr (by decide))) (kI_n (Or.inr (by decide))) ?_) x v
      obtain ⟨-, -, -, -, g1, -, g3, g4⟩ := hT.1 i (by omega)
      refine ⟨?_, ⟨v, hv, up2_s, fun _ => kI_s⟩, ?_, ?_⟩
      · rw [tA_n (by decide), kI_n (Or.inr (by decide))]; exact g1
      · rw [tA_n (by decide), kI_n (Or.inr (by decide))]; exact g3
      · rw [tA_n (by decide), kI_n (Or.inr (by decide))]; exact g4
    rw [if_neg w4, if_neg w4]
    by_cases w5 : w = 5
    · rw [if_pos w5, if_pos w5]
      refine set_t (k := 13) (f := 4) rfl (by decide) hn eN (fun x => x10) (B := 10) rfl (by decide) hB (fun p hp => (BT_t hT hn hp).2.2.2.1) (fun i v hi hv => BT_i (i := i) hT (tA_n (by decide)) (tA_n (by decide)) (fun j hj => ⟨congrFun (tA_n (by decide)) j, congrFun (tA_n (by decide)) j, up2_n (Or.inr hj), kI_o (by omega)⟩) (kI_n (Or.inr (by decide))) (kI_n (Or.inr (by decide))) ?_) x v
      obtain ⟨-, -, -, -, g1, g2, -, g4⟩ := hT.1 i (by omega)
      refine ⟨?_, ?_, ⟨v, hv, up2_s, fun _ => kI_s⟩, ?_⟩
      · rw [tA_n (by decide), kI_n (Or.inr (by decide))]; exact g1
      · rw [tA_n (by decide), kI_n (Or.inr (by decide))]; exact g2
      · rw [tA_n (by decide), kI_n (Or.inr (by decide))]; exact g4
    rw [if_neg w5, if_neg w5]
    exact ⟨rfl, hB⟩
  rw [e.1] at hc
  exact ⟨_, _, _, hc, hm, e.2⟩
end M99999993
