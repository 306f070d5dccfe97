/-! the reference: best, tidy, once, week -/
/-- what the rule tells, as numbers -/
def TD (σ : MS) (r m : Nat) (D : PD) (n : Nat) : Prop := ∀ i, i < n → (∀ k, k < 7 → (∀ v, SV σ r m 0 i (spl k) 0 v → v = nI (D 7 (7 * i + k))) ∧ (if k = 0 then D 8 (7 * i + k) = 0 else ∀ v, SV σ r m 1 i (nI k - 1) 0 v → v = nI (D 8 (7 * i + k)))) ∧ ∀ c, c < 5 → ∀ v, SV σ r m 2 i 0 (nI c) v → v = nI (D 9 (5 * i + c))
def RR (σ : MS) (D : PD) (n r m : Nat) : Prop := RD σ D n ∧ σ.1 35 = -1 ∧ rlO σ r m ∧ TD σ r m D n ∧ okG D n
/-- what stays -/
def pk (k : Nat) : Prop := k < 16 ∨ k = 35 ∨ k = 50 ∨ k = 51
def pa (k : Nat) : Prop := k < 15 ∨ k = 48 ∨ k = 49 ∨ 51 < k
def pq (σ s : MS) : Prop := (∀ k, pk k → s.1 k = σ.1 k) ∧ ∀ k, pa k → s.2.2 k = σ.2.2 k
theorem pq.rf {σ : MS} : pq σ σ := ⟨fun _ _ => rfl, fun _ _ => rfl⟩
theorem pq.trans {σ s s' : MS} (h : pq σ s) (h2 : pq s s') : pq σ s' := ⟨fun k hk => (h2.1 k hk).trans (h.1 k hk), fun k hk => (h2.2 k hk).trans (h.2 k hk)⟩
theorem pq.sq {σ s : MS} (h : sq σ s) : pq σ s := ⟨fun k hk => h.1 k (by unfold pk at hk; omega), fun k hk => h.2.2 k (by unfold pa at hk; omega)⟩
theorem pq.gk {σ s : MS} (h : gk σ s) : pq σ s := ⟨fun k hk => h.1 k (by unfold pk at hk; omega), fun k hk => h.2 k (by unfold pa at hk; omega) (by unfold pa at hk; omega) (by unfold pa at hk; omega)⟩
theorem RD.pq {σ s : MS} {D : PD} {n : Nat} (h : RD σ D n) (q : pq σ s) : RD s D n := by
  have p : ∀ k, k < 15 → s.2.2 k = σ.2.2 k := fun k hk => q.2 k (Or.inl hk)
  unfold RD at h ⊢
  rw [q.1 15 (Or.inl (by omega)), p 10 (by omega), p 11 (by omega), p 12 (by omega), p 14 (by omega), p 7 (by omega), p 8 (by omega), p 9 (by omega)]
  exact h
section M55
variable {Γ : Gm} {μ : Mem} {a : Ma} {σ : MS}
theorem GA_RG {s : MS} {D : PD} {n r m : Nat} (h : GA σ r m n s) (hR : RR σ D n r m) : RD s D n ∧ RG s D n ∧ gk σ s ∧ s.1 35 = -1 := by
  refine ⟨hR.1.pq (pq.gk h.1), ⟨hR.2.2.2.2, fun i hi => ?_⟩, h.1, (h.1.1 35 (by omega)).trans hR.2.1⟩
  obtain ⟨h1, h2⟩ := h.2 i hi
  obtain ⟨t1, t2⟩ := hR.2.2.2.1 i hi
  refine ⟨fun k hk => ?_, fun c hc => t2 c hc _ (h2 c hc)⟩
  obtain ⟨g1, g2⟩ := h1 k hk
  obtain ⟨t3, t4⟩ := t1 k hk
  refine ⟨t3 _ g1, ?_⟩
  by_cases hk0 : k = 0
  · rw [if_pos hk0] at g2 t4
    rw [g2, t4]
    rfl
  · rw [if_neg hk0] at g2 t4
    exact t4 _ g2
theorem c_gatherD (hM : MOK μ a) {D : PD} {n r m : Nat} (hR : RR σ D n r m) : XM Γ zX12_gathers 50 0 0 [.ref a.1] (MV μ a σ) (fun v μ2 => ∃ s : MS, v = none ∧ μ2 = MV μ a s ∧ gk σ s ∧ RD s D n ∧ RG s D n ∧ s.1 35 = -1) :=
  XM_post (c_gathers hM hR.1.2.1 hR.1.1.1 hR.2.2.1) (fun v μ2 q => by
    obtain ⟨s, e1, e2, h⟩ := q
    obtain ⟨h1, h2, h3, h4⟩ := GA_RG h hR
    exact ⟨s, e1, e2, h3, h1, h2, h4⟩)
def beD (D : PD) (n G M : Nat) : BR := bsD D n [G] (wasA D 9) 9 true M
def beV (D : PD) (n : Nat) (x y z : Int32) : Int32 := if (0 ≤ x ∧ x ≤ 15) ∧ (0 ≤ y ∧ y ≤ 5) ∧ (z = -1 ∨ (0 ≤ z ∧ z ≤ nI n - 1)) then (if z = -1 then nI (brC (beD D n (nn x) (nn y))) else nI (brR (beD D n (nn x) (nn y)) (nn z)) - 1) else -100
theorem ixB {x c : Int32} {n : Nat} (hc : c = nI n) (hb : 0 ≤ x ∧ x ≤ c) (hn : n < 2 ^ 31) : ∃ j : Nat, j ≤ n ∧ x = nI j := by
  obtain ⟨j, hj, e⟩ := nI_of (Int32.not_lt.mpr hb.1)
  refine ⟨j, ?_, e⟩
  have := hb.2
  rw [hc, e, nI_leI hj hn] at this
  exact this
def roomOk (D : PD) (n : Nat) : Prop := okr (okA D 9) (wasA D 9) n
theorem be_ne {D : PD} {n G M : Nat} (h : roomOk D n) : beD D n G M ≠ none := bsD_neC h
theorem c_bestO (hM : MOK μ a) {D : PD} {n r m G M : Nat} {z : Int32} (hR : RR σ D n r m) (hO : roomOk D n) (hG : G < 16) (hM5 : M ≤ 5) (hz : z = -1 ∨ (0 ≤ z ∧ z ≤ nI n - 1)) : XM Γ zX12_best 52 0 0 [.ref a.1, .int (nI G), .int (nI M), .int z] (MV μ a σ) (fun v μ2 => ∃ s : MS, v = some (.int (if z = -1 then nI (brC (beD D n G M)) else nI (brR (beD D n G M) (nn z)) - 1)) ∧ μ2 = MV μ a s ∧ pq σ s ∧ ∀ i, i < n → s.2.2 37 i = nI (brR (beD D n G M) i) - 1) := by
  refine XM.of 0 rfl (by decide) (Nat.le_of_ble_eq_true rfl) ?_
  have hn := hR.1.1.1
  have h15 := hR.1.2.1
  have gB : 0 ≤ nI G ∧ nI G ≤ 15 := ⟨nI_pos' (by omega), nI_le (b := 15) (by omega) (by omega)⟩
  have gM : 0 ≤ nI M ∧ nI M ≤ 5 := ⟨nI_pos' (by omega), nI_le (b := 5) (by omega) (by omega)⟩
  refine x_iload_n (pc := 0) dX12_best_0 rfl ?_
  refine x_callS (pc := 1) (As := [.int _]) dX12_best_1 mX12_areGuests lk_12_308 (c_areGuests _) rfl rfl (Nat.le_of_ble_eq_true rfl) ⟨by decide, by decide⟩ ⟨Nat.zero_le _, Nat.zero_le _⟩ (k_rt ?_)
  refine x_if_eq (pc := 4) (tgt := 32) dX12_best_4 rfl (fun h_4 => absurd h_4 (by rw [bi_t gB]; decide)) (fun h_4 => ?_)
  refine x_iload_n (pc := 7) dX12_best_7 rfl ?_
  refine x_i2l (pc := 8) dX12_best_8 ?_
  refine x_lconst (pc := 9) (v := 0) dX12_best_9 rfl ?_
  refine x_ldc2 (pc := 10) dX12_best_10 kc_12_113 ?_
  refine x_callS (pc := 13) (As := [.long _, .long _, .long _]) dX12_best_13 mX12_in lk_12_109 (c_inI 0 5) rfl rfl (Nat.le_of_ble_eq_true rfl) ⟨by decide, by decide⟩ ⟨Nat.zero_le _, Nat.zero_le _⟩ (k_rt ?_)
  refine x_if_eq (pc := 16) (tgt := 32) dX12_best_16 rfl (fun h_16 => absurd h_16 (by rw [bi_t gM]; decide)) (fun h_16 => ?_)
  refine x_iload_n (pc := 19) dX12_best_19 rfl ?_
  refine x_iconst (pc := 20) (v := -1) dX12_best_20 rfl ?_
  refine x_icmp_eq (pc := 21) (tgt := 35) dX12_best_21 rfl (fun h_21 => ?_) (fun h_21 => ?_)
  · refine x_aload_n (pc := 35) dX12_best_35 rfl ?_
    refine x_callV (pc := 36) (As := []) dX12_best_36 mX12_gathers lk_12_311 hM.1 (c_gatherD hM hR) rfl rfl (Nat.le_of_ble_eq_true rfl) ⟨by decide, by decide⟩ ⟨Nat.zero_le _, Nat.zero_le _⟩ (fun v μ2 hq => ?_)
    obtain ⟨s, rfl, rfl, hg, h1, h2, h3⟩ := hq
    obtain ⟨hW, hfq⟩ := SW_fn (aw := 9) h1 h3
    refine x_aload_n (pc := 39) dX12_best_39 rfl ?_
    refine x_callV (pc := 40) (As := []) dX12_best_40 mX12_fromNow lk_12_317 hM.1 (c_fromNow hM) rfl rfl (Nat.le_of_ble_eq_true rfl) ⟨by decide, by decide⟩ ⟨Nat.zero_le _, Nat.zero_le _⟩ (k_rv ?_)
    refine x_aload_n (pc := 43) dX12_best_43 rfl ?_
    refine x_iload_n (pc := 44) dX12_best_44 rfl ?_
    refine x_iload_n (pc := 45) dX12_best_45 rfl ?_
    refine x_callV (pc := 46) (As := [.int _, .int _]) dX12_best_46 mX12_seeksFor lk_12_320 hM.1 (c_seeksFor hM (h1.sq hfq) (h2.sq hfq) hW hG hM5 (fun z => absurd z (by omega)) (be_ne hO)) rfl rfl (Nat.le_of_ble_eq_true rfl) ⟨by decide, by decide⟩ ⟨Nat.zero_le _, Nat.zero_le _⟩ (fun v μ2 hq => ?_)
    obtain ⟨s4, rfl, rfl, hs4, c38, c37⟩ := hq
    have hpq : pq σ s4 := (pq.gk hg).trans (pq.sq (hfq.trans hs4.sq))
    refine x_iload_n (pc := 49) dX12_best_49 rfl ?_
    refine x_iconst (pc := 50) (v := -1) dX12_best_50 rfl ?_
    refine x_icmp_ne (pc := 51) (tgt := 61) dX12_best_51 rfl (fun h_51 => ?_) (fun h_51 => ?_)
    · obtain ⟨j, hj, rfl⟩ := ixC (c := nI n) rfl (hz.resolve_left (by exact h_51)) (by omega)
      refine x_aload_n (pc := 61) dX12_best_61 rfl ?_
      refine m_getR (pc := 62) hM dX12_best_62 fk_12_65 (Or.inr ⟨_, rfl⟩) (Or.inl (by decide)) ?_
      refine x_iload_n (pc := 65) dX12_best_65 rfl ?_
      refine m_iald (pc := 66) hM dX12_best_66 (rfl) (by show j < 5; omega) ?_
      refine x_ireturn (pc := 67) dX12_best_67 rfl rfl ?_
      refine ⟨s4, ?_, rfl, hpq, c37⟩
      first
        | (rw [if_pos (by first | exact h_51 | exact Decidable.not_not.mp h_51), c38] <;> rfl)
        | (rw [if_neg (by exact h_51), nn_nI (by omega), c37 _ hj] <;> rfl)
    · refine x_aload_n (pc := 54) dX12_best_54 rfl ?_
      refine m_getI (pc := 55) hM dX12_best_55 fk_12_288 (Or.inl rfl) ?_
      refine x_goto (pc := 58) (tgt := 67) dX12_best_58 rfl ?_
      refine x_ireturn (pc := 67) dX12_best_67 rfl rfl ?_
      refine ⟨s4, ?_, rfl, hpq, c37⟩
      first
        | (rw [if_pos (by first | exact h_51 | exact Decidable.not_not.mp h_51), c38] <;> rfl)
        | (rw [if_neg (by exact h_51), nn_nI (by omega), c37 _ hj] <;> rfl)
  · refine x_aload_n (pc := 24) dX12_best_24 rfl ?_
    refine x_iload_n (pc := 25) dX12_best_25 rfl ?_
    refine x_callV (pc := 26) (As := [.int _]) dX12_best_26 mX12_isThing lk_12_123 hM.1 (c_isThing hM _) rfl rfl (Nat.le_of_ble_eq_true rfl) ⟨by decide, by decide⟩ ⟨Nat.zero_le _, Nat.zero_le _⟩ (k_rt ?_)
    refine x_if_ne (pc := 29) (tgt := 35) dX12_best_29 rfl (fun h_29 => ?_) (fun h_29 => absurd h_29 (by rw [h15, bi_t (hz.resolve_left (by exact h_21))]; decide))
    refine x_aload_n (pc := 35) dX12_best_35 rfl ?_
    refine x_callV (pc := 36) (As := []) dX12_best_36 mX12_gathers lk_12_311 hM.1 (c_gatherD hM hR) rfl rfl (Nat.le_of_ble_eq_true rfl) ⟨by decide, by decide⟩ ⟨Nat.zero_le _, Nat.zero_le _⟩ (fun v μ2 hq => ?_)
    obtain ⟨s, rfl, rfl, hg, h1, h2, h3⟩ := hq
    obtain ⟨hW, hfq⟩ := SW_fn (aw := 9) h1 h3
    refine x_aload_n (pc := 39) dX12_best_39 rfl ?_
    refine x_callV (pc := 40) (As := []) dX12_best_40 mX12_fromNow lk_12_317 hM.1 (c_fromNow hM) rfl rfl (Nat.le_of_ble_eq_true rfl) ⟨by decide, by decide⟩ ⟨Nat.zero_le _, Nat.zero_le _⟩ (k_rv ?_)
    refine x_aload_n (pc := 43) dX12_best_43 rfl ?_
    refine x_iload_n (pc := 44) dX12_best_44 rfl ?_
    refine x_iload_n (pc := 45) dX12_best_45 rfl ?_
    refine x_callV (pc := 46) (As := [.int _, .int _]) dX12_best_46 mX12_seeksFor lk_12_320 hM.1 (c_seeksFor hM (h1.sq hfq) (h2.sq hfq) hW hG hM5 (fun z => absurd z (by omega)) (be_ne hO)) rfl rfl (Nat.le_of_ble_eq_true rfl) ⟨by decide, by decide⟩ ⟨Nat.zero_le _, Nat.zero_le _⟩ (fun v μ2 hq => ?_)
    obtain ⟨s4, rfl, rfl, hs4, c38, c37⟩ := hq
    have hpq : pq σ s4 := (pq.gk hg).trans (pq.sq (hfq.trans hs4.sq))
    refine x_iload_n (pc := 49) dX12_best_49 rfl ?_
    refine x_iconst (pc := 50) (v := -1) dX12_best_50 rfl ?_
    refine x_icmp_ne (pc := 51) (tgt := 61) dX12_best_51 rfl (fun h_51 => ?_) (fun h_51 => ?_)
    · obtain ⟨j, hj, rfl⟩ := ixC (c := nI n) rfl (hz.resolve_left (by exact h_51)) (by omega)
      refine x_aload_n (pc := 61) dX12_best_61 rfl ?_
      refine m_getR (pc := 62) hM dX12_best_62 fk_12_65 (Or.inr ⟨_, rfl⟩) (Or.inl (by decide)) ?_
      refine x_iload_n (pc := 65) dX12_best_65 rfl ?_
      refine m_iald (pc := 66) hM dX12_best_66 (rfl) (by show j < 5; omega) ?_
      refine x_ireturn (pc := 67) dX12_best_67 rfl rfl ?_
      refine ⟨s4, ?_, rfl, hpq, c37⟩
      first
        | (rw [if_pos (by first | exact h_51 | exact Decidable.not_not.mp h_51), c38] <;> rfl)
        | (rw [if_neg (by exact h_51), nn_nI (by omega), c37 _ hj] <;> rfl)
    · refine x_aload_n (pc := 54) dX12_best_54 rfl ?_
      refine m_getI (pc := 55) hM dX12_best_55 fk_12_288 (Or.inl rfl) ?_
      refine x_goto (pc := 58) (tgt := 67) dX12_best_58 rfl ?_
      refine x_ireturn (pc := 67) dX12_best_67 rfl rfl ?_
      refine ⟨s4, ?_, rfl, hpq, c37⟩
      first
        | (rw [if_pos (by first | exact h_51 | exact Decidable.not_not.mp h_51), c38] <;> rfl)
        | (rw [if_neg (by exact h_51), nn_nI (by omega), c37 _ hj] <;> rfl)
theorem c_best (hM : MOK μ a) {D : PD} {n r m : Nat} (x y z : Int32) (hR : RR σ D n r m) (hO : roomOk D n) : XM Γ zX12_best 52 0 0 [.ref a.1, .int x, .int y, .int z] (MV μ a σ) (fun v μ2 => ∃ s : MS, v = some (.int (beV D n x y z)) ∧ μ2 = MV μ a s ∧ pq σ s) := by
  by_cases hc : (0 ≤ x ∧ x ≤ 15) ∧ (0 ≤ y ∧ y ≤ 5) ∧ (z = -1 ∨ (0 ≤ z ∧ z ≤ nI n - 1))
  · obtain ⟨G, hG, rfl⟩ := ixB (n := 15) rfl hc.1 (by omega)
    obtain ⟨M, hM5, rfl⟩ := ixB (n := 5) rfl hc.2.1 (by omega)
    refine XM_post (c_bestO (z := z) hM hR hO (by omega) hM5 hc.2.2) (fun v μ2 q => ?_)
    obtain ⟨s, e1, e2, q1, -⟩ := q
    refine ⟨s, ?_, e2, q1⟩
    rw [e1]
    unfold beV
    rw [if_pos hc, nn_nI (by omega), nn_nI (by omega)]
  · refine XM.of 0 rfl (by decide) (Nat.le_of_ble_eq_true rfl) ?_
    have h15 := hR.1.2.1
    refine x_iload_n (pc := 0) dX12_best_0 rfl ?_
    refine x_callS (pc := 1) (As := [.int _]) dX12_best_1 mX12_areGuests lk_12_308 (c_areGuests _) rfl rfl (Nat.le_of_ble_eq_true rfl) ⟨by decide, by decide⟩ ⟨Nat.zero_le _, Nat.zero_le _⟩ (k_rt ?_)
    refine x_if_eq (pc := 4) (tgt := 32) dX12_best_4 rfl (fun h_4 => ?_) (fun h_4 => ?_)
    · refine x_bipush (pc := 32) (v := -100) dX12_best_32 rfl ?_
      refine x_ireturn (pc := 34) dX12_best_34 rfl rfl ?_
      exact ⟨σ, by unfold beV; rw [if_neg hc], rfl, pq.rf⟩
    · refine x_iload_n (pc := 7) dX12_best_7 rfl ?_
      refine x_i2l (pc := 8) dX12_best_8 ?_
      refine x_lconst (pc := 9) (v := 0) dX12_best_9 rfl ?_
      refine x_ldc2 (pc := 10) dX12_best_10 kc_12_113 ?_
      refine x_callS (pc := 13) (As := [.long _, .long _, .long _]) dX12_best_13 mX12_in lk_12_109 (c_inI 0 5) rfl rfl (Nat.le_of_ble_eq_true rfl) ⟨by decide, by decide⟩ ⟨Nat.zero_le _, Nat.zero_le _⟩ (k_rt ?_)
      refine x_if_eq (pc := 16) (tgt := 32) dX12_best_16 rfl (fun h_16 => ?_) (fun h_16 => ?_)
      · refine x_bipush (pc := 32) (v := -100) dX12_best_32 rfl ?_
        refine x_ireturn (pc := 34) dX12_best_34 rfl rfl ?_
        exact ⟨σ, by unfold beV; rw [if_neg hc], rfl, pq.rf⟩
      · refine x_iload_n (pc := 19) dX12_best_19 rfl ?_
        refine x_iconst (pc := 20) (v := -1) dX12_best_20 rfl ?_
        refine x_icmp_eq (pc := 21) (tgt := 35) dX12_best_21 rfl (fun h_21 => ?_) (fun h_21 => ?_)
        · exact absurd ⟨bi_n0 h_4, bi_n0 h_16, by first | exact Or.inl (by first | exact h_21 | exact Decidable.not_not.mp h_21) | exact Or.inr (by have := bi_n0 h_29; rwa [h15] at this)⟩ hc
        · refine x_aload_n (pc := 24) dX12_best_24 rfl ?_
          refine x_iload_n (pc := 25) dX12_best_25 rfl ?_
          refine x_callV (pc := 26) (As := [.int _]) dX12_best_26 mX12_isThing lk_12_123 hM.1 (c_isThing hM _) rfl rfl (Nat.le_of_ble_eq_true rfl) ⟨by decide, by decide⟩ ⟨Nat.zero_le _, Nat.zero_le _⟩ (k_rt ?_)
          refine x_if_ne (pc := 29) (tgt := 35) dX12_best_29 rfl (fun h_29 => ?_) (fun h_29 => ?_)
          · exact absurd ⟨bi_n0 h_4, bi_n0 h_16, by first | exact Or.inl (by first | exact h_21 | exact Decidable.not_not.mp h_21) | exact Or.inr (by have := bi_n0 h_29; rwa [h15] at this)⟩ hc
          · refine x_bipush (pc := 32) (v := -100) dX12_best_32 rfl ?_
            refine x_ireturn (pc := 34) dX12_best_34 rfl rfl ?_
            exact ⟨σ, by unfold beV; rw [if_neg hc], rfl, pq.rf⟩
/-- what stays but for one array -/
def pqx (k0 : Nat) (σ s : MS) : Prop := (∀ k, pk k → s.1 k = σ.1 k) ∧ ∀ k, pa k → k ≠ k0 → s.2.2 k = σ.2.2 k
def f_ty : Nat → MS → MS := fun j s => tA s 14 j (s.2.2 37 j)
theorem ty_i {σ : MS} : ∀ k, but 14 σ (it f_ty k σ) ∧ ∀ j, (it f_ty k σ).2.2 14 j = if j < k then σ.2.2 37 j else σ.2.2 14 j
  | 0 => ⟨but.rf, fun j => by rw [if_neg (by omega)]; rfl⟩
  | k + 1 => by
    obtain ⟨h1, h2⟩ := ty_i (σ := σ) k
    refine ⟨h1.tA, fun j => ?_⟩
    show up2 _ 14 _ _ 14 _ = _
    rcases Nat.lt_trichotomy j k with q | q | q
    · rw [up2_n (Or.inr (by omega)), h2, if_pos q, if_pos (by omega)]
    · subst q
      rw [up2_s, h1.2.2 37 (by decide), if_pos (by omega)]
    · rw [up2_n (Or.inr (by omega)), h2, if_neg (by omega), if_neg (by omega)]
theorem c_tidy (hM : MOK μ a) {D : PD} {n r m : Nat} (x : Int32) (hR : RR σ D n r m) (hO : roomOk D n) : XM Γ zX12_tidy 53 0 0 [.ref a.1, .int x] (MV μ a σ) (fun v μ2 => ∃ s : MS, μ2 = MV μ a s ∧ ((¬ (0 ≤ x ∧ x ≤ 15) ∧ v = some (.int (-2)) ∧ s = σ) ∨ ((0 ≤ x ∧ x ≤ 15) ∧ v = some (.int (nI (brC (beD D n (nn x) 5)))) ∧ pqx 14 σ s ∧ ∀ j, s.2.2 14 j = if j < n then nI (brR (beD D n (nn x) 5) j) - 1 else σ.2.2 14 j))) := by
  refine XM.of 2 rfl (by decide) (Nat.le_of_ble_eq_true rfl) ?_
  have hn := hR.1.1.1
  have L : ∀ (G : Nat) (s0 : MS) (v : Int32), G < 16 → x = nI G → pq σ s0 → (∀ i, i < n → s0.2.2 37 i = nI (brR (beD D n G 5) i) - 1) → v = nI (brC (beD D n G 5)) → ∀ (m j : Nat), j + m = n → WA Γ zX12_tidy (xrm 53 0 0) 0 0 0 0 (fun v μ2 => ∃ s : MS, μ2 = MV μ a s ∧ ((¬ (0 ≤ x ∧ x ≤ 15) ∧ v = some (.int (-2)) ∧ s = σ) ∨ ((0 ≤ x ∧ x ≤ 15) ∧ v = some (.int (nI (brC (beD D n (nn x) 5)))) ∧ pqx 14 σ s ∧ ∀ j, s.2.2 14 j = if j < n then nI (brR (beD D n (nn x) 5) j) - 1 else σ.2.2 14 j))) 20 [some (.ref a.1), some (.int x), some (.int v), some (.int (nI j))] [] (MV μ a (it f_ty j s0)) := by
    intro G s0 v hG hx hp h37 hv m
    have e15 : ∀ j, (it f_ty j s0).1 15 = nI n := fun j => by
      rw [(ty_i j).1.1, hp.1 15 (Or.inl (by omega))]; exact hR.1.2.1
    induction m with
    | zero =>
      intro j hj
      obtain rfl : j = n := by omega
      refine x_iload_n (pc := 20) dX12_tidy_20 rfl ?_
      refine x_aload_n (pc := 21) dX12_tidy_21 rfl ?_
      refine m_getI (pc := 22) hM dX12_tidy_22 fk_12_106 (Or.inl rfl) ?_
      refine x_icmp_ge (pc := 25) (tgt := 46) dX12_tidy_25 rfl (fun h_25 => ?_) (fun h_25 => absurd (by rw [e15]; exact Int32.le_refl _) h_25)
      refine x_iload_n (pc := 46) dX12_tidy_46 rfl ?_
      refine x_ireturn (pc := 47) dX12_tidy_47 rfl rfl ?_
      refine ⟨_, rfl, Or.inr ⟨by rw [hx]; exact ⟨nI_pos' (by omega), nI_le (b := 15) (by omega) (by omega)⟩, by rw [hv, hx, nn_nI (by omega)], ⟨fun k hk => by rw [(ty_i j).1.1]; exact hp.1 k hk, fun k hk hne => by rw [(ty_i j).1.2.2 k hne]; exact hp.2 k hk⟩, fun i => ?_⟩⟩
      rw [(ty_i j).2 i, hx, nn_nI (by omega)]
      split
      · exact h37 i (by omega)
      · rw [hp.2 14 (Or.inl (by omega))]
    | succ m ih =>
      intro j hj
      refine x_iload_n (pc := 20) dX12_tidy_20 rfl ?_
      refine x_aload_n (pc := 21) dX12_tidy_21 rfl ?_
      refine m_getI (pc := 22) hM dX12_tidy_22 fk_12_106 (Or.inl rfl) ?_
      refine x_icmp_ge (pc := 25) (tgt := 46) dX12_tidy_25 rfl (fun h_25 => absurd h_25 (by rw [e15]; exact lit_le (n := n) j (by omega) (by omega))) (fun h_25 => ?_)
      refine x_aload_n (pc := 28) dX12_tidy_28 rfl ?_
      refine m_getR (pc := 29) hM dX12_tidy_29 fk_12_44 (Or.inr ⟨_, rfl⟩) (Or.inl (by decide)) ?_
      refine x_iload_n (pc := 32) dX12_tidy_32 rfl ?_
      refine x_aload_n (pc := 33) dX12_tidy_33 rfl ?_
      refine m_getR (pc := 34) hM dX12_tidy_34 fk_12_65 (Or.inr ⟨_, rfl⟩) (Or.inl (by decide)) ?_
      refine x_iload_n (pc := 37) dX12_tidy_37 rfl ?_
      refine m_iald (pc := 38) hM dX12_tidy_38 (rfl) (by show j < 5; omega) ?_
      refine m_iast (pc := 39) hM dX12_tidy_39 (rfl) (by show j < 5; omega) ?_
      refine x_iinc (pc := 40) (lv2 := [_, _, _, _]) dX12_tidy_40 (by decide) rfl rfl (nI_1 _) rfl ?_
      refine x_goto (pc := 43) (tgt := 20) dX12_tidy_43 rfl ?_
      exact ih (j + 1) (by omega)
  refine x_iload_n (pc := 0) dX12_tidy_0 rfl ?_
  refine x_callS (pc := 1) (As := [.int _]) dX12_tidy_1 mX12_areGuests lk_12_308 (c_areGuests _) rfl rfl (Nat.le_of_ble_eq_true rfl) ⟨by decide, by decide⟩ ⟨Nat.zero_le _, Nat.zero_le _⟩ (k_rt ?_)
  refine x_if_ne (pc := 4) (tgt := 10) dX12_tidy_4 rfl (fun h_4 => ?_) (fun h_4 => ?_)
  · obtain ⟨G, hG, rfl⟩ := ixB (n := 15) rfl (bi_n0 h_4) (by omega)
    refine x_aload_n (pc := 10) dX12_tidy_10 rfl ?_
    refine x_iload_n (pc := 11) dX12_tidy_11 rfl ?_
    refine x_iconst (pc := 12) (v := 5) dX12_tidy_12 rfl ?_
    refine x_iconst (pc := 13) (v := -1) dX12_tidy_13 rfl ?_
    refine x_callV (pc := 14) (As := [.int _, .int _, .int _]) dX12_tidy_14 mX12_best lk_12_324 hM.1 (c_bestO (M := 5) hM hR hO (by omega) (by decide) (Or.inl rfl)) rfl rfl (Nat.le_of_ble_eq_true rfl) ⟨by decide, by decide⟩ ⟨Nat.zero_le _, Nat.zero_le _⟩ (fun v μ2 hq => ?_)
    obtain ⟨s0, rfl, rfl, hp, h37⟩ := hq
    refine x_istore_n (pc := 17) (lv2 := [_, _, _, _]) dX12_tidy_17 (by decide) rfl rfl ?_
    refine x_iconst (pc := 18) (v := 0) dX12_tidy_18 rfl ?_
    refine x_istore_n (pc := 19) (lv2 := [_, _, _, _]) dX12_tidy_19 (by decide) rfl rfl ?_
    exact L G s0 _ (by omega) rfl hp h37 (by rw [if_pos rfl]) n 0 (by omega)
  · refine x_bipush (pc := 7) (v := -2) dX12_tidy_7 rfl ?_
    refine x_ireturn (pc := 9) dX12_tidy_9 rfl rfl ?_
    exact ⟨σ, rfl, Or.inl ⟨bi_0.mp h_4, rfl, rfl⟩⟩
def onV (D : PD) (n : Nat) (z : Int32) : Int32 := if z = -1 ∨ (0 ≤ z ∧ z ≤ nI n - 1) then (if z = -1 then nI (brC (onD D n)) else nI (brR (onD D n) (nn z)) - 1) else -100
def wkV (D : PD) (n : Nat) (z : Int32) : Int32 := if 0 ≤ z ∧ z ≤ 2 then (if z = 0 then nI (wkD D n 9 7).2.1 else if z = 1 then nI (wkD D n 9 7).2.2.1 else nI (wkD D n 9 7).2.2.2) else -2
theorem c_once (hM : MOK μ a) {D : PD} {n r m : Nat} (z : Int32) (hR : RR σ D n r m) : XM Γ zX12_once 52 0 0 [.ref a.1, .int z] (MV μ a σ) (fun v μ2 => ∃ s : MS, v = some (.int (onV D n z)) ∧ μ2 = MV μ a s ∧ pq σ s) := by
  refine XM.of 0 rfl (by decide) (Nat.le_of_ble_eq_true rfl) ?_
  have hn := hR.1.1.1
  have h15 := hR.1.2.1
  refine x_iload_n (pc := 0) dX12_once_0 rfl ?_
  refine x_iconst (pc := 1) (v := -1) dX12_once_1 rfl ?_
  refine x_icmp_eq (pc := 2) (tgt := 16) dX12_once_2 rfl (fun h_2 => ?_) (fun h_2 => ?_)
  · have hz : z = -1 ∨ (0 ≤ z ∧ z ≤ nI n - 1) := by
      first
        | exact Or.inl (by first | exact h_2 | exact Decidable.not_not.mp h_2)
        | exact Or.inr (by have := bi_n0 h_10; rwa [h15] at this)
    refine x_aload_n (pc := 16) dX12_once_16 rfl ?_
    refine x_callV (pc := 17) (As := []) dX12_once_17 mX12_gathers lk_12_311 hM.1 (c_gatherD hM hR) rfl rfl (Nat.le_of_ble_eq_true rfl) ⟨by decide, by decide⟩ ⟨Nat.zero_le _, Nat.zero_le _⟩ (fun v μ2 hq => ?_)
    obtain ⟨s, rfl, rfl, hg, h1, h2, h3⟩ := hq
    refine x_aload_n (pc := 20) dX12_once_20 rfl ?_
    refine x_callV (pc := 21) (As := []) dX12_once_21 mX12_seeksOnce lk_12_327 hM.1 (c_seeksOnce hM h1 h2 h3) rfl rfl (Nat.le_of_ble_eq_true rfl) ⟨by decide, by decide⟩ ⟨Nat.zero_le _, Nat.zero_le _⟩ (fun v μ2 hq => ?_)
    obtain ⟨s4, rfl, rfl, hs4, -, c38, c37⟩ := hq
    have hpq : pq σ s4 := (pq.gk hg).trans (pq.sq hs4)
    refine x_iload_n (pc := 24) dX12_once_24 rfl ?_
    refine x_iconst (pc := 25) (v := -1) dX12_once_25 rfl ?_
    refine x_icmp_ne (pc := 26) (tgt := 36) dX12_once_26 rfl (fun h_26 => ?_) (fun h_26 => ?_)
    · obtain ⟨j, hj, rfl⟩ := ixC (c := nI n) rfl (hz.resolve_left (by exact h_26)) (by omega)
      refine x_aload_n (pc := 36) dX12_once_36 rfl ?_
      refine m_getR (pc := 37) hM dX12_once_37 fk_12_65 (Or.inr ⟨_, rfl⟩) (Or.inl (by decide)) ?_
      refine x_iload_n (pc := 40) dX12_once_40 rfl ?_
      refine m_iald (pc := 41) hM dX12_once_41 (rfl) (by show j < 5; omega) ?_
      refine x_ireturn (pc := 42) dX12_once_42 rfl rfl ?_
      refine ⟨s4, ?_, rfl, hpq⟩
      unfold onV
      rw [if_pos hz]
      first
        | (rw [if_pos (by first | exact h_26 | exact Decidable.not_not.mp h_26), c38] <;> rfl)
        | (rw [if_neg (by exact h_26), nn_nI (by omega), c37 _ hj] <;> rfl)
    · refine x_aload_n (pc := 29) dX12_once_29 rfl ?_
      refine m_getI (pc := 30) hM dX12_once_30 fk_12_288 (Or.inl rfl) ?_
      refine x_goto (pc := 33) (tgt := 42) dX12_once_33 rfl ?_
      refine x_ireturn (pc := 42) dX12_once_42 rfl rfl ?_
      refine ⟨s4, ?_, rfl, hpq⟩
      unfold onV
      rw [if_pos hz]
      first
        | (rw [if_pos (by first | exact h_26 | exact Decidable.not_not.mp h_26), c38] <;> rfl)
        | (rw [if_neg (by exact h_26), nn_nI (by omega), c37 _ hj] <;> rfl)
  · refine x_aload_n (pc := 5) dX12_once_5 rfl ?_
    refine x_iload_n (pc := 6) dX12_once_6 rfl ?_
    refine x_callV (pc := 7) (As := [.int _]) dX12_once_7 mX12_isThing lk_12_123 hM.1 (c_isThing hM _) rfl rfl (Nat.le_of_ble_eq_true rfl) ⟨by decide, by decide⟩ ⟨Nat.zero_le _, Nat.zero_le _⟩ (k_rt ?_)
    refine x_if_ne (pc := 10) (tgt := 16) dX12_once_10 rfl (fun h_10 => ?_) (fun h_10 => ?_)
    · have hz : z = -1 ∨ (0 ≤ z ∧ z ≤ nI n - 1) := by
        first
          | exact Or.inl (by first | exact h_2 | exact Decidable.not_not.mp h_2)
          | exact Or.inr (by have := bi_n0 h_10; rwa [h15] at this)
      refine x_aload_n (pc := 16) dX12_once_16 rfl ?_
      refine x_callV (pc := 17) (As := []) dX12_once_17 mX12_gathers lk_12_311 hM.1 (c_gatherD hM hR) rfl rfl (Nat.le_of_ble_eq_true rfl) ⟨by decide, by decide⟩ ⟨Nat.zero_le _, Nat.zero_le _⟩ (fun v μ2 hq => ?_)
      obtain ⟨s, rfl, rfl, hg, h1, h2, h3⟩ := hq
      refine x_aload_n (pc := 20) dX12_once_20 rfl ?_
      refine x_callV (pc := 21) (As := []) dX12_once_21 mX12_seeksOnce lk_12_327 hM.1 (c_seeksOnce hM h1 h2 h3) rfl rfl (Nat.le_of_ble_eq_true rfl) ⟨by decide, by decide⟩ ⟨Nat.zero_le _, Nat.zero_le _⟩ (fun v μ2 hq => ?_)
      obtain ⟨s4, rfl, rfl, hs4, -, c38, c37⟩ := hq
      have hpq : pq σ s4 := (pq.gk hg).trans (pq.sq hs4)
      refine x_iload_n (pc := 24) dX12_once_24 rfl ?_
      refine x_iconst (pc := 25) (v := -1) dX12_once_25 rfl ?_
      refine x_icmp_ne (pc := 26) (tgt := 36) dX12_once_26 rfl (fun h_26 => ?_) (fun h_26 => ?_)
      · obtain ⟨j, hj, rfl⟩ := ixC (c := nI n) rfl (hz.resolve_left (by exact h_26)) (by omega)
        refine x_aload_n (pc := 36) dX12_once_36 rfl ?_
        refine m_getR (pc := 37) hM dX12_once_37 fk_12_65 (Or.inr ⟨_, rfl⟩) (Or.inl (by decide)) ?_
        refine x_iload_n (pc := 40) dX12_once_40 rfl ?_
        refine m_iald (pc := 41) hM dX12_once_41 (rfl) (by show j < 5; omega) ?_
        refine x_ireturn (pc := 42) dX12_once_42 rfl rfl ?_
        refine ⟨s4, ?_, rfl, hpq⟩
        unfold onV
        rw [if_pos hz]
        first
          | (rw [if_pos (by first | exact h_26 | exact Decidable.not_not.mp h_26), c38] <;> rfl)
          | (rw [if_neg (by exact h_26), nn_nI (by omega), c37 _ hj] <;> rfl)
      · refine x_aload_n (pc := 29) dX12_once_29 rfl ?_
        refine m_getI (pc := 30) hM dX12_once_30 fk_12_288 (Or.inl rfl) ?_
        refine x_goto (pc := 33) (tgt := 42) dX12_once_33 rfl ?_
        refine x_ireturn (pc := 42) dX12_once_42 rfl rfl ?_
        refine ⟨s4, ?_, rfl, hpq⟩
        unfold onV
        rw [if_pos hz]
        first
          | (rw [if_pos (by first | exact h_26 | exact Decidable.not_not.mp h_26), c38] <;> rfl)
          | (rw [if_neg (by exact h_26), nn_nI (by omega), c37 _ hj] <;> rfl)
    · refine x_bipush (pc := 13) (v := -100) dX12_once_13 rfl ?_
      refine x_ireturn (pc := 15) dX12_once_15 rfl rfl ?_
      exact ⟨σ, by unfold onV; rw [if_neg (by rintro (y | y); exact h_2 y; exact absurd (by rw [h15, bi_t y]) (show ¬ bi (0 ≤ z ∧ z ≤ σ.1 15 - 1) = 1 by rw [h_10]; decide))], rfl, pq.rf⟩
theorem c_week (hM : MOK μ a) {D : PD} {n r m : Nat} (z : Int32) (hR : RR σ D n r m) : XM Γ zX12_week 52 0 0 [.ref a.1, .int z] (MV μ a σ) (fun v μ2 => ∃ s : MS, v = some (.int (wkV D n z)) ∧ μ2 = MV μ a s ∧ pq σ s) := by
  refine XM.of 0 rfl (by decide) (Nat.le_of_ble_eq_true rfl) ?_
  refine x_iload_n (pc := 0) dX12_week_0 rfl ?_
  refine x_i2l (pc := 1) dX12_week_1 ?_
  refine x_lconst (pc := 2) (v := 0) dX12_week_2 rfl ?_
  refine x_ldc2 (pc := 3) dX12_week_3 kc_12_339 ?_
  refine x_callS (pc := 6) (As := [.long _, .long _, .long _]) dX12_week_6 mX12_in lk_12_109 (c_inI 0 2) rfl rfl (Nat.le_of_ble_eq_true rfl) ⟨by decide, by decide⟩ ⟨Nat.zero_le _, Nat.zero_le _⟩ (k_rt ?_)
  refine x_if_ne (pc := 9) (tgt := 15) dX12_week_9 rfl (fun h_9 => ?_) (fun h_9 => ?_)
  · refine x_aload_n (pc := 15) dX12_week_15 rfl ?_
    refine x_callV (pc := 16) (As := []) dX12_week_16 mX12_gathers lk_12_311 hM.1 (c_gatherD hM hR) rfl rfl (Nat.le_of_ble_eq_true rfl) ⟨by decide, by decide⟩ ⟨Nat.zero_le _, Nat.zero_le _⟩ (fun v μ2 hq => ?_)
    obtain ⟨s, rfl, rfl, hg, h1, h2, h3⟩ := hq
    refine x_aload_n (pc := 19) dX12_week_19 rfl ?_
    refine x_callV (pc := 20) (As := []) dX12_week_20 mX12_weeks lk_12_341 hM.1 (c_weeks (aw := 9) hM h1 h2 h3) rfl rfl (Nat.le_of_ble_eq_true rfl) ⟨by decide, by decide⟩ ⟨Nat.zero_le _, Nat.zero_le _⟩ (fun v μ2 hq => ?_)
    obtain ⟨s4, rfl, rfl, hs4, c43, c44, c45⟩ := hq
    have hpq : pq σ s4 := (pq.gk hg).trans (pq.sq hs4)
    refine x_iload_n (pc := 23) dX12_week_23 rfl ?_
    refine x_if_ne (pc := 24) (tgt := 34) dX12_week_24 rfl (fun h_24 => ?_) (fun h_24 => ?_)
    · refine x_iload_n (pc := 34) dX12_week_34 rfl ?_
      refine x_iconst (pc := 35) (v := 1) dX12_week_35 rfl ?_
      refine x_icmp_ne (pc := 36) (tgt := 46) dX12_week_36 rfl (fun h_36 => ?_) (fun h_36 => ?_)
      · refine x_aload_n (pc := 46) dX12_week_46 rfl ?_
        refine m_getI (pc := 47) hM dX12_week_47 fk_12_336 (Or.inl rfl) ?_
        refine x_ireturn (pc := 50) dX12_week_50 rfl rfl ?_
        refine ⟨s4, ?_, rfl, hpq⟩
        unfold wkV
        rw [if_pos (bi_n0 h_9)]
        first
          | (rw [if_pos (by first | exact h_24 | exact Decidable.not_not.mp h_24), c43] <;> rfl)
          | (rw [if_neg (by exact h_24), if_pos (by first | exact h_36 | exact Decidable.not_not.mp h_36), c44] <;> rfl)
          | (rw [if_neg (by exact h_24), if_neg (by exact h_36), c45] <;> rfl)
      · refine x_aload_n (pc := 39) dX12_week_39 rfl ?_
        refine m_getI (pc := 40) hM dX12_week_40 fk_12_333 (Or.inl rfl) ?_
        refine x_goto (pc := 43) (tgt := 50) dX12_week_43 rfl ?_
        refine x_ireturn (pc := 50) dX12_week_50 rfl rfl ?_
        refine ⟨s4, ?_, rfl, hpq⟩
        unfold wkV
        rw [if_pos (bi_n0 h_9)]
        first
          | (rw [if_pos (by first | exact h_24 | exact Decidable.not_not.mp h_24), c43] <;> rfl)
          | (rw [if_neg (by exact h_24), if_pos (by first | exact h_36 | exact Decidable.not_not.mp h_36), c44] <;> rfl)
          | (rw [if_neg (by exact h_24), if_neg (by exact h_36), c45] <;> rfl)
    · refine x_aload_n (pc := 27) dX12_week_27 rfl ?_
      refine m_getI (pc := 28) hM dX12_week_28 fk_12_330 (Or.inl rfl) ?_
      refine x_goto (pc := 31) (tgt := 50) dX12_week_31 rfl ?_
      refine x_ireturn (pc := 50) dX12_week_50 rfl rfl ?_
      refine ⟨s4, ?_, rfl, hpq⟩
      unfold wkV
      rw [if_pos (bi_n0 h_9)]
      first
        | (rw [if_pos (by first | exact h_24 | exact Decidable.not_not.mp h_24), c43] <;> rfl)
        | (rw [if_neg (by exact h_24), if_pos (by first | exact h_36 | exact Decidable.not_not.mp h_36), c44] <;> rfl)
        | (rw [if_neg (by exact h_24), if_neg (by exact h_36), c45] <;> rfl)
  · refine x_bipush (pc := 12) (v := -2) dX12_week_12 rfl ?_
    refine x_ireturn (pc := 14) dX12_week_14 rfl rfl ?_
    exact ⟨σ, by unfold wkV; rw [if_neg (bi_0.mp h_9)], rfl, pq.rf⟩
end M55
