/-! the reference: film; its making -/
theorem sh_i {b : Nat} {σ : MS} : ∀ k, but 55 σ (it (f_sh b) k σ) ∧ ∀ j, (j < b ∨ b + k ≤ j) → (it (f_sh b) k σ).2.2 55 j = σ.2.2 55 j
  | 0 => ⟨but.rf, fun _ _ => rfl⟩
  | k + 1 => by
    obtain ⟨h1, h2⟩ := sh_i (b := b) (σ := σ) k
    refine ⟨h1.tA, fun j hj => ?_⟩
    show up2 _ 55 _ _ 55 _ = _
    rw [up2_n (Or.inr (by omega)), h2 j (by omega)]
def f_fm (b : Nat) : Nat → MS → MS := fun j s => tA s 55 (b + j) (s.2.2 37 j)
theorem fm_i {b : Nat} {σ : MS} : ∀ k, but 55 σ (it (f_fm b) k σ) ∧ ∀ j, (it (f_fm b) k σ).2.2 55 j = if b ≤ j ∧ j < b + k then σ.2.2 37 (j - b) else σ.2.2 55 j
  | 0 => ⟨but.rf, fun j => by rw [if_neg (by omega)]; rfl⟩
  | k + 1 => by
    obtain ⟨h1, h2⟩ := fm_i (b := b) (σ := σ) k
    refine ⟨h1.tA, fun j => ?_⟩
    show up2 _ 55 _ _ 55 _ = _
    by_cases q : j = b + k
    · subst q
      rw [up2_s, h1.2.2 37 (by decide), if_pos (by omega), show b + k - b = k by omega]
    · rw [up2_n (Or.inr q), h2]
      by_cases q2 : b ≤ j ∧ j < b + k
      · rw [if_pos q2, if_pos (by omega)]
      · rw [if_neg q2, if_neg (by omega)]
theorem shB_a {σ : MS} {q : Nat} {k n : Int32} (hq : q < 4) : (∀ i, (shB σ (nI q) k n).2.2 52 i = if i = q then (if 0 ≤ k then 1 else 0) else σ.2.2 52 i) ∧ (∀ i, (shB σ (nI q) k n).2.2 53 i = if i = q then k else σ.2.2 53 i) ∧ (∀ i, (shB σ (nI q) k n).2.2 54 i = if i = q then n else σ.2.2 54 i) ∧ (∀ j, j ≠ 52 → j ≠ 53 → j ≠ 54 → (shB σ (nI q) k n).2.2 j = σ.2.2 j) ∧ (shB σ (nI q) k n).1 = σ.1 := by
  have U : ∀ (k0 : Nat) (v : Int32) (f : Nat → Nat → Int32) (i : Nat), up2 f k0 q v k0 i = if i = q then v else f k0 i := fun k0 v f i => by
    by_cases hi : i = q
    · rw [if_pos hi, hi, up2_s]
    · rw [if_neg hi, up2_n (Or.inr hi)]
  have e : shB σ (nI q) k n = tA (tA (tA σ 52 q (if 0 ≤ k then 1 else 0)) 53 q k) 54 q n := by
    unfold shB
    rw [nn_nI (by omega)]
  rw [e]
  refine ⟨fun i => ?_, fun i => ?_, fun i => ?_, fun j h1 h2 h3 => by rw [tA_n h3, tA_n h2, tA_n h1], rfl⟩
  · rw [tA_n (by decide), tA_n (by decide)]
    exact U _ _ _ _
  · rw [tA_n (by decide)]
    show up2 (tA σ 52 q (if 0 ≤ k then 1 else 0)).2.2 53 q k 53 i = _
    rw [U, tA_n (by decide)]
  · show up2 (tA (tA σ 52 q (if 0 ≤ k then 1 else 0)) 53 q k).2.2 54 q n 54 i = _
    rw [U, tA_n (by decide), tA_n (by decide)]
/-- sheet q holds the room -/
def FM (σ : MS) (n q : Nat) (room : Nat → Nat) (s : MS) : Prop := (∀ k, pk k → s.1 k = σ.1 k) ∧ (∀ k, pa k → k < 52 → s.2.2 k = σ.2.2 k) ∧ (∀ i, s.2.2 52 i = if i = q then 1 else σ.2.2 52 i) ∧ (∀ i, s.2.2 53 i = if i = q then 0 else σ.2.2 53 i) ∧ (∀ i, s.2.2 54 i = if i = q then nI n else σ.2.2 54 i) ∧ ∀ j, (40 * q ≤ j ∧ j < 40 * q + n → s.2.2 55 j = nI (room (j - 40 * q)) - 1) ∧ (j < 40 * q ∨ 40 * q + n ≤ j → s.2.2 55 j = σ.2.2 55 j)
section M60
variable {Γ : Gm} {μ : Mem} {a : Ma} {σ : MS}
theorem c_film (hM : MOK μ a) {D : PD} {n r m : Nat} (x y : Int32) (hR : RR σ D n r m) (hO : roomOk D n) : XM Γ zX12_film 53 0 0 [.ref a.1, .int x, .int y] (MV μ a σ) (fun v μ2 => ∃ s : MS, μ2 = MV μ a s ∧ ((¬ ((0 ≤ x ∧ x ≤ 3) ∧ (0 ≤ y ∧ y ≤ 15)) ∧ v = some (.int (-2)) ∧ s = σ) ∨ ((0 ≤ x ∧ x ≤ 3) ∧ (0 ≤ y ∧ y ≤ 15) ∧ v = some (.int (nI n)) ∧ FM σ n (nn x) (brR (beD D n (nn y) 5)) s))) := by
  refine XM.of 1 rfl (by decide) (Nat.le_of_ble_eq_true rfl) ?_
  have hn := hR.1.1.1
  have h15 := hR.1.2.1
  have L : ∀ (q G : Nat) (s0 : MS), q < 4 → G < 16 → x = nI q → y = nI G → pq σ s0 → (∀ i, i < n → s0.2.2 37 i = nI (brR (beD D n G 5) i) - 1) → ∀ (m j : Nat), j + m = n → WA Γ zX12_film (xrm 53 0 0) 0 0 0 0 (fun v μ2 => ∃ s : MS, μ2 = MV μ a s ∧ ((¬ ((0 ≤ x ∧ x ≤ 3) ∧ (0 ≤ y ∧ y ≤ 15)) ∧ v = some (.int (-2)) ∧ s = σ) ∨ ((0 ≤ x ∧ x ≤ 3) ∧ (0 ≤ y ∧ y ≤ 15) ∧ v = some (.int (nI n)) ∧ FM σ n (nn x) (brR (beD D n (nn y) 5)) s))) 38 [some (.ref a.1), some (.int x), some (.int y), some (.int (nI j))] [] (MV μ a (it (f_fm (40 * q)) j (it (f_sh (40 * q)) n (shB s0 (nI q) 0 (nI n))))) := by
    intro q G s0 hq hG hx hy hp h37 m
    have hs := sh_i (b := 40 * q) (σ := shB s0 (nI q) 0 (nI n)) n
    have e15 : ∀ j, (it (f_fm (40 * q)) j (it (f_sh (40 * q)) n (shB s0 (nI q) 0 (nI n)))).1 15 = nI n := fun j => by
      rw [(fm_i j).1.1, hs.1.1]
      exact (hp.1 15 (Or.inl (by omega))).trans h15
    induction m with
    | zero =>
      intro j hj
      obtain rfl : j = n := by omega
      refine x_iload_n (pc := 38) dX12_film_38 rfl ?_
      refine x_aload_n (pc := 39) dX12_film_39 rfl ?_
      refine m_getI (pc := 40) hM dX12_film_40 fk_12_106 (Or.inl rfl) ?_
      refine x_icmp_ge (pc := 43) (tgt := 69) dX12_film_43 rfl (fun h_43 => ?_) (fun h_43 => absurd (by rw [e15]; exact Int32.le_refl _) h_43)
      refine x_aload_n (pc := 69) dX12_film_69 rfl ?_
      refine m_getI (pc := 70) hM dX12_film_70 fk_12_106 (Or.inl rfl) ?_
      rw [e15]
      refine x_ireturn (pc := 73) dX12_film_73 rfl rfl ?_
      have hf := fm_i (b := 40 * q) (σ := it (f_sh (40 * q)) j (shB s0 (nI q) 0 (nI j))) j
      refine ⟨_, rfl, Or.inr ⟨by rw [hx]; exact ⟨nI_pos' (by omega), nI_le (b := 3) (by omega) (by omega)⟩, by rw [hy]; exact ⟨nI_pos' (by omega), nI_le (b := 15) (by omega) (by omega)⟩, rfl, ?_⟩⟩
      rw [hx, hy, nn_nI (by omega), nn_nI (by omega)]
      obtain ⟨u1, u2, u3, u4, u5⟩ := shB_a (σ := s0) (k := 0) (n := nI j) hq
      refine ⟨fun k hk => ?_, fun k hk h52 => ?_, fun i => ?_, fun i => ?_, fun i => ?_, fun i => ⟨fun hi => ?_, fun hi => ?_⟩⟩
      · rw [hf.1.1, hs.1.1, u5]; exact hp.1 k hk
      · rw [hf.1.2.2 k (by omega), hs.1.2.2 k (by omega), u4 k (by omega) (by omega) (by omega)]
        exact hp.2 k hk
      · rw [hf.1.2.2 52 (by decide), hs.1.2.2 52 (by decide), u1, hp.2 52 (by unfold pa; omega)]
        rfl
      · rw [hf.1.2.2 53 (by decide), hs.1.2.2 53 (by decide), u2, hp.2 53 (by unfold pa; omega)]
      · rw [hf.1.2.2 54 (by decide), hs.1.2.2 54 (by decide), u3, hp.2 54 (by unfold pa; omega)]
      · rw [hf.2, if_pos hi, hs.1.2.2 37 (by decide), u4 37 (by decide) (by decide) (by decide), h37 _ (by omega)]
      · rw [hf.2, if_neg (by omega), hs.2 i hi, u4 55 (by decide) (by decide) (by decide), hp.2 55 (by unfold pa; omega)]
    | succ m ih =>
      intro j hj
      refine x_iload_n (pc := 38) dX12_film_38 rfl ?_
      refine x_aload_n (pc := 39) dX12_film_39 rfl ?_
      refine m_getI (pc := 40) hM dX12_film_40 fk_12_106 (Or.inl rfl) ?_
      refine x_icmp_ge (pc := 43) (tgt := 69) dX12_film_43 rfl (fun h_43 => absurd h_43 (by rw [e15]; exact lit_le j (by omega) (by omega))) (fun h_43 => ?_)
      refine x_aload_n (pc := 46) dX12_film_46 rfl ?_
      refine m_getR (pc := 47) hM dX12_film_47 fk_12_96 (Or.inr ⟨_, rfl⟩) (Or.inl (by decide)) ?_
      refine x_bipush (pc := 50) (v := 40) dX12_film_50 rfl ?_
      refine x_iload_n (pc := 52) dX12_film_52 rfl ?_
      refine x_imul (pc := 53) dX12_film_53 ?_
      refine x_iload_n (pc := 54) dX12_film_54 rfl ?_
      refine x_iadd (pc := 55) dX12_film_55 ?_
      refine x_aload_n (pc := 56) dX12_film_56 rfl ?_
      refine m_getR (pc := 57) hM dX12_film_57 fk_12_65 (Or.inr ⟨_, rfl⟩) (Or.inl (by decide)) ?_
      refine x_iload_n (pc := 60) dX12_film_60 rfl ?_
      refine m_iald (pc := 61) hM dX12_film_61 (rfl) (by show j < 5; omega) ?_
      refine m_iast (pc := 62) hM dX12_film_62 (by rw [hx]; exact i40 q j) (by show 40 * q + j < 160; omega) ?_
      refine x_iinc (pc := 63) (lv2 := [_, _, _, _]) dX12_film_63 (by decide) rfl rfl (nI_1 _) rfl ?_
      refine x_goto (pc := 66) (tgt := 38) dX12_film_66 rfl ?_
      exact ih (j + 1) (by omega)
  refine x_iload_n (pc := 0) dX12_film_0 rfl ?_
  refine x_callS (pc := 1) (As := [.int _]) dX12_film_1 mX12_isSheet lk_12_352 (c_isSheet _) rfl rfl (Nat.le_of_ble_eq_true rfl) ⟨by decide, by decide⟩ ⟨Nat.zero_le _, Nat.zero_le _⟩ (k_rt ?_)
  refine x_if_eq (pc := 4) (tgt := 14) dX12_film_4 rfl (fun h_4 => ?_) (fun h_4 => ?_)
  · refine x_bipush (pc := 14) (v := -2) dX12_film_14 rfl ?_
    refine x_ireturn (pc := 16) dX12_film_16 rfl rfl ?_
    refine ⟨σ, rfl, Or.inl ⟨?_, rfl, rfl⟩⟩
    rintro ⟨q1, q2⟩
    first
      | exact absurd h_4 (by rw [bi_t q1]; decide)
      | exact absurd h_11 (by rw [bi_t q2]; decide)
  · refine x_iload_n (pc := 7) dX12_film_7 rfl ?_
    refine x_callS (pc := 8) (As := [.int _]) dX12_film_8 mX12_areGuests lk_12_308 (c_areGuests _) rfl rfl (Nat.le_of_ble_eq_true rfl) ⟨by decide, by decide⟩ ⟨Nat.zero_le _, Nat.zero_le _⟩ (k_rt ?_)
    refine x_if_ne (pc := 11) (tgt := 17) dX12_film_11 rfl (fun h_11 => ?_) (fun h_11 => ?_)
    · obtain ⟨q, hq, hx⟩ := i3 (bi_n0 h_4)
      obtain ⟨G, hG, hy⟩ := ixB (n := 15) rfl (bi_n0 h_11) (by omega)
      refine x_aload_n (pc := 17) dX12_film_17 rfl ?_
      refine x_iload_n (pc := 18) dX12_film_18 rfl ?_
      refine x_iconst (pc := 19) (v := 5) dX12_film_19 rfl ?_
      refine x_iconst (pc := 20) (v := -1) dX12_film_20 rfl ?_
      rw [hy]
      refine x_callV (pc := 21) (As := [.int _, .int _, .int _]) dX12_film_21 mX12_best lk_12_324 hM.1 (c_bestO (M := 5) hM hR hO (by omega) (by decide) (Or.inl rfl)) rfl rfl (Nat.le_of_ble_eq_true rfl) ⟨by decide, by decide⟩ ⟨Nat.zero_le _, Nat.zero_le _⟩ (fun v μ2 hq => ?_)
      obtain ⟨s0, rfl, rfl, hp, h37⟩ := hq
      refine x_pop (pc := 24) dX12_film_24 rfl ?_
      refine x_aload_n (pc := 25) dX12_film_25 rfl ?_
      refine x_iload_n (pc := 26) dX12_film_26 rfl ?_
      refine x_iconst (pc := 27) (v := 0) dX12_film_27 rfl ?_
      refine x_aload_n (pc := 28) dX12_film_28 rfl ?_
      skip
      refine m_getI (pc := 29) hM dX12_film_29 fk_12_106 (Or.inl rfl) ?_
      rw [show s0.1 15 = nI n from (hp.1 15 (Or.inl (by omega))).trans h15]
      refine x_callV (pc := 32) (As := [.int _, .int _, .int _]) dX12_film_32 mX12_sheet lk_12_361 hM.1 (c_sheet hM _ _ _) rfl rfl (Nat.le_of_ble_eq_true rfl) ⟨by decide, by decide⟩ ⟨Nat.zero_le _, Nat.zero_le _⟩ (k_rt ?_)
      have eSh : (shR s0 x 0 (nI n)).2 = it (f_sh (40 * q)) n (shB s0 (nI q) 0 (nI n)) := by
        unfold shR
        rw [hx, if_neg (by
          rintro (z | z | z)
          · exact z ⟨nI_pos' (by omega), nI_le (b := 3) (by omega) (by omega)⟩
          · exact z (by decide)
          · exact absurd z.2 (Int32.not_lt.mpr (nI_le (b := 40) (by omega) (by omega)))), if_neg (by
          rintro ⟨-, z⟩
          exact nI_pos (by omega) z), if_pos (by decide), nn_nI (by omega), nn_nI (by omega)]
      refine x_pop (pc := 35) dX12_film_35 rfl ?_
      refine x_iconst (pc := 36) (v := 0) dX12_film_36 rfl ?_
      refine x_istore_n (pc := 37) (lv2 := [_, _, _, _]) dX12_film_37 (by decide) rfl rfl ?_
      rw [eSh, ← hy]
      exact L q G s0 hq (by omega) hx hy hp h37 n 0 (by omega)
    · refine x_bipush (pc := 14) (v := -2) dX12_film_14 rfl ?_
      refine x_ireturn (pc := 16) dX12_film_16 rfl rfl ?_
      refine ⟨σ, rfl, Or.inl ⟨?_, rfl, rfl⟩⟩
      rintro ⟨q1, q2⟩
      first
        | exact absurd h_4 (by rw [bi_t q1]; decide)
        | exact absurd h_11 (by rw [bi_t q2]; decide)
end M60
