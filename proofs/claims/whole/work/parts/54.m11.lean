/-! the reference: seeks for one day, once, by weeks -/
def sf (σ s : MS) : Prop := (∀ k, k ≠ 38 → k ≠ 39 → k ≠ 40 → k ≠ 42 → s.1 k = σ.1 k) ∧ s.2.1 = σ.2.1 ∧ ∀ k, k ≠ 34 → k ≠ 36 → k ≠ 37 → s.2.2 k = σ.2.2 k
theorem sf.sq {σ s : MS} (h : sf σ s) : sq σ s := ⟨fun k hk => h.1 k (by omega) (by omega) (by omega) (by omega), h.2.1, fun k hk => h.2.2 k (by omega) (by omega) (by omega)⟩
theorem sf.rf {σ : MS} : sf σ σ := ⟨fun _ _ _ _ _ => rfl, rfl, fun _ _ _ _ => rfl⟩
theorem sf.trans {σ s s' : MS} (h : sf σ s) (h2 : sf s s') : sf σ s' := ⟨fun k h1 h3 h4 h5 => (h2.1 k h1 h3 h4 h5).trans (h.1 k h1 h3 h4 h5), h2.2.1.trans h.2.1, fun k h1 h3 h4 => (h2.2.2 k h1 h3 h4).trans (h.2.2 k h1 h3 h4)⟩
theorem sf.gq {σ s : MS} (h : gq σ s) : sf σ s := ⟨fun k h1 h2 _ _ => h.1 k h1 h2, h.2.1, fun k _ h2 h3 => h.2.2 k h2 h3⟩
theorem sf.tI {σ s : MS} {k0 : Nat} {v : Int32} (h : sf σ s) (hk : k0 = 38 ∨ k0 = 39 ∨ k0 = 40 ∨ k0 = 42) : sf σ (tI s k0 v) := ⟨fun k h1 h2 h3 h4 => by
  rw [← h.1 k h1 h2 h3 h4]
  exact va_up_n (by omega), h.2.1, h.2.2⟩
theorem sf.but {σ s s' : MS} (h : sf σ s) (hb : but 34 s s') : sf σ s' := ⟨fun k h1 h2 h3 h4 => by rw [hb.1]; exact h.1 k h1 h2 h3 h4, hb.2.1.trans h.2.1, fun k h1 h2 h3 => by rw [hb.2.2 k h1]; exact h.2.2 k h1 h2 h3⟩
theorem bg_st {σ : MS} (D : PD) {n : Nat} (hn : n ≤ 5) : sf σ (it f_bg 35 (tI σ 39 0)) ∧ ftab (it f_bg 35 (tI σ 39 0)) D n [] ∧ (it f_bg 35 (tI σ 39 0)).1 39 = 0 := by
  obtain ⟨h1, h2⟩ := bg_0 (s := tI σ 39 0) 35
  refine ⟨(sf.rf.tI (Or.inr (Or.inl rfl))).but h2, fun t ht k hk => ?_, by rw [h2.1]; rfl⟩
  rw [h1 _ (by omega)]
  rfl
theorem ad_st {σ s : MS} {D : PD} {n G : Nat} {L : List Nat} (h : RD σ D n) (hg : RG σ D n) (hG : G < 16) (hs : sf σ s) (h39 : s.1 39 = 0) (hf : ftab s D n L) : sf σ (it (f_aD G) n s) ∧ (it (f_aD G) n s).1 39 = 0 ∧ ftab (it (f_aD G) n s) D n (G :: L) := by
  have h2 := h.sq hs.sq
  have g2 := hg.sq hs.sq
  have hb := (aD_i h2 g2 hG n (Nat.le_refl n)).1
  exact ⟨hs.but hb, by rw [hb.1]; exact h39, ftab_add h2 g2 hG hf⟩
/-- what a search leaves -/
def SQ (σ : MS) (n : Nat) (b : BR) (s : MS) : Prop := sf σ s ∧ s.1 38 = nI (brC b) ∧ ∀ i, i < n → s.2.2 37 i = nI (brR b i) - 1
/-- from where, for the search -/
def SW (σ : MS) (n aw : Nat) (was : Nat → Nat) : Prop := σ.1 35 = awI aw ∧ ∀ t, t < n → t ≠ aw → was t < 7 ∧ σ.2.2 41 t = nI (was t) - 1
theorem SW.sf {σ s : MS} {n aw : Nat} {was : Nat → Nat} (h : SW σ n aw was) (q : sf σ s) : SW s n aw was := by
  unfold SW at h ⊢
  rw [q.1 35 (by decide) (by decide) (by decide) (by decide), q.2.2 41 (by decide) (by decide) (by decide)]
  exact h
section M54
variable {Γ : Gm} {μ : Mem} {a : Ma} {σ : MS}
/-- going through, from where the tables are full -/
theorem c_goesF (hM : MOK μ a) {σ s : MS} {D : PD} {n M aw : Nat} {L : List Nat} {was : Nat → Nat} {ct : Bool} {m c : Int32} (h : RD σ D n) (hg : RG σ D n) (hW : SW σ n aw was) (hs : sf σ s) (h39 : s.1 39 = 0) (hf : ftab s D n L) (hm : m = nI M) (hc : c = if ct = true then 1 else 0) (hM5 : M ≤ 5) (haw : aw < n → n ≤ M) (hL : okL L) (hL7 : L.length ≤ 7) (hne : bsD D n L was aw ct M ≠ none) : XM Γ zX12_goesThrough 8 0 0 [.ref a.1, .int 0, .int 0, .int 0, .int 0] (MV μ a (tI (tI s 42 c) 40 m)) (fun v μ2 => ∃ s' : MS, v = none ∧ μ2 = MV μ a s' ∧ SQ σ n (bsD D n L was aw ct M) s') := by
  have hs3 : sf σ (tI (tI s 42 c) 40 m) := (hs.tI (Or.inr (Or.inr (Or.inr rfl)))).tI (Or.inr (Or.inr (Or.inl rfl)))
  have hW3 := hW.sf hs3
  refine XM_post (c_goes0 hM (h.sq hs3.sq) (hg.sq hs3.sq) hf hW3.1 (h39 : (tI (tI s 42 c) 40 m).1 39 = 0) hm hM5 hc hW3.2 haw hL hL7) (fun v μ2 q => ?_)
  obtain ⟨s', e1, e2, q1, q2⟩ := q
  exact ⟨s', e1, e2, hs3.trans (sf.gq q1), q2.get hne⟩
theorem okL1 {G : Nat} (h : G < 16) : okL [G] := fun x hx => by
  rw [List.mem_singleton.mp hx]; exact h
theorem c_seeksFor (hM : MOK μ a) {D : PD} {n G M aw : Nat} {was : Nat → Nat} (h : RD σ D n) (hg : RG σ D n) (hW : SW σ n aw was) (hG : G < 16) (hM5 : M ≤ 5) (haw : aw < n → n ≤ M) (hne : bsD D n [G] was aw true M ≠ none) : XM Γ zX12_seeksFor 9 0 0 [.ref a.1, .int (nI G), .int (nI M)] (MV μ a σ) (fun v μ2 => ∃ s : MS, v = none ∧ μ2 = MV μ a s ∧ SQ σ n (bsD D n [G] was aw true M) s) := by
  refine XM.of 0 rfl (by decide) (Nat.le_of_ble_eq_true rfl) ?_
  obtain ⟨b1, b2, b3⟩ := bg_st (σ := σ) D h.1.1
  obtain ⟨a1, a2, a3⟩ := ad_st h hg hG b1 b3 b2
  refine x_aload_n (pc := 0) dX12_seeksFor_0 rfl ?_
  refine x_callV (pc := 1) (As := []) dX12_seeksFor_1 mX12_begins lk_12_301 hM.1 (c_begins hM) rfl rfl (Nat.le_of_ble_eq_true rfl) ⟨by decide, by decide⟩ ⟨Nat.zero_le _, Nat.zero_le _⟩ (k_rv ?_)
  refine x_aload_n (pc := 4) dX12_seeksFor_4 rfl ?_
  refine x_iload_n (pc := 5) dX12_seeksFor_5 rfl ?_
  refine x_callV (pc := 6) (As := [.int _]) dX12_seeksFor_6 mX12_addsDay lk_12_304 hM.1 (c_addsDay hM hG (b1.sq.1 15 (by omega) |>.trans h.2.1) h.1.1 (h.sq b1.sq).gv) rfl rfl (Nat.le_of_ble_eq_true rfl) ⟨by decide, by decide⟩ ⟨Nat.zero_le _, Nat.zero_le _⟩ (k_rv ?_)
  refine x_aload_n (pc := 9) dX12_seeksFor_9 rfl ?_
  refine x_iconst (pc := 10) (v := 1) dX12_seeksFor_10 rfl ?_
  refine m_putI (pc := 11) hM dX12_seeksFor_11 fk_12_298 rfl (Or.inr ⟨rfl, Or.inr rfl⟩) ?_
  refine x_aload_n (pc := 14) dX12_seeksFor_14 rfl ?_
  refine x_iload_n (pc := 15) dX12_seeksFor_15 rfl ?_
  refine m_putI (pc := 16) hM dX12_seeksFor_16 fk_12_295 rfl (Or.inl rfl) ?_
  refine x_aload_n (pc := 19) dX12_seeksFor_19 rfl ?_
  refine x_iconst (pc := 20) (v := 0) dX12_seeksFor_20 rfl ?_
  refine x_iconst (pc := 21) (v := 0) dX12_seeksFor_21 rfl ?_
  refine x_iconst (pc := 22) (v := 0) dX12_seeksFor_22 rfl ?_
  refine x_iconst (pc := 23) (v := 0) dX12_seeksFor_23 rfl ?_
  refine x_callV (pc := 24) (As := [.int _, .int _, .int _, .int _]) dX12_seeksFor_24 mX12_goesThrough lk_12_291 hM.1 (c_goesF (ct := true) hM h hg hW a1 a2 a3 rfl rfl hM5 haw (okL1 hG) (by show 1 ≤ 7; omega) hne) rfl rfl (Nat.le_of_ble_eq_true rfl) ⟨by decide, by decide⟩ ⟨Nat.zero_le _, Nat.zero_le _⟩ (fun v μ2 hq => ?_)
  obtain ⟨s, rfl, rfl, hs⟩ := hq
  refine x_return (pc := 27) dX12_seeksFor_27 rfl ?_
  exact ⟨s, rfl, rfl, hs⟩
theorem c_leastBad (hM : MOK μ a) {D : PD} {n G aw : Nat} {was : Nat → Nat} (h : RD σ D n) (hg : RG σ D n) (hW : SW σ n aw was) (hG : G < 16) : XM Γ zX12_leastBad 9 0 0 [.ref a.1, .int (nI G)] (MV μ a σ) (fun v μ2 => ∃ s : MS, v = some (.int (nI (brC (bsD D n [G] was aw false 5)))) ∧ μ2 = MV μ a s ∧ SQ σ n (bsD D n [G] was aw false 5) s) := by
  refine XM.of 0 rfl (by decide) (Nat.le_of_ble_eq_true rfl) ?_
  obtain ⟨b1, b2, b3⟩ := bg_st (σ := σ) D h.1.1
  obtain ⟨a1, a2, a3⟩ := ad_st h hg hG b1 b3 b2
  refine x_aload_n (pc := 0) dX12_leastBad_0 rfl ?_
  refine x_callV (pc := 1) (As := []) dX12_leastBad_1 mX12_begins lk_12_301 hM.1 (c_begins hM) rfl rfl (Nat.le_of_ble_eq_true rfl) ⟨by decide, by decide⟩ ⟨Nat.zero_le _, Nat.zero_le _⟩ (k_rv ?_)
  refine x_aload_n (pc := 4) dX12_leastBad_4 rfl ?_
  refine x_iload_n (pc := 5) dX12_leastBad_5 rfl ?_
  refine x_callV (pc := 6) (As := [.int _]) dX12_leastBad_6 mX12_addsDay lk_12_304 hM.1 (c_addsDay hM hG (b1.sq.1 15 (by omega) |>.trans h.2.1) h.1.1 (h.sq b1.sq).gv) rfl rfl (Nat.le_of_ble_eq_true rfl) ⟨by decide, by decide⟩ ⟨Nat.zero_le _, Nat.zero_le _⟩ (k_rv ?_)
  refine x_aload_n (pc := 9) dX12_leastBad_9 rfl ?_
  refine x_iconst (pc := 10) (v := 0) dX12_leastBad_10 rfl ?_
  refine m_putI (pc := 11) hM dX12_leastBad_11 fk_12_298 rfl (Or.inr ⟨rfl, Or.inl rfl⟩) ?_
  refine x_aload_n (pc := 14) dX12_leastBad_14 rfl ?_
  refine x_iconst (pc := 15) (v := 5) dX12_leastBad_15 rfl ?_
  refine m_putI (pc := 16) hM dX12_leastBad_16 fk_12_295 rfl (Or.inl rfl) ?_
  refine x_aload_n (pc := 19) dX12_leastBad_19 rfl ?_
  refine x_iconst (pc := 20) (v := 0) dX12_leastBad_20 rfl ?_
  refine x_iconst (pc := 21) (v := 0) dX12_leastBad_21 rfl ?_
  refine x_iconst (pc := 22) (v := 0) dX12_leastBad_22 rfl ?_
  refine x_iconst (pc := 23) (v := 0) dX12_leastBad_23 rfl ?_
  refine x_callV (pc := 24) (As := [.int _, .int _, .int _, .int _]) dX12_leastBad_24 mX12_goesThrough lk_12_291 hM.1 (c_goesF (ct := false) (M := 5) hM h hg hW a1 a2 a3 rfl rfl (by decide) (fun _ => h.1.1) (okL1 hG) (by show 1 ≤ 7; omega) (bsD_ne h.1.1)) rfl rfl (Nat.le_of_ble_eq_true rfl) ⟨by decide, by decide⟩ ⟨Nat.zero_le _, Nat.zero_le _⟩ (fun v μ2 hq => ?_)
  obtain ⟨s, rfl, rfl, hs⟩ := hq
  refine x_aload_n (pc := 27) dX12_leastBad_27 rfl ?_
  refine m_getI (pc := 28) hM dX12_leastBad_28 fk_12_288 (Or.inl rfl) ?_
  rw [hs.2.1]
  refine x_ireturn (pc := 31) dX12_leastBad_31 rfl rfl ?_
  exact ⟨s, rfl, rfl, hs⟩
theorem fn_st {σ : MS} {n : Nat} : ∀ k, but 41 σ (it f_fn k σ) ∧ ∀ j, j < k → (it f_fn k σ).2.2 41 j = if σ.1 15 ≤ nI j then -1 else σ.2.2 14 j
  | 0 => ⟨but.rf, fun j h => absurd h (by omega)⟩
  | k + 1 => by
    obtain ⟨h1, h2⟩ := fn_st (σ := σ) (n := n) k
    refine ⟨h1.tA, fun j hj => ?_⟩
    show up2 _ 41 _ _ 41 _ = _
    rcases Nat.lt_or_ge j k with q | q
    · rw [up2_n (Or.inr (by omega)), h2 j q]
    · obtain rfl : j = k := by omega
      rw [up2_s, h1.1, h1.2.2 14 (by decide)]
/-- where all are, but those that are away -/
def wasA (D : PD) (aw t : Nat) : Nat := if t = aw then 0 else D 3 t
theorem SW_fn {σ : MS} {D : PD} {n aw : Nat} (h : RD σ D n) (h35 : σ.1 35 = awI aw) : SW (it f_fn 5 σ) n aw (wasA D aw) ∧ sq σ (it f_fn 5 σ) := by
  obtain ⟨h1, h2⟩ := fn_st (σ := σ) (n := n) 5
  have hn := h.1.1
  refine ⟨⟨by rw [h1.1]; exact h35, fun t ht hne => ?_⟩, sq.rf.but (Or.inr (Or.inr (Or.inr rfl))) h1⟩
  unfold wasA
  rw [if_neg hne, h2 t (by omega), h.2.1, if_neg (lit_le t ht (by omega))]
  exact ⟨(h.1.2.1 t (by omega)).2.2.2, (h.2.2.1 t (by omega)).2.2.2⟩
/-- the days, the first d -/
def dyD (D : PD) : Nat → List Nat
  | 0 => []
  | d + 1 => D 6 d :: dyD D d
theorem dy_len (D : PD) : ∀ d, (dyD D d).length = d
  | 0 => rfl
  | d + 1 => by show (dyD D d).length + 1 = d + 1; rw [dy_len D d]
theorem dy_ok {D : PD} {n : Nat} (h : okD D n) : ∀ d, d ≤ 7 → okL (dyD D d)
  | 0, _ => fun _ hx => absurd hx List.not_mem_nil
  | d + 1, hd => fun x hx => by
    rcases List.mem_cons.mp hx with rfl | q
    · exact h.2.2.2.2 d (by omega)
    · exact dy_ok h d (by omega) x q
def onD (D : PD) (n : Nat) : BR := bsD D n (dyD D 7) (wasA D 9) 9 true 5
theorem c_seeksOnce (hM : MOK μ a) {D : PD} {n : Nat} (h0 : RD σ D n) (hg0 : RG σ D n) (h35 : σ.1 35 = -1) : XM Γ zX12_seeksOnce 9 0 0 [.ref a.1] (MV μ a σ) (fun v μ2 => ∃ s : MS, v = none ∧ μ2 = MV μ a s ∧ sq σ s ∧ s.1 43 = σ.1 43 ∧ s.1 38 = nI (brC (onD D n)) ∧ ∀ i, i < n → s.2.2 37 i = nI (brR (onD D n) i) - 1) := by
  refine XM.of 1 rfl (by decide) (Nat.le_of_ble_eq_true rfl) ?_
  obtain ⟨hW, hq⟩ := SW_fn (aw := 9) h0 h35
  have h := h0.sq hq
  have hg := hg0.sq hq
  obtain ⟨b1, b2, b3⟩ := bg_st (σ := it f_fn 5 σ) D h.1.1
  have L : ∀ (m d : Nat) (s : MS), d + m = 7 → sf (it f_fn 5 σ) s → s.1 39 = 0 → ftab s D n (dyD D d) → WA Γ zX12_seeksOnce (xrm 9 0 0) 0 0 0 0 (fun v μ2 => ∃ s : MS, v = none ∧ μ2 = MV μ a s ∧ sq σ s ∧ s.1 43 = σ.1 43 ∧ s.1 38 = nI (brC (onD D n)) ∧ ∀ i, i < n → s.2.2 37 i = nI (brR (onD D n) i) - 1) 10 [some (.ref a.1), some (.int (nI d))] [] (MV μ a s) := by
    intro m
    induction m with
    | zero =>
      intro d s hd h1 h2 h3
      obtain rfl : d = 7 := by omega
      refine x_iload_n (pc := 10) dX12_seeksOnce_10 rfl ?_
      refine x_bipush (pc := 11) (v := 7) dX12_seeksOnce_11 rfl ?_
      refine x_icmp_ge (pc := 13) (tgt := 32) dX12_seeksOnce_13 rfl (fun h_13 => ?_) (fun h_13 => absurd (by decide) h_13)
      refine x_aload_n (pc := 32) dX12_seeksOnce_32 rfl ?_
      refine x_iconst (pc := 33) (v := 1) dX12_seeksOnce_33 rfl ?_
      refine m_putI (pc := 34) hM dX12_seeksOnce_34 fk_12_298 rfl (Or.inr ⟨rfl, Or.inr rfl⟩) ?_
      refine x_aload_n (pc := 37) dX12_seeksOnce_37 rfl ?_
      refine x_iconst (pc := 38) (v := 5) dX12_seeksOnce_38 rfl ?_
      refine m_putI (pc := 39) hM dX12_seeksOnce_39 fk_12_295 rfl (Or.inl rfl) ?_
      refine x_aload_n (pc := 42) dX12_seeksOnce_42 rfl ?_
      refine x_iconst (pc := 43) (v := 0) dX12_seeksOnce_43 rfl ?_
      refine x_iconst (pc := 44) (v := 0) dX12_seeksOnce_44 rfl ?_
      refine x_iconst (pc := 45) (v := 0) dX12_seeksOnce_45 rfl ?_
      refine x_iconst (pc := 46) (v := 0) dX12_seeksOnce_46 rfl ?_
      refine x_callV (pc := 47) (As := [.int _, .int _, .int _, .int _]) dX12_seeksOnce_47 mX12_goesThrough lk_12_291 hM.1 (c_goesF (ct := true) (M := 5) hM h hg hW h1 h2 h3 rfl rfl (by decide) (fun z => absurd z (by have := h.1.1; omega)) (dy_ok h.1 7 (by omega)) (by rw [dy_len]; omega) (bsD_ne h.1.1)) rfl rfl (Nat.le_of_ble_eq_true rfl) ⟨by decide, by decide⟩ ⟨Nat.zero_le _, Nat.zero_le _⟩ (fun v μ2 hq => ?_)
      obtain ⟨s2, rfl, rfl, hs⟩ := hq
      refine x_return (pc := 50) dX12_seeksOnce_50 rfl ?_
      exact ⟨s2, rfl, rfl, hq.trans hs.1.sq, (hs.1.1 43 (by decide) (by decide) (by decide) (by decide)).trans (by rw [(fn_st (σ := σ) (n := n) 5).1.1]), hs.2⟩
    | succ m ih =>
      intro d s hd h1 h2 h3
      have e9 : s.2.2 9 d = nI (D 6 d) := (h.sq h1.sq).2.2.2.2.2 d (by omega)
      have hG := h.1.2.2.2.2 d (by omega)
      obtain ⟨a1, a2, a3⟩ := ad_st h hg hG h1 h2 h3
      refine x_iload_n (pc := 10) dX12_seeksOnce_10 rfl ?_
      refine x_bipush (pc := 11) (v := 7) dX12_seeksOnce_11 rfl ?_
      refine x_icmp_ge (pc := 13) (tgt := 32) dX12_seeksOnce_13 rfl (fun h_13 => absurd h_13 (lit_le (n := 7) d (by omega) (by omega))) (fun h_13 => ?_)
      refine x_aload_n (pc := 16) dX12_seeksOnce_16 rfl ?_
      refine x_aload_n (pc := 17) dX12_seeksOnce_17 rfl ?_
      refine m_getR (pc := 18) hM dX12_seeksOnce_18 fk_12_29 (Or.inr ⟨_, rfl⟩) (Or.inl (by decide)) ?_
      refine x_iload_n (pc := 21) dX12_seeksOnce_21 rfl ?_
      refine m_iald (pc := 22) hM dX12_seeksOnce_22 (rfl) (by show d < 7; omega) ?_
      rw [e9]
      refine x_callV (pc := 23) (As := [.int _]) dX12_seeksOnce_23 mX12_addsDay lk_12_304 hM.1 (c_addsDay hM hG (h.sq h1.sq).2.1 h.1.1 (h.sq h1.sq).gv) rfl rfl (Nat.le_of_ble_eq_true rfl) ⟨by decide, by decide⟩ ⟨Nat.zero_le _, Nat.zero_le _⟩ (k_rv ?_)
      refine x_iinc (pc := 26) (lv2 := [_, _]) dX12_seeksOnce_26 (by decide) rfl rfl (nI_1 _) rfl ?_
      refine x_goto (pc := 29) (tgt := 10) dX12_seeksOnce_29 rfl ?_
      exact ih (d + 1) _ (by omega) a1 a2 a3
  refine x_aload_n (pc := 0) dX12_seeksOnce_0 rfl ?_
  refine x_callV (pc := 1) (As := []) dX12_seeksOnce_1 mX12_fromNow lk_12_317 hM.1 (c_fromNow hM) rfl rfl (Nat.le_of_ble_eq_true rfl) ⟨by decide, by decide⟩ ⟨Nat.zero_le _, Nat.zero_le _⟩ (k_rv ?_)
  refine x_aload_n (pc := 4) dX12_seeksOnce_4 rfl ?_
  refine x_callV (pc := 5) (As := []) dX12_seeksOnce_5 mX12_begins lk_12_301 hM.1 (c_begins hM) rfl rfl (Nat.le_of_ble_eq_true rfl) ⟨by decide, by decide⟩ ⟨Nat.zero_le _, Nat.zero_le _⟩ (k_rv ?_)
  refine x_iconst (pc := 8) (v := 0) dX12_seeksOnce_8 rfl ?_
  refine x_istore_n (pc := 9) (lv2 := [_, _]) dX12_seeksOnce_9 (by decide) rfl rfl ?_
  exact L 7 0 _ (by omega) b1 b3 b2
/-- how many of the first things are put otherwise -/
def mvD (was room : Nat → Nat) : Nat → Nat
  | 0 => 0
  | t + 1 => mvD was room t + (if room t = was t then 0 else 1)
abbrev WK : Type := (Nat → Nat) × Nat × Nat × Nat
def wkB (D : PD) (n aw : Nat) (was : Nat → Nat) (d : Nat) : BR := bsD D n [D 6 d] was aw true 5
def wkD (D : PD) (n aw : Nat) : Nat → WK
  | 0 => (wasA D aw, 0, 0, 0)
  | d + 1 => (brR (wkB D n aw (wkD D n aw d).1 d), (wkD D n aw d).2.1 + brC (wkB D n aw (wkD D n aw d).1 d), (wkD D n aw d).2.2.1 + mvD (wkD D n aw d).1 (brR (wkB D n aw (wkD D n aw d).1 d)) n, (wkD D n aw d).2.2.2 + (if 0 < mvD (wkD D n aw d).1 (brR (wkB D n aw (wkD D n aw d).1 d)) n then 1 else 0))
theorem mv_le (was room : Nat → Nat) : ∀ t, mvD was room t ≤ t
  | 0 => Nat.le_refl _
  | t + 1 => by
    have := mv_le was room t
    unfold mvD
    split <;> omega
theorem wkB_ok {D : PD} {n aw d : Nat} {was : Nat → Nat} (h : okD D n) (hg : okG D n) (hd : d < 7) : brC (wkB D n aw was d) ≤ 46000 ∧ (∀ i, i < n → brR (wkB D n aw was d) i < 7) ∧ (aw < n → brR (wkB D n aw was d) aw = 0) := by
  have hl := okL1 (h.2.2.2.2 d hd)
  obtain ⟨h1, h2⟩ := bsD_ok (aw := aw) (was := was) (ct := true) (M := 5) h hg hl (by show 1 ≤ 7; omega) (bsD_ne h.1)
  refine ⟨h1, fun i hi => (h2 i hi).1, fun ha => ?_⟩
  have := (h2 aw ha).2
  unfold okA at this
  rw [if_pos rfl] at this
  exact beq_iff_eq.mp this
theorem wk_ok {D : PD} {n aw : Nat} (h : okD D n) (hg : okG D n) : ∀ d, d ≤ 7 → (wkD D n aw d).2.1 ≤ 46000 * d ∧ (∀ i, i < n → (wkD D n aw d).1 i < 7) ∧ (aw < n → (wkD D n aw d).1 aw = 0)
  | 0, _ => ⟨Nat.le_refl _, fun i hi => by
      show wasA D aw i < 7
      unfold wasA
      split
      · omega
      · exact (h.2.1 i (by have := h.1; omega)).2.2.2, fun _ => if_pos rfl⟩
  | d + 1, hd => by
    obtain ⟨h1, -, -⟩ := wk_ok (aw := aw) h hg d (by omega)
    obtain ⟨g1, g2, g3⟩ := wkB_ok (aw := aw) (was := (wkD D n aw d).1) h hg (show d < 7 by omega)
    refine ⟨?_, g2, g3⟩
    show (wkD D n aw d).2.1 + brC (wkB D n aw (wkD D n aw d).1 d) ≤ _
    omega
theorem b7 {x y : Nat} (hx : x < 7) (hy : y < 7) : nI x - 1 = nI y - 1 ↔ x = y := sp_eq x hx y hy
theorem c_weeks (hM : MOK μ a) {D : PD} {n aw : Nat} (h : RD σ D n) (hg : RG σ D n) (h35 : σ.1 35 = awI aw) : XM Γ zX12_weeks 10 0 0 [.ref a.1] (MV μ a σ) (fun v μ2 => ∃ s : MS, v = none ∧ μ2 = MV μ a s ∧ sq σ s ∧ s.1 43 = nI (wkD D n aw 7).2.1 ∧ s.1 44 = nI (wkD D n aw 7).2.2.1 ∧ s.1 45 = nI (wkD D n aw 7).2.2.2) := by
  refine XM.of 3 rfl (by decide) (Nat.le_of_ble_eq_true rfl) ?_
  obtain ⟨hW, hq⟩ := SW_fn h h35
  have hn := h.1.1
  have Lo : ∀ (m d : Nat) (s : MS) (z2 z3 : Option Value), d + m = 7 → sq σ s → SW s n aw (wkD D n aw d).1 → s.1 43 = nI (wkD D n aw d).2.1 → s.1 44 = nI (wkD D n aw d).2.2.1 → s.1 45 = nI (wkD D n aw d).2.2.2 → WA Γ zX12_weeks (xrm 10 0 0) 0 0 0 0 (fun v μ2 => ∃ s : MS, v = none ∧ μ2 = MV μ a s ∧ sq σ s ∧ s.1 43 = nI (wkD D n aw 7).2.1 ∧ s.1 44 = nI (wkD D n aw 7).2.2.1 ∧ s.1 45 = nI (wkD D n aw 7).2.2.2) 21 [some (.ref a.1), some (.int (nI d)), z2, z3] [] (MV μ a s) := by
    intro m
    induction m with
    | zero =>
      intro d s z2 z3 hd h1 h2 h3 h4 h5
      obtain rfl : d = 7 := by omega
      refine x_iload_n (pc := 21) dX12_weeks_21 rfl ?_
      refine x_bipush (pc := 22) (v := 7) dX12_weeks_22 rfl ?_
      refine x_icmp_ge (pc := 24) (tgt := 146) dX12_weeks_24 rfl (fun h_24 => ?_) (fun h_24 => absurd (by decide) h_24)
      refine x_return (pc := 146) dX12_weeks_146 rfl ?_
      exact ⟨s, rfl, rfl, h1, h3, h4, h5⟩
    | succ m ih =>
      intro d s z2 z3 hd h1 h2 h3 h4 h5
      have hr := h.sq h1
      have hgr := hg.sq h1
      have e9 : s.2.2 9 d = nI (D 6 d) := hr.2.2.2.2.2 d (by omega)
      have hG := h.1.2.2.2.2 d (by omega)
      obtain ⟨o1, o2, o3⟩ := wkB_ok (aw := aw) (was := (wkD D n aw d).1) h.1 hg.1 (show d < 7 by omega)
      obtain ⟨-, p2, p3⟩ := wk_ok (aw := aw) h.1 hg.1 d (by omega)
      have hne : bsD D n [D 6 d] (wkD D n aw d).1 aw true 5 ≠ none := bsD_ne hn
      have Li : ∀ (m2 t : Nat) (s4 : MS), t + m2 = n → sq σ s4 → s4.1 43 = nI (wkD D n aw (d + 1)).2.1 → s4.1 44 = s.1 44 → s4.1 45 = s.1 45 → (∀ i, i < n → s4.2.2 37 i = nI (brR (wkB D n aw (wkD D n aw d).1 d) i) - 1) → (∀ i, i < n → i ≠ aw → s4.2.2 41 i = nI (if i < t then brR (wkB D n aw (wkD D n aw d).1 d) i else (wkD D n aw d).1 i) - 1) → WA Γ zX12_weeks (xrm 10 0 0) 0 0 0 0 (fun v μ2 => ∃ s : MS, v = none ∧ μ2 = MV μ a s ∧ sq σ s ∧ s.1 43 = nI (wkD D n aw 7).2.1 ∧ s.1 44 = nI (wkD D n aw 7).2.2.1 ∧ s.1 45 = nI (wkD D n aw 7).2.2.2) 55 [some (.ref a.1), some (.int (nI d)), some (.int (nI (mvD (wkD D n aw d).1 (brR (wkB D n aw (wkD D n aw d).1 d)) t))), some (.int (nI t))] [] (MV μ a s4) := by
        intro m2
        induction m2 with
        | zero =>
          intro t s4 ht g1 g2 g3 g4 g5 g6
          obtain rfl : t = n := by omega
          have e15 := (h.sq g1).2.1
          have hmv := mv_le (wkD D t aw d).1 (brR (wkB D t aw (wkD D t aw d).1 d)) t
          refine x_iload_n (pc := 55) dX12_weeks_55 rfl ?_
          refine x_aload_n (pc := 56) dX12_weeks_56 rfl ?_
          refine m_getI (pc := 57) hM dX12_weeks_57 fk_12_106 (Or.inl rfl) ?_
          refine x_icmp_ge (pc := 60) (tgt := 112) dX12_weeks_60 rfl (fun h_60 => ?_) (fun h_60 => absurd (by rw [e15]; exact Int32.le_refl _) h_60)
          refine x_aload_n (pc := 112) dX12_weeks_112 rfl ?_
          refine x_dup (pc := 113) dX12_weeks_113 rfl ?_
          refine m_getI (pc := 114) hM dX12_weeks_114 fk_12_333 (Or.inl rfl) ?_
          refine x_iload_n (pc := 117) dX12_weeks_117 rfl ?_
          refine x_iadd (pc := 118) dX12_weeks_118 ?_
          refine m_putI (pc := 119) hM dX12_weeks_119 fk_12_333 rfl (Or.inl rfl) ?_
          refine x_aload_n (pc := 122) dX12_weeks_122 rfl ?_
          refine x_dup (pc := 123) dX12_weeks_123 rfl ?_
          refine m_getI (pc := 124) hM dX12_weeks_124 fk_12_336 (Or.inl rfl) ?_
          refine x_iload_n (pc := 127) dX12_weeks_127 rfl ?_
          refine x_if_le (pc := 128) (tgt := 135) dX12_weeks_128 rfl (fun h_128 => ?_) (fun h_128 => ?_)
          · refine x_iconst (pc := 135) (v := 0) dX12_weeks_135 rfl ?_
            refine x_iadd (pc := 136) dX12_weeks_136 ?_
            refine m_putI (pc := 137) hM dX12_weeks_137 fk_12_336 rfl (Or.inl rfl) ?_
            refine x_iinc (pc := 140) (lv2 := [_, _, _, _]) dX12_weeks_140 (by decide) rfl rfl (nI_1 _) rfl ?_
            refine x_goto (pc := 143) (tgt := 21) dX12_weeks_143 rfl ?_
            refine ih (d + 1) _ _ _ (by omega) ((g1.tI (by omega)).tI (by omega)) ⟨(g1.1 35 (by omega)).trans h35, fun i hi hne => ⟨(wkB_ok h.1 hg.1 (by omega)).2.1 i hi, ?_⟩⟩ g2 ?_ ?_
            · have := g6 i hi hne
              rw [if_pos hi] at this
              exact this
            · show s4.1 44 + _ = _
              rw [g3, h4, nI_add]
              rfl
            · show s4.1 45 + _ = _
              rw [g4, h5]
              show _ = nI ((wkD D t aw d).2.2.2 + (if 0 < mvD (wkD D t aw d).1 (brR (wkB D t aw (wkD D t aw d).1 d)) t then 1 else 0))
              first
                | rw [if_neg (fun z => by rw [show (0 : Int32) = nI 0 from rfl, nI_leI (by omega) (by omega)] at h_128; omega)]; exact Int32.add_zero _
                | rw [if_pos (by rw [show (0 : Int32) = nI 0 from rfl, nI_leI (by omega) (by omega)] at h_128; omega), ← nI_1]
          · refine x_iconst (pc := 131) (v := 1) dX12_weeks_131 rfl ?_
            refine x_goto (pc := 132) (tgt := 136) dX12_weeks_132 rfl ?_
            refine x_iadd (pc := 136) dX12_weeks_136 ?_
            refine m_putI (pc := 137) hM dX12_weeks_137 fk_12_336 rfl (Or.inl rfl) ?_
            refine x_iinc (pc := 140) (lv2 := [_, _, _, _]) dX12_weeks_140 (by decide) rfl rfl (nI_1 _) rfl ?_
            refine x_goto (pc := 143) (tgt := 21) dX12_weeks_143 rfl ?_
            refine ih (d + 1) _ _ _ (by omega) ((g1.tI (by omega)).tI (by omega)) ⟨(g1.1 35 (by omega)).trans h35, fun i hi hne => ⟨(wkB_ok h.1 hg.1 (by omega)).2.1 i hi, ?_⟩⟩ g2 ?_ ?_
            · have := g6 i hi hne
              rw [if_pos hi] at this
              exact this
            · show s4.1 44 + _ = _
              rw [g3, h4, nI_add]
              rfl
            · show s4.1 45 + _ = _
              rw [g4, h5]
              show _ = nI ((wkD D t aw d).2.2.2 + (if 0 < mvD (wkD D t aw d).1 (brR (wkB D t aw (wkD D t aw d).1 d)) t then 1 else 0))
              first
                | rw [if_neg (fun z => by rw [show (0 : Int32) = nI 0 from rfl, nI_leI (by omega) (by omega)] at h_128; omega)]; exact Int32.add_zero _
                | rw [if_pos (by rw [show (0 : Int32) = nI 0 from rfl, nI_leI (by omega) (by omega)] at h_128; omega), ← nI_1]
        | succ m2 ih2 =>
          intro t s4 ht g1 g2 g3 g4 g5 g6
          have e15 := (h.sq g1).2.1
          have e35 := (g1.1 35 (by omega)).trans h35
          have e37 := g5 t (by omega)
          have hst : mvD (wkD D n aw d).1 (brR (wkB D n aw (wkD D n aw d).1 d)) (t + 1) = mvD (wkD D n aw d).1 (brR (wkB D n aw (wkD D n aw d).1 d)) t + (if brR (wkB D n aw (wkD D n aw d).1 d) t = (wkD D n aw d).1 t then 0 else 1) := rfl
          refine x_iload_n (pc := 55) dX12_weeks_55 rfl ?_
          refine x_aload_n (pc := 56) dX12_weeks_56 rfl ?_
          refine m_getI (pc := 57) hM dX12_weeks_57 fk_12_106 (Or.inl rfl) ?_
          refine x_icmp_ge (pc := 60) (tgt := 112) dX12_weeks_60 rfl (fun h_60 => absurd h_60 (by rw [e15]; exact lit_le t (by omega) (by omega))) (fun h_60 => ?_)
          refine x_iload_n (pc := 63) dX12_weeks_63 rfl ?_
          refine x_iload_n (pc := 64) dX12_weeks_64 rfl ?_
          refine x_aload_n (pc := 65) dX12_weeks_65 rfl ?_
          refine m_getI (pc := 66) hM dX12_weeks_66 fk_12_59 (Or.inl rfl) ?_
          refine x_icmp_eq (pc := 69) (tgt := 91) dX12_weeks_69 rfl (fun h_69 => ?_) (fun h_69 => ?_)
          · refine x_iconst (pc := 91) (v := 0) dX12_weeks_91 rfl ?_
            refine x_iadd (pc := 92) dX12_weeks_92 ?_
            first
              | rw [Int32.add_zero, show mvD (wkD D n aw d).1 (brR (wkB D n aw (wkD D n aw d).1 d)) t = mvD (wkD D n aw d).1 (brR (wkB D n aw (wkD D n aw d).1 d)) (t + 1) by
                  rw [hst]
                  first
                    | (rw [e35, aw_eq (by omega)] at h_69
                       subst h_69
                       rw [if_pos (by rw [o3 (by omega), p3 (by omega)])]
                       rfl)
                    | (rw [e35, aw_eq (by omega)] at h_69
                       rw [e37, g6 t (by omega) h_69, if_neg (by omega), b7 (o2 t (by omega)) (p2 t (by omega))] at h_84
                       rw [if_pos h_84]
                       rfl)]
              | rw [nI_1, show mvD (wkD D n aw d).1 (brR (wkB D n aw (wkD D n aw d).1 d)) t + 1 = mvD (wkD D n aw d).1 (brR (wkB D n aw (wkD D n aw d).1 d)) (t + 1) by
                  rw [hst]
                  rw [e35, aw_eq (by omega)] at h_69
                  rw [e37, g6 t (by omega) h_69, if_neg (by omega), b7 (o2 t (by omega)) (p2 t (by omega))] at h_84
                  rw [if_neg h_84]]
            refine x_istore_n (pc := 93) (lv2 := [_, _, _, _]) dX12_weeks_93 (by decide) rfl rfl ?_
            refine x_aload_n (pc := 94) dX12_weeks_94 rfl ?_
            refine m_getR (pc := 95) hM dX12_weeks_95 fk_12_68 (Or.inr ⟨_, rfl⟩) (Or.inl (by decide)) ?_
            refine x_iload_n (pc := 98) dX12_weeks_98 rfl ?_
            refine x_aload_n (pc := 99) dX12_weeks_99 rfl ?_
            refine m_getR (pc := 100) hM dX12_weeks_100 fk_12_65 (Or.inr ⟨_, rfl⟩) (Or.inl (by decide)) ?_
            refine x_iload_n (pc := 103) dX12_weeks_103 rfl ?_
            refine m_iald (pc := 104) hM dX12_weeks_104 (rfl) (by show t < 5; omega) ?_
            refine m_iast (pc := 105) hM dX12_weeks_105 (rfl) (by show t < 5; omega) ?_
            refine x_iinc (pc := 106) (lv2 := [_, _, _, _]) dX12_weeks_106 (by decide) rfl rfl (nI_1 _) rfl ?_
            refine x_goto (pc := 109) (tgt := 55) dX12_weeks_109 rfl ?_
            refine ih2 (t + 1) (tA s4 41 t (s4.2.2 37 t)) (by omega) (g1.but (Or.inr (Or.inr (Or.inr rfl))) but.rf.tA) g2 g3 g4 (fun i hi => by rw [tA_n (by decide)]; exact g5 i hi) (fun i hi hne => ?_)
            show up2 s4.2.2 41 t (s4.2.2 37 t) 41 i = _
            rcases Nat.lt_trichotomy i t with q | q | q
            · rw [up2_n (Or.inr (by omega)), g6 i hi hne, if_pos q, if_pos (by omega)]
            · subst q
              rw [up2_s, e37, if_pos (by omega)]
            · rw [up2_n (Or.inr (by omega)), g6 i hi hne, if_neg (by omega), if_neg (by omega)]
          · refine x_aload_n (pc := 72) dX12_weeks_72 rfl ?_
            refine m_getR (pc := 73) hM dX12_weeks_73 fk_12_65 (Or.inr ⟨_, rfl⟩) (Or.inl (by decide)) ?_
            refine x_iload_n (pc := 76) dX12_weeks_76 rfl ?_
            refine m_iald (pc := 77) hM dX12_weeks_77 (rfl) (by show t < 5; omega) ?_
            refine x_aload_n (pc := 78) dX12_weeks_78 rfl ?_
            refine m_getR (pc := 79) hM dX12_weeks_79 fk_12_68 (Or.inr ⟨_, rfl⟩) (Or.inl (by decide)) ?_
            refine x_iload_n (pc := 82) dX12_weeks_82 rfl ?_
            refine m_iald (pc := 83) hM dX12_weeks_83 (rfl) (by show t < 5; omega) ?_
            refine x_icmp_eq (pc := 84) (tgt := 91) dX12_weeks_84 rfl (fun h_84 => ?_) (fun h_84 => ?_)
            · refine x_iconst (pc := 91) (v := 0) dX12_weeks_91 rfl ?_
              refine x_iadd (pc := 92) dX12_weeks_92 ?_
              first
                | rw [Int32.add_zero, show mvD (wkD D n aw d).1 (brR (wkB D n aw (wkD D n aw d).1 d)) t = mvD (wkD D n aw d).1 (brR (wkB D n aw (wkD D n aw d).1 d)) (t + 1) by
                    rw [hst]
                    first
                      | (rw [e35, aw_eq (by omega)] at h_69
                         subst h_69
                         rw [if_pos (by rw [o3 (by omega), p3 (by omega)])]
                         rfl)
                      | (rw [e35, aw_eq (by omega)] at h_69
                         rw [e37, g6 t (by omega) h_69, if_neg (by omega), b7 (o2 t (by omega)) (p2 t (by omega))] at h_84
                         rw [if_pos h_84]
                         rfl)]
                | rw [nI_1, show mvD (wkD D n aw d).1 (brR (wkB D n aw (wkD D n aw d).1 d)) t + 1 = mvD (wkD D n aw d).1 (brR (wkB D n aw (wkD D n aw d).1 d)) (t + 1) by
                    rw [hst]
                    rw [e35, aw_eq (by omega)] at h_69
                    rw [e37, g6 t (by omega) h_69, if_neg (by omega), b7 (o2 t (by omega)) (p2 t (by omega))] at h_84
                    rw [if_neg h_84]]
              refine x_istore_n (pc := 93) (lv2 := [_, _, _, _]) dX12_weeks_93 (by decide) rfl rfl ?_
              refine x_aload_n (pc := 94) dX12_weeks_94 rfl ?_
              refine m_getR (pc := 95) hM dX12_weeks_95 fk_12_68 (Or.inr ⟨_, rfl⟩) (Or.inl (by decide)) ?_
              refine x_iload_n (pc := 98) dX12_weeks_98 rfl ?_
              refine x_aload_n (pc := 99) dX12_weeks_99 rfl ?_
              refine m_getR (pc := 100) hM dX12_weeks_100 fk_12_65 (Or.inr ⟨_, rfl⟩) (Or.inl (by decide)) ?_
              refine x_iload_n (pc := 103) dX12_weeks_103 rfl ?_
              refine m_iald (pc := 104) hM dX12_weeks_104 (rfl) (by show t < 5; omega) ?_
              refine m_iast (pc := 105) hM dX12_weeks_105 (rfl) (by show t < 5; omega) ?_
              refine x_iinc (pc := 106) (lv2 := [_, _, _, _]) dX12_weeks_106 (by decide) rfl rfl (nI_1 _) rfl ?_
              refine x_goto (pc := 109) (tgt := 55) dX12_weeks_109 rfl ?_
              refine ih2 (t + 1) (tA s4 41 t (s4.2.2 37 t)) (by omega) (g1.but (Or.inr (Or.inr (Or.inr rfl))) but.rf.tA) g2 g3 g4 (fun i hi => by rw [tA_n (by decide)]; exact g5 i hi) (fun i hi hne => ?_)
              show up2 s4.2.2 41 t (s4.2.2 37 t) 41 i = _
              rcases Nat.lt_trichotomy i t with q | q | q
              · rw [up2_n (Or.inr (by omega)), g6 i hi hne, if_pos q, if_pos (by omega)]
              · subst q
                rw [up2_s, e37, if_pos (by omega)]
              · rw [up2_n (Or.inr (by omega)), g6 i hi hne, if_neg (by omega), if_neg (by omega)]
            · refine x_iconst (pc := 87) (v := 1) dX12_weeks_87 rfl ?_
              refine x_goto (pc := 88) (tgt := 92) dX12_weeks_88 rfl ?_
              refine x_iadd (pc := 92) dX12_weeks_92 ?_
              first
                | rw [Int32.add_zero, show mvD (wkD D n aw d).1 (brR (wkB D n aw (wkD D n aw d).1 d)) t = mvD (wkD D n aw d).1 (brR (wkB D n aw (wkD D n aw d).1 d)) (t + 1) by
                    rw [hst]
                    first
                      | (rw [e35, aw_eq (by omega)] at h_69
                         subst h_69
                         rw [if_pos (by rw [o3 (by omega), p3 (by omega)])]
                         rfl)
                      | (rw [e35, aw_eq (by omega)] at h_69
                         rw [e37, g6 t (by omega) h_69, if_neg (by omega), b7 (o2 t (by omega)) (p2 t (by omega))] at h_84
                         rw [if_pos h_84]
                         rfl)]
                | rw [nI_1, show mvD (wkD D n aw d).1 (brR (wkB D n aw (wkD D n aw d).1 d)) t + 1 = mvD (wkD D n aw d).1 (brR (wkB D n aw (wkD D n aw d).1 d)) (t + 1) by
                    rw [hst]
                    rw [e35, aw_eq (by omega)] at h_69
                    rw [e37, g6 t (by omega) h_69, if_neg (by omega), b7 (o2 t (by omega)) (p2 t (by omega))] at h_84
                    rw [if_neg h_84]]
              refine x_istore_n (pc := 93) (lv2 := [_, _, _, _]) dX12_weeks_93 (by decide) rfl rfl ?_
              refine x_aload_n (pc := 94) dX12_weeks_94 rfl ?_
              refine m_getR (pc := 95) hM dX12_weeks_95 fk_12_68 (Or.inr ⟨_, rfl⟩) (Or.inl (by decide)) ?_
              refine x_iload_n (pc := 98) dX12_weeks_98 rfl ?_
              refine x_aload_n (pc := 99) dX12_weeks_99 rfl ?_
              refine m_getR (pc := 100) hM dX12_weeks_100 fk_12_65 (Or.inr ⟨_, rfl⟩) (Or.inl (by decide)) ?_
              refine x_iload_n (pc := 103) dX12_weeks_103 rfl ?_
              refine m_iald (pc := 104) hM dX12_weeks_104 (rfl) (by show t < 5; omega) ?_
              refine m_iast (pc := 105) hM dX12_weeks_105 (rfl) (by show t < 5; omega) ?_
              refine x_iinc (pc := 106) (lv2 := [_, _, _, _]) dX12_weeks_106 (by decide) rfl rfl (nI_1 _) rfl ?_
              refine x_goto (pc := 109) (tgt := 55) dX12_weeks_109 rfl ?_
              refine ih2 (t + 1) (tA s4 41 t (s4.2.2 37 t)) (by omega) (g1.but (Or.inr (Or.inr (Or.inr rfl))) but.rf.tA) g2 g3 g4 (fun i hi => by rw [tA_n (by decide)]; exact g5 i hi) (fun i hi hne => ?_)
              show up2 s4.2.2 41 t (s4.2.2 37 t) 41 i = _
              rcases Nat.lt_trichotomy i t with q | q | q
              · rw [up2_n (Or.inr (by omega)), g6 i hi hne, if_pos q, if_pos (by omega)]
              · subst q
                rw [up2_s, e37, if_pos (by omega)]
              · rw [up2_n (Or.inr (by omega)), g6 i hi hne, if_neg (by omega), if_neg (by omega)]
      refine x_iload_n (pc := 21) dX12_weeks_21 rfl ?_
      refine x_bipush (pc := 22) (v := 7) dX12_weeks_22 rfl ?_
      refine x_icmp_ge (pc := 24) (tgt := 146) dX12_weeks_24 rfl (fun h_24 => absurd h_24 (lit_le (n := 7) d (by omega) (by omega))) (fun h_24 => ?_)
      refine x_aload_n (pc := 27) dX12_weeks_27 rfl ?_
      refine x_aload_n (pc := 28) dX12_weeks_28 rfl ?_
      refine m_getR (pc := 29) hM dX12_weeks_29 fk_12_29 (Or.inr ⟨_, rfl⟩) (Or.inl (by decide)) ?_
      refine x_iload_n (pc := 32) dX12_weeks_32 rfl ?_
      refine m_iald (pc := 33) hM dX12_weeks_33 (rfl) (by show d < 7; omega) ?_
      rw [e9]
      refine x_iconst (pc := 34) (v := 5) dX12_weeks_34 rfl ?_
      refine x_callV (pc := 35) (As := [.int _, .int _]) dX12_weeks_35 mX12_seeksFor lk_12_320 hM.1 (c_seeksFor (M := 5) hM hr hgr h2 hG (by decide) (fun _ => hn) hne) rfl rfl (Nat.le_of_ble_eq_true rfl) ⟨by decide, by decide⟩ ⟨Nat.zero_le _, Nat.zero_le _⟩ (fun v μ2 hq => ?_)
      obtain ⟨s4, rfl, rfl, hs4, c38, c37⟩ := hq
      refine x_aload_n (pc := 38) dX12_weeks_38 rfl ?_
      refine x_dup (pc := 39) dX12_weeks_39 rfl ?_
      refine m_getI (pc := 40) hM dX12_weeks_40 fk_12_330 (Or.inl rfl) ?_
      refine x_aload_n (pc := 43) dX12_weeks_43 rfl ?_
      refine m_getI (pc := 44) hM dX12_weeks_44 fk_12_288 (Or.inl rfl) ?_
      refine x_iadd (pc := 47) dX12_weeks_47 ?_
      refine m_putI (pc := 48) hM dX12_weeks_48 fk_12_330 rfl (Or.inl rfl) ?_
      refine x_iconst (pc := 51) (v := 0) dX12_weeks_51 rfl ?_
      refine x_istore_n (pc := 52) (lv2 := [_, _, _, _]) dX12_weeks_52 (by decide) rfl rfl ?_
      refine x_iconst (pc := 53) (v := 0) dX12_weeks_53 rfl ?_
      refine x_istore_n (pc := 54) (lv2 := [_, _, _, _]) dX12_weeks_54 (by decide) rfl rfl ?_
      refine Li n 0 _ (by omega) ((h1.trans hs4.sq).tI (by omega)) ?_ ?_ ?_ c37 (fun i hi hne => ?_)
      · show s4.1 43 + s4.1 38 = _
        rw [c38, hs4.1 43 (by decide) (by decide) (by decide) (by decide), h3, nI_add]
        rfl
      · show s4.1 44 = _
        rw [hs4.1 44 (by decide) (by decide) (by decide) (by decide)]
      · show s4.1 45 = _
        rw [hs4.1 45 (by decide) (by decide) (by decide) (by decide)]
      · show s4.2.2 41 i = _
        rw [hs4.2.2 41 (by decide) (by decide) (by decide), (h2.2 i hi hne).2, if_neg (by omega)]
  refine x_aload_n (pc := 0) dX12_weeks_0 rfl ?_
  refine x_callV (pc := 1) (As := []) dX12_weeks_1 mX12_fromNow lk_12_317 hM.1 (c_fromNow hM) rfl rfl (Nat.le_of_ble_eq_true rfl) ⟨by decide, by decide⟩ ⟨Nat.zero_le _, Nat.zero_le _⟩ (k_rv ?_)
  refine x_aload_n (pc := 4) dX12_weeks_4 rfl ?_
  refine x_iconst (pc := 5) (v := 0) dX12_weeks_5 rfl ?_
  refine m_putI (pc := 6) hM dX12_weeks_6 fk_12_330 rfl (Or.inl rfl) ?_
  refine x_aload_n (pc := 9) dX12_weeks_9 rfl ?_
  refine x_iconst (pc := 10) (v := 0) dX12_weeks_10 rfl ?_
  refine m_putI (pc := 11) hM dX12_weeks_11 fk_12_333 rfl (Or.inl rfl) ?_
  refine x_aload_n (pc := 14) dX12_weeks_14 rfl ?_
  refine x_iconst (pc := 15) (v := 0) dX12_weeks_15 rfl ?_
  refine m_putI (pc := 16) hM dX12_weeks_16 fk_12_336 rfl (Or.inl rfl) ?_
  refine x_iconst (pc := 19) (v := 0) dX12_weeks_19 rfl ?_
  refine x_istore_n (pc := 20) (lv2 := [_, _, _, _]) dX12_weeks_20 (by decide) rfl rfl ?_
  exact Lo 7 0 _ _ _ (by omega) (((hq.tI (by omega)).tI (by omega)).tI (by omega)) hW rfl rfl rfl
end M54
