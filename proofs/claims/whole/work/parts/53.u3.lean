/-! the reference's tables of days; the best room -/
def ftab (s : MS) (D : PD) (n : Nat) (L : List Nat) : Prop := ∀ t, t < n → ∀ k, k < 7 → s.2.2 34 (7 * t + k) = nI (tabD D t k L)
theorem bg_0 {s : MS} : ∀ k, (∀ j, j < k → (it f_bg k s).2.2 34 j = 0) ∧ but 34 s (it f_bg k s)
  | 0 => ⟨fun j h => absurd h (by omega), but.rf⟩
  | k + 1 => by
    obtain ⟨h1, h2⟩ := bg_0 (s := s) k
    refine ⟨fun j hj => ?_, h2.tA⟩
    show up2 (it f_bg k s).2.2 34 k 0 34 j = 0
    rcases Nat.lt_or_ge j k with q | q
    · rw [up2_n (Or.inr (by omega)), h1 j q]
    · obtain rfl : j = k := by omega
      exact up2_s
theorem ad_i {σ : MS} {D : PD} {n i G : Nat} (h : RD σ D n) (hg : RG σ D n) (hi : i < n) (hG : G < 16) {s : MS} (hb : but 34 σ s) : ∀ k, k ≤ 7 → but 34 σ (it (f_ad G i) k s) ∧ (∀ k', k' < k → (it (f_ad G i) k s).2.2 34 (7 * i + k') = s.2.2 34 (7 * i + k') + nI (bdD D i k' G)) ∧ ∀ j, (j < 7 * i ∨ 7 * i + k ≤ j) → (it (f_ad G i) k s).2.2 34 j = s.2.2 34 j
  | 0, _ => ⟨hb, fun k' h => absurd h (by omega), fun _ _ => rfl⟩
  | k + 1, hk => by
    obtain ⟨h1, h2, h3⟩ := ad_i h hg hi hG hb k (by omega)
    have hq : sq σ (it (f_ad G i) k s) := sq.rf.but (Or.inl rfl) h1
    have e := (bd_a (h.sq hq) (hg.sq hq) hi (show k < 7 by omega) hG).1
    have eS : it (f_ad G i) (k + 1) s = tA (it (f_ad G i) k s) 34 (7 * i + k) ((it (f_ad G i) k s).2.2 34 (7 * i + k) + bdI (it (f_ad G i) k s) i k G) := rfl
    rw [eS]
    refine ⟨h1.tA, fun k' hk' => ?_, fun j hj => ?_⟩
    · show up2 _ 34 _ _ 34 _ = _
      rcases Nat.lt_or_ge k' k with q | q
      · rw [up2_n (Or.inr (by omega)), h2 k' q]
      · obtain rfl : k' = k := by omega
        rw [up2_s, e, h3 _ (Or.inr (by omega))]
    · show up2 _ 34 _ _ 34 _ = _
      rw [up2_n (Or.inr (by omega)), h3 j (by omega)]
theorem aD_i {σ : MS} {D : PD} {n G : Nat} (h : RD σ D n) (hg : RG σ D n) (hG : G < 16) : ∀ i, i ≤ n → but 34 σ (it (f_aD G) i σ) ∧ ∀ t, t < n → ∀ k, k < 7 → (it (f_aD G) i σ).2.2 34 (7 * t + k) = if t < i then σ.2.2 34 (7 * t + k) + nI (bdD D t k G) else σ.2.2 34 (7 * t + k)
  | 0, _ => ⟨but.rf, fun t _ k _ => by rw [if_neg (by omega)]; rfl⟩
  | i + 1, hi => by
    obtain ⟨h1, h2⟩ := aD_i h hg hG i (by omega)
    obtain ⟨g1, g2, g3⟩ := ad_i h hg (show i < n by omega) hG h1 7 (Nat.le_refl 7)
    refine ⟨g1, fun t ht k hk => ?_⟩
    show (it (f_ad G i) 7 (it (f_aD G) i σ)).2.2 34 (7 * t + k) = _
    rcases Nat.lt_trichotomy t i with q | q | q
    · rw [g3 _ (by omega), h2 t ht k hk, if_pos q, if_pos (by omega)]
    · subst q
      rw [g2 k hk, h2 t ht k hk, if_neg (by omega), if_pos (by omega)]
    · rw [g3 _ (by omega), h2 t ht k hk, if_neg (by omega), if_neg (by omega)]
theorem ftab_add {σ : MS} {D : PD} {n G : Nat} {L : List Nat} (h : RD σ D n) (hg : RG σ D n) (hG : G < 16) (hf : ftab σ D n L) : ftab (it (f_aD G) n σ) D n (G :: L) := fun t ht k hk => by
  rw [(aD_i h hg hG n (Nat.le_refl n)).2 t ht k hk, if_pos ht, hf t ht k hk, nI_add]
  rfl
/-- the best of all as numbers -/
def brC (b : BR) : Nat := (b.getD (0, [])).1
def brR (b : BR) (i : Nat) : Nat := (b.getD (0, [])).2.getD i 0
theorem BS.get {n : Nat} {s : MS} {b : BR} (h : BS n s b) (hb : b ≠ none) : s.1 38 = nI (brC b) ∧ ∀ i, i < n → s.2.2 37 i = nI (brR b i) - 1 := by
  rcases b with _ | r
  · exact absurd rfl hb
  · exact ⟨h.2.1, h.2.2.2⟩
theorem GH_of {σ : MS} {D : PD} {n M aw : Nat} {L : List Nat} {was : Nat → Nat} {ct : Bool} (h : RD σ D n) (hg : RG σ D n) (hf : ftab σ D n L) (h35 : σ.1 35 = awI aw) (h40 : σ.1 40 = nI M) (hM : M ≤ 5) (h42 : σ.1 42 = if ct = true then 1 else 0) (hw : ∀ t, t < n → t ≠ aw → was t < 7 ∧ σ.2.2 41 t = nI (was t) - 1) (haw : aw < n → n ≤ M) (hL : okL L) (hL7 : L.length ≤ 7) : GH σ n (prD D L was aw ct) (okA D aw) was (decide (M < n)) M := by
  have hn := h.1.1
  refine ⟨h.2.1, hn, h40, by omega, fun t ht => ⟨fun e => ?_, fun e => ?_⟩⟩
  · rw [h35, aw_eq (by omega)] at e
    subst e
    refine ⟨decide_eq_false (by have := haw ht; omega), if_pos rfl, fun k _ => ?_⟩
    unfold okA
    rw [if_pos rfl]
    cases k <;> rfl
  · rw [h35, aw_eq (by omega)] at e
    obtain ⟨w1, w2⟩ := hw t ht e
    refine ⟨w1, w2, fun k hk => ⟨?_, ?_, ?_⟩⟩
    · unfold okA
      rw [if_neg e, (h.2.2.1 t (by omega)).1]
      exact st_a (D 0 t) (h.1.2.1 t (by omega)).1 k hk
    · unfold prD
      rw [if_neg e, hf t ht k hk, h42, ((hg.2 t ht).1 k hk).1, ← nI_add]
      congr 1
      split
      · rfl
      · cases ct <;> rfl
    · unfold prD
      rw [if_neg e]
      have h1 := tab_le h.1 hg.1 ht hk (fun G hG => bd_le h.1 hg.1 ht hk hG) L hL
      have h2 := ((hg.1 t ht).1 k hk).1
      have h3 : 1300 * L.length ≤ 1300 * 7 := Nat.mul_le_mul_left _ hL7
      split
      · omega
      · split <;> omega
theorem okA_0 (D : PD) (aw t : Nat) : okA D aw t 0 = true := by unfold okA; split <;> rfl
theorem bsD_ne {D : PD} {n aw M : Nat} {L : List Nat} {was : Nat → Nat} {ct : Bool} (h : n ≤ M) : bsD D n L was aw ct M ≠ none := by
  unfold bsD
  rw [decide_eq_false (by omega)]
  exact bst_ne n 0 0 M (fun i _ _ => okA_0 D aw i)
theorem bsD_neC {D : PD} {n aw M : Nat} {L : List Nat} {was : Nat → Nat} {ct : Bool} (h : okr (okA D aw) was n) : bsD D n L was aw ct M ≠ none := bst_neC h n 0 0 M (by omega) (fun i _ _ => by simp [utk])
theorem pr_le {D : PD} {n aw t s : Nat} {L : List Nat} {was : Nat → Nat} {ct : Bool} (h : okD D n) (hg : okG D n) (ht : t < n) (hs : s < 7) (hL : okL L) (hL7 : L.length ≤ 7) : prD D L was aw ct t s ≤ 9200 := by
  unfold prD
  have h1 := tab_le h hg ht hs (fun G hG => bd_le h hg ht hs hG) L hL
  have h2 := ((hg t ht).1 s hs).1
  have h3 : 1300 * L.length ≤ 1300 * 7 := Nat.mul_le_mul_left _ hL7
  split
  · omega
  · split
    · omega
    · split <;> omega
/-- what is best: the cost is bounded, each thing stands, and those that are away are nowhere -/
theorem bsD_ok {D : PD} {n aw M : Nat} {L : List Nat} {was : Nat → Nat} {ct : Bool} (h : okD D n) (hg : okG D n) (hL : okL L) (hL7 : L.length ≤ 7) (hne : bsD D n L was aw ct M ≠ none) : brC (bsD D n L was aw ct M) ≤ 46000 ∧ ∀ i, i < n → brR (bsD D n L was aw ct M) i < 7 ∧ okA D aw i (brR (bsD D n L was aw ct M) i) = true := by
  have hb := bst_ok (pr := prD D L was aw ct) (ok := okA D aw) (was := was) (cn := decide (M < n)) (B := 9200) n 0 0 M (fun i s _ h1 h2 _ => pr_le h hg (by omega) h2 hL hL7)
  have hn := h.1
  unfold bsD at hne ⊢
  generalize bst (prD D L was aw ct) (okA D aw) was (decide (M < n)) n 0 0 M = b at hne hb
  rcases b with _ | r
  · exact absurd rfl hne
  · obtain ⟨h1, h2, h3⟩ := hb r rfl
    have h4 : n * 9200 ≤ 5 * 9200 := Nat.mul_le_mul_right _ hn
    refine ⟨?_, fun i hi => ?_⟩
    · show r.1 ≤ 46000; omega
    · have := h3 i hi
      rw [Nat.zero_add] at this
      exact this
section M53
variable {Γ : Gm} {μ : Mem} {a : Ma}
theorem c_goes0 (hM : MOK μ a) {s : MS} {D : PD} {n M aw : Nat} {L : List Nat} {was : Nat → Nat} {ct : Bool} (h : RD s D n) (hg : RG s D n) (hf : ftab s D n L) (h35 : s.1 35 = awI aw) (h39 : s.1 39 = 0) (h40 : s.1 40 = nI M) (hM5 : M ≤ 5) (h42 : s.1 42 = if ct = true then 1 else 0) (hw : ∀ t, t < n → t ≠ aw → was t < 7 ∧ s.2.2 41 t = nI (was t) - 1) (haw : aw < n → n ≤ M) (hL : okL L) (hL7 : L.length ≤ 7) : XM Γ zX12_goesThrough 8 0 0 [.ref a.1, .int 0, .int 0, .int 0, .int 0] (MV μ a s) (fun v μ2 => ∃ s' : MS, v = none ∧ μ2 = MV μ a s' ∧ gq s s' ∧ BS n s' (bsD D n L was aw ct M)) := by
  have hn := h.1.1
  refine XM_post (c_goes hM hn 6 0 0 0 0 s (Nat.zero_le _) (by omega) h.2.1) (fun v μ2 q => ?_)
  have g := (gt_bst 6 n 0 0 M 0 0 s none [] (by omega) (by omega) (GH_of h hg hf h35 h40 hM5 h42 hw haw hL hL7) h39 rfl (fun i hi => absurd hi (by simp)) (by omega) (by omega) (fun _ => by omega) (fun z => by have := of_decide_eq_false z; omega)).1
  rw [badd_0] at g
  exact ⟨_, q.1, q.2, gq_gt 6 0 0 0 0 s, g⟩
end M53
