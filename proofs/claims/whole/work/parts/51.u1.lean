/-! the reference goes through all: the best comes out -/
theorem bits_a : ∀ u, u < 64 → ∀ k, k < 7 → (k ≠ 0 → ((nI u >>> ((nI k - 1) &&& 31)) &&& 1 = 0 ↔ utk u k = false)) ∧ (if nI k - 1 = -1 then nI u else nI u ||| ((1 : Int32) <<< ((nI k - 1) &&& 31))) = nI (ust u k) ∧ ust u k < 64 ∧ (nI k - 1 = -1 ↔ k = 0) := by decide +kernel
theorem sp_eq : ∀ k, k < 7 → ∀ j, j < 7 → (nI k - 1 = nI j - 1 ↔ k = j) := by decide +kernel
def BS (n : Nat) (s : MS) : BR → Prop
  | none => s.1 39 = 0
  | some r => s.1 39 = 1 ∧ s.1 38 = nI r.1 ∧ r.1 < 2 ^ 30 ∧ ∀ i, i < n → s.2.2 37 i = nI (r.2.getD i 0) - 1
/-- what going through all finds as it stands -/
def GH (σ : MS) (n : Nat) (pr : Nat → Nat → Nat) (ok : Nat → Nat → Bool) (was : Nat → Nat) (cn : Bool) (M : Nat) : Prop :=
  σ.1 15 = nI n ∧ n ≤ 5 ∧ σ.1 40 = nI M ∧ M < 100 ∧ ∀ t, t < n → (nI t = σ.1 35 → cn = false ∧ pr t 0 = 0 ∧ ∀ k, k < 7 → ok t k = decide (k = 0)) ∧ (¬ nI t = σ.1 35 → was t < 7 ∧ σ.2.2 41 t = nI (was t) - 1 ∧ ∀ k, k < 7 → (ok t k = true ↔ k = 0 ∨ ¬ stI (σ.2.2 10 t) (nI k - 1) = 0) ∧ σ.2.2 34 (7 * t + k) + (if k = was t then 0 else if σ.1 42 = 0 then 0 else σ.2.2 32 (7 * t + k)) = nI (pr t k) ∧ pr t k < 100000)
theorem GH.gq {σ s : MS} {n : Nat} {pr : Nat → Nat → Nat} {ok : Nat → Nat → Bool} {was : Nat → Nat} {cn : Bool} {M : Nat} (h : GH σ n pr ok was cn M) (g : gq σ s) : GH s n pr ok was cn M := by
  unfold GH at h ⊢
  rw [g.1 15 (by decide) (by decide), g.1 40 (by decide) (by decide), g.1 35 (by decide) (by decide), g.1 42 (by decide) (by decide), g.2.2 41 (by decide) (by decide), g.2.2 10 (by decide) (by decide), g.2.2 34 (by decide) (by decide), g.2.2 32 (by decide) (by decide)]
  exact h
theorem it_br {s : MS} : ∀ n, (it f_br n s).1 = s.1 ∧ (it f_br n s).2.2 36 = s.2.2 36 ∧ ∀ i, i < n → (it f_br n s).2.2 37 i = s.2.2 36 i
  | 0 => ⟨rfl, rfl, fun i h => absurd h (by omega)⟩
  | n + 1 => by
    obtain ⟨h1, h2, h3⟩ := it_br (s := s) n
    refine ⟨h1, h2, fun i hi => ?_⟩
    show up2 (it f_br n s).2.2 37 n ((it f_br n s).2.2 36 n) 37 i = _
    rcases Nat.lt_or_ge i n with q | q
    · rw [up2_n (Or.inr (by omega)), h3 i q]
    · obtain rfl : i = n := by omega
      rw [up2_s, h2]
/-- room as it is known up to t -/
def pfx (s : MS) (pre : List Nat) : Prop := ∀ i, i < pre.length → s.2.2 36 i = nI (pre.getD i 0) - 1
theorem pfx.snoc {s : MS} {pre : List Nat} {t k : Nat} (h : pfx s pre) (ht : pre.length = t) : pfx (tA s 36 t (nI k - 1)) (pre ++ [k]) := by
  intro i hi
  rw [List.length_append] at hi
  show up2 s.2.2 36 t (nI k - 1) 36 i = _
  rcases Nat.lt_or_ge i t with q | q
  · rw [up2_n (Or.inr (by omega)), h i (by omega)]
    simp [List.getD_eq_getElem?_getD, List.getElem?_append_left (show i < pre.length by omega)]
  · have : i = t := by
      have : [k].length = 1 := rfl
      omega
    subst this
    rw [up2_s]
    simp [List.getD_eq_getElem?_getD, ← ht]
theorem pfx.of {s s' : MS} {pre : List Nat} (h : pfx s pre) (g : ∀ i, i < pre.length → s'.2.2 36 i = s.2.2 36 i) : pfx s' pre := fun i hi => (g i hi).trans (h i hi)
theorem BS.tA {n t : Nat} {v : Int32} {s : MS} : ∀ {b : BR}, BS n s b → BS n (tA s 36 t v) b
  | none, h => h
  | some r, h => ⟨h.1, h.2.1, h.2.2.1, fun i hi => by rw [tA_n (by decide)]; exact h.2.2.2 i hi⟩
set_option maxRecDepth 10000 in
theorem gt_bst {n M : Nat} {pr : Nat → Nat → Nat} {ok : Nat → Nat → Bool} {was : Nat → Nat} {cn : Bool} : ∀ (N m t u l v sc : Nat) (s : MS) (b : BR) (pre : List Nat), m < N → t + m = n → GH s n pr ok was cn M → BS n s b → pre.length = t → pfx s pre → u < 64 → sc + m * 100000 < 1000000 → (cn = true → v + l = M) → (cn = false → v + m ≤ M) →
    BS n (gt N t (nI u) (nI sc) (nI v) s) (bmin b (badd sc pre (bst pr ok was cn m t u l))) ∧ ∀ i, i < t → (gt N t (nI u) (nI sc) (nI v) s).2.2 36 i = s.2.2 36 i
  | 0, m, _, _, _, _, _, _, _, _, hm, _, _, _, _, _, _, _, _, _ => absurd hm (by omega)
  | N + 1, 0, t, u, l, v, sc, s, b, pre, _, ht, hG, hB, hpl, hp, _, hsc, _, _ => by
    obtain ⟨h15, hn, -⟩ := hG
    obtain rfl : t = n := by omega
    rw [gt, if_pos h15.symm, bst]
    have e : badd sc pre (some (0, [])) = some (sc, pre) := by simp [badd]
    rw [e, h15, nn_nI (by omega)]
    have hnew : BS t (it f_br t (tI (tI s 39 1) 38 (nI sc))) (some (sc, pre)) := by
      obtain ⟨g1, g2, g3⟩ := it_br (s := tI (tI s 39 1) 38 (nI sc)) t
      refine ⟨by rw [g1]; rfl, by rw [g1]; rfl, by show sc < 2 ^ 30; omega, fun i hi => ?_⟩
      rw [g3 i hi]
      exact hp i (by omega)
    have hkeep : ∀ i, i < t → (it f_br t (tI (tI s 39 1) 38 (nI sc))).2.2 36 i = s.2.2 36 i := fun i _ => by
      rw [(it_br t).2.1]
      rfl
    rcases b with _ | r
    · have hB0 : s.1 39 = 0 := hB
      rw [if_pos (Or.inl hB0)]
      exact ⟨hnew, hkeep⟩
    · obtain ⟨h1, h2, h3, h4⟩ := hB
      rw [bmin]
      by_cases hlt : sc < r.1
      · rw [if_pos (Or.inr (by rw [h2]; exact nI_lt hlt (by omega))), if_pos hlt]
        exact ⟨hnew, hkeep⟩
      · rw [if_neg (by rintro (z | z); rw [h1] at z; exact absurd z (by decide); rw [h2] at z; exact nI_nlt (by omega) (by omega) z), if_neg hlt]
        exact ⟨⟨h1, h2, h3, h4⟩, fun _ _ => rfl⟩
  | N + 1, m + 1, t, u, l, v, sc, s, b, pre, hm, ht, hG, hB, hpl, hp, hu, hsc, hc, hcn => by
    have IH := gt_bst (n := n) (M := M) (pr := pr) (ok := ok) (was := was) (cn := cn) N m (t + 1)
    have h15 := hG.1
    have hn := hG.2.1
    have h40 := hG.2.2.1
    obtain ⟨hA, hO⟩ := hG.2.2.2.2 t (by omega)
    rw [gt, if_neg (by rw [h15]; exact fun z => absurd ((nI_eq (by omega) (by omega)).mp z) (by omega)), bst]
    by_cases haw : nI t = s.1 35
    · rw [if_pos haw]
      obtain ⟨hcf, hp0, hok⟩ := hA haw
      have e : bfold (fun k => if ok t k = true ∧ utk u k = false ∧ (cn = false ∨ was t = k ∨ 0 < l) then badd (pr t k) [k] (bst pr ok was cn m (t + 1) (ust u k) (if was t = k then l else l - 1)) else none) 7 = badd 0 [0] (bst pr ok was cn m (t + 1) u l) := by
        have e0 : ∀ k, 0 < k → k < 7 → (if ok t k = true ∧ utk u k = false ∧ (cn = false ∨ was t = k ∨ 0 < l) then badd (pr t k) [k] (bst pr ok was cn m (t + 1) (ust u k) (if was t = k then l else l - 1)) else none) = none := fun k h1 h2 => by
          rw [if_neg]
          rintro ⟨z, -⟩
          rw [hok k h2] at z
          have := of_decide_eq_true z
          omega
        rw [bfold, e0 6 (by omega) (by omega), bmin_n, bfold, e0 5 (by omega) (by omega), bmin_n, bfold, e0 4 (by omega) (by omega), bmin_n, bfold, e0 3 (by omega) (by omega), bmin_n, bfold, e0 2 (by omega) (by omega), bmin_n, bfold, e0 1 (by omega) (by omega), bmin_n]
        show bmin none (if ok t 0 = true ∧ utk u 0 = false ∧ (cn = false ∨ was t = 0 ∨ 0 < l) then _ else none) = _
        rw [if_pos ⟨by rw [hok 0 (by omega)]; rfl, rfl, Or.inl hcf⟩, hp0]
        subst hcf
        rw [bst_l m (t + 1) _ _ l]
        rfl
      rw [e, badd_badd]
      have hgq : gq s (tA s 36 t (-1)) := gq.tA (Or.inl rfl)
      have h0 : pfx (tA s 36 t (-1)) (pre ++ [0]) := by
        have z := pfx.snoc (k := 0) hp hpl
        rwa [show nI 0 - 1 = -1 from rfl] at z
      have hsc2 : sc + m * 100000 < 1000000 := Nat.lt_of_le_of_lt (Nat.add_le_add_left (Nat.mul_le_mul_right _ (Nat.le_succ m)) sc) hsc
      obtain ⟨g1, g2⟩ := IH u l v sc (tA s 36 t (-1)) b (pre ++ [0]) (by omega) (by omega) (hG.gq hgq) (BS.tA hB) (by simp [hpl]) h0 hu hsc2 hc (fun z => by have := hcn z; omega)
      rw [Nat.add_zero]
      refine ⟨g1, fun i hi => (g2 i (by omega)).trans ?_⟩
      show up2 s.2.2 36 t (-1) 36 i = _
      exact up2_n (Or.inr (by omega))
    · rw [if_neg haw]
      obtain ⟨hw, h41, hk7⟩ := hO haw
      have FO : ∀ k, k ≤ 7 → BS n (it (gst (gt N) t (nI u) (nI sc) (nI v)) k s) (bmin b (badd sc pre (bfold (fun k => if ok t k = true ∧ utk u k = false ∧ (cn = false ∨ was t = k ∨ 0 < l) then badd (pr t k) [k] (bst pr ok was cn m (t + 1) (ust u k) (if was t = k then l else l - 1)) else none) k))) ∧ ∀ i, i < t → (it (gst (gt N) t (nI u) (nI sc) (nI v)) k s).2.2 36 i = s.2.2 36 i := by
        intro k
        induction k with
        | zero => exact fun _ => ⟨by show BS n s (bmin b none); rw [bmin_n]; exact hB, fun _ _ => rfl⟩
        | succ k ih =>
          intro hk
          obtain ⟨i1, i2⟩ := ih (by omega)
          have hq : gq s (it (gst (gt N) t (nI u) (nI sc) (nI v)) k s) := gq_it (gq_gst N t (nI u) (nI sc) (nI v)) k s
          have eS : it (gst (gt N) t (nI u) (nI sc) (nI v)) (k + 1) s = gst (gt N) t (nI u) (nI sc) (nI v) k (it (gst (gt N) t (nI u) (nI sc) (nI v)) k s) := rfl
          rw [eS, bfold, badd_bmin, ← bmin_assoc]
          generalize it (gst (gt N) t (nI u) (nI sc) (nI v)) k s = w at i1 i2 hq ⊢
          generalize bmin b (badd sc pre (bfold _ k)) = b1 at i1 ⊢
          have hGw := hG.gq hq
          obtain ⟨-, hOw⟩ := hGw.2.2.2.2 t (by omega)
          obtain ⟨-, w41, wk7⟩ := hOw (by rw [hq.1 35 (by decide) (by decide)]; exact haw)
          obtain ⟨wok, wpr, wlt⟩ := wk7 k (by omega)
          have w40 := hGw.2.2.1
          obtain ⟨q1, q2, q3, q4⟩ := bits_a u hu k (by omega)
          unfold gst
          rw [q2]
          have hcond :  (nI k - 1 = -1 ∨ ((nI u >>> ((nI k - 1) &&& 31)) &&& 1 = 0 ∧ ¬ stI (w.2.2 10 t) (nI k - 1) = 0)) ↔ (ok t k = true ∧ utk u k = false) := by
            rw [q4]
            by_cases hk0 : k = 0
            · subst hk0
              exact ⟨fun _ => ⟨wok.mpr (Or.inl rfl), rfl⟩, fun _ => Or.inl rfl⟩
            · rw [wok, q1 hk0]
              exact ⟨fun h => by rcases h with h | h; exact absurd h hk0; exact ⟨Or.inr h.2, h.1⟩, fun h => Or.inr ⟨h.2, h.1.resolve_left hk0⟩⟩
          by_cases hcd : ok t k = true ∧ utk u k = false
          · rw [if_pos (hcond.mpr hcd), w41]
            have hpf : pfx (tA w 36 t (nI k - 1)) (pre ++ [k]) := pfx.snoc (hp.of (fun i hi => i2 i (by omega))) hpl
            have hGt := hGw.gq (gq.tA (i := t) (v := nI k - 1) (Or.inl rfl))
            have hkeep : ∀ i, i < t → (tA w 36 t (nI k - 1)).2.2 36 i = s.2.2 36 i := fun i hi => by
              rw [← i2 i hi]
              exact up2_n (Or.inr (by omega))
            by_cases hsame : k = was t
            · rw [if_pos ((sp_eq k (by omega) (was t) hw).mpr hsame), if_pos ⟨hcd.1, hcd.2, Or.inr (Or.inl hsame.symm)⟩, badd_badd, if_pos hsame.symm]
              rw [if_pos hsame] at wpr
              rw [Int32.add_assoc, wpr, nI_add]
              obtain ⟨g1, g2⟩ := IH (ust u k) l v (sc + pr t k) _ b1 (pre ++ [k]) (by omega) (by omega) hGt i1.tA (by simp [hpl]) hpf q3 (by omega) hc (fun z => by have := hcn z; omega)
              exact ⟨g1, fun i hi => (g2 i (by omega)).trans (hkeep i hi)⟩
            · rw [if_neg (fun z => hsame ((sp_eq k (by omega) (was t) hw).mp z)), w40]
              have hM := hG.2.2.2.1
              have hvM : v ≤ M := by
                cases hcv : cn
                · have := hcn hcv; omega
                · have := hc hcv; omega
              by_cases hfull : nI M ≤ nI v
              · have hMv : M ≤ v := (nI_leI (by omega) (by omega)).mp hfull
                rw [if_pos hfull, if_neg, show badd sc pre (none : BR) = none from rfl, bmin_n]
                · exact ⟨i1, i2⟩
                · rintro ⟨-, -, z | z | z⟩
                  · have := hcn z; omega
                  · exact hsame z.symm
                  · cases hcv : cn
                    · have := hcn hcv; omega
                    · have := hc hcv; omega
              · have hMv : v < M := by
                  have : ¬ M ≤ v := fun z => hfull ((nI_leI (by omega) (by omega)).mpr z)
                  omega
                have hpc : ok t k = true ∧ utk u k = false ∧ (cn = false ∨ was t = k ∨ 0 < l) := ⟨hcd.1, hcd.2, by
                  cases hcv : cn
                  · exact Or.inl rfl
                  · exact Or.inr (Or.inr (by have := hc hcv; omega))⟩
                rw [if_neg hfull, if_pos hpc, badd_badd, nI_1]
                rw [if_neg (show ¬ was t = k from fun z => hsame z.symm)]
                rw [if_neg hsame] at wpr
                rw [Int32.add_assoc, wpr, nI_add]
                obtain ⟨g1, g2⟩ := IH (ust u k) (l - 1) (v + 1) (sc + pr t k) _ b1 (pre ++ [k]) (by omega) (by omega) hGt i1.tA (by simp [hpl]) hpf q3 (by omega) (fun z => by have := hc z; omega) (fun z => by have := hcn z; omega)
                exact ⟨g1, fun i hi => (g2 i (by omega)).trans (hkeep i hi)⟩
          · rw [if_neg (fun z => hcd (hcond.mp z)), if_neg (fun z => hcd ⟨z.1, z.2.1⟩), show badd sc pre (none : BR) = none from rfl, bmin_n]
            exact ⟨i1, i2⟩
      exact FO 7 (Nat.le_refl 7)
