/-! the class's table of the least -/
def cst (x : BR) : Nat := match x with
  | none => 1000000
  | some r => r.1
theorem cst_bmin : ∀ {x y : BR}, cst x ≤ 1000000 → cst y ≤ 1000000 → cst (bmin x y) = min (cst x) (cst y)
  | none, y, _, h => by
    show cst y = min 1000000 (cst y)
    omega
  | some a, none, h, _ => by
    show a.1 = min a.1 1000000
    have : a.1 ≤ 1000000 := h
    omega
  | some a, some b, _, _ => by
    show cst (if b.1 < a.1 then some b else some a) = min a.1 b.1
    split
    · show b.1 = _; omega
    · show a.1 = _; omega
/-- which spot it is: the first of the least -/
theorem bfold_first {f : Nat → BR} : ∀ {k : Nat} {r : Nat × List Nat}, bfold f k = some r → ∃ s, s < k ∧ f s = some r ∧ (∀ s', s' < s → ∀ q, f s' = some q → r.1 < q.1) ∧ ∀ s', s' < k → ∀ q, f s' = some q → r.1 ≤ q.1
  | 0, r, h => by cases h
  | k + 1, r, h => by
    rw [bfold] at h
    cases hx : bfold f k with
    | none =>
      rw [hx] at h
      have hk : f k = some r := h
      have hno : ∀ s', s' < k → f s' = none := fun s' hs' => by
        cases hf : f s' with
        | none => rfl
        | some q => exact absurd hx (bfold_ne hs' (by rw [hf]; exact fun z => by cases z))
      refine ⟨k, by omega, hk, fun s' hs' q hq => ?_, fun s' hs' q hq => ?_⟩
      · rw [hno s' hs'] at hq; cases hq
      · rcases Nat.lt_or_ge s' k with z | z
        · rw [hno s' z] at hq; cases hq
        · obtain rfl : s' = k := by omega
          rw [hk] at hq; cases hq; exact Nat.le_refl _
    | some a =>
      obtain ⟨s, h1, h2, h3, h4⟩ := bfold_first hx
      rw [hx] at h
      cases hy : f k with
      | none =>
        rw [hy] at h
        cases h
        refine ⟨s, by omega, h2, h3, fun s' hs' q hq => ?_⟩
        rcases Nat.lt_or_ge s' k with z | z
        · exact h4 s' z q hq
        · obtain rfl : s' = k := by omega
          rw [hy] at hq; cases hq
      | some c =>
        rw [hy, bmin] at h
        split at h
        · rename_i hlt
          cases h
          refine ⟨k, by omega, hy, fun s' hs' q hq => ?_, fun s' hs' q hq => ?_⟩
          · have := h4 s' hs' q hq; omega
          · rcases Nat.lt_or_ge s' k with z | z
            · have := h4 s' z q hq; omega
            · obtain rfl : s' = k := by omega
              rw [hy] at hq; cases hq; exact Nat.le_refl _
        · rename_i hlt
          cases h
          refine ⟨s, by omega, h2, h3, fun s' hs' q hq => ?_⟩
          rcases Nat.lt_or_ge s' k with z | z
          · exact h4 s' z q hq
          · obtain rfl : s' = k := by omega
            rw [hy] at hq; cases hq; omega
/-- what thing t on spot s and all behind it cost, as the class counts it -/
def bsf (pr : Nat → Nat → Nat) (ok : Nat → Nat → Bool) (was : Nat → Nat) (cn : Bool) (m t u l : Nat) (s : Nat) : BR := if ok t s = true ∧ utk u s = false ∧ (cn = false ∨ was t = s ∨ 0 < l) then badd (pr t s) [s] (bst pr ok was cn m (t + 1) (ust u s) (if was t = s then l else l - 1)) else none
theorem bst_s {pr : Nat → Nat → Nat} {ok : Nat → Nat → Bool} {was : Nat → Nat} {cn : Bool} {m t u l : Nat} : bst pr ok was cn (m + 1) t u l = bfold (bsf pr ok was cn m t u l) 7 := rfl
/-- the left-over moves, as the class has them: with nothing counted it stays at 0 -/
def lft (cn : Bool) (was : Nat → Nat) (t s l : Nat) : Nat := if cn = true ∧ was t ≠ s then l - 1 else l
def cfN (cp : Nat → Nat → Nat) (pr : Nat → Nat → Nat) (ok : Nat → Nat → Bool) (was : Nat → Nat) (cn : Bool) (m t u l : Nat) (s : Nat) : Nat := if (cn = true ∧ was t ≠ s ∧ l = 0) ∨ utk u s = true then 1000000 else cp t s + cst (bst pr ok was cn m (t + 1) (ust u s) (lft cn was t s l))
/-- prices: as they are where a thing may be, too much where it may not -/
def cpO (cp pr : Nat → Nat → Nat) (ok : Nat → Nat → Bool) (n : Nat) : Prop := ∀ t s, t < n → s < 7 → (ok t s = true → cp t s = pr t s ∧ pr t s ≤ 9200) ∧ (ok t s = false → 1000000 ≤ cp t s ∧ cp t s ≤ 2100000)
theorem cst_le {pr : Nat → Nat → Nat} {ok : Nat → Nat → Bool} {was : Nat → Nat} {cn : Bool} {n : Nat} (hB : ∀ t s, t < n → s < 7 → ok t s = true → pr t s ≤ 9200) (hn : n ≤ 5) {m t u l : Nat} (ht : t + m ≤ n) : cst (bst pr ok was cn m t u l) ≤ 1000000 ∧ (bst pr ok was cn m t u l ≠ none → cst (bst pr ok was cn m t u l) ≤ 46000) := by
  have h := bst_ok (pr := pr) (ok := ok) (was := was) (cn := cn) (B := 9200) m t u l (fun i s h1 h2 h3 h4 => hB i s (by omega) h3 h4)
  generalize bst pr ok was cn m t u l = x at h
  rcases x with _ | r
  · exact ⟨Nat.le_refl _, fun z => absurd rfl z⟩
  · have := (h r rfl).1
    have h5 : m * 9200 ≤ 5 * 9200 := Nat.mul_le_mul_right _ (by omega)
    have : r.1 ≤ 46000 := by omega
    exact ⟨by show r.1 ≤ 1000000; omega, fun _ => this⟩
theorem cf_cst {cp pr : Nat → Nat → Nat} {ok : Nat → Nat → Bool} {was : Nat → Nat} {cn : Bool} {n : Nat} (hc : cpO cp pr ok n) (hn : n ≤ 5) {m t u l s : Nat} (ht : t + m + 1 = n) (hs : s < 7) : cst (bsf pr ok was cn m t u l s) = min 1000000 (cfN cp pr ok was cn m t u l s) ∧ cfN cp pr ok was cn m t u l s ≤ 3200000 ∧ cst (bsf pr ok was cn m t u l s) ≤ 1000000 := by
  have hB : ∀ t s, t < n → s < 7 → ok t s = true → pr t s ≤ 9200 := fun t s h1 h2 h3 => ((hc t s h1 h2).1 h3).2
  obtain ⟨c1, c2⟩ := hc t s (by omega) hs
  have hl := cst_le (was := was) (cn := cn) (u := ust u s) (l := lft cn was t s l) hB hn (show t + 1 + m ≤ n by omega)
  have e : bst pr ok was cn m (t + 1) (ust u s) (lft cn was t s l) = bst pr ok was cn m (t + 1) (ust u s) (if was t = s then l else l - 1) := by
    unfold lft
    cases cn
    · exact bst_l _ _ _ _ _
    · by_cases h : was t = s
      · rw [if_pos h, if_neg (fun z => z.2 h)]
      · rw [if_neg h, if_pos ⟨rfl, h⟩]
  rw [e] at hl
  unfold cfN bsf
  rw [e]
  generalize bst pr ok was cn m (t + 1) (ust u s) (if was t = s then l else l - 1) = x at hl ⊢
  by_cases h1 : (cn = true ∧ was t ≠ s ∧ l = 0) ∨ utk u s = true
  · rw [if_pos h1, if_neg]
    · exact ⟨by show 1000000 = _; omega, by omega, Nat.le_refl _⟩
    · rintro ⟨z1, z2, z3⟩
      rcases h1 with ⟨y1, y2, y3⟩ | y
      · rcases z3 with z | z | z
        · rw [z] at y1; cases y1
        · exact y2 z
        · omega
      · rw [y] at z2; cases z2
  · rw [if_neg h1]
    have hu : utk u s = false := by
      cases h : utk u s
      · rfl
      · exact absurd (Or.inr h) h1
    have hm : cn = false ∨ was t = s ∨ 0 < l := by
      cases hcn : cn
      · exact Or.inl rfl
      · by_cases hw : was t = s
        · exact Or.inr (Or.inl hw)
        · refine Or.inr (Or.inr ?_)
          rcases Nat.eq_zero_or_pos l with q | q
          · exact absurd (Or.inl ⟨hcn, hw, q⟩) h1
          · exact q
    by_cases hok : ok t s = true
    · rw [if_pos ⟨hok, hu, hm⟩]
      obtain ⟨d1, d2⟩ := c1 hok
      rw [d1]
      rcases x with _ | r
      · have h3 : cst (none : BR) = 1000000 := rfl
        rw [show badd (pr t s) [s] none = none from rfl, h3]
        omega
      · have h3 : cst (some r : BR) = r.1 := rfl
        have h4 : cst (badd (pr t s) [s] (some r)) = pr t s + r.1 := rfl
        have := hl.2 (fun z => by cases z)
        rw [h3] at this
        rw [h4, h3]
        omega
    · rw [if_neg (fun z => hok z.1)]
      have hof : ok t s = false := by
        cases h : ok t s
        · rfl
        · exact absurd h hok
      obtain ⟨d1, d2⟩ := c2 hof
      have := hl.1
      refine ⟨?_, by omega, Nat.le_refl _⟩
      show 1000000 = min 1000000 (cp t s + cst x)
      omega
/-- the least of the first k spots -/
def mnN (cf : Nat → Nat) : Nat → Nat
  | 0 => 1000000
  | k + 1 => min (mnN cf k) (cf k)
theorem mn_fold {cp pr : Nat → Nat → Nat} {ok : Nat → Nat → Bool} {was : Nat → Nat} {cn : Bool} {n : Nat} (hc : cpO cp pr ok n) (hn : n ≤ 5) {m t u l : Nat} (ht : t + m + 1 = n) : ∀ k, k ≤ 7 → mnN (cfN cp pr ok was cn m t u l) k = cst (bfold (bsf pr ok was cn m t u l) k) ∧ cst (bfold (bsf pr ok was cn m t u l) k) ≤ 1000000
  | 0, _ => ⟨rfl, Nat.le_refl _⟩
  | k + 1, hk => by
    obtain ⟨h1, h2⟩ := mn_fold hc hn (was := was) (cn := cn) (u := u) (l := l) ht k (by omega)
    obtain ⟨g1, g2, g3⟩ := cf_cst hc hn (was := was) (cn := cn) (u := u) (l := l) ht (show k < 7 by omega)
    rw [mnN, bfold, h1, cst_bmin h2 g3, g1]
    omega
/-- the first spot whose cost is the least: where the class stops -/
theorem first_at {cp pr : Nat → Nat → Nat} {ok : Nat → Nat → Bool} {was : Nat → Nat} {cn : Bool} {n : Nat} (hc : cpO cp pr ok n) (hn : n ≤ 5) {m t u l : Nat} {r : Nat × List Nat} (ht : t + m + 1 = n) (h : bst pr ok was cn (m + 1) t u l = some r) : ∃ s q, s < 7 ∧ bst pr ok was cn m (t + 1) (ust u s) (lft cn was t s l) = some q ∧ r = (pr t s + q.1, s :: q.2) ∧ cfN cp pr ok was cn m t u l s = r.1 ∧ (∀ s', s' < s → cfN cp pr ok was cn m t u l s' ≠ r.1) ∧ utk u s = false ∧ (cn = true → was t ≠ s → 0 < l) := by
  have hB : ∀ t s, t < n → s < 7 → ok t s = true → pr t s ≤ 9200 := fun t s h1 h2 h3 => ((hc t s h1 h2).1 h3).2
  have hr := (cst_le (was := was) (cn := cn) (u := u) (l := l) hB hn (show t + (m + 1) ≤ n by omega)).2 (by rw [h]; exact fun z => by cases z)
  rw [h] at hr
  have hr2 : r.1 ≤ 46000 := hr
  rw [bst_s] at h
  obtain ⟨s, h1, h2, h3, h4⟩ := bfold_first h
  obtain ⟨g1, -, -⟩ := cf_cst hc hn (was := was) (cn := cn) (u := u) (l := l) ht h1
  have h2' := h2
  unfold bsf at h2'
  split at h2'
  · rename_i hcd
    obtain ⟨q, hq, e⟩ := badd_some h2'
    have e2 : bst pr ok was cn m (t + 1) (ust u s) (lft cn was t s l) = some q := by
      rw [← hq]
      unfold lft
      cases cn
      · exact bst_l _ _ _ _ _
      · by_cases h : was t = s
        · rw [if_pos h, if_neg (fun z => z.2 h)]
        · rw [if_neg h, if_pos ⟨rfl, h⟩]
    refine ⟨s, q, h1, e2, e, ?_, fun s' hs' z => ?_, hcd.2.1, fun c1 c2 => ?_⟩
    · rw [h2] at g1
      have : cst (some r : BR) = r.1 := rfl
      rw [this] at g1
      omega
    · obtain ⟨g2, -, -⟩ := cf_cst hc hn (was := was) (cn := cn) (u := u) (l := l) ht (show s' < 7 by omega)
      rw [z] at g2
      cases hx : bsf pr ok was cn m t u l s' with
      | none =>
        rw [hx] at g2
        have : cst (none : BR) = 1000000 := rfl
        omega
      | some q' =>
        have := h3 s' hs' q' hx
        rw [hx] at g2
        have h5 : cst (some q' : BR) = q'.1 := rfl
        omega
    · rcases hcd.2.2 with z | z | z
      · rw [z] at c1; cases c1
      · exact absurd z c2
      · exact z
  · cases h2'
