/-! what is sought, in plain numbers -/
abbrev BR : Type := Option (Nat × List Nat)
def bmin : BR → BR → BR
  | none, y => y
  | some a, none => some a
  | some a, some b => if b.1 < a.1 then some b else some a
def bfold (f : Nat → BR) : Nat → BR
  | 0 => none
  | k + 1 => bmin (bfold f k) (f k)
def badd (c : Nat) (p : List Nat) (x : BR) : BR := x.map (fun r => (c + r.1, p ++ r.2))
theorem bmin_n (x : BR) : bmin x none = x := by cases x <;> rfl
theorem bmin_assoc (x y z : BR) : bmin (bmin x y) z = bmin x (bmin y z) := by
  rcases x with _ | ⟨a, p⟩
  · rfl
  rcases y with _ | ⟨b, q⟩
  · rfl
  rcases z with _ | ⟨c, r⟩
  · rw [bmin_n, bmin_n]
  show bmin (if b < a then some (b, q) else some (a, p)) (some (c, r)) = bmin (some (a, p)) (if c < b then some (c, r) else some (b, q))
  by_cases h1 : b < a
  · rw [if_pos h1]
    by_cases h2 : c < b
    · rw [if_pos h2]
      show (if c < b then _ else _) = (if c < a then _ else _)
      rw [if_pos h2, if_pos (by omega)]
    · rw [if_neg h2]
      show (if c < b then _ else _) = (if b < a then _ else _)
      rw [if_neg h2, if_pos h1]
  · rw [if_neg h1]
    by_cases h2 : c < b
    · rw [if_pos h2]
    · rw [if_neg h2]
      show (if c < a then _ else _) = (if b < a then _ else _)
      rw [if_neg (by omega), if_neg h1]
theorem badd_bmin (c : Nat) (p : List Nat) (x y : BR) : badd c p (bmin x y) = bmin (badd c p x) (badd c p y) := by
  rcases x with _ | ⟨a, q⟩
  · rfl
  rcases y with _ | ⟨b, r⟩
  · rfl
  show badd c p (if b < a then some (b, r) else some (a, q)) = (if c + b < c + a then some (c + b, p ++ r) else some (c + a, p ++ q))
  by_cases h : b < a
  · rw [if_pos h, if_pos (by omega)]; rfl
  · rw [if_neg h, if_neg (by omega)]; rfl
theorem badd_badd (c d : Nat) (p q : List Nat) (x : BR) : badd c p (badd d q x) = badd (c + d) (p ++ q) x := by
  cases x
  · rfl
  · simp [badd, Nat.add_assoc]
theorem badd_0 (x : BR) : badd 0 [] x = x := by
  cases x
  · rfl
  · simp [badd]
/-- is a spot taken; a spot is taken (bit p for spot p + 1) -/
def utk (u s : Nat) : Bool := s != 0 && u.testBit (s - 1)
def ust (u s : Nat) : Nat := if s = 0 then u else u ||| 2 ^ (s - 1)
/-- the best of all ways to put the last m things from thing t on: u taken, l more may be put otherwise (if that is counted) -/
def bst (pr : Nat → Nat → Nat) (ok : Nat → Nat → Bool) (was : Nat → Nat) (cn : Bool) : Nat → Nat → Nat → Nat → BR
  | 0, _, _, _ => some (0, [])
  | m + 1, t, u, l => bfold (fun s => if ok t s = true ∧ utk u s = false ∧ (cn = false ∨ was t = s ∨ 0 < l) then badd (pr t s) [s] (bst pr ok was cn m (t + 1) (ust u s) (if was t = s then l else l - 1)) else none) 7
theorem bfold_congr {f g : Nat → BR} : ∀ {k : Nat}, (∀ s, s < k → f s = g s) → bfold f k = bfold g k
  | 0, _ => rfl
  | k + 1, h => by rw [bfold, bfold, bfold_congr (k := k) (fun s hs => h s (by omega)), h k (by omega)]
/-- a property of a fold's result -/
theorem bfold_mem {f : Nat → BR} {P : Nat × List Nat → Prop} : ∀ {k : Nat}, (∀ s, s < k → ∀ r, f s = some r → P r) → ∀ r, bfold f k = some r → P r
  | 0, _, r, h => by cases h
  | k + 1, hf, r, h => by
    rw [bfold] at h
    have ih := bfold_mem (f := f) (P := P) (k := k) (fun s hs => hf s (by omega))
    have hk := hf k (by omega)
    generalize bfold f k = x at h ih
    generalize f k = y at h hk
    rcases x with _ | a
    · exact hk r h
    rcases y with _ | b
    · exact ih r h
    · rw [bmin] at h
      split at h
      · exact hk r h
      · exact ih r h
theorem badd_some {c : Nat} {p : List Nat} {x : BR} {r : Nat × List Nat} (h : badd c p x = some r) : ∃ q, x = some q ∧ r = (c + q.1, p ++ q.2) := by
  rcases x with _ | q
  · cases h
  · exact ⟨q, rfl, (Option.some.inj h).symm⟩
/-- what comes out: as many spots as things, each there is, the cost bounded, each as may be -/
theorem bst_ok {pr : Nat → Nat → Nat} {ok : Nat → Nat → Bool} {was : Nat → Nat} {cn : Bool} {B : Nat} : ∀ (m t u l : Nat), (∀ i s, t ≤ i → i < t + m → s < 7 → ok i s = true → pr i s ≤ B) → ∀ r, bst pr ok was cn m t u l = some r → r.1 ≤ m * B ∧ r.2.length = m ∧ ∀ j, j < m → r.2.getD j 0 < 7 ∧ ok (t + j) (r.2.getD j 0) = true
  | 0, t, u, l, hB, r, h => by
    rw [bst] at h
    cases h
    exact ⟨Nat.zero_le _, rfl, fun j hj => absurd hj (by omega)⟩
  | m + 1, t, u, l, hB, r, h => by
    rw [bst] at h
    refine bfold_mem (P := fun r => r.1 ≤ (m + 1) * B ∧ r.2.length = m + 1 ∧ ∀ j, j < m + 1 → r.2.getD j 0 < 7 ∧ ok (t + j) (r.2.getD j 0) = true) (fun s hs r hr => ?_) r h
    split at hr
    · rename_i hc
      obtain ⟨q, hq, rfl⟩ := badd_some hr
      obtain ⟨h1, h2, h3⟩ := bst_ok m (t + 1) _ _ (fun i s h1 h2 h3 h4 => hB i s (by omega) (by omega) h3 h4) q hq
      have h4 := hB t s (Nat.le_refl t) (by omega) hs hc.1
      refine ⟨?_, by simp [h2], fun j hj => ?_⟩
      · show pr t s + q.1 ≤ (m + 1) * B
        rw [Nat.add_mul]; omega
      · rcases j with _ | j
        · exact ⟨hs, hc.1⟩
        · have := h3 j (by omega)
          rw [show t + 1 + j = t + (j + 1) by omega] at this
          exact this
    · cases hr
theorem bfold_ne {f : Nat → BR} {s : Nat} : ∀ {k : Nat}, s < k → f s ≠ none → bfold f k ≠ none
  | 0, h, _ => absurd h (by omega)
  | k + 1, h, hs => by
    rw [bfold]
    rcases Nat.lt_or_ge s k with q | q
    · have := bfold_ne (f := f) (s := s) (k := k) q hs
      generalize bfold f k = x at this
      rcases x with _ | a
      · exact absurd rfl this
      · generalize f k = y
        rcases y with _ | b
        · exact fun e => by cases e
        · rw [bmin]; split <;> exact fun e => by cases e
    · obtain rfl : s = k := by omega
      generalize f s = y at hs
      rcases y with _ | b
      · exact absurd rfl hs
      · generalize bfold f s = x
        rcases x with _ | a
        · exact fun e => by cases e
        · rw [bmin]; split <;> exact fun e => by cases e
theorem badd_ne {c : Nat} {p : List Nat} {x : BR} (h : x ≠ none) : badd c p x ≠ none := by
  rcases x with _ | a
  · exact absurd rfl h
  · exact fun e => by cases e
/-- none is left if nothing is counted: all nowhere -/
theorem bst_ne {pr : Nat → Nat → Nat} {ok : Nat → Nat → Bool} {was : Nat → Nat} : ∀ (m t u l : Nat), (∀ i, t ≤ i → i < t + m → ok i 0 = true) → bst pr ok was false m t u l ≠ none
  | 0, _, _, _, _ => fun e => by cases e
  | m + 1, t, u, l, h => by
    rw [bst]
    refine bfold_ne (s := 0) (by omega) ?_
    rw [if_pos ⟨h t (Nat.le_refl t) (by omega), rfl, Or.inl rfl⟩]
    exact badd_ne (bst_ne m (t + 1) _ _ (fun i h1 h2 => h i (by omega) (by omega)))
/-- a room: each thing as may be, no two on one place -/
def okr (ok : Nat → Nat → Bool) (was : Nat → Nat) (n : Nat) : Prop := (∀ i, i < n → was i < 7 ∧ ok i (was i) = true) ∧ ∀ i j, i < j → j < n → was i = was j → was i = 0
/-- or else where they are -/
theorem utk_ust (s s' u : Nat) (h : s' < 7) (hs : s < 7) (hne : s ≠ s' ∨ s' = 0) (hu : utk u s' = false) : utk (ust u s) s' = false := by
  unfold utk ust at *
  by_cases h0 : s' = 0
  · simp [h0]
  · simp only [bne_iff_ne, ne_eq, h0, not_false_eq_true, decide_true, Bool.true_and, Bool.and_eq_false_imp] at hu ⊢
    intro _
    split
    · simpa [h0] using hu
    · rename_i hs0
      rw [Nat.testBit_or, Nat.testBit_two_pow]
      have h1 : u.testBit (s' - 1) = false := by simpa [h0] using hu
      rw [h1]
      simp
      rcases hne with h | h <;> omega
theorem bst_neC {pr : Nat → Nat → Nat} {ok : Nat → Nat → Bool} {was : Nat → Nat} {cn : Bool} {n : Nat} (hr : okr ok was n) : ∀ (m t u l : Nat), t + m = n → (∀ i, t ≤ i → i < n → utk u (was i) = false) → bst pr ok was cn m t u l ≠ none
  | 0, _, _, _, _, _ => fun e => by cases e
  | m + 1, t, u, l, ht, hu => by
    rw [bst]
    have h1 := hr.1 t (by omega)
    refine bfold_ne (s := was t) h1.1 ?_
    rw [if_pos ⟨h1.2, hu t (Nat.le_refl t) (by omega), Or.inr (Or.inl rfl)⟩]
    refine badd_ne (bst_neC hr m (t + 1) _ _ (by omega) (fun i hi hin => ?_))
    refine utk_ust _ _ _ (hr.1 i hin).1 h1.1 ?_ (hu i (by omega) hin)
    by_cases he : was t = was i
    · exact Or.inr (by rw [← he]; exact hr.2 t i (by omega) hin he)
    · exact Or.inl he
/-- if nothing is counted the count is idle -/
theorem bst_l {pr : Nat → Nat → Nat} {ok : Nat → Nat → Bool} {was : Nat → Nat} : ∀ (m t u l l' : Nat), bst pr ok was false m t u l = bst pr ok was false m t u l'
  | 0, _, _, _, _ => rfl
  | m + 1, t, u, l, l' => by
    rw [bst, bst]
    refine bfold_congr (fun s _ => ?_)
    rw [bst_l m (t + 1) (ust u s) _ (if was t = s then l' else l' - 1)]
    simp
/-- all that is spoken of alike, the same comes out -/
theorem bst_congr {pr pr' : Nat → Nat → Nat} {ok ok' : Nat → Nat → Bool} {was was' : Nat → Nat} {cn : Bool} {n : Nat} (h : ∀ i s, i < n → s < 7 → ok i s = ok' i s ∧ (ok i s = true → pr i s = pr' i s)) (hw : cn = true → ∀ i, i < n → was i = was' i) : ∀ (m t u l : Nat), t + m = n → bst pr ok was cn m t u l = bst pr' ok' was' cn m t u l
  | 0, _, _, _, _ => rfl
  | m + 1, t, u, l, ht => by
    rw [bst, bst]
    refine bfold_congr (fun s hs => ?_)
    obtain ⟨h1, h2⟩ := h t s (by omega) hs
    rw [bst_congr h hw m (t + 1) (ust u s) (if was t = s then l else l - 1) (by omega)]
    by_cases hk : ok t s = true
    · rw [h2 hk, ← h1]
      cases cn
      · rw [bst_l m (t + 1) (ust u s) _ (if was' t = s then l else l - 1)]
        simp
      · rw [hw rfl t (by omega)]
    · rw [if_neg (fun z => hk z.1), if_neg (fun z => hk (h1.trans z.1))]
