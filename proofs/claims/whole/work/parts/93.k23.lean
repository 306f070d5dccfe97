/-! the two readers side by side: tokens -/
section M93
variable {σ : MS} {f n : Nat}
theorem sBt_facts : ∀ i : Nat, i < 13 → i ≠ 0 → sLn i < 8 ∧ 0 < sLn i ∧ (∀ j : Nat, j < sLn i → ¬ sBt i j = 0) ∧ ∀ j : Nat, j < 8 → ¬ j < sLn i → sBt i j = 0 := by decide +kernel
theorem sBt_one : ∀ i : Nat, i < 13 → ∀ j : Nat, j < 13 → sLn i = sLn j → (∀ k : Nat, k < sLn i → sBt i k = sBt j k) → i = j := by decide +kernel
theorem weB_all : ∀ (m h j : Nat), h ≤ j → j < weB σ f n m h → 97 ≤ bA σ f n j ∧ bA σ f n j ≤ 122
  | 0, h, j, h1, h2 => absurd h2 (Nat.not_lt.mpr h1)
  | m + 1, h, j, h1, h2 => by
    rw [weB] at h2
    split at h2
    · rename_i hl
      rcases Nat.lt_or_ge h j with q | q
      · exact weB_all m (h + 1) j q h2
      · obtain rfl : j = h := by omega
        exact hl
    · omega
theorem ltr1 {h ta i : Nat} {c : Int32} : ltr σ f n h ta i c = 1 ↔ (ta + i < h ∧ bA σ f n (ta + i) = c) ∨ (¬ ta + i < h ∧ c = 0) := by
  unfold ltr
  by_cases h1 : ta + i < h
  · rw [if_pos h1]
    by_cases h2 : bA σ f n (ta + i) = c
    · simp [h1, h2]
    · rw [if_neg h2]
      constructor
      · intro z; exact absurd z (by decide)
      · rintro (z | z)
        · exact absurd z.2 h2
        · exact absurd h1 z.1
  · rw [if_neg h1]
    by_cases h2 : c = 0
    · simp [h1, h2]
    · rw [if_neg h2]
      constructor
      · intro z; exact absurd z (by decide)
      · rintro (z | z)
        · exact absurd z.1 h1
        · exact absurd z.2 h2
/-- a word of the class by its number -/
def qWi (σ : MS) (f n i : Nat) (p : PT) : Int32 := qW σ f n (sBt i 0) (sBt i 1) (sBt i 2) (sBt i 3) (sBt i 4) (sBt i 5) (sBt i 6) (sBt i 7) p
theorem qWi_sp {i : Nat} {p : PT} (hi : i < 13) (h0 : i ≠ 0) (hb : pbd p = 0) (ht : p.2.1 = 1) (hle : p.2.2.1 ≤ p.1) (hl : ∀ j, p.2.2.1 ≤ j → j < p.1 → ¬ bA σ f n j = 0) : qWi σ f n i p = 0 ↔ ¬ spP σ f n p.2.2.1 p.1 i := by
  obtain ⟨x, tk, s, tw, op, bd, ft⟩ := p
  have hb : bd = 0 := hb
  have ht : tk = 1 := ht
  have hle2 : s ≤ x := hle
  have hl2 : ∀ j, s ≤ j → j < x → ¬ bA σ f n j = 0 := hl
  clear hle hl
  subst hb ht
  obtain ⟨f1, f2, f3, f4⟩ := sBt_facts i hi h0
  show (if (0 : Nat) = 0 ∧ (1 : Nat) = 1 ∧ x ≤ s + 8 ∧ ltr σ f n x s 0 (sBt i 0) = 1 ∧ ltr σ f n x s 1 (sBt i 1) = 1 ∧ ltr σ f n x s 2 (sBt i 2) = 1 ∧ ltr σ f n x s 3 (sBt i 3) = 1 ∧ ltr σ f n x s 4 (sBt i 4) = 1 ∧ ltr σ f n x s 5 (sBt i 5) = 1 ∧ ltr σ f n x s 6 (sBt i 6) = 1 ∧ ltr σ f n x s 7 (sBt i 7) = 1 then (1 : Int32) else 0) = 0 ↔ ¬ spP σ f n s x i
  have key : (x ≤ s + 8 ∧ ∀ j : Nat, j < 8 → ltr σ f n x s j (sBt i j) = 1) ↔ spP σ f n s x i := by
    constructor
    · rintro ⟨g1, g2⟩
      have e : sLn i = x - s := by
        rcases Nat.lt_trichotomy (sLn i) (x - s) with q | q | q
        · exfalso
          rcases ltr1.mp (g2 (sLn i) (by omega)) with z | z
          · rw [f4 (sLn i) (by omega) (by omega)] at z
            exact hl2 _ (by omega) (by omega) z.2
          · omega
        · exact q
        · exfalso
          rcases ltr1.mp (g2 (x - s) (by omega)) with z | z
          · omega
          · exact f3 _ q z.2
      refine ⟨e, fun j hj => ?_⟩
      rcases ltr1.mp (g2 j (by omega)) with z | z
      · exact z.2.symm
      · omega
    · rintro ⟨e, g⟩
      refine ⟨by omega, fun j hj => ltr1.mpr ?_⟩
      by_cases q : j < sLn i
      · exact Or.inl ⟨by omega, (g j q).symm⟩
      · exact Or.inr ⟨by omega, f4 j hj q⟩
  rw [← key]
  constructor
  · intro z y
    rw [if_pos ⟨rfl, rfl, y.1, y.2 0 (by decide), y.2 1 (by decide), y.2 2 (by decide), y.2 3 (by decide), y.2 4 (by decide), y.2 5 (by decide), y.2 6 (by decide), y.2 7 (by decide)⟩] at z
    exact absurd z (by decide)
  · intro z
    rw [if_neg]
    rintro ⟨-, -, y0, y1, y2, y3, y4, y5, y6, y7, y8⟩
    refine z ⟨y0, fun j hj => ?_⟩
    rcases (by omega : j = 0 ∨ j = 1 ∨ j = 2 ∨ j = 3 ∨ j = 4 ∨ j = 5 ∨ j = 6 ∨ j = 7) with rfl | rfl | rfl | rfl | rfl | rfl | rfl | rfl <;> assumption
/-- the class's codes of words -/
def kcd (i : Nat) : Int32 := [0, -19, -20, -21, -7, -8, -9, -1, -2, -3, -4, -5, -6].getD i 0
theorem sp_one {s e i j : Nat} (hi : i < 13) (hi0 : i ≠ 0) (hj : j < 13) (hj0 : j ≠ 0) (h1 : spP σ f n s e i) (h2 : spP σ f n s e j) : i = j :=
  sBt_one i hi j hj (h1.1.trans h2.1.symm) (fun k hk => (h1.2 k hk).trans (h2.2 k (by rw [h2.1, ← h1.1]; exact hk)).symm)
theorem wdC_cases (s e : Nat) : (∃ i : Nat, i < 13 ∧ i ≠ 0 ∧ spP σ f n s e i ∧ wdC σ f n s e = kcd i) ∨ ((∀ i : Nat, i < 13 → i ≠ 0 → ¬ spP σ f n s e i) ∧ wdC σ f n s e = -24) := by
  unfold wdC keC naC
  by_cases h1 : spP σ f n s e 1
  · exact Or.inl ⟨1, by decide, by decide, h1, by rw [if_pos h1, if_neg (by decide)]; rfl⟩
  by_cases h2 : spP σ f n s e 2
  · exact Or.inl ⟨2, by decide, by decide, h2, by rw [if_neg h1, if_pos h2, if_neg (by decide)]; rfl⟩
  by_cases h3 : spP σ f n s e 3
  · exact Or.inl ⟨3, by decide, by decide, h3, by rw [if_neg h1, if_neg h2, if_pos h3, if_neg (by decide)]; rfl⟩
  by_cases h4 : spP σ f n s e 4
  · exact Or.inl ⟨4, by decide, by decide, h4, by rw [if_neg h1, if_neg h2, if_neg h3, if_pos h4, if_neg (by decide)]; rfl⟩
  by_cases h5 : spP σ f n s e 5
  · exact Or.inl ⟨5, by decide, by decide, h5, by rw [if_neg h1, if_neg h2, if_neg h3, if_neg h4, if_pos h5, if_neg (by decide)]; rfl⟩
  by_cases h6 : spP σ f n s e 6
  · exact Or.inl ⟨6, by decide, by decide, h6, by rw [if_neg h1, if_neg h2, if_neg h3, if_neg h4, if_neg h5, if_pos h6, if_neg (by decide)]; rfl⟩
  by_cases h7 : spP σ f n s e 7
  · exact Or.inl ⟨7, by decide, by decide, h7, by rw [if_neg h1, if_neg h2, if_neg h3, if_neg h4, if_neg h5, if_neg h6, if_pos (rfl : (-24 : Int32) = -24), if_pos h7]; rfl⟩
  by_cases h8 : spP σ f n s e 8
  · exact Or.inl ⟨8, by decide, by decide, h8, by rw [if_neg h1, if_neg h2, if_neg h3, if_neg h4, if_neg h5, if_neg h6, if_pos (rfl : (-24 : Int32) = -24), if_neg h7, if_pos h8]; rfl⟩
  by_cases h9 : spP σ f n s e 9
  · exact Or.inl ⟨9, by decide, by decide, h9, by rw [if_neg h1, if_neg h2, if_neg h3, if_neg h4, if_neg h5, if_neg h6, if_pos (rfl : (-24 : Int32) = -24), if_neg h7, if_neg h8, if_pos h9]; rfl⟩
  by_cases h10 : spP σ f n s e 10
  · exact Or.inl ⟨10, by decide, by decide, h10, by rw [if_neg h1, if_neg h2, if_neg h3, if_neg h4, if_neg h5, if_neg h6, if_pos (rfl : (-24 : Int32) = -24), if_neg h7, if_neg h8, if_neg h9, if_pos h10]; rfl⟩
  by_cases h11 : spP σ f n s e 11
  · exact Or.inl ⟨11, by decide, by decide, h11, by rw [if_neg h1, if_neg h2, if_neg h3, if_neg h4, if_neg h5, if_neg h6, if_pos (rfl : (-24 : Int32) = -24), if_neg h7, if_neg h8, if_neg h9, if_neg h10, if_pos h11]; rfl⟩
  by_cases h12 : spP σ f n s e 12
  · exact Or.inl ⟨12, by decide, by decide, h12, by rw [if_neg h1, if_neg h2, if_neg h3, if_neg h4, if_neg h5, if_neg h6, if_pos (rfl : (-24 : Int32) = -24), if_neg h7, if_neg h8, if_neg h9, if_neg h10, if_neg h11, if_pos h12]; rfl⟩
  · refine Or.inr ⟨fun i hi hi0 => ?_, by rw [if_neg h1, if_neg h2, if_neg h3, if_neg h4, if_neg h5, if_neg h6, if_pos (rfl : (-24 : Int32) = -24), if_neg h7, if_neg h8, if_neg h9, if_neg h10, if_neg h11, if_neg h12]⟩
    rcases (by omega : i = 1 ∨ i = 2 ∨ i = 3 ∨ i = 4 ∨ i = 5 ∨ i = 6 ∨ i = 7 ∨ i = 8 ∨ i = 9 ∨ i = 10 ∨ i = 11 ∨ i = 12) with rfl | rfl | rfl | rfl | rfl | rfl | rfl | rfl | rfl | rfl | rfl | rfl <;> assumption
theorem kcd_in : ∀ i : Nat, i < 13 → ∀ j : Nat, j < 13 → kcd i = kcd j → i = j := by decide +kernel
theorem kcd_n3 : ∀ i : Nat, i < 13 → ¬ (-24 : Int32) = kcd i ∧ ¬ (-23 : Int32) = kcd i ∧ ¬ (-22 : Int32) = kcd i := by decide +kernel
theorem kcd_ne (i : Nat) (hi : i < 13) (_ : i ≠ 0) : ¬ (-24 : Int32) = kcd i ∧ ¬ (-23 : Int32) = kcd i ∧ ¬ (-22 : Int32) = kcd i ∧ ∀ j : Nat, j < 13 → j ≠ 0 → kcd i = kcd j → i = j := ⟨(kcd_n3 i hi).1, (kcd_n3 i hi).2.1, (kcd_n3 i hi).2.2, fun j hj _ => kcd_in i hi j hj⟩
theorem wd_iff {s e i : Nat} (hi : i < 13) (h0 : i ≠ 0) : wdC σ f n s e = kcd i ↔ spP σ f n s e i := by
  rcases wdC_cases (σ := σ) (f := f) (n := n) s e with ⟨j, hj, hj0, hs, hw⟩ | ⟨ha, hw⟩
  · constructor
    · intro z
      have e1 := (kcd_ne j hj hj0).2.2.2 i hi h0 (hw.symm.trans z)
      rw [← e1]
      exact hs
    · intro z
      rw [hw, sp_one hj hj0 hi h0 hs z]
  · constructor
    · intro z
      exact absurd (hw.symm.trans z) (kcd_ne i hi h0).1
    · intro z
      exact absurd z (ha i hi h0)
/-- the signs -/
def sgL : List Int32 := [40, 41, 59, 43, 45, 42, 60, 61]
theorem sgn_mem {c : Int32} (h : sgnB c = true) : c ∈ sgL := by
  have := of_decide_eq_true h
  simp only [sgL, List.mem_cons, List.not_mem_nil, or_false]
  exact this
theorem sgC_no {c : Int32} (h : ¬ sgnB c = true) : sgC c = -24 := by
  have : ¬ (c = 40 ∨ c = 41 ∨ c = 59 ∨ c = 43 ∨ c = 45 ∨ c = 42 ∨ c = 60 ∨ c = 61) := fun z => h (decide_eq_true z)
  simp only [not_or] at this
  unfold sgC
  simp [this]
theorem sgC_facts : ∀ c ∈ sgL, (∀ d ∈ sgL, (sgC c = sgC d ↔ c = d)) ∧ ¬ sgC c = -22 ∧ ¬ sgC c = -23 ∧ ¬ sgC c = -24 ∧ (∀ i : Nat, i < 13 → ¬ sgC c = kcd i) ∧ c.toInt64.toInt32 = c ∧ (∀ d ∈ sgL, c.toInt64 = d.toInt64 → c = d) := by decide +kernel
theorem kcd_sg : ∀ i : Nat, i < 13 → i ≠ 0 → ∀ c ∈ sgL, ¬ kcd i = sgC c := by decide +kernel
/-- the token as the class has it -/
def tkC (σ : MS) (f n : Nat) (p : PT) : Int32 := if p.2.1 = 0 then -23 else if p.2.1 = 1 then wdC σ f n p.2.2.1 p.1 else if p.2.1 = 2 then -22 else if p.2.1 = 3 then sgC p.2.2.2.1.toInt32 else -24
/-- the two readers' states: alike -/
def RC (σ : MS) (f n : Nat) (p : PT) (c : CT) : Prop := (pbd p = 0 → c.2.2.2.2.1 = -1 ∧ c.2.1 = p.2.2.1 ∧ c.2.2.1 = tkC σ f n p ∧ (p.2.1 ≠ 4 → c.1 = p.1) ∧ (p.2.1 = 1 → ∀ j, p.2.2.1 ≤ j → j < p.1 → ¬ bA σ f n j = 0) ∧ (p.2.1 = 2 → ∃ V : Nat, V < 10000 ∧ p.2.2.2.1 = (nI V).toInt64 ∧ c.2.2.2.1 = nI V) ∧ (p.2.1 = 3 → ∃ x ∈ sgL, p.2.2.2.1 = x.toInt64)) ∧ (¬ pbd p = 0 → c.2.2.1 = -24 ∧ ¬ c.2.2.2.2.1 = -1 ∧ c.2.2.2.2.1 = nI p.2.2.2.2.2.2)
theorem RC_W {p : PT} {c : CT} {i : Nat} (hk : okp n p) (h : RC σ f n p c) (hi : i < 13) (h0 : i ≠ 0) : qWi σ f n i p = 0 ↔ ¬ c.2.2.1 = kcd i := by
  by_cases hb : pbd p = 0
  · obtain ⟨-, -, ht, -, hl, -, h3⟩ := h.1 hb
    rw [ht]
    by_cases h1 : p.2.1 = 1
    · rw [qWi_sp hi h0 hb h1 hk.2.2.2.2.2.2 (hl h1)]
      unfold tkC
      rw [if_neg (by rw [h1]; decide), if_pos h1, wd_iff hi h0]
    · have e : qWi σ f n i p = 0 := by
        unfold qWi qW isWi
        rw [if_neg]
        rintro ⟨-, z, -⟩
        exact h1 z
      refine ⟨fun _ => ?_, fun _ => e⟩
      obtain ⟨q1, q2, q3, -⟩ := kcd_ne i hi h0
      unfold tkC
      rw [if_neg h1]
      split
      · exact q2
      · split
        · exact q3
        · split
          · rename_i z
            obtain ⟨x, hx, ex⟩ := h3 z
            rw [ex, (sgC_facts x hx).2.2.2.2.2.1]
            exact (sgC_facts x hx).2.2.2.2.1 i hi
          · exact q1
  · obtain ⟨ht, -⟩ := h.2 hb
    rw [ht]
    refine ⟨fun _ => (kcd_ne i hi h0).1, fun _ => ?_⟩
    unfold qWi qW isWi
    rw [if_neg]
    rintro ⟨z, -⟩
    exact hb z
theorem RC_S {p : PT} {c : CT} {k : Int32} (h : RC σ f n p c) (hk : k ∈ sgL) : qS k p = 0 ↔ ¬ c.2.2.1 = sgC k := by
  by_cases hb : pbd p = 0
  · obtain ⟨-, -, ht, -, hl, -, h3⟩ := h.1 hb
    rw [ht]
    by_cases h1 : p.2.1 = 3
    · obtain ⟨x, hx, ex⟩ := h3 h1
      have e : tkC σ f n p = sgC x := by
        unfold tkC
        rw [if_neg (by rw [h1]; decide), if_neg (by rw [h1]; decide), if_neg (by rw [h1]; decide), if_pos h1, ex, (sgC_facts x hx).2.2.2.2.2.1]
      rw [e, (sgC_facts x hx).1 k hk]
      unfold qS isSi
      by_cases hxk : x = k
      · rw [if_pos ⟨hb, h1, by rw [ex, hxk]⟩]
        simp [hxk]
      · rw [if_neg (fun z => hxk ((sgC_facts x hx).2.2.2.2.2.2 k hk (ex.symm.trans z.2.2)))]
        simp [hxk]
    · have e : qS k p = 0 := by
        unfold qS isSi
        rw [if_neg]
        rintro ⟨-, z, -⟩
        exact h1 z
      refine ⟨fun _ => ?_, fun _ => e⟩
      obtain ⟨-, q1, q2, q3, -⟩ := sgC_facts k hk
      unfold tkC
      split
      · exact fun z => q2 z.symm
      · split
        · rcases wdC_cases (σ := σ) (f := f) (n := n) p.2.2.1 p.1 with ⟨j, hj, hj0, -, hw⟩ | ⟨-, hw⟩
          · rw [hw]; exact kcd_sg j hj hj0 k hk
          · rw [hw]; exact fun z => q3 z.symm
        · split
          · exact fun z => q1 z.symm
          · first
              | exact fun z => q3 z.symm
              | (rw [if_neg h1]
                 exact fun z => q3 z.symm)
  · obtain ⟨ht, -⟩ := h.2 hb
    rw [ht]
    refine ⟨fun _ z => (sgC_facts k hk).2.2.2.1 z.symm, fun _ => ?_⟩
    unfold qS isSi
    rw [if_neg]
    rintro ⟨z, -⟩
    exact hb z
end M93
