/-! the reference's reader as functions: its state as a tuple -/
abbrev PT : Type := Nat × Nat × Nat × Int64 × Nat × Nat × Nat
def Pσ (σ : MS) (p : PT) : MS := PS σ p.1 p.2.1 p.2.2.1 p.2.2.2.1 p.2.2.2.2.1 p.2.2.2.2.2.1 p.2.2.2.2.2.2
def pN (σ : MS) (f n : Nat) (p : PT) : PT := ((nx σ f n p.1 p.2.2.2.1).1, (nx σ f n p.1 p.2.2.2.1).2.1, (nx σ f n p.1 p.2.2.2.1).2.2.1, (nx σ f n p.1 p.2.2.2.1).2.2.2, p.2.2.2.2.1, p.2.2.2.2.2.1, p.2.2.2.2.2.2)
def pF (p : PT) : PT := (p.1, p.2.1, p.2.2.1, p.2.2.2.1, p.2.2.2.2.1, flB p.2.2.2.2.2.1, flF p.2.2.2.2.2.1 p.2.2.1 p.2.2.2.2.2.2)
def pO (p : PT) (v : Nat) : PT := (p.1, p.2.1, p.2.2.1, p.2.2.2.1, v, p.2.2.2.2.2.1, p.2.2.2.2.2.2)
def pop (p : PT) : Nat := p.2.2.2.2.1
def pbd (p : PT) : Nat := p.2.2.2.2.2.1
def qS (c : Int32) (p : PT) : Int32 := isSi p.2.1 p.2.2.2.2.2.1 p.2.2.2.1 c
def qW (σ : MS) (f n : Nat) (c0 c1 c2 c3 c4 c5 c6 c7 : Int32) (p : PT) : Int32 := isWi σ f n p.1 p.2.1 p.2.2.1 p.2.2.2.2.2.1 c0 c1 c2 c3 c4 c5 c6 c7
/-- what a name says -/
def pnm (σ : MS) (f n : Nat) (p : PT) : Int32 × PT := if ¬ qW σ f n 116 104 105 110 103 0 0 0 p = 0 then (σ.1 16, p) else if ¬ qW σ f n 112 108 97 99 101 0 0 0 p = 0 then (σ.1 17, p) else if ¬ qW σ f n 103 105 118 101 114 0 0 0 p = 0 then (σ.1 18, p) else if ¬ qW σ f n 103 117 101 115 116 115 0 0 p = 0 then (σ.1 19, p) else if ¬ qW σ f n 108 111 111 107 0 0 0 0 p = 0 then (σ.1 20, p) else if ¬ qW σ f n 110 117 109 98 101 114 0 0 p = 0 then (σ.1 21, p) else (0, pF p)
/-- one more is opened, unless there are five -/
def pOp (σ : MS) (f n : Nat) (p : PT) : PT := pN σ f n (pO p (pop p + 1))
def lpz (step : Int32 → PT → Option (Int32 × PT)) : Nat → Int32 → PT → Int32 × PT
  | 0, v, p => (v, p)
  | k + 1, v, p => match step v p with
    | none => (v, p)
    | some r => lpz step k r.1 r.2
def stT (σ : MS) (f n : Nat) (g : PT → Int32 × PT) (v : Int32) (p : PT) : Option (Int32 × PT) := if qS 42 p = 0 then none else some (v * (g (pN σ f n p)).1, (g (pN σ f n p)).2)
def stA (σ : MS) (f n : Nat) (g : PT → Int32 × PT) (v : Int32) (p : PT) : Option (Int32 × PT) := if qS 43 p = 0 ∧ qS 45 p = 0 then none else some (if p.2.2.2.1 = 43 then v + (g (pN σ f n p)).1 else v - (g (pN σ f n p)).1, (g (pN σ f n p)).2)
def stB (σ : MS) (f n : Nat) (g : PT → Int32 × PT) (v : Int32) (p : PT) : Option (Int32 × PT) := if qW σ f n 97 110 100 0 0 0 0 0 p = 0 then none else some (if v = 0 then 0 else if (g (pN σ f n p)).1 = 0 then 0 else 1, (g (pN σ f n p)).2)
def stE (σ : MS) (f n : Nat) (g : PT → Int32 × PT) (v : Int32) (p : PT) : Option (Int32 × PT) := if qW σ f n 111 114 0 0 0 0 0 0 p = 0 then none else some (if v = 0 then (if (g (pN σ f n p)).1 = 0 then 0 else 1) else 1, (g (pN σ f n p)).2)
/-- behind a ( .. : the ) and what follows -/
def pCl (σ : MS) (f n : Nat) (p : PT) : PT := if pbd (if qS 41 p = 0 then pF p else p) = 0 then pN σ f n (pO (if qS 41 p = 0 then pF p else p) (pop p - 1)) else pO (if qS 41 p = 0 then pF p else p) (pop p - 1)
def pAt (σ : MS) (f n : Nat) (ga ge : PT → Int32 × PT) (p : PT) : Int32 × PT :=
  if ¬ qS 45 p = 0 then (if pop p = 5 then (0, pF p) else (-(ga (pOp σ f n p)).1, pO (ga (pOp σ f n p)).2 (pop (ga (pOp σ f n p)).2 - 1)))
  else if ¬ qS 40 p = 0 then (if pop p = 5 then (0, pF p) else ((ge (pOp σ f n p)).1, pCl σ f n (ge (pOp σ f n p)).2))
  else if pbd p = 0 ∧ p.2.1 = 2 then (p.2.2.2.1.toInt32, pN σ f n p)
  else if pbd p = 0 ∧ p.2.1 = 1 then ((pnm σ f n p).1, if pbd (pnm σ f n p).2 = 0 then pN σ f n (pnm σ f n p).2 else (pnm σ f n p).2)
  else (0, pF p)
def pNt (σ : MS) (f n : Nat) (gn gd : PT → Int32 × PT) (p : PT) : Int32 × PT :=
  if ¬ qW σ f n 110 111 116 0 0 0 0 0 p = 0 then (if pop p = 5 then (0, pF p) else (if (gn (pOp σ f n p)).1 = 0 then 1 else 0, pO (gn (pOp σ f n p)).2 (pop (gn (pOp σ f n p)).2 - 1)))
  else if qS 60 (gd p).2 = 0 ∧ qS 61 (gd p).2 = 0 then gd p
  else ((if (gd p).2.2.2.2.1 = 60 then (if (gd p).1 < (gd (pN σ f n (gd p).2)).1 then 1 else 0) else (if (gd p).1 = (gd (pN σ f n (gd p).2)).1 then 1 else 0)), (gd (pN σ f n (gd p).2)).2)
/-- atom, term, added, not, both, either: by how deep they may go -/
def pz (σ : MS) (f n : Nat) : Nat → Nat → PT → Int32 × PT
  | 0, _, p => (0, p)
  | N + 1, 0, p => pAt σ f n (pz σ f n N 0) (pz σ f n N 5) p
  | N + 1, 1, p => lpz (stT σ f n (pz σ f n N 0)) 200 (pz σ f n N 0 p).1 (pz σ f n N 0 p).2
  | N + 1, 2, p => lpz (stA σ f n (pz σ f n N 1)) 200 (pz σ f n N 1 p).1 (pz σ f n N 1 p).2
  | N + 1, 3, p => pNt σ f n (pz σ f n N 3) (pz σ f n N 2) p
  | N + 1, 4, p => lpz (stB σ f n (pz σ f n N 3)) 200 (pz σ f n N 3 p).1 (pz σ f n N 3 p).2
  | N + 1, _, p => lpz (stE σ f n (pz σ f n N 4)) 200 (pz σ f n N 4 p).1 (pz σ f n N 4 p).2
/-- a state as the reader has it -/
def okp (n : Nat) (p : PT) : Prop := p.1 ≤ n ∧ p.2.1 < 5 ∧ p.2.2.1 ≤ n ∧ p.2.2.2.2.1 ≤ 5 ∧ p.2.2.2.2.2.1 < 2 ∧ (p.2.1 ≠ 4 → p.2.1 ≠ 0 → p.2.2.1 < p.1) ∧ p.2.2.1 ≤ p.1
theorem skB_in {σ : MS} {f n : Nat} : ∀ (m h : Nat), h + m ≤ n → h ≤ skB σ f n m h ∧ skB σ f n m h ≤ n
  | 0, h, hm => ⟨Nat.le_refl _, by show h ≤ n; omega⟩
  | m + 1, h, hm => by
    rw [skB]
    split
    · have := skB_in (σ := σ) (f := f) (n := n) m (h + 1) (by omega)
      omega
    · omega
theorem weB_in {σ : MS} {f n : Nat} : ∀ (m h : Nat), h + m ≤ n → h ≤ weB σ f n m h ∧ weB σ f n m h ≤ n
  | 0, h, hm => ⟨Nat.le_refl _, by show h ≤ n; omega⟩
  | m + 1, h, hm => by
    rw [weB]
    split
    · have := weB_in (σ := σ) (f := f) (n := n) m (h + 1) (by omega)
      omega
    · omega
theorem dgB_in {σ : MS} {f n : Nat} : ∀ (m h c : Nat) (v : Int64), h + m ≤ n → h ≤ (dgB σ f n m h c v).1 ∧ (dgB σ f n m h c v).1 ≤ n
  | 0, h, c, v, hm => ⟨Nat.le_refl _, by show h ≤ n; omega⟩
  | m + 1, h, c, v, hm => by
    rw [dgB]
    split
    · have := dgB_in (σ := σ) (f := f) (n := n) m (h + 1) (c + 1) (if 4 ≤ c then v else 10 * v + (bA σ f n h).toInt64 - 48) (by omega)
      omega
    · exact ⟨Nat.le_refl _, by show h ≤ n; omega⟩
theorem weB_gt {σ : MS} {f n h : Nat} (hn : h < n) (hl : 97 ≤ bA σ f n h ∧ bA σ f n h ≤ 122) : h < weB σ f n (n - h) h := by
  obtain ⟨m, hm⟩ : ∃ m, n - h = m + 1 := ⟨n - h - 1, by omega⟩
  rw [hm, weB, if_pos hl]
  have := weB_in (σ := σ) (f := f) (n := n) m (h + 1) (by omega)
  omega
theorem dgB_gt {σ : MS} {f n h c : Nat} {v : Int64} (hn : h < n) (hl : 48 ≤ bA σ f n h ∧ bA σ f n h ≤ 57) : h < (dgB σ f n (n - h) h c v).1 := by
  obtain ⟨m, hm⟩ : ∃ m, n - h = m + 1 := ⟨n - h - 1, by omega⟩
  rw [hm, dgB, if_pos hl]
  have := dgB_in (σ := σ) (f := f) (n := n) m (h + 1) (c + 1) (if 4 ≤ c then v else 10 * v + (bA σ f n h).toInt64 - 48) (by omega)
  omega
theorem bA_lt {σ : MS} {f n i : Nat} (h : ¬ bA σ f n i < 0) : i < n := by
  rcases Nat.lt_or_ge i n with q | q
  · exact q
  · exact absurd (by rw [bA_end q]; decide) h
theorem bA_ge {σ : MS} {f n i : Nat} (hO : rdO σ f n) (h : bA σ f n i < 0) : n ≤ i := by
  rcases Nat.lt_or_ge i n with q | q
  · exfalso
    obtain ⟨c, hc, e⟩ := hO.2.2.2.2 i q
    rw [bA, if_pos q, e] at h
    exact nI_pos (by omega) h
  · exact q
/-- the next token: it begins behind where one was -/
theorem pN_ok {σ : MS} {f n : Nat} {p : PT} (hO : rdO σ f n) (h : okp n p) : okp n (pN σ f n p) ∧ p.1 ≤ (pN σ f n p).2.2.1 ∧ p.2.2.1 ≤ (pN σ f n p).2.2.1 ∧ (pN σ f n p).2.2.2.2.1 = p.2.2.2.2.1 ∧ (pN σ f n p).2.2.2.2.2.1 = p.2.2.2.2.2.1 := by
  obtain ⟨h1, h2, h3, h4, h5, h6, h7⟩ := h
  have hs := skB_in (σ := σ) (f := f) (n := n) (n - p.1) p.1 (by omega)
  unfold pN nx
  generalize skB σ f n (n - p.1) p.1 = s at hs
  unfold nxs
  split
  · rename_i hc
    have := bA_ge hO hc
    refine ⟨⟨hs.2, by show (0 : Nat) < 5; omega, Nat.le_refl n, h4, h5, fun _ q => absurd rfl q, this⟩, ?_, ?_, rfl, rfl⟩
    · show p.1 ≤ n; omega
    · show p.2.2.1 ≤ n; omega
  · rename_i hc
    have hlt := bA_lt hc
    split
    · rename_i hl
      have g1 := weB_gt hlt hl
      have g2 := weB_in (σ := σ) (f := f) (n := n) (n - s) s (by omega)
      refine ⟨⟨g2.2, by show (1 : Nat) < 5; omega, hs.2, h4, h5, fun _ _ => g1, by show s ≤ _; omega⟩, hs.1, ?_, rfl, rfl⟩
      show p.2.2.1 ≤ s; omega
    · split
      · rename_i hl
        have g1 := dgB_gt (c := 0) (v := 0) hlt hl
        have g2 := dgB_in (σ := σ) (f := f) (n := n) (n - s) s 0 0 (by omega)
        refine ⟨⟨g2.2, ?_, hs.2, h4, h5, fun _ _ => g1, by show s ≤ _; omega⟩, hs.1, ?_, rfl, rfl⟩
        · show (if _ then 2 else 4) < 5
          split <;> omega
        · show p.2.2.1 ≤ s; omega
      · split
        · refine ⟨⟨by show s + 1 ≤ n; omega, by show (3 : Nat) < 5; omega, hs.2, h4, h5, fun _ _ => by show s < s + 1; omega, by show s ≤ s + 1; omega⟩, hs.1, ?_, rfl, rfl⟩
          show p.2.2.1 ≤ s; omega
        · refine ⟨⟨hs.2, by show (4 : Nat) < 5; omega, hs.2, h4, h5, fun q _ => absurd rfl q, Nat.le_refl s⟩, hs.1, ?_, rfl, rfl⟩
          show p.2.2.1 ≤ s; omega
theorem pF_ok {n : Nat} {p : PT} (h : okp n p) : okp n (pF p) ∧ (pF p).2.2.1 = p.2.2.1 ∧ pop (pF p) = pop p := by
  obtain ⟨h1, h2, h3, h4, h5, h6, h7⟩ := h
  refine ⟨⟨h1, h2, h3, h4, ?_, h6, h7⟩, rfl, rfl⟩
  show flB p.2.2.2.2.2.1 < 2
  unfold flB
  split <;> omega
theorem pO_ok {n v : Nat} {p : PT} (h : okp n p) (hv : v ≤ 5) : okp n (pO p v) := by
  obtain ⟨h1, h2, h3, h4, h5, h6, h7⟩ := h
  exact ⟨h1, h2, h3, hv, h5, h6, h7⟩
