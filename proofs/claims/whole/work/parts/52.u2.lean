/-! the document's numbers: kinds 0, numbers 1, givers 2, spots 3, sights 4, seats 5, days 6, moves 7, ugly 8, minds 9 -/
abbrev PD : Type := Nat → Nat → Nat
def seeD (D : PD) (g s : Nat) : Bool := s != 0 && (D 4 (s - 1)).testBit (D 5 g)
def stD (k s : Nat) : Bool := s == 0 || (if k = 1 ∨ k = 3 then (s - 1) % 2 == 0 && (k == 1 || s - 1 != 0) else if k = 2 ∨ k = 4 then decide (s - 1 < 4) else true)
def msD (k n : Nat) : Nat := if k = 0 ∨ k = 1 then 1 else if k = 5 then 0 else if k = 4 then 2 + n / 4 else 2
def ofD (k n g x : Nat) : Nat := if k = 4 then 2 * (if x = n % 4 then 1 else 0) else if k = 2 then (if x = n % 4 then 1 else 0) else if k = 5 then 1 else if k = 3 then (if x < g then 1 else 0) else 0
def tbD (D : PD) (i s G : Nat) : Nat → Nat
  | 0 => if G.testBit (D 2 i) = true ∧ seeD D (D 2 i) s = false then msD (D 0 i) (D 1 i) else 0
  | g + 1 => tbD D i s G g + (if G.testBit g = true ∧ g ≠ D 2 i ∧ seeD D g s = true then ofD (D 0 i) (D 1 i) (D 2 i) g else 0)
def bdD (D : PD) (i s G : Nat) : Nat := D 9 (5 * i + bc G) * tbD D i s G 4 + D 8 (7 * i + s)
def bnD (D : PD) (room : Nat → Nat) (G : Nat) : Nat → Nat
  | 0 => 0
  | i + 1 => bnD D room G i + bdD D i (room i) G
/-- the numbers are such as they may be -/
def okD (D : PD) (n : Nat) : Prop := n ≤ 5 ∧ (∀ i, i < 5 → D 0 i < 6 ∧ D 1 i < 10 ∧ D 2 i < 4 ∧ D 3 i < 7) ∧ (∀ p, p < 6 → D 4 p < 16) ∧ (∀ g, g < 4 → D 5 g < 4) ∧ ∀ d, d < 7 → D 6 d < 16
/-- what the rule tells is such as it may be -/
def okG (D : PD) (n : Nat) : Prop := ∀ i, i < n → (∀ k, k < 7 → D 7 (7 * i + k) ≤ 99 ∧ D 8 (7 * i + k) ≤ 99) ∧ ∀ c, c < 5 → D 9 (5 * i + c) ≤ 99
/-- the reference holds these numbers -/
def RD (σ : MS) (D : PD) (n : Nat) : Prop := okD D n ∧ σ.1 15 = nI n ∧ (∀ i, i < 5 → σ.2.2 10 i = nI (D 0 i) ∧ σ.2.2 11 i = nI (D 1 i) ∧ σ.2.2 12 i = nI (D 2 i) ∧ σ.2.2 14 i = nI (D 3 i) - 1) ∧ (∀ p, p < 6 → σ.2.2 7 p = nI (D 4 p)) ∧ (∀ g, g < 4 → σ.2.2 8 g = nI (D 5 g)) ∧ ∀ d, d < 7 → σ.2.2 9 d = nI (D 6 d)
def RG (σ : MS) (D : PD) (n : Nat) : Prop := okG D n ∧ ∀ i, i < n → (∀ k, k < 7 → σ.2.2 32 (7 * i + k) = nI (D 7 (7 * i + k)) ∧ σ.2.2 31 (7 * i + k) = nI (D 8 (7 * i + k))) ∧ ∀ c, c < 5 → σ.2.2 33 (5 * i + c) = nI (D 9 (5 * i + c))
theorem bit_a : ∀ G, G < 16 → ∀ g, g < 4 → (gbt (nI G) (nI g) = 1 ↔ G.testBit g = true) := by decide +kernel
theorem bit_b : ∀ G, G < 16 → ∀ g, g < 4 → (((nI G >>> (nI g &&& 31)) &&& 1 = 1) ↔ G.testBit g = true) := by decide +kernel
theorem ms_a : ∀ k, k < 6 → ∀ n, n < 10 → msI (nI k) (nI n) = nI (msD k n) ∧ msD k n ≤ 4 := by decide +kernel
theorem of_a : ∀ k, k < 6 → ∀ n, n < 10 → ∀ g, g < 4 → ∀ x, x < 4 → ofI (nI k) (nI n) (nI g) (nI x) = nI (ofD k n g x) ∧ ofD k n g x ≤ 2 := by decide +kernel
theorem st_a : ∀ k, k < 6 → ∀ s, s < 7 → (stD k s = true ↔ s = 0 ∨ ¬ stI (nI k) (nI s - 1) = 0) := by decide +kernel
theorem see_a {σ : MS} {D : PD} {n g s : Nat} (h : RD σ D n) (hg : g < 4) (hs : s < 7) : (seS σ g s = 0 ↔ seeD D g s = false) := by
  unfold seS seeD
  by_cases h0 : s = 0
  · simp [h0]
  · rw [if_neg h0]
    unfold seI
    rw [h.2.2.2.1 (s - 1) (by omega), h.2.2.2.2.1 g hg]
    have := bit_b (D 4 (s - 1)) (h.1.2.2.1 (s - 1) (by omega)) (D 5 g) (h.1.2.2.2.1 g hg)
    by_cases hb : (D 4 (s - 1)).testBit (D 5 g) = true
    · rw [if_pos (this.mpr hb)]
      simp [h0, hb]
    · rw [if_neg (fun z => hb (this.mp z))]
      simp [hb]
theorem tb_a {σ : MS} {D : PD} {n i s G : Nat} (h : RD σ D n) (hi : i < 5) (hs : s < 7) (hG : G < 16) : ∀ g, g ≤ 4 → tbs σ i s (nI G) g = nI (tbD D i s G g) ∧ tbD D i s G g ≤ 4 + 2 * g
  | 0, _ => by
    obtain ⟨h10, h11, h12, -⟩ := h.2.2.1 i hi
    obtain ⟨k1, k2, k3, -⟩ := h.1.2.1 i hi
    unfold tbs tb0 tbD
    have e1 := bit_a G hG (D 2 i) k3
    have e2 := see_a h k3 hs
    have e3 := ms_a (D 0 i) k1 (D 1 i) k2
    rw [h10, h11, h12, nn_nI (by omega)]
    by_cases hc : G.testBit (D 2 i) = true ∧ seeD D (D 2 i) s = false
    · rw [if_pos hc, if_pos ⟨e1.mpr hc.1, e2.mpr hc.2⟩]
      exact ⟨e3.1, by omega⟩
    · rw [if_neg hc, if_neg (fun z => hc ⟨e1.mp z.1, e2.mp z.2⟩)]
      exact ⟨rfl, by omega⟩
  | g + 1, hg => by
    obtain ⟨h10, h11, h12, -⟩ := h.2.2.1 i hi
    obtain ⟨k1, k2, k3, -⟩ := h.1.2.1 i hi
    obtain ⟨ih1, ih2⟩ := tb_a h hi hs hG g (by omega)
    unfold tbs tbD
    have e1 := bit_a G hG g (by omega)
    have e2 := see_a h (g := g) (by omega) hs
    have e3 := of_a (D 0 i) k1 (D 1 i) k2 (D 2 i) k3 g (by omega)
    have e4 : nI g = nI (D 2 i) ↔ g = D 2 i := nI_eq (by omega) (by omega)
    rw [h10, h11, h12, ih1]
    by_cases hc : G.testBit g = true ∧ g ≠ D 2 i ∧ seeD D g s = true
    · rw [if_pos hc, if_pos ⟨e1.mpr hc.1, fun z => hc.2.1 (e4.mp z), fun z => by rw [e2.mp z] at hc; exact absurd hc.2.2 (by decide)⟩, e3.1, nI_add]
      exact ⟨rfl, by omega⟩
    · rw [if_neg hc, if_neg (fun z => hc ⟨e1.mp z.1, fun y => z.2.1 (e4.mpr y), by
        have := z.2.2
        rw [e2] at this
        cases hsd : seeD D g s
        · exact absurd hsd this
        · rfl⟩), Int32.add_zero]
      exact ⟨rfl, by omega⟩
theorem bd_a {σ : MS} {D : PD} {n i s G : Nat} (h : RD σ D n) (hg : RG σ D n) (hi : i < n) (hs : s < 7) (hG : G < 16) : bdI σ i s G = nI (bdD D i s G) ∧ bdD D i s G ≤ 1300 := by
  have hn := h.1.1
  obtain ⟨t1, t2⟩ := tb_a h (show i < 5 by omega) hs hG 4 (Nat.le_refl 4)
  obtain ⟨g1, g2⟩ := hg.2 i hi
  obtain ⟨k1, k2⟩ := hg.1 i hi
  have hb := bc_le hG
  unfold bdI bdD
  rw [g2 _ (by omega), t1, (g1 s hs).2, pk_mul, nI_add]
  refine ⟨rfl, ?_⟩
  have := k2 (bc G) (by omega)
  have h8 := (k1 s hs).2
  have : D 9 (5 * i + bc G) * tbD D i s G 4 ≤ 99 * 12 := Nat.mul_le_mul this (by omega)
  omega
theorem bn_a {σ : MS} {D : PD} {n G : Nat} (h : RD σ D n) (hg : RG σ D n) (hG : G < 16) : ∀ i, i ≤ n → bnI σ G i = nI (bnD D (D 3) G i) ∧ bnD D (D 3) G i ≤ 1300 * i
  | 0, _ => ⟨rfl, Nat.le_refl _⟩
  | i + 1, hi => by
    obtain ⟨h1, h2⟩ := bn_a h hg hG i (by omega)
    have hn := h.1.1
    have hs := (h.1.2.1 i (by omega)).2.2.2
    obtain ⟨b1, b2⟩ := bd_a h hg (show i < n by omega) hs hG
    unfold bnI bnD
    rw [(h.2.2.1 i (by omega)).2.2.2, (sp_nI (by omega)).1, h1, b1, nI_add]
    exact ⟨rfl, by omega⟩
theorem RD.gv {σ : MS} {D : PD} {n : Nat} (h : RD σ D n) : gvO σ := fun i hi => ⟨D 2 i, (h.1.2.1 i hi).2.2.1, (h.2.2.1 i hi).2.2.1⟩
theorem RD.pu {σ : MS} {D : PD} {n : Nat} (h : RD σ D n) : puO σ := fun i hi => ⟨D 3 i, by have := (h.1.2.1 i hi).2.2.2; omega, (h.2.2.1 i hi).2.2.2⟩
/-- searching keeps all but its own numbers -/
def sq (σ s : MS) : Prop := (∀ k, k < 38 ∨ 45 < k → s.1 k = σ.1 k) ∧ s.2.1 = σ.2.1 ∧ ∀ k, k < 34 ∨ k = 35 ∨ 41 < k → s.2.2 k = σ.2.2 k
theorem sq.rf {σ : MS} : sq σ σ := ⟨fun _ _ => rfl, rfl, fun _ _ => rfl⟩
theorem sq.trans {σ s s' : MS} (h : sq σ s) (h2 : sq s s') : sq σ s' := ⟨fun k hk => (h2.1 k hk).trans (h.1 k hk), h2.2.1.trans h.2.1, fun k hk => (h2.2.2 k hk).trans (h.2.2 k hk)⟩
theorem sq.gq {σ s : MS} (h : gq σ s) : sq σ s := ⟨fun k hk => h.1 k (by omega) (by omega), h.2.1, fun k hk => h.2.2 k (by omega) (by omega)⟩
theorem sq.tI {σ s : MS} {k0 : Nat} {v : Int32} (h : sq σ s) (hk : 38 ≤ k0 ∧ k0 ≤ 45) : sq σ (tI s k0 v) := ⟨fun k h1 => by
  rw [← h.1 k h1]
  exact va_up_n (by omega), h.2.1, h.2.2⟩
theorem sq.but {σ s s' : MS} {k0 : Nat} (h : sq σ s) (hk : k0 = 34 ∨ k0 = 36 ∨ k0 = 37 ∨ k0 = 41) (hb : but k0 s s') : sq σ s' := ⟨fun k h1 => by rw [hb.1]; exact h.1 k h1, hb.2.1.trans h.2.1, fun k h1 => by rw [hb.2.2 k (by omega)]; exact h.2.2 k h1⟩
theorem RD.sq {σ s : MS} {D : PD} {n : Nat} (h : RD σ D n) (q : sq σ s) : RD s D n := by
  unfold RD at h ⊢
  rw [q.1 15 (by omega), q.2.2 10 (by omega), q.2.2 11 (by omega), q.2.2 12 (by omega), q.2.2 14 (by omega), q.2.2 7 (by omega), q.2.2 8 (by omega), q.2.2 9 (by omega)]
  exact h
theorem RG.sq {σ s : MS} {D : PD} {n : Nat} (h : RG σ D n) (q : sq σ s) : RG s D n := by
  unfold RG at h ⊢
  rw [q.2.2 31 (by omega), q.2.2 32 (by omega), q.2.2 33 (by omega)]
  exact h
/-! tables of days -/
def tabD (D : PD) (t s : Nat) : List Nat → Nat
  | [] => 0
  | G :: L => tabD D t s L + bdD D t s G
def okL (L : List Nat) : Prop := ∀ G ∈ L, G < 16
theorem tab_le {D : PD} {n t s : Nat} (h : okD D n) (hg : okG D n) (ht : t < n) (hs : s < 7) (hb : ∀ G, G < 16 → bdD D t s G ≤ 1300) : ∀ L : List Nat, okL L → tabD D t s L ≤ 1300 * L.length
  | [], _ => Nat.zero_le _
  | G :: L, hL => by
    have h1 := tab_le h hg ht hs hb L (fun G h => hL G (List.mem_cons_of_mem _ h))
    have h2 := hb G (hL G List.mem_cons_self)
    show tabD D t s L + bdD D t s G ≤ 1300 * (L.length + 1)
    omega
theorem bd_le {D : PD} {n i s G : Nat} (h : okD D n) (hg : okG D n) (hi : i < n) (hs : s < 7) (hG : G < 16) : bdD D i s G ≤ 1300 := by
  let σ : MS := (fun k => if k = 15 then nI n else 0, 0, fun k j => if k = 10 then nI (D 0 j) else if k = 11 then nI (D 1 j) else if k = 12 then nI (D 2 j) else if k = 14 then nI (D 3 j) - 1 else if k = 7 then nI (D 4 j) else if k = 8 then nI (D 5 j) else if k = 9 then nI (D 6 j) else if k = 32 then nI (D 7 j) else if k = 31 then nI (D 8 j) else nI (D 9 j))
  exact (bd_a (σ := σ) ⟨h, rfl, fun _ _ => ⟨rfl, rfl, rfl, rfl⟩, fun _ _ => rfl, fun _ _ => rfl, fun _ _ => rfl⟩ ⟨hg, fun _ _ => ⟨fun _ _ => ⟨rfl, rfl⟩, fun _ _ => rfl⟩⟩ hi hs hG).2
/-- what it costs to put thing t so, over the days L: aw is away; was, where they were; ct, whether goes count -/
def prD (D : PD) (L : List Nat) (was : Nat → Nat) (aw : Nat) (ct : Bool) (t s : Nat) : Nat := if t = aw then 0 else tabD D t s L + (if s = was t then 0 else if ct = false then 0 else D 7 (7 * t + s))
def okA (D : PD) (aw t s : Nat) : Bool := if t = aw then s == 0 else stD (D 0 t) s
/-- the best room, over the days L, at most l things put otherwise -/
def bsD (D : PD) (n : Nat) (L : List Nat) (was : Nat → Nat) (aw : Nat) (ct : Bool) (l : Nat) : BR := bst (prD D L was aw ct) (okA D aw) was (decide (l < n)) n 0 0 l
def awI (aw : Nat) : Int32 := if aw < 5 then nI aw else -1
theorem aw_eq {t aw : Nat} (ht : t < 5) : (nI t = awI aw ↔ t = aw) := by
  unfold awI
  split
  · exact nI_eq (by omega) (by omega)
  · exact ⟨fun z => absurd z (nI_m1 (by omega)), fun z => absurd z (by omega)⟩
