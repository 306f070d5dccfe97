/-! a new object under an old number -/
def bN (b : Kb) (o q0 : Nat) (fs : List Nat) (rw : Nat → Nat) : Kb := (fun p => if p = o then q0 else adO b p, fun p f => if p = o ∧ f ∈ fs then rw f else adR b p f, fun q => if q = q0 then o else if ivO b q = o then 99 else ivO b q, fun q => match fs.find? (fun f => decide (rw f = q)) with
  | some f => (o, f)
  | none => if (ivR b q).1 = o then (99, 0) else ivR b q)
def kN (κ : KS) (μ2 : Mem) (o q0 : Nat) (rw : Nat → Nat) : KS := (fun p k => if p = o then mI μ2 q0 k else κ.1 p k, fun p f => if p = o then mA μ2 (rw f) else κ.2 p f)
section M9992
variable {μ μ2 : Mem} {b : Kb} {κ : KS} {o q0 : Nat} {fs : List Nat} {rw : Nat → Nat}
theorem bN_R (q : Nat) : (∃ f, f ∈ fs ∧ rw f = q ∧ ivR (bN b o q0 fs rw) q = (o, f)) ∨ ((∀ f ∈ fs, rw f ≠ q) ∧ ivR (bN b o q0 fs rw) q = if (ivR b q).1 = o then (99, 0) else ivR b q) := by
  show (∃ f, f ∈ fs ∧ rw f = q ∧ (match fs.find? (fun f => decide (rw f = q)) with
    | some f => (o, f)
    | none => if (ivR b q).1 = o then (99, 0) else ivR b q) = (o, f)) ∨ ((∀ f ∈ fs, rw f ≠ q) ∧ (match fs.find? (fun f => decide (rw f = q)) with
    | some f => (o, f)
    | none => if (ivR b q).1 = o then (99, 0) else ivR b q) = if (ivR b q).1 = o then (99, 0) else ivR b q)
  cases hf : fs.find? (fun f => decide (rw f = q)) with
  | some f => exact Or.inl ⟨f, List.mem_of_find?_eq_some hf, of_decide_eq_true (List.find?_some (p := fun f => decide (rw f = q)) hf), rfl⟩
  | none => exact Or.inr ⟨fun f h e => by
      have := List.find?_eq_none.mp hf f h
      exact this (decide_eq_true e), rfl⟩
theorem bN_O (q : Nat) : ivO (bN b o q0 fs rw) q = if q = q0 then o else if ivO b q = o then 99 else ivO b q := rfl
theorem bN_Kc (h : Kc b) : Kc (bN b o q0 fs rw) := by
  refine ⟨fun q hq => ?_, fun q hq => ?_⟩
  · rw [bN_O] at hq ⊢
    by_cases h1 : q = q0
    · rw [if_pos h1]
      exact h1.trans (if_pos rfl).symm
    · rw [if_neg h1] at hq ⊢
      by_cases h2 : ivO b q = o
      · rw [if_pos h2] at hq
        omega
      · rw [if_neg h2] at hq ⊢
        exact (h.1 q hq).trans (if_neg h2).symm
  · rcases bN_R (b := b) (o := o) (q0 := q0) (fs := fs) (rw := rw) q with ⟨f, h1, h2, h3⟩ | ⟨h1, h3⟩
    · rw [h3]
      exact h2.symm.trans (if_pos ⟨rfl, h1⟩).symm
    · rw [h3] at hq ⊢
      by_cases h2 : (ivR b q).1 = o
      · rw [if_pos h2] at hq
        exact absurd hq (by decide)
      · rw [if_neg h2] at hq ⊢
        exact (h.2 q hq).trans (if_neg (fun z => h2 z.1)).symm
theorem KV_N (hs : ∀ a, a ≠ q0 → (∀ f ∈ fs, rw f ≠ a) → same (KV μ b κ) μ2 a) (hO : ∀ f ∈ fs, 25 ≤ ivO b (rw f)) (hR : 25 ≤ (ivR b q0).1) (h0 : ∀ f ∈ fs, rw f ≠ q0) : KV μ2 (bN b o q0 fs rw) (kN κ μ2 o q0 rw) = μ2 := by
  unfold KV
  refine Prod.ext rfl (Prod.ext ?_ (Prod.ext rfl (Prod.ext rfl (Prod.ext ?_ rfl))))
  · funext q k
    show (if ivO (bN b o q0 fs rw) q < 25 then (kN κ μ2 o q0 rw).1 (ivO (bN b o q0 fs rw) q) k else mI μ2 q k) = mI μ2 q k
    rw [bN_O]
    by_cases h1 : q = q0
    · rw [if_pos h1]
      split
      · show (if o = o then mI μ2 q0 k else κ.1 o k) = _
        rw [if_pos rfl, h1]
      · rfl
    · rw [if_neg h1]
      by_cases h2 : ivO b q = o
      · rw [if_pos h2, if_neg (by decide)]
      · rw [if_neg h2]
        split
        · rename_i h3
          show (if ivO b q = o then mI μ2 q0 k else κ.1 (ivO b q) k) = _
          rw [if_neg h2]
          have e := congrFun (hs q h1 (fun f hf e => by
            have := hO f hf
            rw [e] at this
            omega)).2.1 k
          rw [e]
          show _ = if ivO b q < 25 then κ.1 (ivO b q) k else mI μ q k
          rw [if_pos h3]
        · rfl
  · funext q i
    show (if (ivR (bN b o q0 fs rw) q).1 < 25 then (kN κ μ2 o q0 rw).2 (ivR (bN b o q0 fs rw) q).1 (ivR (bN b o q0 fs rw) q).2 i else mA μ2 q i) = mA μ2 q i
    rcases bN_R (b := b) (o := o) (q0 := q0) (fs := fs) (rw := rw) q with ⟨f, h1, h2, h3⟩ | ⟨h1, h3⟩
    · rw [h3]
      split
      · show (if o = o then mA μ2 (rw f) else κ.2 o f) i = _
        rw [if_pos rfl, h2]
      · rfl
    · rw [h3]
      by_cases h2 : (ivR b q).1 = o
      · rw [if_pos h2, if_neg (by decide)]
      · rw [if_neg h2]
        split
        · rename_i h4
          show (if (ivR b q).1 = o then mA μ2 (rw (ivR b q).2) else κ.2 (ivR b q).1 (ivR b q).2) i = _
          rw [if_neg h2]
          have e := congrFun (hs q (fun e => by
            rw [e] at h4
            omega) h1).2.2.2.2.1 i
          rw [e]
          show _ = if (ivR b q).1 < 25 then κ.2 (ivR b q).1 (ivR b q).2 i else mA μ q i
          rw [if_pos h4]
        · rfl
/-- the others stay -/
theorem KO_N {p ci : Nat} {len : Nat → Nat} (h : KO μ b p ci len) (hp : p ≠ o) (hs : ∀ a, a ≠ q0 → (∀ f ∈ fs, rw f ≠ a) → same (KV μ b κ) μ2 a) (hq0 : (mT μ q0).1 = 0) (hrw : ∀ f ∈ fs, (mT μ (rw f)).1 = 0) : KO μ2 (bN b o q0 fs rw) p ci len := by
  obtain ⟨h1, h2, h3, h4, h5⟩ := h
  have hl : ∀ f, len f ≠ 0 → (mT μ (adR b p f)).1 ≠ 0 := fun f hf => by rw [(h5 f hf).2.1]; exact (show (2 : Nat) ≠ 0 by decide)
  have eO : adO (bN b o q0 fs rw) p = adO b p := if_neg hp
  have nO : adO b p ≠ q0 := fun z => by rw [← z, h3] at hq0; cases hq0
  have nR : ∀ f ∈ fs, rw f ≠ adO b p := fun f hf z => by
    have := hrw f hf
    rw [z, h3] at this
    cases this
  have sO := hs _ nO nR
  refine ⟨bN_Kc h1, h2, ?_, ?_, fun f hf => ?_⟩
  · rw [eO, sO.1]
    exact h3
  · rw [eO, bN_O, if_neg nO, if_neg (by rw [h4]; exact hp), h4]
  · obtain ⟨g1, g2, g3⟩ := h5 f hf
    have eR : adR (bN b o q0 fs rw) p f = adR b p f := if_neg (fun z => hp z.1)
    have n1 : adR b p f ≠ q0 := fun z => by
      have := hl f hf
      rw [z] at this
      exact this hq0
    have n2 : ∀ f2 ∈ fs, rw f2 ≠ adR b p f := fun f2 hf2 z => by
      have := hl f hf
      rw [← z] at this
      exact this (hrw f2 hf2)
    refine ⟨?_, ?_, ?_⟩
    · rw [eO, eR, sO.2.2.2.1]
      exact g1
    · rw [eR, (hs _ n1 n2).1]
      exact g2
    · rw [eR]
      rcases bN_R (b := b) (o := o) (q0 := q0) (fs := fs) (rw := rw) (adR b p f) with ⟨f2, h6, h7, -⟩ | ⟨-, h7⟩
      · exact absurd h7 (n2 f2 h6)
      · rw [h7, if_neg (by rw [g3]; exact hp), g3]
/-- the new one -/
theorem KO_M {ci : Nat} {len : Nat → Nat} (hc : Kc b) (ho : o < 25) (hT : mT μ2 q0 = (1, ci)) (hi : ∀ f ∈ fs, ∀ f2 ∈ fs, rw f = rw f2 → f = f2) (hf : ∀ f, len f ≠ 0 → f ∈ fs ∧ mR μ2 q0 f = some (rw f) ∧ mT μ2 (rw f) = (2, len f)) : KO μ2 (bN b o q0 fs rw) o ci len := by
  have eO : adO (bN b o q0 fs rw) o = q0 := if_pos rfl
  refine ⟨bN_Kc hc, ho, by rw [eO]; exact hT, by rw [eO, bN_O, if_pos rfl], fun f h => ?_⟩
  obtain ⟨h1, h2, h3⟩ := hf f h
  have eR : adR (bN b o q0 fs rw) o f = rw f := if_pos ⟨rfl, h1⟩
  refine ⟨by rw [eO, eR]; exact h2, by rw [eR]; exact h3, ?_⟩
  rw [eR]
  rcases bN_R (b := b) (o := o) (q0 := q0) (fs := fs) (rw := rw) (rw f) with ⟨f2, h6, h7, h8⟩ | ⟨h6, -⟩
  · rw [h8, hi f2 h6 f h1 h7]
  · exact absurd rfl (h6 f h1)
end M9992
