/-! a new object gets its number; a reference written; ints written -/
section M9995
variable {P : Nat → Prop} {μ μ2 : Mem} {b : Kb} {κ κ2 : KS} {o q0 ci : Nat} {g : Nat → Int32} {L : AL} {rw : Nat → Nat}
theorem AI_old (I : AI (nw (KV μ b κ) q0 1 ci) μ2 q0 ci g L) (hq0 : (mT μ q0).1 = 0) : (∀ x ∈ L, (mT μ x.2.1).1 = 0) ∧ ∀ q, (mT μ q).1 ≠ 0 → same (KV μ b κ) μ2 q := by
  obtain ⟨-, -, -, h4, -, h6⟩ := I
  have hL : ∀ x ∈ L, (mT μ x.2.1).1 = 0 := fun x hx => by
    obtain ⟨-, -, -, -, y5, y6, -⟩ := h4 x hx
    rw [nw_Tn y5] at y6
    exact y6
  refine ⟨hL, fun q hq => ?_⟩
  have n0 : q ≠ q0 := fun z => hq (by rw [z]; exact hq0)
  exact (same_nw n0).trans (h6 q n0 (fun x hx z => hq (by rw [← z]; exact hL x hx)))
theorem AI_reg (I : AI (nw (KV μ b κ) q0 1 ci) μ2 q0 ci g L) (hq0 : (mT μ q0).1 = 0) (hf : KF μ b) (ho : o < 25) (hty : ∀ x ∈ L, x.2.2.1 ≠ 1) (hrw : ∀ x ∈ L, rw x.1 = x.2.1) :
    ∃ (b2 : Kb) (κ2 : KS), KV μ2 b2 κ2 = μ2 ∧ KF μ2 b2 ∧ EV (fun p => p = o) μ b κ μ2 b2 κ2 ∧ FO μ b κ μ2 b2 κ2 ∧ adO b2 o = q0 ∧ ivO b2 q0 = o ∧ κ2.1 o = g ∧ mT μ2 q0 = (1, ci) ∧ ∀ x ∈ L, adR b2 o x.1 = x.2.1 ∧ ivR b2 x.2.1 = (o, x.1) ∧ (∀ i, κ2.2 o x.1 i = 0) ∧ mR μ2 q0 x.1 = some x.2.1 ∧ mT μ2 x.2.1 = x.2.2 ∧ ∀ i, mX μ2 x.2.1 i = none := by
  obtain ⟨hL, hs⟩ := AI_old I hq0
  obtain ⟨e1, e2, e3, e4⟩ := KV_grow hf hs
  obtain ⟨i1, i2, i3, i4, i5, i6⟩ := I
  have hm : ∀ f ∈ L.map (fun x => x.1), ∃ x ∈ L, x.1 = f ∧ rw f = x.2.1 := fun f h => by
    obtain ⟨x, hx, rfl⟩ := List.mem_map.mp h
    exact ⟨x, hx, rfl, hrw x hx⟩
  have hfr : ∀ x ∈ L, 25 ≤ (ivR b x.2.1).1 := fun x hx => Nat.le_of_not_lt (fun z => (hf.2.2 _ z).1 (hL x hx))
  have h0 : 25 ≤ ivO b q0 := Nat.le_of_not_lt (fun z => by
    have := hf.2.1 _ z
    rw [hq0] at this
    cases this)
  have hr : ∀ f ∈ L.map (fun x => x.1), ((mT μ2 (rw f)).1 ≠ 0 ∧ (mT μ2 (rw f)).1 ≠ 1) ∧ 25 ≤ (ivR b (rw f)).1 := fun f h => by
    obtain ⟨x, hx, -, e⟩ := hm f h
    obtain ⟨-, y2, -, -, -, -, y7⟩ := i4 x hx
    rw [e, y2]
    exact ⟨⟨y7, hty x hx⟩, hfr x hx⟩
  obtain ⟨n1, n2, n3⟩ := N_reg (o := o) (fs := L.map (fun x => x.1)) (rw := rw) e1 e2 i1 h0 hr
  have hadR : ∀ x ∈ L, adR (bN b o q0 (L.map (fun x => x.1)) rw) o x.1 = x.2.1 := fun x hx => (if_pos ⟨rfl, List.mem_map.mpr ⟨x, hx, rfl⟩⟩ : adR (bN b o q0 (L.map (fun x => x.1)) rw) o x.1 = rw x.1).trans (hrw x hx)
  refine ⟨bN b o q0 (L.map (fun x => x.1)) rw, kN κ μ2 o q0 rw, n1, n2, (e3 _).trans n3, fun q h1 h2 h3 => ?_, if_pos rfl, by rw [bN_O, if_pos rfl], ?_, i1, fun x hx => ?_⟩
  · have q1 : q ≠ q0 := fun z => h1 (by rw [z]; exact hq0)
    refine ⟨by rw [n1]; exact hs q h1, ?_, ?_⟩
    · rw [bN_O, if_neg q1, if_neg (by omega)]
      exact h2
    · rcases bN_R (b := b) (o := o) (q0 := q0) (fs := L.map (fun x => x.1)) (rw := rw) q with ⟨f, h4, h5, -⟩ | ⟨-, h5⟩
      · obtain ⟨x, hx, -, e⟩ := hm f h4
        rw [h5] at e
        exact absurd (by rw [e]; exact hL x hx) h1
      · rw [h5, if_neg (by omega)]
        exact h3
  · funext k
    show (if o = o then mI μ2 q0 k else κ.1 o k) = g k
    rw [if_pos rfl, i2]
  · obtain ⟨y1, y2, y3, y4, y5, y6, y7⟩ := i4 x hx
    refine ⟨hadR x hx, ?_, fun i => ?_, y1, y2, y4⟩
    · rcases bN_R (b := b) (o := o) (q0 := q0) (fs := L.map (fun x => x.1)) (rw := rw) x.2.1 with ⟨f, h4, h5, h6⟩ | ⟨h5, -⟩
      · obtain ⟨y, hy, e, e2⟩ := hm f h4
        rw [h6, ← e, i5 y hy x hx (by rw [← e2]; exact h5)]
      · exact absurd (hrw x hx) (h5 x.1 (List.mem_map.mpr ⟨x, hx, rfl⟩))
    · show (if o = o then mA μ2 (rw x.1) else κ.2 o x.1) i = 0
      rw [if_pos rfl, hrw x hx]
      exact y3 i
/-- the object with its rows of ints -/
theorem KO_mk {len : Nat → Nat} (hc : Kc b) (ho : o < 25) (hT : mT μ (adO b o) = (1, ci)) (hi : ivO b (adO b o) = o) (hl : ∀ f, len f ≠ 0 → mR μ (adO b o) f = some (adR b o f) ∧ mT μ (adR b o f) = (2, len f) ∧ ivR b (adR b o f) = (o, f)) : KO μ b o ci len := ⟨hc, ho, hT, hi, hl⟩
theorem EV_sR {k : Nat} {v : Option Nat} (hi : ivO b (adO b o) = o) (hf : KF μ b) (ho : o < 25) : EV (fun p => p = o) μ b κ (sR μ (adO b o) k v) b κ ∧ FO μ b κ (sR μ (adO b o) k v) b κ ∧ KF (sR μ (adO b o) k v) b := by
  have hs : ∀ q, ivO b q ≠ o → same (KV μ b κ) (KV (sR μ (adO b o) k v) b κ) q := fun q h => same_sR (μ := KV μ b κ) (fun z => h (by rw [z, hi]))
  refine ⟨⟨fun _ _ _ => ⟨rfl, fun _ => rfl, rfl, rfl⟩, fun q _ h => ⟨hs q h, rfl⟩, fun q h1 h => ⟨hs q (fun z => ?_), rfl⟩⟩, fun q _ h2 h3 => ⟨hs q (by omega), h2, h3⟩, hf⟩
  exact (hf.2.2 q h1).2 (hf.2.1 q (by rw [z]; exact ho))
theorem KO_sR {p q k : Nat} {v : Option Nat} {len : Nat → Nat} (h : KO μ b p ci len) (hk : adO b p ≠ q ∨ len k = 0) : KO (sR μ q k v) b p ci len := by
  obtain ⟨h1, h2, h3, h4, h5⟩ := h
  refine ⟨h1, h2, h3, h4, fun f hf => ⟨?_, (h5 f hf).2⟩⟩
  show up2 (mR μ) q k v (adO b p) f = _
  rw [up2_n]
  · exact (h5 f hf).1
  · rcases hk with h | h
    · exact Or.inl h
    · exact Or.inr (fun z => hf (by rw [z]; exact h))
theorem EV_sX {f i : Nat} {v : Option Nat} (hi : ivR b (adR b o f) = (o, f)) (hf : KF μ b) (ho : o < 25) : EV (fun p => p = o) μ b κ (sX μ (adR b o f) i v) b κ ∧ FO μ b κ (sX μ (adR b o f) i v) b κ ∧ KF (sX μ (adR b o f) i v) b := by
  have hs : ∀ q, (ivR b q).1 ≠ o → same (KV μ b κ) (KV (sX μ (adR b o f) i v) b κ) q := fun q h => same_sX (μ := KV μ b κ) (fun z => h (by rw [z, hi]))
  refine ⟨⟨fun _ _ _ => ⟨rfl, fun _ => rfl, rfl, rfl⟩, fun q h1 h => ⟨hs q (fun z => ?_), rfl⟩, fun q h1 h => ⟨hs q h, rfl⟩⟩, fun q _ h2 h3 => ⟨hs q (by omega), h2, h3⟩, hf⟩
  exact (hf.2.2 q (by rw [z]; exact ho)).2 (hf.2.1 q h1)
theorem EV_kq {Pk : Nat → Nat → Prop} (hf : KF μ b) (h : kq Pk κ κ2) (hp : ∀ a k, Pk a k → P a ∧ a < 25) : EV P μ b κ μ b κ2 ∧ FO μ b κ μ b κ2 := by
  have g1 : ∀ a, ¬ P a → κ2.1 a = κ.1 a := fun a ha => funext fun k => (h a k (fun z => ha (hp a k z).1)).1
  have g2 : ∀ a, ¬ P a → κ2.2 a = κ.2 a := fun a ha => funext fun k => (h a k (fun z => ha (hp a k z).1)).2
  have hO : ∀ q, (ivO b q < 25 → ¬ P (ivO b q)) → mI (KV μ b κ2) q = mI (KV μ b κ) q := fun q hq => by
    funext k
    show (if ivO b q < 25 then κ2.1 (ivO b q) k else mI μ q k) = if ivO b q < 25 then κ.1 (ivO b q) k else mI μ q k
    by_cases h1 : ivO b q < 25
    · rw [if_pos h1, if_pos h1, g1 _ (hq h1)]
    · rw [if_neg h1, if_neg h1]
  have hR : ∀ q, ((ivR b q).1 < 25 → ¬ P (ivR b q).1) → mA (KV μ b κ2) q = mA (KV μ b κ) q := fun q hq => by
    funext k
    show (if (ivR b q).1 < 25 then κ2.2 (ivR b q).1 (ivR b q).2 k else mA μ q k) = if (ivR b q).1 < 25 then κ.2 (ivR b q).1 (ivR b q).2 k else mA μ q k
    by_cases h1 : (ivR b q).1 < 25
    · rw [if_pos h1, if_pos h1, g2 _ (hq h1)]
    · rw [if_neg h1, if_neg h1]
  exact ⟨⟨fun p _ hn => ⟨rfl, fun _ => rfl, g1 p hn, g2 p hn⟩, fun q h1 h2 => ⟨⟨rfl, hO q (fun _ => h2), rfl, rfl, hR q (fun z => absurd (hf.2.1 q h1) (hf.2.2 q z).2), rfl⟩, rfl⟩, fun q h1 h2 => ⟨⟨rfl, hO q (fun z => absurd (hf.2.1 q z) (hf.2.2 q h1).2), rfl, rfl, hR q (fun _ => h2), rfl⟩, rfl⟩⟩, fun q _ h2 h3 => ⟨⟨rfl, hO q (fun z => absurd z (by omega)), rfl, rfl, hR q (fun z => absurd z (by omega)), rfl⟩, h2, h3⟩⟩
end M9995
