/-! how the class's memory goes on when something is made: objects that are named in P may change, all others stay -/
def KF (μ : Mem) (b : Kb) : Prop := Kc b ∧ (∀ q, ivO b q < 25 → (mT μ q).1 = 1) ∧ ∀ q, (ivR b q).1 < 25 → (mT μ q).1 ≠ 0 ∧ (mT μ q).1 ≠ 1
def EV (P : Nat → Prop) (μ : Mem) (b : Kb) (κ : KS) (μ2 : Mem) (b2 : Kb) (κ2 : KS) : Prop := (∀ p, p < 25 → ¬ P p → adO b2 p = adO b p ∧ (∀ f, adR b2 p f = adR b p f) ∧ κ2.1 p = κ.1 p ∧ κ2.2 p = κ.2 p) ∧ (∀ q, ivO b q < 25 → ¬ P (ivO b q) → same (KV μ b κ) (KV μ2 b2 κ2) q ∧ ivO b2 q = ivO b q) ∧ ∀ q, (ivR b q).1 < 25 → ¬ P (ivR b q).1 → same (KV μ b κ) (KV μ2 b2 κ2) q ∧ ivR b2 q = ivR b q
/-- what isn't the class's stays -/
def FO (μ : Mem) (b : Kb) (κ : KS) (μ2 : Mem) (b2 : Kb) (κ2 : KS) : Prop := ∀ q, (mT μ q).1 ≠ 0 → 25 ≤ ivO b q → 25 ≤ (ivR b q).1 → same (KV μ b κ) (KV μ2 b2 κ2) q ∧ 25 ≤ ivO b2 q ∧ 25 ≤ (ivR b2 q).1
/-- a row of object p, field f: its kind and length -/
def RO (μ : Mem) (b : Kb) (p f t n : Nat) : Prop := p < 25 ∧ mT μ (adR b p f) = (t, n) ∧ ivR b (adR b p f) = (p, f)
section M9994
variable {P P' : Nat → Prop} {μ μ2 μ3 : Mem} {b b2 b3 : Kb} {κ κ2 κ3 : KS}
theorem EV.rf : EV P μ b κ μ b κ := ⟨fun _ _ _ => ⟨rfl, fun _ => rfl, rfl, rfl⟩, fun _ _ _ => ⟨same.rf, rfl⟩, fun _ _ _ => ⟨same.rf, rfl⟩⟩
theorem FO.rf : FO μ b κ μ b κ := fun _ _ h h2 => ⟨same.rf, h, h2⟩
theorem EV.mono (e : EV P μ b κ μ2 b2 κ2) (h : ∀ p, P p → P' p) : EV P' μ b κ μ2 b2 κ2 := ⟨fun p h1 h2 => e.1 p h1 (fun z => h2 (h p z)), fun q h1 h2 => e.2.1 q h1 (fun z => h2 (h _ z)), fun q h1 h2 => e.2.2 q h1 (fun z => h2 (h _ z))⟩
theorem EV.trans (e : EV P μ b κ μ2 b2 κ2) (e2 : EV P μ2 b2 κ2 μ3 b3 κ3) : EV P μ b κ μ3 b3 κ3 := by
  refine ⟨fun p h1 h2 => ?_, fun q h1 h2 => ?_, fun q h1 h2 => ?_⟩
  · obtain ⟨a1, a2, a3, a4⟩ := e.1 p h1 h2
    obtain ⟨c1, c2, c3, c4⟩ := e2.1 p h1 h2
    exact ⟨c1.trans a1, fun f => (c2 f).trans (a2 f), c3.trans a3, c4.trans a4⟩
  · obtain ⟨a1, a2⟩ := e.2.1 q h1 h2
    obtain ⟨c1, c2⟩ := e2.2.1 q (by rw [a2]; exact h1) (by rw [a2]; exact h2)
    exact ⟨a1.trans c1, c2.trans a2⟩
  · obtain ⟨a1, a2⟩ := e.2.2 q h1 h2
    obtain ⟨c1, c2⟩ := e2.2.2 q (by rw [a2]; exact h1) (by rw [a2]; exact h2)
    exact ⟨a1.trans c1, c2.trans a2⟩
theorem FO.trans (e : FO μ b κ μ2 b2 κ2) (e2 : FO μ2 b2 κ2 μ3 b3 κ3) : FO μ b κ μ3 b3 κ3 := fun q h1 h2 h3 => by
  obtain ⟨a1, a2, a3⟩ := e q h1 h2 h3
  obtain ⟨c1, c2, c3⟩ := e2 q (by
    have : mT μ2 q = mT μ q := a1.1
    rw [this]; exact h1) a2 a3
  exact ⟨a1.trans c1, c2, c3⟩
theorem KO_EV {p ci : Nat} {len : Nat → Nat} (e : EV P μ b κ μ2 b2 κ2) (hc : Kc b2) (hp : ¬ P p) (h : KO μ b p ci len) : KO μ2 b2 p ci len := by
  obtain ⟨h1, h2, h3, h4, h5⟩ := h
  have a := e.1 p h2 hp
  have s := e.2.1 (adO b p) (by rw [h4]; exact h2) (by rw [h4]; exact hp)
  refine ⟨hc, h2, ?_, ?_, fun f hf => ?_⟩
  · rw [a.1]
    exact s.1.1.trans h3
  · rw [a.1, s.2, h4]
  · obtain ⟨g1, g2, g3⟩ := h5 f hf
    have r := e.2.2 (adR b p f) (by rw [g3]; exact h2) (by rw [g3]; exact hp)
    rw [a.1, a.2.1 f]
    exact ⟨(congrFun s.1.2.2.2.1 f).trans g1, r.1.1.trans g2, r.2.trans g3⟩
theorem mR_EV {p ci k : Nat} {len : Nat → Nat} (e : EV P μ b κ μ2 b2 κ2) (hp : ¬ P p) (h : KO μ b p ci len) : mR μ2 (adO b2 p) k = mR μ (adO b p) k := by
  obtain ⟨h1, h2, h3, h4, h5⟩ := h
  have s := e.2.1 (adO b p) (by rw [h4]; exact h2) (by rw [h4]; exact hp)
  rw [(e.1 p h2 hp).1]
  exact congrFun s.1.2.2.2.1 k
theorem RO_EV {p f t n : Nat} (e : EV P μ b κ μ2 b2 κ2) (hp : ¬ P p) (h : RO μ b p f t n) : RO μ2 b2 p f t n ∧ ∀ i, mX μ2 (adR b2 p f) i = mX μ (adR b p f) i := by
  obtain ⟨h1, h2, h3⟩ := h
  have r := e.2.2 (adR b p f) (by rw [h3]; exact h1) (by rw [h3]; exact hp)
  unfold RO
  rw [(e.1 p h1 hp).2.1 f]
  exact ⟨⟨h1, r.1.1.trans h2, r.2.trans h3⟩, fun i => congrFun r.1.2.2.2.2.2 i⟩
/-- what is new and not yet named -/
theorem KV_grow (hf : KF μ b) (hs : ∀ q, (mT μ q).1 ≠ 0 → same (KV μ b κ) μ2 q) : KV μ2 b κ = μ2 ∧ KF μ2 b ∧ (∀ P, EV P μ b κ μ2 b κ) ∧ FO μ b κ μ2 b κ := by
  have hO : ∀ q, ivO b q < 25 → same (KV μ b κ) μ2 q := fun q h => hs q (by rw [hf.2.1 q h]; decide)
  have hR : ∀ q, (ivR b q).1 < 25 → same (KV μ b κ) μ2 q := fun q h => hs q (hf.2.2 q h).1
  have e : KV μ2 b κ = μ2 := by
    unfold KV
    refine Prod.ext rfl (Prod.ext ?_ (Prod.ext rfl (Prod.ext rfl (Prod.ext ?_ rfl))))
    · funext q k
      show (if ivO b q < 25 then κ.1 (ivO b q) k else mI μ2 q k) = mI μ2 q k
      by_cases h : ivO b q < 25
      · rw [if_pos h, congrFun (hO q h).2.1 k]
        exact (KV_mI rfl h).symm
      · rw [if_neg h]
    · funext q k
      show (if (ivR b q).1 < 25 then κ.2 (ivR b q).1 (ivR b q).2 k else mA μ2 q k) = mA μ2 q k
      by_cases h : (ivR b q).1 < 25
      · rw [if_pos h, congrFun (hR q h).2.2.2.2.1 k]
        exact (KV_mA (κ := κ) (k := (ivR b q).2) rfl h).symm
      · rw [if_neg h]
  refine ⟨e, ⟨hf.1, fun q h => ?_, fun q h => ?_⟩, fun P => ⟨fun _ _ _ => ⟨rfl, fun _ => rfl, rfl, rfl⟩, fun q h _ => ⟨by rw [e]; exact hO q h, rfl⟩, fun q h _ => ⟨by rw [e]; exact hR q h, rfl⟩⟩, fun q h1 h2 h3 => ⟨by rw [e]; exact hs q h1, h2, h3⟩⟩
  · have : mT μ2 q = mT μ q := (hO q h).1
    rw [this]
    exact hf.2.1 q h
  · have : mT μ2 q = mT μ q := (hR q h).1
    rw [this]
    exact hf.2.2 q h
/-- what is there gets a number -/
theorem N_reg {o q0 ci : Nat} {fs : List Nat} {rw : Nat → Nat} (hk : KV μ b κ = μ) (hf : KF μ b) (hT : mT μ q0 = (1, ci)) (h0 : 25 ≤ ivO b q0) (hr : ∀ f ∈ fs, ((mT μ (rw f)).1 ≠ 0 ∧ (mT μ (rw f)).1 ≠ 1) ∧ 25 ≤ (ivR b (rw f)).1) : KV μ (bN b o q0 fs rw) (kN κ μ o q0 rw) = μ ∧ KF μ (bN b o q0 fs rw) ∧ EV (fun p => p = o) μ b κ μ (bN b o q0 fs rw) (kN κ μ o q0 rw) := by
  have hO : ∀ f ∈ fs, 25 ≤ ivO b (rw f) := fun f h => Nat.le_of_not_lt (fun z => (hr f h).1.2 (hf.2.1 _ z))
  have hR : 25 ≤ (ivR b q0).1 := Nat.le_of_not_lt (fun z => (hf.2.2 _ z).2 (by rw [hT]))
  have hq : ∀ f ∈ fs, rw f ≠ q0 := fun f h z => (hr f h).1.2 (by rw [z, hT])
  have e : KV μ (bN b o q0 fs rw) (kN κ μ o q0 rw) = μ := KV_N (μ := μ) (fun a _ _ => by rw [hk]; exact same.rf) hO hR hq
  refine ⟨e, ⟨bN_Kc hf.1, fun q h => ?_, fun q h => ?_⟩, fun p h hn => ⟨if_neg hn, fun f => if_neg (fun z => hn z.1), ?_, ?_⟩, fun q h hn => ⟨by rw [hk, e]; exact same.rf, ?_⟩, fun q h hn => ⟨by rw [hk, e]; exact same.rf, ?_⟩⟩
  · rw [bN_O] at h
    by_cases h1 : q = q0
    · rw [h1, hT]
    · rw [if_neg h1] at h
      by_cases h2 : ivO b q = o
      · rw [if_pos h2] at h
        omega
      · rw [if_neg h2] at h
        exact hf.2.1 q h
  · rcases bN_R (b := b) (o := o) (q0 := q0) (fs := fs) (rw := rw) q with ⟨f, h1, h2, h3⟩ | ⟨h1, h3⟩
    · rw [← h2]
      exact (hr f h1).1
    · rw [h3] at h
      by_cases h2 : (ivR b q).1 = o
      · rw [if_pos h2] at h
        exact absurd h (by decide)
      · rw [if_neg h2] at h
        exact hf.2.2 q h
  · funext k
    exact if_neg hn
  · funext f
    exact if_neg hn
  · rw [bN_O, if_neg (fun z => by rw [z] at h; omega), if_neg hn]
  · rcases bN_R (b := b) (o := o) (q0 := q0) (fs := fs) (rw := rw) q with ⟨f, h1, h2, h3⟩ | ⟨h1, h3⟩
    · have := (hr f h1).2
      rw [h2] at this
      omega
    · rw [h3, if_neg hn]
end M9994
