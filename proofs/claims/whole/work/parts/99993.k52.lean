/-! steps of an object in its making; the class's objects, all of them -/
def HS (μ : Mem) (b : Kb) (o base : Nat) (kd : Nat → Nat) : Prop := KO μ b o 2 hsL ∧ RO μ b o 3 4 5 ∧ KXo μ b o base kd
def pL : Nat → Nat := fun f => if f = 2 then 160 else 0
/-- kinds of the house's things; is there an image; how many sheets, texts; how long these are -/
def CI (μ : Mem) (b : Kb) (kd : Nat → Nat) (kp : Bool) (ns nt : Nat) (tn : Nat → Nat) : Prop := KF μ b ∧ (KO μ b 0 11 pL ∧ mR μ (adO b 0) 0 = some (adO b 1) ∧ mR μ (adO b 0) 4 = some (adO b 4) ∧ mR μ (adO b 0) 8 = some (adO b 3) ∧ mR μ (adO b 0) 5 = some (adR b 0 5) ∧ mR μ (adO b 0) 7 = some (adR b 0 7) ∧ mR μ (adO b 0) 1 = if kp = true then some (adO b 2) else none) ∧ (RO μ b 0 5 5 6 ∧ RO μ b 0 7 6 4) ∧ HS μ b 1 15 kd ∧ (kp = true → HS μ b 2 20 (fun _ => 0)) ∧ (KO μ b 3 4 plL ∧ KLo μ b) ∧ KO μ b 4 6 rdL ∧ (∀ i, i < ns → mX μ (adR b 0 7) i = some (adO b (5 + i)) ∧ KO μ b (5 + i) 7 shLen) ∧ ∀ i, i < nt → mX μ (adR b 0 5) i = some (adO b (9 + i)) ∧ KO μ b (9 + i) 8 (tLen (tn i))
section M99993
variable {P : Nat → Prop} {μ μ2 M : Mem} {b b2 : Kb} {κ κ2 : KS} {q0 ci kn k : Nat} {g : Nat → Int32} {Rf : List (Nat × Nat)} {L : AL}
theorem S_ref {a : Nat} (hk : KV M b κ = M) (kf : KF M b) (pi : PI M b q0 ci kn g Rf L) (h1 : k ≠ kn) (hR : ∀ x ∈ Rf, x.1 ≠ k) (hL : ∀ x ∈ L, x.1 ≠ k) : KV (sR M q0 k (some a)) b κ = sR M q0 k (some a) ∧ KF (sR M q0 k (some a)) b ∧ (∀ P, EV P M b κ (sR M q0 k (some a)) b κ) ∧ PI (sR M q0 k (some a)) b q0 ci kn g (Rf ++ [(k, a)]) L := by
  have u1 := pi.1.2.2.2.1
  have u2 := pi.1.2.2.2.2
  obtain ⟨e1, e2, e3⟩ := KV_side (κ := κ) (M2 := sR M q0 k (some a)) kf (fun q h => by rw [hk]; exact same_sR (fun z => by rw [z] at h; omega)) (fun q h => by rw [hk]; exact same_sR (fun z => by rw [z] at h; omega))
  exact ⟨e1, e2, e3, PI_ref pi h1 hR hL⟩
theorem S_null (hk : KV M b κ = M) (kf : KF M b) (pi : PI M b q0 ci kn g Rf L) (hR : ∀ x ∈ Rf, x.1 ≠ kn) (hL : ∀ x ∈ L, x.1 ≠ kn) : KV (sR M q0 kn none) b κ = sR M q0 kn none ∧ KF (sR M q0 kn none) b ∧ (∀ P, EV P M b κ (sR M q0 kn none) b κ) ∧ PI (sR M q0 kn none) b q0 ci kn g Rf L := by
  have u1 := pi.1.2.2.2.1
  have u2 := pi.1.2.2.2.2
  obtain ⟨e1, e2, e3⟩ := KV_side (κ := κ) (M2 := sR M q0 kn none) kf (fun q h => by rw [hk]; exact same_sR (fun z => by rw [z] at h; omega)) (fun q h => by rw [hk]; exact same_sR (fun z => by rw [z] at h; omega))
  exact ⟨e1, e2, e3, PI_null pi hR hL⟩
theorem S_int {v : Int32} (hk : KV M b κ = M) (kf : KF M b) (pi : PI M b q0 ci kn g Rf L) : KV (sI M q0 k v) b κ = sI M q0 k v ∧ KF (sI M q0 k v) b ∧ (∀ P, EV P M b κ (sI M q0 k v) b κ) ∧ PI (sI M q0 k v) b q0 ci kn (va_up g k v) Rf L := by
  have u1 := pi.1.2.2.2.1
  have u2 := pi.1.2.2.2.2
  obtain ⟨e1, e2, e3⟩ := KV_side (κ := κ) (M2 := sI M q0 k v) kf (fun q h => by rw [hk]; exact same_sI (fun z => by rw [z] at h; omega)) (fun q h => by rw [hk]; exact same_sI (fun z => by rw [z] at h; omega))
  exact ⟨e1, e2, e3, PI_int pi⟩
theorem S_row {q ty N : Nat} (hk : KV M b κ = M) (kf : KF M b) (pi : PI M b q0 ci kn g Rf L) (hq : (mT M q).1 = 0) (hty : ty ≠ 0) (h1 : k ≠ kn) (hR : ∀ x ∈ Rf, x.1 ≠ k) (hL : ∀ x ∈ L, x.1 ≠ k) : KV (sR (nw M q ty N) q0 k (some q)) b κ = sR (nw M q ty N) q0 k (some q) ∧ KF (sR (nw M q ty N) q0 k (some q)) b ∧ (∀ P, EV P M b κ (sR (nw M q ty N) q0 k (some q)) b κ) ∧ PI (sR (nw M q ty N) q0 k (some q)) b q0 ci kn g Rf (L ++ [(k, q, ty, N)]) := by
  have u1 := pi.1.2.2.2.1
  have u2 := pi.1.2.2.2.2
  have hO : 25 ≤ ivO b q := Nat.le_of_not_lt (fun z => by
    have := kf.2.1 _ z
    rw [hq] at this
    cases this)
  have hR2 : 25 ≤ (ivR b q).1 := Nat.le_of_not_lt (fun z => (kf.2.2 _ z).1 hq)
  obtain ⟨e1, e2, e3⟩ := KV_side (κ := κ) (M2 := sR (nw M q ty N) q0 k (some q)) kf (fun x h => by rw [hk]; exact (same_nw (fun z => by rw [z] at h; omega)).trans (same_sR (fun z => by rw [z] at h; omega))) (fun x h => by rw [hk]; exact (same_nw (fun z => by rw [z] at h; omega)).trans (same_sR (fun z => by rw [z] at h; omega)))
  exact ⟨e1, e2, e3, PI_row pi hq hO hR2 hty h1 hR hL⟩
theorem EV_idem (e : EV P μ b κ μ2 b2 κ2) : EV P μ b κ (KV μ2 b2 κ2) b2 κ2 := by
  unfold EV at e ⊢
  rw [KV_idem]
  exact e
theorem FO_idem (e : FO μ b κ μ2 b2 κ2) : FO μ b κ (KV μ2 b2 κ2) b2 κ2 := by
  unfold FO at e ⊢
  rw [KV_idem]
  exact e
theorem HS_EV {o base : Nat} {kd : Nat → Nat} (e : EV P μ b κ μ2 b2 κ2) (hc : Kc b2) (ho : ¬ P o) (hb : ∀ t, t < 5 → ¬ P (base + t)) (h : HS μ b o base kd) : HS μ2 b2 o base kd := by
  obtain ⟨h1, h2, h3, h4, h5⟩ := h
  obtain ⟨r1, r2⟩ := RO_EV e ho h2
  have hR := mR_EV (k := 3) e ho h1
  have hO := KO_EV e hc ho h1
  have a := e.1 o h2.1 ho
  refine ⟨hO, r1, ?_, r1.2.1, fun t ht => ?_⟩
  · rw [hR, h3, a.2.1]
  · obtain ⟨g1, g2⟩ := h5 t ht
    have hKt := KO_EV e hc (hb t ht) g2
    refine ⟨?_, hKt⟩
    rw [r2 t, g1, (e.1 (base + t) g2.2.1 (hb t ht)).1]
theorem KLo_EV (e : EV P μ b κ μ2 b2 κ2) (hc : Kc b2) (hp : ¬ P 3) (hK : KO μ b 3 4 plL) (h : KLo μ b) : KLo μ2 b2 := by
  obtain ⟨⟨h1, h2, h3⟩, h4⟩ := h
  obtain ⟨r1, r2⟩ := RO_EV e hp h4
  have hR := mR_EV (k := 11) e hp hK
  have a := e.1 3 (by decide) hp
  refine ⟨⟨?_, r1.2.1, fun j hj => ?_⟩, r1⟩
  · rw [hR, h1, a.2.1]
  · obtain ⟨g1, -, g3, g4, g5⟩ := h3 j hj
    obtain ⟨s1, -⟩ := RO_EV e hp (⟨g3, g4, g5⟩ : RO μ b 3 (100 + j) 2 320)
    refine ⟨?_, hc, g3, s1.2.1, s1.2.2⟩
    rw [r2 j, g1, a.2.1]
end M99993
