/-! an object in its making, not yet numbered, beside the class's numbered ones -/
def PI (M : Mem) (b : Kb) (q0 ci kn : Nat) (g : Nat → Int32) (Rf : List (Nat × Nat)) (L : AL) : Prop := (mT M q0 = (1, ci) ∧ mI M q0 = g ∧ mR M q0 kn = none ∧ 25 ≤ ivO b q0 ∧ 25 ≤ (ivR b q0).1) ∧ (∀ x ∈ Rf, mR M q0 x.1 = some x.2) ∧ (∀ x ∈ L, mR M q0 x.1 = some x.2.1 ∧ mT M x.2.1 = (x.2.2.1, x.2.2.2) ∧ (∀ i, mA M x.2.1 i = 0) ∧ (∀ i, mX M x.2.1 i = none) ∧ x.2.1 ≠ q0 ∧ x.2.2.1 ≠ 0 ∧ 25 ≤ ivO b x.2.1 ∧ 25 ≤ (ivR b x.2.1).1) ∧ ∀ x ∈ L, ∀ y ∈ L, x.2.1 = y.2.1 → x.1 = y.1
section M99991
variable {P : Nat → Prop} {μ μ2 M M2 : Mem} {b b2 : Kb} {κ κ2 : KS} {q0 ci kn : Nat} {g : Nat → Int32} {Rf : List (Nat × Nat)} {L : AL}
theorem KV_side (hf : KF μ b) (hO : ∀ q, ivO b q < 25 → same (KV μ b κ) M2 q) (hR : ∀ q, (ivR b q).1 < 25 → same (KV μ b κ) M2 q) : KV M2 b κ = M2 ∧ KF M2 b ∧ ∀ P, EV P μ b κ M2 b κ := by
  have e : KV M2 b κ = M2 := by
    unfold KV
    refine Prod.ext rfl (Prod.ext ?_ (Prod.ext rfl (Prod.ext rfl (Prod.ext ?_ rfl))))
    · funext q k
      show (if ivO b q < 25 then κ.1 (ivO b q) k else mI M2 q k) = mI M2 q k
      by_cases h : ivO b q < 25
      · rw [if_pos h, congrFun (hO q h).2.1 k]
        exact (KV_mI rfl h).symm
      · rw [if_neg h]
    · funext q k
      show (if (ivR b q).1 < 25 then κ.2 (ivR b q).1 (ivR b q).2 k else mA M2 q k) = mA M2 q k
      by_cases h : (ivR b q).1 < 25
      · rw [if_pos h, congrFun (hR q h).2.2.2.2.1 k]
        exact (KV_mA (κ := κ) (k := (ivR b q).2) rfl h).symm
      · rw [if_neg h]
  refine ⟨e, ⟨hf.1, fun q h => ?_, fun q h => ?_⟩, fun P => ⟨fun _ _ _ => ⟨rfl, fun _ => rfl, rfl, rfl⟩, fun q h _ => ⟨by rw [e]; exact hO q h, rfl⟩, fun q h _ => ⟨by rw [e]; exact hR q h, rfl⟩⟩⟩
  · have : mT M2 q = mT μ q := (hO q h).1
    rw [this]
    exact hf.2.1 q h
  · have : mT M2 q = mT μ q := (hR q h).1
    rw [this]
    exact hf.2.2 q h
theorem PI_FO (fo : FO μ b κ μ2 b2 κ2) (h : PI (KV μ b κ) b q0 ci kn g Rf L) : PI (KV μ2 b2 κ2) b2 q0 ci kn g Rf L := by
  obtain ⟨⟨h1, h2, h3, h4, h5⟩, h6, h7, h8⟩ := h
  have e1 : mT μ q0 = (1, ci) := h1
  obtain ⟨s, t1, t2⟩ := fo q0 (by rw [e1]; exact (show (1 : Nat) ≠ 0 by decide)) h4 h5
  refine ⟨⟨s.1.trans h1, s.2.1.trans h2, (congrFun s.2.2.2.1 kn).trans h3, t1, t2⟩, fun x hx => (congrFun s.2.2.2.1 x.1).trans (h6 x hx), fun x hx => ?_, h8⟩
  obtain ⟨y1, y2, y3, y4, y5, y6, y7, y8⟩ := h7 x hx
  have e2 : mT μ x.2.1 = (x.2.2.1, x.2.2.2) := y2
  obtain ⟨z, z1, z2⟩ := fo x.2.1 (by rw [e2]; exact y6) y7 y8
  exact ⟨(congrFun s.2.2.2.1 x.1).trans y1, z.1.trans y2, fun i => (congrFun z.2.2.2.2.1 i).trans (y3 i), fun i => (congrFun z.2.2.2.2.2 i).trans (y4 i), y5, y6, z1, z2⟩
theorem PI_ref {k a : Nat} (h : PI M b q0 ci kn g Rf L) (hk : k ≠ kn) (hR : ∀ x ∈ Rf, x.1 ≠ k) (hL : ∀ x ∈ L, x.1 ≠ k) : PI (sR M q0 k (some a)) b q0 ci kn g (Rf ++ [(k, a)]) L := by
  obtain ⟨⟨h1, h2, h3, h4, h5⟩, h6, h7, h8⟩ := h
  refine ⟨⟨h1, h2, (up2_n (Or.inr (Ne.symm hk))).trans h3, h4, h5⟩, fun x hx => ?_, fun x hx => ?_, h8⟩
  · rcases List.mem_append.mp hx with hx | hx
    · exact (up2_n (Or.inr (hR x hx))).trans (h6 x hx)
    · rw [List.mem_singleton.mp hx]
      exact up2_s
  · obtain ⟨y1, y2⟩ := h7 x hx
    exact ⟨(up2_n (Or.inr (hL x hx))).trans y1, y2⟩
theorem PI_null (h : PI M b q0 ci kn g Rf L) (hR : ∀ x ∈ Rf, x.1 ≠ kn) (hL : ∀ x ∈ L, x.1 ≠ kn) : PI (sR M q0 kn none) b q0 ci kn g Rf L := by
  obtain ⟨⟨h1, h2, h3, h4, h5⟩, h6, h7, h8⟩ := h
  refine ⟨⟨h1, h2, up2_s, h4, h5⟩, fun x hx => (up2_n (Or.inr (hR x hx))).trans (h6 x hx), fun x hx => ?_, h8⟩
  obtain ⟨y1, y2⟩ := h7 x hx
  exact ⟨(up2_n (Or.inr (hL x hx))).trans y1, y2⟩
theorem PI_int {k : Nat} {v : Int32} (h : PI M b q0 ci kn g Rf L) : PI (sI M q0 k v) b q0 ci kn (va_up g k v) Rf L := by
  obtain ⟨⟨h1, h2, h3, h4, h5⟩, h6, h7, h8⟩ := h
  refine ⟨⟨h1, ?_, h3, h4, h5⟩, h6, h7, h8⟩
  funext j
  show up2 (mI M) q0 k v q0 j = va_up g k v j
  by_cases hj : j = k
  · rw [hj, up2_s, va_up_s]
  · rw [up2_n (Or.inr hj), va_up_n hj, h2]
theorem PI_row {k q ty N : Nat} (h : PI M b q0 ci kn g Rf L) (hq : (mT M q).1 = 0) (hqO : 25 ≤ ivO b q) (hqR : 25 ≤ (ivR b q).1) (hty : ty ≠ 0) (hk : k ≠ kn) (hR : ∀ x ∈ Rf, x.1 ≠ k) (hL : ∀ x ∈ L, x.1 ≠ k) : PI (sR (nw M q ty N) q0 k (some q)) b q0 ci kn g Rf (L ++ [(k, q, ty, N)]) := by
  obtain ⟨⟨h1, h2, h3, h4, h5⟩, h6, h7, h8⟩ := h
  have n0 : q0 ≠ q := fun z => by rw [← z, h1] at hq; cases hq
  have nL : ∀ x ∈ L, x.2.1 ≠ q := fun x hx e => by
    obtain ⟨-, y2, -, -, -, y6, -⟩ := h7 x hx
    rw [e] at y2
    rw [y2] at hq
    exact y6 hq
  have s0 : same M (nw M q ty N) q0 := same_nw n0
  refine ⟨⟨s0.1.trans h1, s0.2.1.trans h2, (up2_n (Or.inr (Ne.symm hk))).trans ((congrFun s0.2.2.2.1 kn).trans h3), h4, h5⟩, fun x hx => (up2_n (Or.inr (hR x hx))).trans ((congrFun s0.2.2.2.1 x.1).trans (h6 x hx)), fun x hx => ?_, fun x hx y hy e => ?_⟩
  · rcases List.mem_append.mp hx with hx | hx
    · obtain ⟨y1, y2, y3, y4, y5, y6, y7, y8⟩ := h7 x hx
      have s1 : same M (sR (nw M q ty N) q0 k (some q)) x.2.1 := (same_nw (nL x hx)).trans (same_sR y5)
      exact ⟨(up2_n (Or.inr (hL x hx))).trans ((congrFun s0.2.2.2.1 x.1).trans y1), s1.1.trans y2, fun i => (congrFun s1.2.2.2.2.1 i).trans (y3 i), fun i => (congrFun s1.2.2.2.2.2 i).trans (y4 i), y5, y6, y7, y8⟩
    · rw [List.mem_singleton.mp hx]
      have s2 : same (nw M q ty N) (sR (nw M q ty N) q0 k (some q)) q := same_sR (Ne.symm n0)
      refine ⟨up2_s, s2.1.trans nw_T, fun i => (congrFun s2.2.2.2.2.1 i).trans ?_, fun i => (congrFun s2.2.2.2.2.2 i).trans ?_, Ne.symm n0, hty, hqO, hqR⟩
      · show va_up (mA M) q (fun _ => 0) q i = 0
        rw [va_up_s]
      · show va_up (mX M) q (fun _ => none) q i = none
        rw [va_up_s]
  · rcases List.mem_append.mp hx with hx | hx
    · rcases List.mem_append.mp hy with hy | hy
      · exact h8 x hx y hy e
      · rw [List.mem_singleton.mp hy] at e
        exact absurd e (nL x hx)
    · rcases List.mem_append.mp hy with hy | hy
      · rw [List.mem_singleton.mp hx] at e
        exact absurd e.symm (nL y hy)
      · rw [List.mem_singleton.mp hx, List.mem_singleton.mp hy]
/-- it gets its number -/
theorem PI_reg {o : Nat} {rw : Nat → Nat} (h : PI μ b q0 ci kn g Rf L) (hk : KV μ b κ = μ) (hf : KF μ b) (ho : o < 25) (hty : ∀ x ∈ L, x.2.2.1 ≠ 1) (hrw : ∀ x ∈ L, rw x.1 = x.2.1) :
    ∃ (b2 : Kb) (κ2 : KS), KV μ b2 κ2 = μ ∧ KF μ b2 ∧ EV (fun p => p = o) μ b κ μ b2 κ2 ∧ adO b2 o = q0 ∧ ivO b2 q0 = o ∧ κ2.1 o = g ∧ ∀ x ∈ L, adR b2 o x.1 = x.2.1 ∧ ivR b2 x.2.1 = (o, x.1) ∧ (∀ i, κ2.2 o x.1 i = 0) ∧ mR μ q0 x.1 = some x.2.1 ∧ mT μ x.2.1 = x.2.2 ∧ ∀ i, mX μ x.2.1 i = none := by
  obtain ⟨⟨h1, h2, h3, h4, h5⟩, h6, h7, h8⟩ := h
  have hm : ∀ f ∈ L.map (fun x => x.1), ∃ x ∈ L, x.1 = f ∧ rw f = x.2.1 := fun f h => by
    obtain ⟨x, hx, rfl⟩ := List.mem_map.mp h
    exact ⟨x, hx, rfl, hrw x hx⟩
  have hr : ∀ f ∈ L.map (fun x => x.1), ((mT μ (rw f)).1 ≠ 0 ∧ (mT μ (rw f)).1 ≠ 1) ∧ 25 ≤ (ivR b (rw f)).1 := fun f h => by
    obtain ⟨x, hx, -, e⟩ := hm f h
    obtain ⟨-, y2, -, -, -, y6, -, y8⟩ := h7 x hx
    rw [e, y2]
    exact ⟨⟨y6, hty x hx⟩, y8⟩
  obtain ⟨n1, n2, n3⟩ := N_reg (o := o) (fs := L.map (fun x => x.1)) (rw := rw) hk hf h1 h4 hr
  have hin : ∀ f ∈ L.map (fun x => x.1), ∀ f2 ∈ L.map (fun x => x.1), rw f = rw f2 → f = f2 := fun f hf f2 hf2 e => by
    obtain ⟨x, hx, e1, e2⟩ := hm f hf
    obtain ⟨y, hy, e3, e4⟩ := hm f2 hf2
    rw [← e1, ← e3]
    exact h8 x hx y hy (by rw [← e2, ← e4]; exact e)
  refine ⟨bN b o q0 (L.map (fun x => x.1)) rw, kN κ μ o q0 rw, n1, n2, n3, if_pos rfl, by rw [bN_O, if_pos rfl], ?_, fun x hx => ?_⟩
  · funext k
    show (if o = o then mI μ q0 k else κ.1 o k) = g k
    rw [if_pos rfl, h2]
  · obtain ⟨y1, y2, y3, y4, y5, y6, y7, y8⟩ := h7 x hx
    obtain ⟨v1, v2⟩ := bN_i (b := b) (o := o) (q0 := q0) hin (List.mem_map.mpr ⟨x, hx, rfl⟩ : x.1 ∈ L.map (fun x => x.1))
    rw [hrw x hx] at v1 v2
    refine ⟨v1, v2, fun i => ?_, y1, y2, y4⟩
    show (if o = o then mA μ (rw x.1) else κ.2 o x.1) i = 0
    rw [if_pos rfl, hrw x hx]
    exact y3 i
end M99991
