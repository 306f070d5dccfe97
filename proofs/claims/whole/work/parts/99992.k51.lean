/-! a new sheet, a new text get their numbers; what was made goes into a row of another object -/
section M99992
variable {μ μ2 μ' : Mem} {b b2 b' : Kb} {κ κ2 κ' : KS} {o q0 : Nat}
theorem SH_reg {q1 : Nat} (I : AI (nw (KV μ b κ) q0 1 7) μ2 q0 7 (va_up (va_up (fun _ => 0) 0 (-1)) 1 0) [(2, q1, 2, 40)]) (hq0 : (mT μ q0).1 = 0) (hf : KF μ b) (ho : o < 25) : ∃ (b2 : Kb) (κ2 : KS), KV μ2 b2 κ2 = μ2 ∧ KF μ2 b2 ∧ EV (fun p => p = o) μ b κ μ2 b2 κ2 ∧ FO μ b κ μ2 b2 κ2 ∧ adO b2 o = q0 ∧ KO μ2 b2 o 7 shLen ∧ κ2.1 o 0 = -1 ∧ κ2.1 o 1 = 0 ∧ ∀ i, κ2.2 o 2 i = 0 := by
  obtain ⟨b2, κ2, e1, e2, e3, e4, e5, e6, e7, e8, e9⟩ := AI_reg (o := o) (rw := fun _ => q1) I hq0 hf ho (by simp) (by simp)
  obtain ⟨z1, z2, z3, z4, z5, -⟩ := e9 (2, q1, 2, 40) (by simp)
  have z1 : adR b2 o 2 = q1 := z1
  refine ⟨b2, κ2, e1, e2, e3, e4, e5, KO_mk e2.1 ho (by rw [e5]; exact e8) (by rw [e5]; exact e6) (fun f hf => ?_), by rw [e7]; rfl, by rw [e7]; rfl, z3⟩
  have h2 : f = 2 := by
    refine Decidable.byContradiction fun hn => hf ?_
    unfold shLen
    rw [if_neg hn]
  subst h2
  exact ⟨by rw [e5, z1]; exact z4, by rw [z1]; exact z5, by rw [z1]; exact z2⟩
theorem TX_reg {n : Nat} {cd sr : Nat → Int32} (hX : TXN (nw (KV μ b κ) q0 1 8) μ2 q0 n cd sr) (hq0 : (mT μ q0).1 = 0) (hf : KF μ b) (ho : o < 25) : ∃ (b2 : Kb) (κ2 : KS), KV μ2 b2 κ2 = μ2 ∧ KF μ2 b2 ∧ EV (fun p => p = o) μ b κ μ2 b2 κ2 ∧ FO μ b κ μ2 b2 κ2 ∧ adO b2 o = q0 ∧ KO μ2 b2 o 8 (tLen n) ∧ κ2.1 o 3 = 0 ∧ (∀ k, k < n → κ2.2 o 0 k = cd k) ∧ ∀ k, k < 3 → κ2.2 o 1 k = sr k := by
  obtain ⟨q1, q2, q3, x1, x2, x3, x4, x5, x6, x7, x8, x9, x10, x11, x12, x13, n12, n13, n23, x14⟩ := hX
  have fr : ∀ a, (mT (nw (KV μ b κ) q0 1 8) a).1 = 0 → a ≠ q0 ∧ (mT μ a).1 = 0 := fun a ha => by
    have h0 : a ≠ q0 := fun z => by
      rw [z, nw_T] at ha
      cases ha
    rw [nw_Tn h0] at ha
    exact ⟨h0, ha⟩
  obtain ⟨a1, c1⟩ := fr q1 x11
  obtain ⟨a2, c2⟩ := fr q2 x12
  obtain ⟨a3, c3⟩ := fr q3 x13
  have hs : ∀ q, (mT μ q).1 ≠ 0 → same (KV μ b κ) μ2 q := fun q hq => by
    have h0 : q ≠ q0 := fun z => hq (by rw [z]; exact hq0)
    exact (same_nw h0).trans (x14 q h0 (fun z => hq (by rw [z]; exact c1)) (fun z => hq (by rw [z]; exact c2)) (fun z => hq (by rw [z]; exact c3)))
  obtain ⟨e1, e2, e3, e4⟩ := KV_grow hf hs
  have hnew : ∀ a, (mT μ a).1 = 0 → 25 ≤ (ivR b a).1 := fun a ha => Nat.le_of_not_lt (fun z => (hf.2.2 a z).1 ha)
  have h0 : 25 ≤ ivO b q0 := Nat.le_of_not_lt (fun z => by
    have := hf.2.1 _ z
    rw [hq0] at this
    cases this)
  have w0 : (fun f => if f = 0 then q1 else if f = 1 then q2 else q3) 0 = q1 := rfl
  have w1 : (fun f => if f = 0 then q1 else if f = 1 then q2 else q3) 1 = q2 := rfl
  have w2 : (fun f => if f = 0 then q1 else if f = 1 then q2 else q3) 2 = q3 := rfl
  generalize (fun f => if f = 0 then q1 else if f = 1 then q2 else q3) = w at w0 w1 w2
  have hm : ∀ f ∈ [0, 1, 2], f = 0 ∨ f = 1 ∨ f = 2 := fun f h => by simpa using h
  have hin : ∀ f ∈ [0, 1, 2], ∀ f2 ∈ [0, 1, 2], w f = w f2 → f = f2 := by
    intro f hf f2 hf2 e
    rcases hm f hf with rfl | rfl | rfl <;> rcases hm f2 hf2 with rfl | rfl | rfl
    · rfl
    · exact absurd (by rw [← w0, e, w1]) n12
    · exact absurd (by rw [← w0, e, w2]) n13
    · exact absurd (by rw [← w0, ← e, w1]) n12
    · rfl
    · exact absurd (by rw [← w1, e, w2]) n23
    · exact absurd (by rw [← w0, ← e, w2]) n13
    · exact absurd (by rw [← w1, ← e, w2]) n23
    · rfl
  obtain ⟨m1, m2, m3⟩ := N_reg (o := o) (q0 := q0) (ci := 8) (fs := [0, 1, 2]) (rw := w) e1 e2 x1 h0 (fun f hf => by
    rcases hm f hf with rfl | rfl | rfl
    · rw [w0, x6]; exact ⟨⟨(show (2 : Nat) ≠ 0 by decide), (show (2 : Nat) ≠ 1 by decide)⟩, hnew _ c1⟩
    · rw [w1, x7]; exact ⟨⟨(show (2 : Nat) ≠ 0 by decide), (show (2 : Nat) ≠ 1 by decide)⟩, hnew _ c2⟩
    · rw [w2, x8]; exact ⟨⟨(show (2 : Nat) ≠ 0 by decide), (show (2 : Nat) ≠ 1 by decide)⟩, hnew _ c3⟩)
  refine ⟨_, _, m1, m2, (e3 _).trans m3, fun a h1 h2 h3 => ?_, if_pos rfl, ?_, ?_, fun k hk => ?_, fun k hk => ?_⟩
  · refine ⟨by rw [m1]; exact hs a h1, ?_, ?_⟩
    · rw [bN_O, if_neg (fun z => h1 (by rw [z]; exact hq0)), if_neg (by omega)]
      exact h2
    · rcases bN_R (b := b) (o := o) (q0 := q0) (fs := [0, 1, 2]) (rw := w) a with ⟨f, h4, h5, -⟩ | ⟨-, h5⟩
      · refine absurd ?_ h1
        rw [← h5]
        rcases hm f h4 with rfl | rfl | rfl
        · rw [w0]; exact c1
        · rw [w1]; exact c2
        · rw [w2]; exact c3
      · rw [h5, if_neg (by omega)]
        exact h3
  · refine KO_M hf.1 ho x1 hin (fun f hfl => ?_)
    have h012 : f = 0 ∨ f = 1 ∨ f = 2 := by
      refine Decidable.byContradiction fun hn => hfl ?_
      unfold tLen
      rw [if_neg (by omega), if_neg (by omega), if_neg (by omega)]
    rcases h012 with rfl | rfl | rfl
    · rw [w0]
      exact ⟨by decide, x2, x6⟩
    · rw [w1]
      exact ⟨by decide, x3, x7⟩
    · rw [w2]
      exact ⟨by decide, x4, x8⟩
  · show (if o = o then mI μ2 q0 3 else κ.1 o 3) = 0
    rw [if_pos rfl]
    exact x5
  · show (if o = o then mA μ2 (w 0) else κ.2 o 0) k = cd k
    rw [if_pos rfl, w0]
    exact x9 k hk
  · show (if o = o then mA μ2 (w 1) else κ.2 o 1) k = sr k
    rw [if_pos rfl, w1]
    exact x10 k hk
/-- the new object o goes into row f of object p -/
theorem RX_step {p f t n j q : Nat} (e3 : EV (fun x => x = o) μ' b' κ' μ2 b2 κ2) (e2 : KF μ2 b2) (e1 : KV μ2 b2 κ2 = μ2) (hne : p ≠ o) (hRO : RO μ' b' p f t n) :
    sX μ2 (adR b' p f) j (some q) = KV (sX μ2 (adR b' p f) j (some q)) b2 κ2 ∧ KF (sX μ2 (adR b' p f) j (some q)) b2 ∧ EV (fun x => x = o ∨ x = p) μ' b' κ' (sX μ2 (adR b' p f) j (some q)) b2 κ2 ∧ RO (sX μ2 (adR b' p f) j (some q)) b2 p f t n ∧ (∀ i, mX (sX μ2 (adR b' p f) j (some q)) (adR b2 p f) i = if i = j then some q else mX μ' (adR b' p f) i) ∧ (∀ ci len, KO μ' b' p ci len → KO (sX μ2 (adR b' p f) j (some q)) b2 p ci len ∧ ∀ k, mR (sX μ2 (adR b' p f) j (some q)) (adO b2 p) k = mR μ' (adO b' p) k) ∧ (κ2.1 p = κ'.1 p ∧ κ2.2 p = κ'.2 p ∧ adO b2 p = adO b' p ∧ ∀ f2, adR b2 p f2 = adR b' p f2) ∧ (∀ f2 t2 n2, f2 ≠ f → RO μ' b' p f2 t2 n2 → RO (sX μ2 (adR b' p f) j (some q)) b2 p f2 t2 n2 ∧ ∀ i, mX (sX μ2 (adR b' p f) j (some q)) (adR b2 p f2) i = mX μ' (adR b' p f2) i) ∧ (FO μ' b' κ' μ2 b2 κ2 → FO μ' b' κ' (sX μ2 (adR b' p f) j (some q)) b2 κ2) ∧ mT μ2 (adR b' p f) = (t, n) := by
  have hp := hRO.1
  have a := e3.1 p hp hne
  obtain ⟨r1, r2⟩ := RO_EV e3 hne hRO
  have eR := a.2.1 f
  obtain ⟨s1, s2, s3⟩ := EV_sX (κ := κ2) (i := j) (v := some q) r1.2.2 e2 hp
  rw [eR] at s1 s2 s3
  refine ⟨?_, s3, (e3.mono (fun x (hx : x = o) => Or.inl hx)).trans (s1.mono (fun x (hx : x = p) => Or.inr hx)), r1, fun i => ?_, fun ci len h => ⟨?_, fun k => ?_⟩, ⟨a.2.2.1, a.2.2.2, a.1, a.2.1⟩, fun f2 t2 n2 hn h => ?_, fun fo => fo.trans s2, by rw [← eR]; exact r1.2.1⟩
  · have : KV (sX μ2 (adR b' p f) j (some q)) b2 κ2 = sX (KV μ2 b2 κ2) (adR b' p f) j (some q) := rfl
    rw [this, e1]
  · show up2 (mX μ2) (adR b' p f) j (some q) (adR b2 p f) i = _
    rw [eR]
    by_cases hi : i = j
    · rw [if_pos hi, hi, up2_s]
    · rw [if_neg hi, up2_n (Or.inr hi), ← r2 i, eR]
  · have h2 := KO_EV e3 e2.1 hne h
    exact h2
  · have h2 := mR_EV (k := k) e3 hne h
    exact h2
  · obtain ⟨g1, g2⟩ := RO_EV e3 hne h
    have n9 : adR b2 p f2 ≠ adR b' p f := fun z => by
      have y1 := g1.2.2
      have y2 := r1.2.2
      rw [eR, ← z, y1] at y2
      exact hn (Prod.ext_iff.mp y2).2
    refine ⟨g1, fun i => ?_⟩
    show up2 (mX μ2) (adR b' p f) j (some q) (adR b2 p f2) i = _
    rw [up2_n (Or.inl n9)]
    exact g2 i
end M99992
