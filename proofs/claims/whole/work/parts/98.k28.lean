/-! the two readers side by side: parts -/
def flt (c : CT) : Prop := c.2.2.1 = -24 ∧ ¬ c.2.2.2.2.1 = -1
def kfC (c d : CT) : Prop := d.2.2.1 = -24 ∧ d.2.2.2.2.1 = c.2.2.2.2.1
section M98
variable {σ : MS} {f n : Nat}
theorem kfC.flt {c d : CT} (h : flt c) (k : kfC c d) : flt d := ⟨k.1, by rw [k.2]; exact h.2⟩
theorem kfC.trans {c d e : CT} (h1 : kfC c d) (h2 : kfC d e) : kfC c e := ⟨h2.1, h2.2.trans h1.2⟩
theorem kf_F {c : CT} (h : flt c) : kfC c (cF c) := ⟨rfl, if_neg h.2⟩
theorem kf_E {c : CT} {v : Int32} (h : flt c) : kfC c (cE v c) := by
  unfold cE
  split
  · exact ⟨h.1, rfl⟩
  · exact ⟨h.1, rfl⟩
theorem kf_A {c : CT} (h : flt c) : kfC c (cA σ f n c) := by
  unfold cA
  rw [if_neg h.2]
  exact ⟨h.1, rfl⟩
theorem kf_X {c : CT} {v : Int32} (h : flt c) : kfC c (cX σ f n v c) := by
  unfold cX
  split
  · exact kf_A h
  · exact kf_F h
theorem clp_F {step : CT → Option CT} {c : CT} (h : step c = none) : ∀ k : Nat, clp step k c = c
  | 0 => rfl
  | k + 1 => by rw [clp, h]
theorem stX_F {g : CT → CT} {v : Int32} {c : CT} (h : flt c) (hv : ¬ v = -24) : stX σ f n g v c = none := if_neg (by rw [h.1]; exact fun z => hv z.symm)
theorem stS_F {g : CT → CT} {c : CT} (h : flt c) : stS σ f n g c = none := if_neg (by rw [h.1]; exact fun z => z.elim (fun q => absurd q (by decide)) (fun q => absurd q (by decide)))
theorem cz_F : ∀ (N l op : Nat) (c : CT), flt c → kfC c (cz σ f n N l op c)
  | 0, _, _, c, h => ⟨h.1, rfl⟩
  | N + 1, 0, op, c, h => by
    show kfC c (cAt σ f n (cz σ f n N 0) (cz σ f n N 5) op c)
    unfold cAt
    rw [if_neg (show ¬ c.2.2.1 = -22 by rw [h.1]; decide), if_neg (show ¬ (c.2.2.1 ≤ -1 ∧ -6 ≤ c.2.2.1) by rw [h.1]; decide), if_neg (show ¬ (c.2.2.1 = -13 ∧ op < 5) by rw [h.1]; exact fun z => absurd z.1 (by decide)), if_neg (show ¬ (c.2.2.1 = -17 ∧ op < 5) by rw [h.1]; exact fun z => absurd z.1 (by decide))]
    exact kf_F h
  | N + 1, 1, op, c, h => by
    have k := cz_F N 0 op c h
    show kfC c (clp _ 160 (cz σ f n N 0 op c))
    rw [clp_F (stX_F (k.flt h) (by decide))]
    exact k
  | N + 1, 2, op, c, h => by
    have k := cz_F N 1 op c h
    show kfC c (clp _ 160 (cz σ f n N 1 op c))
    rw [clp_F (stS_F (k.flt h))]
    exact k
  | N + 1, 3, op, c, h => by
    have k := cz_F N 2 op c h
    show kfC c (cNt σ f n (cz σ f n N 3) (cz σ f n N 2) op c)
    unfold cNt cCm
    rw [if_neg (show ¬ c.2.2.1 = -9 by rw [h.1]; decide), if_neg (show ¬ ((cz σ f n N 2 op c).2.2.1 = -10 ∨ (cz σ f n N 2 op c).2.2.1 = -11) by rw [k.1]; exact fun z => z.elim (fun q => absurd q (by decide)) (fun q => absurd q (by decide)))]
    exact k
  | N + 1, 4, op, c, h => by
    have k := cz_F N 3 op c h
    show kfC c (clp _ 160 (cz σ f n N 3 op c))
    rw [clp_F (stX_F (k.flt h) (by decide))]
    exact k
  | N + 1, l + 5, op, c, h => by
    have k := cz_F N 4 op c h
    show kfC c (clp _ 160 (cz σ f n N 4 op c))
    rw [clp_F (stX_F (k.flt h) (by decide))]
    exact k
theorem kf_Pt {N : Nat} {v : Int32} {c : CT} (h : flt c) : kfC c (cPt σ f n N v c) := by
  have k1 := kf_X (σ := σ) (f := f) (n := n) (v := v) h
  have k2 := cz_F (σ := σ) (f := f) (n := n) N 5 0 _ (k1.flt h)
  have f2 := k2.flt (k1.flt h)
  have k3 := kf_E (v := -16) f2
  exact ((k1.trans k2).trans k3).trans (kf_X (k3.flt f2))
theorem RC_flt {p : PT} {c : CT} (h : RC σ f n p c) (hb : ¬ pbd p = 0) : flt c := ⟨(h.2 hb).1, (h.2 hb).2.1⟩
theorem RC_kf {p : PT} {c d : CT} (h : RC σ f n p c) (hb : ¬ pbd p = 0) (k : kfC c d) : RC σ f n p d :=
  ⟨fun z => absurd z hb, fun _ => ⟨k.1, by rw [k.2]; exact (h.2 hb).2.1, by rw [k.2]; exact (h.2 hb).2.2⟩⟩
theorem mnC_Pt {N : Nat} {v : Int32} {c : CT} : mnC c (cPt σ f n N v c) := ((mnC_X.trans (cz_mn N 5 0 _)).trans mnC_E).trans mnC_X
/-- a part's code: from s to m, then its end -/
def SP (e : Nat → Int32) (s : Nat) (d : CT) (v : Int32) : Prop := ∃ m, s ≤ m ∧ m < d.2.2.2.2.2.1 ∧ d.2.2.2.2.2.2 m = -16 ∧ (∀ i, s ≤ i → i < m → ¬ d.2.2.2.2.2.2 i = -16) ∧ ∀ S, rnC e d.2.2.2.2.2.2 (m - s) s S = v :: S
theorem SP.mono {e : Nat → Int32} {s : Nat} {c d : CT} {v : Int32} (h : SP e s c v) (hm : mnC c d) : SP e s d v := by
  obtain ⟨m, h1, h2, h3, h4, h5⟩ := h
  refine ⟨m, h1, Nat.lt_of_lt_of_le h2 hm.1, by rw [hm.2 m h2]; exact h3, fun i g1 g2 => by rw [hm.2 i (by omega)]; exact h4 i g1 g2, fun S => ?_⟩
  rw [rnC_cg e d.2.2.2.2.2.2 c.2.2.2.2.2.2 _ _ S (fun j g1 g2 => hm.2 j (by omega))]
  exact h5 S
theorem tRn_rn {e cd : Nat → Int32} : ∀ (m k i : Nat) (S : List Int32), (∀ j, i ≤ j → j < i + m → ¬ cd j = -16) → cd (i + m) = -16 → tRn e cd (m + k) i S = rnC e cd m i S
  | 0, k, i, S, _, h => by
    rw [Nat.zero_add]
    cases k with
    | zero => rfl
    | succ k =>
      rw [tRn, if_pos (show cd i = -16 from h)]
      rfl
  | m + 1, k, i, S, h1, h2 => by
    rw [show m + 1 + k = (m + k) + 1 by omega, tRn, if_neg (h1 i (Nat.le_refl i) (by omega))]
    exact tRn_rn m k (i + 1) _ (fun j g1 g2 => h1 j (by omega) (by omega)) (by rw [show i + 1 + m = i + (m + 1) by omega]; exact h2)
theorem SP.run {e : Nat → Int32} {s : Nat} {d : CT} {v : Int32} (h : SP e s d v) : tRn e d.2.2.2.2.2.2 (d.2.2.2.2.2.1 - s) s [] = [v] := by
  obtain ⟨m, h1, h2, h3, h4, h5⟩ := h
  rw [show d.2.2.2.2.2.1 - s = (m - s) + (d.2.2.2.2.2.1 - m) by omega, tRn_rn (m - s) _ s [] (fun j g1 g2 => h4 j g1 (by omega)) (by rw [show s + (m - s) = m by omega]; exact h3)]
  exact h5 []
/-- as the readers stand between parts -/
def PQ (σ : MS) (f n : Nat) (p : PT) (c : CT) : Prop := okp n p ∧ pop p = 0 ∧ RC σ f n p c ∧ (pbd p = 0 → c.2.2.2.2.2.1 ≤ c.2.1)
theorem PQ_part {N i : Nat} {p : PT} {c : CT} {v : Int32} (hO : rdO σ f n) (hN : N = NN) (hi : i < 13) (h0 : i ≠ 0) (hv : v = kcd i) (h : PQ σ f n p c) : PQ σ f n (pPt σ f n (qWi σ f n i p) p).2 (cPt σ f n N v c) ∧ (pbd (pPt σ f n (qWi σ f n i p) p).2 = 0 → pbd p = 0 ∧ SP (eN σ) (cX σ f n v c).2.2.2.2.2.1 (cPt σ f n N v c) (pPt σ f n (qWi σ f n i p) p).1 ∧ (cPt σ f n N v c).2.2.2.2.2.1 + c.2.1 + 1 ≤ (cPt σ f n N v c).2.1 + c.2.2.2.2.2.1) := by
  obtain ⟨a1, a2, a3, a4⟩ := h
  have hN41 : N = 41 := hN.trans NN_eq
  have hW := RC_W a1 a3 hi h0
  subst hv
  by_cases q : qWi σ f n i p = 0
  · -- not its key
    have hF := RC_F hO a1 a3
    have e1 : (if qWi σ f n i p = 0 then pF p else p) = pF p := if_pos q
    have e2 : pIf σ f n (pF p) = pF p := if_neg hF.2
    have e3 : pEi σ f n (pF p) = (0, pF p) := if_neg hF.2
    have e4 : pSm (pF p) = (if qS 59 (pF p) = 0 then pF (pF p) else pF p) := rfl
    have q59 : qS 59 (pF p) = 0 := by
      unfold qS isSi
      rw [if_neg]
      rintro ⟨z, -⟩
      exact hF.2 z
    have k1 := (pF_ok a1).1
    have hF2 := RC_F hO k1 hF.1
    have e5 : pIf σ f n (pF (pF p)) = pF (pF p) := if_neg hF2.2
    have e6 : (pPt σ f n (qWi σ f n i p) p).2 = pF (pF p) := by
      unfold pPt
      rw [e1, e2, e3]
      show pIf σ f n (pSm (pF p)) = _
      rw [e4, if_pos q59, e5]
    rw [e6]
    refine ⟨⟨(pF_ok k1).1, ?_, ?_, fun z => absurd z hF2.2⟩, fun z => absurd z hF2.2⟩
    · rw [(pF_ok k1).2.2, (pF_ok a1).2.2, a2]
    · have c1 : cX σ f n (kcd i) c = cF c := if_neg (hW.mp q)
      have kf := RC_flt hF.1 hF.2
      have k2 := cz_F (σ := σ) (f := f) (n := n) N 5 0 _ kf
      have k3 := kf_E (v := -16) (k2.flt kf)
      have f3 := k3.flt (k2.flt kf)
      have r3 : RC σ f n (pF p) (cE (-16) (cz σ f n N 5 0 (cF c))) := RC_kf hF.1 hF.2 (k2.trans k3)
      have c2 : cX σ f n (-16) (cE (-16) (cz σ f n N 5 0 (cF c))) = cF (cE (-16) (cz σ f n N 5 0 (cF c))) := if_neg (by rw [f3.1]; decide)
      unfold cPt
      rw [c1, c2]
      exact (RC_F hO k1 r3).1
  · obtain ⟨b1, b2⟩ := qWi_f q
    have ht : c.2.2.1 = kcd i := Decidable.not_not.mp (fun z => q (hW.mpr z))
    obtain ⟨d1, d2, d3, d4, d5, d6, d7, d8⟩ := RC_adv hO a1 a3 b1 (by omega) (by omega)
    have q3 : (cA σ f n c).2.2.2.2.2.1 = c.2.2.2.2.2.1 := congrArg Prod.fst d6
    have a4 := a4 b1
    have Z := (L_all (σ := σ) (f := f) (n := n) hO N).2.2.2.2.2 (pN σ f n p) (cA σ f n c) d2 (by omega) d1 (fun _ => by omega)
    rw [d3, a2] at Z
    have e1 : (if qWi σ f n i p = 0 then pF p else p) = p := if_neg q
    have e2 : pIf σ f n p = pN σ f n p := if_pos b1
    have e3 : pEi σ f n (pN σ f n p) = pz σ f n N 5 (pN σ f n p) := by rw [hN]; exact if_pos d4
    have c1 : cX σ f n (kcd i) c = cA σ f n c := if_pos ht
    have e6 : pPt σ f n (qWi σ f n i p) p = ((pz σ f n N 5 (pN σ f n p)).1, pIf σ f n (pSm (pz σ f n N 5 (pN σ f n p)).2)) := by
      unfold pPt
      rw [e1, e2, e3]
    rw [e6]
    unfold cPt
    rw [c1]
    generalize pz σ f n N 5 (pN σ f n p) = r at Z
    generalize cz σ f n N 5 0 (cA σ f n c) = d at Z
    obtain ⟨z1, z2, z3, z4, z5⟩ := Z
    have hn := hO.2.2.1
    have hS := RC_S (k := 59) z3 (by decide)
    have zE := RC_E (v := -16) z3
    have tE : (cE (-16) d).2.2.1 = d.2.2.1 := by unfold cE; split <;> rfl
    show PQ σ f n (pIf σ f n (pSm r.2)) (cX σ f n (-16) (cE (-16) d)) ∧ (pbd (pIf σ f n (pSm r.2)) = 0 → pbd p = 0 ∧ SP (eN σ) (cA σ f n c).2.2.2.2.2.1 (cX σ f n (-16) (cE (-16) d)) r.1 ∧ (cX σ f n (-16) (cE (-16) d)).2.2.2.2.2.1 + c.2.1 + 1 ≤ (cX σ f n (-16) (cE (-16) d)).2.1 + c.2.2.2.2.2.1)
    unfold pSm cX
    by_cases q2 : qS 59 r.2 = 0
    · have hF := RC_F hO z1 zE
      have hk := pF_ok z1
      rw [if_pos q2, if_neg (show ¬ (cE (-16) d).2.2.1 = -16 by rw [tE]; exact hS.mp q2), show pIf σ f n (pF r.2) = pF r.2 from if_neg hF.2]
      exact ⟨⟨hk.1, hk.2.2.trans z2, hF.1, fun z => absurd z hF.2⟩, fun z => absurd z hF.2⟩
    · obtain ⟨g1, g2, g3⟩ := qS_f q2
      have ht2 : d.2.2.1 = -16 := Decidable.not_not.mp (fun z => q2 (hS.mpr z))
      obtain ⟨y1, y2, y3⟩ := z5 g1
      have es := (z3.1 g1).2.1
      have hlt := z1.2.2.2.2.2.1 (by omega) (by omega)
      have hh : r.2.1 ≤ n := z1.1
      have q4 : d.2.2.2.2.2.1 < 160 := by omega
      rw [if_neg q2, if_pos (show (cE (-16) d).2.2.1 = -16 by rw [tE]; exact ht2), show pIf σ f n r.2 = pN σ f n r.2 from if_pos g1]
      obtain ⟨w1, w2, w3, w4, w5, w6, w7, w8⟩ := RC_adv hO z1 zE g1 (by omega) (by omega)
      have q5 : (cE (-16) d).2.1 = d.2.1 := by rw [cE_lt q4]
      have q6 : (cA σ f n (cE (-16) d)).2.2.2.2.2.1 = d.2.2.2.2.2.1 + 1 := (congrArg Prod.fst w6).trans (by rw [cE_lt q4])
      have q7 : (cA σ f n (cE (-16) d)).2.2.2.2.2.2 = va_up d.2.2.2.2.2.2 d.2.2.2.2.2.1 (-16) := (congrArg Prod.snd w6).trans (by rw [cE_lt q4])
      refine ⟨⟨w2, w3.trans z2, w1, fun _ => by omega⟩, fun _ => ⟨b1, ⟨d.2.2.2.2.2.1, Nat.le_of_lt y2.1, by omega, ?_, fun j j1 j2 => ?_, fun S => ?_⟩, by omega⟩⟩
      · rw [q7]
        unfold va_up
        rw [if_pos rfl]
      · rw [q7]
        unfold va_up
        rw [if_neg (by omega)]
        exact y2.2.1 j j1 j2
      · rw [q7, rnC_cg (eN σ) (va_up d.2.2.2.2.2.2 d.2.2.2.2.2.1 (-16)) d.2.2.2.2.2.2 _ _ S (fun j g1 g2 => by
          have := y2.1
          unfold va_up
          rw [if_neg (by omega)])]
        exact y2.2.2 S
end M98
