/-! the two readers side by side: every level -/
section M96
variable {σ : MS} {f n : Nat}
theorem t_mul (e : Nat → Int32) (v w : Int32) (S : List Int32) : tSt e (-14) (w :: v :: S) = (v * w) :: S := rfl
theorem t_add (e : Nat → Int32) (v w : Int32) (S : List Int32) : tSt e (-12) (w :: v :: S) = (v + w) :: S := rfl
theorem t_sub (e : Nat → Int32) (v w : Int32) (S : List Int32) : tSt e (-13) (w :: v :: S) = (v - w) :: S := rfl
theorem t_and (e : Nat → Int32) (v w : Int32) (S : List Int32) : tSt e (-8) (w :: v :: S) = (if v = 0 then 0 else if w = 0 then 0 else 1) :: S := rfl
theorem t_or (e : Nat → Int32) (v w : Int32) (S : List Int32) : tSt e (-7) (w :: v :: S) = (if v = 0 then (if w = 0 then 0 else 1) else 1) :: S := rfl
theorem t_less (e : Nat → Int32) (v w : Int32) (S : List Int32) : tSt e (-10) (w :: v :: S) = (if v < w then 1 else 0) :: S := rfl
theorem t_like (e : Nat → Int32) (v w : Int32) (S : List Int32) : tSt e (-11) (w :: v :: S) = (if v = w then 1 else 0) :: S := rfl
theorem t_neg (e : Nat → Int32) (v : Int32) (S : List Int32) : tSt e (-15) (v :: S) = (-v) :: S := rfl
theorem t_not (e : Nat → Int32) (v : Int32) (S : List Int32) : tSt e (-9) (v :: S) = (if v = 0 then 1 else 0) :: S := rfl
theorem qS_f {k : Int32} {p : PT} (h : ¬ qS k p = 0) : pbd p = 0 ∧ p.2.1 = 3 ∧ p.2.2.2.1 = k.toInt64 := by
  unfold qS isSi at h
  split at h
  · rename_i z
    exact z
  · exact absurd rfl h
theorem qWi_f {i : Nat} {p : PT} (h : ¬ qWi σ f n i p = 0) : pbd p = 0 ∧ p.2.1 = 1 := by
  unfold qWi qW isWi at h
  split at h
  · rename_i z
    exact ⟨z.1, z.2.1⟩
  · exact absurd rfl h
def LVz (σ : MS) (f n N l : Nat) : Prop := ∀ (p : PT) (c : CT), okp n p → 7 * (5 - pop p) + l < N → RC σ f n p c → (pbd p = 0 → c.2.2.2.2.2.1 ≤ c.2.1) → ZR σ f n (pop p) c (pz σ f n N l p).1 (pz σ f n N l p).2 (cz σ f n N l (pop p) c)
theorem ZR_next {N l op : Nat} {c0 c : CT} {v : Int32} {p : PT} (hO : rdO σ f n) (IH : LVz σ f n N l) (hf : 7 * (5 - op) + l < N) (h : ZR σ f n op c0 v p c) (hb : pbd p = 0) (h4 : p.2.1 ≠ 4) (h0 : p.2.1 ≠ 0) : ZR σ f n op (cA σ f n c) (pz σ f n N l (pN σ f n p)).1 (pz σ f n N l (pN σ f n p)).2 (cz σ f n N l op (cA σ f n c)) ∧ p.2.2.1 + 1 ≤ (pz σ f n N l (pN σ f n p)).2.2.2.1 := by
  obtain ⟨d1, d2, d3, d4, d5, d6, d7, d8⟩ := RC_adv hO h.1 h.2.2.1 hb h4 h0
  have e : pop (pN σ f n p) = op := d3.trans h.2.1
  have q3 : (cA σ f n c).2.2.2.2.2.1 = c.2.2.2.2.2.1 := congrArg Prod.fst d6
  have st := (ZR_start h hb).1
  have r := IH (pN σ f n p) (cA σ f n c) d2 (by rw [e]; exact hf) d1 (fun _ => by omega)
  rw [e] at r
  have k := (pz_kp hO N l _ d2).2.1
  exact ⟨r, by omega⟩
theorem L_term {N : Nat} (hO : rdO σ f n) (IH : LVz σ f n N 0) : LVz σ f n (N + 1) 1 := by
  intro p c hk hf hr hs
  have h0 := IH p c hk (by omega) hr hs
  refine lp_ZR2 hO (fun v p1 c1 h => ?_) _ _ _ h0
  have hS := RC_S (k := 42) h.2.2.1 (by decide)
  unfold stT stX
  by_cases q : qS 42 p1 = 0
  · exact Or.inl ⟨if_pos q, if_neg (hS.mp q)⟩
  · obtain ⟨b1, b2, b3⟩ := qS_f q
    obtain ⟨r1, r2⟩ := ZR_next hO IH (by omega) h b1 (by omega) (by omega)
    have ht : c1.2.2.1 = -14 := Decidable.not_not.mp (fun z => q (hS.mpr z))
    exact Or.inr ⟨_, _, if_neg q, if_pos ht, ZR_bin hO h b1 (by omega) (by omega) r1 (by decide) (fun S => t_mul _ _ _ S), r2, b1⟩
theorem L_sum {N : Nat} (hO : rdO σ f n) (IH : LVz σ f n N 1) : LVz σ f n (N + 1) 2 := by
  intro p c hk hf hr hs
  have h0 := IH p c hk (by omega) hr hs
  refine lp_ZR2 hO (fun v p1 c1 h => ?_) _ _ _ h0
  have hS := RC_S (k := 43) h.2.2.1 (by decide)
  have hS2 := RC_S (k := 45) h.2.2.1 (by decide)
  unfold stA stS
  by_cases q : qS 43 p1 = 0
  · by_cases q2 : qS 45 p1 = 0
    · exact Or.inl ⟨if_pos ⟨q, q2⟩, if_neg (fun z => z.elim (hS.mp q) (hS2.mp q2))⟩
    · obtain ⟨b1, b2, b3⟩ := qS_f q2
      obtain ⟨r1, r2⟩ := ZR_next hO IH (by omega) h b1 (by omega) (by omega)
      have ht : c1.2.2.1 = -13 := Decidable.not_not.mp (fun z => q2 (hS2.mpr z))
      refine Or.inr ⟨_, _, if_neg (fun z => q2 z.2), if_pos (Or.inr ht), ?_, r2, b1⟩
      rw [ht]
      refine ZR_bin hO h b1 (by omega) (by omega) r1 (by decide) (fun S => ?_)
      show tSt (eN σ) (-13) _ = (if p1.2.2.2.1 = 43 then _ else _) :: S
      rw [b3, if_neg (by decide)]
      exact t_sub _ _ _ S
  · obtain ⟨b1, b2, b3⟩ := qS_f q
    obtain ⟨r1, r2⟩ := ZR_next hO IH (by omega) h b1 (by omega) (by omega)
    have ht : c1.2.2.1 = -12 := Decidable.not_not.mp (fun z => q (hS.mpr z))
    refine Or.inr ⟨_, _, if_neg (fun z => q z.1), if_pos (Or.inl ht), ?_, r2, b1⟩
    rw [ht]
    refine ZR_bin hO h b1 (by omega) (by omega) r1 (by decide) (fun S => ?_)
    show tSt (eN σ) (-12) _ = (if p1.2.2.2.1 = 43 then _ else _) :: S
    rw [b3, if_pos (by decide)]
    exact t_add _ _ _ S
theorem L_both {N : Nat} (hO : rdO σ f n) (IH : LVz σ f n N 3) : LVz σ f n (N + 1) 4 := by
  intro p c hk hf hr hs
  have h0 := IH p c hk (by omega) hr hs
  refine lp_ZR2 hO (fun v p1 c1 h => ?_) _ _ _ h0
  have hS := RC_W (i := 5) h.1 h.2.2.1 (by decide) (by decide)
  unfold stB stX
  by_cases q : qWi σ f n 5 p1 = 0
  · exact Or.inl ⟨if_pos q, if_neg (hS.mp q)⟩
  · obtain ⟨b1, b2⟩ := qWi_f q
    obtain ⟨r1, r2⟩ := ZR_next hO IH (by omega) h b1 (by omega) (by omega)
    have ht : c1.2.2.1 = -8 := Decidable.not_not.mp (fun z => q (hS.mpr z))
    exact Or.inr ⟨_, _, if_neg q, if_pos ht, ZR_bin hO h b1 (by omega) (by omega) r1 (by decide) (fun S => t_and _ _ _ S), r2, b1⟩
theorem L_either {N : Nat} (hO : rdO σ f n) (IH : LVz σ f n N 4) : LVz σ f n (N + 1) 5 := by
  intro p c hk hf hr hs
  have h0 := IH p c hk (by omega) hr hs
  refine lp_ZR2 hO (fun v p1 c1 h => ?_) _ _ _ h0
  have hS := RC_W (i := 4) h.1 h.2.2.1 (by decide) (by decide)
  unfold stE stX
  by_cases q : qWi σ f n 4 p1 = 0
  · exact Or.inl ⟨if_pos q, if_neg (hS.mp q)⟩
  · obtain ⟨b1, b2⟩ := qWi_f q
    obtain ⟨r1, r2⟩ := ZR_next hO IH (by omega) h b1 (by omega) (by omega)
    have ht : c1.2.2.1 = -7 := Decidable.not_not.mp (fun z => q (hS.mpr z))
    exact Or.inr ⟨_, _, if_neg q, if_pos ht, ZR_bin hO h b1 (by omega) (by omega) r1 (by decide) (fun S => t_or _ _ _ S), r2, b1⟩
theorem ZR_fail {c : CT} {p : PT} {v : Int32} (hO : rdO σ f n) (hk : okp n p) (hr : RC σ f n p c) : ZR σ f n (pop p) c v (pF p) (cF c) :=
  ⟨(pF_ok hk).1, (pF_ok hk).2.2, (RC_F hO hk hr).1, mnC_F, fun z => absurd z (RC_F hO hk hr).2⟩
/-- one more is opened -/
theorem ZR_op {N l : Nat} {c : CT} {p : PT} (hO : rdO σ f n) (IH : LVz σ f n N l) (hk : okp n p) (hr : RC σ f n p c) (hs : pbd p = 0 → c.2.2.2.2.2.1 ≤ c.2.1) (hf : 7 * (5 - (pop p + 1)) + l < N) (hb : pbd p = 0) (h4 : p.2.1 ≠ 4) (h0 : p.2.1 ≠ 0) (h5 : ¬ pop p = 5) : ZR σ f n (pop p + 1) (cA σ f n c) (pz σ f n N l (pOp σ f n p)).1 (pz σ f n N l (pOp σ f n p)).2 (cz σ f n N l (pop p + 1) (cA σ f n c)) ∧ c.2.1 + 1 ≤ (cA σ f n c).2.1 ∧ (cA σ f n c).2.2.2.2.2 = c.2.2.2.2.2 := by
  have hp : pop p ≤ 5 := hk.2.2.2.1
  have k0 : okp n (pO p (pop p + 1)) := pO_ok hk (by omega)
  obtain ⟨d1, d2, d3, d4, d5, d6, d7, d8⟩ := RC_adv hO k0 (RC_O (v := pop p + 1) hr) hb h4 h0
  have e : pop (pOp σ f n p) = pop p + 1 := d3
  have q3 : (cA σ f n c).2.2.2.2.2.1 = c.2.2.2.2.2.1 := congrArg Prod.fst d6
  have hs2 := hs hb
  have r := IH (pOp σ f n p) (cA σ f n c) d2 (by rw [e]; exact hf) d1 (fun _ => by omega)
  rw [e] at r
  exact ⟨r, d5, d6⟩
/-- what was opened, and one instruction -/
theorem ZR_un {op : Nat} {c c2 : CT} {v u k : Int32} {p p2 : PT} (hO : rdO σ f n) (hk5 : pop p ≤ 5) (hs : c.2.2.2.2.2.1 ≤ c.2.1) (hp : op = pop p) (h : ZR σ f n (pop p + 1) (cA σ f n c) v p2 c2) (h1 : c.2.1 + 1 ≤ (cA σ f n c).2.1) (h2 : (cA σ f n c).2.2.2.2.2 = c.2.2.2.2.2) (hk : ¬ k = -16) (ht : ∀ S, tSt (eN σ) k (v :: S) = u :: S) : ZR σ f n op c u (pO p2 (pop p2 - 1)) (cE k c2) := by
  obtain ⟨b1, b2, b3, b4, b5⟩ := h
  have hn := hO.2.2.1
  have q3 : (cA σ f n c).2.2.2.2.2.1 = c.2.2.2.2.2.1 := congrArg Prod.fst h2
  have hp2 : pop p2 ≤ 5 := b1.2.2.2.1
  refine ⟨pO_ok b1 (by omega), ?_, RC_O (RC_E b3), (mnC_A.trans b4).trans mnC_E, fun hb2 => ?_⟩
  · show pop p2 - 1 = op
    omega
  · obtain ⟨g1, g2, g3⟩ := b5 hb2
    have q1 := (b3.1 hb2).2.1
    have q2 : p2.2.2.1 ≤ n := b1.2.2.1
    have q4 : c2.2.2.2.2.2.1 < 160 := by omega
    refine ⟨hs, SG_un (SG_lc g2 h2.symm rfl) q4 hk ht, ?_⟩
    rw [cE_lt q4]
    show c2.2.2.2.2.2.1 + 1 + c.2.1 ≤ c2.2.1 + c.2.2.2.2.2.1
    omega
theorem L_not {N : Nat} (hO : rdO σ f n) (IH3 : LVz σ f n N 3) (IH2 : LVz σ f n N 2) : LVz σ f n (N + 1) 3 := by
  intro p c hk hf hr hs
  have hp : pop p ≤ 5 := hk.2.2.2.1
  show ZR σ f n (pop p) c (pNt σ f n (pz σ f n N 3) (pz σ f n N 2) p).1 (pNt σ f n (pz σ f n N 3) (pz σ f n N 2) p).2 (cNt σ f n (cz σ f n N 3) (cz σ f n N 2) (pop p) c)
  have hW := RC_W (i := 6) hk hr (by decide) (by decide)
  unfold pNt cNt
  by_cases q : qWi σ f n 6 p = 0
  · rw [if_neg (not_not_intro (show qW σ f n 110 111 116 0 0 0 0 0 p = 0 from q)), if_neg (show ¬ c.2.2.1 = -9 from hW.mp q)]
    have h0 := IH2 p c hk (by omega) hr hs
    unfold cCm
    generalize hv : pz σ f n N 2 p = r at h0
    generalize hc : cz σ f n N 2 (pop p) c = d at h0
    have hS := RC_S (k := 60) h0.2.2.1 (by decide)
    have hS2 := RC_S (k := 61) h0.2.2.1 (by decide)
    by_cases q1 : qS 60 r.2 = 0
    · by_cases q2 : qS 61 r.2 = 0
      · rw [if_pos ⟨q1, q2⟩, if_neg (fun z => z.elim (hS.mp q1) (hS2.mp q2))]
        exact h0
      · obtain ⟨b1, b2, b3⟩ := qS_f q2
        obtain ⟨r1, r2⟩ := ZR_next hO IH2 (by omega) h0 b1 (by omega) (by omega)
        have ht : d.2.2.1 = -11 := Decidable.not_not.mp (fun z => q2 (hS2.mpr z))
        rw [if_neg (fun z => q2 z.2), if_pos (Or.inr ht), ht]
        refine ZR_bin hO h0 b1 (by omega) (by omega) r1 (by decide) (fun S => ?_)
        show _ = (if r.2.2.2.2.1 = 60 then _ else _) :: S
        rw [b3, if_neg (by decide)]
        exact t_like _ _ _ S
    · obtain ⟨b1, b2, b3⟩ := qS_f q1
      obtain ⟨r1, r2⟩ := ZR_next hO IH2 (by omega) h0 b1 (by omega) (by omega)
      have ht : d.2.2.1 = -10 := Decidable.not_not.mp (fun z => q1 (hS.mpr z))
      rw [if_neg (fun z => q1 z.1), if_pos (Or.inl ht), ht]
      refine ZR_bin hO h0 b1 (by omega) (by omega) r1 (by decide) (fun S => ?_)
      show _ = (if r.2.2.2.2.1 = 60 then _ else _) :: S
      rw [b3, if_pos (by decide)]
      exact t_less _ _ _ S
  · have ht : c.2.2.1 = -9 := Decidable.not_not.mp (fun z => q (hW.mpr z))
    rw [if_pos (show ¬ qW σ f n 110 111 116 0 0 0 0 0 p = 0 from q), if_pos ht]
    obtain ⟨b1, b2⟩ := qWi_f q
    by_cases h5 : pop p = 5
    · rw [if_pos h5, if_pos (show 5 ≤ pop p by omega)]
      exact ZR_fail hO hk hr
    · rw [if_neg h5, if_neg (show ¬ 5 ≤ pop p by omega)]
      obtain ⟨r1, r2, r3⟩ := ZR_op hO IH3 hk hr hs (by omega) b1 (by omega) (by omega) h5
      exact ZR_un hO hp (hs b1) rfl r1 r2 r3 (by decide) (fun S => t_not _ _ S)
end M96
