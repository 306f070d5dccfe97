/-! the two readers side by side: atoms, all -/
section M97
variable {σ : MS} {f n : Nat}
theorem RC_22 {p : PT} {c : CT} (h : RC σ f n p c) : c.2.2.1 = -22 ↔ (pbd p = 0 ∧ p.2.1 = 2) := by
  by_cases hb : pbd p = 0
  · obtain ⟨-, -, ht, -, -, -, h3⟩ := h.1 hb
    rw [ht]
    constructor
    · intro z
      refine ⟨hb, ?_⟩
      unfold tkC at z
      split at z
      · exact absurd z (by decide)
      · split at z
        · rcases wdC_cases (σ := σ) (f := f) (n := n) p.2.2.1 p.1 with ⟨j, hj, hj0, -, hw⟩ | ⟨-, hw⟩
          · exact absurd (z.symm.trans hw) (kcd_n3 j hj).2.2
          · exact absurd (z.symm.trans hw) (by decide)
        · split at z
          · assumption
          · split at z
            · rename_i z3
              obtain ⟨x, hx, ex⟩ := h3 z3
              rw [ex, (sgC_facts x hx).2.2.2.2.2.1] at z
              exact absurd z (sgC_facts x hx).2.1
            · exact absurd z (by decide)
    · rintro ⟨-, z⟩
      unfold tkC
      rw [if_neg (by rw [z]; decide), if_neg (by rw [z]; decide), if_pos z]
  · rw [(h.2 hb).1]
    exact ⟨fun z => absurd z (by decide), fun z => absurd z.1 hb⟩
theorem kcd_rg : ∀ i : Nat, i < 13 → 7 ≤ i → kcd i ≤ -1 ∧ -6 ≤ kcd i := by decide +kernel
theorem RC_nm {p : PT} {c : CT} (hk : okp n p) (h : RC σ f n p c) : (c.2.2.1 ≤ -1 ∧ -6 ≤ c.2.2.1) ↔ ∃ i, 7 ≤ i ∧ i < 13 ∧ ¬ qWi σ f n i p = 0 := by
  constructor
  · rintro ⟨z1, z2⟩
    have y1 : c.2.2.1.toInt ≤ -1 := Int32.le_iff_toInt_le.mp z1
    have y2 : -6 ≤ c.2.2.1.toInt := Int32.le_iff_toInt_le.mp z2
    have key : ∀ i, 7 ≤ i → i < 13 → c.2.2.1 = kcd i → ∃ i, 7 ≤ i ∧ i < 13 ∧ ¬ qWi σ f n i p = 0 := fun i h7 hi e => ⟨i, h7, hi, fun q => (RC_W hk h hi (by omega)).mp q e⟩
    rcases (by omega : c.2.2.1.toInt = -1 ∨ c.2.2.1.toInt = -2 ∨ c.2.2.1.toInt = -3 ∨ c.2.2.1.toInt = -4 ∨ c.2.2.1.toInt = -5 ∨ c.2.2.1.toInt = -6) with q | q | q | q | q | q
    · exact key 7 (by decide) (by decide) (ti_of q)
    · exact key 8 (by decide) (by decide) (ti_of q)
    · exact key 9 (by decide) (by decide) (ti_of q)
    · exact key 10 (by decide) (by decide) (ti_of q)
    · exact key 11 (by decide) (by decide) (ti_of q)
    · exact key 12 (by decide) (by decide) (ti_of q)
  · rintro ⟨i, h7, hi, q⟩
    have e : c.2.2.1 = kcd i := Decidable.not_not.mp (fun z => q ((RC_W hk h hi (by omega)).mpr z))
    rw [e]
    exact kcd_rg i hi h7
theorem pnm_c (p : PT) : (∃ i, 7 ≤ i ∧ i < 13 ∧ ¬ qWi σ f n i p = 0 ∧ pnm σ f n p = (σ.1 (i + 9), p)) ∨ ((∀ i, 7 ≤ i → i < 13 → qWi σ f n i p = 0) ∧ pnm σ f n p = (0, pF p)) := by
  unfold pnm
  by_cases h7 : qWi σ f n 7 p = 0
  case neg => exact Or.inl ⟨7, by decide, by decide, h7, if_pos h7⟩
  rw [if_neg (not_not_intro (show qW σ f n 116 104 105 110 103 0 0 0 p = 0 from h7))]
  by_cases h8 : qWi σ f n 8 p = 0
  case neg => exact Or.inl ⟨8, by decide, by decide, h8, if_pos h8⟩
  rw [if_neg (not_not_intro (show qW σ f n 112 108 97 99 101 0 0 0 p = 0 from h8))]
  by_cases h9 : qWi σ f n 9 p = 0
  case neg => exact Or.inl ⟨9, by decide, by decide, h9, if_pos h9⟩
  rw [if_neg (not_not_intro (show qW σ f n 103 105 118 101 114 0 0 0 p = 0 from h9))]
  by_cases h10 : qWi σ f n 10 p = 0
  case neg => exact Or.inl ⟨10, by decide, by decide, h10, if_pos h10⟩
  rw [if_neg (not_not_intro (show qW σ f n 103 117 101 115 116 115 0 0 p = 0 from h10))]
  by_cases h11 : qWi σ f n 11 p = 0
  case neg => exact Or.inl ⟨11, by decide, by decide, h11, if_pos h11⟩
  rw [if_neg (not_not_intro (show qW σ f n 108 111 111 107 0 0 0 0 p = 0 from h11))]
  by_cases h12 : qWi σ f n 12 p = 0
  case neg => exact Or.inl ⟨12, by decide, by decide, h12, if_pos h12⟩
  rw [if_neg (not_not_intro (show qW σ f n 110 117 109 98 101 114 0 0 p = 0 from h12))]
  refine Or.inr ⟨fun i h1 h2 => ?_, rfl⟩
  rcases (by omega : i = 7 ∨ i = 8 ∨ i = 9 ∨ i = 10 ∨ i = 11 ∨ i = 12) with rfl | rfl | rfl | rfl | rfl | rfl <;> assumption
theorem t_nm : ∀ (i : Nat) (S : List Int32), 7 ≤ i → i < 13 → tSt (eN σ) (kcd i) S = σ.1 (i + 9) :: S := fun i S h1 h2 => by
  rcases (by omega : i = 7 ∨ i = 8 ∨ i = 9 ∨ i = 10 ∨ i = 11 ∨ i = 12) with rfl | rfl | rfl | rfl | rfl | rfl <;> rfl
/-- one token that says a value -/
theorem ZR_tok {c : CT} {p : PT} {k u : Int32} (hO : rdO σ f n) (hk : okp n p) (hr : RC σ f n p c) (hs : c.2.2.2.2.2.1 ≤ c.2.1) (hb : pbd p = 0) (h4 : p.2.1 ≠ 4) (h0 : p.2.1 ≠ 0) (hk16 : ¬ k = -16) (ht : ∀ S, tSt (eN σ) k S = u :: S) : ZR σ f n (pop p) c u (pN σ f n p) (cA σ f n (cE k c)) := by
  have hn := hO.2.2.1
  have e1 := (hr.1 hb).2.1
  have g := hk.2.2.2.2.2.1 h4 h0
  have hx : p.1 ≤ n := hk.1
  have q4 : c.2.2.2.2.2.1 < 160 := by omega
  obtain ⟨d1, d2, d3, d4, d5, d6, d7, d8⟩ := RC_adv hO hk (RC_E (v := k) hr) hb h4 h0
  refine ⟨d2, d3, d1, mnC_E.trans mnC_A, fun _ => ⟨hs, SG_lc (SG_one q4 hk16 ht) rfl d6, ?_⟩⟩
  have q3 : (cA σ f n (cE k c)).2.2.2.2.2.1 = c.2.2.2.2.2.1 + 1 := (congrArg Prod.fst d6).trans (by rw [cE_lt q4])
  have q5 : (cE k c).2.1 = c.2.1 := by rw [cE_lt q4]
  omega
theorem L_atom {N : Nat} (hO : rdO σ f n) (IH0 : LVz σ f n N 0) (IH5 : LVz σ f n N 5) : LVz σ f n (N + 1) 0 := by
  intro p c hk hf hr hs
  have hp : pop p ≤ 5 := hk.2.2.2.1
  show ZR σ f n (pop p) c (pAt σ f n (pz σ f n N 0) (pz σ f n N 5) p).1 (pAt σ f n (pz σ f n N 0) (pz σ f n N 5) p).2 (cAt σ f n (cz σ f n N 0) (cz σ f n N 5) (pop p) c)
  have hM := RC_S (k := 45) hr (by decide)
  have hP := RC_S (k := 40) hr (by decide)
  have h22 := RC_22 hr
  have hnm := RC_nm hk hr
  unfold pAt cAt
  by_cases q1 : qS 45 p = 0
  case neg =>
    obtain ⟨b1, b2, b3⟩ := qS_f q1
    have ht : c.2.2.1 = -13 := Decidable.not_not.mp (fun z => q1 (hM.mpr z))
    rw [if_pos q1, if_neg (show ¬ c.2.2.1 = -22 by rw [ht]; decide), if_neg (show ¬ (c.2.2.1 ≤ -1 ∧ -6 ≤ c.2.2.1) by rw [ht]; decide)]
    by_cases h5 : pop p = 5
    · rw [if_pos h5, if_neg (show ¬ (c.2.2.1 = -13 ∧ pop p < 5) from fun z => by omega), if_neg (show ¬ (c.2.2.1 = -17 ∧ pop p < 5) from fun z => by omega)]
      exact ZR_fail hO hk hr
    · rw [if_neg h5, if_pos (show c.2.2.1 = -13 ∧ pop p < 5 from ⟨ht, by omega⟩)]
      obtain ⟨r1, r2, r3⟩ := ZR_op hO IH0 hk hr hs (by omega) b1 (by omega) (by omega) h5
      exact ZR_un hO hp (hs b1) rfl r1 r2 r3 (by decide) (fun S => t_neg _ _ S)
  rw [if_neg (not_not_intro q1)]
  by_cases q2 : qS 40 p = 0
  case neg =>
    obtain ⟨b1, b2, b3⟩ := qS_f q2
    have ht : c.2.2.1 = -17 := Decidable.not_not.mp (fun z => q2 (hP.mpr z))
    rw [if_pos q2, if_neg (show ¬ c.2.2.1 = -22 by rw [ht]; decide), if_neg (show ¬ (c.2.2.1 ≤ -1 ∧ -6 ≤ c.2.2.1) by rw [ht]; decide), if_neg (show ¬ (c.2.2.1 = -13 ∧ pop p < 5) by rw [ht]; exact fun z => absurd z.1 (by decide))]
    by_cases h5 : pop p = 5
    · rw [if_pos h5, if_neg (show ¬ (c.2.2.1 = -17 ∧ pop p < 5) from fun z => by omega)]
      exact ZR_fail hO hk hr
    · rw [if_neg h5, if_pos (show c.2.2.1 = -17 ∧ pop p < 5 from ⟨ht, by omega⟩)]
      obtain ⟨r1, r2, r3⟩ := ZR_op hO IH5 hk hr hs (by omega) b1 (by omega) (by omega) h5
      generalize pz σ f n N 5 (pOp σ f n p) = r at r1
      generalize cz σ f n N 5 (pop p + 1) (cA σ f n c) = d at r1
      obtain ⟨a1, a2, a3, a4, a5⟩ := r1
      have hC := RC_S (k := 41) a3 (by decide)
      have hp2 : pop r.2 ≤ 5 := a1.2.2.2.1
      show ZR σ f n (pop p) c r.1 (pCl σ f n r.2) (cX σ f n (-18) d)
      unfold pCl cX
      by_cases q3 : qS 41 r.2 = 0
      · have hF := RC_F hO a1 a3
        rw [if_pos q3, if_neg hF.2, if_neg (show ¬ d.2.2.1 = -18 from hC.mp q3)]
        have e : pop (pF r.2) = pop r.2 := (pF_ok a1).2.2
        refine ⟨pO_ok (pF_ok a1).1 (by omega), ?_, RC_O hF.1, (mnC_A.trans a4).trans mnC_F, fun z => absurd z hF.2⟩
        show pop (pF r.2) - 1 = pop p
        omega
      · obtain ⟨c1, c2, c3⟩ := qS_f q3
        have ht2 : d.2.2.1 = -18 := Decidable.not_not.mp (fun z => q3 (hC.mpr z))
        rw [if_neg q3, if_pos c1, if_pos ht2]
        obtain ⟨d1, d2, d3, d4, d5, d6, d7, d8⟩ := RC_adv (p := pO r.2 (pop r.2 - 1)) hO (pO_ok a1 (by omega)) (RC_O a3) c1 (show r.2.2.1 ≠ 4 by omega) (show r.2.2.1 ≠ 0 by omega)
        obtain ⟨g1, g2, g3⟩ := a5 c1
        have q4 : (cA σ f n d).2.2.2.2.2.1 = d.2.2.2.2.2.1 := congrArg Prod.fst d6
        have q5 : (cA σ f n c).2.2.2.2.2.1 = c.2.2.2.2.2.1 := congrArg Prod.fst r3
        refine ⟨d2, d3.trans ?_, d1, (mnC_A.trans a4).trans mnC_A, fun _ => ⟨hs b1, SG_lc g2 r3.symm d6, by omega⟩⟩
        show pop r.2 - 1 = pop p
        omega
  rw [if_neg (not_not_intro q2)]
  have n13 : ¬ (c.2.2.1 = -13 ∧ pop p < 5) := fun z => hM.mp q1 z.1
  have n17 : ¬ (c.2.2.1 = -17 ∧ pop p < 5) := fun z => hP.mp q2 z.1
  by_cases q3 : pbd p = 0 ∧ p.2.1 = 2
  · rw [if_pos q3, if_pos (h22.mpr q3)]
    obtain ⟨V, hV, e1, e2⟩ := (hr.1 q3.1).2.2.2.2.2.1 q3.2
    have eu : p.2.2.2.1.toInt32 = nI V := by rw [e1, nI_l (by omega), lN_i]
    show ZR σ f n (pop p) c p.2.2.2.1.toInt32 (pN σ f n p) (cA σ f n (cE c.2.2.2.1 c))
    rw [eu, e2]
    refine ZR_tok hO hk hr (hs q3.1) q3.1 (by omega) (by omega) (fun z => ?_) (fun S => ?_)
    · have := nI_pos' (n := V) (by omega)
      rw [z] at this
      exact absurd this (by decide)
    · unfold tSt
      rw [if_pos (nI_pos' (by omega))]
  · rw [if_neg q3, if_neg (fun z => q3 (h22.mp z))]
    by_cases q4 : pbd p = 0 ∧ p.2.1 = 1
    · rw [if_pos q4]
      rcases pnm_c (σ := σ) (f := f) (n := n) p with ⟨i, h7, hi, q, e⟩ | ⟨ha, e⟩
      · have et : c.2.2.1 = kcd i := Decidable.not_not.mp (fun z => q ((RC_W hk hr hi (by omega)).mpr z))
        rw [e, if_pos (hnm.mpr ⟨i, h7, hi, q⟩)]
        show ZR σ f n (pop p) c (σ.1 (i + 9)) (if pbd p = 0 then pN σ f n p else p) _
        rw [if_pos q4.1, et]
        refine ZR_tok hO hk hr (hs q4.1) q4.1 (by omega) (by omega) (fun z => ?_) (fun S => t_nm i S h7 hi)
        have := kcd_rg i hi h7
        rw [z] at this
        exact absurd this.2 (by decide)
      · rw [e, if_neg (show ¬ (c.2.2.1 ≤ -1 ∧ -6 ≤ c.2.2.1) from fun z => by
          obtain ⟨i, h7, hi, q⟩ := hnm.mp z
          exact q (ha i h7 hi)), if_neg n13, if_neg n17]
        show ZR σ f n (pop p) c 0 (if pbd (pF p) = 0 then pN σ f n (pF p) else pF p) _
        rw [if_neg (RC_F hO hk hr).2]
        exact ZR_fail hO hk hr
    · rw [if_neg q4, if_neg (show ¬ (c.2.2.1 ≤ -1 ∧ -6 ≤ c.2.2.1) from fun z => by
          obtain ⟨i, h7, hi, q⟩ := hnm.mp z
          exact q4 (qWi_f q)), if_neg n13, if_neg n17]
      exact ZR_fail hO hk hr
theorem L_all (hO : rdO σ f n) : ∀ N : Nat, LVz σ f n N 0 ∧ LVz σ f n N 1 ∧ LVz σ f n N 2 ∧ LVz σ f n N 3 ∧ LVz σ f n N 4 ∧ LVz σ f n N 5
  | 0 => ⟨fun _ _ _ h => absurd h (by omega), fun _ _ _ h => absurd h (by omega), fun _ _ _ h => absurd h (by omega), fun _ _ _ h => absurd h (by omega), fun _ _ _ h => absurd h (by omega), fun _ _ _ h => absurd h (by omega)⟩
  | N + 1 => by
    obtain ⟨c0, c1, c2, c3, c4, c5⟩ := L_all hO N
    exact ⟨L_atom hO c0 c5, L_term hO c0, L_sum hO c1, L_not hO c3 c2, L_both hO c3, L_either hO c4⟩
end M97
