/-! the two readers side by side: a step on -/
section M94
variable {σ : MS} {f n : Nat}
theorem lN_sb (a d : Nat) : lN a + lN (48 + d) - 48 = lN (a + d) := by
  rw [show lN (48 + d) = lN d + 48 by rw [Nat.add_comm]; exact Int64.ofNat_add d 48, ← Int64.add_assoc, Int64.add_sub_cancel]
  exact (Int64.ofNat_add a d).symm
theorem nI_sb8 (a d : Nat) : nI a + nI (48 + d) - 48 = nI (a + d) := by
  rw [show nI (48 + d) = nI d + 48 by rw [Nat.add_comm]; exact Int32.ofNat_add d 48, ← Int32.add_assoc, Int32.add_sub_cancel]
  exact (Int32.ofNat_add a d).symm
theorem dgt_of {σ : MS} {f n h : Nat} (hO : rdO σ f n) (hd : 48 ≤ bA σ f n h ∧ bA σ f n h ≤ 57) : ∃ d, d < 10 ∧ bA σ f n h = nI (48 + d) := by
  have hl : h < n := bA_lt (fun z => absurd (Int32.lt_of_le_of_lt hd.1 z) (by decide))
  obtain ⟨c, hc, e⟩ := hO.2.2.2.2 h hl
  have e2 : bA σ f n h = nI c := by rw [bA, if_pos hl, e]
  rw [e2] at hd ⊢
  have h1 : 48 ≤ c := (nI_leI (a := 48) (by decide) (by omega)).mp hd.1
  have h2 : c ≤ 57 := (nI_leI (b := 57) (by omega) (by decide)).mp hd.2
  exact ⟨c - 48, by omega, by rw [show 48 + (c - 48) = c by omega]⟩
theorem dg_dc (hO : rdO σ f n) : ∀ (m h c V : Nat) (v : Int64) (w : Int32), V < 10 ^ c → (c ≤ 4 → v = (nI V).toInt64 ∧ w = nI V) → (dgB σ f n m h c v).1 = (dcB σ f n m h w).1 ∧ (dgB σ f n m h c v).2.1 + h = c + (dgB σ f n m h c v).1 ∧ ((dgB σ f n m h c v).2.1 ≤ 4 → ∃ V2 : Nat, V2 < 10 ^ (dgB σ f n m h c v).2.1 ∧ (dgB σ f n m h c v).2.2 = (nI V2).toInt64 ∧ (dcB σ f n m h w).2 = nI V2)
  | 0, h, c, V, v, w, hV, hv => ⟨rfl, rfl, fun z => ⟨V, hV, hv z⟩⟩
  | m + 1, h, c, V, v, w, hV, hv => by
    rw [dgB, dcB]
    by_cases hd : 48 ≤ bA σ f n h ∧ bA σ f n h ≤ 57
    · rw [if_pos hd, if_pos (show dgT (bA σ f n h) from hd)]
      obtain ⟨d, hd10, eb⟩ := dgt_of hO hd
      have key : ∃ V2 : Nat, V2 < 10 ^ (c + 1) ∧ (c + 1 ≤ 4 → (if 4 ≤ c then v else 10 * v + (bA σ f n h).toInt64 - 48) = (nI V2).toInt64 ∧ w * 10 + bA σ f n h - 48 = nI V2) := by
        refine ⟨10 * V + d, by rw [Nat.pow_succ]; omega, fun hc => ?_⟩
        obtain ⟨e1, e2⟩ := hv (by omega)
        have hV4 : V < 10 ^ 4 := Nat.lt_of_lt_of_le hV (Nat.pow_le_pow_right (by decide) (by omega))
        have hV5 : V < 10000 := hV4
        rw [if_neg (by omega), eb, e1, e2, nI_l (by omega), nI_l (by omega), nI_l (by omega)]
        refine ⟨?_, ?_⟩
        · rw [show (10 : Int64) * lN V = lN (10 * V) from (Int64.ofNat_mul 10 V).symm]
          exact lN_sb _ _
        · rw [show nI V * 10 = nI (10 * V) by rw [Nat.mul_comm]; exact (Int32.ofNat_mul V 10).symm]
          exact nI_sb8 _ _
      obtain ⟨V2, hV2, k2⟩ := key
      have r := dg_dc hO m (h + 1) (c + 1) V2 _ _ hV2 k2
      exact ⟨r.1, by have := r.2.1; omega, r.2.2⟩
    · rw [if_neg hd, if_neg (show ¬ dgT (bA σ f n h) from hd)]
      exact ⟨rfl, rfl, fun z => ⟨V, hV, hv z⟩⟩
theorem RC_N {p : PT} {c : CT} (hO : rdO σ f n) (hk : okp n p) (h : RC σ f n p c) (hb : pbd p = 0) (h4 : p.2.1 ≠ 4) : RC σ f n (pN σ f n p) (cA σ f n c) := by
  obtain ⟨x, tk, ta, tw, op, bd, ft⟩ := p
  obtain ⟨x2, s2, t, u, fl, l, cd⟩ := c
  obtain ⟨g1, -, -, g4, -⟩ := h.1 hb
  have k1 : fl = -1 := g1
  have k4 : x2 = x := g4 h4
  have k2 : bd = 0 := hb
  clear g1 g4
  subst k1 k4 k2
  have hx : x2 ≤ n := hk.1
  have hn := hO.2.2.1
  refine ⟨fun _ => ?_, fun z => absurd hb z⟩
  have hs := skB_in (σ := σ) (f := f) (n := n) (n - x2) x2 (by omega)
  have e1 : pN σ f n (x2, tk, ta, tw, op, 0, ft) = ((nxs σ f n (skB σ f n (n - x2) x2) tw).1, (nxs σ f n (skB σ f n (n - x2) x2) tw).2.1, (nxs σ f n (skB σ f n (n - x2) x2) tw).2.2.1, (nxs σ f n (skB σ f n (n - x2) x2) tw).2.2.2, op, 0, ft) := rfl
  have e2 : cA σ f n (x2, s2, t, u, -1, l, cd) = cAx σ f n (skB σ f n (n - x2) x2) (x2, s2, t, u, -1, l, cd) := if_pos rfl
  rw [e1, e2]
  generalize skB σ f n (n - x2) x2 = s at hs
  by_cases c1 : bA σ f n s < 0
  · have hge := bA_ge hO c1
    obtain rfl : s = n := by omega
    rw [show nxs σ f s s tw = (s, 0, s, tw) from if_pos c1, show cAx σ f s s (x2, s2, t, u, -1, l, cd) = (s, s, -23, u, -1, l, cd) from if_pos (Nat.le_refl s)]
    exact ⟨rfl, rfl, rfl, fun _ => rfl, fun z => absurd (show (0 : Nat) = 1 from z) (by decide), fun z => absurd (show (0 : Nat) = 2 from z) (by decide), fun z => absurd (show (0 : Nat) = 3 from z) (by decide)⟩
  · have hlt := bA_lt c1
    by_cases c2 : 97 ≤ bA σ f n s ∧ bA σ f n s ≤ 122
    · rw [show nxs σ f n s tw = (weB σ f n (n - s) s, 1, s, tw) by unfold nxs; rw [if_neg c1, if_pos c2], show cAx σ f n s (x2, s2, t, u, -1, l, cd) = (weB σ f n (n - s) s, s, wdC σ f n s (weB σ f n (n - s) s), u, -1, l, cd) by unfold cAx; rw [if_neg (Nat.not_le.mpr hlt), if_pos (show ltB _ from c2)]]
      exact ⟨rfl, rfl, rfl, fun _ => rfl, fun _ j hj1 hj2 z => by
        have := weB_all (σ := σ) (f := f) (n := n) (n - s) s j hj1 hj2
        rw [z] at this
        exact absurd this.1 (by decide), fun z => absurd (show (1 : Nat) = 2 from z) (by decide), fun z => absurd (show (1 : Nat) = 3 from z) (by decide)⟩
    · by_cases c3 : 48 ≤ bA σ f n s ∧ bA σ f n s ≤ 57
      · obtain ⟨r1, r2, r3⟩ := dg_dc hO (n - s) s 0 0 0 0 (by decide) (fun _ => ⟨rfl, rfl⟩)
        rw [show nxs σ f n s tw = ((dgB σ f n (n - s) s 0 0).1, (if (dgB σ f n (n - s) s 0 0).2.1 ≤ 4 then 2 else 4), s, (dgB σ f n (n - s) s 0 0).2.2) by unfold nxs; rw [if_neg c1, if_neg c2, if_pos c3], show cAx σ f n s (x2, s2, t, u, -1, l, cd) = ((dcB σ f n (n - s) s 0).1, s, if (dcB σ f n (n - s) s 0).1 - s ≤ 4 then -22 else -24, (dcB σ f n (n - s) s 0).2, -1, l, cd) by unfold cAx; rw [if_neg (Nat.not_le.mpr hlt), if_neg (show ¬ ltB _ from c2), if_pos (show dgT _ from c3)]]
        rw [← r1]
        have e3 : (dgB σ f n (n - s) s 0 0).2.1 = (dgB σ f n (n - s) s 0 0).1 - s := by omega
        rw [← e3]
        by_cases c4 : (dgB σ f n (n - s) s 0 0).2.1 ≤ 4
        · rw [if_pos c4, if_pos c4]
          obtain ⟨V2, hV2, q1, q2⟩ := r3 c4
          refine ⟨rfl, rfl, rfl, fun _ => rfl, fun z => absurd (show (2 : Nat) = 1 from z) (by decide), fun _ => ⟨V2, ?_, q1, q2⟩, fun z => absurd (show (2 : Nat) = 3 from z) (by decide)⟩
          exact Nat.lt_of_lt_of_le hV2 (Nat.pow_le_pow_right (n := 10) (by decide) c4)
        · rw [if_neg c4, if_neg c4]
          exact ⟨rfl, rfl, rfl, fun z => absurd rfl z, fun z => absurd (show (4 : Nat) = 1 from z) (by decide), fun z => absurd (show (4 : Nat) = 2 from z) (by decide), fun z => absurd (show (4 : Nat) = 3 from z) (by decide)⟩
      · have e5 : cAx σ f n s (x2, s2, t, u, -1, l, cd) = (s + 1, s, sgC (bA σ f n s), u, -1, l, cd) := by unfold cAx; rw [if_neg (Nat.not_le.mpr hlt), if_neg (show ¬ ltB _ from c2), if_neg (show ¬ dgT _ from c3)]
        rw [e5]
        by_cases c5 : sgnB (bA σ f n s) = true
        · rw [show nxs σ f n s tw = (s + 1, 3, s, (bA σ f n s).toInt64) by unfold nxs; rw [if_neg c1, if_neg c2, if_neg c3, if_pos c5]]
          refine ⟨rfl, rfl, ?_, fun _ => rfl, fun z => absurd (show (3 : Nat) = 1 from z) (by decide), fun z => absurd (show (3 : Nat) = 2 from z) (by decide), fun _ => ⟨_, sgn_mem c5, rfl⟩⟩
          show sgC (bA σ f n s) = sgC (bA σ f n s).toInt64.toInt32
          rw [(sgC_facts _ (sgn_mem c5)).2.2.2.2.2.1]
        · rw [show nxs σ f n s tw = (s, 4, s, tw) by unfold nxs; rw [if_neg c1, if_neg c2, if_neg c3, if_neg c5]]
          refine ⟨rfl, rfl, ?_, fun z => absurd rfl z, fun z => absurd (show (4 : Nat) = 1 from z) (by decide), fun z => absurd (show (4 : Nat) = 2 from z) (by decide), fun z => absurd (show (4 : Nat) = 3 from z) (by decide)⟩
          exact sgC_no c5
theorem RC_F {p : PT} {c : CT} (hO : rdO σ f n) (hk : okp n p) (h : RC σ f n p c) : RC σ f n (pF p) (cF c) ∧ ¬ pbd (pF p) = 0 := by
  have hn := hO.2.2.1
  have ht : p.2.2.1 ≤ n := hk.2.2.1
  have hb1 : ¬ pbd (pF p) = 0 := by
    show ¬ flB p.2.2.2.2.2.1 = 0
    unfold flB
    split <;> omega
  refine ⟨⟨fun z => absurd z hb1, fun _ => ?_⟩, hb1⟩
  by_cases hb : pbd p = 0
  · obtain ⟨g1, g2, -⟩ := h.1 hb
    have e : (cF c).2.2.2.2.1 = nI p.2.2.1 := by
      show (if c.2.2.2.2.1 = -1 then nI c.2.1 else c.2.2.2.2.1) = _
      rw [if_pos g1, g2]
    refine ⟨rfl, ?_, ?_⟩
    · rw [e]
      exact nI_m1 (by omega)
    · rw [e]
      show _ = nI (flF p.2.2.2.2.2.1 p.2.2.1 p.2.2.2.2.2.2)
      unfold flF
      rw [if_pos (show p.2.2.2.2.2.1 = 0 from hb)]
  · obtain ⟨g1, g2, g3⟩ := h.2 hb
    have e : (cF c).2.2.2.2.1 = c.2.2.2.2.1 := if_neg g2
    refine ⟨rfl, by rw [e]; exact g2, ?_⟩
    rw [e, g3]
    show _ = nI (flF p.2.2.2.2.2.1 p.2.2.1 p.2.2.2.2.2.2)
    unfold flF
    rw [if_neg (show ¬ p.2.2.2.2.2.1 = 0 from hb)]
theorem RC_E {p : PT} {c : CT} {v : Int32} (h : RC σ f n p c) : RC σ f n p (cE v c) := by
  unfold cE
  split
  · exact h
  · exact h
theorem RC_O {p : PT} {c : CT} {v : Nat} (h : RC σ f n p c) : RC σ f n (pO p v) c := h
/-- the code only grows -/
def mnC (c d : CT) : Prop := c.2.2.2.2.2.1 ≤ d.2.2.2.2.2.1 ∧ ∀ i, i < c.2.2.2.2.2.1 → d.2.2.2.2.2.2 i = c.2.2.2.2.2.2 i
theorem mnC.rf {c : CT} : mnC c c := ⟨Nat.le_refl _, fun _ _ => rfl⟩
theorem mnC.trans {c d e : CT} (h1 : mnC c d) (h2 : mnC d e) : mnC c e := ⟨Nat.le_trans h1.1 h2.1, fun i hi => (h2.2 i (Nat.lt_of_lt_of_le hi h1.1)).trans (h1.2 i hi)⟩
theorem cA_lc {c : CT} : (cA σ f n c).2.2.2.2.2 = c.2.2.2.2.2 := by
  unfold cA cAx
  repeat' split
  all_goals rfl
theorem mnC_A {c : CT} : mnC c (cA σ f n c) := by
  unfold mnC
  rw [cA_lc]
  exact mnC.rf
theorem mnC_F {c : CT} : mnC c (cF c) := mnC.rf
theorem mnC_X {c : CT} {v : Int32} : mnC c (cX σ f n v c) := by
  unfold cX
  split
  · exact mnC_A
  · exact mnC_F
theorem mnC_E {c : CT} {v : Int32} : mnC c (cE v c) := by
  unfold cE
  split
  · refine ⟨Nat.le_succ _, fun i hi => ?_⟩
    show va_up _ _ _ i = _
    unfold va_up
    rw [if_neg (by omega)]
  · exact mnC.rf
theorem clp_mn {step : CT → Option CT} (hs : ∀ c d, step c = some d → mnC c d) : ∀ (k : Nat) (c : CT), mnC c (clp step k c)
  | 0, _ => mnC.rf
  | k + 1, c => by
    rw [clp]
    split
    · exact mnC.rf
    · rename_i d hd
      exact (hs c d hd).trans (clp_mn hs k d)
theorem stX_mn {g : CT → CT} {v : Int32} (hg : ∀ c, mnC c (g c)) (c d : CT) (e : stX σ f n g v c = some d) : mnC c d := by
  unfold stX at e
  split at e
  · cases e
    exact (mnC_A.trans (hg _)).trans mnC_E
  · cases e
theorem stS_mn {g : CT → CT} (hg : ∀ c, mnC c (g c)) (c d : CT) (e : stS σ f n g c = some d) : mnC c d := by
  unfold stS at e
  split at e
  · cases e
    exact (mnC_A.trans (hg _)).trans mnC_E
  · cases e
theorem cz_mn : ∀ (N l op : Nat) (c : CT), mnC c (cz σ f n N l op c)
  | 0, _, _, _ => mnC.rf
  | N + 1, 0, op, c => by
    show mnC c (cAt σ f n (cz σ f n N 0) (cz σ f n N 5) op c)
    unfold cAt
    split
    · exact mnC_E.trans mnC_A
    · split
      · exact mnC_E.trans mnC_A
      · split
        · exact (mnC_A.trans (cz_mn N 0 _ _)).trans mnC_E
        · split
          · exact (mnC_A.trans (cz_mn N 5 _ _)).trans mnC_X
          · exact mnC_F
  | N + 1, 1, op, c => (cz_mn N 0 op c).trans (clp_mn (stX_mn (cz_mn N 0 op)) 160 _)
  | N + 1, 2, op, c => (cz_mn N 1 op c).trans (clp_mn (stS_mn (cz_mn N 1 op)) 160 _)
  | N + 1, 3, op, c => by
    show mnC c (cNt σ f n (cz σ f n N 3) (cz σ f n N 2) op c)
    unfold cNt
    split
    · split
      · exact mnC_F
      · exact (mnC_A.trans (cz_mn N 3 _ _)).trans mnC_E
    · unfold cCm
      have k := cz_mn N 2 op c
      split
      · exact ((k.trans mnC_A).trans (cz_mn N 2 op _)).trans mnC_E
      · exact k
  | N + 1, 4, op, c => (cz_mn N 3 op c).trans (clp_mn (stX_mn (cz_mn N 3 op)) 160 _)
  | N + 1, l + 5, op, c => (cz_mn N 4 op c).trans (clp_mn (stX_mn (cz_mn N 4 op)) 160 _)
/-- code that runs, m of it from i on -/
def rnC (e : Nat → Int32) (cd : Nat → Int32) : Nat → Nat → List Int32 → List Int32
  | 0, _, S => S
  | m + 1, i, S => rnC e cd m (i + 1) (tSt e (cd i) S)
theorem rnC_add (e cd : Nat → Int32) : ∀ (m k i : Nat) (S : List Int32), rnC e cd (m + k) i S = rnC e cd k (i + m) (rnC e cd m i S)
  | 0, k, i, S => by rw [Nat.zero_add]; rfl
  | m + 1, k, i, S => by
    rw [show m + 1 + k = (m + k) + 1 by omega]
    show rnC e cd (m + k) (i + 1) (tSt e (cd i) S) = rnC e cd k (i + (m + 1)) (rnC e cd m (i + 1) (tSt e (cd i) S))
    rw [rnC_add e cd m k (i + 1), show i + 1 + m = i + (m + 1) by omega]
theorem rnC_cg (e cd ce : Nat → Int32) : ∀ (m i : Nat) (S : List Int32), (∀ j, i ≤ j → j < i + m → cd j = ce j) → rnC e cd m i S = rnC e ce m i S
  | 0, _, _, _ => rfl
  | m + 1, i, S, h => by
    show rnC e cd m (i + 1) (tSt e (cd i) S) = rnC e ce m (i + 1) (tSt e (ce i) S)
    rw [h i (Nat.le_refl i) (by omega)]
    exact rnC_cg e cd ce m (i + 1) _ (fun j h1 h2 => h j (by omega) (by omega))
end M94
