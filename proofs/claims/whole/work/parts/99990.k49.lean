/-! the class: a new planner -/
theorem plL_in {f : Nat} (h : plL f ≠ 0) : f = 3 ∨ f = 4 ∨ f = 5 ∨ f = 6 ∨ f = 7 ∨ f = 8 := by
  refine Decidable.byContradiction fun hn => h ?_
  unfold plL
  rw [if_neg (by omega), if_neg (by omega), if_neg (by omega), if_neg (by omega), if_neg (by omega), if_neg (by omega)]
theorem bN_i {b : Kb} {o q0 : Nat} {fs : List Nat} {rw : Nat → Nat} (hi : ∀ f ∈ fs, ∀ f2 ∈ fs, rw f = rw f2 → f = f2) {f : Nat} (hf : f ∈ fs) : adR (bN b o q0 fs rw) o f = rw f ∧ ivR (bN b o q0 fs rw) (rw f) = (o, f) := by
  refine ⟨if_pos ⟨rfl, hf⟩, ?_⟩
  rcases bN_R (b := b) (o := o) (q0 := q0) (fs := fs) (rw := rw) (rw f) with ⟨f2, h4, h5, h6⟩ | ⟨h5, -⟩
  · rw [h6, hi f2 h4 f hf h5]
  · exact absurd rfl (h5 f hf)
def KLo (μ : Mem) (b : Kb) : Prop := KL μ b ∧ RO μ b 3 11 7 6
section M99990
variable {Γ : Gm} {μ : Mem} {b : Kb} {κ : KS} {q0 : Nat}
def plQ (μ : Mem) (b : Kb) (κ : KS) (q0 : Nat) : Option Value → Mem → Prop := fun r M => r = none ∧ ∃ (μ2 : Mem) (b2 : Kb) (κ2 : KS), M = KV μ2 b2 κ2 ∧ KF μ2 b2 ∧ EV (fun p => p = 3) μ b κ μ2 b2 κ2 ∧ FO μ b κ μ2 b2 κ2 ∧ adO b2 3 = q0 ∧ KO μ2 b2 3 4 plL ∧ KLo μ2 b2 ∧ κ2.2 3 6 0 = 0
theorem pl_reg {μ9 : Mem} {g : Nat → Int32} {a0 a3 a4 a5 a6 a7 a8 q : Nat} {r : Nat → Nat} (hf : KF μ b) (hq0 : (mT μ q0).1 = 0) (I : AI (nw (KV μ b κ) q0 1 4) μ9 q0 4 g [(0, a0, 4, 0), (3, a3, 2, 6), (4, a4, 2, 4), (5, a5, 2, 7), (6, a6, 2, 7), (7, a7, 2, 5), (8, a8, 2, 5)]) (hq : (mT μ9 q).1 = 0) (hr : ∀ i, i < 6 → (mT μ9 (r i)).1 = 0 ∧ r i ≠ q) (hri : ∀ i j, i < 6 → j < 6 → r i = r j → i = j) : plQ μ b κ q0 none (sR (nwR μ9 q r 6 320 6) q0 11 (some q)) := by
  obtain ⟨hL, hs⟩ := AI_old I hq0
  obtain ⟨i1, i2, i3, i4, i5, i6⟩ := I
  obtain ⟨n1, n2, n3, n4⟩ := nwR_all (μ := μ9) (q := q) (r := r) (N := 6) (K := 320) (fun i hi => (hr i hi).2) hri 6 (Nat.le_refl 6)
  have h0q : q0 ≠ q := fun z => by rw [← z, i1] at hq; cases hq
  have h0r : ∀ j, j < 6 → r j ≠ q0 := fun j hj z => by
    have := (hr j hj).1
    rw [z, i1] at this
    cases this
  have hfr : ∀ a, (mT μ9 a).1 = 0 → (mT μ a).1 = 0 := fun a h => by
    rcases Nat.eq_zero_or_pos (mT μ a).1 with z | z
    · exact z
    · have e : mT μ9 a = mT μ a := (hs a (by omega)).1
      rw [e] at h
      exact h
  have hM : ∀ a, (mT μ9 a).1 ≠ 0 → a ≠ q0 → same μ9 (sR (nwR μ9 q r 6 320 6) q0 11 (some q)) a := fun a ha h0 => (n4 a (fun z => ha (by rw [z]; exact hq)) (fun j hj z => ha (by rw [← z]; exact (hr j hj).1))).trans (same_sR h0)
  obtain ⟨e1, e2, e3, e4⟩ := KV_grow (κ := κ) (μ2 := sR (nwR μ9 q r 6 320 6) q0 11 (some q)) hf (fun a ha => by
    have e : mT μ9 a = mT μ a := (hs a ha).1
    exact (hs a ha).trans (hM a (by rw [e]; exact ha) (fun z => ha (by rw [z]; exact hq0))))
  have hT0 : mT (sR (nwR μ9 q r 6 320 6) q0 11 (some q)) q0 = (1, 4) := ((n4 q0 h0q h0r).1).trans i1
  have hrT : ∀ j, j < 6 → mT (sR (nwR μ9 q r 6 320 6) q0 11 (some q)) (r j) = (2, 320) := fun j hj => (n3 j hj).1
  have hqT : mT (sR (nwR μ9 q r 6 320 6) q0 11 (some q)) q = (7, 6) := n1
  have hxT : ∀ x ∈ ([(0, a0, 4, 0), (3, a3, 2, 6), (4, a4, 2, 4), (5, a5, 2, 7), (6, a6, 2, 7), (7, a7, 2, 5), (8, a8, 2, 5)] : AL), mT (sR (nwR μ9 q r 6 320 6) q0 11 (some q)) x.2.1 = (x.2.2.1, x.2.2.2) ∧ (mT μ9 x.2.1).1 ≠ 0 ∧ x.2.2.1 ≠ 1 ∧ (∀ i, mA (sR (nwR μ9 q r 6 320 6) q0 11 (some q)) x.2.1 i = 0) ∧ (x.1 ≠ 11 → mR (sR (nwR μ9 q r 6 320 6) q0 11 (some q)) q0 x.1 = some x.2.1) := fun x hx => by
    obtain ⟨y1, y2, y3, y4, y5, y6, y7⟩ := i4 x hx
    have y8 : (mT μ9 x.2.1).1 ≠ 0 := by rw [y2]; exact y7
    have s := hM x.2.1 y8 y5
    refine ⟨s.1.trans y2, y8, ?_, fun i => by rw [s.2.2.2.2.1]; exact y3 i, fun h11 => ?_⟩
    · revert x
      simp
    · show up2 (mR (nwR μ9 q r 6 320 6)) q0 11 (some q) q0 x.1 = _
      rw [up2_n (Or.inr h11), (n4 q0 h0q h0r).2.2.2.1]
      exact y1
  have hcl : ∀ f ∈ [3, 4, 5, 6, 7, 8, 11, 100, 101, 102, 103, 104, 105], (∃ x ∈ ([(0, a0, 4, 0), (3, a3, 2, 6), (4, a4, 2, 4), (5, a5, 2, 7), (6, a6, 2, 7), (7, a7, 2, 5), (8, a8, 2, 5)] : AL), x.1 = f ∧ (fun f => if f = 3 then a3 else if f = 4 then a4 else if f = 5 then a5 else if f = 6 then a6 else if f = 7 then a7 else if f = 8 then a8 else if f = 11 then q else r (f - 100)) f = x.2.1) ∨ (f = 11 ∧ (fun f => if f = 3 then a3 else if f = 4 then a4 else if f = 5 then a5 else if f = 6 then a6 else if f = 7 then a7 else if f = 8 then a8 else if f = 11 then q else r (f - 100)) f = q) ∨ ∃ j, j < 6 ∧ f = 100 + j ∧ (fun f => if f = 3 then a3 else if f = 4 then a4 else if f = 5 then a5 else if f = 6 then a6 else if f = 7 then a7 else if f = 8 then a8 else if f = 11 then q else r (f - 100)) f = r j := by
    intro f hf
    simp only [List.mem_cons, List.not_mem_nil, or_false] at hf
    rcases hf with rfl | rfl | rfl | rfl | rfl | rfl | rfl | rfl | rfl | rfl | rfl | rfl | rfl
    · exact Or.inl ⟨(3, a3, 2, 6), by simp, rfl, rfl⟩
    · exact Or.inl ⟨(4, a4, 2, 4), by simp, rfl, rfl⟩
    · exact Or.inl ⟨(5, a5, 2, 7), by simp, rfl, rfl⟩
    · exact Or.inl ⟨(6, a6, 2, 7), by simp, rfl, rfl⟩
    · exact Or.inl ⟨(7, a7, 2, 5), by simp, rfl, rfl⟩
    · exact Or.inl ⟨(8, a8, 2, 5), by simp, rfl, rfl⟩
    · exact Or.inr (Or.inl ⟨rfl, rfl⟩)
    · exact Or.inr (Or.inr ⟨0, by decide, rfl, rfl⟩)
    · exact Or.inr (Or.inr ⟨1, by decide, rfl, rfl⟩)
    · exact Or.inr (Or.inr ⟨2, by decide, rfl, rfl⟩)
    · exact Or.inr (Or.inr ⟨3, by decide, rfl, rfl⟩)
    · exact Or.inr (Or.inr ⟨4, by decide, rfl, rfl⟩)
    · exact Or.inr (Or.inr ⟨5, by decide, rfl, rfl⟩)
  have w6 : (fun f => if f = 3 then a3 else if f = 4 then a4 else if f = 5 then a5 else if f = 6 then a6 else if f = 7 then a7 else if f = 8 then a8 else if f = 11 then q else r (f - 100)) 6 = a6 := rfl
  have w11 : (fun f => if f = 3 then a3 else if f = 4 then a4 else if f = 5 then a5 else if f = 6 then a6 else if f = 7 then a7 else if f = 8 then a8 else if f = 11 then q else r (f - 100)) 11 = q := rfl
  have wr : ∀ j, j < 6 → (fun f => if f = 3 then a3 else if f = 4 then a4 else if f = 5 then a5 else if f = 6 then a6 else if f = 7 then a7 else if f = 8 then a8 else if f = 11 then q else r (f - 100)) (100 + j) = r j := fun j hj => by
    show (if 100 + j = 3 then a3 else if 100 + j = 4 then a4 else if 100 + j = 5 then a5 else if 100 + j = 6 then a6 else if 100 + j = 7 then a7 else if 100 + j = 8 then a8 else if 100 + j = 11 then q else r (100 + j - 100)) = r j
    rw [if_neg (by omega), if_neg (by omega), if_neg (by omega), if_neg (by omega), if_neg (by omega), if_neg (by omega), if_neg (by omega), Nat.add_sub_cancel_left]
  generalize hw : (fun f => if f = 3 then a3 else if f = 4 then a4 else if f = 5 then a5 else if f = 6 then a6 else if f = 7 then a7 else if f = 8 then a8 else if f = 11 then q else r (f - 100)) = w at hcl w6 w11 wr
  generalize hMM : sR (nwR μ9 q r 6 320 6) q0 11 (some q) = M9 at *
  have hin : ∀ f ∈ [3, 4, 5, 6, 7, 8, 11, 100, 101, 102, 103, 104, 105], ∀ f2 ∈ [3, 4, 5, 6, 7, 8, 11, 100, 101, 102, 103, 104, 105], w f = w f2 → f = f2 := by
    intro f hf f2 hf2 e
    rcases hcl f hf with ⟨x, hx, c1, c2⟩ | ⟨c1, c2⟩ | ⟨j, c0, c1, c2⟩ <;> rcases hcl f2 hf2 with ⟨y, hy, d1, d2⟩ | ⟨d1, d2⟩ | ⟨k, d0, d1, d2⟩
    · rw [← c1, ← d1]
      exact i5 x hx y hy (by rw [← c2, ← d2]; exact e)
    · exact absurd (by rw [← c2, e, d2]; exact hq) (hxT x hx).2.1
    · exact absurd (by rw [← c2, e, d2]; exact (hr k d0).1) (hxT x hx).2.1
    · exact absurd (by rw [← d2, ← e, c2]; exact hq) (hxT y hy).2.1
    · rw [c1, d1]
    · exact absurd (by rw [← d2, ← e, c2]) (hr k d0).2
    · exact absurd (by rw [← d2, ← e, c2]; exact (hr j c0).1) (hxT y hy).2.1
    · exact absurd (by rw [← c2, e, d2]) (hr j c0).2
    · rw [c1, d1, hri j k c0 d0 (by rw [← c2, ← d2]; exact e)]
  have hnew : ∀ a, (mT μ a).1 = 0 → 25 ≤ (ivR b a).1 := fun a ha => Nat.le_of_not_lt (fun z => (hf.2.2 a z).1 ha)
  have h0 : 25 ≤ ivO b q0 := Nat.le_of_not_lt (fun z => by
    have := hf.2.1 _ z
    rw [hq0] at this
    cases this)
  obtain ⟨m1, m2, m3⟩ := N_reg (o := 3) (q0 := q0) (ci := 4) (fs := [3, 4, 5, 6, 7, 8, 11, 100, 101, 102, 103, 104, 105]) (rw := w) e1 e2 hT0 h0 (fun f hf => by
    rcases hcl f hf with ⟨x, hx, c1, c2⟩ | ⟨c1, c2⟩ | ⟨j, c0, c1, c2⟩
    · rw [c2, (hxT x hx).1]
      refine ⟨⟨?_, (hxT x hx).2.2.1⟩, hnew _ (hL x hx)⟩
      have := (i4 x hx).2.2.2.2.2.2
      exact this
    · rw [c2, hqT]
      exact ⟨⟨by decide, by decide⟩, hnew _ (hfr _ hq)⟩
    · rw [c2, hrT j c0]
      exact ⟨⟨by decide, by decide⟩, hnew _ (hfr _ (hr j c0).1)⟩)
  have hq11 : mR M9 q0 11 = some q := by
    rw [← hMM]
    exact up2_s
  obtain ⟨p1, p2⟩ := bN_i (b := b) (o := 3) (q0 := q0) hin (f := 11) (by decide)
  have hO : adO (bN b 3 q0 [3, 4, 5, 6, 7, 8, 11, 100, 101, 102, 103, 104, 105] w) 3 = q0 := by
    show (if (3 : Nat) = 3 then q0 else adO b 3) = q0
    exact if_pos rfl
  rw [w11] at p1 p2
  refine ⟨rfl, M9, _, _, m1.symm, m2, (e3 _).trans m3, fun a h1 h2 h3 => ?_, hO, ?_, ⟨⟨?_, ?_, fun j hj => ?_⟩, by decide, ?_, ?_⟩, ?_⟩
  · obtain ⟨f1, f2, f3⟩ := e4 a h1 h2 h3
    refine ⟨by rw [m1]; rw [e1] at f1; exact f1, ?_, ?_⟩
    · rw [bN_O, if_neg (fun z => h1 (by rw [z]; exact hq0)), if_neg (by omega)]
      exact h2
    · rcases bN_R (b := b) (o := 3) (q0 := q0) (fs := [3, 4, 5, 6, 7, 8, 11, 100, 101, 102, 103, 104, 105]) (rw := w) a with ⟨f, h4, h5, -⟩ | ⟨-, h5⟩
      · refine absurd ?_ h1
        rw [← h5]
        rcases hcl f h4 with ⟨x, hx, c1, c2⟩ | ⟨c1, c2⟩ | ⟨j, c0, c1, c2⟩
        · rw [c2]; exact hL x hx
        · rw [c2]; exact hfr _ hq
        · rw [c2]; exact hfr _ (hr j c0).1
      · rw [h5, if_neg (by omega)]
        exact h3
  · refine KO_M hf.1 (by decide) hT0 hin (fun f hfl => ?_)
    rcases plL_in hfl with rfl | rfl | rfl | rfl | rfl | rfl
    · obtain ⟨g1, -, -, -, g5⟩ := hxT (3, a3, 2, 6) (by simp)
      have e : w 3 = a3 := by rw [← hw]; rfl
      rw [e]
      exact ⟨by decide, g5 (show (3 : Nat) ≠ 11 by decide), g1⟩
    · obtain ⟨g1, -, -, -, g5⟩ := hxT (4, a4, 2, 4) (by simp)
      have e : w 4 = a4 := by rw [← hw]; rfl
      rw [e]
      exact ⟨by decide, g5 (show (4 : Nat) ≠ 11 by decide), g1⟩
    · obtain ⟨g1, -, -, -, g5⟩ := hxT (5, a5, 2, 7) (by simp)
      have e : w 5 = a5 := by rw [← hw]; rfl
      rw [e]
      exact ⟨by decide, g5 (show (5 : Nat) ≠ 11 by decide), g1⟩
    · obtain ⟨g1, -, -, -, g5⟩ := hxT (6, a6, 2, 7) (by simp)
      rw [w6]
      exact ⟨by decide, g5 (show (6 : Nat) ≠ 11 by decide), g1⟩
    · obtain ⟨g1, -, -, -, g5⟩ := hxT (7, a7, 2, 5) (by simp)
      have e : w 7 = a7 := by rw [← hw]; rfl
      rw [e]
      exact ⟨by decide, g5 (show (7 : Nat) ≠ 11 by decide), g1⟩
    · obtain ⟨g1, -, -, -, g5⟩ := hxT (8, a8, 2, 5) (by simp)
      have e : w 8 = a8 := by rw [← hw]; rfl
      rw [e]
      exact ⟨by decide, g5 (show (8 : Nat) ≠ 11 by decide), g1⟩
  · rw [hO, p1]
    exact hq11
  · rw [p1]
    exact hqT
  · have hj13 : 100 + j ∈ [3, 4, 5, 6, 7, 8, 11, 100, 101, 102, 103, 104, 105] := by
      rcases (by omega : j = 0 ∨ j = 1 ∨ j = 2 ∨ j = 3 ∨ j = 4 ∨ j = 5) with rfl | rfl | rfl | rfl | rfl | rfl <;> decide
    obtain ⟨v1, v2⟩ := bN_i (b := b) (o := 3) (q0 := q0) hin hj13
    rw [wr j hj] at v1 v2
    refine ⟨?_, m2.1, by decide, by rw [v1]; exact hrT j hj, by rw [v1]; exact v2⟩
    rw [p1, v1, ← hMM]
    show mX (nwR μ9 q r 6 320 6) q j = some (r j)
    rw [n2 j, if_pos hj]
  · rw [p1]
    exact hqT
  · rw [p1]
    exact p2
  · show (if (3 : Nat) = 3 then mA M9 (w 6) else κ.2 3 6) 0 = 0
    rw [if_pos rfl, w6]
    exact (hxT (6, a6, 2, 7) (by simp)).2.2.2.1 0
theorem k_plInit (hf : KF μ b) (hq0 : (mT μ q0).1 = 0) : XM Γ zX4_init 1 14 1960 [.ref q0] (nw (KV μ b κ) q0 1 4) (plQ μ b κ q0) := by
  refine XM.of 0 rfl (by decide) (Nat.le_of_ble_eq_true rfl) ?_
  refine x_aload_n (pc := 0) dX4_init_0 rfl ?_
  refine x_objInit (pc := 1) dX4_init_1 lw_4_3 wo_inst wo_code ⟨Nat.le_refl 1, Nat.le_refl 64⟩ (by decide) ?_
  refine x_aload_n (pc := 4) dX4_init_4 rfl ?_
  refine x_iconst (pc := 5) (v := 0) dX4_init_5 rfl ?_
  refine x_afX (pc := 6) (N := 0) (kx := 0) (by decide) dX4_init_6 kl_4_9 dX4_init_9 fk_4_11 (by first | exact Or.inl rfl | exact Or.inr ⟨rfl, rfl, rfl⟩) (Or.inr ⟨_, rfl⟩) (AI_new (μ := KV μ b κ) (q0 := q0) (ci := 4)) (by simp) rfl (Nat.le_of_ble_eq_true rfl) ⟨Nat.le_of_ble_eq_true rfl, Nat.le_of_ble_eq_true rfl⟩ (fun a0 μ1 I1 => ?_)
  refine x_aload_n (pc := 12) dX4_init_12 rfl ?_
  refine x_iconst (pc := 13) (v := 0) dX4_init_13 rfl ?_
  refine x_ai (pc := 14) dX4_init_14 fk_4_17 (by first | exact Or.inl rfl | exact Or.inr ⟨rfl, rfl, rfl⟩) I1 (Or.inl rfl) (fun μ2 I2 => ?_)
  refine x_aload_n (pc := 17) dX4_init_17 rfl ?_
  refine x_iconst (pc := 18) (v := -1) dX4_init_18 rfl ?_
  refine x_ai (pc := 19) dX4_init_19 fk_4_21 (by first | exact Or.inl rfl | exact Or.inr ⟨rfl, rfl, rfl⟩) I2 (Or.inl rfl) (fun μ3 I3 => ?_)
  refine x_aload_n (pc := 22) dX4_init_22 rfl ?_
  refine x_bipush (pc := 23) (v := 6) dX4_init_23 rfl ?_
  refine x_af (pc := 25) (N := 6) dX4_init_25 dX4_init_27 fk_4_24 (by first | exact Or.inl rfl | exact Or.inr ⟨rfl, rfl, rfl⟩) (Or.inr ⟨_, rfl⟩) I3 (by simp) rfl (Nat.le_of_ble_eq_true rfl) ⟨Nat.le_of_ble_eq_true rfl, Nat.le_of_ble_eq_true rfl⟩ (fun a3 μ4 I4 => ?_)
  refine x_aload_n (pc := 30) dX4_init_30 rfl ?_
  refine x_iconst (pc := 31) (v := 4) dX4_init_31 rfl ?_
  refine x_af (pc := 32) (N := 4) dX4_init_32 dX4_init_34 fk_4_28 (by first | exact Or.inl rfl | exact Or.inr ⟨rfl, rfl, rfl⟩) (Or.inr ⟨_, rfl⟩) I4 (by simp) rfl (Nat.le_of_ble_eq_true rfl) ⟨Nat.le_of_ble_eq_true rfl, Nat.le_of_ble_eq_true rfl⟩ (fun a4 μ5 I5 => ?_)
  refine x_aload_n (pc := 37) dX4_init_37 rfl ?_
  refine x_bipush (pc := 38) (v := 7) dX4_init_38 rfl ?_
  refine x_af (pc := 40) (N := 7) dX4_init_40 dX4_init_42 fk_4_31 (by first | exact Or.inl rfl | exact Or.inr ⟨rfl, rfl, rfl⟩) (Or.inr ⟨_, rfl⟩) I5 (by simp) rfl (Nat.le_of_ble_eq_true rfl) ⟨Nat.le_of_ble_eq_true rfl, Nat.le_of_ble_eq_true rfl⟩ (fun a5 μ6 I6 => ?_)
  refine x_aload_n (pc := 45) dX4_init_45 rfl ?_
  refine x_bipush (pc := 46) (v := 7) dX4_init_46 rfl ?_
  refine x_af (pc := 48) (N := 7) dX4_init_48 dX4_init_50 fk_4_34 (by first | exact Or.inl rfl | exact Or.inr ⟨rfl, rfl, rfl⟩) (Or.inr ⟨_, rfl⟩) I6 (by simp) rfl (Nat.le_of_ble_eq_true rfl) ⟨Nat.le_of_ble_eq_true rfl, Nat.le_of_ble_eq_true rfl⟩ (fun a6 μ7 I7 => ?_)
  refine x_aload_n (pc := 53) dX4_init_53 rfl ?_
  refine x_iconst (pc := 54) (v := 5) dX4_init_54 rfl ?_
  refine x_af (pc := 55) (N := 5) dX4_init_55 dX4_init_57 fk_4_37 (by first | exact Or.inl rfl | exact Or.inr ⟨rfl, rfl, rfl⟩) (Or.inr ⟨_, rfl⟩) I7 (by simp) rfl (Nat.le_of_ble_eq_true rfl) ⟨Nat.le_of_ble_eq_true rfl, Nat.le_of_ble_eq_true rfl⟩ (fun a7 μ8 I8 => ?_)
  refine x_aload_n (pc := 60) dX4_init_60 rfl ?_
  refine x_iconst (pc := 61) (v := 5) dX4_init_61 rfl ?_
  refine x_af (pc := 62) (N := 5) dX4_init_62 dX4_init_64 fk_4_40 (by first | exact Or.inl rfl | exact Or.inr ⟨rfl, rfl, rfl⟩) (Or.inr ⟨_, rfl⟩) I8 (by simp) rfl (Nat.le_of_ble_eq_true rfl) ⟨Nat.le_of_ble_eq_true rfl, Nat.le_of_ble_eq_true rfl⟩ (fun a8 μ9 I9 => ?_)
  refine x_aload_n (pc := 67) dX4_init_67 rfl ?_
  refine x_iconst (pc := 68) (v := 0) dX4_init_68 rfl ?_
  refine x_ai (pc := 69) dX4_init_69 fk_4_43 (by first | exact Or.inl rfl | exact Or.inr ⟨rfl, rfl, rfl⟩) I9 (Or.inl rfl) (fun μ10 I10 => ?_)
  refine x_aload_n (pc := 72) dX4_init_72 rfl ?_
  refine x_iconst (pc := 73) (v := 0) dX4_init_73 rfl ?_
  refine x_ai (pc := 74) dX4_init_74 fk_4_46 (by first | exact Or.inl rfl | exact Or.inr ⟨rfl, rfl, rfl⟩) I10 (Or.inl rfl) (fun μ11 I11 => ?_)
  refine x_aload_n (pc := 77) dX4_init_77 rfl ?_
  refine x_bipush (pc := 78) (v := 6) dX4_init_78 rfl ?_
  refine x_sipush (pc := 80) (v := 320) dX4_init_80 rfl ?_
  refine x_mna (pc := 83) (N := 6) (K := 320) dX4_init_83 kl_4_49 rfl rfl (by decide) (by decide) ⟨Nat.le_of_ble_eq_true rfl, Nat.le_of_ble_eq_true rfl⟩ (fun q r hq hr hri => ?_)
  have hT : mT μ11 q0 = (1, 4) := I11.1
  have h0q : q0 ≠ q := fun z => by rw [← z, hT] at hq; cases hq
  have h0r : ∀ j, j < 6 → r j ≠ q0 := fun j hj z => by
    have := (hr j hj).1
    rw [z, hT] at this
    cases this
  obtain ⟨-, -, -, n4⟩ := nwR_all (μ := μ11) (q := q) (r := r) (N := 6) (K := 320) (fun i hi => (hr i hi).2) hri 6 (Nat.le_refl 6)
  refine x_putR (pc := 87) (q := q0) (a := q) dX4_init_87 fk_4_51 (by first | exact Or.inl rfl | exact Or.inr ⟨rfl, rfl, rfl⟩) ((n4 q0 h0q h0r).1.trans hT) (Or.inr ⟨_, rfl⟩) ?_
  refine x_return (pc := 90) dX4_init_90 rfl ?_
  exact pl_reg hf hq0 I11 hq hr hri
end M99990
