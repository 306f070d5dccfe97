/-! the class: a new PutOut, till its planner stands -/
def RV (κ : KS) : Prop := κ.1 4 2 = 0 ∧ κ.1 4 3 = 0 ∧ κ.1 4 4 = -24 ∧ κ.1 4 5 = 0 ∧ κ.1 4 6 = -1 ∧ κ.1 4 8 = 0 ∧ ∀ i, κ.2 4 7 i = 0
def CV (κ : KS) : Prop := HV0 κ 1 ∧ (∀ t, t < 5 → TV0 κ (15 + t) 0 (nI t) 0 0) ∧ κ.2 3 6 0 = 0 ∧ κ.1 0 3 = 0 ∧ RV κ
def poI (ns : Nat) (M : Mem) (b : Kb) (κ : KS) (q0 : Nat) : Prop := KV M b κ = M ∧ CI M b (fun _ => 0) false ns 0 (fun _ => 0) ∧ adO b 0 = q0 ∧ CV κ ∧ ∀ i, i < ns → κ.1 (5 + i) 0 = -1 ∧ κ.1 (5 + i) 1 = 0 ∧ ∀ j, κ.2 (5 + i) 2 j = 0
def bE : Kb := (fun _ => 0, fun _ _ => 0, fun _ => 99, fun _ => (99, 0))
def κE : KS := (fun _ _ => 0, fun _ _ _ => 0)
section M99994
variable {Γ : Gm} {μ μ2 : Mem} {b : Kb} {κ : KS} {q0 : Nat} {Q : Option Value → Mem → Prop}
theorem RD_reg {g : Nat → Int32} {a0 a7 a9 : Nat} (I : AI (nw (KV μ b κ) q0 1 6) μ2 q0 6 g [(0, a0, 2, 0), (7, a7, 2, 160), (9, a9, 2, 3)]) (hq0 : (mT μ q0).1 = 0) (hf : KF μ b) : ∃ (b2 : Kb) (κ2 : KS), KV μ2 b2 κ2 = μ2 ∧ KF μ2 b2 ∧ EV (fun p => p = 4) μ b κ μ2 b2 κ2 ∧ FO μ b κ μ2 b2 κ2 ∧ adO b2 4 = q0 ∧ KO μ2 b2 4 6 rdL ∧ κ2.1 4 = g ∧ ∀ i, κ2.2 4 7 i = 0 := by
  obtain ⟨b2, κ2, e1, e2, e3, e4, e5, e6, e7, e8, e9⟩ := AI_reg (o := 4) (rw := fun f => if f = 0 then a0 else if f = 7 then a7 else a9) I hq0 hf (by decide) (by simp) (by simp)
  obtain ⟨z1, z2, z3, z4, z5, -⟩ := e9 (7, a7, 2, 160) (by simp)
  have z1 : adR b2 4 7 = a7 := z1
  obtain ⟨y1, y2, y3, y4, y5, -⟩ := e9 (9, a9, 2, 3) (by simp)
  have y1 : adR b2 4 9 = a9 := y1
  refine ⟨b2, κ2, e1, e2, e3, e4, e5, KO_mk e2.1 (by decide) (by rw [e5]; exact e8) (by rw [e5]; exact e6) (fun f hf => ?_), e7, z3⟩
  have h79 : f = 7 ∨ f = 9 := by
    refine Decidable.byContradiction fun hn => hf ?_
    unfold rdL
    rw [if_neg (by omega), if_neg (by omega)]
  rcases h79 with rfl | rfl
  · exact ⟨by rw [e5, z1]; exact z4, by rw [z1]; exact z5, by rw [z1]; exact z2⟩
  · exact ⟨by rw [e5, y1]; exact y4, by rw [y1]; exact y5, by rw [y1]; exact y2⟩
theorem bE_0 : KF μ bE ∧ KV μ bE κE = μ := by
  refine ⟨⟨⟨fun q h => absurd h (show ¬ (99 : Nat) < 25 by decide), fun q h => absurd h (show ¬ (99 : Nat) < 25 by decide)⟩, fun q h => absurd h (show ¬ (99 : Nat) < 25 by decide), fun q h => absurd h (show ¬ (99 : Nat) < 25 by decide)⟩, ?_⟩
  exact (KV_side (κ := κE) (M2 := μ) (μ := μ) (b := bE) ⟨⟨fun q h => absurd h (show ¬ (99 : Nat) < 25 by decide), fun q h => absurd h (show ¬ (99 : Nat) < 25 by decide)⟩, fun q h => absurd h (show ¬ (99 : Nat) < 25 by decide), fun q h => absurd h (show ¬ (99 : Nat) < 25 by decide)⟩ (fun q h => absurd h (show ¬ (99 : Nat) < 25 by decide)) (fun q h => absurd h (show ¬ (99 : Nat) < 25 by decide))).1
theorem k_po_1 (hw : ∀ (M : Mem) (b : Kb) (κ : KS), poI 0 M b κ q0 → WA Γ zX11_init (xrm 92 74 2848) 74 2848 62 2653 Q 78 [some (.ref q0), none] [] M) : XM Γ zX11_init 92 74 2848 [.ref q0] (nw μ q0 1 11) Q := by
  refine XM.of 1 rfl (by decide) (Nat.le_of_ble_eq_true rfl) ?_
  obtain ⟨kf0, hk0⟩ := bE_0 (μ := nw μ q0 1 11)
  have pi0 : PI (nw μ q0 1 11) bE q0 11 1 (fun _ => 0) [] [] := by
    obtain ⟨i1, i2, -⟩ := AI_new (μ := μ) (q0 := q0) (ci := 11)
    refine ⟨⟨i1, i2, ?_, (show 25 ≤ 99 by decide), (show 25 ≤ 99 by decide)⟩, fun x hx => absurd hx List.not_mem_nil, fun x hx => absurd hx List.not_mem_nil, fun x hx => absurd hx List.not_mem_nil⟩
    show va_up (mR μ) q0 (fun _ => none) q0 1 = none
    rw [va_up_s]
  generalize nw μ q0 1 11 = M0 at kf0 hk0 pi0
  refine x_aload_n (pc := 0) dX11_init_0 rfl ?_
  refine x_objInit (pc := 1) dX11_init_1 lw_11_1 wo_inst wo_code ⟨by decide, by decide⟩ (by decide) ?_
  refine x_aload_n (pc := 4) dX11_init_4 rfl ?_
  refine x_new (pc := 5) (ci := 2) dX11_init_5 (by decide) kl_11_7 ki_2 kn_2 ⟨Nat.le_of_ble_eq_true rfl, Nat.le_of_ble_eq_true rfl⟩ (fun q1 hq1 => ?_)
  refine x_dup (pc := 8) dX11_init_8 rfl ?_
  have hs := k_hsInit (Γ := Γ) (κ := κE) (o := 1) (base := 15) kf0 hq1 (by decide) (by decide) (by decide)
  rw [hk0] at hs
  refine x_callI (pc := 9) (As := []) dX11_init_9 mX2_init rfl lk_11_9 hs rfl rfl (Nat.le_of_ble_eq_true rfl) ⟨by decide, by decide⟩ ⟨Nat.le_of_ble_eq_true rfl, Nat.le_of_ble_eq_true rfl⟩ (fun r μx hr => ?_)
  obtain ⟨rfl, μ1, b1, κ1, rfl, kf1, ev1, fo1, ad1, ko1, ro1, mr1, hv1, th1⟩ := hr
  have hs1 : HS (KV μ1 b1 κ1) b1 1 15 (fun _ => 0) := ⟨ko1, ro1, mr1, ro1.2.1, fun t ht => ⟨(th1 t ht).1, (th1 t ht).2.1⟩⟩
  have tv1 : ∀ t, t < 5 → TV0 κ1 (15 + t) 0 (nI t) 0 0 := fun t ht => (th1 t ht).2.2
  have pi1 : PI (KV μ1 b1 κ1) b1 q0 11 1 (fun _ => 0) [] [] := PI_FO fo1 (by rw [hk0]; exact pi0)
  have hk1 : KV (KV μ1 b1 κ1) b1 κ1 = KV μ1 b1 κ1 := KV_idem
  have kf1 : KF (KV μ1 b1 κ1) b1 := kf1
  clear mr1 th1 ko1 ro1 ev1 fo1 hs
  generalize KV μ1 b1 κ1 = M1 at hs1 pi1 hk1 kf1
  obtain ⟨hk2, kf2, ev2, pi2⟩ := S_ref (k := 0) (a := q1) hk1 kf1 pi1 (by decide) (by simp) (by simp)
  have hs2 := HS_EV (ev2 (fun _ => False)) kf2.1 (fun z => z) (fun _ _ z => z) hs1
  refine x_putR (pc := 12) (q := q0) (a := q1) dX11_init_12 fk_11_10 (by first | exact Or.inl rfl | exact Or.inr ⟨rfl, rfl, rfl⟩) pi1.1.1 (Or.inl ⟨_, rfl⟩) ?_
  refine x_aload_n (pc := 15) dX11_init_15 rfl ?_
  refine x_null (pc := 16) dX11_init_16 ?_
  obtain ⟨hk3, kf3, ev3, pi3⟩ := S_null hk2 kf2 pi2 (by simp) (by simp)
  have hs3 := HS_EV (ev3 (fun _ => False)) kf3.1 (fun z => z) (fun _ _ z => z) hs2
  refine x_putN (pc := 17) (q := q0) dX11_init_17 fk_11_16 (by first | exact Or.inl rfl | exact Or.inr ⟨rfl, rfl, rfl⟩) pi2.1.1 (Or.inl ⟨_, rfl⟩) ?_
  clear hs1 pi1 hk1 kf1 hk2 kf2 ev2 pi2 hs2 ev3
  generalize sR (sR M1 q0 0 (some q1)) q0 1 none = M3 at hk3 kf3 pi3 hs3
  refine x_aload_n (pc := 20) dX11_init_20 rfl ?_
  refine x_sipush (pc := 21) (v := 160) dX11_init_21 rfl ?_
  refine x_newI (pc := 24) (N := 160) dX11_init_24 ka_int rfl (by decide) ⟨Nat.le_of_ble_eq_true rfl, Nat.le_of_ble_eq_true rfl⟩ (fun qt hqt => ?_)
  obtain ⟨hk4, kf4, ev4, pi4⟩ := S_row (k := 2) (ty := 2) (N := 160) hk3 kf3 pi3 hqt (by decide) (by decide) (by simp) (by simp)
  have hs4 := HS_EV (ev4 (fun _ => False)) kf4.1 (fun z => z) (fun _ _ z => z) hs3
  have n4 : q0 ≠ qt := fun z => by rw [← z, pi3.1.1] at hqt; cases hqt
  refine x_putR (pc := 26) (q := q0) (a := qt) dX11_init_26 fk_11_19 (by first | exact Or.inl rfl | exact Or.inr ⟨rfl, rfl, rfl⟩) ((nw_Tn n4).trans pi3.1.1) (Or.inr ⟨_, rfl⟩) ?_
  clear hs3 pi3 hk3 kf3 ev4
  generalize sR (nw M3 qt 2 160) q0 2 (some qt) = M4 at hk4 kf4 pi4 hs4
  refine x_aload_n (pc := 29) dX11_init_29 rfl ?_
  refine x_iconst (pc := 30) (v := 0) dX11_init_30 rfl ?_
  obtain ⟨hk5, kf5, ev5, pi5⟩ := S_int (k := 3) (v := 0) hk4 kf4 pi4
  have hs5 := HS_EV (ev5 (fun _ => False)) kf5.1 (fun z => z) (fun _ _ z => z) hs4
  refine x_putI (pc := 31) (q := q0) dX11_init_31 fk_11_23 (by first | exact Or.inl rfl | exact Or.inr ⟨rfl, rfl, rfl⟩) pi4.1.1 (Or.inl rfl) ?_
  clear hs4 pi4 hk4 kf4 ev5
  generalize sI M4 q0 3 0 = M5 at hk5 kf5 pi5 hs5
  refine x_aload_n (pc := 34) dX11_init_34 rfl ?_
  refine x_new (pc := 35) (ci := 6) dX11_init_35 (by decide) kl_11_27 ki_6 kn_6 ⟨Nat.le_of_ble_eq_true rfl, Nat.le_of_ble_eq_true rfl⟩ (fun q4 hq4 => ?_)
  refine x_dup (pc := 38) dX11_init_38 rfl ?_
  refine x_callIN (pc := 39) (As := []) dX11_init_39 mX6_init rfl lk_11_29 (k_rdInit (μ0 := nw M5 q4 1 6) AI_new) rfl rfl (Nat.le_of_ble_eq_true rfl) ⟨by decide, by decide⟩ ⟨Nat.le_of_ble_eq_true rfl, Nat.le_of_ble_eq_true rfl⟩ (fun r μ6 hr => ?_)
  obtain ⟨rfl, a0, a7, a9, I6⟩ := hr
  rw [← hk5] at I6
  obtain ⟨b6, κ6, hk6, kf6, ev6, fo6, ad6, kr6, gr6, cr6⟩ := RD_reg I6 hq4 kf5
  have pi6 : PI μ6 b6 q0 11 1 (va_up (fun _ => 0) 3 0) [(0, q1)] [(2, qt, 2, 160)] := by
    have h := PI_FO fo6 (by rw [hk5]; exact pi5)
    rw [hk6] at h
    exact h
  have hs6 := HS_EV ev6 kf6.1 (by decide) (fun t _ z => by have z : 15 + t = 4 := z; omega) hs5
  have ad1 : adO b6 1 = q1 := ((ev6.1 1 (by decide) (by decide)).1).trans ad1
  have hv1 : HV0 κ6 1 := by
    unfold HV0
    rw [(ev6.1 1 (by decide) (by decide)).2.2.1, (ev6.1 1 (by decide) (by decide)).2.2.2]
    exact hv1
  have tv1 : ∀ t, t < 5 → TV0 κ6 (15 + t) 0 (nI t) 0 0 := fun t ht => by
    unfold TV0
    rw [(ev6.1 (15 + t) (by omega) (fun z => by have z : 15 + t = 4 := z; omega)).2.2.1]
    exact tv1 t ht
  have rv6 : RV κ6 := by
    unfold RV
    rw [gr6]
    exact ⟨rfl, rfl, rfl, rfl, rfl, rfl, cr6⟩
  clear hs5 pi5 hk5 kf5 ev6 fo6 I6
  refine x_putR (pc := 42) (q := q0) (a := q4) dX11_init_42 fk_11_30 (by first | exact Or.inl rfl | exact Or.inr ⟨rfl, rfl, rfl⟩) pi6.1.1 (Or.inl ⟨_, rfl⟩) ?_
  obtain ⟨hk7, kf7, ev7, pi7⟩ := S_ref (k := 4) (a := q4) hk6 kf6 pi6 (by decide) (by simp) (by simp)
  have hs7 := HS_EV (ev7 (fun _ => False)) kf7.1 (fun z => z) (fun _ _ z => z) hs6
  have kr7 := KO_EV (ev7 (fun _ => False)) kf7.1 (fun z => z) kr6
  clear hs6 pi6 hk6 kf6 ev7 kr6
  generalize sR μ6 q0 4 (some q4) = M7 at hk7 kf7 pi7 hs7 kr7
  refine x_aload_n (pc := 45) dX11_init_45 rfl ?_
  refine x_bipush (pc := 46) (v := 6) dX11_init_46 rfl ?_
  refine x_newX (pc := 48) (N := 6) (k := 1) (by decide) dX11_init_48 kl_11_34 rfl (by decide) ⟨Nat.le_of_ble_eq_true rfl, Nat.le_of_ble_eq_true rfl⟩ (fun qx hqx => ?_)
  obtain ⟨hk8, kf8, ev8, pi8⟩ := S_row (k := 5) (ty := 1 + 4) (N := 6) hk7 kf7 pi7 hqx (by decide) (by decide) (by simp) (by simp)
  have hs8 := HS_EV (ev8 (fun _ => False)) kf8.1 (fun z => z) (fun _ _ z => z) hs7
  have kr8 := KO_EV (ev8 (fun _ => False)) kf8.1 (fun z => z) kr7
  have n8 : q0 ≠ qx := fun z => by rw [← z, pi7.1.1] at hqx; cases hqx
  refine x_putR (pc := 51) (q := q0) (a := qx) dX11_init_51 fk_11_36 (by first | exact Or.inl rfl | exact Or.inr ⟨rfl, rfl, rfl⟩) ((nw_Tn n8).trans pi7.1.1) (Or.inr ⟨_, rfl⟩) ?_
  clear hs7 pi7 hk7 kf7 ev8 kr7
  generalize sR (nw M7 qx (1 + 4) 6) q0 5 (some qx) = M8 at hk8 kf8 pi8 hs8 kr8
  refine x_aload_n (pc := 54) dX11_init_54 rfl ?_
  refine x_iconst (pc := 55) (v := 0) dX11_init_55 rfl ?_
  obtain ⟨hk9, kf9, ev9, pi9⟩ := S_int (k := 6) (v := 0) hk8 kf8 pi8
  have hs9 := HS_EV (ev9 (fun _ => False)) kf9.1 (fun z => z) (fun _ _ z => z) hs8
  have kr9 := KO_EV (ev9 (fun _ => False)) kf9.1 (fun z => z) kr8
  refine x_putI (pc := 56) (q := q0) dX11_init_56 fk_11_40 (by first | exact Or.inl rfl | exact Or.inr ⟨rfl, rfl, rfl⟩) pi8.1.1 (Or.inl rfl) ?_
  clear hs8 pi8 hk8 kf8 ev9 kr8
  generalize sI M8 q0 6 0 = M9 at hk9 kf9 pi9 hs9 kr9
  refine x_aload_n (pc := 59) dX11_init_59 rfl ?_
  refine x_iconst (pc := 60) (v := 4) dX11_init_60 rfl ?_
  refine x_newX (pc := 61) (N := 4) (k := 2) (by decide) dX11_init_61 kl_11_43 rfl (by decide) ⟨Nat.le_of_ble_eq_true rfl, Nat.le_of_ble_eq_true rfl⟩ (fun qs hqs => ?_)
  obtain ⟨hk10, kf10, ev10, pi10⟩ := S_row (k := 7) (ty := 2 + 4) (N := 4) hk9 kf9 pi9 hqs (by decide) (by decide) (by simp) (by simp)
  have hs10 := HS_EV (ev10 (fun _ => False)) kf10.1 (fun z => z) (fun _ _ z => z) hs9
  have kr10 := KO_EV (ev10 (fun _ => False)) kf10.1 (fun z => z) kr9
  have n10 : q0 ≠ qs := fun z => by rw [← z, pi9.1.1] at hqs; cases hqs
  refine x_putR (pc := 64) (q := q0) (a := qs) dX11_init_64 fk_11_45 (by first | exact Or.inl rfl | exact Or.inr ⟨rfl, rfl, rfl⟩) ((nw_Tn n10).trans pi9.1.1) (Or.inr ⟨_, rfl⟩) ?_
  clear hs9 pi9 hk9 kf9 ev10 kr9
  generalize sR (nw M9 qs (2 + 4) 4) q0 7 (some qs) = M10 at hk10 kf10 pi10 hs10 kr10
  refine x_aload_n (pc := 67) dX11_init_67 rfl ?_
  refine x_new (pc := 68) (ci := 4) dX11_init_68 (by decide) kl_11_49 ki_4 kn_4 ⟨Nat.le_of_ble_eq_true rfl, Nat.le_of_ble_eq_true rfl⟩ (fun q3 hq3 => ?_)
  refine x_dup (pc := 71) dX11_init_71 rfl ?_
  have hp := k_plInit (Γ := Γ) (κ := κ6) kf10 hq3
  rw [hk10] at hp
  refine x_callIN (pc := 72) (As := []) dX11_init_72 mX4_init rfl lk_11_51 hp rfl rfl (Nat.le_of_ble_eq_true rfl) ⟨by decide, by decide⟩ ⟨Nat.le_of_ble_eq_true rfl, Nat.le_of_ble_eq_true rfl⟩ (fun r μx hr => ?_)
  obtain ⟨rfl, μ11, b11, κ11, rfl, kf11, ev11, fo11, ad11, kp11, kl11, v11⟩ := hr
  have kf11 : KF (KV μ11 b11 κ11) b11 := kf11
  have kp11 : KO (KV μ11 b11 κ11) b11 3 4 plL := kp11
  have kl11 : KLo (KV μ11 b11 κ11) b11 := kl11
  have ev11 := EV_idem ev11
  have hk11 : KV (KV μ11 b11 κ11) b11 κ11 = KV μ11 b11 κ11 := KV_idem
  have pi11 : PI (KV μ11 b11 κ11) b11 q0 11 1 _ _ _ := PI_FO fo11 (by rw [hk10]; exact pi10)
  have hs11 := HS_EV ev11 kf11.1 (by decide) (fun t _ z => by have z : 15 + t = 3 := z; omega) hs10
  have kr11 := KO_EV ev11 kf11.1 (by decide) kr10
  have ad1 : adO b11 1 = q1 := ((ev11.1 1 (by decide) (by decide)).1).trans ad1
  have ad4 : adO b11 4 = q4 := ((ev11.1 4 (by decide) (by decide)).1).trans ad6
  have hv1 : HV0 κ11 1 := by
    unfold HV0
    rw [(ev11.1 1 (by decide) (by decide)).2.2.1, (ev11.1 1 (by decide) (by decide)).2.2.2]
    exact hv1
  have tv1 : ∀ t, t < 5 → TV0 κ11 (15 + t) 0 (nI t) 0 0 := fun t ht => by
    unfold TV0
    rw [(ev11.1 (15 + t) (by omega) (fun z => by have z : 15 + t = 3 := z; omega)).2.2.1]
    exact tv1 t ht
  have rv11 : RV κ11 := by
    unfold RV
    rw [(ev11.1 4 (by decide) (by decide)).2.2.1, (ev11.1 4 (by decide) (by decide)).2.2.2]
    exact rv6
  clear hs10 pi10 hk10 kf10 ev11 fo11 kr10 hp
  generalize KV μ11 b11 κ11 = M11 at hk11 kf11 pi11 hs11 kr11 kp11 kl11
  refine x_putR (pc := 75) (q := q0) (a := q3) dX11_init_75 fk_11_52 (by first | exact Or.inl rfl | exact Or.inr ⟨rfl, rfl, rfl⟩) pi11.1.1 (Or.inl ⟨_, rfl⟩) ?_
  obtain ⟨hk12, kf12, ev12, pi12⟩ := S_ref (k := 8) (a := q3) hk11 kf11 pi11 (by decide) (by simp) (by simp)
  have hs12 := HS_EV (ev12 (fun _ => False)) kf12.1 (fun z => z) (fun _ _ z => z) hs11
  have kr12 := KO_EV (ev12 (fun _ => False)) kf12.1 (fun z => z) kr11
  have kl12 := KLo_EV (ev12 (fun _ => False)) kf12.1 (fun z => z) kp11 kl11
  have kp12 := KO_EV (ev12 (fun _ => False)) kf12.1 (fun z => z) kp11
  clear hs11 pi11 hk11 kf11 ev12 kr11 kl11 kp11
  generalize sR M11 q0 8 (some q3) = M12 at hk12 kf12 pi12 hs12 kr12 kl12 kp12 ⊢
  obtain ⟨b13, κ13, hk13, kf13, ev13, ad13, iv13, g13, rw13⟩ := PI_reg (o := 0) (rw := fun f => if f = 2 then qt else if f = 5 then qx else qs) pi12 hk12 kf12 (by decide) (by simp) (by simp)
  refine hw M12 b13 κ13 ⟨hk13, ?_, ad13, ?_, fun i hi => absurd hi (Nat.not_lt_zero i)⟩
  · obtain ⟨t1, t2, -, t4, t5, -⟩ := rw13 (2, qt, 2, 160) (by simp)
    obtain ⟨x1, x2, -, x4, x5, -⟩ := rw13 (5, qx, 1 + 4, 6) (by simp)
    obtain ⟨s1, s2, -, s4, s5, -⟩ := rw13 (7, qs, 2 + 4, 4) (by simp)
    have t1 : adR b13 0 2 = qt := t1
    have x1 : adR b13 0 5 = qx := x1
    have s1 : adR b13 0 7 = qs := s1
    have r0 : mR M12 q0 0 = some q1 := pi12.2.1 (0, q1) (by simp)
    have r4 : mR M12 q0 4 = some q4 := pi12.2.1 (4, q4) (by simp)
    have r8 : mR M12 q0 8 = some q3 := pi12.2.1 (8, q3) (by simp)
    have a1 := (ev13.1 1 (by decide) (by decide)).1
    have a4 := (ev13.1 4 (by decide) (by decide)).1
    have a3 := (ev13.1 3 (by decide) (by decide)).1
    refine ⟨kf13, ⟨KO_mk kf13.1 (by decide) (by rw [ad13]; exact pi12.1.1) (by rw [ad13]; exact iv13) (fun f hf => ?_), ?_, ?_, ?_, ?_, ?_, ?_⟩, ⟨⟨by decide, by rw [x1]; exact x5, by rw [x1]; exact x2⟩, ⟨by decide, by rw [s1]; exact s5, by rw [s1]; exact s2⟩⟩, HS_EV ev13 kf13.1 (by decide) (fun t _ z => by have z : 15 + t = 0 := z; omega) hs12, fun z => (by cases z), ⟨KO_EV ev13 kf13.1 (by decide) kp12, KLo_EV ev13 kf13.1 (by decide) kp12 kl12⟩, KO_EV ev13 kf13.1 (by decide) kr12, fun i hi => absurd hi (Nat.not_lt_zero i), fun i hi => absurd hi (Nat.not_lt_zero i)⟩
    · have h2 : f = 2 := by
        refine Decidable.byContradiction fun hn => hf ?_
        unfold pL
        rw [if_neg hn]
      subst h2
      exact ⟨by rw [ad13, t1]; exact t4, by rw [t1]; exact t5, by rw [t1]; exact t2⟩
    · rw [ad13, r0, a1, ad1]
    · rw [ad13, r4, a4, ad4]
    · rw [ad13, r8, a3, ad11]
    · rw [ad13, x1]
      exact x4
    · rw [ad13, s1]
      exact s4
    · rw [ad13]
      exact pi12.1.2.2.1
  · refine ⟨?_, fun t ht => ?_, ?_, ?_, ?_⟩
    · unfold HV0
      rw [(ev13.1 1 (by decide) (by decide)).2.2.1, (ev13.1 1 (by decide) (by decide)).2.2.2]
      exact hv1
    · unfold TV0
      rw [(ev13.1 (15 + t) (by omega) (fun z => by have z : 15 + t = 0 := z; omega)).2.2.1]
      exact tv1 t ht
    · rw [(ev13.1 3 (by decide) (by decide)).2.2.2]
      exact v11
    · rw [g13]
      rfl
    · unfold RV
      rw [(ev13.1 4 (by decide) (by decide)).2.2.1, (ev13.1 4 (by decide) (by decide)).2.2.2]
      exact rv11
end M99994
