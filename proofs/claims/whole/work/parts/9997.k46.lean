/-! the class: a new house -/
section M9997
variable {Γ : Gm} {μ : Mem} {b : Kb} {κ : KS} {o q0 base : Nat}
def hsQ (μ : Mem) (b : Kb) (κ : KS) (o base q0 : Nat) : Option Value → Mem → Prop := fun r M => r = none ∧ ∃ (μ2 : Mem) (b2 : Kb) (κ2 : KS), M = KV μ2 b2 κ2 ∧ HI μ b κ o base q0 5 μ2 b2 κ2
theorem k_hs_l (ho : o < 25) (hb : base + 5 ≤ 25) (hob : o < base ∨ base + 5 ≤ o) : ∀ (m j : Nat) (μ' : Mem) (b' : Kb) (κ' : KS), j + m = 5 → HI μ b κ o base q0 j μ' b' κ' → WA Γ zX2_init (xrm 2 39 332) 39 332 (4 + 7 * j) (22 + 62 * j) (hsQ μ b κ o base q0) 76 [some (.ref q0), some (.int (nI j))] [] (KV μ' b' κ') := by
  intro m
  induction m with
  | zero =>
    intro j μ' b' κ' hj h
    obtain rfl : j = 5 := by omega
    refine x_iload_n (pc := 76) dX2_init_76 rfl ?_
    refine x_iconst (pc := 77) (v := 5) dX2_init_77 rfl ?_
    refine x_icmp_ge (pc := 78) (tgt := 104) dX2_init_78 rfl (fun h_78 => ?_) (fun h_78 => absurd (by decide) h_78)
    refine x_return (pc := 104) dX2_init_104 rfl ?_
    exact ⟨rfl, μ', b', κ', rfl, h⟩
  | succ m ih =>
    intro j μ' b' κ' hj h
    have hj5 : j < 5 := by omega
    have h' := h
    obtain ⟨h1, h2, h3, h4, h5, h6, h7, h8, h9⟩ := h'
    refine x_iload_n (pc := 76) dX2_init_76 rfl ?_
    refine x_iconst (pc := 77) (v := 5) dX2_init_77 rfl ?_
    refine x_icmp_ge (pc := 78) (tgt := 104) dX2_init_78 rfl (fun h_78 => absurd h_78 (lit_le (n := 5) j (by omega) (by decide))) (fun h_78 => ?_)
    refine x_aload_n (pc := 81) dX2_init_81 rfl ?_
    rw [← h4]
    refine k_getR (pc := 82) h5 dX2_init_82 fk_2_23 (Or.inr ⟨_, rfl⟩) h7 ?_
    refine x_iload_n (pc := 85) dX2_init_85 rfl ?_
    refine x_new (pc := 86) (ci := 9) dX2_init_86 (by decide) kl_2_21 ki_9 kn_9 ⟨by show 4 + 7 * j + 1 ≤ 39; omega, by show 22 + 62 * j + 13 ≤ 332; omega⟩ (fun q hq => ?_)
    refine x_dup (pc := 89) dX2_init_89 rfl ?_
    refine x_iconst (pc := 90) (v := 0) dX2_init_90 rfl ?_
    refine x_iload_n (pc := 91) dX2_init_91 rfl ?_
    refine x_iconst (pc := 92) (v := 0) dX2_init_92 rfl ?_
    refine x_iconst (pc := 93) (v := 0) dX2_init_93 rfl ?_
    refine x_callI (pc := 94) (As := [.int _, .int _, .int _, .int _]) dX2_init_94 mX9_init rfl lk_2_40 (k_thInit (μ0 := nw (KV μ' b' κ') q 1 9) (kci_th 0) AI_new) rfl rfl (Nat.le_of_ble_eq_true rfl) ⟨Nat.le_of_ble_eq_true rfl, Nat.le_of_ble_eq_true rfl⟩ ⟨by show 4 + 7 * j + 1 + 6 ≤ 39; omega, by show 22 + 62 * j + 13 + 49 ≤ 332; omega⟩ (fun r μ2 hr => ?_)
    obtain ⟨rfl, hX⟩ := hr
    obtain ⟨b2, κ2, g1, g2, g3, g4⟩ := HI_step (q := q) (μ2 := μ2) h hj5 ho hb hob hq hX
    refine x_aast (pc := 97) (k := 0) (n := 5) (ci := 9) (i := j) dX2_init_97 (by decide) g3 g4 (by decide) (Or.inl rfl) rfl hj5 (by decide) ?_
    rw [g1]
    refine x_iinc (pc := 98) (lv2 := [_, _]) dX2_init_98 (by decide) rfl rfl (nI_1 _) rfl ?_
    refine x_goto (pc := 101) (tgt := 76) dX2_init_101 rfl ?_
    have hh := ih (j + 1) _ b2 κ2 (by omega) g2
    rw [show 4 + 7 * (j + 1) = 4 + 7 * j + 1 + 6 by omega, show 22 + 62 * (j + 1) = 22 + 62 * j + 13 + 49 by omega] at hh
    rw [h4]
    exact hh
theorem k_hs_s (ho : o < 25) (hb : base + 5 ≤ 25) (hob : o < base ∨ base + 5 ≤ o) {μ' : Mem} {b' : Kb} {κ1 : KS} (hK : KO μ' b' o 2 hsL) (hq : adO b' o = q0) (hg : ∀ κ', κ' = kS κ1 o 1 (pre nI (κ1.2 o 1) 4) → HI μ b κ o base q0 0 μ' b' κ') : ∀ (m j : Nat), j + m = 4 → WA Γ zX2_init (xrm 2 39 332) 39 332 4 22 (hsQ μ b κ o base q0) 56 [some (.ref q0), some (.int (nI j))] [] (KV μ' b' (kS κ1 o 1 (pre nI (κ1.2 o 1) j))) := by
  intro m
  induction m with
  | zero =>
    intro j hj
    obtain rfl : j = 4 := by omega
    refine x_iload_n (pc := 56) dX2_init_56 rfl ?_
    refine x_iconst (pc := 57) (v := 4) dX2_init_57 rfl ?_
    refine x_icmp_ge (pc := 58) (tgt := 74) dX2_init_58 rfl (fun h_58 => ?_) (fun h_58 => absurd (by decide) h_58)
    refine x_iconst (pc := 74) (v := 0) dX2_init_74 rfl ?_
    refine x_istore_n (pc := 75) (lv2 := [_, _]) dX2_init_75 (by decide) rfl rfl ?_
    exact k_hs_l ho hb hob 5 0 μ' b' _ rfl (hg _ rfl)
  | succ m ih =>
    intro j hj
    refine x_iload_n (pc := 56) dX2_init_56 rfl ?_
    refine x_iconst (pc := 57) (v := 4) dX2_init_57 rfl ?_
    refine x_icmp_ge (pc := 58) (tgt := 74) dX2_init_58 rfl (fun h_58 => absurd h_58 (lit_le (n := 4) j (by omega) (by decide))) (fun h_58 => ?_)
    refine x_aload_n (pc := 61) dX2_init_61 rfl ?_
    rw [← hq]
    refine k_getA (pc := 62) hK dX2_init_62 fk_2_15 (Or.inr ⟨_, rfl⟩) (by decide) ?_
    refine x_iload_n (pc := 65) dX2_init_65 rfl ?_
    refine x_iload_n (pc := 66) dX2_init_66 rfl ?_
    refine k_iast (pc := 67) hK dX2_init_67 rfl (by show j < 4; omega) (by decide) ?_
    rw [kS_A, pre_s (E := nI)]
    refine x_iinc (pc := 68) (lv2 := [_, _]) dX2_init_68 (by decide) rfl rfl (nI_1 _) rfl ?_
    refine x_goto (pc := 71) (tgt := 56) dX2_init_71 rfl ?_
    rw [hq]
    exact ih (j + 1) (by omega)
theorem k_hsInit (hf : KF μ b) (hq0 : (mT μ q0).1 = 0) (ho : o < 25) (hb : base + 5 ≤ 25) (hob : o < base ∨ base + 5 ≤ o) : XM Γ zX2_init 2 39 332 [.ref q0] (nw (KV μ b κ) q0 1 2) (hsQ μ b κ o base q0) := by
  refine XM.of 1 rfl (by decide) (Nat.le_of_ble_eq_true rfl) ?_
  refine x_aload_n (pc := 0) dX2_init_0 rfl ?_
  refine x_objInit (pc := 1) dX2_init_1 lw_2_3 wo_inst wo_code ⟨by decide, by decide⟩ (by decide) ?_
  refine x_aload_n (pc := 4) dX2_init_4 rfl ?_
  refine x_bipush (pc := 5) (v := 6) dX2_init_5 rfl ?_
  refine x_af (pc := 7) (N := 6) dX2_init_7 dX2_init_9 fk_2_9 (by first | exact Or.inl rfl | exact Or.inr ⟨rfl, rfl, rfl⟩) (Or.inr ⟨_, rfl⟩) (AI_new (μ := KV μ b κ) (q0 := q0) (ci := 2)) (by simp) rfl (Nat.le_of_ble_eq_true rfl) ⟨Nat.le_of_ble_eq_true rfl, Nat.le_of_ble_eq_true rfl⟩ (fun a0 μ1 I1 => ?_)
  refine x_aload_n (pc := 12) dX2_init_12 rfl ?_
  refine x_iconst (pc := 13) (v := 4) dX2_init_13 rfl ?_
  refine x_af (pc := 14) (N := 4) dX2_init_14 dX2_init_16 fk_2_15 (by first | exact Or.inl rfl | exact Or.inr ⟨rfl, rfl, rfl⟩) (Or.inr ⟨_, rfl⟩) I1 (by simp) rfl (Nat.le_of_ble_eq_true rfl) ⟨Nat.le_of_ble_eq_true rfl, Nat.le_of_ble_eq_true rfl⟩ (fun a1 μ2 I2 => ?_)
  refine x_aload_n (pc := 19) dX2_init_19 rfl ?_
  refine x_bipush (pc := 20) (v := 7) dX2_init_20 rfl ?_
  refine x_af (pc := 22) (N := 7) dX2_init_22 dX2_init_24 fk_2_18 (by first | exact Or.inl rfl | exact Or.inr ⟨rfl, rfl, rfl⟩) (Or.inr ⟨_, rfl⟩) I2 (by simp) rfl (Nat.le_of_ble_eq_true rfl) ⟨Nat.le_of_ble_eq_true rfl, Nat.le_of_ble_eq_true rfl⟩ (fun a2 μ3 I3 => ?_)
  refine x_aload_n (pc := 27) dX2_init_27 rfl ?_
  refine x_iconst (pc := 28) (v := 5) dX2_init_28 rfl ?_
  refine x_afX (pc := 29) (N := 5) (kx := 0) (by decide) dX2_init_29 kl_2_21 dX2_init_32 fk_2_23 (by first | exact Or.inl rfl | exact Or.inr ⟨rfl, rfl, rfl⟩) (Or.inr ⟨_, rfl⟩) I3 (by simp) rfl (Nat.le_of_ble_eq_true rfl) ⟨Nat.le_of_ble_eq_true rfl, Nat.le_of_ble_eq_true rfl⟩ (fun a3 μ4 I4 => ?_)
  refine x_aload_n (pc := 35) dX2_init_35 rfl ?_
  refine x_iconst (pc := 36) (v := 0) dX2_init_36 rfl ?_
  refine x_ai (pc := 37) dX2_init_37 fk_2_27 (by first | exact Or.inl rfl | exact Or.inr ⟨rfl, rfl, rfl⟩) I4 (Or.inl rfl) (fun μ5 I5 => ?_)
  refine x_aload_n (pc := 40) dX2_init_40 rfl ?_
  refine x_iconst (pc := 41) (v := 0) dX2_init_41 rfl ?_
  refine x_ai (pc := 42) dX2_init_42 fk_2_31 (by first | exact Or.inl rfl | exact Or.inr ⟨rfl, rfl, rfl⟩) I5 (Or.inl rfl) (fun μ6 I6 => ?_)
  obtain ⟨b2, κ2, e1, e2, e3, e4, e5, e6, e7, e8, e9⟩ := AI_reg (o := o) (rw := fun f => if f = 0 then a0 else if f = 1 then a1 else if f = 2 then a2 else a3) I6 hq0 hf ho (by simp) (by simp)
  obtain ⟨z1, z2, z3, z4, z5, -⟩ := e9 (0, a0, 2, 6) (by simp)
  obtain ⟨y1, y2, y3, y4, y5, -⟩ := e9 (1, a1, 2, 4) (by simp)
  obtain ⟨w1, w2, w3, w4, w5, -⟩ := e9 (2, a2, 2, 7) (by simp)
  obtain ⟨v1, v2, v3, v4, v5, -⟩ := e9 (3, a3, 4, 5) (by simp)
  have z1 : adR b2 o 0 = a0 := z1
  have y1 : adR b2 o 1 = a1 := y1
  have w1 : adR b2 o 2 = a2 := w1
  have v1 : adR b2 o 3 = a3 := v1
  have hK : KO μ6 b2 o 2 hsL := KO_mk e2.1 ho (by rw [e5]; exact e8) (by rw [e5]; exact e6) (fun f hf => by
    rcases hsL_in hf with rfl | rfl | rfl
    · exact ⟨by rw [e5, z1]; exact z4, by rw [z1]; exact z5, by rw [z1]; exact z2⟩
    · exact ⟨by rw [e5, y1]; exact y4, by rw [y1]; exact y5, by rw [y1]; exact y2⟩
    · exact ⟨by rw [e5, w1]; exact w4, by rw [w1]; exact w5, by rw [w1]; exact w2⟩)
  rw [← e1]
  refine x_aload_n (pc := 45) dX2_init_45 rfl ?_
  rw [← e5]
  refine k_getA (pc := 46) hK dX2_init_46 fk_2_9 (Or.inr ⟨_, rfl⟩) (by decide) ?_
  refine x_bipush (pc := 49) (v := 15) dX2_init_49 rfl ?_
  refine x_callS (pc := 51) (As := [.ref _, .int _]) dX2_init_51 mJ7_fill_53178 lk_2_34 (k_fill hK 0 15 (by decide) (by decide)) rfl rfl (Nat.le_of_ble_eq_true rfl) ⟨by decide, by decide⟩ ⟨by decide, by decide⟩ (k_rv ?_)
  refine x_iconst (pc := 54) (v := 0) dX2_init_54 rfl ?_
  refine x_istore_n (pc := 55) (lv2 := [_, _]) dX2_init_55 (by decide) rfl rfl ?_
  have hh := k_hs_s (Γ := Γ) (μ := μ) (b := b) (κ := κ) (o := o) (q0 := q0) (base := base) (κ1 := kS κ2 o 0 (pre (fun _ => 15) (κ2.2 o 0) 6)) ho hb hob hK e5 (fun κ' hκ => by
    have hq : kq (fun a _ => a = o) κ2 κ' := by
      rw [hκ]
      have h1 : kq (fun a _ => a = o) κ2 (kS κ2 o 0 (pre (fun _ => 15) (κ2.2 o 0) 6)) := kq.S kq.rf rfl
      exact kq.S h1 rfl
    obtain ⟨q1, q2⟩ := EV_kq (P := fun p => p = o) (b := b2) (μ := μ6) e2 hq (fun a _ (h : a = o) => ⟨h, by rw [h]; exact ho⟩)
    refine ⟨e2, (e3.trans q1).mono (fun p (hp : p = o) => Or.inl hp), e4.trans q2, e5, hK, ⟨ho, by rw [v1]; exact v5, by rw [v1]; exact v2⟩, by rw [e5, v1]; exact v4, ?_, fun t ht => absurd ht (Nat.not_lt_zero t)⟩
    rw [hκ]
    refine ⟨?_, ?_, fun i hi => ?_, fun i hi => ?_, fun i hi => ?_⟩
    · show κ2.1 o 4 = 0
      rw [e7]
      rfl
    · show κ2.1 o 5 = 0
      rw [e7]
      rfl
    · rw [kS_n (Or.inr (by decide)), kS_s, pre_lt hi]
    · rw [kS_s, pre_lt hi]
    · rw [kS_n (Or.inr (by decide)), kS_n (Or.inr (by decide))]
      exact w3 i) 4 0 rfl
  rw [pre_0, kS_0 rfl] at hh
  rw [e5]
  exact hh
end M9997
