/-! the class: tidy, film -/
def PX (μ : Mem) (b : Kb) (κ : KS) (v : Value) (C : KS → Prop) : Option Value → Mem → Prop := fun x M => ∃ (μ2 : Mem) (κ2 : KS), x = some v ∧ M = KV μ2 b κ2 ∧ (μ2 = μ ∨ μ2 = thR3 μ b) ∧ κ2.2 3 6 0 = 0 ∧ C κ2
def tdP : Nat → Nat → Prop := fun a k => 15 ≤ a ∧ a < 20 ∧ k = 5
def tdC (κ : KS) (D : PD) (n : Nat) (x : Int32) (κ2 : KS) : Prop := kq (fun a k => scP a k ∨ tdP a k) κ κ2 ∧ ∀ t, t < 5 → κ2.1 (15 + t) 5 = if (0 ≤ x ∧ x < 16) ∧ t < n then nI (brR (beD D n (nn x) 5) t) - 1 else κ.1 (15 + t) 5
def tdV (D : PD) (n : Nat) (x : Int32) : Int32 := if 0 ≤ x ∧ x < 16 then nI (brC (beD D n (nn x) 5)) else -2
def fmC (κ : KS) (D : PD) (n : Nat) (x y : Int32) (κ2 : KS) : Prop := if (0 ≤ x ∧ x < 4) ∧ (0 ≤ y ∧ y < 16) then kq (fun a k => scP a k ∨ (a = 5 + nn x ∧ k < 3)) κ κ2 ∧ κ2.1 (5 + nn x) 0 = 0 ∧ κ2.1 (5 + nn x) 1 = nI n ∧ ∀ j, j < n → κ2.2 (5 + nn x) 2 j = nI (brR (beD D n (nn y) 5) j) - 1 else kq scP κ κ2
def fmV (n : Nat) (x y : Int32) : Int32 := if (0 ≤ x ∧ x < 4) ∧ (0 ≤ y ∧ y < 16) then nI n else -2
section M999997
variable {Γ : Gm} {μ : Mem} {b : Kb} {κ κ2 κ3 : KS} {D : PD} {kp : Bool} {n r nt : Nat} {tn : Nat → Nat}
theorem k_tidy (hO : roomOk D n) (x : Int32) (hC : CX μ b κ D kp n r nt tn) : XM Γ zX11_tidy 8 0 0 [.ref (adO b 0), .int x] (KV μ b κ) (PX μ b κ (.int (tdV D n x)) (tdC κ D n x)) := by
  refine XM.of 2 rfl (by decide) (Nat.le_of_ble_eq_true rfl) ?_
  have hI := hC.1
  obtain ⟨-, ⟨c1, c2, c3, c4, c5, c6, c7⟩, ⟨c8, c9⟩, hh, -, ⟨p1, p2⟩, -, hsh, -⟩ := hI
  have hn5 : n ≤ 5 := hC.2.1.1.1
  have h14 : κ.1 1 4 = nI n := hC.2.1.2.1
  have h60 := hC.2.2.2.2.2.2
  have hr6 : r < 6 := by have := hC.2.2.2.1; omega
  refine x_iload_n (pc := 0) dX11_tidy_0 rfl ?_
  refine x_bipush (pc := 1) (v := 16) dX11_tidy_1 rfl ?_
  refine x_callS (pc := 3) (As := [.int _, .int _]) dX11_tidy_3 mX11_isBelow lk_11_104 (k_isBelow _ _) rfl rfl (Nat.le_of_ble_eq_true rfl) ⟨by decide, by decide⟩ ⟨Nat.zero_le _, Nat.zero_le _⟩ (k_rt ?_)
  refine x_if_ne (pc := 6) (tgt := 12) dX11_tidy_6 rfl (fun h_6 => ?_) (fun h_6 => ?_)
  · have hx := bi_n0 h_6
    obtain ⟨G, hG, rfl⟩ := ixD (n := 16) hx (by decide)
    refine x_start (pc := 12) hC rfl dX11_tidy_12 dX11_tidy_13 dX11_tidy_16 dX11_tidy_17 dX11_tidy_20 dX11_tidy_21 dX11_tidy_24 rfl ⟨by decide, by decide⟩ ⟨by decide, by decide⟩ (fun κ2 hS hP hI3 => ?_)
    obtain ⟨-, ⟨e1, e2, e3, e4, e5, e6, e7⟩, ⟨e8, e9⟩, e10, -, -, -, e11, -⟩ := hI3
    obtain ⟨s1, s2, s3, s4, s5, s6, s7⟩ := id hS
    have p3 := hP.1
    have q1 := e10.1
    have hcnt : κ2.1 1 4 = nI n := ((s1 1 4 (by unfold stP tP; omega)).1).trans h14
    refine x_aload_n (pc := 27) dX11_tidy_27 rfl ?_
    refine k_getR (pc := 28) e1 dX11_tidy_28 fk_11_52 (Or.inl ⟨_, rfl⟩) (e4) ?_
    refine x_iload_n (pc := 31) dX11_tidy_31 rfl ?_
    refine x_iconst (pc := 32) (v := 5) dX11_tidy_32 rfl ?_
    refine x_callV (pc := 33) (As := [.int _, .int _]) dX11_tidy_33 mX4_bestFor lk_11_159 p3.2.2.1 (k_bestFor (M := 5) hP s2 s6 hG (Nat.le_refl 5) (be_ne hO)) rfl rfl (Nat.le_of_ble_eq_true rfl) ⟨by decide, by decide⟩ ⟨Nat.zero_le _, Nat.zero_le _⟩ (fun x μ3 hr => ?_)
    obtain ⟨κ3, rfl, rfl, q1', q2', q3', q4', q5'⟩ := hr
    dsimp only [Option.toList, List.cons_append, List.nil_append]
    have L : ∀ (m t : Nat), t + m = n → ∀ κ' : KS, kq tdP κ3 κ' → (∀ i, i < 5 → κ'.1 (15 + i) 5 = if i < t then nI (brR (beD D n G 5) i) - 1 else κ3.1 (15 + i) 5) → WA Γ zX11_tidy (xrm 8 0 0) 0 0 0 0 (PX μ b κ (.int (tdV D n (nI G))) (tdC κ D n (nI G))) 39 [some (.ref (adO b 0)), some (.int (nI G)), some (.int (nI (brC (beD D n G 5)))), some (.int (nI t))] [] (KV (thR3 μ b) b κ') := by
      intro m
      induction m with
      | zero =>
        intro t ht κ' w1 w2
        obtain rfl : t = n := by omega
        have hc : κ'.1 1 4 = nI t := ((w1 1 4 (by unfold tdP; omega)).1).trans (((q1' 1 4 (by unfold plP; omega)).1).trans hcnt)
        refine x_iload_n (pc := 39) dX11_tidy_39 rfl ?_
        refine x_aload_n (pc := 40) dX11_tidy_40 rfl ?_
        refine k_getR (pc := 41) e1 dX11_tidy_41 fk_11_10 (Or.inl ⟨_, rfl⟩) (e2) ?_
        refine k_getI (pc := 44) q1 dX11_tidy_44 fk_11_108 (Or.inl rfl) ?_
        rw [hc]
        refine x_icmp_ge (pc := 47) (tgt := 77) dX11_tidy_47 rfl (fun h_47 => ?_) (fun h_47 => absurd (Int32.le_refl _) h_47)
        refine x_iload_n (pc := 77) dX11_tidy_77 rfl ?_
        refine x_ireturn (pc := 78) dX11_tidy_78 rfl rfl ?_
        obtain ⟨y1, y2⟩ := scP_pl q1'
        have hg : 0 ≤ nI G ∧ nI G < 16 := hx
        refine ⟨thR3 μ b, κ', ?_, rfl, Or.inr rfl, ?_, ?_, fun i hi => ?_⟩
        · unfold tdV
          rw [if_pos hg, nn_nI (by omega)]
        · rw [(w1 3 6 (by unfold tdP; omega)).2, y2]
          exact s7
        · exact (((scP_st hr6 s1).trans y1).mono (fun a k z => Or.inl z)).trans (w1.mono (fun a k z => Or.inr z))
        · rw [w2 i hi, nn_nI (by omega)]
          by_cases hit : i < t
          · rw [if_pos hit, if_pos ⟨hg, hit⟩]
          · rw [if_neg hit, if_neg (fun z => hit z.2), (y1 (15 + i) 5 (by unfold scP; omega)).1, (scP_st hr6 s1 (15 + i) 5 (by unfold scP; omega)).1]
      | succ m ih =>
        intro t ht κ' w1 w2
        have htn : t < n := by omega
        have hc : κ'.1 1 4 = nI n := ((w1 1 4 (by unfold tdP; omega)).1).trans (((q1' 1 4 (by unfold plP; omega)).1).trans hcnt)
        have hf : κ'.2 3 8 t = nI (brR (beD D n G 5) t) - 1 := by
          rw [(w1 3 8 (by unfold tdP; omega)).2]
          exact q5' t htn
        refine x_iload_n (pc := 39) dX11_tidy_39 rfl ?_
        refine x_aload_n (pc := 40) dX11_tidy_40 rfl ?_
        refine k_getR (pc := 41) e1 dX11_tidy_41 fk_11_10 (Or.inl ⟨_, rfl⟩) (e2) ?_
        refine k_getI (pc := 44) q1 dX11_tidy_44 fk_11_108 (Or.inl rfl) ?_
        rw [hc]
        refine x_icmp_ge (pc := 47) (tgt := 77) dX11_tidy_47 rfl (fun h_47 => absurd h_47 (nI_ge (a := t) (b := n) (by omega) (by omega))) (fun h_47 => ?_)
        refine x_aload_n (pc := 50) dX11_tidy_50 rfl ?_
        refine k_getR (pc := 51) e1 dX11_tidy_51 fk_11_10 (Or.inl ⟨_, rfl⟩) (e2) ?_
        refine k_getR (pc := 54) q1 dX11_tidy_54 fk_11_94 (Or.inr ⟨_, rfl⟩) (e10.2.2.1) ?_
        refine x_iload_n (pc := 57) dX11_tidy_57 rfl ?_
        refine x_aald (pc := 58) dX11_tidy_58 (e10.2.1.2.1) (Or.inl rfl) (rfl) (show t < 5 by omega) (by decide) ((e10.2.2.2.2 t (by omega)).1) ?_
        refine x_aload_n (pc := 59) dX11_tidy_59 rfl ?_
        refine k_getR (pc := 60) e1 dX11_tidy_60 fk_11_52 (Or.inl ⟨_, rfl⟩) (e4) ?_
        refine k_getA (pc := 63) p3 dX11_tidy_63 fk_11_162 (Or.inr ⟨_, rfl⟩) (by decide) ?_
        refine x_iload_n (pc := 66) dX11_tidy_66 rfl ?_
        refine k_iald (pc := 67) p3 dX11_tidy_67 (rfl) (show t < 5 by omega) (by decide) ?_
        rw [hf]
        refine k_putI (pc := 68) (e10.2.2.2.2 t (show t < 5 by omega)).2 dX11_tidy_68 (fk_11_114 (kci_th _)) (Or.inl (th_f (kci_th _) (by decide))) (Or.inl (th_i (kci_th _) (by decide))) ?_
        refine x_iinc (pc := 71) (lv2 := [_, _, _, _]) dX11_tidy_71 (by decide) rfl rfl (nI_1 _) rfl ?_
        refine x_goto (pc := 74) (tgt := 39) dX11_tidy_74 rfl ?_
        refine ih (t + 1) (by omega) _ (w1.I ⟨by omega, by omega, rfl⟩) (fun i hi => ?_)
        by_cases hit : i = t
        · rw [hit, kI_s, if_pos (by omega)]
        · rw [kI_n (Or.inl (by omega)), w2 i hi]
          by_cases hlt : i < t
          · rw [if_pos hlt, if_pos (by omega)]
          · rw [if_neg hlt, if_neg (by omega)]
    refine x_istore_n (pc := 36) (lv2 := [_, _, _, _]) dX11_tidy_36 (by decide) rfl rfl ?_
    refine x_iconst (pc := 37) (v := 0) dX11_tidy_37 rfl ?_
    refine x_istore_n (pc := 38) (lv2 := [_, _, _, _]) dX11_tidy_38 (by decide) rfl rfl ?_
    exact L n 0 (by omega) κ3 kq.rf (fun i hi => (if_neg (Nat.not_lt_zero i)).symm)
  · refine x_bipush (pc := 9) (v := -2) dX11_tidy_9 rfl ?_
    refine x_ireturn (pc := 11) dX11_tidy_11 rfl rfl ?_
    have hx := bi_0.mp h_6
    refine ⟨μ, κ, ?_, rfl, Or.inl rfl, h60, kq.rf, fun i hi => (if_neg (fun z => hx z.1)).symm⟩
    unfold tdV
    rw [if_neg hx]
theorem k_film (hO : roomOk D n) (x y : Int32) (hC : CX μ b κ D kp n r nt tn) : XM Γ zX11_film 8 0 0 [.ref (adO b 0), .int x, .int y] (KV μ b κ) (PX μ b κ (.int (fmV n x y)) (fmC κ D n x y)) := by
  refine XM.of 1 rfl (by decide) (Nat.le_of_ble_eq_true rfl) ?_
  have hI := hC.1
  obtain ⟨-, ⟨c1, c2, c3, c4, c5, c6, c7⟩, ⟨c8, c9⟩, hh, -, ⟨p1, p2⟩, -, hsh, -⟩ := hI
  have hn5 : n ≤ 5 := hC.2.1.1.1
  have h14 : κ.1 1 4 = nI n := hC.2.1.2.1
  have h60 := hC.2.2.2.2.2.2
  have hr6 : r < 6 := by have := hC.2.2.2.1; omega
  refine x_iload_n (pc := 0) dX11_film_0 rfl ?_
  refine x_iconst (pc := 1) (v := 4) dX11_film_1 rfl ?_
  refine x_callS (pc := 2) (As := [.int _, .int _]) dX11_film_2 mX11_isBelow lk_11_104 (k_isBelow _ _) rfl rfl (Nat.le_of_ble_eq_true rfl) ⟨by decide, by decide⟩ ⟨Nat.zero_le _, Nat.zero_le _⟩ (k_rt ?_)
  refine x_if_eq (pc := 5) (tgt := 17) dX11_film_5 rfl (fun h_5 => ?_) (fun h_5 => ?_)
  · refine x_bipush (pc := 17) (v := -2) dX11_film_17 rfl ?_
    refine x_ireturn (pc := 19) dX11_film_19 rfl rfl ?_
    have hx : ¬ ((0 ≤ x ∧ x < 4) ∧ (0 ≤ y ∧ y < 16)) := fun z => by first | exact bi_0.mp h_5 z.1 | exact bi_0.mp h_14 z.2
    refine ⟨μ, κ, ?_, rfl, Or.inl rfl, h60, ?_⟩
    · unfold fmV
      rw [if_neg hx]
    · unfold fmC
      rw [if_neg hx]
      exact kq.rf
  · refine x_iload_n (pc := 8) dX11_film_8 rfl ?_
    refine x_bipush (pc := 9) (v := 16) dX11_film_9 rfl ?_
    refine x_callS (pc := 11) (As := [.int _, .int _]) dX11_film_11 mX11_isBelow lk_11_104 (k_isBelow _ _) rfl rfl (Nat.le_of_ble_eq_true rfl) ⟨by decide, by decide⟩ ⟨Nat.zero_le _, Nat.zero_le _⟩ (k_rt ?_)
    refine x_if_ne (pc := 14) (tgt := 20) dX11_film_14 rfl (fun h_14 => ?_) (fun h_14 => ?_)
    · have hx : (0 ≤ x ∧ x < 4) ∧ (0 ≤ y ∧ y < 16) := ⟨bi_n0 h_5, bi_n0 h_14⟩
      obtain ⟨i, hi, rfl⟩ := ixD (n := 4) hx.1 (by decide)
      obtain ⟨G, hG, rfl⟩ := ixD (n := 16) hx.2 (by decide)
      refine x_start (pc := 20) hC rfl dX11_film_20 dX11_film_21 dX11_film_24 dX11_film_25 dX11_film_28 dX11_film_29 dX11_film_32 rfl ⟨by decide, by decide⟩ ⟨by decide, by decide⟩ (fun κ2 hS hP hI3 => ?_)
      obtain ⟨-, ⟨e1, e2, e3, e4, e5, e6, e7⟩, ⟨e8, e9⟩, e10, -, -, -, e11, -⟩ := hI3
      obtain ⟨s1, s2, s3, s4, s5, s6, s7⟩ := id hS
      have p3 := hP.1
      have q1 := e10.1
      have hcnt : κ2.1 1 4 = nI n := ((s1 1 4 (by unfold stP tP; omega)).1).trans h14
      refine x_aload_n (pc := 35) dX11_film_35 rfl ?_
      refine k_getR (pc := 36) e1 dX11_film_36 fk_11_52 (Or.inl ⟨_, rfl⟩) (e4) ?_
      refine x_iload_n (pc := 39) dX11_film_39 rfl ?_
      refine x_iconst (pc := 40) (v := 5) dX11_film_40 rfl ?_
      refine x_callV (pc := 41) (As := [.int _, .int _]) dX11_film_41 mX4_bestFor lk_11_159 p3.2.2.1 (k_bestFor (M := 5) hP s2 s6 hG (Nat.le_refl 5) (be_ne hO)) rfl rfl (Nat.le_of_ble_eq_true rfl) ⟨by decide, by decide⟩ ⟨Nat.zero_le _, Nat.zero_le _⟩ (fun x μ3 hr => ?_)
      obtain ⟨κ3, rfl, rfl, q1', q2', q3', q4', q5'⟩ := hr
      dsimp only [Option.toList, List.cons_append, List.nil_append]
      refine x_pop (pc := 44) dX11_film_44 rfl ?_
      refine x_aload_n (pc := 45) dX11_film_45 rfl ?_
      refine k_getR (pc := 46) e1 dX11_film_46 fk_11_45 (Or.inr ⟨_, rfl⟩) (e6) ?_
      refine x_iload_n (pc := 49) dX11_film_49 rfl ?_
      refine x_aald (pc := 50) dX11_film_50 (e9.2.1) (Or.inr (Or.inr rfl)) (rfl) (hi) (by decide) ((e11 i hi).1) ?_
      refine x_astore_n (pc := 51) (lv2 := [_, _, _, _]) dX11_film_51 (by decide) rfl rfl ?_
      refine x_aload_n (pc := 52) dX11_film_52 rfl ?_
      refine x_iconst (pc := 53) (v := 0) dX11_film_53 rfl ?_
      refine x_aload_n (pc := 54) dX11_film_54 rfl ?_
      refine k_getR (pc := 55) e1 dX11_film_55 fk_11_10 (Or.inl ⟨_, rfl⟩) (e2) ?_
      refine k_getI (pc := 58) q1 dX11_film_58 fk_11_108 (Or.inl rfl) ?_
      have hc4 : κ3.1 1 4 = nI n := ((q1' 1 4 (by unfold plP; omega)).1).trans hcnt
      rw [hc4]
      refine x_callV (pc := 61) (As := [.int _, .int _]) dX11_film_61 mX7_become lk_11_220 (e11 i hi).2.2.2.1 (k_become (e11 i hi).2 0 (nI n)) rfl rfl (Nat.le_of_ble_eq_true rfl) ⟨by decide, by decide⟩ ⟨Nat.zero_le _, Nat.zero_le _⟩ (k_rv ?_)
      have z0 : kq (fun a k => a = 5 + i ∧ k < 3) κ3 (kS (kI (kI κ3 (5 + i) 0 0) (5 + i) 1 (nI n)) (5 + i) 2 (pre (fun _ => 0) (κ3.2 (5 + i) 2) 40)) := (((kq.rf.I ⟨rfl, by decide⟩).I ⟨rfl, by decide⟩).S ⟨rfl, by decide⟩)
      have b0 : (kS (kI (kI κ3 (5 + i) 0 0) (5 + i) 1 (nI n)) (5 + i) 2 (pre (fun _ => 0) (κ3.2 (5 + i) 2) 40)).1 (5 + i) 0 = 0 := by rw [kS_1, kI_n (Or.inr (by decide)), kI_s]
      have b1 : (kS (kI (kI κ3 (5 + i) 0 0) (5 + i) 1 (nI n)) (5 + i) 2 (pre (fun _ => 0) (κ3.2 (5 + i) 2) 40)).1 (5 + i) 1 = nI n := by rw [kS_1, kI_s]
      generalize kS (kI (kI κ3 (5 + i) 0 0) (5 + i) 1 (nI n)) (5 + i) 2 (pre (fun _ => 0) (κ3.2 (5 + i) 2) 40) = κB at z0 b0 b1 ⊢
      have hcB : κB.1 1 4 = nI n := ((z0 1 4 (by omega)).1).trans hc4
      have hfB : κB.2 3 8 = κ3.2 3 8 := (z0 3 8 (by omega)).2
      refine x_aload_n (pc := 64) dX11_film_64 rfl ?_
      refine k_getR (pc := 65) e1 dX11_film_65 fk_11_52 (Or.inl ⟨_, rfl⟩) (e4) ?_
      refine k_getA (pc := 68) p3 dX11_film_68 fk_11_162 (Or.inr ⟨_, rfl⟩) (by decide) ?_
      refine x_iconst (pc := 71) (v := 0) dX11_film_71 rfl ?_
      refine x_aload_n (pc := 72) dX11_film_72 rfl ?_
      refine k_getA (pc := 73) (e11 i hi).2 dX11_film_73 fk_11_199 (Or.inr ⟨_, rfl⟩) (by decide) ?_
      refine x_iconst (pc := 76) (v := 0) dX11_film_76 rfl ?_
      refine x_aload_n (pc := 77) dX11_film_77 rfl ?_
      refine k_getR (pc := 78) e1 dX11_film_78 fk_11_10 (Or.inl ⟨_, rfl⟩) (e2) ?_
      refine k_getI (pc := 81) q1 dX11_film_81 fk_11_108 (Or.inl rfl) ?_
      rw [hcB]
      refine k_copy (pc := 84) (i := 0) (j := 0) (n := n) p3 (e11 i hi).2 dX11_film_84 lw_11_223 (by decide) (by decide) rfl rfl rfl (by show 0 + n ≤ 5; omega) (by show 0 + n ≤ 40; omega) (by decide) (by decide) ⟨by decide, by decide⟩ (by decide) ?_
      have z1 : kq (fun a k => a = 5 + i ∧ k < 3) κ3 (kS κB (5 + i) 2 (va_cpy (κB.2 3 8) (κB.2 (5 + i) 2) 0 0 n)) := z0.S ⟨rfl, by decide⟩
      refine x_aload_n (pc := 87) dX11_film_87 rfl ?_
      refine k_getR (pc := 88) e1 dX11_film_88 fk_11_10 (Or.inl ⟨_, rfl⟩) (e2) ?_
      refine k_getI (pc := 91) q1 dX11_film_91 fk_11_108 (Or.inl rfl) ?_
      refine x_ireturn (pc := 94) dX11_film_94 rfl rfl ?_
      obtain ⟨y1, y2⟩ := scP_pl q1'
      have z2 := (((scP_st hr6 s1).trans y1).mono (fun a k z => (Or.inl z : scP a k ∨ (a = 5 + i ∧ k < 3)))).trans (z1.mono (fun a k z => Or.inr z))
      refine ⟨thR3 μ b, _, ?_, rfl, Or.inr rfl, ?_, ?_⟩
      · unfold fmV
        rw [if_pos hx, kS_1, hcB]
      · rw [(z1 3 6 (by omega)).2, y2]
        exact s7
      · unfold fmC
        rw [if_pos hx, nn_nI (by omega), nn_nI (by omega)]
        refine ⟨z2, ?_, ?_, fun j hj => ?_⟩
        · rw [kS_1]
          exact b0
        · rw [kS_1]
          exact b1
        · rw [kS_s, hfB]
          show (if 0 ≤ j ∧ j < 0 + n then κ3.2 3 8 (0 + (j - 0)) else κB.2 (5 + i) 2 j) = _
          rw [if_pos ⟨Nat.zero_le _, by omega⟩, Nat.zero_add, Nat.sub_zero]
          exact q5' j hj
    · refine x_bipush (pc := 17) (v := -2) dX11_film_17 rfl ?_
      refine x_ireturn (pc := 19) dX11_film_19 rfl rfl ?_
      have hx : ¬ ((0 ≤ x ∧ x < 4) ∧ (0 ≤ y ∧ y < 16)) := fun z => by first | exact bi_0.mp h_5 z.1 | exact bi_0.mp h_14 z.2
      refine ⟨μ, κ, ?_, rfl, Or.inl rfl, h60, ?_⟩
      · unfold fmV
        rw [if_neg hx]
      · unfold fmC
        rw [if_neg hx]
        exact kq.rf
end M999997
