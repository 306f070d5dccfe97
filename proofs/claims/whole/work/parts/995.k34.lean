/-! the class: a house takes over another -/
def htP (o base : Nat) : Nat → Nat → Prop := fun a k => (a = o ∧ (k < 3 ∨ k = 4 ∨ k = 5)) ∨ (base ≤ a ∧ a < base + 5 ∧ 2 ≤ k ∧ k < 6)
/-- o's numbers are q's -/
def htE (κ κ2 : KS) (o q base base2 n : Nat) : Prop := κ2.1 o 4 = κ.1 q 4 ∧ κ2.1 o 5 = κ.1 q 5 ∧ (∀ i, i < 6 → κ2.2 o 0 i = κ.2 q 0 i) ∧ (∀ i, i < 4 → κ2.2 o 1 i = κ.2 q 1 i) ∧ (∀ i, i < 7 → κ2.2 o 2 i = κ.2 q 2 i) ∧ ∀ t, t < n → ∀ k, 2 ≤ k → k < 6 → κ2.1 (base + t) k = κ.1 (base2 + t) k
theorem tkK_in {κ : KS} {o p a k : Nat} (hne : o ≠ p) : (tkK κ o p).1 a k = if a = o ∧ 2 ≤ k ∧ k < 6 then κ.1 p k else κ.1 a k := by
  unfold tkK kI
  show up2 (up2 (up2 (up2 κ.1 o 2 _) o 3 _) o 4 _) o 5 _ a k = _
  unfold up2
  by_cases ha : a = o
  · subst ha
    by_cases h : 2 ≤ k ∧ k < 6
    · rcases (by omega : k = 2 ∨ k = 3 ∨ k = 4 ∨ k = 5) with rfl | rfl | rfl | rfl <;> simp
    · rw [if_neg (by omega), if_neg (by omega), if_neg (by omega), if_neg (by omega), if_neg (fun z => h z.2)]
  · rw [if_neg (fun z => ha z.1), if_neg (fun z => ha z.1), if_neg (fun z => ha z.1), if_neg (fun z => ha z.1), if_neg (fun z => ha z.1)]
section M995
variable {Γ : Gm} {μ : Mem} {b : Kb} {κ : KS} {o q base base2 : Nat} {kd kd2 : Nat → Nat}
theorem k_htake {n : Nat} (hK : KO μ b o 2 hsL) (hK2 : KO μ b q 2 hsL) (hne : q ≠ o) (hX : KXo μ b o base kd) (hX2 : KXo μ b q base2 kd2) (ho : o < 3) (hq : q < 3) (hb1 : 15 ≤ base) (hb2 : 15 ≤ base2) (hbb : base + 5 ≤ base2 ∨ base2 + 5 ≤ base) (h4 : κ.1 q 4 = nI n) (hn : n ≤ 5) : XM Γ zX2_take 2 0 0 [.ref (adO b o), .ref (adO b q)] (KV μ b κ) (fun r μ2 => ∃ κ2, r = none ∧ μ2 = KV μ b κ2 ∧ kq (htP o base) κ κ2 ∧ htE κ κ2 o q base base2 n) := by
  refine XM.of 1 rfl (by decide) (Nat.le_of_ble_eq_true rfl) ?_
  have L : ∀ (m t : Nat) (κ2 : KS), t + m = n → κ2.1 o 4 = nI n → kq (htP o base) κ κ2 → htE κ κ2 o q base base2 t → WA Γ zX2_take (xrm 2 0 0) 0 0 0 0 (fun r μ2 => ∃ κ2, r = none ∧ μ2 = KV μ b κ2 ∧ kq (htP o base) κ κ2 ∧ htE κ κ2 o q base base2 n) 62 [some (.ref (adO b o)), some (.ref (adO b q)), some (.int (nI t))] [] (KV μ b κ2) := by
    intro m
    induction m with
    | zero =>
      intro t κ2 ht h4 hq2 hE
      obtain rfl : t = n := by omega
      refine x_iload_n (pc := 62) dX2_take_62 rfl ?_
      refine x_aload_n (pc := 63) dX2_take_63 rfl ?_
      refine k_getI (pc := 64) hK dX2_take_64 fk_2_27 (Or.inl rfl) ?_
      rw [h4]
      refine x_icmp_ge (pc := 67) (tgt := 91) dX2_take_67 rfl (fun h_67 => ?_) (fun h_67 => absurd (Int32.le_refl _) h_67)
      refine x_return (pc := 91) dX2_take_91 rfl ?_
      exact ⟨κ2, rfl, rfl, hq2, hE⟩
    | succ m ih =>
      intro t κ2 ht h4 hq2 hE
      have hXt := hX.2.2 t (by omega)
      have hXt2 := hX2.2.2 t (by omega)
      refine x_iload_n (pc := 62) dX2_take_62 rfl ?_
      refine x_aload_n (pc := 63) dX2_take_63 rfl ?_
      refine k_getI (pc := 64) hK dX2_take_64 fk_2_27 (Or.inl rfl) ?_
      rw [h4]
      refine x_icmp_ge (pc := 67) (tgt := 91) dX2_take_67 rfl (fun h_67 => absurd h_67 (nI_ge (a := t) (b := n) (by omega) (by omega))) (fun h_67 => ?_)
      refine x_aload_n (pc := 70) dX2_take_70 rfl ?_
      refine k_getR (pc := 71) hK dX2_take_71 fk_2_23 (Or.inr ⟨_, rfl⟩) (hX.1) ?_
      refine x_iload_n (pc := 74) dX2_take_74 rfl ?_
      refine x_aald (pc := 75) dX2_take_75 (hX.2.1) (Or.inl rfl) (rfl) (show t < 5 by omega) (by decide) (hXt.1) ?_
      refine x_aload_n (pc := 76) dX2_take_76 rfl ?_
      refine k_getR (pc := 77) hK2 dX2_take_77 fk_2_23 (Or.inr ⟨_, rfl⟩) (hX2.1) ?_
      refine x_iload_n (pc := 80) dX2_take_80 rfl ?_
      refine x_aald (pc := 81) dX2_take_81 (hX2.2.1) (Or.inl rfl) (rfl) (show t < 5 by omega) (by decide) (hXt2.1) ?_
      refine x_callU (pc := 82) (As := [.ref _]) dX2_take_82 mX9_take (lt_2_56 (kci_th (kd t))) hXt.2.2.2.1 (k_take (kci_th (kd t)) hXt.2 (kci_th (kd2 t)) hXt2.2 (by omega)) rfl rfl (Nat.le_of_ble_eq_true rfl) ⟨by decide, by decide⟩ ⟨Nat.zero_le _, Nat.zero_le _⟩ (k_rv ?_)
      refine x_iinc (pc := 85) (lv2 := [_, _, _]) dX2_take_85 (by decide) rfl rfl (nI_1 _) rfl ?_
      refine x_goto (pc := 88) (tgt := 62) dX2_take_88 rfl ?_
      have e := fun a k => tkK_in (κ := κ2) (o := base + t) (p := base2 + t) (a := a) (k := k) (by omega)
      have e2 : (tkK κ2 (base + t) (base2 + t)).2 = κ2.2 := rfl
      obtain ⟨g1, g2, g3, g4, g5, g6⟩ := hE
      refine ih (t + 1) (tkK κ2 (base + t) (base2 + t)) (by omega) ?_ (fun a k hak => ?_) ⟨?_, ?_, fun i hi => g3 i hi, fun i hi => g4 i hi, fun i hi => g5 i hi, fun x hx k hk1 hk2 => ?_⟩
      · rw [e, if_neg (by omega)]
        exact h4
      · refine ⟨?_, ?_⟩
        · rw [e, if_neg (fun z => hak (Or.inr ⟨by omega, by omega, z.2.1, z.2.2⟩))]
          exact (hq2 a k hak).1
        · rw [e2]
          exact (hq2 a k hak).2
      · rw [e, if_neg (by omega)]
        exact g1
      · rw [e, if_neg (by omega)]
        exact g2
      · rw [e]
        by_cases hxt : x = t
        · rw [if_pos ⟨by omega, hk1, hk2⟩, hxt]
          exact (hq2 (base2 + t) k (fun z => by
            rcases z with z | z <;> omega)).1
        · rw [if_neg (by omega)]
          exact g6 x (by omega) k hk1 hk2
  have cp : ∀ (f g : Nat → Int32) (n k : Nat), k < n → va_cpy f g 0 0 n k = f k := fun f g n k hk => by
    unfold va_cpy
    rw [if_pos (by omega)]
    congr 1
    omega
  refine x_aload_n (pc := 0) dX2_take_0 rfl ?_
  refine k_getA (pc := 1) hK2 dX2_take_1 fk_2_9 (Or.inr ⟨_, rfl⟩) (by decide) ?_
  refine x_iconst (pc := 4) (v := 0) dX2_take_4 rfl ?_
  refine x_aload_n (pc := 5) dX2_take_5 rfl ?_
  refine k_getA (pc := 6) hK dX2_take_6 fk_2_9 (Or.inr ⟨_, rfl⟩) (by decide) ?_
  refine x_iconst (pc := 9) (v := 0) dX2_take_9 rfl ?_
  refine x_bipush (pc := 10) (v := 6) dX2_take_10 rfl ?_
  refine k_copy (pc := 12) (i := 0) (j := 0) (n := 6) hK2 hK dX2_take_12 lw_2_50 (by decide) (by decide) rfl rfl rfl (by decide) (by decide) (by decide) (by decide) ⟨by decide, by decide⟩ (by decide) ?_
  refine x_aload_n (pc := 15) dX2_take_15 rfl ?_
  refine k_getA (pc := 16) hK2 dX2_take_16 fk_2_15 (Or.inr ⟨_, rfl⟩) (by decide) ?_
  refine x_iconst (pc := 19) (v := 0) dX2_take_19 rfl ?_
  refine x_aload_n (pc := 20) dX2_take_20 rfl ?_
  refine k_getA (pc := 21) hK dX2_take_21 fk_2_15 (Or.inr ⟨_, rfl⟩) (by decide) ?_
  refine x_iconst (pc := 24) (v := 0) dX2_take_24 rfl ?_
  refine x_iconst (pc := 25) (v := 4) dX2_take_25 rfl ?_
  refine k_copy (pc := 26) (i := 0) (j := 0) (n := 4) hK2 hK dX2_take_26 lw_2_50 (by decide) (by decide) rfl rfl rfl (by decide) (by decide) (by decide) (by decide) ⟨by decide, by decide⟩ (by decide) ?_
  refine x_aload_n (pc := 29) dX2_take_29 rfl ?_
  refine k_getA (pc := 30) hK2 dX2_take_30 fk_2_18 (Or.inr ⟨_, rfl⟩) (by decide) ?_
  refine x_iconst (pc := 33) (v := 0) dX2_take_33 rfl ?_
  refine x_aload_n (pc := 34) dX2_take_34 rfl ?_
  refine k_getA (pc := 35) hK dX2_take_35 fk_2_18 (Or.inr ⟨_, rfl⟩) (by decide) ?_
  refine x_iconst (pc := 38) (v := 0) dX2_take_38 rfl ?_
  refine x_bipush (pc := 39) (v := 7) dX2_take_39 rfl ?_
  refine k_copy (pc := 41) (i := 0) (j := 0) (n := 7) hK2 hK dX2_take_41 lw_2_50 (by decide) (by decide) rfl rfl rfl (by decide) (by decide) (by decide) (by decide) ⟨by decide, by decide⟩ (by decide) ?_
  refine x_aload_n (pc := 44) dX2_take_44 rfl ?_
  refine x_aload_n (pc := 45) dX2_take_45 rfl ?_
  refine k_getI (pc := 46) hK2 dX2_take_46 fk_2_27 (Or.inl rfl) ?_
  refine k_putI (pc := 49) hK dX2_take_49 fk_2_27 (Or.inl rfl) (Or.inl rfl) ?_
  refine x_aload_n (pc := 52) dX2_take_52 rfl ?_
  refine x_aload_n (pc := 53) dX2_take_53 rfl ?_
  refine k_getI (pc := 54) hK2 dX2_take_54 fk_2_31 (Or.inl rfl) ?_
  refine k_putI (pc := 57) hK dX2_take_57 fk_2_31 (Or.inl rfl) (Or.inl rfl) ?_
  refine x_iconst (pc := 60) (v := 0) dX2_take_60 rfl ?_
  refine x_istore_n (pc := 61) (lv2 := [_, _, _]) dX2_take_61 (by decide) rfl rfl ?_
  refine L n 0 _ (by omega) ?_ ?_ ⟨?_, ?_, fun i hi => ?_, fun i hi => ?_, fun i hi => ?_, fun x hx => absurd hx (by omega)⟩
  · rw [kI_n (Or.inr (by decide)), kI_s, kS_1, kS_1, kS_1]
    exact h4
  · exact ((((kq.rf.S (Or.inl ⟨rfl, Or.inl (by decide)⟩)).S (Or.inl ⟨rfl, Or.inl (by decide)⟩)).S (Or.inl ⟨rfl, Or.inl (by decide)⟩)).I (Or.inl ⟨rfl, Or.inr (Or.inl rfl)⟩)).I (Or.inl ⟨rfl, Or.inr (Or.inr rfl)⟩)
  · rw [kI_n (Or.inr (by decide)), kI_s, kS_1, kS_1, kS_1]
  · rw [kI_s, kI_n (Or.inl hne), kS_1, kS_1, kS_1]
  · rw [kI_2, kI_2, kS_n (Or.inr (by decide)), kS_n (Or.inr (by decide)), kS_s, cp _ _ _ _ hi]
  · rw [kI_2, kI_2, kS_n (Or.inr (by decide)), kS_s, cp _ _ _ _ hi, kS_n (Or.inl hne)]
  · rw [kI_2, kI_2, kS_s, cp _ _ _ _ hi, kS_n (Or.inl hne), kS_n (Or.inl hne)]
end M995
