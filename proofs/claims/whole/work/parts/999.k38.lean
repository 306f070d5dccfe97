/-! the class: a new sheet, a new thing -/
theorem th_fin {ci : Nat} (h : isTh ci) : ∀ k : Nat, k < 13 → (xT ci k).2.2.2 = false ∨ ((xT ci k).2.2.2 = true ∧ zX9_init.1.name = "<init>" ∧ (xT ci k).1 = zX9_init.1.cls) := by
  rcases h with rfl | rfl | rfl | rfl | rfl | rfl <;> decide +kernel
section M999
variable {Γ : Gm} {μ μ0 : Mem}
theorem k_shInit {q0 : Nat} {g : Nat → Int32} (I0 : AI μ0 μ q0 7 g []) : XM Γ zX7_init 1 1 40 [.ref q0] μ (fun r μ2 => r = none ∧ ∃ q1, AI μ0 μ2 q0 7 (va_up (va_up g 0 (-1)) 1 0) [(2, q1, 2, 40)]) := by
  refine XM.of 0 rfl (by decide) (Nat.le_of_ble_eq_true rfl) ?_
  refine x_aload_n (pc := 0) dX7_init_0 rfl ?_
  refine x_objInit (pc := 1) dX7_init_1 lw_7_3 wo_inst wo_code ⟨Nat.le_refl 1, Nat.le_refl 64⟩ (by decide) ?_
  refine x_aload_n (pc := 4) dX7_init_4 rfl ?_
  refine x_iconst (pc := 5) (v := -1) dX7_init_5 rfl ?_
  refine x_ai (pc := 6) dX7_init_6 fk_7_9 (Or.inl rfl) I0 (Or.inl rfl) (fun μ1 I1 => ?_)
  refine x_aload_n (pc := 9) dX7_init_9 rfl ?_
  refine x_iconst (pc := 10) (v := 0) dX7_init_10 rfl ?_
  refine x_ai (pc := 11) dX7_init_11 fk_7_15 (Or.inl rfl) I1 (Or.inl rfl) (fun μ2 I2 => ?_)
  refine x_aload_n (pc := 14) dX7_init_14 rfl ?_
  refine x_bipush (pc := 15) (v := 40) dX7_init_15 rfl ?_
  refine x_af (pc := 17) (N := 40) dX7_init_17 dX7_init_19 fk_7_18 (by first | exact Or.inl rfl | exact Or.inr ⟨rfl, rfl, rfl⟩) (Or.inr ⟨_, rfl⟩) I2 (by simp) rfl (Nat.le_of_ble_eq_true rfl) ⟨Nat.le_of_ble_eq_true rfl, Nat.le_of_ble_eq_true rfl⟩ (fun q1 μ3 I3 => ?_)
  refine x_return (pc := 22) dX7_init_22 rfl ?_
  exact ⟨rfl, q1, I3⟩
theorem k_thInit {q0 ci : Nat} {g : Nat → Int32} {kd ix wh gv : Int32} (hth : isTh ci) (I0 : AI μ0 μ q0 ci g []) : XM Γ zX9_init 1 6 49 [.ref q0, .int kd, .int ix, .int wh, .int gv] μ (fun r μ2 => r = none ∧ ∃ a6 a7 a8 a9 a11 a12, AI μ0 μ2 q0 ci (va_up (va_up (va_up (va_up (va_up (va_up (va_up g 5 (-1)) 10 0) 0 kd) 1 ix) 2 (wh / 10)) 4 (wh - wh / 10 * 10)) 3 gv) [(6, a6, 2, 7), (7, a7, 2, 7), (8, a8, 2, 5), (9, a9, 2, 16), (11, a11, 2, 7), (12, a12, 2, 7)]) := by
  refine XM.of 0 rfl (by decide) (Nat.le_of_ble_eq_true rfl) ?_
  refine x_aload_n (pc := 0) dX9_init_0 rfl ?_
  refine x_objInit (pc := 1) dX9_init_1 lw_9_3 wo_inst wo_code ⟨Nat.le_refl 1, Nat.le_refl 64⟩ (by decide) ?_
  refine x_aload_n (pc := 4) dX9_init_4 rfl ?_
  refine x_iconst (pc := 5) (v := -1) dX9_init_5 rfl ?_
  refine x_ai (pc := 6) dX9_init_6 (fk_9_9 hth) (th_fin hth 5 (by decide)) I0 (Or.inl (th_i hth (by decide))) (fun μ1 I1 => ?_)
  refine x_aload_n (pc := 9) dX9_init_9 rfl ?_
  refine x_bipush (pc := 10) (v := 7) dX9_init_10 rfl ?_
  refine x_af (pc := 12) (N := 7) dX9_init_12 dX9_init_14 (fk_9_15 hth) (th_fin hth 6 (by decide)) (th_a hth (by decide)) I1 (by simp) rfl (Nat.le_of_ble_eq_true rfl) ⟨Nat.le_of_ble_eq_true rfl, Nat.le_of_ble_eq_true rfl⟩ (fun a6 μ2 I2 => ?_)
  refine x_aload_n (pc := 17) dX9_init_17 rfl ?_
  refine x_bipush (pc := 18) (v := 7) dX9_init_18 rfl ?_
  refine x_af (pc := 20) (N := 7) dX9_init_20 dX9_init_22 (fk_9_19 hth) (th_fin hth 7 (by decide)) (th_a hth (by decide)) I2 (by simp) rfl (Nat.le_of_ble_eq_true rfl) ⟨Nat.le_of_ble_eq_true rfl, Nat.le_of_ble_eq_true rfl⟩ (fun a7 μ3 I3 => ?_)
  refine x_aload_n (pc := 25) dX9_init_25 rfl ?_
  refine x_iconst (pc := 26) (v := 5) dX9_init_26 rfl ?_
  refine x_af (pc := 27) (N := 5) dX9_init_27 dX9_init_29 (fk_9_22 hth) (th_fin hth 8 (by decide)) (th_a hth (by decide)) I3 (by simp) rfl (Nat.le_of_ble_eq_true rfl) ⟨Nat.le_of_ble_eq_true rfl, Nat.le_of_ble_eq_true rfl⟩ (fun a8 μ4 I4 => ?_)
  refine x_aload_n (pc := 32) dX9_init_32 rfl ?_
  refine x_bipush (pc := 33) (v := 16) dX9_init_33 rfl ?_
  refine x_af (pc := 35) (N := 16) dX9_init_35 dX9_init_37 (fk_9_25 hth) (th_fin hth 9 (by decide)) (th_a hth (by decide)) I4 (by simp) rfl (Nat.le_of_ble_eq_true rfl) ⟨Nat.le_of_ble_eq_true rfl, Nat.le_of_ble_eq_true rfl⟩ (fun a9 μ5 I5 => ?_)
  refine x_aload_n (pc := 40) dX9_init_40 rfl ?_
  refine x_iconst (pc := 41) (v := 0) dX9_init_41 rfl ?_
  refine x_ai (pc := 42) dX9_init_42 (fk_9_28 hth) (th_fin hth 10 (by decide)) I5 (Or.inl (th_i hth (by decide))) (fun μ6 I6 => ?_)
  refine x_aload_n (pc := 45) dX9_init_45 rfl ?_
  refine x_bipush (pc := 46) (v := 7) dX9_init_46 rfl ?_
  refine x_af (pc := 48) (N := 7) dX9_init_48 dX9_init_50 (fk_9_31 hth) (th_fin hth 11 (by decide)) (th_a hth (by decide)) I6 (by simp) rfl (Nat.le_of_ble_eq_true rfl) ⟨Nat.le_of_ble_eq_true rfl, Nat.le_of_ble_eq_true rfl⟩ (fun a11 μ7 I7 => ?_)
  refine x_aload_n (pc := 53) dX9_init_53 rfl ?_
  refine x_bipush (pc := 54) (v := 7) dX9_init_54 rfl ?_
  refine x_af (pc := 56) (N := 7) dX9_init_56 dX9_init_58 (fk_9_34 hth) (th_fin hth 12 (by decide)) (th_a hth (by decide)) I7 (by simp) rfl (Nat.le_of_ble_eq_true rfl) ⟨Nat.le_of_ble_eq_true rfl, Nat.le_of_ble_eq_true rfl⟩ (fun a12 μ8 I8 => ?_)
  refine x_aload_n (pc := 61) dX9_init_61 rfl ?_
  refine x_iload_n (pc := 62) dX9_init_62 rfl ?_
  refine x_ai (pc := 63) dX9_init_63 (fk_9_37 hth) (th_fin hth 0 (by decide)) I8 (Or.inl (th_i hth (by decide))) (fun μ9 I9 => ?_)
  refine x_aload_n (pc := 66) dX9_init_66 rfl ?_
  refine x_iload_n (pc := 67) dX9_init_67 rfl ?_
  refine x_ai (pc := 68) dX9_init_68 (fk_9_40 hth) (th_fin hth 1 (by decide)) I9 (Or.inl (th_i hth (by decide))) (fun μ10 I10 => ?_)
  refine x_aload_n (pc := 71) dX9_init_71 rfl ?_
  refine x_iload_n (pc := 72) dX9_init_72 rfl ?_
  refine x_bipush (pc := 73) (v := 10) dX9_init_73 rfl ?_
  refine x_idiv (pc := 75) dX9_init_75 (by decide) ?_
  refine x_ai (pc := 76) dX9_init_76 (fk_9_43 hth) (th_fin hth 2 (by decide)) I10 (Or.inl (th_i hth (by decide))) (fun μ11 I11 => ?_)
  refine x_aload_n (pc := 79) dX9_init_79 rfl ?_
  refine x_iload_n (pc := 80) dX9_init_80 rfl ?_
  refine x_bipush (pc := 81) (v := 10) dX9_init_81 rfl ?_
  refine x_irem (pc := 83) dX9_init_83 (by decide) ?_
  refine x_ai (pc := 84) dX9_init_84 (fk_9_46 hth) (th_fin hth 4 (by decide)) I11 (Or.inl (th_i hth (by decide))) (fun μ12 I12 => ?_)
  refine x_aload_n (pc := 87) dX9_init_87 rfl ?_
  refine x_iload (pc := 88) dX9_init_88 rfl ?_
  refine x_ai (pc := 90) dX9_init_90 (fk_9_49 hth) (th_fin hth 3 (by decide)) I12 (Or.inl (th_i hth (by decide))) (fun μ13 I13 => ?_)
  refine x_return (pc := 93) dX9_init_93 rfl ?_
  exact ⟨rfl, a6, a7, a8, a9, a11, a12, by simpa using I13⟩
end M999
