/-! the class: a new reader -/
section M9991
variable {Γ : Gm} {μ μ0 : Mem}
theorem k_rdInit {q0 : Nat} {g : Nat → Int32} (I0 : AI μ0 μ q0 6 g []) : XM Γ zX6_init 1 3 163 [.ref q0] μ (fun r μ2 => r = none ∧ ∃ a0 a7 a9, AI μ0 μ2 q0 6 (va_up (va_up (va_up (va_up (va_up (va_up (va_up g 1 0) 2 0) 3 0) 4 (-24)) 5 0) 6 (-1)) 8 0) [(0, a0, 2, 0), (7, a7, 2, 160), (9, a9, 2, 3)]) := by
  refine XM.of 0 rfl (by decide) (Nat.le_of_ble_eq_true rfl) ?_
  refine x_aload_n (pc := 0) dX6_init_0 rfl ?_
  refine x_objInit (pc := 1) dX6_init_1 lw_6_3 wo_inst wo_code ⟨Nat.le_refl 1, Nat.le_refl 64⟩ (by decide) ?_
  refine x_aload_n (pc := 4) dX6_init_4 rfl ?_
  refine x_iconst (pc := 5) (v := 0) dX6_init_5 rfl ?_
  refine x_af (pc := 6) (N := 0) dX6_init_6 dX6_init_8 fk_6_9 (by first | exact Or.inl rfl | exact Or.inr ⟨rfl, rfl, rfl⟩) (Or.inr ⟨_, rfl⟩) I0 (by simp) rfl (Nat.le_of_ble_eq_true rfl) ⟨Nat.le_of_ble_eq_true rfl, Nat.le_of_ble_eq_true rfl⟩ (fun a0 μ1 I1 => ?_)
  refine x_aload_n (pc := 11) dX6_init_11 rfl ?_
  refine x_iconst (pc := 12) (v := 0) dX6_init_12 rfl ?_
  refine x_ai (pc := 13) dX6_init_13 fk_6_15 (by first | exact Or.inl rfl | exact Or.inr ⟨rfl, rfl, rfl⟩) I1 (Or.inl rfl) (fun μ2 I2 => ?_)
  refine x_aload_n (pc := 16) dX6_init_16 rfl ?_
  refine x_iconst (pc := 17) (v := 0) dX6_init_17 rfl ?_
  refine x_ai (pc := 18) dX6_init_18 fk_6_19 (by first | exact Or.inl rfl | exact Or.inr ⟨rfl, rfl, rfl⟩) I2 (Or.inl rfl) (fun μ3 I3 => ?_)
  refine x_aload_n (pc := 21) dX6_init_21 rfl ?_
  refine x_iconst (pc := 22) (v := 0) dX6_init_22 rfl ?_
  refine x_ai (pc := 23) dX6_init_23 fk_6_22 (by first | exact Or.inl rfl | exact Or.inr ⟨rfl, rfl, rfl⟩) I3 (Or.inl rfl) (fun μ4 I4 => ?_)
  refine x_aload_n (pc := 26) dX6_init_26 rfl ?_
  refine x_bipush (pc := 27) (v := -24) dX6_init_27 rfl ?_
  refine x_ai (pc := 29) dX6_init_29 fk_6_25 (by first | exact Or.inl rfl | exact Or.inr ⟨rfl, rfl, rfl⟩) I4 (Or.inl rfl) (fun μ5 I5 => ?_)
  refine x_aload_n (pc := 32) dX6_init_32 rfl ?_
  refine x_iconst (pc := 33) (v := 0) dX6_init_33 rfl ?_
  refine x_ai (pc := 34) dX6_init_34 fk_6_28 (by first | exact Or.inl rfl | exact Or.inr ⟨rfl, rfl, rfl⟩) I5 (Or.inl rfl) (fun μ6 I6 => ?_)
  refine x_aload_n (pc := 37) dX6_init_37 rfl ?_
  refine x_iconst (pc := 38) (v := -1) dX6_init_38 rfl ?_
  refine x_ai (pc := 39) dX6_init_39 fk_6_31 (by first | exact Or.inl rfl | exact Or.inr ⟨rfl, rfl, rfl⟩) I6 (Or.inl rfl) (fun μ7 I7 => ?_)
  refine x_aload_n (pc := 42) dX6_init_42 rfl ?_
  refine x_sipush (pc := 43) (v := 160) dX6_init_43 rfl ?_
  refine x_af (pc := 46) (N := 160) dX6_init_46 dX6_init_48 fk_6_34 (by first | exact Or.inl rfl | exact Or.inr ⟨rfl, rfl, rfl⟩) (Or.inr ⟨_, rfl⟩) I7 (by simp) rfl (Nat.le_of_ble_eq_true rfl) ⟨Nat.le_of_ble_eq_true rfl, Nat.le_of_ble_eq_true rfl⟩ (fun a7 μ8 I8 => ?_)
  refine x_aload_n (pc := 51) dX6_init_51 rfl ?_
  refine x_iconst (pc := 52) (v := 0) dX6_init_52 rfl ?_
  refine x_ai (pc := 53) dX6_init_53 fk_6_37 (by first | exact Or.inl rfl | exact Or.inr ⟨rfl, rfl, rfl⟩) I8 (Or.inl rfl) (fun μ9 I9 => ?_)
  refine x_aload_n (pc := 56) dX6_init_56 rfl ?_
  refine x_iconst (pc := 57) (v := 3) dX6_init_57 rfl ?_
  refine x_af (pc := 58) (N := 3) dX6_init_58 dX6_init_60 fk_6_40 (by first | exact Or.inl rfl | exact Or.inr ⟨rfl, rfl, rfl⟩) (Or.inr ⟨_, rfl⟩) I9 (by simp) rfl (Nat.le_of_ble_eq_true rfl) ⟨Nat.le_of_ble_eq_true rfl, Nat.le_of_ble_eq_true rfl⟩ (fun a9 μ10 I10 => ?_)
  refine x_return (pc := 63) dX6_init_63 rfl ?_
  exact ⟨rfl, a0, a7, a9, by simpa using I10⟩
end M9991
