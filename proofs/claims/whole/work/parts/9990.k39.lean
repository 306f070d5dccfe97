/-! the class: a new thing of its kind -/
section M9990
variable {Γ : Gm} {μ μ0 : Mem}
def thN (μ0 μ2 : Mem) (q0 ci : Nat) (g : Nat → Int32) (kd ix wh gv : Int32) : Prop := ∃ a6 a7 a8 a9 a11 a12, AI μ0 μ2 q0 ci (va_up (va_up (va_up (va_up (va_up (va_up (va_up g 5 (-1)) 10 0) 0 kd) 1 ix) 2 (wh / 10)) 4 (wh - wh / 10 * 10)) 3 gv) [(6, a6, 2, 7), (7, a7, 2, 7), (8, a8, 2, 5), (9, a9, 2, 16), (11, a11, 2, 7), (12, a12, 2, 7)]
theorem k_i0 {q0 ci : Nat} {g : Nat → Int32} {kd ix wh gv : Int32} (hth : isTh ci) (I0 : AI μ0 μ q0 ci g []) : XM Γ zX0_init 2 6 49 [.ref q0, .int kd, .int ix, .int wh, .int gv] μ (fun r μ2 => r = none ∧ thN μ0 μ2 q0 ci g kd ix wh gv) := by
  refine XM.of 0 rfl (by decide) (Nat.le_of_ble_eq_true rfl) ?_
  refine x_aload_n (pc := 0) dX0_init_0 rfl ?_
  refine x_iload_n (pc := 1) dX0_init_1 rfl ?_
  refine x_iload_n (pc := 2) dX0_init_2 rfl ?_
  refine x_iload_n (pc := 3) dX0_init_3 rfl ?_
  refine x_iload (pc := 4) dX0_init_4 rfl ?_
  refine x_callI (pc := 6) (As := [.int _, .int _, .int _, .int _]) dX0_init_6 mX9_init rfl lk_0_1 (k_thInit (μ0 := μ0) hth I0) rfl rfl (Nat.le_of_ble_eq_true rfl) ⟨Nat.le_of_ble_eq_true rfl, Nat.le_of_ble_eq_true rfl⟩ ⟨Nat.le_of_ble_eq_true rfl, Nat.le_of_ble_eq_true rfl⟩ (fun r μ2 hr => ?_)
  obtain ⟨rfl, hX⟩ := hr
  refine x_return (pc := 9) dX0_init_9 rfl ?_
  exact ⟨rfl, hX⟩
theorem k_i1 {q0 ci : Nat} {g : Nat → Int32} {kd ix wh gv : Int32} (hth : isTh ci) (I0 : AI μ0 μ q0 ci g []) : XM Γ zX1_init 2 6 49 [.ref q0, .int kd, .int ix, .int wh, .int gv] μ (fun r μ2 => r = none ∧ thN μ0 μ2 q0 ci g kd ix wh gv) := by
  refine XM.of 0 rfl (by decide) (Nat.le_of_ble_eq_true rfl) ?_
  refine x_aload_n (pc := 0) dX1_init_0 rfl ?_
  refine x_iload_n (pc := 1) dX1_init_1 rfl ?_
  refine x_iload_n (pc := 2) dX1_init_2 rfl ?_
  refine x_iload_n (pc := 3) dX1_init_3 rfl ?_
  refine x_iload (pc := 4) dX1_init_4 rfl ?_
  refine x_callI (pc := 6) (As := [.int _, .int _, .int _, .int _]) dX1_init_6 mX9_init rfl lk_1_1 (k_thInit (μ0 := μ0) hth I0) rfl rfl (Nat.le_of_ble_eq_true rfl) ⟨Nat.le_of_ble_eq_true rfl, Nat.le_of_ble_eq_true rfl⟩ ⟨Nat.le_of_ble_eq_true rfl, Nat.le_of_ble_eq_true rfl⟩ (fun r μ2 hr => ?_)
  obtain ⟨rfl, hX⟩ := hr
  refine x_return (pc := 9) dX1_init_9 rfl ?_
  exact ⟨rfl, hX⟩
theorem k_i3 {q0 ci : Nat} {g : Nat → Int32} {kd ix wh gv : Int32} (hth : isTh ci) (I0 : AI μ0 μ q0 ci g []) : XM Γ zX3_init 2 6 49 [.ref q0, .int kd, .int ix, .int wh, .int gv] μ (fun r μ2 => r = none ∧ thN μ0 μ2 q0 ci g kd ix wh gv) := by
  refine XM.of 0 rfl (by decide) (Nat.le_of_ble_eq_true rfl) ?_
  refine x_aload_n (pc := 0) dX3_init_0 rfl ?_
  refine x_iload_n (pc := 1) dX3_init_1 rfl ?_
  refine x_iload_n (pc := 2) dX3_init_2 rfl ?_
  refine x_iload_n (pc := 3) dX3_init_3 rfl ?_
  refine x_iload (pc := 4) dX3_init_4 rfl ?_
  refine x_callI (pc := 6) (As := [.int _, .int _, .int _, .int _]) dX3_init_6 mX9_init rfl lk_3_1 (k_thInit (μ0 := μ0) hth I0) rfl rfl (Nat.le_of_ble_eq_true rfl) ⟨Nat.le_of_ble_eq_true rfl, Nat.le_of_ble_eq_true rfl⟩ ⟨Nat.le_of_ble_eq_true rfl, Nat.le_of_ble_eq_true rfl⟩ (fun r μ2 hr => ?_)
  obtain ⟨rfl, hX⟩ := hr
  refine x_return (pc := 9) dX3_init_9 rfl ?_
  exact ⟨rfl, hX⟩
theorem k_i5 {q0 ci : Nat} {g : Nat → Int32} {kd ix wh gv : Int32} (hth : isTh ci) (I0 : AI μ0 μ q0 ci g []) : XM Γ zX5_init 3 6 49 [.ref q0, .int kd, .int ix, .int wh, .int gv] μ (fun r μ2 => r = none ∧ thN μ0 μ2 q0 ci g kd ix wh gv) := by
  refine XM.of 0 rfl (by decide) (Nat.le_of_ble_eq_true rfl) ?_
  refine x_aload_n (pc := 0) dX5_init_0 rfl ?_
  refine x_iload_n (pc := 1) dX5_init_1 rfl ?_
  refine x_iload_n (pc := 2) dX5_init_2 rfl ?_
  refine x_iload_n (pc := 3) dX5_init_3 rfl ?_
  refine x_iload (pc := 4) dX5_init_4 rfl ?_
  refine x_callI (pc := 6) (As := [.int _, .int _, .int _, .int _]) dX5_init_6 mX3_init rfl lk_5_1 (k_i3 (μ0 := μ0) hth I0) rfl rfl (Nat.le_of_ble_eq_true rfl) ⟨Nat.le_of_ble_eq_true rfl, Nat.le_of_ble_eq_true rfl⟩ ⟨Nat.le_of_ble_eq_true rfl, Nat.le_of_ble_eq_true rfl⟩ (fun r μ2 hr => ?_)
  obtain ⟨rfl, hX⟩ := hr
  refine x_return (pc := 9) dX5_init_9 rfl ?_
  exact ⟨rfl, hX⟩
theorem k_i10 {q0 ci : Nat} {g : Nat → Int32} {kd ix wh gv : Int32} (hth : isTh ci) (I0 : AI μ0 μ q0 ci g []) : XM Γ zX10_init 3 6 49 [.ref q0, .int kd, .int ix, .int wh, .int gv] μ (fun r μ2 => r = none ∧ thN μ0 μ2 q0 ci g kd ix wh gv) := by
  refine XM.of 0 rfl (by decide) (Nat.le_of_ble_eq_true rfl) ?_
  refine x_aload_n (pc := 0) dX10_init_0 rfl ?_
  refine x_iload_n (pc := 1) dX10_init_1 rfl ?_
  refine x_iload_n (pc := 2) dX10_init_2 rfl ?_
  refine x_iload_n (pc := 3) dX10_init_3 rfl ?_
  refine x_iload (pc := 4) dX10_init_4 rfl ?_
  refine x_callI (pc := 6) (As := [.int _, .int _, .int _, .int _]) dX10_init_6 mX1_init rfl lk_10_1 (k_i1 (μ0 := μ0) hth I0) rfl rfl (Nat.le_of_ble_eq_true rfl) ⟨Nat.le_of_ble_eq_true rfl, Nat.le_of_ble_eq_true rfl⟩ ⟨Nat.le_of_ble_eq_true rfl, Nat.le_of_ble_eq_true rfl⟩ (fun r μ2 hr => ?_)
  obtain ⟨rfl, hX⟩ := hr
  refine x_return (pc := 9) dX10_init_9 rfl ?_
  exact ⟨rfl, hX⟩
end M9990
