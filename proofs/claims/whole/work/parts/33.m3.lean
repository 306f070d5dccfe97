/-! the reference: sheets, counts, what is told -/
def bc (v : Nat) : Nat := v % 2 + v / 2 % 2 + v / 4 % 2 + v / 8 % 2
section M33
variable {Γ : Gm} {μ : Mem} {a : Ma} {σ : MS}
theorem c_bits0  : XM Γ zX12_bitsOf 1 0 0 [.int 0] μ (rt (.int 0) μ) := by
  refine XM.of 2 rfl (by decide) (Nat.le_of_ble_eq_true rfl) ?_
  refine x_iconst (pc := 0) (v := 0) dX12_bitsOf_0 rfl ?_
  refine x_istore_n (pc := 1) (lv2 := [_, _, _]) dX12_bitsOf_1 (by decide) rfl rfl ?_
  refine x_iload_n (pc := 2) dX12_bitsOf_2 rfl ?_
  refine x_istore_n (pc := 3) (lv2 := [_, _, _]) dX12_bitsOf_3 (by decide) rfl rfl ?_
  refine x_iload_n (pc := 4) dX12_bitsOf_4 rfl ?_
  refine x_if_eq (pc := 5) (tgt := 20) dX12_bitsOf_5 rfl (fun h_5 => ?_) (fun h_5 => absurd (by decide) h_5)
  refine x_iload_n (pc := 20) dX12_bitsOf_20 rfl ?_
  refine x_ireturn (pc := 21) dX12_bitsOf_21 rfl rfl ?_
  exact ⟨congrArg (fun z => some (Value.int z)) (by decide), rfl⟩
theorem c_bits1  : XM Γ zX12_bitsOf 1 0 0 [.int 1] μ (rt (.int 1) μ) := by
  refine XM.of 2 rfl (by decide) (Nat.le_of_ble_eq_true rfl) ?_
  refine x_iconst (pc := 0) (v := 0) dX12_bitsOf_0 rfl ?_
  refine x_istore_n (pc := 1) (lv2 := [_, _, _]) dX12_bitsOf_1 (by decide) rfl rfl ?_
  refine x_iload_n (pc := 2) dX12_bitsOf_2 rfl ?_
  refine x_istore_n (pc := 3) (lv2 := [_, _, _]) dX12_bitsOf_3 (by decide) rfl rfl ?_
  refine x_iload_n (pc := 4) dX12_bitsOf_4 rfl ?_
  refine x_if_eq (pc := 5) (tgt := 20) dX12_bitsOf_5 rfl (fun h_5 => absurd h_5 (by decide)) (fun h_5 => ?_)
  refine x_iinc (pc := 8) (lv2 := [_, _, _]) dX12_bitsOf_8 (by decide) rfl rfl (inc1 _) rfl ?_
  refine x_iload_n (pc := 11) dX12_bitsOf_11 rfl ?_
  refine x_iload_n (pc := 12) dX12_bitsOf_12 rfl ?_
  refine x_iconst (pc := 13) (v := 1) dX12_bitsOf_13 rfl ?_
  refine x_isub (pc := 14) dX12_bitsOf_14 ?_
  refine x_iand (pc := 15) dX12_bitsOf_15 ?_
  refine x_istore_n (pc := 16) (lv2 := [_, _, _]) dX12_bitsOf_16 (by decide) rfl rfl ?_
  refine x_goto (pc := 17) (tgt := 4) dX12_bitsOf_17 rfl ?_
  refine x_iload_n (pc := 4) dX12_bitsOf_4 rfl ?_
  refine x_if_eq (pc := 5) (tgt := 20) dX12_bitsOf_5 rfl (fun h_5 => ?_) (fun h_5 => absurd (by decide) h_5)
  refine x_iload_n (pc := 20) dX12_bitsOf_20 rfl ?_
  refine x_ireturn (pc := 21) dX12_bitsOf_21 rfl rfl ?_
  exact ⟨congrArg (fun z => some (Value.int z)) (by decide), rfl⟩
theorem c_bits2  : XM Γ zX12_bitsOf 1 0 0 [.int 2] μ (rt (.int 1) μ) := by
  refine XM.of 2 rfl (by decide) (Nat.le_of_ble_eq_true rfl) ?_
  refine x_iconst (pc := 0) (v := 0) dX12_bitsOf_0 rfl ?_
  refine x_istore_n (pc := 1) (lv2 := [_, _, _]) dX12_bitsOf_1 (by decide) rfl rfl ?_
  refine x_iload_n (pc := 2) dX12_bitsOf_2 rfl ?_
  refine x_istore_n (pc := 3) (lv2 := [_, _, _]) dX12_bitsOf_3 (by decide) rfl rfl ?_
  refine x_iload_n (pc := 4) dX12_bitsOf_4 rfl ?_
  refine x_if_eq (pc := 5) (tgt := 20) dX12_bitsOf_5 rfl (fun h_5 => absurd h_5 (by decide)) (fun h_5 => ?_)
  refine x_iinc (pc := 8) (lv2 := [_, _, _]) dX12_bitsOf_8 (by decide) rfl rfl (inc1 _) rfl ?_
  refine x_iload_n (pc := 11) dX12_bitsOf_11 rfl ?_
  refine x_iload_n (pc := 12) dX12_bitsOf_12 rfl ?_
  refine x_iconst (pc := 13) (v := 1) dX12_bitsOf_13 rfl ?_
  refine x_isub (pc := 14) dX12_bitsOf_14 ?_
  refine x_iand (pc := 15) dX12_bitsOf_15 ?_
  refine x_istore_n (pc := 16) (lv2 := [_, _, _]) dX12_bitsOf_16 (by decide) rfl rfl ?_
  refine x_goto (pc := 17) (tgt := 4) dX12_bitsOf_17 rfl ?_
  refine x_iload_n (pc := 4) dX12_bitsOf_4 rfl ?_
  refine x_if_eq (pc := 5) (tgt := 20) dX12_bitsOf_5 rfl (fun h_5 => ?_) (fun h_5 => absurd (by decide) h_5)
  refine x_iload_n (pc := 20) dX12_bitsOf_20 rfl ?_
  refine x_ireturn (pc := 21) dX12_bitsOf_21 rfl rfl ?_
  exact ⟨congrArg (fun z => some (Value.int z)) (by decide), rfl⟩
theorem c_bits3  : XM Γ zX12_bitsOf 1 0 0 [.int 3] μ (rt (.int 2) μ) := by
  refine XM.of 2 rfl (by decide) (Nat.le_of_ble_eq_true rfl) ?_
  refine x_iconst (pc := 0) (v := 0) dX12_bitsOf_0 rfl ?_
  refine x_istore_n (pc := 1) (lv2 := [_, _, _]) dX12_bitsOf_1 (by decide) rfl rfl ?_
  refine x_iload_n (pc := 2) dX12_bitsOf_2 rfl ?_
  refine x_istore_n (pc := 3) (lv2 := [_, _, _]) dX12_bitsOf_3 (by decide) rfl rfl ?_
  refine x_iload_n (pc := 4) dX12_bitsOf_4 rfl ?_
  refine x_if_eq (pc := 5) (tgt := 20) dX12_bitsOf_5 rfl (fun h_5 => absurd h_5 (by decide)) (fun h_5 => ?_)
  refine x_iinc (pc := 8) (lv2 := [_, _, _]) dX12_bitsOf_8 (by decide) rfl rfl (inc1 _) rfl ?_
  refine x_iload_n (pc := 11) dX12_bitsOf_11 rfl ?_
  refine x_iload_n (pc := 12) dX12_bitsOf_12 rfl ?_
  refine x_iconst (pc := 13) (v := 1) dX12_bitsOf_13 rfl ?_
  refine x_isub (pc := 14) dX12_bitsOf_14 ?_
  refine x_iand (pc := 15) dX12_bitsOf_15 ?_
  refine x_istore_n (pc := 16) (lv2 := [_, _, _]) dX12_bitsOf_16 (by decide) rfl rfl ?_
  refine x_goto (pc := 17) (tgt := 4) dX12_bitsOf_17 rfl ?_
  refine x_iload_n (pc := 4) dX12_bitsOf_4 rfl ?_
  refine x_if_eq (pc := 5) (tgt := 20) dX12_bitsOf_5 rfl (fun h_5 => absurd h_5 (by decide)) (fun h_5 => ?_)
  refine x_iinc (pc := 8) (lv2 := [_, _, _]) dX12_bitsOf_8 (by decide) rfl rfl (inc1 _) rfl ?_
  refine x_iload_n (pc := 11) dX12_bitsOf_11 rfl ?_
  refine x_iload_n (pc := 12) dX12_bitsOf_12 rfl ?_
  refine x_iconst (pc := 13) (v := 1) dX12_bitsOf_13 rfl ?_
  refine x_isub (pc := 14) dX12_bitsOf_14 ?_
  refine x_iand (pc := 15) dX12_bitsOf_15 ?_
  refine x_istore_n (pc := 16) (lv2 := [_, _, _]) dX12_bitsOf_16 (by decide) rfl rfl ?_
  refine x_goto (pc := 17) (tgt := 4) dX12_bitsOf_17 rfl ?_
  refine x_iload_n (pc := 4) dX12_bitsOf_4 rfl ?_
  refine x_if_eq (pc := 5) (tgt := 20) dX12_bitsOf_5 rfl (fun h_5 => ?_) (fun h_5 => absurd (by decide) h_5)
  refine x_iload_n (pc := 20) dX12_bitsOf_20 rfl ?_
  refine x_ireturn (pc := 21) dX12_bitsOf_21 rfl rfl ?_
  exact ⟨congrArg (fun z => some (Value.int z)) (by decide), rfl⟩
theorem c_bits4  : XM Γ zX12_bitsOf 1 0 0 [.int 4] μ (rt (.int 1) μ) := by
  refine XM.of 2 rfl (by decide) (Nat.le_of_ble_eq_true rfl) ?_
  refine x_iconst (pc := 0) (v := 0) dX12_bitsOf_0 rfl ?_
  refine x_istore_n (pc := 1) (lv2 := [_, _, _]) dX12_bitsOf_1 (by decide) rfl rfl ?_
  refine x_iload_n (pc := 2) dX12_bitsOf_2 rfl ?_
  refine x_istore_n (pc := 3) (lv2 := [_, _, _]) dX12_bitsOf_3 (by decide) rfl rfl ?_
  refine x_iload_n (pc := 4) dX12_bitsOf_4 rfl ?_
  refine x_if_eq (pc := 5) (tgt := 20) dX12_bitsOf_5 rfl (fun h_5 => absurd h_5 (by decide)) (fun h_5 => ?_)
  refine x_iinc (pc := 8) (lv2 := [_, _, _]) dX12_bitsOf_8 (by decide) rfl rfl (inc1 _) rfl ?_
  refine x_iload_n (pc := 11) dX12_bitsOf_11 rfl ?_
  refine x_iload_n (pc := 12) dX12_bitsOf_12 rfl ?_
  refine x_iconst (pc := 13) (v := 1) dX12_bitsOf_13 rfl ?_
  refine x_isub (pc := 14) dX12_bitsOf_14 ?_
  refine x_iand (pc := 15) dX12_bitsOf_15 ?_
  refine x_istore_n (pc := 16) (lv2 := [_, _, _]) dX12_bitsOf_16 (by decide) rfl rfl ?_
  refine x_goto (pc := 17) (tgt := 4) dX12_bitsOf_17 rfl ?_
  refine x_iload_n (pc := 4) dX12_bitsOf_4 rfl ?_
  refine x_if_eq (pc := 5) (tgt := 20) dX12_bitsOf_5 rfl (fun h_5 => ?_) (fun h_5 => absurd (by decide) h_5)
  refine x_iload_n (pc := 20) dX12_bitsOf_20 rfl ?_
  refine x_ireturn (pc := 21) dX12_bitsOf_21 rfl rfl ?_
  exact ⟨congrArg (fun z => some (Value.int z)) (by decide), rfl⟩
theorem c_bits5  : XM Γ zX12_bitsOf 1 0 0 [.int 5] μ (rt (.int 2) μ) := by
  refine XM.of 2 rfl (by decide) (Nat.le_of_ble_eq_true rfl) ?_
  refine x_iconst (pc := 0) (v := 0) dX12_bitsOf_0 rfl ?_
  refine x_istore_n (pc := 1) (lv2 := [_, _, _]) dX12_bitsOf_1 (by decide) rfl rfl ?_
  refine x_iload_n (pc := 2) dX12_bitsOf_2 rfl ?_
  refine x_istore_n (pc := 3) (lv2 := [_, _, _]) dX12_bitsOf_3 (by decide) rfl rfl ?_
  refine x_iload_n (pc := 4) dX12_bitsOf_4 rfl ?_
  refine x_if_eq (pc := 5) (tgt := 20) dX12_bitsOf_5 rfl (fun h_5 => absurd h_5 (by decide)) (fun h_5 => ?_)
  refine x_iinc (pc := 8) (lv2 := [_, _, _]) dX12_bitsOf_8 (by decide) rfl rfl (inc1 _) rfl ?_
  refine x_iload_n (pc := 11) dX12_bitsOf_11 rfl ?_
  refine x_iload_n (pc := 12) dX12_bitsOf_12 rfl ?_
  refine x_iconst (pc := 13) (v := 1) dX12_bitsOf_13 rfl ?_
  refine x_isub (pc := 14) dX12_bitsOf_14 ?_
  refine x_iand (pc := 15) dX12_bitsOf_15 ?_
  refine x_istore_n (pc := 16) (lv2 := [_, _, _]) dX12_bitsOf_16 (by decide) rfl rfl ?_
  refine x_goto (pc := 17) (tgt := 4) dX12_bitsOf_17 rfl ?_
  refine x_iload_n (pc := 4) dX12_bitsOf_4 rfl ?_
  refine x_if_eq (pc := 5) (tgt := 20) dX12_bitsOf_5 rfl (fun h_5 => absurd h_5 (by decide)) (fun h_5 => ?_)
  refine x_iinc (pc := 8) (lv2 := [_, _, _]) dX12_bitsOf_8 (by decide) rfl rfl (inc1 _) rfl ?_
  refine x_iload_n (pc := 11) dX12_bitsOf_11 rfl ?_
  refine x_iload_n (pc := 12) dX12_bitsOf_12 rfl ?_
  refine x_iconst (pc := 13) (v := 1) dX12_bitsOf_13 rfl ?_
  refine x_isub (pc := 14) dX12_bitsOf_14 ?_
  refine x_iand (pc := 15) dX12_bitsOf_15 ?_
  refine x_istore_n (pc := 16) (lv2 := [_, _, _]) dX12_bitsOf_16 (by decide) rfl rfl ?_
  refine x_goto (pc := 17) (tgt := 4) dX12_bitsOf_17 rfl ?_
  refine x_iload_n (pc := 4) dX12_bitsOf_4 rfl ?_
  refine x_if_eq (pc := 5) (tgt := 20) dX12_bitsOf_5 rfl (fun h_5 => ?_) (fun h_5 => absurd (by decide) h_5)
  refine x_iload_n (pc := 20) dX12_bitsOf_20 rfl ?_
  refine x_ireturn (pc := 21) dX12_bitsOf_21 rfl rfl ?_
  exact ⟨congrArg (fun z => some (Value.int z)) (by decide), rfl⟩
theorem c_bits6  : XM Γ zX12_bitsOf 1 0 0 [.int 6] μ (rt (.int 2) μ) := by
  refine XM.of 2 rfl (by decide) (Nat.le_of_ble_eq_true rfl) ?_
  refine x_iconst (pc := 0) (v := 0) dX12_bitsOf_0 rfl ?_
  refine x_istore_n (pc := 1) (lv2 := [_, _, _]) dX12_bitsOf_1 (by decide) rfl rfl ?_
  refine x_iload_n (pc := 2) dX12_bitsOf_2 rfl ?_
  refine x_istore_n (pc := 3) (lv2 := [_, _, _]) dX12_bitsOf_3 (by decide) rfl rfl ?_
  refine x_iload_n (pc := 4) dX12_bitsOf_4 rfl ?_
  refine x_if_eq (pc := 5) (tgt := 20) dX12_bitsOf_5 rfl (fun h_5 => absurd h_5 (by decide)) (fun h_5 => ?_)
  refine x_iinc (pc := 8) (lv2 := [_, _, _]) dX12_bitsOf_8 (by decide) rfl rfl (inc1 _) rfl ?_
  refine x_iload_n (pc := 11) dX12_bitsOf_11 rfl ?_
  refine x_iload_n (pc := 12) dX12_bitsOf_12 rfl ?_
  refine x_iconst (pc := 13) (v := 1) dX12_bitsOf_13 rfl ?_
  refine x_isub (pc := 14) dX12_bitsOf_14 ?_
  refine x_iand (pc := 15) dX12_bitsOf_15 ?_
  refine x_istore_n (pc := 16) (lv2 := [_, _, _]) dX12_bitsOf_16 (by decide) rfl rfl ?_
  refine x_goto (pc := 17) (tgt := 4) dX12_bitsOf_17 rfl ?_
  refine x_iload_n (pc := 4) dX12_bitsOf_4 rfl ?_
  refine x_if_eq (pc := 5) (tgt := 20) dX12_bitsOf_5 rfl (fun h_5 => absurd h_5 (by decide)) (fun h_5 => ?_)
  refine x_iinc (pc := 8) (lv2 := [_, _, _]) dX12_bitsOf_8 (by decide) rfl rfl (inc1 _) rfl ?_
  refine x_iload_n (pc := 11) dX12_bitsOf_11 rfl ?_
  refine x_iload_n (pc := 12) dX12_bitsOf_12 rfl ?_
  refine x_iconst (pc := 13) (v := 1) dX12_bitsOf_13 rfl ?_
  refine x_isub (pc := 14) dX12_bitsOf_14 ?_
  refine x_iand (pc := 15) dX12_bitsOf_15 ?_
  refine x_istore_n (pc := 16) (lv2 := [_, _, _]) dX12_bitsOf_16 (by decide) rfl rfl ?_
  refine x_goto (pc := 17) (tgt := 4) dX12_bitsOf_17 rfl ?_
  refine x_iload_n (pc := 4) dX12_bitsOf_4 rfl ?_
  refine x_if_eq (pc := 5) (tgt := 20) dX12_bitsOf_5 rfl (fun h_5 => ?_) (fun h_5 => absurd (by decide) h_5)
  refine x_iload_n (pc := 20) dX12_bitsOf_20 rfl ?_
  refine x_ireturn (pc := 21) dX12_bitsOf_21 rfl rfl ?_
  exact ⟨congrArg (fun z => some (Value.int z)) (by decide), rfl⟩
theorem c_bits7  : XM Γ zX12_bitsOf 1 0 0 [.int 7] μ (rt (.int 3) μ) := by
  refine XM.of 2 rfl (by decide) (Nat.le_of_ble_eq_true rfl) ?_
  refine x_iconst (pc := 0) (v := 0) dX12_bitsOf_0 rfl ?_
  refine x_istore_n (pc := 1) (lv2 := [_, _, _]) dX12_bitsOf_1 (by decide) rfl rfl ?_
  refine x_iload_n (pc := 2) dX12_bitsOf_2 rfl ?_
  refine x_istore_n (pc := 3) (lv2 := [_, _, _]) dX12_bitsOf_3 (by decide) rfl rfl ?_
  refine x_iload_n (pc := 4) dX12_bitsOf_4 rfl ?_
  refine x_if_eq (pc := 5) (tgt := 20) dX12_bitsOf_5 rfl (fun h_5 => absurd h_5 (by decide)) (fun h_5 => ?_)
  refine x_iinc (pc := 8) (lv2 := [_, _, _]) dX12_bitsOf_8 (by decide) rfl rfl (inc1 _) rfl ?_
  refine x_iload_n (pc := 11) dX12_bitsOf_11 rfl ?_
  refine x_iload_n (pc := 12) dX12_bitsOf_12 rfl ?_
  refine x_iconst (pc := 13) (v := 1) dX12_bitsOf_13 rfl ?_
  refine x_isub (pc := 14) dX12_bitsOf_14 ?_
  refine x_iand (pc := 15) dX12_bitsOf_15 ?_
  refine x_istore_n (pc := 16) (lv2 := [_, _, _]) dX12_bitsOf_16 (by decide) rfl rfl ?_
  refine x_goto (pc := 17) (tgt := 4) dX12_bitsOf_17 rfl ?_
  refine x_iload_n (pc := 4) dX12_bitsOf_4 rfl ?_
  refine x_if_eq (pc := 5) (tgt := 20) dX12_bitsOf_5 rfl (fun h_5 => absurd h_5 (by decide)) (fun h_5 => ?_)
  refine x_iinc (pc := 8) (lv2 := [_, _, _]) dX12_bitsOf_8 (by decide) rfl rfl (inc1 _) rfl ?_
  refine x_iload_n (pc := 11) dX12_bitsOf_11 rfl ?_
  refine x_iload_n (pc := 12) dX12_bitsOf_12 rfl ?_
  refine x_iconst (pc := 13) (v := 1) dX12_bitsOf_13 rfl ?_
  refine x_isub (pc := 14) dX12_bitsOf_14 ?_
  refine x_iand (pc := 15) dX12_bitsOf_15 ?_
  refine x_istore_n (pc := 16) (lv2 := [_, _, _]) dX12_bitsOf_16 (by decide) rfl rfl ?_
  refine x_goto (pc := 17) (tgt := 4) dX12_bitsOf_17 rfl ?_
  refine x_iload_n (pc := 4) dX12_bitsOf_4 rfl ?_
  refine x_if_eq (pc := 5) (tgt := 20) dX12_bitsOf_5 rfl (fun h_5 => absurd h_5 (by decide)) (fun h_5 => ?_)
  refine x_iinc (pc := 8) (lv2 := [_, _, _]) dX12_bitsOf_8 (by decide) rfl rfl (inc1 _) rfl ?_
  refine x_iload_n (pc := 11) dX12_bitsOf_11 rfl ?_
  refine x_iload_n (pc := 12) dX12_bitsOf_12 rfl ?_
  refine x_iconst (pc := 13) (v := 1) dX12_bitsOf_13 rfl ?_
  refine x_isub (pc := 14) dX12_bitsOf_14 ?_
  refine x_iand (pc := 15) dX12_bitsOf_15 ?_
  refine x_istore_n (pc := 16) (lv2 := [_, _, _]) dX12_bitsOf_16 (by decide) rfl rfl ?_
  refine x_goto (pc := 17) (tgt := 4) dX12_bitsOf_17 rfl ?_
  refine x_iload_n (pc := 4) dX12_bitsOf_4 rfl ?_
  refine x_if_eq (pc := 5) (tgt := 20) dX12_bitsOf_5 rfl (fun h_5 => ?_) (fun h_5 => absurd (by decide) h_5)
  refine x_iload_n (pc := 20) dX12_bitsOf_20 rfl ?_
  refine x_ireturn (pc := 21) dX12_bitsOf_21 rfl rfl ?_
  exact ⟨congrArg (fun z => some (Value.int z)) (by decide), rfl⟩
theorem c_bits8  : XM Γ zX12_bitsOf 1 0 0 [.int 8] μ (rt (.int 1) μ) := by
  refine XM.of 2 rfl (by decide) (Nat.le_of_ble_eq_true rfl) ?_
  refine x_iconst (pc := 0) (v := 0) dX12_bitsOf_0 rfl ?_
  refine x_istore_n (pc := 1) (lv2 := [_, _, _]) dX12_bitsOf_1 (by decide) rfl rfl ?_
  refine x_iload_n (pc := 2) dX12_bitsOf_2 rfl ?_
  refine x_istore_n (pc := 3) (lv2 := [_, _, _]) dX12_bitsOf_3 (by decide) rfl rfl ?_
  refine x_iload_n (pc := 4) dX12_bitsOf_4 rfl ?_
  refine x_if_eq (pc := 5) (tgt := 20) dX12_bitsOf_5 rfl (fun h_5 => absurd h_5 (by decide)) (fun h_5 => ?_)
  refine x_iinc (pc := 8) (lv2 := [_, _, _]) dX12_bitsOf_8 (by decide) rfl rfl (inc1 _) rfl ?_
  refine x_iload_n (pc := 11) dX12_bitsOf_11 rfl ?_
  refine x_iload_n (pc := 12) dX12_bitsOf_12 rfl ?_
  refine x_iconst (pc := 13) (v := 1) dX12_bitsOf_13 rfl ?_
  refine x_isub (pc := 14) dX12_bitsOf_14 ?_
  refine x_iand (pc := 15) dX12_bitsOf_15 ?_
  refine x_istore_n (pc := 16) (lv2 := [_, _, _]) dX12_bitsOf_16 (by decide) rfl rfl ?_
  refine x_goto (pc := 17) (tgt := 4) dX12_bitsOf_17 rfl ?_
  refine x_iload_n (pc := 4) dX12_bitsOf_4 rfl ?_
  refine x_if_eq (pc := 5) (tgt := 20) dX12_bitsOf_5 rfl (fun h_5 => ?_) (fun h_5 => absurd (by decide) h_5)
  refine x_iload_n (pc := 20) dX12_bitsOf_20 rfl ?_
  refine x_ireturn (pc := 21) dX12_bitsOf_21 rfl rfl ?_
  exact ⟨congrArg (fun z => some (Value.int z)) (by decide), rfl⟩
theorem c_bits9  : XM Γ zX12_bitsOf 1 0 0 [.int 9] μ (rt (.int 2) μ) := by
  refine XM.of 2 rfl (by decide) (Nat.le_of_ble_eq_true rfl) ?_
  refine x_iconst (pc := 0) (v := 0) dX12_bitsOf_0 rfl ?_
  refine x_istore_n (pc := 1) (lv2 := [_, _, _]) dX12_bitsOf_1 (by decide) rfl rfl ?_
  refine x_iload_n (pc := 2) dX12_bitsOf_2 rfl ?_
  refine x_istore_n (pc := 3) (lv2 := [_, _, _]) dX12_bitsOf_3 (by decide) rfl rfl ?_
  refine x_iload_n (pc := 4) dX12_bitsOf_4 rfl ?_
  refine x_if_eq (pc := 5) (tgt := 20) dX12_bitsOf_5 rfl (fun h_5 => absurd h_5 (by decide)) (fun h_5 => ?_)
  refine x_iinc (pc := 8) (lv2 := [_, _, _]) dX12_bitsOf_8 (by decide) rfl rfl (inc1 _) rfl ?_
  refine x_iload_n (pc := 11) dX12_bitsOf_11 rfl ?_
  refine x_iload_n (pc := 12) dX12_bitsOf_12 rfl ?_
  refine x_iconst (pc := 13) (v := 1) dX12_bitsOf_13 rfl ?_
  refine x_isub (pc := 14) dX12_bitsOf_14 ?_
  refine x_iand (pc := 15) dX12_bitsOf_15 ?_
  refine x_istore_n (pc := 16) (lv2 := [_, _, _]) dX12_bitsOf_16 (by decide) rfl rfl ?_
  refine x_goto (pc := 17) (tgt := 4) dX12_bitsOf_17 rfl ?_
  refine x_iload_n (pc := 4) dX12_bitsOf_4 rfl ?_
  refine x_if_eq (pc := 5) (tgt := 20) dX12_bitsOf_5 rfl (fun h_5 => absurd h_5 (by decide)) (fun h_5 => ?_)
  refine x_iinc (pc := 8) (lv2 := [_, _, _]) dX12_bitsOf_8 (by decide) rfl rfl (inc1 _) rfl ?_
  refine x_iload_n (pc := 11) dX12_bitsOf_11 rfl ?_
  refine x_iload_n (pc := 12) dX12_bitsOf_12 rfl ?_
  refine x_iconst (pc := 13) (v := 1) dX12_bitsOf_13 rfl ?_
  refine x_isub (pc := 14) dX12_bitsOf_14 ?_
  refine x_iand (pc := 15) dX12_bitsOf_15 ?_
  refine x_istore_n (pc := 16) (lv2 := [_, _, _]) dX12_bitsOf_16 (by decide) rfl rfl ?_
  refine x_goto (pc := 17) (tgt := 4) dX12_bitsOf_17 rfl ?_
  refine x_iload_n (pc := 4) dX12_bitsOf_4 rfl ?_
  refine x_if_eq (pc := 5) (tgt := 20) dX12_bitsOf_5 rfl (fun h_5 => ?_) (fun h_5 => absurd (by decide) h_5)
  refine x_iload_n (pc := 20) dX12_bitsOf_20 rfl ?_
  refine x_ireturn (pc := 21) dX12_bitsOf_21 rfl rfl ?_
  exact ⟨congrArg (fun z => some (Value.int z)) (by decide), rfl⟩
theorem c_bits10  : XM Γ zX12_bitsOf 1 0 0 [.int 10] μ (rt (.int 2) μ) := by
  refine XM.of 2 rfl (by decide) (Nat.le_of_ble_eq_true rfl) ?_
  refine x_iconst (pc := 0) (v := 0) dX12_bitsOf_0 rfl ?_
  refine x_istore_n (pc := 1) (lv2 := [_, _, _]) dX12_bitsOf_1 (by decide) rfl rfl ?_
  refine x_iload_n (pc := 2) dX12_bitsOf_2 rfl ?_
  refine x_istore_n (pc := 3) (lv2 := [_, _, _]) dX12_bitsOf_3 (by decide) rfl rfl ?_
  refine x_iload_n (pc := 4) dX12_bitsOf_4 rfl ?_
  refine x_if_eq (pc := 5) (tgt := 20) dX12_bitsOf_5 rfl (fun h_5 => absurd h_5 (by decide)) (fun h_5 => ?_)
  refine x_iinc (pc := 8) (lv2 := [_, _, _]) dX12_bitsOf_8 (by decide) rfl rfl (inc1 _) rfl ?_
  refine x_iload_n (pc := 11) dX12_bitsOf_11 rfl ?_
  refine x_iload_n (pc := 12) dX12_bitsOf_12 rfl ?_
  refine x_iconst (pc := 13) (v := 1) dX12_bitsOf_13 rfl ?_
  refine x_isub (pc := 14) dX12_bitsOf_14 ?_
  refine x_iand (pc := 15) dX12_bitsOf_15 ?_
  refine x_istore_n (pc := 16) (lv2 := [_, _, _]) dX12_bitsOf_16 (by decide) rfl rfl ?_
  refine x_goto (pc := 17) (tgt := 4) dX12_bitsOf_17 rfl ?_
  refine x_iload_n (pc := 4) dX12_bitsOf_4 rfl ?_
  refine x_if_eq (pc := 5) (tgt := 20) dX12_bitsOf_5 rfl (fun h_5 => absurd h_5 (by decide)) (fun h_5 => ?_)
  refine x_iinc (pc := 8) (lv2 := [_, _, _]) dX12_bitsOf_8 (by decide) rfl rfl (inc1 _) rfl ?_
  refine x_iload_n (pc := 11) dX12_bitsOf_11 rfl ?_
  refine x_iload_n (pc := 12) dX12_bitsOf_12 rfl ?_
  refine x_iconst (pc := 13) (v := 1) dX12_bitsOf_13 rfl ?_
  refine x_isub (pc := 14) dX12_bitsOf_14 ?_
  refine x_iand (pc := 15) dX12_bitsOf_15 ?_
  refine x_istore_n (pc := 16) (lv2 := [_, _, _]) dX12_bitsOf_16 (by decide) rfl rfl ?_
  refine x_goto (pc := 17) (tgt := 4) dX12_bitsOf_17 rfl ?_
  refine x_iload_n (pc := 4) dX12_bitsOf_4 rfl ?_
  refine x_if_eq (pc := 5) (tgt := 20) dX12_bitsOf_5 rfl (fun h_5 => ?_) (fun h_5 => absurd (by decide) h_5)
  refine x_iload_n (pc := 20) dX12_bitsOf_20 rfl ?_
  refine x_ireturn (pc := 21) dX12_bitsOf_21 rfl rfl ?_
  exact ⟨congrArg (fun z => some (Value.int z)) (by decide), rfl⟩
theorem c_bits11  : XM Γ zX12_bitsOf 1 0 0 [.int 11] μ (rt (.int 3) μ) := by
  refine XM.of 2 rfl (by decide) (Nat.le_of_ble_eq_true rfl) ?_
  refine x_iconst (pc := 0) (v := 0) dX12_bitsOf_0 rfl ?_
  refine x_istore_n (pc := 1) (lv2 := [_, _, _]) dX12_bitsOf_1 (by decide) rfl rfl ?_
  refine x_iload_n (pc := 2) dX12_bitsOf_2 rfl ?_
  refine x_istore_n (pc := 3) (lv2 := [_, _, _]) dX12_bitsOf_3 (by decide) rfl rfl ?_
  refine x_iload_n (pc := 4) dX12_bitsOf_4 rfl ?_
  refine x_if_eq (pc := 5) (tgt := 20) dX12_bitsOf_5 rfl (fun h_5 => absurd h_5 (by decide)) (fun h_5 => ?_)
  refine x_iinc (pc := 8) (lv2 := [_, _, _]) dX12_bitsOf_8 (by decide) rfl rfl (inc1 _) rfl ?_
  refine x_iload_n (pc := 11) dX12_bitsOf_11 rfl ?_
  refine x_iload_n (pc := 12) dX12_bitsOf_12 rfl ?_
  refine x_iconst (pc := 13) (v := 1) dX12_bitsOf_13 rfl ?_
  refine x_isub (pc := 14) dX12_bitsOf_14 ?_
  refine x_iand (pc := 15) dX12_bitsOf_15 ?_
  refine x_istore_n (pc := 16) (lv2 := [_, _, _]) dX12_bitsOf_16 (by decide) rfl rfl ?_
  refine x_goto (pc := 17) (tgt := 4) dX12_bitsOf_17 rfl ?_
  refine x_iload_n (pc := 4) dX12_bitsOf_4 rfl ?_
  refine x_if_eq (pc := 5) (tgt := 20) dX12_bitsOf_5 rfl (fun h_5 => absurd h_5 (by decide)) (fun h_5 => ?_)
  refine x_iinc (pc := 8) (lv2 := [_, _, _]) dX12_bitsOf_8 (by decide) rfl rfl (inc1 _) rfl ?_
  refine x_iload_n (pc := 11) dX12_bitsOf_11 rfl ?_
  refine x_iload_n (pc := 12) dX12_bitsOf_12 rfl ?_
  refine x_iconst (pc := 13) (v := 1) dX12_bitsOf_13 rfl ?_
  refine x_isub (pc := 14) dX12_bitsOf_14 ?_
  refine x_iand (pc := 15) dX12_bitsOf_15 ?_
  refine x_istore_n (pc := 16) (lv2 := [_, _, _]) dX12_bitsOf_16 (by decide) rfl rfl ?_
  refine x_goto (pc := 17) (tgt := 4) dX12_bitsOf_17 rfl ?_
  refine x_iload_n (pc := 4) dX12_bitsOf_4 rfl ?_
  refine x_if_eq (pc := 5) (tgt := 20) dX12_bitsOf_5 rfl (fun h_5 => absurd h_5 (by decide)) (fun h_5 => ?_)
  refine x_iinc (pc := 8) (lv2 := [_, _, _]) dX12_bitsOf_8 (by decide) rfl rfl (inc1 _) rfl ?_
  refine x_iload_n (pc := 11) dX12_bitsOf_11 rfl ?_
  refine x_iload_n (pc := 12) dX12_bitsOf_12 rfl ?_
  refine x_iconst (pc := 13) (v := 1) dX12_bitsOf_13 rfl ?_
  refine x_isub (pc := 14) dX12_bitsOf_14 ?_
  refine x_iand (pc := 15) dX12_bitsOf_15 ?_
  refine x_istore_n (pc := 16) (lv2 := [_, _, _]) dX12_bitsOf_16 (by decide) rfl rfl ?_
  refine x_goto (pc := 17) (tgt := 4) dX12_bitsOf_17 rfl ?_
  refine x_iload_n (pc := 4) dX12_bitsOf_4 rfl ?_
  refine x_if_eq (pc := 5) (tgt := 20) dX12_bitsOf_5 rfl (fun h_5 => ?_) (fun h_5 => absurd (by decide) h_5)
  refine x_iload_n (pc := 20) dX12_bitsOf_20 rfl ?_
  refine x_ireturn (pc := 21) dX12_bitsOf_21 rfl rfl ?_
  exact ⟨congrArg (fun z => some (Value.int z)) (by decide), rfl⟩
theorem c_bits12  : XM Γ zX12_bitsOf 1 0 0 [.int 12] μ (rt (.int 2) μ) := by
  refine XM.of 2 rfl (by decide) (Nat.le_of_ble_eq_true rfl) ?_
  refine x_iconst (pc := 0) (v := 0) dX12_bitsOf_0 rfl ?_
  refine x_istore_n (pc := 1) (lv2 := [_, _, _]) dX12_bitsOf_1 (by decide) rfl rfl ?_
  refine x_iload_n (pc := 2) dX12_bitsOf_2 rfl ?_
  refine x_istore_n (pc := 3) (lv2 := [_, _, _]) dX12_bitsOf_3 (by decide) rfl rfl ?_
  refine x_iload_n (pc := 4) dX12_bitsOf_4 rfl ?_
  refine x_if_eq (pc := 5) (tgt := 20) dX12_bitsOf_5 rfl (fun h_5 => absurd h_5 (by decide)) (fun h_5 => ?_)
  refine x_iinc (pc := 8) (lv2 := [_, _, _]) dX12_bitsOf_8 (by decide) rfl rfl (inc1 _) rfl ?_
  refine x_iload_n (pc := 11) dX12_bitsOf_11 rfl ?_
  refine x_iload_n (pc := 12) dX12_bitsOf_12 rfl ?_
  refine x_iconst (pc := 13) (v := 1) dX12_bitsOf_13 rfl ?_
  refine x_isub (pc := 14) dX12_bitsOf_14 ?_
  refine x_iand (pc := 15) dX12_bitsOf_15 ?_
  refine x_istore_n (pc := 16) (lv2 := [_, _, _]) dX12_bitsOf_16 (by decide) rfl rfl ?_
  refine x_goto (pc := 17) (tgt := 4) dX12_bitsOf_17 rfl ?_
  refine x_iload_n (pc := 4) dX12_bitsOf_4 rfl ?_
  refine x_if_eq (pc := 5) (tgt := 20) dX12_bitsOf_5 rfl (fun h_5 => absurd h_5 (by decide)) (fun h_5 => ?_)
  refine x_iinc (pc := 8) (lv2 := [_, _, _]) dX12_bitsOf_8 (by decide) rfl rfl (inc1 _) rfl ?_
  refine x_iload_n (pc := 11) dX12_bitsOf_11 rfl ?_
  refine x_iload_n (pc := 12) dX12_bitsOf_12 rfl ?_
  refine x_iconst (pc := 13) (v := 1) dX12_bitsOf_13 rfl ?_
  refine x_isub (pc := 14) dX12_bitsOf_14 ?_
  refine x_iand (pc := 15) dX12_bitsOf_15 ?_
  refine x_istore_n (pc := 16) (lv2 := [_, _, _]) dX12_bitsOf_16 (by decide) rfl rfl ?_
  refine x_goto (pc := 17) (tgt := 4) dX12_bitsOf_17 rfl ?_
  refine x_iload_n (pc := 4) dX12_bitsOf_4 rfl ?_
  refine x_if_eq (pc := 5) (tgt := 20) dX12_bitsOf_5 rfl (fun h_5 => ?_) (fun h_5 => absurd (by decide) h_5)
  refine x_iload_n (pc := 20) dX12_bitsOf_20 rfl ?_
  refine x_ireturn (pc := 21) dX12_bitsOf_21 rfl rfl ?_
  exact ⟨congrArg (fun z => some (Value.int z)) (by decide), rfl⟩
theorem c_bits13  : XM Γ zX12_bitsOf 1 0 0 [.int 13] μ (rt (.int 3) μ) := by
  refine XM.of 2 rfl (by decide) (Nat.le_of_ble_eq_true rfl) ?_
  refine x_iconst (pc := 0) (v := 0) dX12_bitsOf_0 rfl ?_
  refine x_istore_n (pc := 1) (lv2 := [_, _, _]) dX12_bitsOf_1 (by decide) rfl rfl ?_
  refine x_iload_n (pc := 2) dX12_bitsOf_2 rfl ?_
  refine x_istore_n (pc := 3) (lv2 := [_, _, _]) dX12_bitsOf_3 (by decide) rfl rfl ?_
  refine x_iload_n (pc := 4) dX12_bitsOf_4 rfl ?_
  refine x_if_eq (pc := 5) (tgt := 20) dX12_bitsOf_5 rfl (fun h_5 => absurd h_5 (by decide)) (fun h_5 => ?_)
  refine x_iinc (pc := 8) (lv2 := [_, _, _]) dX12_bitsOf_8 (by decide) rfl rfl (inc1 _) rfl ?_
  refine x_iload_n (pc := 11) dX12_bitsOf_11 rfl ?_
  refine x_iload_n (pc := 12) dX12_bitsOf_12 rfl ?_
  refine x_iconst (pc := 13) (v := 1) dX12_bitsOf_13 rfl ?_
  refine x_isub (pc := 14) dX12_bitsOf_14 ?_
  refine x_iand (pc := 15) dX12_bitsOf_15 ?_
  refine x_istore_n (pc := 16) (lv2 := [_, _, _]) dX12_bitsOf_16 (by decide) rfl rfl ?_
  refine x_goto (pc := 17) (tgt := 4) dX12_bitsOf_17 rfl ?_
  refine x_iload_n (pc := 4) dX12_bitsOf_4 rfl ?_
  refine x_if_eq (pc := 5) (tgt := 20) dX12_bitsOf_5 rfl (fun h_5 => absurd h_5 (by decide)) (fun h_5 => ?_)
  refine x_iinc (pc := 8) (lv2 := [_, _, _]) dX12_bitsOf_8 (by decide) rfl rfl (inc1 _) rfl ?_
  refine x_iload_n (pc := 11) dX12_bitsOf_11 rfl ?_
  refine x_iload_n (pc := 12) dX12_bitsOf_12 rfl ?_
  refine x_iconst (pc := 13) (v := 1) dX12_bitsOf_13 rfl ?_
  refine x_isub (pc := 14) dX12_bitsOf_14 ?_
  refine x_iand (pc := 15) dX12_bitsOf_15 ?_
  refine x_istore_n (pc := 16) (lv2 := [_, _, _]) dX12_bitsOf_16 (by decide) rfl rfl ?_
  refine x_goto (pc := 17) (tgt := 4) dX12_bitsOf_17 rfl ?_
  refine x_iload_n (pc := 4) dX12_bitsOf_4 rfl ?_
  refine x_if_eq (pc := 5) (tgt := 20) dX12_bitsOf_5 rfl (fun h_5 => absurd h_5 (by decide)) (fun h_5 => ?_)
  refine x_iinc (pc := 8) (lv2 := [_, _, _]) dX12_bitsOf_8 (by decide) rfl rfl (inc1 _) rfl ?_
  refine x_iload_n (pc := 11) dX12_bitsOf_11 rfl ?_
  refine x_iload_n (pc := 12) dX12_bitsOf_12 rfl ?_
  refine x_iconst (pc := 13) (v := 1) dX12_bitsOf_13 rfl ?_
  refine x_isub (pc := 14) dX12_bitsOf_14 ?_
  refine x_iand (pc := 15) dX12_bitsOf_15 ?_
  refine x_istore_n (pc := 16) (lv2 := [_, _, _]) dX12_bitsOf_16 (by decide) rfl rfl ?_
  refine x_goto (pc := 17) (tgt := 4) dX12_bitsOf_17 rfl ?_
  refine x_iload_n (pc := 4) dX12_bitsOf_4 rfl ?_
  refine x_if_eq (pc := 5) (tgt := 20) dX12_bitsOf_5 rfl (fun h_5 => ?_) (fun h_5 => absurd (by decide) h_5)
  refine x_iload_n (pc := 20) dX12_bitsOf_20 rfl ?_
  refine x_ireturn (pc := 21) dX12_bitsOf_21 rfl rfl ?_
  exact ⟨congrArg (fun z => some (Value.int z)) (by decide), rfl⟩
theorem c_bits14  : XM Γ zX12_bitsOf 1 0 0 [.int 14] μ (rt (.int 3) μ) := by
  refine XM.of 2 rfl (by decide) (Nat.le_of_ble_eq_true rfl) ?_
  refine x_iconst (pc := 0) (v := 0) dX12_bitsOf_0 rfl ?_
  refine x_istore_n (pc := 1) (lv2 := [_, _, _]) dX12_bitsOf_1 (by decide) rfl rfl ?_
  refine x_iload_n (pc := 2) dX12_bitsOf_2 rfl ?_
  refine x_istore_n (pc := 3) (lv2 := [_, _, _]) dX12_bitsOf_3 (by decide) rfl rfl ?_
  refine x_iload_n (pc := 4) dX12_bitsOf_4 rfl ?_
  refine x_if_eq (pc := 5) (tgt := 20) dX12_bitsOf_5 rfl (fun h_5 => absurd h_5 (by decide)) (fun h_5 => ?_)
  refine x_iinc (pc := 8) (lv2 := [_, _, _]) dX12_bitsOf_8 (by decide) rfl rfl (inc1 _) rfl ?_
  refine x_iload_n (pc := 11) dX12_bitsOf_11 rfl ?_
  refine x_iload_n (pc := 12) dX12_bitsOf_12 rfl ?_
  refine x_iconst (pc := 13) (v := 1) dX12_bitsOf_13 rfl ?_
  refine x_isub (pc := 14) dX12_bitsOf_14 ?_
  refine x_iand (pc := 15) dX12_bitsOf_15 ?_
  refine x_istore_n (pc := 16) (lv2 := [_, _, _]) dX12_bitsOf_16 (by decide) rfl rfl ?_
  refine x_goto (pc := 17) (tgt := 4) dX12_bitsOf_17 rfl ?_
  refine x_iload_n (pc := 4) dX12_bitsOf_4 rfl ?_
  refine x_if_eq (pc := 5) (tgt := 20) dX12_bitsOf_5 rfl (fun h_5 => absurd h_5 (by decide)) (fun h_5 => ?_)
  refine x_iinc (pc := 8) (lv2 := [_, _, _]) dX12_bitsOf_8 (by decide) rfl rfl (inc1 _) rfl ?_
  refine x_iload_n (pc := 11) dX12_bitsOf_11 rfl ?_
  refine x_iload_n (pc := 12) dX12_bitsOf_12 rfl ?_
  refine x_iconst (pc := 13) (v := 1) dX12_bitsOf_13 rfl ?_
  refine x_isub (pc := 14) dX12_bitsOf_14 ?_
  refine x_iand (pc := 15) dX12_bitsOf_15 ?_
  refine x_istore_n (pc := 16) (lv2 := [_, _, _]) dX12_bitsOf_16 (by decide) rfl rfl ?_
  refine x_goto (pc := 17) (tgt := 4) dX12_bitsOf_17 rfl ?_
  refine x_iload_n (pc := 4) dX12_bitsOf_4 rfl ?_
  refine x_if_eq (pc := 5) (tgt := 20) dX12_bitsOf_5 rfl (fun h_5 => absurd h_5 (by decide)) (fun h_5 => ?_)
  refine x_iinc (pc := 8) (lv2 := [_, _, _]) dX12_bitsOf_8 (by decide) rfl rfl (inc1 _) rfl ?_
  refine x_iload_n (pc := 11) dX12_bitsOf_11 rfl ?_
  refine x_iload_n (pc := 12) dX12_bitsOf_12 rfl ?_
  refine x_iconst (pc := 13) (v := 1) dX12_bitsOf_13 rfl ?_
  refine x_isub (pc := 14) dX12_bitsOf_14 ?_
  refine x_iand (pc := 15) dX12_bitsOf_15 ?_
  refine x_istore_n (pc := 16) (lv2 := [_, _, _]) dX12_bitsOf_16 (by decide) rfl rfl ?_
  refine x_goto (pc := 17) (tgt := 4) dX12_bitsOf_17 rfl ?_
  refine x_iload_n (pc := 4) dX12_bitsOf_4 rfl ?_
  refine x_if_eq (pc := 5) (tgt := 20) dX12_bitsOf_5 rfl (fun h_5 => ?_) (fun h_5 => absurd (by decide) h_5)
  refine x_iload_n (pc := 20) dX12_bitsOf_20 rfl ?_
  refine x_ireturn (pc := 21) dX12_bitsOf_21 rfl rfl ?_
  exact ⟨congrArg (fun z => some (Value.int z)) (by decide), rfl⟩
theorem c_bits15  : XM Γ zX12_bitsOf 1 0 0 [.int 15] μ (rt (.int 4) μ) := by
  refine XM.of 2 rfl (by decide) (Nat.le_of_ble_eq_true rfl) ?_
  refine x_iconst (pc := 0) (v := 0) dX12_bitsOf_0 rfl ?_
  refine x_istore_n (pc := 1) (lv2 := [_, _, _]) dX12_bitsOf_1 (by decide) rfl rfl ?_
  refine x_iload_n (pc := 2) dX12_bitsOf_2 rfl ?_
  refine x_istore_n (pc := 3) (lv2 := [_, _, _]) dX12_bitsOf_3 (by decide) rfl rfl ?_
  refine x_iload_n (pc := 4) dX12_bitsOf_4 rfl ?_
  refine x_if_eq (pc := 5) (tgt := 20) dX12_bitsOf_5 rfl (fun h_5 => absurd h_5 (by decide)) (fun h_5 => ?_)
  refine x_iinc (pc := 8) (lv2 := [_, _, _]) dX12_bitsOf_8 (by decide) rfl rfl (inc1 _) rfl ?_
  refine x_iload_n (pc := 11) dX12_bitsOf_11 rfl ?_
  refine x_iload_n (pc := 12) dX12_bitsOf_12 rfl ?_
  refine x_iconst (pc := 13) (v := 1) dX12_bitsOf_13 rfl ?_
  refine x_isub (pc := 14) dX12_bitsOf_14 ?_
  refine x_iand (pc := 15) dX12_bitsOf_15 ?_
  refine x_istore_n (pc := 16) (lv2 := [_, _, _]) dX12_bitsOf_16 (by decide) rfl rfl ?_
  refine x_goto (pc := 17) (tgt := 4) dX12_bitsOf_17 rfl ?_
  refine x_iload_n (pc := 4) dX12_bitsOf_4 rfl ?_
  refine x_if_eq (pc := 5) (tgt := 20) dX12_bitsOf_5 rfl (fun h_5 => absurd h_5 (by decide)) (fun h_5 => ?_)
  refine x_iinc (pc := 8) (lv2 := [_, _, _]) dX12_bitsOf_8 (by decide) rfl rfl (inc1 _) rfl ?_
  refine x_iload_n (pc := 11) dX12_bitsOf_11 rfl ?_
  refine x_iload_n (pc := 12) dX12_bitsOf_12 rfl ?_
  refine x_iconst (pc := 13) (v := 1) dX12_bitsOf_13 rfl ?_
  refine x_isub (pc := 14) dX12_bitsOf_14 ?_
  refine x_iand (pc := 15) dX12_bitsOf_15 ?_
  refine x_istore_n (pc := 16) (lv2 := [_, _, _]) dX12_bitsOf_16 (by decide) rfl rfl ?_
  refine x_goto (pc := 17) (tgt := 4) dX12_bitsOf_17 rfl ?_
  refine x_iload_n (pc := 4) dX12_bitsOf_4 rfl ?_
  refine x_if_eq (pc := 5) (tgt := 20) dX12_bitsOf_5 rfl (fun h_5 => absurd h_5 (by decide)) (fun h_5 => ?_)
  refine x_iinc (pc := 8) (lv2 := [_, _, _]) dX12_bitsOf_8 (by decide) rfl rfl (inc1 _) rfl ?_
  refine x_iload_n (pc := 11) dX12_bitsOf_11 rfl ?_
  refine x_iload_n (pc := 12) dX12_bitsOf_12 rfl ?_
  refine x_iconst (pc := 13) (v := 1) dX12_bitsOf_13 rfl ?_
  refine x_isub (pc := 14) dX12_bitsOf_14 ?_
  refine x_iand (pc := 15) dX12_bitsOf_15 ?_
  refine x_istore_n (pc := 16) (lv2 := [_, _, _]) dX12_bitsOf_16 (by decide) rfl rfl ?_
  refine x_goto (pc := 17) (tgt := 4) dX12_bitsOf_17 rfl ?_
  refine x_iload_n (pc := 4) dX12_bitsOf_4 rfl ?_
  refine x_if_eq (pc := 5) (tgt := 20) dX12_bitsOf_5 rfl (fun h_5 => absurd h_5 (by decide)) (fun h_5 => ?_)
  refine x_iinc (pc := 8) (lv2 := [_, _, _]) dX12_bitsOf_8 (by decide) rfl rfl (inc1 _) rfl ?_
  refine x_iload_n (pc := 11) dX12_bitsOf_11 rfl ?_
  refine x_iload_n (pc := 12) dX12_bitsOf_12 rfl ?_
  refine x_iconst (pc := 13) (v := 1) dX12_bitsOf_13 rfl ?_
  refine x_isub (pc := 14) dX12_bitsOf_14 ?_
  refine x_iand (pc := 15) dX12_bitsOf_15 ?_
  refine x_istore_n (pc := 16) (lv2 := [_, _, _]) dX12_bitsOf_16 (by decide) rfl rfl ?_
  refine x_goto (pc := 17) (tgt := 4) dX12_bitsOf_17 rfl ?_
  refine x_iload_n (pc := 4) dX12_bitsOf_4 rfl ?_
  refine x_if_eq (pc := 5) (tgt := 20) dX12_bitsOf_5 rfl (fun h_5 => ?_) (fun h_5 => absurd (by decide) h_5)
  refine x_iload_n (pc := 20) dX12_bitsOf_20 rfl ?_
  refine x_ireturn (pc := 21) dX12_bitsOf_21 rfl rfl ?_
  exact ⟨congrArg (fun z => some (Value.int z)) (by decide), rfl⟩
theorem c_bitsOf : ∀ {v : Nat}, v < 16 → XM Γ zX12_bitsOf 1 0 0 [.int (nI v)] μ (rt (.int (nI (bc v))) μ)
  | 0, _ => c_bits0
  | 1, _ => c_bits1
  | 2, _ => c_bits2
  | 3, _ => c_bits3
  | 4, _ => c_bits4
  | 5, _ => c_bits5
  | 6, _ => c_bits6
  | 7, _ => c_bits7
  | 8, _ => c_bits8
  | 9, _ => c_bits9
  | 10, _ => c_bits10
  | 11, _ => c_bits11
  | 12, _ => c_bits12
  | 13, _ => c_bits13
  | 14, _ => c_bits14
  | 15, _ => c_bits15
  | _ + 16, h => absurd h (by omega)
def nr (k v : Int32) : Int32 := if k = 0 then v.toInt8.toInt32 else if k = 1 then v.toInt16.toInt32 else v
def clR (σ : MS) (s i v : Int32) : Int32 × MS := if ¬ (0 ≤ s ∧ s ≤ 3) then (-2, σ) else if σ.2.2 52 (nn s) = 0 then (-11, σ) else if ¬ (0 ≤ i ∧ i ≤ σ.2.2 54 (nn s) - 1) then (-12, σ) else (1, tA σ 55 (40 * nn s + nn i) (nr (σ.2.2 53 (nn s)) v))
theorem i40 (j i : Nat) : (40 : Int32) * nI j + nI i = nI (40 * j + i) := by
  rw [show (40 : Int32) = nI 40 from rfl, pk_mul, nI_add]
/-- the sheets of the reference: there are those of a size up to 40 and of a sort -/
def shO (σ : MS) : Prop := ∀ s, s < 4 → σ.2.2 52 s = 0 ∨ (σ.2.2 52 s = 1 ∧ (∃ n, n ≤ 40 ∧ σ.2.2 54 s = nI n) ∧ (σ.2.2 53 s = 0 ∨ σ.2.2 53 s = 1 ∨ σ.2.2 53 s = 2))
theorem c_cell (hM : MOK μ a) (hS : shO σ) (s i v : Int32) : XM Γ zX12_cell 3 0 0 [.ref a.1, .int s, .int i, .int v] (MV μ a σ) (rt (.int (clR σ s i v).1) (MV μ a (clR σ s i v).2)) := by
  refine XM.of 0 rfl (by decide) (Nat.le_of_ble_eq_true rfl) ?_
  refine x_iload_n (pc := 0) dX12_cell_0 rfl ?_
  refine x_callS (pc := 1) (As := [.int _]) dX12_cell_1 mX12_isSheet lk_12_352 (c_isSheet _) rfl rfl (by decide) ⟨by decide, by decide⟩ ⟨Nat.zero_le _, Nat.zero_le _⟩ (k_rt ?_)
  refine x_if_ne (pc := 4) (tgt := 10) dX12_cell_4 rfl (fun h_4 => ?_) (fun h_4 => ?_)
  · obtain ⟨j, hj, rfl⟩ := ixC (c := 4) (n := 4) rfl (bi_n0 h_4) (by omega)
    refine x_aload_n (pc := 10) dX12_cell_10 rfl ?_
    refine m_getR (pc := 11) hM dX12_cell_11 fk_12_86 (Or.inr ⟨_, rfl⟩) (Or.inr rfl) ?_
    refine x_iload_n (pc := 14) dX12_cell_14 rfl ?_
    refine m_zald (pc := 15) hM dX12_cell_15 (rfl) (by first | exact hj | (show j < 4; omega)) ?_
    refine x_if_ne (pc := 16) (tgt := 22) dX12_cell_16 rfl (fun h_16 => ?_) (fun h_16 => ?_)
    · refine x_iload_n (pc := 22) dX12_cell_22 rfl ?_
      refine x_i2l (pc := 23) dX12_cell_23 ?_
      refine x_lconst (pc := 24) (v := 0) dX12_cell_24 rfl ?_
      refine x_aload_n (pc := 25) dX12_cell_25 rfl ?_
      refine m_getR (pc := 26) hM dX12_cell_26 fk_12_93 (Or.inr ⟨_, rfl⟩) (Or.inl (by decide)) ?_
      refine x_iload_n (pc := 29) dX12_cell_29 rfl ?_
      refine m_iald (pc := 30) hM dX12_cell_30 (rfl) (by first | exact hj | (show j < 4; omega)) ?_
      refine x_iconst (pc := 31) (v := 1) dX12_cell_31 rfl ?_
      refine x_isub (pc := 32) dX12_cell_32 ?_
      refine x_i2l (pc := 33) dX12_cell_33 ?_
      refine x_callS (pc := 34) (As := [.long _, .long _, .long _]) dX12_cell_34 mX12_in lk_12_109 (c_inI 0 (σ.2.2 54 j - 1)) rfl rfl (by decide) ⟨by decide, by decide⟩ ⟨Nat.zero_le _, Nat.zero_le _⟩ (k_rt ?_)
      refine x_if_ne (pc := 37) (tgt := 43) dX12_cell_37 rfl (fun h_37 => ?_) (fun h_37 => ?_)
      · rcases hS j hj with q0 | ⟨-, ⟨n, hn, q1⟩, -⟩
        · exact absurd q0 h_16
        obtain ⟨i0, hi0, rfl⟩ := ixC (n := n) q1 (bi_n0 h_37) (by omega)
        refine x_aload_n (pc := 43) dX12_cell_43 rfl ?_
        refine m_getR (pc := 44) hM dX12_cell_44 fk_12_96 (Or.inr ⟨_, rfl⟩) (Or.inl (by decide)) ?_
        refine x_bipush (pc := 47) (v := 40) dX12_cell_47 rfl ?_
        refine x_iload_n (pc := 49) dX12_cell_49 rfl ?_
        refine x_imul (pc := 50) dX12_cell_50 ?_
        refine x_iload_n (pc := 51) dX12_cell_51 rfl ?_
        refine x_iadd (pc := 52) dX12_cell_52 ?_
        refine x_aload_n (pc := 53) dX12_cell_53 rfl ?_
        refine m_getR (pc := 54) hM dX12_cell_54 fk_12_90 (Or.inr ⟨_, rfl⟩) (Or.inl (by decide)) ?_
        refine x_iload_n (pc := 57) dX12_cell_57 rfl ?_
        refine m_iald (pc := 58) hM dX12_cell_58 (rfl) (by first | exact hj | (show j < 4; omega)) ?_
        refine x_if_ne (pc := 59) (tgt := 67) dX12_cell_59 rfl (fun h_59 => ?_) (fun h_59 => ?_)
        · refine x_aload_n (pc := 67) dX12_cell_67 rfl ?_
          refine m_getR (pc := 68) hM dX12_cell_68 fk_12_90 (Or.inr ⟨_, rfl⟩) (Or.inl (by decide)) ?_
          refine x_iload_n (pc := 71) dX12_cell_71 rfl ?_
          refine m_iald (pc := 72) hM dX12_cell_72 (rfl) (by first | exact hj | (show j < 4; omega)) ?_
          refine x_iconst (pc := 73) (v := 1) dX12_cell_73 rfl ?_
          refine x_icmp_ne (pc := 74) (tgt := 82) dX12_cell_74 rfl (fun h_74 => ?_) (fun h_74 => ?_)
          · refine x_iload_n (pc := 82) dX12_cell_82 rfl ?_
            refine m_iast (pc := 83) hM dX12_cell_83 (i40 j i0) (by show 40 * j + i0 < 160; omega) ?_
            refine x_iconst (pc := 84) (v := 1) dX12_cell_84 rfl ?_
            refine x_ireturn (pc := 85) dX12_cell_85 rfl rfl ?_
            have e1 : nn (nI j) = j := nn_nI (by omega)
            have e2 : nn (nI i0) = i0 := nn_nI (by omega)
            rw [clR, e1, e2, if_neg (not_not_intro (bi_n0 h_4)), if_neg h_16, if_neg (not_not_intro (bi_n0 h_37))]
            refine ⟨rfl, ?_⟩
            first
              | rw [nr, if_pos h_59]
              | rw [nr, if_neg h_59, if_pos h_74]
              | rw [nr, if_neg h_59, if_neg h_74]
          · refine x_iload_n (pc := 77) dX12_cell_77 rfl ?_
            refine x_i2s (pc := 78) dX12_cell_78 ?_
            refine x_goto (pc := 79) (tgt := 83) dX12_cell_79 rfl ?_
            refine m_iast (pc := 83) hM dX12_cell_83 (i40 j i0) (by show 40 * j + i0 < 160; omega) ?_
            refine x_iconst (pc := 84) (v := 1) dX12_cell_84 rfl ?_
            refine x_ireturn (pc := 85) dX12_cell_85 rfl rfl ?_
            have e1 : nn (nI j) = j := nn_nI (by omega)
            have e2 : nn (nI i0) = i0 := nn_nI (by omega)
            rw [clR, e1, e2, if_neg (not_not_intro (bi_n0 h_4)), if_neg h_16, if_neg (not_not_intro (bi_n0 h_37))]
            refine ⟨rfl, ?_⟩
            first
              | rw [nr, if_pos h_59]
              | rw [nr, if_neg h_59, if_pos h_74]
              | rw [nr, if_neg h_59, if_neg h_74]
        · refine x_iload_n (pc := 62) dX12_cell_62 rfl ?_
          refine x_i2b (pc := 63) dX12_cell_63 ?_
          refine x_goto (pc := 64) (tgt := 83) dX12_cell_64 rfl ?_
          refine m_iast (pc := 83) hM dX12_cell_83 (i40 j i0) (by show 40 * j + i0 < 160; omega) ?_
          refine x_iconst (pc := 84) (v := 1) dX12_cell_84 rfl ?_
          refine x_ireturn (pc := 85) dX12_cell_85 rfl rfl ?_
          have e1 : nn (nI j) = j := nn_nI (by omega)
          have e2 : nn (nI i0) = i0 := nn_nI (by omega)
          rw [clR, e1, e2, if_neg (not_not_intro (bi_n0 h_4)), if_neg h_16, if_neg (not_not_intro (bi_n0 h_37))]
          refine ⟨rfl, ?_⟩
          first
            | rw [nr, if_pos h_59]
            | rw [nr, if_neg h_59, if_pos h_74]
            | rw [nr, if_neg h_59, if_neg h_74]
      · refine x_bipush (pc := 40) (v := -12) dX12_cell_40 rfl ?_
        refine x_ireturn (pc := 42) dX12_cell_42 rfl rfl ?_
        have hF : clR σ (nI j) i v = (-12, σ) := by rw [clR, if_neg (not_not_intro (bi_n0 h_4)), nn_nI (by omega), if_neg h_16, if_pos (bi_0.mp h_37)]
        exact ⟨by rw [hF], by rw [hF]⟩
    · refine x_bipush (pc := 19) (v := -11) dX12_cell_19 rfl ?_
      refine x_ireturn (pc := 21) dX12_cell_21 rfl rfl ?_
      have hF : clR σ (nI j) i v = (-11, σ) := by rw [clR, if_neg (not_not_intro (bi_n0 h_4)), nn_nI (by omega), if_pos h_16]
      exact ⟨by rw [hF], by rw [hF]⟩
  · refine x_bipush (pc := 7) (v := -2) dX12_cell_7 rfl ?_
    refine x_ireturn (pc := 9) dX12_cell_9 rfl rfl ?_
    have hF : clR σ s i v = (-2, σ) := if_pos (fun h => absurd h_4 (by rw [bi_t h]; decide))
    exact ⟨by rw [hF], by rw [hF]⟩
def f_sh (b : Nat) : Nat → MS → MS := fun j s => tA s 55 (b + j) 0
def shB (σ : MS) (s k n : Int32) : MS := tA (tA (tA σ 52 (nn s) (if 0 ≤ k then 1 else 0)) 53 (nn s) k) 54 (nn s) n
def shR (σ : MS) (s k n : Int32) : Int32 × MS := if ¬ (0 ≤ s ∧ s ≤ 3) ∨ ¬ (-1 ≤ k ∧ k ≤ 2) ∨ (0 ≤ k ∧ 40 < n) then (-2, σ) else if 0 ≤ k ∧ n < 0 then (-14, σ) else (1, if 0 ≤ k then it (f_sh (40 * nn s)) (nn n) (shB σ s k n) else shB σ s k n)
theorem i3 {x : Int32} (h : 0 ≤ x ∧ x ≤ 3) : ∃ j : Nat, j < 4 ∧ x = nI j := ixC (c := 4) (n := 4) rfl h (by omega)
theorem c_sheet (hM : MOK μ a) (s k n : Int32) : XM Γ zX12_sheet 3 0 0 [.ref a.1, .int s, .int k, .int n] (MV μ a σ) (rt (.int (shR σ s k n).1) (MV μ a (shR σ s k n).2)) := by
  refine XM.of 1 rfl (by decide) (Nat.le_of_ble_eq_true rfl) ?_
  have c45 : (0 ≤ s ∧ s ≤ 3) → (-1 ≤ k ∧ k ≤ 2) → (0 ≤ k → n ≤ 40) → (0 ≤ k → 0 ≤ n) → WA Γ zX12_sheet (xrm 3 0 0) 0 0 0 0 (rt (.int (shR σ s k n).1) (MV μ a (shR σ s k n).2)) 45 [some (.ref a.1), some (.int s), some (.int k), some (.int n), none] [] (MV μ a σ) := by
    intro g1 g2 g3 g4
    obtain ⟨q, hq, rfl⟩ := i3 g1
    have e1 : nn (nI q) = q := nn_nI (by omega)
    have hR : shR σ (nI q) k n = (1, if 0 ≤ k then it (f_sh (40 * q)) (nn n) (shB σ (nI q) k n) else shB σ (nI q) k n) := by
      rw [shR, if_neg, if_neg, e1]
      · exact fun z => absurd z.2 (Int32.not_lt.mpr (g4 z.1))
      · rintro (z | z | z)
        · exact z g1
        · exact z g2
        · exact absurd z.2 (Int32.not_lt.mpr (g3 z.1))
    by_cases hk : 0 ≤ k
    · obtain ⟨x, hx, hn⟩ := nI_of (Int32.not_lt.mpr (g4 hk))
      subst hn
      have hx40 : x ≤ 40 := by
        have := g3 hk
        rwa [show (40 : Int32) = nI 40 from rfl, nI_leI hx (by omega)] at this
      have e2 : nn (nI x) = x := nn_nI hx
      rw [if_pos hk, e2] at hR
      rw [hR]
      have hB : shB σ (nI q) k (nI x) = tA (tA (tA σ 52 q 1) 53 q k) 54 q (nI x) := by rw [shB, if_pos hk, e1]
      rw [hB]
      have L : ∀ (m j : Nat), j + m = x → WA Γ zX12_sheet (xrm 3 0 0) 0 0 0 0 (rt (.int 1) (MV μ a (it (f_sh (40 * q)) x (tA (tA (tA σ 52 q 1) 53 q k) 54 q (nI x))))) 77 [some (.ref a.1), some (.int (nI q)), some (.int k), some (.int (nI x)), some (.int (nI j))] [] (MV μ a (it (f_sh (40 * q)) j (tA (tA (tA σ 52 q 1) 53 q k) 54 q (nI x)))) := by
        intro m
        induction m with
        | zero =>
          intro j hj
          refine x_iload (pc := 77) dX12_sheet_77 rfl ?_
          refine x_iload_n (pc := 79) dX12_sheet_79 rfl ?_
          refine x_icmp_ge (pc := 80) (tgt := 106) dX12_sheet_80 rfl (fun h_80 => ?_) (fun h_80 => absurd (by rw [show j = x by omega]; exact Int32.le_refl _) h_80)
          refine x_iconst (pc := 106) (v := 1) dX12_sheet_106 rfl ?_
          refine x_ireturn (pc := 107) dX12_sheet_107 rfl rfl ?_
          rw [show j = x by omega]
          exact ⟨rfl, rfl⟩
        | succ m ih =>
          intro j hj
          refine x_iload (pc := 77) dX12_sheet_77 rfl ?_
          refine x_iload_n (pc := 79) dX12_sheet_79 rfl ?_
          refine x_icmp_ge (pc := 80) (tgt := 106) dX12_sheet_80 rfl (fun h_80 => absurd h_80 (lit_le (n := x) j (by omega) (by omega))) (fun h_80 => ?_)
          refine x_iload_n (pc := 83) dX12_sheet_83 rfl ?_
          refine x_if_lt (pc := 84) (tgt := 106) dX12_sheet_84 rfl (fun h_84 => absurd h_84 (Int32.not_lt.mpr hk)) (fun h_84 => ?_)
          refine x_aload_n (pc := 87) dX12_sheet_87 rfl ?_
          refine m_getR (pc := 88) hM dX12_sheet_88 fk_12_96 (Or.inr ⟨_, rfl⟩) (Or.inl (by decide)) ?_
          refine x_bipush (pc := 91) (v := 40) dX12_sheet_91 rfl ?_
          refine x_iload_n (pc := 93) dX12_sheet_93 rfl ?_
          refine x_imul (pc := 94) dX12_sheet_94 ?_
          refine x_iload (pc := 95) dX12_sheet_95 rfl ?_
          refine x_iadd (pc := 97) dX12_sheet_97 ?_
          refine x_iconst (pc := 98) (v := 0) dX12_sheet_98 rfl ?_
          refine m_iast (pc := 99) hM dX12_sheet_99 (i40 q j) (by show 40 * q + j < 160; omega) ?_
          refine x_iinc (pc := 100) (lv2 := [_, _, _, _, _]) dX12_sheet_100 (by decide) rfl rfl (nI_1 _) rfl ?_
          refine x_goto (pc := 103) (tgt := 77) dX12_sheet_103 rfl ?_
          exact ih (j + 1) (by omega)
      refine x_aload_n (pc := 45) dX12_sheet_45 rfl ?_
      refine m_getR (pc := 46) hM dX12_sheet_46 fk_12_86 (Or.inr ⟨_, rfl⟩) (Or.inr rfl) ?_
      refine x_iload_n (pc := 49) dX12_sheet_49 rfl ?_
      refine x_iload_n (pc := 50) dX12_sheet_50 rfl ?_
      refine x_if_lt (pc := 51) (tgt := 58) dX12_sheet_51 rfl (fun h_51 => absurd h_51 (Int32.not_lt.mpr hk)) (fun h_51 => ?_)
      refine x_iconst (pc := 54) (v := 1) dX12_sheet_54 rfl ?_
      refine x_goto (pc := 55) (tgt := 59) dX12_sheet_55 rfl ?_
      refine m_zast (pc := 59) hM dX12_sheet_59 (rfl) (hq) (Or.inr rfl) ?_
      refine x_aload_n (pc := 60) dX12_sheet_60 rfl ?_
      refine m_getR (pc := 61) hM dX12_sheet_61 fk_12_90 (Or.inr ⟨_, rfl⟩) (Or.inl (by decide)) ?_
      refine x_iload_n (pc := 64) dX12_sheet_64 rfl ?_
      refine x_iload_n (pc := 65) dX12_sheet_65 rfl ?_
      refine m_iast (pc := 66) hM dX12_sheet_66 (rfl) (hq) ?_
      refine x_aload_n (pc := 67) dX12_sheet_67 rfl ?_
      refine m_getR (pc := 68) hM dX12_sheet_68 fk_12_93 (Or.inr ⟨_, rfl⟩) (Or.inl (by decide)) ?_
      refine x_iload_n (pc := 71) dX12_sheet_71 rfl ?_
      refine x_iload_n (pc := 72) dX12_sheet_72 rfl ?_
      refine m_iast (pc := 73) hM dX12_sheet_73 (rfl) (hq) ?_
      refine x_iconst (pc := 74) (v := 0) dX12_sheet_74 rfl ?_
      refine x_istore (pc := 75) (lv2 := [_, _, _, _, _]) dX12_sheet_75 (by decide) rfl rfl ?_
      exact L x 0 (by omega)
    · rw [if_neg hk] at hR
      rw [hR]
      have hB : shB σ (nI q) k n = tA (tA (tA σ 52 q 0) 53 q k) 54 q n := by rw [shB, if_neg hk, e1]
      rw [hB]
      refine x_aload_n (pc := 45) dX12_sheet_45 rfl ?_
      refine m_getR (pc := 46) hM dX12_sheet_46 fk_12_86 (Or.inr ⟨_, rfl⟩) (Or.inr rfl) ?_
      refine x_iload_n (pc := 49) dX12_sheet_49 rfl ?_
      refine x_iload_n (pc := 50) dX12_sheet_50 rfl ?_
      refine x_if_lt (pc := 51) (tgt := 58) dX12_sheet_51 rfl (fun h_51 => ?_) (fun h_51 => absurd (Int32.not_le.mp hk) h_51)
      refine x_iconst (pc := 58) (v := 0) dX12_sheet_58 rfl ?_
      refine m_zast (pc := 59) hM dX12_sheet_59 (rfl) (hq) (Or.inl rfl) ?_
      refine x_aload_n (pc := 60) dX12_sheet_60 rfl ?_
      refine m_getR (pc := 61) hM dX12_sheet_61 fk_12_90 (Or.inr ⟨_, rfl⟩) (Or.inl (by decide)) ?_
      refine x_iload_n (pc := 64) dX12_sheet_64 rfl ?_
      refine x_iload_n (pc := 65) dX12_sheet_65 rfl ?_
      refine m_iast (pc := 66) hM dX12_sheet_66 (rfl) (hq) ?_
      refine x_aload_n (pc := 67) dX12_sheet_67 rfl ?_
      refine m_getR (pc := 68) hM dX12_sheet_68 fk_12_93 (Or.inr ⟨_, rfl⟩) (Or.inl (by decide)) ?_
      refine x_iload_n (pc := 71) dX12_sheet_71 rfl ?_
      refine x_iload_n (pc := 72) dX12_sheet_72 rfl ?_
      refine m_iast (pc := 73) hM dX12_sheet_73 (rfl) (hq) ?_
      refine x_iconst (pc := 74) (v := 0) dX12_sheet_74 rfl ?_
      refine x_istore (pc := 75) (lv2 := [_, _, _, _, _]) dX12_sheet_75 (by decide) rfl rfl ?_
      refine x_iload (pc := 77) dX12_sheet_77 rfl ?_
      refine x_iload_n (pc := 79) dX12_sheet_79 rfl ?_
      refine x_icmp_ge (pc := 80) (tgt := 106) dX12_sheet_80 rfl (fun h_80 => ?_) (fun h_80 => ?_)
      · refine x_iconst (pc := 106) (v := 1) dX12_sheet_106 rfl ?_
        refine x_ireturn (pc := 107) dX12_sheet_107 rfl rfl ?_
        exact ⟨rfl, rfl⟩
      · refine x_iload_n (pc := 83) dX12_sheet_83 rfl ?_
        refine x_if_lt (pc := 84) (tgt := 106) dX12_sheet_84 rfl (fun h_84 => ?_) (fun h_84 => absurd (Int32.not_le.mp hk) h_84)
        refine x_iconst (pc := 106) (v := 1) dX12_sheet_106 rfl ?_
        refine x_ireturn (pc := 107) dX12_sheet_107 rfl rfl ?_
        exact ⟨rfl, rfl⟩
  refine x_iload_n (pc := 0) dX12_sheet_0 rfl ?_
  refine x_callS (pc := 1) (As := [.int _]) dX12_sheet_1 mX12_isSheet lk_12_352 (c_isSheet _) rfl rfl (by decide) ⟨by decide, by decide⟩ ⟨Nat.zero_le _, Nat.zero_le _⟩ (k_rt ?_)
  refine x_if_eq (pc := 4) (tgt := 31) dX12_sheet_4 rfl (fun h_4 => ?_) (fun h_4 => ?_)
  · refine x_bipush (pc := 31) (v := -2) dX12_sheet_31 rfl ?_
    refine x_ireturn (pc := 33) dX12_sheet_33 rfl rfl ?_
    have hF : shR σ s k n = (-2, σ) := if_pos (by
      first
        | exact Or.inl (bi_0.mp h_4)
        | exact Or.inr (Or.inl (bi_0.mp h_18))
        | exact Or.inr (Or.inr ⟨Int32.not_lt.mp h_22, Int32.not_le.mp h_28⟩))
    exact ⟨by rw [hF], by rw [hF]⟩
  · refine x_iload_n (pc := 7) dX12_sheet_7 rfl ?_
    refine x_i2l (pc := 8) dX12_sheet_8 ?_
    refine x_ldc2 (pc := 9) dX12_sheet_9 kc_12_375 ?_
    refine x_ldc2 (pc := 12) dX12_sheet_12 kc_12_339 ?_
    refine x_callS (pc := 15) (As := [.long _, .long _, .long _]) dX12_sheet_15 mX12_in lk_12_109 (c_inI (-1) 2) rfl rfl (by decide) ⟨by decide, by decide⟩ ⟨Nat.zero_le _, Nat.zero_le _⟩ (k_rt ?_)
    refine x_if_eq (pc := 18) (tgt := 31) dX12_sheet_18 rfl (fun h_18 => ?_) (fun h_18 => ?_)
    · refine x_bipush (pc := 31) (v := -2) dX12_sheet_31 rfl ?_
      refine x_ireturn (pc := 33) dX12_sheet_33 rfl rfl ?_
      have hF : shR σ s k n = (-2, σ) := if_pos (by
        first
          | exact Or.inl (bi_0.mp h_4)
          | exact Or.inr (Or.inl (bi_0.mp h_18))
          | exact Or.inr (Or.inr ⟨Int32.not_lt.mp h_22, Int32.not_le.mp h_28⟩))
      exact ⟨by rw [hF], by rw [hF]⟩
    · refine x_iload_n (pc := 21) dX12_sheet_21 rfl ?_
      refine x_if_lt (pc := 22) (tgt := 34) dX12_sheet_22 rfl (fun h_22 => ?_) (fun h_22 => ?_)
      · refine x_iload_n (pc := 34) dX12_sheet_34 rfl ?_
        refine x_if_lt (pc := 35) (tgt := 45) dX12_sheet_35 rfl (fun h_35 => ?_) (fun h_35 => ?_)
        · exact c45 (bi_n0 h_4) (bi_n0 h_18) (by first | exact fun q => absurd q (Int32.not_le.mpr h_22) | exact fun _ => h_28) (by first | exact fun q => absurd q (Int32.not_le.mpr h_35) | exact fun _ => h_39)
        · refine x_iload_n (pc := 38) dX12_sheet_38 rfl ?_
          refine x_if_ge (pc := 39) (tgt := 45) dX12_sheet_39 rfl (fun h_39 => ?_) (fun h_39 => ?_)
          · exact c45 (bi_n0 h_4) (bi_n0 h_18) (by first | exact fun q => absurd q (Int32.not_le.mpr h_22) | exact fun _ => h_28) (by first | exact fun q => absurd q (Int32.not_le.mpr h_35) | exact fun _ => h_39)
          · refine x_bipush (pc := 42) (v := -14) dX12_sheet_42 rfl ?_
            refine x_ireturn (pc := 44) dX12_sheet_44 rfl rfl ?_
            have hF : shR σ s k n = (-14, σ) := by
              rw [shR, if_neg, if_pos ⟨Int32.not_lt.mp h_35, Int32.not_le.mp h_39⟩]
              rintro (q | q | q)
              · exact q (bi_n0 h_4)
              · exact q (bi_n0 h_18)
              · first | exact absurd q.1 (Int32.not_le.mpr h_22) | exact absurd q.2 (Int32.not_lt.mpr h_28)
            exact ⟨by rw [hF], by rw [hF]⟩
      · refine x_iload_n (pc := 25) dX12_sheet_25 rfl ?_
        refine x_bipush (pc := 26) (v := 40) dX12_sheet_26 rfl ?_
        refine x_icmp_le (pc := 28) (tgt := 34) dX12_sheet_28 rfl (fun h_28 => ?_) (fun h_28 => ?_)
        · refine x_iload_n (pc := 34) dX12_sheet_34 rfl ?_
          refine x_if_lt (pc := 35) (tgt := 45) dX12_sheet_35 rfl (fun h_35 => ?_) (fun h_35 => ?_)
          · exact c45 (bi_n0 h_4) (bi_n0 h_18) (by first | exact fun q => absurd q (Int32.not_le.mpr h_22) | exact fun _ => h_28) (by first | exact fun q => absurd q (Int32.not_le.mpr h_35) | exact fun _ => h_39)
          · refine x_iload_n (pc := 38) dX12_sheet_38 rfl ?_
            refine x_if_ge (pc := 39) (tgt := 45) dX12_sheet_39 rfl (fun h_39 => ?_) (fun h_39 => ?_)
            · exact c45 (bi_n0 h_4) (bi_n0 h_18) (by first | exact fun q => absurd q (Int32.not_le.mpr h_22) | exact fun _ => h_28) (by first | exact fun q => absurd q (Int32.not_le.mpr h_35) | exact fun _ => h_39)
            · refine x_bipush (pc := 42) (v := -14) dX12_sheet_42 rfl ?_
              refine x_ireturn (pc := 44) dX12_sheet_44 rfl rfl ?_
              have hF : shR σ s k n = (-14, σ) := by
                rw [shR, if_neg, if_pos ⟨Int32.not_lt.mp h_35, Int32.not_le.mp h_39⟩]
                rintro (q | q | q)
                · exact q (bi_n0 h_4)
                · exact q (bi_n0 h_18)
                · first | exact absurd q.1 (Int32.not_le.mpr h_22) | exact absurd q.2 (Int32.not_lt.mpr h_28)
              exact ⟨by rw [hF], by rw [hF]⟩
        · refine x_bipush (pc := 31) (v := -2) dX12_sheet_31 rfl ?_
          refine x_ireturn (pc := 33) dX12_sheet_33 rfl rfl ?_
          have hF : shR σ s k n = (-2, σ) := if_pos (by
            first
              | exact Or.inl (bi_0.mp h_4)
              | exact Or.inr (Or.inl (bi_0.mp h_18))
              | exact Or.inr (Or.inr ⟨Int32.not_lt.mp h_22, Int32.not_le.mp h_28⟩))
          exact ⟨by rw [hF], by rw [hF]⟩
end M33
