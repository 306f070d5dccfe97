/-! the class's strings: how long they are, their letters -/
section M87
variable {Γ : Gm} {M M1 : Mt} {R : Room} {mc ms cl sl : Nat} {Q Q1 : Option Value → Mem → Prop} {pc : Nat} {lv : List (Option Value)} {st st0 : List Value} {μ : Mem}
def sK (Γ : Gm) : Nat → Nat := Γ.2.2.2.2.1
def sV (Γ : Gm) : Nat → Nat := Γ.2.2.2.2.2
def sLn (i : Nat) : Nat := sLen.getD i 0
def sBt (i j : Nat) : Int32 := (sByt.getD i []).getD j 0
theorem x_getSv {i idx : Nat} (d : decode M.2.1 pc = .ok (.getfield idx, 3)) (hi : i < 13) (hf : Cond.fieldLink M.1.cls idx "java/lang/String" "value" "[B" ∈ gT) (kk : WA Γ M R mc ms cl sl Q (pc + 3) lv (.ref (sV Γ i) :: st) μ) : WA Γ M R mc ms cl sl Q pc lv (.ref (sK Γ i) :: st) μ := fun p e s m args below meth c Qf H locs ls F hS hP hl hE => by
  obtain ⟨hx, hb, -, -, -, -, hown, hts, -, -, hSE⟩ := id F
  exact vk_getf hx hb (hSE.1.1 i hi).2.2.1 hS hown (hts _ hf) (fun x h => h) d (kk p e s m args below meth c Qf H locs ls F hS hP hl hE)
theorem x_getSc {i idx : Nat} (d : decode M.2.1 pc = .ok (.getfield idx, 3)) (hi : i < 13) (hf : Cond.fieldLink M.1.cls idx "java/lang/String" "coder" "B" ∈ gT) (kk : WA Γ M R mc ms cl sl Q (pc + 3) lv (.int 0 :: st) μ) : WA Γ M R mc ms cl sl Q pc lv (.ref (sK Γ i) :: st) μ := fun p e s m args below meth c Qf H locs ls F hS hP hl hE => by
  obtain ⟨hx, hb, -, -, -, -, hown, hts, -, -, hSE⟩ := id F
  exact vk_getf hx hb (hSE.1.1 i hi).2.1 hS hown (hts _ hf) (fun x h => h) d (kk p e s m args below meth c Qf H locs ls F hS hP hl hE)
theorem x_alenS {i : Nat} (d : decode M.2.1 pc = .ok (.arraylength, 1)) (hi : i < 13) (kk : WA Γ M R mc ms cl sl Q (pc + 1) lv (.int (nI (sLn i)) :: st) μ) : WA Γ M R mc ms cl sl Q pc lv (.ref (sV Γ i) :: st) μ := fun p e s m args below meth c Qf H locs ls F hS hP hl hE => by
  obtain ⟨hx, hb, -, -, -, -, hown, hts, -, -, hSE⟩ := id F
  exact va_tlen hx hb (hSE.1.1 i hi).2.2.2 hS rfl d (kk p e s m args below meth c Qf H locs ls F hS hP hl hE)
theorem sLn_lt {i : Nat} (hi : i < 13) : sLn i < 37 := by
  have : ∀ i : Nat, i < 13 → sLn i < 37 := by decide
  exact this i hi
theorem x_baldS {i j : Nat} (d : decode M.2.1 pc = .ok (.baload, 1)) (hi : i < 13) (hj : j < sLn i) (kk : WA Γ M R mc ms cl sl Q (pc + 1) lv (.int (sBt i j) :: st) μ) : WA Γ M R mc ms cl sl Q pc lv (.int (nI j) :: .ref (sV Γ i) :: st) μ := fun p e s m args below meth c Qf H locs ls F hS hP hl hE => by
  obtain ⟨hx, hb, -, -, -, -, hown, hts, -, -, hSE⟩ := id F
  have h37 := sLn_lt hi
  have e0 : (nI j).toNatClampNeg = j := Int32.toNatClampNeg_ofNat_of_lt (by omega)
  refine va_tb hx hb (hSE.1.1 i hi).2.2.2 hS (i := nI j) ?_ (v := .int (sBt i j)) ?_ d (kk p e s m args below meth c Qf H locs ls F hS hP hl hE)
  · rintro (h | h)
    · exact nI_pos (by omega) h
    · rw [e0] at h
      exact absurd hj (Nat.not_lt.mpr h)
  · rw [e0]
    rfl
theorem x_getCS {idx : Nat} (d : decode M.2.1 pc = .ok (.getstatic idx, 3)) (hf : Cond.fieldLink M.1.cls idx "java/lang/String" "COMPACT_STRINGS" "Z" ∈ gT) (kk : WA Γ M R mc ms cl sl Q (pc + 3) lv (.int 1 :: st) μ) : WA Γ M R mc ms cl sl Q pc lv st μ := fun p e s m args below meth c Qf H locs ls F hS hP hl hE => by
  obtain ⟨hx, hb, -, -, -, -, hown, hts, -, -, hSE⟩ := id F
  exact va_gets hx hb hSE.2.2.1 hS hown (hts _ hf) (fun x h => h) d (kk p e s m args below meth c Qf H locs ls F hS hP hl hE)
theorem x_getPF {idx : Nat} (d : decode M.2.1 pc = .ok (.getstatic idx, 3)) (hf : Cond.fieldLink M.1.cls idx "jdk/internal/util/Preconditions" "SIOOBE_FORMATTER" "Ljava/util/function/BiFunction;" ∈ gT) (kk : ∀ v : Value, (v = .null ∨ ∃ t, v = .ref t) → WA Γ M R mc ms cl sl Q (pc + 3) lv (v :: st) μ) : WA Γ M R mc ms cl sl Q pc lv st μ := fun p e s m args below meth c Qf H locs ls F hS hP hl hE => by
  obtain ⟨hx, hb, -, -, -, -, hown, hts, -, -, hSE⟩ := id F
  rcases hSE.2.2.2.2.2.2.2.2.2 with h | ⟨t, h⟩
  · exact va_gets hx hb h hS hown (hts _ hf) (fun x h => h) d (kk _ (Or.inl rfl) p e s m args below meth c Qf H locs ls F hS hP hl hE)
  · exact va_gets hx hb h hS hown (hts _ hf) (fun x h => h) d (kk _ (Or.inr ⟨t, rfl⟩) p e s m args below meth c Qf H locs ls F hS hP hl hE)
def LKG (own : String) (idx : Nat) (y : MethodName) : Prop := Cond.methodLink own idx y ∈ gT ∧ Cond.instanceMethod y ∈ gT ∧ Cond.selects "java/lang/String" y y ∈ gT
theorem x_callG {idx d1 mc1 ms1 n i : Nat} {As : List Value} (d : decode M.2.1 pc = .ok (.invokevirtual idx, 3)) (hk : MK M1 n) (hl0 : LKG M.1.cls idx M1.1) (hi : i < 13) (hM : XM Γ M1 d1 mc1 ms1 (.ref (sK Γ i) :: As) μ Q1) (hn : As.length = n) (hst : st0 = As.reverse ++ .ref (sK Γ i) :: st) (hw : (st.map fun v => v.category).sum ≤ 8) (hR : d1 + 1 ≤ R.frames ∧ 64 * (d1 + 1) ≤ R.locals) (hcs : cl + mc1 ≤ R.cells ∧ sl + ms1 ≤ R.slots)
    (kk : ∀ r μ', Q1 r μ' → WA Γ M R mc ms (cl + mc1) (sl + ms1) Q (pc + 3) lv (r.toList ++ st) μ') : WA Γ M R mc ms cl sl Q pc lv st0 μ := by
  intro p e s m args below meth c Qf H locs ls F hS hP hl hE
  obtain ⟨hx, hb, hml, -, -, -, hown, hts, hK, -, hSE⟩ := id F
  obtain ⟨hlk, hin, hsel⟩ := hl0
  refine x_go F hS hl hE (va_runV (Ts := gT) (own := M.1.cls) (C := "java/lang/String") (As := As) (cc := M.2.1) (nL := M.2.2.1) ⟨hx, hb, hml, hown, hts⟩ hM ⟨callB_of n hts (good_ws hk) rfl rfl rfl (hts _ hk.2.1) (hts _ hlk) hk.2.2.1 (x_room hk hR), hts _ hin, hts _ hsel⟩ ⟨xB_blind, vk_recv hSE.1 hi hS, fun U hU hW => ⟨rfl, xB_at F hS hP hU hW⟩⟩ rfl hn hl.1 hst (lv_room hw) d hcs) kk
theorem lg_J0_335 : LKG RJ0 335 yJ0_coder_7d493 := ⟨gt_of 318 (by decide +kernel) rfl, gt_of 319 (by decide +kernel) rfl, gt_of 320 (by decide +kernel) rfl⟩
theorem lg_J0_492 : LKG RJ0 492 yJ0_isLatin1_aae02 := ⟨gt_of 328 (by decide +kernel) rfl, gt_of 329 (by decide +kernel) rfl, gt_of 330 (by decide +kernel) rfl⟩
theorem lg_6_134 : LKG RX6 134 yJ0_length_8abf5 := ⟨gt_of 386 (by decide +kernel) rfl, gt_of 315 (by decide +kernel) rfl, gt_of 316 (by decide +kernel) rfl⟩
theorem lg_6_138 : LKG RX6 138 yJ0_charAt_5068e := ⟨gt_of 387 (by decide +kernel) rfl, gt_of 325 (by decide +kernel) rfl, gt_of 326 (by decide +kernel) rfl⟩
theorem lg_11_59 : LKG RX11 59 yJ0_length_8abf5 := ⟨gt_of 314 (by decide +kernel) rfl, gt_of 315 (by decide +kernel) rfl, gt_of 316 (by decide +kernel) rfl⟩
theorem lg_11_65 : LKG RX11 65 yJ0_charAt_5068e := ⟨gt_of 324 (by decide +kernel) rfl, gt_of 325 (by decide +kernel) rfl, gt_of 326 (by decide +kernel) rfl⟩
theorem fl_J0_9 : Cond.fieldLink RJ0 9 "java/lang/String" "value" "[B" ∈ gT := gt_of 1631 (by decide +kernel) rfl
theorem fl_J0_15 : Cond.fieldLink RJ0 15 "java/lang/String" "coder" "B" ∈ gT := gt_of 1632 (by decide +kernel) rfl
theorem fl_J0_38 : Cond.fieldLink RJ0 38 "java/lang/String" "COMPACT_STRINGS" "Z" ∈ gT := gt_of 322 (by decide +kernel) rfl
theorem fl_J0_1053 : Cond.fieldLink RJ0 1053 "jdk/internal/util/Preconditions" "SIOOBE_FORMATTER" "Ljava/util/function/BiFunction;" ∈ gT := gt_of 338 (by decide +kernel) rfl
theorem lk_J0_495 : LKS RJ0 495 yJ1_charAt_3b067 := ⟨gt_of 332 (by decide +kernel) rfl, gt_of 333 (by decide +kernel) rfl⟩
theorem lk_J1_9 : LKS RJ1 9 yJ0_checkIndex_df160 := ⟨gt_of 335 (by decide +kernel) rfl, gt_of 336 (by decide +kernel) rfl⟩
theorem lk_J0_1059 : LKS RJ0 1059 yJ3_checkIndex_8e157 := ⟨gt_of 340 (by decide +kernel) rfl, gt_of 341 (by decide +kernel) rfl⟩
theorem c_coder {i : Nat} (hi : i < 13) : XM Γ zJ0_coder_7d493 0 0 0 [.ref (sK Γ i)] μ (rt (.int 0) μ) := by
  refine XM.of 0 rfl (by decide) (Nat.le_of_ble_eq_true rfl) ?_
  refine x_getCS (pc := 0) dJ0_coder_7d493_0 fl_J0_38 ?_
  refine x_if_eq (pc := 3) (tgt := 13) dJ0_coder_7d493_3 rfl (fun h_3 => absurd h_3 (by decide)) (fun h_3 => ?_)
  refine x_aload_n (pc := 6) dJ0_coder_7d493_6 rfl ?_
  refine x_getSc (pc := 7) dJ0_coder_7d493_7 hi fl_J0_15 ?_
  refine x_goto (pc := 10) (tgt := 14) dJ0_coder_7d493_10 rfl ?_
  refine x_ireturn (pc := 14) dJ0_coder_7d493_14 rfl rfl ?_
  exact ⟨rfl, rfl⟩
theorem c_isLatin1 {i : Nat} (hi : i < 13) : XM Γ zJ0_isLatin1_aae02 0 0 0 [.ref (sK Γ i)] μ (rt (.int 1) μ) := by
  refine XM.of 0 rfl (by decide) (Nat.le_of_ble_eq_true rfl) ?_
  refine x_getCS (pc := 0) dJ0_isLatin1_aae02_0 fl_J0_38 ?_
  refine x_if_eq (pc := 3) (tgt := 17) dJ0_isLatin1_aae02_3 rfl (fun h_3 => absurd h_3 (by decide)) (fun h_3 => ?_)
  refine x_aload_n (pc := 6) dJ0_isLatin1_aae02_6 rfl ?_
  refine x_getSc (pc := 7) dJ0_isLatin1_aae02_7 hi fl_J0_15 ?_
  refine x_if_ne (pc := 10) (tgt := 17) dJ0_isLatin1_aae02_10 rfl (fun h_10 => absurd rfl h_10) (fun h_10 => ?_)
  refine x_iconst (pc := 13) (v := 1) dJ0_isLatin1_aae02_13 rfl ?_
  refine x_goto (pc := 14) (tgt := 18) dJ0_isLatin1_aae02_14 rfl ?_
  refine x_ireturn (pc := 18) dJ0_isLatin1_aae02_18 rfl rfl ?_
  exact ⟨rfl, rfl⟩
theorem sh0 : ∀ i : Nat, i < 13 → nI (sLn i) >>> ((0 : Int32) &&& 31) = nI (sLn i) := by decide +kernel
theorem c_length {i : Nat} (hi : i < 13) : XM Γ zJ0_length_8abf5 1 0 0 [.ref (sK Γ i)] μ (rt (.int (nI (sLn i))) μ) := by
  refine XM.of 0 rfl (by decide) (Nat.le_of_ble_eq_true rfl) ?_
  refine x_aload_n (pc := 0) dJ0_length_8abf5_0 rfl ?_
  refine x_getSv (pc := 1) dJ0_length_8abf5_1 hi fl_J0_9 ?_
  refine x_alenS (pc := 4) dJ0_length_8abf5_4 hi ?_
  refine x_aload_n (pc := 5) dJ0_length_8abf5_5 rfl ?_
  refine x_callG (pc := 6) (As := []) dJ0_length_8abf5_6 mJ0_coder_7d493 lg_J0_335 hi (c_coder hi) rfl rfl (Nat.le_of_ble_eq_true rfl) ⟨by decide, by decide⟩ ⟨Nat.zero_le _, Nat.zero_le _⟩ (k_rt ?_)
  refine x_ishr (pc := 9) dJ0_length_8abf5_9 ?_
  rw [sh0 i hi]
  refine x_ireturn (pc := 10) dJ0_length_8abf5_10 rfl rfl ?_
  exact ⟨rfl, rfl⟩
theorem c_pre {i n : Nat} {v : Value} (hv : v = .null ∨ ∃ t, v = .ref t) (hi : i < n) (hn : n < 2 ^ 31) : XM Γ zJ3_checkIndex_8e157 0 0 0 [.int (nI i), .int (nI n), v] μ (rt (.int (nI i)) μ) := by
  rcases hv with rfl | ⟨t, rfl⟩
  all_goals
    refine XM.of 0 rfl (by decide) (Nat.le_of_ble_eq_true rfl) ?_
    refine x_iload_n (pc := 0) dJ3_checkIndex_8e157_0 rfl ?_
    refine x_if_lt (pc := 1) (tgt := 9) dJ3_checkIndex_8e157_1 rfl (fun h_1 => absurd h_1 (nI_pos (by omega))) (fun h_1 => ?_)
    refine x_iload_n (pc := 4) dJ3_checkIndex_8e157_4 rfl ?_
    refine x_iload_n (pc := 5) dJ3_checkIndex_8e157_5 rfl ?_
    refine x_icmp_lt (pc := 6) (tgt := 16) dJ3_checkIndex_8e157_6 rfl (fun h_6 => ?_) (fun h_6 => absurd (nI_lt hi hn) h_6)
    refine x_iload_n (pc := 16) dJ3_checkIndex_8e157_16 rfl ?_
    refine x_ireturn (pc := 17) dJ3_checkIndex_8e157_17 rfl rfl ?_
    exact ⟨rfl, rfl⟩
theorem c_checkIndex {i n : Nat} (hi : i < n) (hn : n < 2 ^ 31) : XM Γ zJ0_checkIndex_df160 1 0 0 [.int (nI i), .int (nI n)] μ (rv μ) := by
  refine XM.of 0 rfl (by decide) (Nat.le_of_ble_eq_true rfl) ?_
  refine x_iload_n (pc := 0) dJ0_checkIndex_df160_0 rfl ?_
  refine x_iload_n (pc := 1) dJ0_checkIndex_df160_1 rfl ?_
  refine x_getPF (pc := 2) dJ0_checkIndex_df160_2 fl_J0_1053 (fun v hv => ?_)
  refine x_callS (pc := 5) (As := [.int _, .int _, v]) dJ0_checkIndex_df160_5 mJ3_checkIndex_8e157 lk_J0_1059 (c_pre hv hi hn) rfl rfl (Nat.le_of_ble_eq_true rfl) ⟨by decide, by decide⟩ ⟨Nat.zero_le _, Nat.zero_le _⟩ (k_rt ?_)
  refine x_pop (pc := 8) dJ0_checkIndex_df160_8 rfl ?_
  refine x_return (pc := 9) dJ0_checkIndex_df160_9 rfl ?_
  exact ⟨rfl, rfl⟩
theorem sBt_and : ∀ i : Nat, i < 13 → ∀ j : Nat, j < sLn i → ((sBt i j &&& 255).toUInt32 % 65536).toInt32 = sBt i j ∧ narrow .char (.int (sBt i j)) = .int (sBt i j) := by decide +kernel
theorem c_charL {i j : Nat} (hi : i < 13) (hj : j < sLn i) : XM Γ zJ1_charAt_3b067 2 0 0 [.ref (sV Γ i), .int (nI j)] μ (rt (.int (sBt i j)) μ) := by
  have h37 := sLn_lt hi
  refine XM.of 0 rfl (by decide) (Nat.le_of_ble_eq_true rfl) ?_
  refine x_iload_n (pc := 0) dJ1_charAt_3b067_0 rfl ?_
  refine x_aload_n (pc := 1) dJ1_charAt_3b067_1 rfl ?_
  refine x_alenS (pc := 2) dJ1_charAt_3b067_2 hi ?_
  refine x_callS (pc := 3) (As := [.int _, .int _]) dJ1_charAt_3b067_3 mJ0_checkIndex_df160 lk_J1_9 (c_checkIndex hj (by omega)) rfl rfl (Nat.le_of_ble_eq_true rfl) ⟨by decide, by decide⟩ ⟨Nat.zero_le _, Nat.zero_le _⟩ (k_rv ?_)
  refine x_aload_n (pc := 6) dJ1_charAt_3b067_6 rfl ?_
  refine x_iload_n (pc := 7) dJ1_charAt_3b067_7 rfl ?_
  refine x_baldS (pc := 8) dJ1_charAt_3b067_8 hi hj ?_
  refine x_sipush (pc := 9) (v := 255) dJ1_charAt_3b067_9 rfl ?_
  refine x_iand (pc := 12) dJ1_charAt_3b067_12 ?_
  refine x_i2c (pc := 13) dJ1_charAt_3b067_13 (sBt_and i hi j hj).1 ?_
  refine x_ireturn (pc := 14) dJ1_charAt_3b067_14 rfl (sBt_and i hi j hj).2 ?_
  exact ⟨rfl, rfl⟩
theorem c_charAt {i j : Nat} (hi : i < 13) (hj : j < sLn i) : XM Γ zJ0_charAt_5068e 3 0 0 [.ref (sK Γ i), .int (nI j)] μ (rt (.int (sBt i j)) μ) := by
  refine XM.of 0 rfl (by decide) (Nat.le_of_ble_eq_true rfl) ?_
  refine x_aload_n (pc := 0) dJ0_charAt_5068e_0 rfl ?_
  refine x_callG (pc := 1) (As := []) dJ0_charAt_5068e_1 mJ0_isLatin1_aae02 lg_J0_492 hi (c_isLatin1 hi) rfl rfl (Nat.le_of_ble_eq_true rfl) ⟨by decide, by decide⟩ ⟨Nat.zero_le _, Nat.zero_le _⟩ (k_rt ?_)
  refine x_if_eq (pc := 4) (tgt := 16) dJ0_charAt_5068e_4 rfl (fun h_4 => absurd h_4 (by decide)) (fun h_4 => ?_)
  refine x_aload_n (pc := 7) dJ0_charAt_5068e_7 rfl ?_
  refine x_getSv (pc := 8) dJ0_charAt_5068e_8 hi fl_J0_9 ?_
  refine x_iload_n (pc := 11) dJ0_charAt_5068e_11 rfl ?_
  refine x_callS (pc := 12) (As := [.ref _, .int _]) dJ0_charAt_5068e_12 mJ1_charAt_3b067 lk_J0_495 (c_charL hi hj) rfl rfl (Nat.le_of_ble_eq_true rfl) ⟨by decide, by decide⟩ ⟨Nat.zero_le _, Nat.zero_le _⟩ (k_rt ?_)
  refine x_ireturn (pc := 15) dJ0_charAt_5068e_15 rfl (sBt_and i hi j hj).2 ?_
  exact ⟨rfl, rfl⟩
end M87
