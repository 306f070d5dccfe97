/-! the classes by their numbers -/
def xN : Nat → Nat := fun ci => match ci with
  | 0 => 13
  | 1 => 13
  | 2 => 6
  | 3 => 13
  | 4 => 12
  | 5 => 13
  | 6 => 10
  | 7 => 3
  | 8 => 4
  | 9 => 13
  | 10 => 13
  | 11 => 9
  | 12 => 56
  | _ => 0
def xC : Nat → String := fun ci => match ci with
  | 0 => RX0
  | 1 => RX1
  | 2 => RX2
  | 3 => RX3
  | 4 => RX4
  | 5 => RX5
  | 6 => RX6
  | 7 => RX7
  | 8 => RX8
  | 9 => RX9
  | 10 => RX10
  | 11 => RX11
  | 12 => RX12
  | _ => ""
def xT : Nat → u_T := fun ci => match ci with
  | 0 => TX0
  | 1 => TX1
  | 2 => TX2
  | 3 => TX3
  | 4 => TX4
  | 5 => TX5
  | 6 => TX6
  | 7 => TX7
  | 8 => TX8
  | 9 => TX9
  | 10 => TX10
  | 11 => TX11
  | 12 => TX12
  | _ => TX0
def xty : Nat → Nat → FieldType := fun ci => match ci with
  | 0 => tyX0
  | 1 => tyX1
  | 2 => tyX2
  | 3 => tyX3
  | 4 => tyX4
  | 5 => tyX5
  | 6 => tyX6
  | 7 => tyX7
  | 8 => tyX8
  | 9 => tyX9
  | 10 => tyX10
  | 11 => tyX11
  | 12 => tyX12
  | _ => tyX0
theorem x_cl : ∀ {ci : Nat}, ci < 13 → vwCl[ci]? = some (xC ci, xT ci, xN ci)
  | 0, _ => rfl
  | 1, _ => rfl
  | 2, _ => rfl
  | 3, _ => rfl
  | 4, _ => rfl
  | 5, _ => rfl
  | 6, _ => rfl
  | 7, _ => rfl
  | 8, _ => rfl
  | 9, _ => rfl
  | 10, _ => rfl
  | 11, _ => rfl
  | 12, _ => rfl
  | _ + 13, h => absurd h (by omega)
theorem x_tyok : ∀ {ci : Nat}, ci < 13 → ∀ k, k < xN ci → parseFieldDescriptor (xT ci k).2.2.1 = some (xty ci k)
  | 0, _ => tyX0_ok
  | 1, _ => tyX1_ok
  | 2, _ => tyX2_ok
  | 3, _ => tyX3_ok
  | 4, _ => tyX4_ok
  | 5, _ => tyX5_ok
  | 6, _ => tyX6_ok
  | 7, _ => tyX7_ok
  | 8, _ => tyX8_ok
  | 9, _ => tyX9_ok
  | 10, _ => tyX10_ok
  | 11, _ => tyX11_ok
  | 12, _ => tyX12_ok
  | _ + 13, h => absurd h (by omega)
theorem x_nm : ∀ {ci : Nat}, ci < 13 → ∀ a, a < xN ci → ∀ b, b < xN ci → a ≠ b → (xT ci a).2.1 ≠ (xT ci b).2.1
  | 0, _ => nmX0
  | 1, _ => nmX1
  | 2, _ => nmX2
  | 3, _ => nmX3
  | 4, _ => nmX4
  | 5, _ => nmX5
  | 6, _ => nmX6
  | 7, _ => nmX7
  | 8, _ => nmX8
  | 9, _ => nmX9
  | 10, _ => nmX10
  | 11, _ => nmX11
  | 12, _ => nmX12
  | _ + 13, h => absurd h (by omega)
/-! the good words of the tables -/
def gT : List Cond := lw_tbl.filter goodWord
theorem gt_of {w : Cond} (i : Nat) (h : lw_tbl[i]? = some w) (hg : goodWord w = true) : w ∈ gT := List.mem_filter.mpr ⟨List.mem_of_getElem? h, hg⟩
theorem gt_sub {w : Cond} (h : w ∈ gT) : w ∈ lw_tbl := (List.mem_filter.mp h).1
theorem gt_good {w : Cond} (h : w ∈ gT) : (w.onTables && w.keeps) = true ∨ ∃ ty, w = .arrayClass ty := good_of_word (List.mem_filter.mp h).2
theorem gt_ps {ws : List Cond} (ps : List Nat) (hp : ws = ps.filterMap (fun i => lw_tbl[i]?)) (h : ws.all goodWord = true) : ∀ w ∈ ws, w ∈ gT := fun w hw => List.mem_filter.mpr ⟨by rw [hp] at hw; obtain ⟨i, -, hi⟩ := List.mem_filterMap.mp hw; exact List.mem_of_getElem? hi, List.all_eq_true.mp h w hw⟩
set_option maxRecDepth 100000 in
theorem x_in0 : ∀ w ∈ u_ws RX0 TX0 13, w ∈ gT := gt_ps [640, 641, 642, 643, 644, 645, 646, 647, 648, 649, 650, 651, 652] (by decide +kernel) (by decide +kernel)
set_option maxRecDepth 100000 in
theorem x_in1 : ∀ w ∈ u_ws RX1 TX1 13, w ∈ gT := gt_ps [580, 581, 582, 583, 584, 585, 586, 587, 588, 589, 590, 591, 592] (by decide +kernel) (by decide +kernel)
set_option maxRecDepth 100000 in
theorem x_in2 : ∀ w ∈ u_ws RX2 TX2 6, w ∈ gT := gt_ps [192, 194, 196, 198, 200, 202] (by decide +kernel) (by decide +kernel)
set_option maxRecDepth 100000 in
theorem x_in3 : ∀ w ∈ u_ws RX3 TX3 13, w ∈ gT := gt_ps [560, 561, 562, 563, 564, 565, 566, 567, 568, 569, 570, 571, 572] (by decide +kernel) (by decide +kernel)
set_option maxRecDepth 100000 in
theorem x_in4 : ∀ w ∈ u_ws RX4 TX4 12, w ∈ gT := gt_ps [270, 272, 274, 276, 278, 280, 282, 284, 286, 288, 290, 292] (by decide +kernel) (by decide +kernel)
set_option maxRecDepth 100000 in
theorem x_in5 : ∀ w ∈ u_ws RX5 TX5 13, w ∈ gT := gt_ps [600, 601, 602, 603, 604, 605, 606, 607, 608, 609, 610, 611, 612] (by decide +kernel) (by decide +kernel)
set_option maxRecDepth 100000 in
theorem x_in6 : ∀ w ∈ u_ws RX6 TX6 10, w ∈ gT := gt_ps [221, 223, 225, 227, 229, 231, 233, 235, 237, 239] (by decide +kernel) (by decide +kernel)
set_option maxRecDepth 100000 in
theorem x_in7 : ∀ w ∈ u_ws RX7 TX7 3, w ∈ gT := gt_ps [306, 308, 310] (by decide +kernel) (by decide +kernel)
set_option maxRecDepth 100000 in
theorem x_in8 : ∀ w ∈ u_ws RX8 TX8 4, w ∈ gT := gt_ps [483, 485, 487, 489] (by decide +kernel) (by decide +kernel)
set_option maxRecDepth 100000 in
theorem x_in9 : ∀ w ∈ u_ws RX9 TX9 13, w ∈ gT := gt_ps [147, 149, 151, 153, 155, 157, 159, 161, 163, 165, 167, 169, 171] (by decide +kernel) (by decide +kernel)
set_option maxRecDepth 100000 in
theorem x_in10 : ∀ w ∈ u_ws RX10 TX10 13, w ∈ gT := gt_ps [620, 621, 622, 623, 624, 625, 626, 627, 628, 629, 630, 631, 632] (by decide +kernel) (by decide +kernel)
set_option maxRecDepth 100000 in
theorem x_in11 : ∀ w ∈ u_ws RX11 TX11 9, w ∈ gT := gt_ps [502, 504, 506, 508, 510, 512, 514, 516, 518] (by decide +kernel) (by decide +kernel)
set_option maxRecDepth 100000 in
theorem x_in12 : ∀ w ∈ u_ws RX12 TX12 56, w ∈ gT := gt_ps [1202, 1204, 1206, 1208, 1210, 1212, 1214, 1216, 1218, 1220, 1222, 1224, 1226, 1228, 1230, 1232, 1234, 1236, 1238, 1240, 1242, 1244, 1246, 1248, 1250, 1252, 1254, 1256, 1258, 1260, 1262, 1264, 1266, 1268, 1270, 1272, 1274, 1276, 1278, 1280, 1282, 1284, 1286, 1288, 1290, 1292, 1294, 1296, 1298, 1300, 1302, 1304, 1306, 1308, 1310, 1312] (by decide +kernel) (by decide +kernel)
theorem x_in : ∀ {ci : Nat}, ci < 13 → ∀ w ∈ u_ws (xC ci) (xT ci) (xN ci), w ∈ gT
  | 0, _ => x_in0
  | 1, _ => x_in1
  | 2, _ => x_in2
  | 3, _ => x_in3
  | 4, _ => x_in4
  | 5, _ => x_in5
  | 6, _ => x_in6
  | 7, _ => x_in7
  | 8, _ => x_in8
  | 9, _ => x_in9
  | 10, _ => x_in10
  | 11, _ => x_in11
  | 12, _ => x_in12
  | _ + 13, h => absurd h (by omega)
