/-! the class: a thing -/
theorem pre_st {κ : KS} {o f j : Nat} {v : Int32} {E g : Nat → Int32} (h : v = E j) : kA (kS κ o f (pre E g j)) o f j v = kS κ o f (pre E g (j + 1)) := by
  rw [kS_A, h, pre_s]
theorem pre_no {E g : Nat → Int32} {j : Nat} (h : g j = E j) : pre E g j = pre E g (j + 1) := by
  rw [← pre_s]
  funext y
  by_cases hy : y = j
  · rw [hy, va_up_s, pre_ge (Nat.le_refl j), h]
  · rw [va_up_n hy]
/-- object o is thing i of D -/
def TH (κ : KS) (o : Nat) (D : PD) (i : Nat) : Prop := D 0 i < 6 ∧ D 1 i < 10 ∧ D 2 i < 4 ∧ κ.1 o 1 = nI i ∧ κ.1 o 2 = nI (D 1 i) ∧ κ.1 o 3 = nI (D 2 i)
/-- how bad by all who see, but the giver: m says who -/
def ofsD (D : PD) (i m : Nat) : Nat → Nat
  | 0 => 0
  | g + 1 => ofsD D i m g + (if g ≠ D 2 i ∧ m.testBit g = true then ofD (D 0 i) (D 1 i) (D 2 i) g else 0)
/-- what a thing has learnt -/
def LN (κ : KS) (o : Nat) (D : PD) (i : Nat) : Prop := (∀ s, s < 7 → κ.2 o 6 s = nI (D 7 (7 * i + s)) ∧ κ.2 o 7 s = nI (D 8 (7 * i + s)) ∧ κ.2 o 11 s = if stD (D 0 i) s = true then 0 else 1000000) ∧ (∀ c, c < 5 → κ.2 o 8 c = nI (D 9 (5 * i + c))) ∧ (∀ m, m < 16 → κ.2 o 9 m = nI (ofsD D i m 4)) ∧ κ.1 o 10 = nI (msD (D 0 i) (D 1 i))
def hmD (D : PD) (i G V : Nat) : Nat := ofsD D i (G &&& V) 4 + (if G.testBit (D 2 i) = true ∧ V.testBit (D 2 i) = false then msD (D 0 i) (D 1 i) else 0)
theorem and_a : ∀ G, G < 16 → ∀ V, V < 16 → nI G &&& nI V = nI (G &&& V) ∧ (G &&& V) < 16 := by decide +kernel
theorem mis_a : ∀ G, G < 16 → ∀ V, V < 16 → ∀ g, g < 4 → ((nI G &&& (nI V ^^^ (-1))) &&& ((1 : Int32) <<< (nI g &&& 31)) = 0 ↔ ¬ (G.testBit g = true ∧ V.testBit g = false)) := by decide +kernel
theorem ofs_le {κ : KS} {o : Nat} {D : PD} {i : Nat} (h : TH κ o D i) (m : Nat) : ∀ g, g ≤ 4 → ofsD D i m g ≤ 2 * g
  | 0, _ => Nat.le_refl _
  | g + 1, hg => by
    have := ofs_le h m g (by omega)
    obtain ⟨k1, k2, k3, -⟩ := h
    have := (of_a (D 0 i) k1 (D 1 i) k2 (D 2 i) k3 g (by omega)).2
    unfold ofsD
    split <;> omega
section M76
variable {Γ : Gm} {μ : Mem} {b : Kb} {κ : KS} {o ci : Nat}
theorem k_change3 (hth : isTh ci) (hK : KO μ b o ci thL) (v : Int32) : XM Γ zX9_change 2 0 0 [.ref (adO b o), .int 3, .int v] (KV μ b κ) (rt (.int (if 0 ≤ v ∧ v < 10 then κ.1 o 2 else -2)) (KV μ b (if 0 ≤ v ∧ v < 10 then kI κ o 2 v else κ))) := by
  refine XM.of 1 rfl (by decide) (Nat.le_of_ble_eq_true rfl) ?_
  refine x_iload_n (pc := 0) dX9_change_0 rfl ?_
  refine x_iload_n (pc := 1) dX9_change_1 rfl ?_
  refine x_iconst (pc := 2) (v := 4) dX9_change_2 rfl ?_
  refine x_icmp_ne (pc := 3) (tgt := 10) dX9_change_3 rfl (fun h_3 => ?_) (fun h_3 => absurd h_3 (by decide))
  refine x_bipush (pc := 10) (v := 10) dX9_change_10 rfl ?_
  refine x_callSN (pc := 12) (As := [.int _, .int _]) dX9_change_12 mX11_isBelow lk_9_52 (k_isBelow _ _) rfl rfl (Nat.le_of_ble_eq_true rfl) ⟨by decide, by decide⟩ ⟨Nat.zero_le _, Nat.zero_le _⟩ (k_rt ?_)
  refine x_if_ne (pc := 15) (tgt := 21) dX9_change_15 rfl (fun h_15 => ?_) (fun h_15 => ?_)
  · refine x_iload_n (pc := 21) dX9_change_21 rfl ?_
    refine x_iconst (pc := 22) (v := 3) dX9_change_22 rfl ?_
    refine x_icmp_ne (pc := 23) (tgt := 39) dX9_change_23 rfl (fun h_23 => absurd (by decide) h_23) (fun h_23 => ?_)
    refine x_aload_n (pc := 26) dX9_change_26 rfl ?_
    refine k_getI (pc := 27) hK dX9_change_27 (fk_9_43 hth) (Or.inl (th_i hth (by decide))) ?_
    refine x_istore_n (pc := 30) (lv2 := [_, _, _, _]) dX9_change_30 (by decide) rfl rfl ?_
    refine x_aload_n (pc := 31) dX9_change_31 rfl ?_
    refine x_iload_n (pc := 32) dX9_change_32 rfl ?_
    refine k_putI (pc := 33) hK dX9_change_33 (fk_9_43 hth) (Or.inl (th_f hth (by decide))) (Or.inl (th_i hth (by decide))) ?_
    refine x_goto (pc := 36) (tgt := 67) dX9_change_36 rfl ?_
    refine x_iload_n (pc := 67) dX9_change_67 rfl ?_
    refine x_ireturn (pc := 68) dX9_change_68 rfl rfl ?_
    exact ⟨by rw [if_pos (bi_n0 h_15)], by rw [if_pos (bi_n0 h_15)]⟩
  · refine x_bipush (pc := 18) (v := -2) dX9_change_18 rfl ?_
    refine x_ireturn (pc := 20) dX9_change_20 rfl rfl ?_
    exact ⟨by rw [if_neg (bi_0.mp h_15)], by rw [if_neg (bi_0.mp h_15)]⟩
theorem k_change4 (hth : isTh ci) (hK : KO μ b o ci thL) (v : Int32) : XM Γ zX9_change 2 0 0 [.ref (adO b o), .int 4, .int v] (KV μ b κ) (rt (.int (if 0 ≤ v ∧ v < 4 then κ.1 o 3 else -2)) (KV μ b (if 0 ≤ v ∧ v < 4 then kI κ o 3 v else κ))) := by
  refine XM.of 1 rfl (by decide) (Nat.le_of_ble_eq_true rfl) ?_
  refine x_iload_n (pc := 0) dX9_change_0 rfl ?_
  refine x_iload_n (pc := 1) dX9_change_1 rfl ?_
  refine x_iconst (pc := 2) (v := 4) dX9_change_2 rfl ?_
  refine x_icmp_ne (pc := 3) (tgt := 10) dX9_change_3 rfl (fun h_3 => absurd (by decide) h_3) (fun h_3 => ?_)
  refine x_iconst (pc := 6) (v := 4) dX9_change_6 rfl ?_
  refine x_goto (pc := 7) (tgt := 12) dX9_change_7 rfl ?_
  refine x_callSN (pc := 12) (As := [.int _, .int _]) dX9_change_12 mX11_isBelow lk_9_52 (k_isBelow _ _) rfl rfl (Nat.le_of_ble_eq_true rfl) ⟨by decide, by decide⟩ ⟨Nat.zero_le _, Nat.zero_le _⟩ (k_rt ?_)
  refine x_if_ne (pc := 15) (tgt := 21) dX9_change_15 rfl (fun h_15 => ?_) (fun h_15 => ?_)
  · refine x_iload_n (pc := 21) dX9_change_21 rfl ?_
    refine x_iconst (pc := 22) (v := 3) dX9_change_22 rfl ?_
    refine x_icmp_ne (pc := 23) (tgt := 39) dX9_change_23 rfl (fun h_23 => ?_) (fun h_23 => absurd h_23 (by decide))
    refine x_iload_n (pc := 39) dX9_change_39 rfl ?_
    refine x_iconst (pc := 40) (v := 4) dX9_change_40 rfl ?_
    refine x_icmp_ne (pc := 41) (tgt := 57) dX9_change_41 rfl (fun h_41 => absurd (by decide) h_41) (fun h_41 => ?_)
    refine x_aload_n (pc := 44) dX9_change_44 rfl ?_
    refine k_getI (pc := 45) hK dX9_change_45 (fk_9_49 hth) (Or.inl (th_i hth (by decide))) ?_
    refine x_istore_n (pc := 48) (lv2 := [_, _, _, _]) dX9_change_48 (by decide) rfl rfl ?_
    refine x_aload_n (pc := 49) dX9_change_49 rfl ?_
    refine x_iload_n (pc := 50) dX9_change_50 rfl ?_
    refine k_putI (pc := 51) hK dX9_change_51 (fk_9_49 hth) (Or.inl (th_f hth (by decide))) (Or.inl (th_i hth (by decide))) ?_
    refine x_goto (pc := 54) (tgt := 67) dX9_change_54 rfl ?_
    refine x_iload_n (pc := 67) dX9_change_67 rfl ?_
    refine x_ireturn (pc := 68) dX9_change_68 rfl rfl ?_
    exact ⟨by rw [if_pos (bi_n0 h_15)], by rw [if_pos (bi_n0 h_15)]⟩
  · refine x_bipush (pc := 18) (v := -2) dX9_change_18 rfl ?_
    refine x_ireturn (pc := 20) dX9_change_20 rfl rfl ?_
    exact ⟨by rw [if_neg (bi_0.mp h_15)], by rw [if_neg (bi_0.mp h_15)]⟩
theorem k_change5 (hth : isTh ci) (hK : KO μ b o ci thL) (v : Int32) : XM Γ zX9_change 2 0 0 [.ref (adO b o), .int 5, .int v] (KV μ b κ) (rt (.int (if 0 ≤ v ∧ v < 10 then κ.1 o 4 else -2)) (KV μ b (if 0 ≤ v ∧ v < 10 then kI κ o 4 v else κ))) := by
  refine XM.of 1 rfl (by decide) (Nat.le_of_ble_eq_true rfl) ?_
  refine x_iload_n (pc := 0) dX9_change_0 rfl ?_
  refine x_iload_n (pc := 1) dX9_change_1 rfl ?_
  refine x_iconst (pc := 2) (v := 4) dX9_change_2 rfl ?_
  refine x_icmp_ne (pc := 3) (tgt := 10) dX9_change_3 rfl (fun h_3 => ?_) (fun h_3 => absurd h_3 (by decide))
  refine x_bipush (pc := 10) (v := 10) dX9_change_10 rfl ?_
  refine x_callSN (pc := 12) (As := [.int _, .int _]) dX9_change_12 mX11_isBelow lk_9_52 (k_isBelow _ _) rfl rfl (Nat.le_of_ble_eq_true rfl) ⟨by decide, by decide⟩ ⟨Nat.zero_le _, Nat.zero_le _⟩ (k_rt ?_)
  refine x_if_ne (pc := 15) (tgt := 21) dX9_change_15 rfl (fun h_15 => ?_) (fun h_15 => ?_)
  · refine x_iload_n (pc := 21) dX9_change_21 rfl ?_
    refine x_iconst (pc := 22) (v := 3) dX9_change_22 rfl ?_
    refine x_icmp_ne (pc := 23) (tgt := 39) dX9_change_23 rfl (fun h_23 => ?_) (fun h_23 => absurd h_23 (by decide))
    refine x_iload_n (pc := 39) dX9_change_39 rfl ?_
    refine x_iconst (pc := 40) (v := 4) dX9_change_40 rfl ?_
    refine x_icmp_ne (pc := 41) (tgt := 57) dX9_change_41 rfl (fun h_41 => ?_) (fun h_41 => absurd h_41 (by decide))
    refine x_aload_n (pc := 57) dX9_change_57 rfl ?_
    refine k_getI (pc := 58) hK dX9_change_58 (fk_9_46 hth) (Or.inl (th_i hth (by decide))) ?_
    refine x_istore_n (pc := 61) (lv2 := [_, _, _, _]) dX9_change_61 (by decide) rfl rfl ?_
    refine x_aload_n (pc := 62) dX9_change_62 rfl ?_
    refine x_iload_n (pc := 63) dX9_change_63 rfl ?_
    refine k_putI (pc := 64) hK dX9_change_64 (fk_9_46 hth) (Or.inl (th_f hth (by decide))) (Or.inl (th_i hth (by decide))) ?_
    refine x_iload_n (pc := 67) dX9_change_67 rfl ?_
    refine x_ireturn (pc := 68) dX9_change_68 rfl rfl ?_
    exact ⟨by rw [if_pos (bi_n0 h_15)], by rw [if_pos (bi_n0 h_15)]⟩
  · refine x_bipush (pc := 18) (v := -2) dX9_change_18 rfl ?_
    refine x_ireturn (pc := 20) dX9_change_20 rfl rfl ?_
    exact ⟨by rw [if_neg (bi_0.mp h_15)], by rw [if_neg (bi_0.mp h_15)]⟩
/-- what is taken over from another one -/
def tkK (κ : KS) (o p : Nat) : KS := kI (kI (kI (kI κ o 2 (κ.1 p 2)) o 3 (κ.1 p 3)) o 4 (κ.1 p 4)) o 5 (κ.1 p 5)
theorem k_take (hth : isTh ci) (hK : KO μ b o ci thL) {q ci2 : Nat} (hth2 : isTh ci2) (hK2 : KO μ b q ci2 thL) (hne : q ≠ o) : XM Γ zX9_take 1 0 0 [.ref (adO b o), .ref (adO b q)] (KV μ b κ) (rv (KV μ b (tkK κ o q))) := by
  refine XM.of 0 rfl (by decide) (Nat.le_of_ble_eq_true rfl) ?_
  refine x_aload_n (pc := 0) dX9_take_0 rfl ?_
  refine x_aload_n (pc := 1) dX9_take_1 rfl ?_
  refine k_getI (pc := 2) hK2 dX9_take_2 (fk_9_43 hth2) (Or.inl (th_i hth2 (by decide))) ?_
  refine k_putI (pc := 5) hK dX9_take_5 (fk_9_43 hth) (Or.inl (th_f hth (by decide))) (Or.inl (th_i hth (by decide))) ?_
  refine x_aload_n (pc := 8) dX9_take_8 rfl ?_
  refine x_aload_n (pc := 9) dX9_take_9 rfl ?_
  refine k_getI (pc := 10) hK2 dX9_take_10 (fk_9_49 hth2) (Or.inl (th_i hth2 (by decide))) ?_
  refine k_putI (pc := 13) hK dX9_take_13 (fk_9_49 hth) (Or.inl (th_f hth (by decide))) (Or.inl (th_i hth (by decide))) ?_
  refine x_aload_n (pc := 16) dX9_take_16 rfl ?_
  refine x_aload_n (pc := 17) dX9_take_17 rfl ?_
  refine k_getI (pc := 18) hK2 dX9_take_18 (fk_9_46 hth2) (Or.inl (th_i hth2 (by decide))) ?_
  refine k_putI (pc := 21) hK dX9_take_21 (fk_9_46 hth) (Or.inl (th_f hth (by decide))) (Or.inl (th_i hth (by decide))) ?_
  refine x_aload_n (pc := 24) dX9_take_24 rfl ?_
  refine x_aload_n (pc := 25) dX9_take_25 rfl ?_
  refine k_getI (pc := 26) hK2 dX9_take_26 (fk_9_9 hth2) (Or.inl (th_i hth2 (by decide))) ?_
  refine k_putI (pc := 29) hK dX9_take_29 (fk_9_9 hth) (Or.inl (th_f hth (by decide))) (Or.inl (th_i hth (by decide))) ?_
  refine x_return (pc := 32) dX9_take_32 rfl ?_
  have e : ∀ (κ' : KS) (k0 : Nat) (v : Int32) (k : Nat), (kI κ' o k0 v).1 q k = κ'.1 q k := fun κ' k0 v k => up2_n (Or.inl hne)
  refine ⟨rfl, ?_⟩
  rw [e, e, e, e, e, e]
  rfl
/-- a text's starts are such -/
def tOk (κ : KS) (tx : Nat) : Prop := ∀ x, x < 3 → ∃ sx, sx < 2 ^ 31 ∧ κ.2 tx 1 x = nI sx
theorem nI7 {s : Nat} (h : s < 7) (h0 : s ≠ 0) : ¬ nI s = 0 := nI_ne0 (by omega) (by omega)
theorem k_movesTo (hth : isTh ci) (hK : KO μ b o ci thL) {tx tn : Nat} (hX : KO μ b tx 8 (tLen tn)) (htn : tn ≠ 0) (htn2 : tn < 2 ^ 31) (hne : o ≠ tx) {s : Nat} (hs : s < 7) (ht : tOk κ tx) : XM Γ zX9_movesTo 3 0 0 [.ref (adO b o), .ref (adO b tx), .int (nI s)] (KV μ b κ) (fun r μ2 => ∃ κ2, r = some (.int (tVal κ tx tn o 0 (spl s) 0)) ∧ μ2 = KV μ b κ2 ∧ kq (tP tx) κ κ2) := by
  refine XM.of 0 rfl (by decide) (Nat.le_of_ble_eq_true rfl) ?_
  obtain ⟨sx, hsx, es⟩ := ht 0 (by omega)
  by_cases h0 : s = 0
  · refine x_aload_n (pc := 0) dX9_movesTo_0 rfl ?_
    refine x_iconst (pc := 1) (v := 0) dX9_movesTo_1 rfl ?_
    refine x_aload_n (pc := 2) dX9_movesTo_2 rfl ?_
    refine x_iload_n (pc := 3) dX9_movesTo_3 rfl ?_
    refine x_if_ne (pc := 4) (tgt := 12) dX9_movesTo_4 rfl (fun h_4 => absurd (by rw [h0]; rfl) h_4) (fun h_4 => ?_)
    refine x_bipush (pc := 7) (v := 6) dX9_movesTo_7 rfl ?_
    refine x_goto (pc := 9) (tgt := 15) dX9_movesTo_9 rfl ?_
    refine x_iconst (pc := 15) (v := 0) dX9_movesTo_15 rfl ?_
    refine x_callV (pc := 16) (As := [.int (nI 0), .ref _, .int _, .int _]) dX9_movesTo_16 mX8_tells lk_9_56 hX.2.2.1 (k_tells (x := 0) hX htn htn2 hth hK hne (by omega) es hsx _ _) rfl rfl (Nat.le_of_ble_eq_true rfl) ⟨by decide, by decide⟩ ⟨Nat.zero_le _, Nat.zero_le _⟩ (fun r μ2 hq => ?_)
    obtain ⟨κ2, rfl, rfl, hq2⟩ := hq
    refine x_ireturn (pc := 19) dX9_movesTo_19 rfl rfl ?_
    exact ⟨κ2, by unfold spl; rw [if_pos h0], rfl, hq2⟩
  · refine x_aload_n (pc := 0) dX9_movesTo_0 rfl ?_
    refine x_iconst (pc := 1) (v := 0) dX9_movesTo_1 rfl ?_
    refine x_aload_n (pc := 2) dX9_movesTo_2 rfl ?_
    refine x_iload_n (pc := 3) dX9_movesTo_3 rfl ?_
    refine x_if_ne (pc := 4) (tgt := 12) dX9_movesTo_4 rfl (fun h_4 => ?_) (fun h_4 => absurd h_4 (nI7 hs h0))
    refine x_iload_n (pc := 12) dX9_movesTo_12 rfl ?_
    refine x_iconst (pc := 13) (v := 1) dX9_movesTo_13 rfl ?_
    refine x_isub (pc := 14) dX9_movesTo_14 ?_
    refine x_iconst (pc := 15) (v := 0) dX9_movesTo_15 rfl ?_
    refine x_callV (pc := 16) (As := [.int (nI 0), .ref _, .int _, .int _]) dX9_movesTo_16 mX8_tells lk_9_56 hX.2.2.1 (k_tells (x := 0) hX htn htn2 hth hK hne (by omega) es hsx _ _) rfl rfl (Nat.le_of_ble_eq_true rfl) ⟨by decide, by decide⟩ ⟨Nat.zero_le _, Nat.zero_le _⟩ (fun r μ2 hq => ?_)
    obtain ⟨κ2, rfl, rfl, hq2⟩ := hq
    refine x_ireturn (pc := 19) dX9_movesTo_19 rfl rfl ?_
    exact ⟨κ2, by unfold spl; rw [if_neg h0], rfl, hq2⟩
theorem k_isBarred (hth : isTh ci) (hK : KO μ b o ci thL) {s : Nat} (hs : s < 7) : XM Γ zX9_isBarred 1 0 0 [.ref (adO b o), .int (nI s)] (KV μ b κ) (rt (.int (bi (¬ κ.2 o 11 s = 0))) (KV μ b κ)) := by
  refine XM.of 0 rfl (by decide) (Nat.le_of_ble_eq_true rfl) ?_
  refine x_aload_n (pc := 0) dX9_isBarred_0 rfl ?_
  refine k_getA (pc := 1) hK dX9_isBarred_1 (fk_9_31 hth) (th_a hth (by decide)) (by decide) ?_
  refine x_iload_n (pc := 4) dX9_isBarred_4 rfl ?_
  refine k_iald (pc := 5) hK dX9_isBarred_5 (rfl) (hs) (by decide) ?_
  refine x_if_eq (pc := 6) (tgt := 13) dX9_isBarred_6 rfl (fun h_6 => ?_) (fun h_6 => ?_)
  · refine x_iconst (pc := 13) (v := 0) dX9_isBarred_13 rfl ?_
    refine x_ireturn (pc := 14) dX9_isBarred_14 rfl (by first | rfl | exact bi_nz) ?_
    exact ⟨by
      first
        | rw [bi_t (by exact h_6)]
        | rw [bi_f (by exact fun z => z (by first | exact h_6 | exact Decidable.not_not.mp h_6))], rfl⟩
  · refine x_iconst (pc := 9) (v := 1) dX9_isBarred_9 rfl ?_
    refine x_goto (pc := 10) (tgt := 14) dX9_isBarred_10 rfl ?_
    refine x_ireturn (pc := 14) dX9_isBarred_14 rfl (by first | rfl | exact bi_nz) ?_
    exact ⟨by
      first
        | rw [bi_t (by exact h_6)]
        | rw [bi_f (by exact fun z => z (by first | exact h_6 | exact Decidable.not_not.mp h_6))], rfl⟩
theorem k_offenceTo {D : PD} {i m : Nat} (hK : KO μ b o (kci (D 0 i)) thL) (hT : TH κ o D i) (hm : m < 16) : XM Γ zX9_offenceTo 4 0 0 [.ref (adO b o), .int (nI m)] (KV μ b κ) (rt (.int (nI (ofsD D i m 4))) (KV μ b κ)) := by
  refine XM.of 2 rfl (by decide) (Nat.le_of_ble_eq_true rfl) ?_
  have hth := kci_th (D 0 i)
  obtain ⟨k1, k2, k3, -, e2, e3⟩ := hT
  have L : ∀ (f g : Nat), g + f = 4 → WA Γ zX9_offenceTo (xrm 4 0 0) 0 0 0 0 (rt (.int (nI (ofsD D i m 4))) (KV μ b κ)) 4 [some (.ref (adO b o)), some (.int (nI m)), some (.int (nI (ofsD D i m g))), some (.int (nI g))] [] (KV μ b κ) := by
    intro f
    induction f with
    | zero =>
      intro g hg
      obtain rfl : g = 4 := by omega
      refine x_iload_n (pc := 4) dX9_offenceTo_4 rfl ?_
      refine x_iconst (pc := 5) (v := 4) dX9_offenceTo_5 rfl ?_
      refine x_icmp_ge (pc := 6) (tgt := 43) dX9_offenceTo_6 rfl (fun h_6 => ?_) (fun h_6 => absurd (by decide) h_6)
      refine x_iload_n (pc := 43) dX9_offenceTo_43 rfl ?_
      refine x_ireturn (pc := 44) dX9_offenceTo_44 rfl rfl ?_
      exact ⟨rfl, rfl⟩
    | succ f ih =>
      intro g hg
      have eh := hb_a m (by omega) g (by omega)
      have eo := (of_a (D 0 i) k1 (D 1 i) k2 (D 2 i) k3 g (by omega)).1
      have hst : ofsD D i m (g + 1) = ofsD D i m g + (if g ≠ D 2 i ∧ m.testBit g = true then ofD (D 0 i) (D 1 i) (D 2 i) g else 0) := rfl
      have eg : nI g = nI (D 2 i) ↔ g = D 2 i := nI_eq (by omega) (by omega)
      have IH := ih (g + 1) (by omega)
      rw [hst] at IH
      refine x_iload_n (pc := 4) dX9_offenceTo_4 rfl ?_
      refine x_iconst (pc := 5) (v := 4) dX9_offenceTo_5 rfl ?_
      refine x_icmp_ge (pc := 6) (tgt := 43) dX9_offenceTo_6 rfl (fun h_6 => absurd h_6 (lit_le (n := 4) g (by omega) (by omega))) (fun h_6 => ?_)
      refine x_iload_n (pc := 9) dX9_offenceTo_9 rfl ?_
      refine x_iload_n (pc := 10) dX9_offenceTo_10 rfl ?_
      refine x_aload_n (pc := 11) dX9_offenceTo_11 rfl ?_
      refine k_getI (pc := 12) hK dX9_offenceTo_12 (fk_9_49 hth) (Or.inl (th_i hth (by decide))) ?_
      rw [e3]
      refine x_icmp_eq (pc := 15) (tgt := 34) dX9_offenceTo_15 rfl (fun h_15 => ?_) (fun h_15 => ?_)
      · refine x_iconst (pc := 34) (v := 0) dX9_offenceTo_34 rfl ?_
        refine x_iadd (pc := 35) dX9_offenceTo_35 ?_
        first
          | (rw [if_pos ⟨fun z => h_15 (eg.mpr z), bi_n0 (by exact h_23)⟩] at IH; rw [nI_add])
          | (rw [if_neg (by
              rintro ⟨z1, z2⟩
              first
                | exact z1 (eg.mp (by first | exact h_15 | exact Decidable.not_not.mp h_15))
                | exact absurd (by first | exact h_23 | exact Decidable.not_not.mp h_23) (by rw [bi_t z2]; decide))] at IH
             rw [Int32.add_zero])
        refine x_istore_n (pc := 36) (lv2 := [_, _, _, _]) dX9_offenceTo_36 (by decide) rfl rfl ?_
        refine x_iinc (pc := 37) (lv2 := [_, _, _, _]) dX9_offenceTo_37 (by decide) rfl rfl (nI_1 _) rfl ?_
        refine x_goto (pc := 40) (tgt := 4) dX9_offenceTo_40 rfl ?_
        exact IH
      · refine x_iload_n (pc := 18) dX9_offenceTo_18 rfl ?_
        refine x_iload_n (pc := 19) dX9_offenceTo_19 rfl ?_
        refine x_callSN (pc := 20) (As := [.int _, .int _]) dX9_offenceTo_20 mX11_hasBit lk_9_79 (k_hasBit _ _) rfl rfl (Nat.le_of_ble_eq_true rfl) ⟨by decide, by decide⟩ ⟨Nat.zero_le _, Nat.zero_le _⟩ (k_rt ?_)
        rw [eh]
        refine x_if_eq (pc := 23) (tgt := 34) dX9_offenceTo_23 rfl (fun h_23 => ?_) (fun h_23 => ?_)
        · refine x_iconst (pc := 34) (v := 0) dX9_offenceTo_34 rfl ?_
          refine x_iadd (pc := 35) dX9_offenceTo_35 ?_
          first
            | (rw [if_pos ⟨fun z => h_15 (eg.mpr z), bi_n0 (by exact h_23)⟩] at IH; rw [nI_add])
            | (rw [if_neg (by
                rintro ⟨z1, z2⟩
                first
                  | exact z1 (eg.mp (by first | exact h_15 | exact Decidable.not_not.mp h_15))
                  | exact absurd (by first | exact h_23 | exact Decidable.not_not.mp h_23) (by rw [bi_t z2]; decide))] at IH
               rw [Int32.add_zero])
          refine x_istore_n (pc := 36) (lv2 := [_, _, _, _]) dX9_offenceTo_36 (by decide) rfl rfl ?_
          refine x_iinc (pc := 37) (lv2 := [_, _, _, _]) dX9_offenceTo_37 (by decide) rfl rfl (nI_1 _) rfl ?_
          refine x_goto (pc := 40) (tgt := 4) dX9_offenceTo_40 rfl ?_
          exact IH
        · refine x_aload_n (pc := 26) dX9_offenceTo_26 rfl ?_
          refine x_iload_n (pc := 27) dX9_offenceTo_27 rfl ?_
          refine x_callU (pc := 28) (As := [.int _]) dX9_offenceTo_28 (mOf hth) (lv_9_82 hth) hK.2.2.1 (k_ofV k1 hK _) rfl rfl (Nat.le_of_ble_eq_true rfl) ⟨by decide, by decide⟩ ⟨Nat.zero_le _, Nat.zero_le _⟩ (k_rt ?_)
          rw [e2, e3, eo]
          refine x_goto (pc := 31) (tgt := 35) dX9_offenceTo_31 rfl ?_
          refine x_iadd (pc := 35) dX9_offenceTo_35 ?_
          first
            | (rw [if_pos ⟨fun z => h_15 (eg.mpr z), bi_n0 (by exact h_23)⟩] at IH; rw [nI_add])
            | (rw [if_neg (by
                rintro ⟨z1, z2⟩
                first
                  | exact z1 (eg.mp (by first | exact h_15 | exact Decidable.not_not.mp h_15))
                  | exact absurd (by first | exact h_23 | exact Decidable.not_not.mp h_23) (by rw [bi_t z2]; decide))] at IH
               rw [Int32.add_zero])
          refine x_istore_n (pc := 36) (lv2 := [_, _, _, _]) dX9_offenceTo_36 (by decide) rfl rfl ?_
          refine x_iinc (pc := 37) (lv2 := [_, _, _, _]) dX9_offenceTo_37 (by decide) rfl rfl (nI_1 _) rfl ?_
          refine x_goto (pc := 40) (tgt := 4) dX9_offenceTo_40 rfl ?_
          exact IH
  refine x_iconst (pc := 0) (v := 0) dX9_offenceTo_0 rfl ?_
  refine x_istore_n (pc := 1) (lv2 := [_, _, _, _]) dX9_offenceTo_1 (by decide) rfl rfl ?_
  refine x_iconst (pc := 2) (v := 0) dX9_offenceTo_2 rfl ?_
  refine x_istore_n (pc := 3) (lv2 := [_, _, _, _]) dX9_offenceTo_3 (by decide) rfl rfl ?_
  exact L 4 0 (by omega)
def imD (D : PD) (i G V : Nat) : Prop := 0 < msD (D 0 i) (D 1 i) ∧ G.testBit (D 2 i) = true ∧ V.testBit (D 2 i) = false
theorem k_isMissed {D : PD} {i : Nat} (hth : isTh ci) (hK : KO μ b o ci thL) (hT : TH κ o D i) (hL : LN κ o D i) {G V : Nat} (hG : G < 16) (hV : V < 16) : XM Γ zX9_isMissed 1 0 0 [.ref (adO b o), .int (nI G), .int (nI V)] (KV μ b κ) (rt (.int (bi (0 < msD (D 0 i) (D 1 i) ∧ G.testBit (D 2 i) = true ∧ V.testBit (D 2 i) = false))) (KV μ b κ)) := by
  refine XM.of 0 rfl (by decide) (Nat.le_of_ble_eq_true rfl) ?_
  obtain ⟨k1, k2, k3, -, -, e3⟩ := hT
  have eL := hL.2.2.2
  have em := (ms_a (D 0 i) k1 (D 1 i) k2).2
  have ew := mis_a G hG V hV (D 2 i) k3
  have e0 : ¬ nI (msD (D 0 i) (D 1 i)) ≤ 0 ↔ 0 < msD (D 0 i) (D 1 i) := ⟨fun z => (nI_ltI (a := 0) (by omega) (by omega)).mp (Int32.not_le.mp z), fun z => nI_nle z (by omega)⟩
  refine x_aload_n (pc := 0) dX9_isMissed_0 rfl ?_
  refine k_getI (pc := 1) hK dX9_isMissed_1 (fk_9_28 hth) (Or.inl (th_i hth (by decide))) ?_
  rw [eL]
  refine x_if_le (pc := 4) (tgt := 26) dX9_isMissed_4 rfl (fun h_4 => ?_) (fun h_4 => ?_)
  · refine x_iconst (pc := 26) (v := 0) dX9_isMissed_26 rfl ?_
    refine x_ireturn (pc := 27) dX9_isMissed_27 rfl (by first | rfl | exact bi_nz) ?_
    exact ⟨by
      first
        | rw [bi_t (by exact ⟨e0.mp h_4, Decidable.not_not.mp (fun z => h_19 (ew.mpr z))⟩)]
        | rw [bi_f (by
            rintro ⟨z1, z2⟩
            first
              | exact absurd (e0.mpr z1) (by first | exact fun y => y h_4 | exact h_4)
              | exact (ew.mp (by first | exact h_19 | exact Decidable.not_not.mp h_19)) z2)], rfl⟩
  · refine x_iload_n (pc := 7) dX9_isMissed_7 rfl ?_
    refine x_iload_n (pc := 8) dX9_isMissed_8 rfl ?_
    refine x_iconst (pc := 9) (v := -1) dX9_isMissed_9 rfl ?_
    refine x_ixor (pc := 10) dX9_isMissed_10 ?_
    refine x_iand (pc := 11) dX9_isMissed_11 ?_
    refine x_iconst (pc := 12) (v := 1) dX9_isMissed_12 rfl ?_
    refine x_aload_n (pc := 13) dX9_isMissed_13 rfl ?_
    refine k_getI (pc := 14) hK dX9_isMissed_14 (fk_9_49 hth) (Or.inl (th_i hth (by decide))) ?_
    rw [e3]
    refine x_ishl (pc := 17) dX9_isMissed_17 ?_
    refine x_iand (pc := 18) dX9_isMissed_18 ?_
    refine x_if_eq (pc := 19) (tgt := 26) dX9_isMissed_19 rfl (fun h_19 => ?_) (fun h_19 => ?_)
    · refine x_iconst (pc := 26) (v := 0) dX9_isMissed_26 rfl ?_
      refine x_ireturn (pc := 27) dX9_isMissed_27 rfl (by first | rfl | exact bi_nz) ?_
      exact ⟨by
        first
          | rw [bi_t (by exact ⟨e0.mp h_4, Decidable.not_not.mp (fun z => h_19 (ew.mpr z))⟩)]
          | rw [bi_f (by
              rintro ⟨z1, z2⟩
              first
                | exact absurd (e0.mpr z1) (by first | exact fun y => y h_4 | exact h_4)
                | exact (ew.mp (by first | exact h_19 | exact Decidable.not_not.mp h_19)) z2)], rfl⟩
    · refine x_iconst (pc := 22) (v := 1) dX9_isMissed_22 rfl ?_
      refine x_goto (pc := 23) (tgt := 27) dX9_isMissed_23 rfl ?_
      refine x_ireturn (pc := 27) dX9_isMissed_27 rfl (by first | rfl | exact bi_nz) ?_
      exact ⟨by
        first
          | rw [bi_t (by exact ⟨e0.mp h_4, Decidable.not_not.mp (fun z => h_19 (ew.mpr z))⟩)]
          | rw [bi_f (by
              rintro ⟨z1, z2⟩
              first
                | exact absurd (e0.mpr z1) (by first | exact fun y => y h_4 | exact h_4)
                | exact (ew.mp (by first | exact h_19 | exact Decidable.not_not.mp h_19)) z2)], rfl⟩
theorem k_isOffending {D : PD} {i : Nat} (hth : isTh ci) (hK : KO μ b o ci thL) (hT : TH κ o D i) (hL : LN κ o D i) {G V : Nat} (hG : G < 16) (hV : V < 16) : XM Γ zX9_isOffending 1 0 0 [.ref (adO b o), .int (nI G), .int (nI V)] (KV μ b κ) (rt (.int (bi (0 < ofsD D i (G &&& V) 4))) (KV μ b κ)) := by
  refine XM.of 0 rfl (by decide) (Nat.le_of_ble_eq_true rfl) ?_
  obtain ⟨ea, hlt⟩ := and_a G hG V hV
  have hb := ofs_le hT (G &&& V) 4 (Nat.le_refl 4)
  have e0 : ¬ nI (ofsD D i (G &&& V) 4) ≤ 0 ↔ 0 < ofsD D i (G &&& V) 4 := ⟨fun z => (nI_ltI (a := 0) (by omega) (by omega)).mp (Int32.not_le.mp z), fun z => nI_nle z (by omega)⟩
  refine x_aload_n (pc := 0) dX9_isOffending_0 rfl ?_
  refine k_getA (pc := 1) hK dX9_isOffending_1 (fk_9_25 hth) (th_a hth (by decide)) (by decide) ?_
  refine x_iload_n (pc := 4) dX9_isOffending_4 rfl ?_
  refine x_iload_n (pc := 5) dX9_isOffending_5 rfl ?_
  refine x_iand (pc := 6) dX9_isOffending_6 ?_
  refine k_iald (pc := 7) hK dX9_isOffending_7 (ea) (by show (G &&& V) < 16; exact hlt) (by decide) ?_
  rw [hL.2.2.1 _ hlt]
  refine x_if_le (pc := 8) (tgt := 15) dX9_isOffending_8 rfl (fun h_8 => ?_) (fun h_8 => ?_)
  · refine x_iconst (pc := 15) (v := 0) dX9_isOffending_15 rfl ?_
    refine x_ireturn (pc := 16) dX9_isOffending_16 rfl (by first | rfl | exact bi_nz) ?_
    exact ⟨by
      first
        | rw [bi_t (by exact e0.mp h_8)]
        | rw [bi_f (by exact fun z => e0.mpr z h_8)], rfl⟩
  · refine x_iconst (pc := 11) (v := 1) dX9_isOffending_11 rfl ?_
    refine x_goto (pc := 12) (tgt := 16) dX9_isOffending_12 rfl ?_
    refine x_ireturn (pc := 16) dX9_isOffending_16 rfl (by first | rfl | exact bi_nz) ?_
    exact ⟨by
      first
        | rw [bi_t (by exact e0.mp h_8)]
        | rw [bi_f (by exact fun z => e0.mpr z h_8)], rfl⟩
theorem k_harm {D : PD} {i : Nat} (hth : isTh ci) (hK : KO μ b o ci thL) (hT : TH κ o D i) (hL : LN κ o D i) {G V : Nat} (hG : G < 16) (hV : V < 16) : XM Γ zX9_harm 2 0 0 [.ref (adO b o), .int (nI G), .int (nI V)] (KV μ b κ) (rt (.int (nI (hmD D i G V * D 9 (5 * i + bc G)))) (KV μ b κ)) := by
  refine XM.of 1 rfl (by decide) (Nat.le_of_ble_eq_true rfl) ?_
  obtain ⟨ea, hlt⟩ := and_a G hG V hV
  refine x_aload_n (pc := 0) dX9_harm_0 rfl ?_
  refine k_getA (pc := 1) hK dX9_harm_1 (fk_9_25 hth) (th_a hth (by decide)) (by decide) ?_
  refine x_iload_n (pc := 4) dX9_harm_4 rfl ?_
  refine x_iload_n (pc := 5) dX9_harm_5 rfl ?_
  refine x_iand (pc := 6) dX9_harm_6 ?_
  refine k_iald (pc := 7) hK dX9_harm_7 (ea) (by show (G &&& V) < 16; exact hlt) (by decide) ?_
  rw [hL.2.2.1 _ hlt]
  refine x_aload_n (pc := 8) dX9_harm_8 rfl ?_
  refine x_iload_n (pc := 9) dX9_harm_9 rfl ?_
  refine x_iload_n (pc := 10) dX9_harm_10 rfl ?_
  refine x_callU (pc := 11) (As := [.int _, .int _]) dX9_harm_11 mX9_isMissed (lt_9_85 hth) hK.2.2.1 (k_isMissed hth hK hT hL hG hV) rfl rfl (Nat.le_of_ble_eq_true rfl) ⟨by decide, by decide⟩ ⟨Nat.zero_le _, Nat.zero_le _⟩ (k_rt ?_)
  refine x_if_eq (pc := 14) (tgt := 24) dX9_harm_14 rfl (fun h_14 => ?_) (fun h_14 => ?_)
  · refine x_iconst (pc := 24) (v := 0) dX9_harm_24 rfl ?_
    refine x_iadd (pc := 25) dX9_harm_25 ?_
    first
      | rw [show nI (ofsD D i (G &&& V) 4) + nI (msD (D 0 i) (D 1 i)) = nI (hmD D i G V) by
          unfold hmD
          rw [if_pos (by exact (bi_n0 h_14).2), nI_add]]
      | rw [show nI (ofsD D i (G &&& V) 4) + 0 = nI (hmD D i G V) by
          unfold hmD
          have q := bi_0.mp (by first | exact h_14 | exact Decidable.not_not.mp h_14)
          by_cases hc : G.testBit (D 2 i) = true ∧ V.testBit (D 2 i) = false
          · have hm0 : msD (D 0 i) (D 1 i) = 0 := by
              have : ¬ 0 < msD (D 0 i) (D 1 i) := fun z => q ⟨z, hc⟩
              omega
            rw [if_pos hc, hm0, Int32.add_zero]
            rfl
          · rw [if_neg hc, Int32.add_zero]
            rfl]
    refine x_istore_n (pc := 26) (lv2 := [_, _, _, _]) dX9_harm_26 (by decide) rfl rfl ?_
    refine x_iload_n (pc := 27) dX9_harm_27 rfl ?_
    refine x_aload_n (pc := 28) dX9_harm_28 rfl ?_
    refine k_getA (pc := 29) hK dX9_harm_29 (fk_9_22 hth) (th_a hth (by decide)) (by decide) ?_
    refine x_iload_n (pc := 32) dX9_harm_32 rfl ?_
    refine x_callS (pc := 33) (As := [.int _]) dX9_harm_33 mJ6_bitCount_0f7a4 lk_9_88 (k_bitCount _) rfl rfl (Nat.le_of_ble_eq_true rfl) ⟨by decide, by decide⟩ ⟨Nat.zero_le _, Nat.zero_le _⟩ (k_rt ?_)
    rw [pc_16 G hG]
    refine k_iald (pc := 36) hK dX9_harm_36 (rfl) (by show bc G < 5; have := bc_le hG; omega) (by decide) ?_
    refine x_imul (pc := 37) dX9_harm_37 ?_
    rw [hL.2.1 _ (by have := bc_le hG; omega), pk_mul]
    refine x_ireturn (pc := 38) dX9_harm_38 rfl rfl ?_
    exact ⟨rfl, rfl⟩
  · refine x_aload_n (pc := 17) dX9_harm_17 rfl ?_
    refine k_getI (pc := 18) hK dX9_harm_18 (fk_9_28 hth) (Or.inl (th_i hth (by decide))) ?_
    rw [hL.2.2.2]
    refine x_goto (pc := 21) (tgt := 25) dX9_harm_21 rfl ?_
    refine x_iadd (pc := 25) dX9_harm_25 ?_
    first
      | rw [show nI (ofsD D i (G &&& V) 4) + nI (msD (D 0 i) (D 1 i)) = nI (hmD D i G V) by
          unfold hmD
          rw [if_pos (by exact (bi_n0 h_14).2), nI_add]]
      | rw [show nI (ofsD D i (G &&& V) 4) + 0 = nI (hmD D i G V) by
          unfold hmD
          have q := bi_0.mp (by first | exact h_14 | exact Decidable.not_not.mp h_14)
          by_cases hc : G.testBit (D 2 i) = true ∧ V.testBit (D 2 i) = false
          · have hm0 : msD (D 0 i) (D 1 i) = 0 := by
              have : ¬ 0 < msD (D 0 i) (D 1 i) := fun z => q ⟨z, hc⟩
              omega
            rw [if_pos hc, hm0, Int32.add_zero]
            rfl
          · rw [if_neg hc, Int32.add_zero]
            rfl]
    refine x_istore_n (pc := 26) (lv2 := [_, _, _, _]) dX9_harm_26 (by decide) rfl rfl ?_
    refine x_iload_n (pc := 27) dX9_harm_27 rfl ?_
    refine x_aload_n (pc := 28) dX9_harm_28 rfl ?_
    refine k_getA (pc := 29) hK dX9_harm_29 (fk_9_22 hth) (th_a hth (by decide)) (by decide) ?_
    refine x_iload_n (pc := 32) dX9_harm_32 rfl ?_
    refine x_callS (pc := 33) (As := [.int _]) dX9_harm_33 mJ6_bitCount_0f7a4 lk_9_88 (k_bitCount _) rfl rfl (Nat.le_of_ble_eq_true rfl) ⟨by decide, by decide⟩ ⟨Nat.zero_le _, Nat.zero_le _⟩ (k_rt ?_)
    rw [pc_16 G hG]
    refine k_iald (pc := 36) hK dX9_harm_36 (rfl) (by show bc G < 5; have := bc_le hG; omega) (by decide) ?_
    refine x_imul (pc := 37) dX9_harm_37 ?_
    rw [hL.2.1 _ (by have := bc_le hG; omega), pk_mul]
    refine x_ireturn (pc := 38) dX9_harm_38 rfl rfl ?_
    exact ⟨rfl, rfl⟩
theorem k_bad {D : PD} {i : Nat} (hth : isTh ci) (hK : KO μ b o ci thL) (hT : TH κ o D i) (hL : LN κ o D i) {G V : Nat} (hG : G < 16) (hV : V < 16) {s : Nat} (hs : s < 7) : XM Γ zX9_bad 3 0 0 [.ref (adO b o), .int (nI s), .int (nI G), .int (nI V)] (KV μ b κ) (rt (.int (nI (hmD D i G V * D 9 (5 * i + bc G) + D 8 (7 * i + s)))) (KV μ b κ)) := by
  refine XM.of 0 rfl (by decide) (Nat.le_of_ble_eq_true rfl) ?_
  refine x_aload_n (pc := 0) dX9_bad_0 rfl ?_
  refine x_iload_n (pc := 1) dX9_bad_1 rfl ?_
  refine x_iload_n (pc := 2) dX9_bad_2 rfl ?_
  refine x_callU (pc := 3) (As := [.int _, .int _]) dX9_bad_3 mX9_harm (lt_9_93 hth) hK.2.2.1 (k_harm hth hK hT hL hG hV) rfl rfl (Nat.le_of_ble_eq_true rfl) ⟨by decide, by decide⟩ ⟨Nat.zero_le _, Nat.zero_le _⟩ (k_rt ?_)
  refine x_aload_n (pc := 6) dX9_bad_6 rfl ?_
  refine k_getA (pc := 7) hK dX9_bad_7 (fk_9_19 hth) (th_a hth (by decide)) (by decide) ?_
  refine x_iload_n (pc := 10) dX9_bad_10 rfl ?_
  refine k_iald (pc := 11) hK dX9_bad_11 (rfl) (hs) (by decide) ?_
  refine x_iadd (pc := 12) dX9_bad_12 ?_
  rw [(hL.1 s hs).2.1, nI_add]
  refine x_ireturn (pc := 13) dX9_bad_13 rfl rfl ?_
  exact ⟨rfl, rfl⟩
theorem k_lackFor {D : PD} {i : Nat} (hth : isTh ci) (hK : KO μ b o ci thL) (hT : TH κ o D i) (hL : LN κ o D i) {G : Nat} (hG : G < 16) : XM Γ zX9_lackFor 2 0 0 [.ref (adO b o), .int (nI G)] (KV μ b κ) (rt (.int (nI (if G.testBit (D 2 i) = true then D 9 (5 * i + bc G) * msD (D 0 i) (D 1 i) else 0))) (KV μ b κ)) := by
  refine XM.of 0 rfl (by decide) (Nat.le_of_ble_eq_true rfl) ?_
  obtain ⟨k1, k2, k3, -, -, e3⟩ := id hT
  refine x_iload_n (pc := 0) dX9_lackFor_0 rfl ?_
  refine x_aload_n (pc := 1) dX9_lackFor_1 rfl ?_
  refine k_getI (pc := 2) hK dX9_lackFor_2 (fk_9_49 hth) (Or.inl (th_i hth (by decide))) ?_
  rw [e3]
  refine x_callSN (pc := 5) (As := [.int _, .int _]) dX9_lackFor_5 mX11_hasBit lk_9_79 (k_hasBit _ _) rfl rfl (Nat.le_of_ble_eq_true rfl) ⟨by decide, by decide⟩ ⟨Nat.zero_le _, Nat.zero_le _⟩ (k_rt ?_)
  rw [hb_a G (by omega) (D 2 i) (by omega)]
  refine x_if_eq (pc := 8) (tgt := 28) dX9_lackFor_8 rfl (fun h_8 => ?_) (fun h_8 => ?_)
  · refine x_iconst (pc := 28) (v := 0) dX9_lackFor_28 rfl ?_
    refine x_ireturn (pc := 29) dX9_lackFor_29 rfl rfl ?_
    exact ⟨by
      first
        | rw [if_pos (by exact bi_n0 h_8)]
        | (rw [if_neg (by exact bi_0.mp (by first | exact h_8 | exact Decidable.not_not.mp h_8))]; rfl), rfl⟩
  · refine x_aload_n (pc := 11) dX9_lackFor_11 rfl ?_
    refine k_getI (pc := 12) hK dX9_lackFor_12 (fk_9_28 hth) (Or.inl (th_i hth (by decide))) ?_
    rw [hL.2.2.2]
    refine x_aload_n (pc := 15) dX9_lackFor_15 rfl ?_
    refine k_getA (pc := 16) hK dX9_lackFor_16 (fk_9_22 hth) (th_a hth (by decide)) (by decide) ?_
    refine x_iload_n (pc := 19) dX9_lackFor_19 rfl ?_
    refine x_callS (pc := 20) (As := [.int _]) dX9_lackFor_20 mJ6_bitCount_0f7a4 lk_9_88 (k_bitCount _) rfl rfl (Nat.le_of_ble_eq_true rfl) ⟨by decide, by decide⟩ ⟨Nat.zero_le _, Nat.zero_le _⟩ (k_rt ?_)
    rw [pc_16 G hG]
    refine k_iald (pc := 23) hK dX9_lackFor_23 (rfl) (by show bc G < 5; have := bc_le hG; omega) (by decide) ?_
    refine x_imul (pc := 24) dX9_lackFor_24 ?_
    rw [hL.2.1 _ (by have := bc_le hG; omega), pk_mul, Nat.mul_comm]
    refine x_goto (pc := 25) (tgt := 29) dX9_lackFor_25 rfl ?_
    refine x_ireturn (pc := 29) dX9_lackFor_29 rfl rfl ?_
    exact ⟨by
      first
        | rw [if_pos (by exact bi_n0 h_8)]
        | (rw [if_neg (by exact bi_0.mp (by first | exact h_8 | exact Decidable.not_not.mp h_8))]; rfl), rfl⟩
theorem k_priceNothing (hth : isTh ci) (hK : KO μ b o ci thL) (isT : Int32) (hi : isT = 0 ∨ isT = 1) : XM Γ zX9_priceNothing 1 0 0 [.ref (adO b o), .int isT] (KV μ b κ) (rv (KV μ b (kS κ o 12 (pre (fun s => if isT = 1 ∨ s = 0 then κ.2 o 11 s else 1000000) (κ.2 o 12) 7)))) := by
  refine XM.of 1 rfl (by decide) (Nat.le_of_ble_eq_true rfl) ?_
  have L : ∀ (m j : Nat), j + m = 7 → WA Γ zX9_priceNothing (xrm 1 0 0) 0 0 0 0 (rv (KV μ b (kS κ o 12 (pre (fun s => if isT = 1 ∨ s = 0 then κ.2 o 11 s else 1000000) (κ.2 o 12) 7)))) 2 [some (.ref (adO b o)), some (.int isT), some (.int (nI j))] [] (KV μ b (kS κ o 12 (pre (fun s => if isT = 1 ∨ s = 0 then κ.2 o 11 s else 1000000) (κ.2 o 12) j))) := by
    intro m
    induction m with
    | zero =>
      intro j hj
      obtain rfl : j = 7 := by omega
      refine x_iload_n (pc := 2) dX9_priceNothing_2 rfl ?_
      refine x_bipush (pc := 3) (v := 7) dX9_priceNothing_3 rfl ?_
      refine x_icmp_ge (pc := 5) (tgt := 39) dX9_priceNothing_5 rfl (fun h_5 => ?_) (fun h_5 => absurd (by decide) h_5)
      refine x_return (pc := 39) dX9_priceNothing_39 rfl ?_
      exact ⟨rfl, rfl⟩
    | succ m ih =>
      intro j hj
      have eC : (kS κ o 12 (pre (fun s => if isT = 1 ∨ s = 0 then κ.2 o 11 s else 1000000) (κ.2 o 12) j)).2 o 12 j = κ.2 o 12 j := by rw [kS_s, pre_ge (Nat.le_refl j)]
      have eO : ∀ k, k ≠ 12 → (kS κ o 12 (pre (fun s => if isT = 1 ∨ s = 0 then κ.2 o 11 s else 1000000) (κ.2 o 12) j)).2 o k = κ.2 o k := fun k hk => up2_n (Or.inr hk)
      refine x_iload_n (pc := 2) dX9_priceNothing_2 rfl ?_
      refine x_bipush (pc := 3) (v := 7) dX9_priceNothing_3 rfl ?_
      refine x_icmp_ge (pc := 5) (tgt := 39) dX9_priceNothing_5 rfl (fun h_5 => absurd h_5 (lit_le (n := 7) j (by omega) (by omega))) (fun h_5 => ?_)
      refine x_aload_n (pc := 8) dX9_priceNothing_8 rfl ?_
      refine k_getA (pc := 9) hK dX9_priceNothing_9 (fk_9_34 hth) (th_a hth (by decide)) (by decide) ?_
      refine x_iload_n (pc := 12) dX9_priceNothing_12 rfl ?_
      refine x_iload_n (pc := 13) dX9_priceNothing_13 rfl ?_
      refine x_if_ne (pc := 14) (tgt := 21) dX9_priceNothing_14 rfl (fun h_14 => ?_) (fun h_14 => ?_)
      · refine x_aload_n (pc := 21) dX9_priceNothing_21 rfl ?_
        refine k_getA (pc := 22) hK dX9_priceNothing_22 (fk_9_31 hth) (th_a hth (by decide)) (by decide) ?_
        refine x_iload_n (pc := 25) dX9_priceNothing_25 rfl ?_
        refine k_iald (pc := 26) hK dX9_priceNothing_26 (rfl) (by show j < 7; omega) (by decide) ?_
        rw [eO 11 (by decide)]
        refine x_goto (pc := 27) (tgt := 32) dX9_priceNothing_27 rfl ?_
        refine k_iast (pc := 32) hK dX9_priceNothing_32 (rfl) (by show j < 7; omega) (by decide) ?_
        refine x_iinc (pc := 33) (lv2 := [_, _, _]) dX9_priceNothing_33 (by decide) rfl rfl (nI_1 _) rfl ?_
        refine x_goto (pc := 36) (tgt := 2) dX9_priceNothing_36 rfl ?_
        have IH := ih (j + 1) (by omega)
        first
          | (rw [← pre_st (j := j) (v := κ.2 o 11 j) (E := fun s => if isT = 1 ∨ s = 0 then κ.2 o 11 s else 1000000) (by
                show _ = if isT = 1 ∨ j = 0 then _ else _
                rw [if_pos]
                first
                  | exact Or.inl (hi.resolve_left (by exact h_14))
                  | exact Or.inr (by
                      rcases Nat.eq_zero_or_pos j with q | q
                      · exact q
                      · exact absurd (by first | exact h_18 | exact Decidable.not_not.mp h_18) (nI_ne0 q (by omega))))] at IH
             exact IH)
          | (rw [← pre_st (j := j) (v := 1000000) (E := fun s => if isT = 1 ∨ s = 0 then κ.2 o 11 s else 1000000) (by
                show _ = if isT = 1 ∨ j = 0 then _ else _
                rw [if_neg]
                rintro (z | z)
                · have y : isT = 0 := by first | exact h_14 | exact Decidable.not_not.mp h_14
                  rw [z] at y
                  exact absurd y (by decide)
                · exact absurd (show nI j = 0 by rw [z]; rfl) (by exact h_18))] at IH
             exact IH)
      · refine x_iload_n (pc := 17) dX9_priceNothing_17 rfl ?_
        refine x_if_ne (pc := 18) (tgt := 30) dX9_priceNothing_18 rfl (fun h_18 => ?_) (fun h_18 => ?_)
        · refine x_ldc (pc := 30) dX9_priceNothing_30 kc_9_70 ?_
          refine k_iast (pc := 32) hK dX9_priceNothing_32 (rfl) (by show j < 7; omega) (by decide) ?_
          refine x_iinc (pc := 33) (lv2 := [_, _, _]) dX9_priceNothing_33 (by decide) rfl rfl (nI_1 _) rfl ?_
          refine x_goto (pc := 36) (tgt := 2) dX9_priceNothing_36 rfl ?_
          have IH := ih (j + 1) (by omega)
          first
            | (rw [← pre_st (j := j) (v := κ.2 o 11 j) (E := fun s => if isT = 1 ∨ s = 0 then κ.2 o 11 s else 1000000) (by
                  show _ = if isT = 1 ∨ j = 0 then _ else _
                  rw [if_pos]
                  first
                    | exact Or.inl (hi.resolve_left (by exact h_14))
                    | exact Or.inr (by
                        rcases Nat.eq_zero_or_pos j with q | q
                        · exact q
                        · exact absurd (by first | exact h_18 | exact Decidable.not_not.mp h_18) (nI_ne0 q (by omega))))] at IH
               exact IH)
            | (rw [← pre_st (j := j) (v := 1000000) (E := fun s => if isT = 1 ∨ s = 0 then κ.2 o 11 s else 1000000) (by
                  show _ = if isT = 1 ∨ j = 0 then _ else _
                  rw [if_neg]
                  rintro (z | z)
                  · have y : isT = 0 := by first | exact h_14 | exact Decidable.not_not.mp h_14
                    rw [z] at y
                    exact absurd y (by decide)
                  · exact absurd (show nI j = 0 by rw [z]; rfl) (by exact h_18))] at IH
               exact IH)
        · refine x_aload_n (pc := 21) dX9_priceNothing_21 rfl ?_
          refine k_getA (pc := 22) hK dX9_priceNothing_22 (fk_9_31 hth) (th_a hth (by decide)) (by decide) ?_
          refine x_iload_n (pc := 25) dX9_priceNothing_25 rfl ?_
          refine k_iald (pc := 26) hK dX9_priceNothing_26 (rfl) (by show j < 7; omega) (by decide) ?_
          rw [eO 11 (by decide)]
          refine x_goto (pc := 27) (tgt := 32) dX9_priceNothing_27 rfl ?_
          refine k_iast (pc := 32) hK dX9_priceNothing_32 (rfl) (by show j < 7; omega) (by decide) ?_
          refine x_iinc (pc := 33) (lv2 := [_, _, _]) dX9_priceNothing_33 (by decide) rfl rfl (nI_1 _) rfl ?_
          refine x_goto (pc := 36) (tgt := 2) dX9_priceNothing_36 rfl ?_
          have IH := ih (j + 1) (by omega)
          first
            | (rw [← pre_st (j := j) (v := κ.2 o 11 j) (E := fun s => if isT = 1 ∨ s = 0 then κ.2 o 11 s else 1000000) (by
                  show _ = if isT = 1 ∨ j = 0 then _ else _
                  rw [if_pos]
                  first
                    | exact Or.inl (hi.resolve_left (by exact h_14))
                    | exact Or.inr (by
                        rcases Nat.eq_zero_or_pos j with q | q
                        · exact q
                        · exact absurd (by first | exact h_18 | exact Decidable.not_not.mp h_18) (nI_ne0 q (by omega))))] at IH
               exact IH)
            | (rw [← pre_st (j := j) (v := 1000000) (E := fun s => if isT = 1 ∨ s = 0 then κ.2 o 11 s else 1000000) (by
                  show _ = if isT = 1 ∨ j = 0 then _ else _
                  rw [if_neg]
                  rintro (z | z)
                  · have y : isT = 0 := by first | exact h_14 | exact Decidable.not_not.mp h_14
                    rw [z] at y
                    exact absurd y (by decide)
                  · exact absurd (show nI j = 0 by rw [z]; rfl) (by exact h_18))] at IH
               exact IH)
  refine x_iconst (pc := 0) (v := 0) dX9_priceNothing_0 rfl ?_
  refine x_istore_n (pc := 1) (lv2 := [_, _, _]) dX9_priceNothing_1 (by decide) rfl rfl ?_
  have h := L 7 0 (by omega)
  rw [pre_0, kS_0 rfl] at h
  exact h
theorem k_priceMoves (hth : isTh ci) (hK : KO μ b o ci thL) {fr : Nat} (hfr : fr < 7) : XM Γ zX9_priceMoves 1 0 0 [.ref (adO b o), .int (nI fr - 1)] (KV μ b κ) (rv (KV μ b (kS κ o 12 (pre (fun s => if s = fr then κ.2 o 12 s else κ.2 o 12 s + κ.2 o 6 s) (κ.2 o 12) 7)))) := by
  refine XM.of 1 rfl (by decide) (Nat.le_of_ble_eq_true rfl) ?_
  have e1 : nI fr - 1 + 1 = nI fr := (sp_nI (show fr ≤ 6 by omega)).2
  have L : ∀ (m j : Nat), j + m = 7 → WA Γ zX9_priceMoves (xrm 1 0 0) 0 0 0 0 (rv (KV μ b (kS κ o 12 (pre (fun s => if s = fr then κ.2 o 12 s else κ.2 o 12 s + κ.2 o 6 s) (κ.2 o 12) 7)))) 2 [some (.ref (adO b o)), some (.int (nI fr - 1)), some (.int (nI j))] [] (KV μ b (kS κ o 12 (pre (fun s => if s = fr then κ.2 o 12 s else κ.2 o 12 s + κ.2 o 6 s) (κ.2 o 12) j))) := by
    intro m
    induction m with
    | zero =>
      intro j hj
      obtain rfl : j = 7 := by omega
      refine x_iload_n (pc := 2) dX9_priceMoves_2 rfl ?_
      refine x_bipush (pc := 3) (v := 7) dX9_priceMoves_3 rfl ?_
      refine x_icmp_ge (pc := 5) (tgt := 36) dX9_priceMoves_5 rfl (fun h_5 => ?_) (fun h_5 => absurd (by decide) h_5)
      refine x_return (pc := 36) dX9_priceMoves_36 rfl ?_
      exact ⟨rfl, rfl⟩
    | succ m ih =>
      intro j hj
      have eC : (kS κ o 12 (pre (fun s => if s = fr then κ.2 o 12 s else κ.2 o 12 s + κ.2 o 6 s) (κ.2 o 12) j)).2 o 12 j = κ.2 o 12 j := by rw [kS_s, pre_ge (Nat.le_refl j)]
      have eO : ∀ k, k ≠ 12 → (kS κ o 12 (pre (fun s => if s = fr then κ.2 o 12 s else κ.2 o 12 s + κ.2 o 6 s) (κ.2 o 12) j)).2 o k = κ.2 o k := fun k hk => up2_n (Or.inr hk)
      refine x_iload_n (pc := 2) dX9_priceMoves_2 rfl ?_
      refine x_bipush (pc := 3) (v := 7) dX9_priceMoves_3 rfl ?_
      refine x_icmp_ge (pc := 5) (tgt := 36) dX9_priceMoves_5 rfl (fun h_5 => absurd h_5 (lit_le (n := 7) j (by omega) (by omega))) (fun h_5 => ?_)
      refine x_iload_n (pc := 8) dX9_priceMoves_8 rfl ?_
      refine x_iload_n (pc := 9) dX9_priceMoves_9 rfl ?_
      refine x_iconst (pc := 10) (v := 1) dX9_priceMoves_10 rfl ?_
      refine x_iadd (pc := 11) dX9_priceMoves_11 ?_
      rw [e1]
      refine x_icmp_eq (pc := 12) (tgt := 30) dX9_priceMoves_12 rfl (fun h_12 => ?_) (fun h_12 => ?_)
      · refine x_iinc (pc := 30) (lv2 := [_, _, _]) dX9_priceMoves_30 (by decide) rfl rfl (nI_1 _) rfl ?_
        refine x_goto (pc := 33) (tgt := 2) dX9_priceMoves_33 rfl ?_
        have IH := ih (j + 1) (by omega)
        first
          | (rw [← pre_st (j := j) (v := κ.2 o 12 j + κ.2 o 6 j) (E := fun s => if s = fr then κ.2 o 12 s else κ.2 o 12 s + κ.2 o 6 s) (by
                show _ = if j = fr then _ else _
                rw [if_neg (fun z => absurd (show nI j = nI fr by rw [z]) (by exact h_12))])] at IH
             exact IH)
          | (rw [← pre_no (j := j) (E := fun s => if s = fr then κ.2 o 12 s else κ.2 o 12 s + κ.2 o 6 s) (by
                show _ = if j = fr then _ else _
                rw [if_pos ((nI_eq (by omega) (by omega)).mp (by first | exact h_12 | exact Decidable.not_not.mp h_12))])] at IH
             exact IH)
      · refine x_aload_n (pc := 15) dX9_priceMoves_15 rfl ?_
        refine k_getA (pc := 16) hK dX9_priceMoves_16 (fk_9_34 hth) (th_a hth (by decide)) (by decide) ?_
        refine x_iload_n (pc := 19) dX9_priceMoves_19 rfl ?_
        refine x_dup2_11 (pc := 20) dX9_priceMoves_20 rfl rfl ?_
        refine k_iald (pc := 21) hK dX9_priceMoves_21 (rfl) (by show j < 7; omega) (by decide) ?_
        refine x_aload_n (pc := 22) dX9_priceMoves_22 rfl ?_
        refine k_getA (pc := 23) hK dX9_priceMoves_23 (fk_9_15 hth) (th_a hth (by decide)) (by decide) ?_
        refine x_iload_n (pc := 26) dX9_priceMoves_26 rfl ?_
        refine k_iald (pc := 27) hK dX9_priceMoves_27 (rfl) (by show j < 7; omega) (by decide) ?_
        refine x_iadd (pc := 28) dX9_priceMoves_28 ?_
        rw [eC, eO 6 (by decide)]
        refine k_iast (pc := 29) hK dX9_priceMoves_29 (rfl) (by show j < 7; omega) (by decide) ?_
        refine x_iinc (pc := 30) (lv2 := [_, _, _]) dX9_priceMoves_30 (by decide) rfl rfl (nI_1 _) rfl ?_
        refine x_goto (pc := 33) (tgt := 2) dX9_priceMoves_33 rfl ?_
        have IH := ih (j + 1) (by omega)
        first
          | (rw [← pre_st (j := j) (v := κ.2 o 12 j + κ.2 o 6 j) (E := fun s => if s = fr then κ.2 o 12 s else κ.2 o 12 s + κ.2 o 6 s) (by
                show _ = if j = fr then _ else _
                rw [if_neg (fun z => absurd (show nI j = nI fr by rw [z]) (by exact h_12))])] at IH
             exact IH)
          | (rw [← pre_no (j := j) (E := fun s => if s = fr then κ.2 o 12 s else κ.2 o 12 s + κ.2 o 6 s) (by
                show _ = if j = fr then _ else _
                rw [if_pos ((nI_eq (by omega) (by omega)).mp (by first | exact h_12 | exact Decidable.not_not.mp h_12))])] at IH
             exact IH)
  refine x_iconst (pc := 0) (v := 0) dX9_priceMoves_0 rfl ?_
  refine x_istore_n (pc := 1) (lv2 := [_, _, _]) dX9_priceMoves_1 (by decide) rfl rfl ?_
  have h := L 7 0 (by omega)
  rw [pre_0, kS_0 rfl] at h
  exact h
theorem TH.kS {κ : KS} {o : Nat} {D : PD} {i f : Nat} {g : Nat → Int32} (h : TH κ o D i) : TH (kS κ o f g) o D i := h
theorem LN.kS {κ : KS} {o : Nat} {D : PD} {i : Nat} {g : Nat → Int32} (h : LN κ o D i) : LN (kS κ o 12 g) o D i := by
  have e : ∀ f, f ≠ 12 → (_root_.Jvm.Pilot.CPutOutLaw_law_r5373_a651d7.kS κ o 12 g).2 o f = κ.2 o f := fun f hf => up2_n (Or.inr hf)
  unfold LN at h ⊢
  rw [e 6 (by decide), e 7 (by decide), e 8 (by decide), e 9 (by decide), e 11 (by decide)]
  exact h
theorem k_priceDay {D : PD} {i : Nat} (hth : isTh ci) (hK : KO μ b o ci thL) (hT : TH κ o D i) (hL : LN κ o D i) {G p vf cp : Nat} {lp : Nat → Nat} (hG : G < 16) (hP : KO μ b p cp lp) (hpl : lp vf = 7) (hpo : p ≠ o) {V : Nat → Nat} (hV : ∀ s, s < 7 → V s < 16 ∧ κ.2 p vf s = nI (V s)) : XM Γ zX9_priceDay 3 0 0 [.ref (adO b o), .int (nI G), .ref (adR b p vf)] (KV μ b κ) (rv (KV μ b (kS κ o 12 (pre (fun s => κ.2 o 12 s + nI (hmD D i G (V s) * D 9 (5 * i + bc G) + D 8 (7 * i + s))) (κ.2 o 12) 7)))) := by
  refine XM.of 1 rfl (by decide) (Nat.le_of_ble_eq_true rfl) ?_
  have L : ∀ (m j : Nat), j + m = 7 → WA Γ zX9_priceDay (xrm 3 0 0) 0 0 0 0 (rv (KV μ b (kS κ o 12 (pre (fun s => κ.2 o 12 s + nI (hmD D i G (V s) * D 9 (5 * i + bc G) + D 8 (7 * i + s))) (κ.2 o 12) 7)))) 2 [some (.ref (adO b o)), some (.int (nI G)), some (.ref (adR b p vf)), some (.int (nI j))] [] (KV μ b (kS κ o 12 (pre (fun s => κ.2 o 12 s + nI (hmD D i G (V s) * D 9 (5 * i + bc G) + D 8 (7 * i + s))) (κ.2 o 12) j))) := by
    intro m
    induction m with
    | zero =>
      intro j hj
      obtain rfl : j = 7 := by omega
      refine x_iload_n (pc := 2) dX9_priceDay_2 rfl ?_
      refine x_bipush (pc := 3) (v := 7) dX9_priceDay_3 rfl ?_
      refine x_icmp_ge (pc := 5) (tgt := 38) dX9_priceDay_5 rfl (fun h_5 => ?_) (fun h_5 => absurd (by decide) h_5)
      refine x_return (pc := 38) dX9_priceDay_38 rfl ?_
      exact ⟨rfl, rfl⟩
    | succ m ih =>
      intro j hj
      have eC : (kS κ o 12 (pre (fun s => κ.2 o 12 s + nI (hmD D i G (V s) * D 9 (5 * i + bc G) + D 8 (7 * i + s))) (κ.2 o 12) j)).2 o 12 j = κ.2 o 12 j := by rw [kS_s, pre_ge (Nat.le_refl j)]
      have eO : ∀ k, k ≠ 12 → (kS κ o 12 (pre (fun s => κ.2 o 12 s + nI (hmD D i G (V s) * D 9 (5 * i + bc G) + D 8 (7 * i + s))) (κ.2 o 12) j)).2 o k = κ.2 o k := fun k hk => up2_n (Or.inr hk)
      have hVj := hV j (by omega)
      have eV : (kS κ o 12 (pre (fun s => κ.2 o 12 s + nI (hmD D i G (V s) * D 9 (5 * i + bc G) + D 8 (7 * i + s))) (κ.2 o 12) j)).2 p vf j = nI (V j) := by
        rw [← hVj.2]
        exact congrFun (up2_n (Or.inl hpo)) j
      refine x_iload_n (pc := 2) dX9_priceDay_2 rfl ?_
      refine x_bipush (pc := 3) (v := 7) dX9_priceDay_3 rfl ?_
      refine x_icmp_ge (pc := 5) (tgt := 38) dX9_priceDay_5 rfl (fun h_5 => absurd h_5 (lit_le (n := 7) j (by omega) (by omega))) (fun h_5 => ?_)
      refine x_aload_n (pc := 8) dX9_priceDay_8 rfl ?_
      refine k_getA (pc := 9) hK dX9_priceDay_9 (fk_9_34 hth) (th_a hth (by decide)) (by decide) ?_
      refine x_iload_n (pc := 12) dX9_priceDay_12 rfl ?_
      refine x_dup2_11 (pc := 13) dX9_priceDay_13 rfl rfl ?_
      refine k_iald (pc := 14) hK dX9_priceDay_14 (rfl) (by show j < 7; omega) (by decide) ?_
      refine x_aload_n (pc := 15) dX9_priceDay_15 rfl ?_
      refine x_iload_n (pc := 16) dX9_priceDay_16 rfl ?_
      refine x_aload_n (pc := 17) dX9_priceDay_17 rfl ?_
      refine x_iload_n (pc := 18) dX9_priceDay_18 rfl ?_
      refine k_iald (pc := 19) hP dX9_priceDay_19 (rfl) (by rw [hpl]; omega) (by rw [hpl]; omega) ?_
      rw [eC, eV]
      refine x_callU (pc := 20) (As := [.int _, .int _]) dX9_priceDay_20 mX9_harm (lt_9_93 hth) hK.2.2.1 (k_harm hth hK hT.kS hL.kS hG hVj.1) rfl rfl (Nat.le_of_ble_eq_true rfl) ⟨by decide, by decide⟩ ⟨Nat.zero_le _, Nat.zero_le _⟩ (k_rt ?_)
      refine x_aload_n (pc := 23) dX9_priceDay_23 rfl ?_
      refine k_getA (pc := 24) hK dX9_priceDay_24 (fk_9_19 hth) (th_a hth (by decide)) (by decide) ?_
      refine x_iload_n (pc := 27) dX9_priceDay_27 rfl ?_
      refine k_iald (pc := 28) hK dX9_priceDay_28 (rfl) (by show j < 7; omega) (by decide) ?_
      refine x_iadd (pc := 29) dX9_priceDay_29 ?_
      rw [eO 7 (by decide), (hL.1 j (by omega)).2.1, nI_add]
      refine x_iadd (pc := 30) dX9_priceDay_30 ?_
      refine k_iast (pc := 31) hK dX9_priceDay_31 (rfl) (by show j < 7; omega) (by decide) ?_
      refine x_iinc (pc := 32) (lv2 := [_, _, _, _]) dX9_priceDay_32 (by decide) rfl rfl (nI_1 _) rfl ?_
      refine x_goto (pc := 35) (tgt := 2) dX9_priceDay_35 rfl ?_
      have IH := ih (j + 1) (by omega)
      first
        | (rw [← pre_st (j := j) (v := κ.2 o 12 j + nI (hmD D i G (V j) * D 9 (5 * i + bc G) + D 8 (7 * i + j))) (E := fun s => κ.2 o 12 s + nI (hmD D i G (V s) * D 9 (5 * i + bc G) + D 8 (7 * i + s))) (by
              rfl)] at IH
           exact IH)
  refine x_iconst (pc := 0) (v := 0) dX9_priceDay_0 rfl ?_
  refine x_istore_n (pc := 1) (lv2 := [_, _, _, _]) dX9_priceDay_1 (by decide) rfl rfl ?_
  have h := L 7 0 (by omega)
  rw [pre_0, kS_0 rfl] at h
  exact h
end M76
