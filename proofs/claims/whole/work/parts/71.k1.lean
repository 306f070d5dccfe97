/-! the class: what needs no memory -/
theorem ww_min : Cond.code Lib.Math.min.name Lib.Math.min.code 2 (some .int) ∈ gT := gt_of 475 (by decide +kernel) rfl
theorem ww_max : Cond.code Lib.Math.max.name Lib.Math.max.code 2 (some .int) ∈ gT := gt_of 716 (by decide +kernel) rfl
theorem ww_mins : Cond.static Lib.Math.min.name ∈ gT := gt_of 474 (by decide +kernel) rfl
theorem ww_maxs : Cond.static Lib.Math.max.name ∈ gT := gt_of 715 (by decide +kernel) rfl
theorem ww_math : Cond.initialized "java/lang/Math" ∈ gT := gt_of 82 (by decide +kernel) rfl
section M71r
variable {Γ : Gm} {M : Mt} {R : Room} {mc ms cl sl : Nat} {Q : Option Value → Mem → Prop} {pc : Nat} {lv : List (Option Value)} {st : List Value} {μ : Mem}
theorem x_mmin {idx : Nat} {x y : Int32} (d : decode M.2.1 pc = .ok (.invokestatic idx, 3)) (hl0 : Cond.methodLink M.1.cls idx Lib.Math.min.name ∈ gT) (hw : (st.map fun v => v.category).sum ≤ 8) (hR : 1 ≤ R.frames ∧ 64 ≤ R.locals) (hcs : cl ≤ R.cells ∧ sl ≤ R.slots) (kk : WA Γ M R mc ms cl sl Q (pc + 3) lv (.int (if y < x then y else x) :: st) μ) : WA Γ M R mc ms cl sl Q pc lv (.int y :: .int x :: st) μ := by
  intro p e s m args below meth c Qf H locs ls F hS hP hl hE
  obtain ⟨hx, hb, hml, -, -, -, hown, hts, -⟩ := id F
  exact va_mmin hx hb (by rw [hml]; exact hl.1.symm) hown (hts _ hl0) (hts _ ww_mins) (hts _ ww_math) (hts _ ww_min) hR.1 (by omega) hcs.1 hcs.2 d (kk p e s m args below meth c Qf H locs ls F hS hP hl hE)
theorem x_mmax {idx : Nat} {x y : Int32} (d : decode M.2.1 pc = .ok (.invokestatic idx, 3)) (hl0 : Cond.methodLink M.1.cls idx Lib.Math.max.name ∈ gT) (hw : (st.map fun v => v.category).sum ≤ 8) (hR : 1 ≤ R.frames ∧ 64 ≤ R.locals) (hcs : cl ≤ R.cells ∧ sl ≤ R.slots) (kk : WA Γ M R mc ms cl sl Q (pc + 3) lv (.int (if x < y then y else x) :: st) μ) : WA Γ M R mc ms cl sl Q pc lv (.int y :: .int x :: st) μ := by
  intro p e s m args below meth c Qf H locs ls F hS hP hl hE
  obtain ⟨hx, hb, hml, -, -, -, hown, hts, -⟩ := id F
  first
    | exact va_mmax hx hb (by rw [hml]; exact hl.1.symm) hown (hts _ hl0) (hts _ ww_maxs) (hts _ ww_math) (hts _ ww_max) hR.1 (by omega) hcs.1 hcs.2 d (kk p e s m args below meth c Qf H locs ls F hS hP hl hE)
    | (refine va_mmax hx hb (by rw [hml]; exact hl.1.symm) hown (hts _ hl0) (hts _ ww_maxs) (hts _ ww_math) (hts _ ww_max) hR.1 (by omega) hcs.1 hcs.2 d ?_
       have k2 := kk p e s m args below meth c Qf H locs ls F hS hP hl hE
       by_cases h : x < y
       · rw [if_pos h] at k2
         first | rw [if_pos h] | rw [if_neg (Int32.not_le.mpr h)]
         exact k2
       · rw [if_neg h] at k2
         first | rw [if_neg h] | rw [if_pos (Int32.not_lt.mp h)]
         exact k2)
end M71r
section M71
variable {Γ : Gm} {μ : Mem}
theorem k_isBelow (v n : Int32) : XM Γ zX11_isBelow 1 0 0 [.int v, .int n] μ (rt (.int (bi (0 ≤ v ∧ v < n))) μ) := by
  refine XM.of 0 rfl (by decide) (Nat.le_of_ble_eq_true rfl) ?_
  refine x_iload_n (pc := 0) dX11_isBelow_0 rfl ?_
  refine x_if_lt (pc := 1) (tgt := 13) dX11_isBelow_1 rfl (fun h_1 => ?_) (fun h_1 => ?_)
  · refine x_iconst (pc := 13) (v := 0) dX11_isBelow_13 rfl ?_
    refine x_ireturn (pc := 14) dX11_isBelow_14 rfl (by first | rfl | exact bi_nz) ?_
    exact ⟨by
      first
        | rw [bi_t ⟨by first | exact Int32.not_lt.mp h_1 | exact h_1, by first | exact Int32.not_le.mp h_6 | exact h_6⟩]
        | rw [bi_f (fun z => absurd z.1 (Int32.not_le.mpr h_1))]
        | rw [bi_f (fun z => absurd z.2 (Int32.not_lt.mpr h_6))], rfl⟩
  · refine x_iload_n (pc := 4) dX11_isBelow_4 rfl ?_
    refine x_iload_n (pc := 5) dX11_isBelow_5 rfl ?_
    refine x_icmp_ge (pc := 6) (tgt := 13) dX11_isBelow_6 rfl (fun h_6 => ?_) (fun h_6 => ?_)
    · refine x_iconst (pc := 13) (v := 0) dX11_isBelow_13 rfl ?_
      refine x_ireturn (pc := 14) dX11_isBelow_14 rfl (by first | rfl | exact bi_nz) ?_
      exact ⟨by
        first
          | rw [bi_t ⟨by first | exact Int32.not_lt.mp h_1 | exact h_1, by first | exact Int32.not_le.mp h_6 | exact h_6⟩]
          | rw [bi_f (fun z => absurd z.1 (Int32.not_le.mpr h_1))]
          | rw [bi_f (fun z => absurd z.2 (Int32.not_lt.mpr h_6))], rfl⟩
    · refine x_iconst (pc := 9) (v := 1) dX11_isBelow_9 rfl ?_
      refine x_goto (pc := 10) (tgt := 14) dX11_isBelow_10 rfl ?_
      refine x_ireturn (pc := 14) dX11_isBelow_14 rfl (by first | rfl | exact bi_nz) ?_
      exact ⟨by
        first
          | rw [bi_t ⟨by first | exact Int32.not_lt.mp h_1 | exact h_1, by first | exact Int32.not_le.mp h_6 | exact h_6⟩]
          | rw [bi_f (fun z => absurd z.1 (Int32.not_le.mpr h_1))]
          | rw [bi_f (fun z => absurd z.2 (Int32.not_lt.mpr h_6))], rfl⟩
def hbI (x i : Int32) : Int32 := bi (¬ (x >>> (i &&& 31)) &&& 1 = 0)
theorem k_hasBit (x i : Int32) : XM Γ zX11_hasBit 1 0 0 [.int x, .int i] μ (rt (.int (hbI x i)) μ) := by
  refine XM.of 0 rfl (by decide) (Nat.le_of_ble_eq_true rfl) ?_
  refine x_iload_n (pc := 0) dX11_hasBit_0 rfl ?_
  refine x_iload_n (pc := 1) dX11_hasBit_1 rfl ?_
  refine x_ishr (pc := 2) dX11_hasBit_2 ?_
  refine x_iconst (pc := 3) (v := 1) dX11_hasBit_3 rfl ?_
  refine x_iand (pc := 4) dX11_hasBit_4 ?_
  refine x_if_eq (pc := 5) (tgt := 12) dX11_hasBit_5 rfl (fun h_5 => ?_) (fun h_5 => ?_)
  · refine x_iconst (pc := 12) (v := 0) dX11_hasBit_12 rfl ?_
    refine x_ireturn (pc := 13) dX11_hasBit_13 rfl (by first | rfl | exact bi_nz) ?_
    exact ⟨by
      unfold hbI
      first
        | rw [bi_t (by exact h_5)]
        | rw [bi_f (fun z => z (by exact h_5))]
        | rw [bi_f (fun z => z (by first | exact h_5 | exact Decidable.not_not.mp h_5))], rfl⟩
  · refine x_iconst (pc := 8) (v := 1) dX11_hasBit_8 rfl ?_
    refine x_goto (pc := 9) (tgt := 13) dX11_hasBit_9 rfl ?_
    refine x_ireturn (pc := 13) dX11_hasBit_13 rfl (by first | rfl | exact bi_nz) ?_
    exact ⟨by
      unfold hbI
      first
        | rw [bi_t (by exact h_5)]
        | rw [bi_f (fun z => z (by exact h_5))]
        | rw [bi_f (fun z => z (by first | exact h_5 | exact Decidable.not_not.mp h_5))], rfl⟩
def bpI (s : Int32) : Int32 := ((1 : Int32) <<< (s &&& 31)) >>> ((1 : Int32) &&& 31)
theorem k_bitOf (s : Int32) : XM Γ zX4_bitOf 1 0 0 [.int s] μ (rt (.int (bpI s)) μ) := by
  refine XM.of 0 rfl (by decide) (Nat.le_of_ble_eq_true rfl) ?_
  refine x_iconst (pc := 0) (v := 1) dX4_bitOf_0 rfl ?_
  refine x_iload_n (pc := 1) dX4_bitOf_1 rfl ?_
  refine x_ishl (pc := 2) dX4_bitOf_2 ?_
  refine x_iconst (pc := 3) (v := 1) dX4_bitOf_3 rfl ?_
  refine x_ishr (pc := 4) dX4_bitOf_4 ?_
  refine x_ireturn (pc := 5) dX4_bitOf_5 rfl rfl ?_
  exact ⟨rfl, rfl⟩
def mxI (a b : Int32) : Int32 := if a < b then b else a
def mnI (a b : Int32) : Int32 := if b < a then b else a
def sh9 (x n : Int32) : Int32 := (x.toUInt32 >>> (n.toUInt32 &&& Int32.toUInt32 31)).toInt32
def pc1 (i : Int32) : Int32 := i - (sh9 i 1 &&& 1431655765)
def pc2 (i : Int32) : Int32 := (i &&& 858993459) + (sh9 i 2 &&& 858993459)
def pc3 (i : Int32) : Int32 := (i + sh9 i 4) &&& 252645135
def pc4 (i : Int32) : Int32 := i + sh9 i 8
def pc5 (i : Int32) : Int32 := i + sh9 i 16
def pcI (i : Int32) : Int32 := pc5 (pc4 (pc3 (pc2 (pc1 i)))) &&& 63
theorem k_bitCount (x : Int32) : XM Γ zJ6_bitCount_0f7a4 1 0 0 [.int x] μ (rt (.int (pcI x)) μ) := by
  refine XM.of 0 rfl (by decide) (Nat.le_of_ble_eq_true rfl) ?_
  refine x_iload_n (pc := 0) dJ6_bitCount_0f7a4_0 rfl ?_
  refine x_iload_n (pc := 1) dJ6_bitCount_0f7a4_1 rfl ?_
  refine x_iconst (pc := 2) (v := 1) dJ6_bitCount_0f7a4_2 rfl ?_
  refine x_iushr (pc := 3) dJ6_bitCount_0f7a4_3 ?_
  refine x_ldcw (pc := 4) dJ6_bitCount_0f7a4_4 kc_J6_265 ?_
  refine x_iand (pc := 7) dJ6_bitCount_0f7a4_7 ?_
  refine x_isub (pc := 8) dJ6_bitCount_0f7a4_8 ?_
  refine x_istore_n (pc := 9) (lv2 := [_]) dJ6_bitCount_0f7a4_9 (by decide) rfl rfl ?_
  refine x_iload_n (pc := 10) dJ6_bitCount_0f7a4_10 rfl ?_
  refine x_ldcw (pc := 11) dJ6_bitCount_0f7a4_11 kc_J6_266 ?_
  refine x_iand (pc := 14) dJ6_bitCount_0f7a4_14 ?_
  refine x_iload_n (pc := 15) dJ6_bitCount_0f7a4_15 rfl ?_
  refine x_iconst (pc := 16) (v := 2) dJ6_bitCount_0f7a4_16 rfl ?_
  refine x_iushr (pc := 17) dJ6_bitCount_0f7a4_17 ?_
  refine x_ldcw (pc := 18) dJ6_bitCount_0f7a4_18 kc_J6_266 ?_
  refine x_iand (pc := 21) dJ6_bitCount_0f7a4_21 ?_
  refine x_iadd (pc := 22) dJ6_bitCount_0f7a4_22 ?_
  refine x_istore_n (pc := 23) (lv2 := [_]) dJ6_bitCount_0f7a4_23 (by decide) rfl rfl ?_
  refine x_iload_n (pc := 24) dJ6_bitCount_0f7a4_24 rfl ?_
  refine x_iload_n (pc := 25) dJ6_bitCount_0f7a4_25 rfl ?_
  refine x_iconst (pc := 26) (v := 4) dJ6_bitCount_0f7a4_26 rfl ?_
  refine x_iushr (pc := 27) dJ6_bitCount_0f7a4_27 ?_
  refine x_iadd (pc := 28) dJ6_bitCount_0f7a4_28 ?_
  refine x_ldcw (pc := 29) dJ6_bitCount_0f7a4_29 kc_J6_267 ?_
  refine x_iand (pc := 32) dJ6_bitCount_0f7a4_32 ?_
  refine x_istore_n (pc := 33) (lv2 := [_]) dJ6_bitCount_0f7a4_33 (by decide) rfl rfl ?_
  refine x_iload_n (pc := 34) dJ6_bitCount_0f7a4_34 rfl ?_
  refine x_iload_n (pc := 35) dJ6_bitCount_0f7a4_35 rfl ?_
  refine x_bipush (pc := 36) (v := 8) dJ6_bitCount_0f7a4_36 rfl ?_
  refine x_iushr (pc := 38) dJ6_bitCount_0f7a4_38 ?_
  refine x_iadd (pc := 39) dJ6_bitCount_0f7a4_39 ?_
  refine x_istore_n (pc := 40) (lv2 := [_]) dJ6_bitCount_0f7a4_40 (by decide) rfl rfl ?_
  refine x_iload_n (pc := 41) dJ6_bitCount_0f7a4_41 rfl ?_
  refine x_iload_n (pc := 42) dJ6_bitCount_0f7a4_42 rfl ?_
  refine x_bipush (pc := 43) (v := 16) dJ6_bitCount_0f7a4_43 rfl ?_
  refine x_iushr (pc := 45) dJ6_bitCount_0f7a4_45 ?_
  refine x_iadd (pc := 46) dJ6_bitCount_0f7a4_46 ?_
  refine x_istore_n (pc := 47) (lv2 := [_]) dJ6_bitCount_0f7a4_47 (by decide) rfl rfl ?_
  refine x_iload_n (pc := 48) dJ6_bitCount_0f7a4_48 rfl ?_
  refine x_bipush (pc := 49) (v := 63) dJ6_bitCount_0f7a4_49 rfl ?_
  refine x_iand (pc := 51) dJ6_bitCount_0f7a4_51 ?_
  refine x_ireturn (pc := 52) dJ6_bitCount_0f7a4_52 rfl rfl ?_
  exact ⟨rfl, rfl⟩
theorem pc_64 : ∀ x, x < 64 → pcI (nI x) = nI (bc (x % 16) + bc (x / 16)) := by decide +kernel
theorem pc_16 : ∀ x, x < 16 → pcI (nI x) = nI (bc x) := by decide +kernel
theorem hb_a : ∀ G, G < 64 → ∀ g, g < 6 → hbI (nI G) (nI g) = bi (G.testBit g = true) := by decide +kernel
theorem bp_a : ∀ s, s < 7 → bpI (nI s) = nI (ust 0 s) := by decide +kernel
theorem us_a : ∀ u, u < 64 → ∀ s, s < 7 → (nI u &&& nI (ust 0 s) = 0 ↔ utk u s = false) ∧ nI u ||| nI (ust 0 s) = nI (ust u s) := by decide +kernel
/-- the first bit that is set, of k and on: 16 if none -/
def lbN (x : Nat) : Nat → Nat → Nat
  | 0, i => i
  | m + 1, i => if x.testBit i = true then i else lbN x m (i + 1)
theorem k_lowestBit (x : Int32) : XM Γ zX11_lowestBit 2 0 0 [.int x] μ (fun v μ2 => μ2 = μ ∧ ((∃ i, i < 16 ∧ ¬ hbI x (nI i) = 0 ∧ (∀ j, j < i → hbI x (nI j) = 0) ∧ v = some (.int (nI i))) ∨ ((∀ j, j < 16 → hbI x (nI j) = 0) ∧ v = some (.int (-1))))) := by
  refine XM.of 1 rfl (by decide) (Nat.le_of_ble_eq_true rfl) ?_
  have L : ∀ (m i : Nat), i + m = 16 → (∀ j, j < i → hbI x (nI j) = 0) → WA Γ zX11_lowestBit (xrm 2 0 0) 0 0 0 0 (fun v μ2 => μ2 = μ ∧ ((∃ i, i < 16 ∧ ¬ hbI x (nI i) = 0 ∧ (∀ j, j < i → hbI x (nI j) = 0) ∧ v = some (.int (nI i))) ∨ ((∀ j, j < 16 → hbI x (nI j) = 0) ∧ v = some (.int (-1))))) 2 [some (.int x), some (.int (nI i))] [] μ := by
    intro m
    induction m with
    | zero =>
      intro i hi h
      obtain rfl : i = 16 := by omega
      refine x_iload_n (pc := 2) dX11_lowestBit_2 rfl ?_
      refine x_bipush (pc := 3) (v := 16) dX11_lowestBit_3 rfl ?_
      refine x_icmp_ge (pc := 5) (tgt := 24) dX11_lowestBit_5 rfl (fun h_5 => ?_) (fun h_5 => absurd (by decide) h_5)
      refine x_iconst (pc := 24) (v := -1) dX11_lowestBit_24 rfl ?_
      refine x_ireturn (pc := 25) dX11_lowestBit_25 rfl rfl ?_
      exact ⟨rfl, Or.inr ⟨h, rfl⟩⟩
    | succ m ih =>
      intro i hi h
      refine x_iload_n (pc := 2) dX11_lowestBit_2 rfl ?_
      refine x_bipush (pc := 3) (v := 16) dX11_lowestBit_3 rfl ?_
      refine x_icmp_ge (pc := 5) (tgt := 24) dX11_lowestBit_5 rfl (fun h_5 => absurd h_5 (lit_le (n := 16) i (by omega) (by omega))) (fun h_5 => ?_)
      refine x_iload_n (pc := 8) dX11_lowestBit_8 rfl ?_
      refine x_iload_n (pc := 9) dX11_lowestBit_9 rfl ?_
      refine x_callS (pc := 10) (As := [.int _, .int _]) dX11_lowestBit_10 mX11_hasBit lk_11_276 (k_hasBit _ _) rfl rfl (Nat.le_of_ble_eq_true rfl) ⟨by decide, by decide⟩ ⟨Nat.zero_le _, Nat.zero_le _⟩ (k_rt ?_)
      refine x_if_eq (pc := 13) (tgt := 18) dX11_lowestBit_13 rfl (fun h_13 => ?_) (fun h_13 => ?_)
      · refine x_iinc (pc := 18) (lv2 := [_, _]) dX11_lowestBit_18 (by decide) rfl rfl (nI_1 _) rfl ?_
        refine x_goto (pc := 21) (tgt := 2) dX11_lowestBit_21 rfl ?_
        refine ih (i + 1) (by omega) (fun j hj => ?_)
        rcases Nat.lt_or_ge j i with q | q
        · exact h j q
        · obtain rfl : j = i := by omega
          first
            | exact h_13
            | exact Decidable.not_not.mp h_13
      · refine x_iload_n (pc := 16) dX11_lowestBit_16 rfl ?_
        refine x_ireturn (pc := 17) dX11_lowestBit_17 rfl rfl ?_
        exact ⟨rfl, Or.inl ⟨i, by omega, h_13, h, rfl⟩⟩
  refine x_iconst (pc := 0) (v := 0) dX11_lowestBit_0 rfl ?_
  refine x_istore_n (pc := 1) (lv2 := [_, _]) dX11_lowestBit_1 (by decide) rfl rfl ?_
  exact L 16 0 (by omega) (fun j h => absurd h (by omega))
theorem irem_b {a c : Nat} (ha : a < 2 ^ 31) (hc : c < 2 ^ 31) (h0 : 0 < c) : (nI a - nI a / nI c * nI c = 0) ↔ c ∣ a := by
  rw [pk_rem ha h0 hc, show (0 : Int32) = nI 0 from rfl, nI_eq (by have := Nat.mod_lt a h0; omega) (by omega)]
  exact (Nat.dvd_iff_mod_eq_zero).symm
theorem k_commonDivisor {x y : Nat} (hx : x ≤ 10) (hx0 : 0 < x) (hy : y ≤ x) : XM Γ zX11_commonDivisor 2 0 0 [.int (nI x), .int (nI y)] μ (rt (.int (nI (Nat.gcd y x))) μ) := by
  refine XM.of 1 rfl (by decide) (Nat.le_of_ble_eq_true rfl) ?_
  have hg0 : 0 < Nat.gcd y x := Nat.gcd_pos_of_pos_right y hx0
  have L : ∀ (d : Nat), d ≤ x → (∀ e, d < e → ¬ (e ∣ x ∧ e ∣ y)) → WA Γ zX11_commonDivisor (xrm 2 0 0) 0 0 0 0 (rt (.int (nI (Nat.gcd y x))) μ) 6 [some (.int (nI x)), some (.int (nI y)), some (.int (nI d))] [] μ := by
    intro d
    induction d with
    | zero =>
      intro hd h
      exact absurd ⟨Nat.gcd_dvd_right y x, Nat.gcd_dvd_left y x⟩ (h (Nat.gcd y x) hg0)
    | succ d ih =>
      intro hd h
      have hgl : Nat.gcd y x ≤ d + 1 := by
        rcases Nat.lt_or_ge (d + 1) (Nat.gcd y x) with q | q
        · exact absurd ⟨Nat.gcd_dvd_right y x, Nat.gcd_dvd_left y x⟩ (h _ q)
        · exact q
      have b1 := irem_b (a := x) (c := d + 1) (by omega) (by omega) (by omega)
      have b2 := irem_b (a := y) (c := d + 1) (by omega) (by omega) (by omega)
      have hn0 : ¬ nI (d + 1) = 0 := nI_ne0 (by omega) (by omega)
      refine x_iload_n (pc := 6) dX11_commonDivisor_6 rfl ?_
      refine x_iconst (pc := 7) (v := 1) dX11_commonDivisor_7 rfl ?_
      refine x_icmp_le (pc := 8) (tgt := 31) dX11_commonDivisor_8 rfl (fun h_8 => ?_) (fun h_8 => ?_)
      · refine x_iconst (pc := 31) (v := 1) dX11_commonDivisor_31 rfl ?_
        refine x_ireturn (pc := 32) dX11_commonDivisor_32 rfl rfl ?_
        refine ⟨?_, rfl⟩
        have q : d + 1 ≤ 1 := (nI_leI (b := 1) (by omega) (by omega)).mp h_8
        rw [show Nat.gcd y x = 1 by omega]
        rfl
      · refine x_iload_n (pc := 11) dX11_commonDivisor_11 rfl ?_
        refine x_iload_n (pc := 12) dX11_commonDivisor_12 rfl ?_
        refine x_irem (pc := 13) dX11_commonDivisor_13 (hn0) ?_
        refine x_if_ne (pc := 14) (tgt := 25) dX11_commonDivisor_14 rfl (fun h_14 => ?_) (fun h_14 => ?_)
        · refine x_iinc (pc := 25) (lv2 := [_, _, _]) dX11_commonDivisor_25 (by decide) rfl rfl ((incm _).trans (nI_pred d)) rfl ?_
          refine x_goto (pc := 28) (tgt := 6) dX11_commonDivisor_28 rfl ?_
          refine ih (by omega) (fun e he hed => ?_)
          rcases Nat.lt_or_ge (d + 1) e with q | q
          · exact h e q hed
          · obtain rfl : e = d + 1 := by omega
            first
              | exact h_14 (b1.mpr hed.1)
              | exact h_20 (b2.mpr hed.2)
        · refine x_iload_n (pc := 17) dX11_commonDivisor_17 rfl ?_
          refine x_iload_n (pc := 18) dX11_commonDivisor_18 rfl ?_
          refine x_irem (pc := 19) dX11_commonDivisor_19 (hn0) ?_
          refine x_if_ne (pc := 20) (tgt := 25) dX11_commonDivisor_20 rfl (fun h_20 => ?_) (fun h_20 => ?_)
          · refine x_iinc (pc := 25) (lv2 := [_, _, _]) dX11_commonDivisor_25 (by decide) rfl rfl ((incm _).trans (nI_pred d)) rfl ?_
            refine x_goto (pc := 28) (tgt := 6) dX11_commonDivisor_28 rfl ?_
            refine ih (by omega) (fun e he hed => ?_)
            rcases Nat.lt_or_ge (d + 1) e with q | q
            · exact h e q hed
            · obtain rfl : e = d + 1 := by omega
              first
                | exact h_14 (b1.mpr hed.1)
                | exact h_20 (b2.mpr hed.2)
          · refine x_iload_n (pc := 23) dX11_commonDivisor_23 rfl ?_
            refine x_ireturn (pc := 24) dX11_commonDivisor_24 rfl rfl ?_
            refine ⟨?_, rfl⟩
            have q1 := b1.mp (by first | exact h_14 | exact Decidable.not_not.mp h_14)
            have q2 := b2.mp (by first | exact h_20 | exact Decidable.not_not.mp h_20)
            have q3 : d + 1 ≤ Nat.gcd y x := Nat.le_of_dvd hg0 (Nat.dvd_gcd q2 q1)
            rw [show Nat.gcd y x = d + 1 by omega]
  refine x_iload_n (pc := 0) dX11_commonDivisor_0 rfl ?_
  refine x_iload_n (pc := 1) dX11_commonDivisor_1 rfl ?_
  refine x_mmax (pc := 2) dX11_commonDivisor_2 lk_11_279.1 (by decide) ⟨by decide, by decide⟩ ⟨by decide, by decide⟩ ?_
  rw [if_neg (fun z => nI_nlt hy (by omega) z)]
  refine x_istore_n (pc := 5) (lv2 := [_, _, _]) dX11_commonDivisor_5 (by decide) rfl rfl ?_
  refine L x (Nat.le_refl x) (fun e he hed => ?_)
  have := Nat.le_of_dvd hx0 hed.1
  omega
end M71
