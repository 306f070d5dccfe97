/-! the reference: what needs no memory, and small readings -/
def bi (p : Prop) [Decidable p] : Int32 := if p then 1 else 0
theorem bi_t {p : Prop} [Decidable p] (h : p) : bi p = 1 := if_pos h
theorem bi_f {p : Prop} [Decidable p] (h : ¬ p) : bi p = 0 := if_neg h
theorem bi_0 {p : Prop} [Decidable p] : bi p = 0 ↔ ¬ p := by
  by_cases h : p
  · simp [bi, h]
  · simp [bi, h]
theorem bi_c {p q : Prop} [Decidable p] [Decidable q] (h : p ↔ q) : bi p = bi q := by
  by_cases hp : p
  · rw [bi_t hp, bi_t (h.mp hp)]
  · rw [bi_f hp, bi_f (fun z => hp (h.mpr z))]
theorem bi_nz {p : Prop} [Decidable p] : narrow .boolean (.int (bi p)) = .int (bi p) := by
  by_cases h : p
  · rw [bi_t h]; rfl
  · rw [bi_f h]; rfl
theorem nI_m1 {n : Nat} (h : n < 2 ^ 31) : ¬ nI n = -1 := fun e => by
  have h1 := nI_toInt h
  rw [e] at h1
  have h2 : (-1 : Int32).toInt = -1 := by decide
  omega
theorem w_le (a b : Int32) : a.toInt64 ≤ b.toInt64 ↔ a ≤ b := by
  rw [Int64.le_iff_toInt_le, Int32.le_iff_toInt_le, Int32.toInt_toInt64, Int32.toInt_toInt64]
section M30
variable {Γ : Gm} {μ : Mem} {a : Ma} {σ : MS}
theorem c_in (v lo hi : Int64) : XM Γ zX12_in 1 0 0 [.long v, .long lo, .long hi] μ (rt (.int (bi (lo ≤ v ∧ v ≤ hi))) μ) := by
  refine XM.of 0 rfl (by decide) (Nat.le_of_ble_eq_true rfl) ?_
  refine x_lload_n (pc := 0) dX12_in_0 rfl ?_
  refine x_lload_n (pc := 1) dX12_in_1 rfl ?_
  refine x_lcmp (pc := 2) dX12_in_2 ?_
  refine x_if_lt (pc := 3) (tgt := 17) dX12_in_3 rfl (fun h_3 => ?_) (fun h_3 => ?_)
  · refine x_iconst (pc := 17) (v := 0) dX12_in_17 rfl ?_
    refine x_ireturn (pc := 18) dX12_in_18 rfl (by first | rfl | exact bi_nz) ?_
    exact ⟨by
      rw [lg_cmp_lt] at h_3
      try rw [lg_cmp_gt] at h_10
      first
        | rw [bi_f (fun h => absurd h_3 (Int64.not_lt.mpr h.1))]
        | rw [bi_f (fun h => absurd h_10 (Int64.not_lt.mpr h.2))]
        | rw [bi_t ⟨Int64.not_lt.mp h_3, Int64.not_lt.mp h_10⟩], rfl⟩
  · refine x_lload_n (pc := 6) dX12_in_6 rfl ?_
    refine x_lload (pc := 7) dX12_in_7 rfl ?_
    refine x_lcmp (pc := 9) dX12_in_9 ?_
    refine x_if_gt (pc := 10) (tgt := 17) dX12_in_10 rfl (fun h_10 => ?_) (fun h_10 => ?_)
    · refine x_iconst (pc := 17) (v := 0) dX12_in_17 rfl ?_
      refine x_ireturn (pc := 18) dX12_in_18 rfl (by first | rfl | exact bi_nz) ?_
      exact ⟨by
        rw [lg_cmp_lt] at h_3
        try rw [lg_cmp_gt] at h_10
        first
          | rw [bi_f (fun h => absurd h_3 (Int64.not_lt.mpr h.1))]
          | rw [bi_f (fun h => absurd h_10 (Int64.not_lt.mpr h.2))]
          | rw [bi_t ⟨Int64.not_lt.mp h_3, Int64.not_lt.mp h_10⟩], rfl⟩
    · refine x_iconst (pc := 13) (v := 1) dX12_in_13 rfl ?_
      refine x_goto (pc := 14) (tgt := 18) dX12_in_14 rfl ?_
      refine x_ireturn (pc := 18) dX12_in_18 rfl (by first | rfl | exact bi_nz) ?_
      exact ⟨by
        rw [lg_cmp_lt] at h_3
        try rw [lg_cmp_gt] at h_10
        first
          | rw [bi_f (fun h => absurd h_3 (Int64.not_lt.mpr h.1))]
          | rw [bi_f (fun h => absurd h_10 (Int64.not_lt.mpr h.2))]
          | rw [bi_t ⟨Int64.not_lt.mp h_3, Int64.not_lt.mp h_10⟩], rfl⟩
theorem c_inI {v : Int32} {lo hi : Int64} (l h : Int32) (h1 : l.toInt64 = lo := by rfl) (h2 : h.toInt64 = hi := by rfl) : XM Γ zX12_in 1 0 0 [.long v.toInt64, .long lo, .long hi] μ (rt (.int (bi (l ≤ v ∧ v ≤ h))) μ) := by
  subst h1; subst h2
  have e := c_in (Γ := Γ) (μ := μ) v.toInt64 l.toInt64 h.toInt64
  rwa [bi_c (show (l.toInt64 ≤ v.toInt64 ∧ v.toInt64 ≤ h.toInt64) ↔ (l ≤ v ∧ v ≤ h) by rw [w_le, w_le])] at e
def wit (v lo hi : Int32) : Int32 := if v < lo then lo else if hi < v then hi else v
theorem c_within (v lo hi : Int32) : XM Γ zX12_within 1 0 0 [.int v, .int lo, .int hi] μ (rt (.int (wit v lo hi)) μ) := by
  refine XM.of 0 rfl (by decide) (Nat.le_of_ble_eq_true rfl) ?_
  refine x_iload_n (pc := 0) dX12_within_0 rfl ?_
  refine x_iload_n (pc := 1) dX12_within_1 rfl ?_
  refine x_icmp_ge (pc := 2) (tgt := 9) dX12_within_2 rfl (fun h_2 => ?_) (fun h_2 => ?_)
  · refine x_iload_n (pc := 9) dX12_within_9 rfl ?_
    refine x_iload_n (pc := 10) dX12_within_10 rfl ?_
    refine x_icmp_le (pc := 11) (tgt := 18) dX12_within_11 rfl (fun h_11 => ?_) (fun h_11 => ?_)
    · refine x_iload_n (pc := 18) dX12_within_18 rfl ?_
      refine x_ireturn (pc := 19) dX12_within_19 rfl rfl ?_
      exact ⟨by
        first
          | rw [wit, if_pos (Int32.not_le.mp h_2)]
          | rw [wit, if_neg (Int32.not_lt.mpr h_2), if_neg (Int32.not_lt.mpr h_11)]
          | rw [wit, if_neg (Int32.not_lt.mpr h_2), if_pos (Int32.not_le.mp h_11)], rfl⟩
    · refine x_iload_n (pc := 14) dX12_within_14 rfl ?_
      refine x_goto (pc := 15) (tgt := 19) dX12_within_15 rfl ?_
      refine x_ireturn (pc := 19) dX12_within_19 rfl rfl ?_
      exact ⟨by
        first
          | rw [wit, if_pos (Int32.not_le.mp h_2)]
          | rw [wit, if_neg (Int32.not_lt.mpr h_2), if_neg (Int32.not_lt.mpr h_11)]
          | rw [wit, if_neg (Int32.not_lt.mpr h_2), if_pos (Int32.not_le.mp h_11)], rfl⟩
  · refine x_iload_n (pc := 5) dX12_within_5 rfl ?_
    refine x_goto (pc := 6) (tgt := 19) dX12_within_6 rfl ?_
    refine x_ireturn (pc := 19) dX12_within_19 rfl rfl ?_
    exact ⟨by
      first
        | rw [wit, if_pos (Int32.not_le.mp h_2)]
        | rw [wit, if_neg (Int32.not_lt.mpr h_2), if_neg (Int32.not_lt.mpr h_11)]
        | rw [wit, if_neg (Int32.not_lt.mpr h_2), if_pos (Int32.not_le.mp h_11)], rfl⟩
theorem c_isPlace (v : Int32) : XM Γ zX12_isPlace 2 0 0 [.int v] μ (rt (.int (bi (0 ≤ v ∧ v ≤ 5))) μ) := by
  refine XM.of 0 rfl (by decide) (Nat.le_of_ble_eq_true rfl) ?_
  refine x_iload_n (pc := 0) dX12_isPlace_0 rfl ?_
  refine x_i2l (pc := 1) dX12_isPlace_1 ?_
  refine x_lconst (pc := 2) (v := 0) dX12_isPlace_2 rfl ?_
  refine x_ldc2 (pc := 3) dX12_isPlace_3 kc_12_113 ?_
  refine x_callS (pc := 6) (As := [.long _, .long _, .long _]) dX12_isPlace_6 mX12_in lk_12_109 (c_inI 0 5) rfl rfl (by decide) ⟨by decide, by decide⟩ ⟨Nat.zero_le _, Nat.zero_le _⟩ (k_rt ?_)
  refine x_ireturn (pc := 9) dX12_isPlace_9 rfl (by first | rfl | exact bi_nz) ?_
  exact ⟨rfl, rfl⟩
theorem c_areGuests (v : Int32) : XM Γ zX12_areGuests 2 0 0 [.int v] μ (rt (.int (bi (0 ≤ v ∧ v ≤ 15))) μ) := by
  refine XM.of 0 rfl (by decide) (Nat.le_of_ble_eq_true rfl) ?_
  refine x_iload_n (pc := 0) dX12_areGuests_0 rfl ?_
  refine x_i2l (pc := 1) dX12_areGuests_1 ?_
  refine x_lconst (pc := 2) (v := 0) dX12_areGuests_2 rfl ?_
  refine x_ldc2 (pc := 3) dX12_areGuests_3 kc_12_115 ?_
  refine x_callS (pc := 6) (As := [.long _, .long _, .long _]) dX12_areGuests_6 mX12_in lk_12_109 (c_inI 0 15) rfl rfl (by decide) ⟨by decide, by decide⟩ ⟨Nat.zero_le _, Nat.zero_le _⟩ (k_rt ?_)
  refine x_ireturn (pc := 9) dX12_areGuests_9 rfl (by first | rfl | exact bi_nz) ?_
  exact ⟨rfl, rfl⟩
theorem c_isSheet (v : Int32) : XM Γ zX12_isSheet 2 0 0 [.int v] μ (rt (.int (bi (0 ≤ v ∧ v ≤ 3))) μ) := by
  refine XM.of 0 rfl (by decide) (Nat.le_of_ble_eq_true rfl) ?_
  refine x_iload_n (pc := 0) dX12_isSheet_0 rfl ?_
  refine x_i2l (pc := 1) dX12_isSheet_1 ?_
  refine x_lconst (pc := 2) (v := 0) dX12_isSheet_2 rfl ?_
  refine x_ldc2 (pc := 3) dX12_isSheet_3 kc_12_117 ?_
  refine x_callS (pc := 6) (As := [.long _, .long _, .long _]) dX12_isSheet_6 mX12_in lk_12_109 (c_inI 0 3) rfl rfl (by decide) ⟨by decide, by decide⟩ ⟨Nat.zero_le _, Nat.zero_le _⟩ (k_rt ?_)
  refine x_ireturn (pc := 9) dX12_isSheet_9 rfl (by first | rfl | exact bi_nz) ?_
  exact ⟨rfl, rfl⟩
theorem c_isThing (hM : MOK μ a) (v : Int32) : XM Γ zX12_isThing 2 0 0 [.ref a.1, .int v] (MV μ a σ) (rt (.int (bi (0 ≤ v ∧ v ≤ σ.1 15 - 1))) (MV μ a σ)) := by
  refine XM.of 0 rfl (by decide) (Nat.le_of_ble_eq_true rfl) ?_
  refine x_iload_n (pc := 0) dX12_isThing_0 rfl ?_
  refine x_i2l (pc := 1) dX12_isThing_1 ?_
  refine x_lconst (pc := 2) (v := 0) dX12_isThing_2 rfl ?_
  refine x_aload_n (pc := 3) dX12_isThing_3 rfl ?_
  refine m_getI (pc := 4) hM dX12_isThing_4 fk_12_106 (Or.inl rfl) ?_
  refine x_iconst (pc := 7) (v := 1) dX12_isThing_7 rfl ?_
  refine x_isub (pc := 8) dX12_isThing_8 ?_
  refine x_i2l (pc := 9) dX12_isThing_9 ?_
  refine x_callS (pc := 10) (As := [.long _, .long _, .long _]) dX12_isThing_10 mX12_in lk_12_109 (c_inI 0 (σ.1 15 - 1)) rfl rfl (by decide) ⟨by decide, by decide⟩ ⟨Nat.zero_le _, Nat.zero_le _⟩ (k_rt ?_)
  refine x_ireturn (pc := 13) dX12_isThing_13 rfl (by first | rfl | exact bi_nz) ?_
  exact ⟨rfl, rfl⟩
def ovr (k : Int32) : Int32 := if k = 0 then -1 else if k = 3 then 1 else if k = 4 then 2 else 0
theorem c_over (k : Int32) : XM Γ zX12_over 1 0 0 [.int k] μ (rt (.int (ovr k)) μ) := by
  refine XM.of 0 rfl (by decide) (Nat.le_of_ble_eq_true rfl) ?_
  refine x_iload_n (pc := 0) dX12_over_0 rfl ?_
  refine x_if_ne (pc := 1) (tgt := 8) dX12_over_1 rfl (fun h_1 => ?_) (fun h_1 => ?_)
  · refine x_iload_n (pc := 8) dX12_over_8 rfl ?_
    refine x_iconst (pc := 9) (v := 3) dX12_over_9 rfl ?_
    refine x_icmp_ne (pc := 10) (tgt := 17) dX12_over_10 rfl (fun h_10 => ?_) (fun h_10 => ?_)
    · refine x_iload_n (pc := 17) dX12_over_17 rfl ?_
      refine x_iconst (pc := 18) (v := 4) dX12_over_18 rfl ?_
      refine x_icmp_ne (pc := 19) (tgt := 26) dX12_over_19 rfl (fun h_19 => ?_) (fun h_19 => ?_)
      · refine x_iconst (pc := 26) (v := 0) dX12_over_26 rfl ?_
        refine x_ireturn (pc := 27) dX12_over_27 rfl rfl ?_
        exact ⟨by simp_all [ovr], rfl⟩
      · refine x_iconst (pc := 22) (v := 2) dX12_over_22 rfl ?_
        refine x_goto (pc := 23) (tgt := 27) dX12_over_23 rfl ?_
        refine x_ireturn (pc := 27) dX12_over_27 rfl rfl ?_
        exact ⟨by simp_all [ovr], rfl⟩
    · refine x_iconst (pc := 13) (v := 1) dX12_over_13 rfl ?_
      refine x_goto (pc := 14) (tgt := 27) dX12_over_14 rfl ?_
      refine x_ireturn (pc := 27) dX12_over_27 rfl rfl ?_
      exact ⟨by simp_all [ovr], rfl⟩
  · refine x_iconst (pc := 4) (v := -1) dX12_over_4 rfl ?_
    refine x_goto (pc := 5) (tgt := 27) dX12_over_5 rfl ?_
    refine x_ireturn (pc := 27) dX12_over_27 rfl rfl ?_
    exact ⟨by simp_all [ovr], rfl⟩
def stI (k p : Int32) : Int32 := if k = 1 ∨ k = 3 then (if p - p / 2 * 2 = 0 then (if k = 1 then 1 else if p = 0 then 0 else 1) else 0) else if k = 2 ∨ k = 4 then (if p < 4 then 1 else 0) else 1
theorem c_stands (hM : MOK μ a) {i : Nat} {t : Int32} (p : Int32) (ht : t = nI i) (hi : i < 5) : XM Γ zX12_stands 1 0 0 [.ref a.1, .int t, .int p] (MV μ a σ) (rt (.int (stI (σ.2.2 10 i) p)) (MV μ a σ)) := by
  refine XM.of 1 rfl (by decide) (Nat.le_of_ble_eq_true rfl) ?_
  refine x_aload_n (pc := 0) dX12_stands_0 rfl ?_
  refine m_getR (pc := 1) hM dX12_stands_1 fk_12_32 (Or.inr ⟨_, rfl⟩) (Or.inl (by decide)) ?_
  refine x_iload_n (pc := 4) dX12_stands_4 rfl ?_
  refine m_iald (pc := 5) hM dX12_stands_5 (ht) (hi) ?_
  generalize σ.2.2 10 i = k
  refine x_istore_n (pc := 6) (lv2 := [_, _, _, _]) dX12_stands_6 (by decide) rfl rfl ?_
  refine x_iload_n (pc := 7) dX12_stands_7 rfl ?_
  refine x_iconst (pc := 8) (v := 1) dX12_stands_8 rfl ?_
  refine x_icmp_eq (pc := 9) (tgt := 17) dX12_stands_9 rfl (fun h_9 => ?_) (fun h_9 => ?_)
  · refine x_iload_n (pc := 17) dX12_stands_17 rfl ?_
    refine x_iconst (pc := 18) (v := 2) dX12_stands_18 rfl ?_
    refine x_irem (pc := 19) dX12_stands_19 (by decide) ?_
    refine x_if_ne (pc := 20) (tgt := 36) dX12_stands_20 rfl (fun h_20 => ?_) (fun h_20 => ?_)
    · refine x_iconst (pc := 36) (v := 0) dX12_stands_36 rfl ?_
      refine x_ireturn (pc := 37) dX12_stands_37 rfl (by first | rfl | exact bi_nz) ?_
      exact ⟨by simp_all [stI], rfl⟩
    · refine x_iload_n (pc := 23) dX12_stands_23 rfl ?_
      refine x_iconst (pc := 24) (v := 1) dX12_stands_24 rfl ?_
      refine x_icmp_eq (pc := 25) (tgt := 32) dX12_stands_25 rfl (fun h_25 => ?_) (fun h_25 => ?_)
      · refine x_iconst (pc := 32) (v := 1) dX12_stands_32 rfl ?_
        refine x_goto (pc := 33) (tgt := 37) dX12_stands_33 rfl ?_
        refine x_ireturn (pc := 37) dX12_stands_37 rfl (by first | rfl | exact bi_nz) ?_
        exact ⟨by simp_all [stI], rfl⟩
      · refine x_iload_n (pc := 28) dX12_stands_28 rfl ?_
        refine x_if_eq (pc := 29) (tgt := 36) dX12_stands_29 rfl (fun h_29 => ?_) (fun h_29 => ?_)
        · refine x_iconst (pc := 36) (v := 0) dX12_stands_36 rfl ?_
          refine x_ireturn (pc := 37) dX12_stands_37 rfl (by first | rfl | exact bi_nz) ?_
          exact ⟨by simp_all [stI], rfl⟩
        · refine x_iconst (pc := 32) (v := 1) dX12_stands_32 rfl ?_
          refine x_goto (pc := 33) (tgt := 37) dX12_stands_33 rfl ?_
          refine x_ireturn (pc := 37) dX12_stands_37 rfl (by first | rfl | exact bi_nz) ?_
          exact ⟨by simp_all [stI], rfl⟩
  · refine x_iload_n (pc := 12) dX12_stands_12 rfl ?_
    refine x_iconst (pc := 13) (v := 3) dX12_stands_13 rfl ?_
    refine x_icmp_ne (pc := 14) (tgt := 38) dX12_stands_14 rfl (fun h_14 => ?_) (fun h_14 => ?_)
    · refine x_iload_n (pc := 38) dX12_stands_38 rfl ?_
      refine x_iconst (pc := 39) (v := 2) dX12_stands_39 rfl ?_
      refine x_icmp_eq (pc := 40) (tgt := 48) dX12_stands_40 rfl (fun h_40 => ?_) (fun h_40 => ?_)
      · refine x_iload_n (pc := 48) dX12_stands_48 rfl ?_
        refine x_iconst (pc := 49) (v := 4) dX12_stands_49 rfl ?_
        refine x_icmp_ge (pc := 50) (tgt := 57) dX12_stands_50 rfl (fun h_50 => ?_) (fun h_50 => ?_)
        · refine x_iconst (pc := 57) (v := 0) dX12_stands_57 rfl ?_
          refine x_ireturn (pc := 58) dX12_stands_58 rfl (by first | rfl | exact bi_nz) ?_
          exact ⟨by simp_all [stI], rfl⟩
        · refine x_iconst (pc := 53) (v := 1) dX12_stands_53 rfl ?_
          refine x_goto (pc := 54) (tgt := 58) dX12_stands_54 rfl ?_
          refine x_ireturn (pc := 58) dX12_stands_58 rfl (by first | rfl | exact bi_nz) ?_
          exact ⟨by simp_all [stI], rfl⟩
      · refine x_iload_n (pc := 43) dX12_stands_43 rfl ?_
        refine x_iconst (pc := 44) (v := 4) dX12_stands_44 rfl ?_
        refine x_icmp_ne (pc := 45) (tgt := 53) dX12_stands_45 rfl (fun h_45 => ?_) (fun h_45 => ?_)
        · refine x_iconst (pc := 53) (v := 1) dX12_stands_53 rfl ?_
          refine x_goto (pc := 54) (tgt := 58) dX12_stands_54 rfl ?_
          refine x_ireturn (pc := 58) dX12_stands_58 rfl (by first | rfl | exact bi_nz) ?_
          exact ⟨by simp_all [stI], rfl⟩
        · refine x_iload_n (pc := 48) dX12_stands_48 rfl ?_
          refine x_iconst (pc := 49) (v := 4) dX12_stands_49 rfl ?_
          refine x_icmp_ge (pc := 50) (tgt := 57) dX12_stands_50 rfl (fun h_50 => ?_) (fun h_50 => ?_)
          · refine x_iconst (pc := 57) (v := 0) dX12_stands_57 rfl ?_
            refine x_ireturn (pc := 58) dX12_stands_58 rfl (by first | rfl | exact bi_nz) ?_
            exact ⟨by simp_all [stI], rfl⟩
          · refine x_iconst (pc := 53) (v := 1) dX12_stands_53 rfl ?_
            refine x_goto (pc := 54) (tgt := 58) dX12_stands_54 rfl ?_
            refine x_ireturn (pc := 58) dX12_stands_58 rfl (by first | rfl | exact bi_nz) ?_
            exact ⟨by simp_all [stI], rfl⟩
    · refine x_iload_n (pc := 17) dX12_stands_17 rfl ?_
      refine x_iconst (pc := 18) (v := 2) dX12_stands_18 rfl ?_
      refine x_irem (pc := 19) dX12_stands_19 (by decide) ?_
      refine x_if_ne (pc := 20) (tgt := 36) dX12_stands_20 rfl (fun h_20 => ?_) (fun h_20 => ?_)
      · refine x_iconst (pc := 36) (v := 0) dX12_stands_36 rfl ?_
        refine x_ireturn (pc := 37) dX12_stands_37 rfl (by first | rfl | exact bi_nz) ?_
        exact ⟨by simp_all [stI], rfl⟩
      · refine x_iload_n (pc := 23) dX12_stands_23 rfl ?_
        refine x_iconst (pc := 24) (v := 1) dX12_stands_24 rfl ?_
        refine x_icmp_eq (pc := 25) (tgt := 32) dX12_stands_25 rfl (fun h_25 => ?_) (fun h_25 => ?_)
        · refine x_iconst (pc := 32) (v := 1) dX12_stands_32 rfl ?_
          refine x_goto (pc := 33) (tgt := 37) dX12_stands_33 rfl ?_
          refine x_ireturn (pc := 37) dX12_stands_37 rfl (by first | rfl | exact bi_nz) ?_
          exact ⟨by simp_all [stI], rfl⟩
        · refine x_iload_n (pc := 28) dX12_stands_28 rfl ?_
          refine x_if_eq (pc := 29) (tgt := 36) dX12_stands_29 rfl (fun h_29 => ?_) (fun h_29 => ?_)
          · refine x_iconst (pc := 36) (v := 0) dX12_stands_36 rfl ?_
            refine x_ireturn (pc := 37) dX12_stands_37 rfl (by first | rfl | exact bi_nz) ?_
            exact ⟨by simp_all [stI], rfl⟩
          · refine x_iconst (pc := 32) (v := 1) dX12_stands_32 rfl ?_
            refine x_goto (pc := 33) (tgt := 37) dX12_stands_33 rfl ?_
            refine x_ireturn (pc := 37) dX12_stands_37 rfl (by first | rfl | exact bi_nz) ?_
            exact ⟨by simp_all [stI], rfl⟩
def msI (k n : Int32) : Int32 := if k = 0 ∨ k = 1 then 1 else if k = 5 then 0 else if k = 4 then 2 + n / 4 else 2
theorem c_missedOf (hM : MOK μ a) {i : Nat} {t : Int32} (ht : t = nI i) (hi : i < 5) : XM Γ zX12_missedOf 1 0 0 [.ref a.1, .int t] (MV μ a σ) (rt (.int (msI (σ.2.2 10 i) (σ.2.2 11 i))) (MV μ a σ)) := by
  refine XM.of 1 rfl (by decide) (Nat.le_of_ble_eq_true rfl) ?_
  refine x_aload_n (pc := 0) dX12_missedOf_0 rfl ?_
  refine m_getR (pc := 1) hM dX12_missedOf_1 fk_12_32 (Or.inr ⟨_, rfl⟩) (Or.inl (by decide)) ?_
  refine x_iload_n (pc := 4) dX12_missedOf_4 rfl ?_
  refine m_iald (pc := 5) hM dX12_missedOf_5 (ht) (hi) ?_
  generalize σ.2.2 10 i = k
  refine x_istore_n (pc := 6) (lv2 := [_, _, _]) dX12_missedOf_6 (by decide) rfl rfl ?_
  refine x_iload_n (pc := 7) dX12_missedOf_7 rfl ?_
  refine x_if_eq (pc := 8) (tgt := 16) dX12_missedOf_8 rfl (fun h_8 => ?_) (fun h_8 => ?_)
  · refine x_iconst (pc := 16) (v := 1) dX12_missedOf_16 rfl ?_
    refine x_goto (pc := 17) (tgt := 48) dX12_missedOf_17 rfl ?_
    refine x_ireturn (pc := 48) dX12_missedOf_48 rfl rfl ?_
    exact ⟨by simp_all [msI], rfl⟩
  · refine x_iload_n (pc := 11) dX12_missedOf_11 rfl ?_
    refine x_iconst (pc := 12) (v := 1) dX12_missedOf_12 rfl ?_
    refine x_icmp_ne (pc := 13) (tgt := 20) dX12_missedOf_13 rfl (fun h_13 => ?_) (fun h_13 => ?_)
    · refine x_iload_n (pc := 20) dX12_missedOf_20 rfl ?_
      refine x_iconst (pc := 21) (v := 5) dX12_missedOf_21 rfl ?_
      refine x_icmp_ne (pc := 22) (tgt := 29) dX12_missedOf_22 rfl (fun h_22 => ?_) (fun h_22 => ?_)
      · refine x_iload_n (pc := 29) dX12_missedOf_29 rfl ?_
        refine x_iconst (pc := 30) (v := 4) dX12_missedOf_30 rfl ?_
        refine x_icmp_ne (pc := 31) (tgt := 47) dX12_missedOf_31 rfl (fun h_31 => ?_) (fun h_31 => ?_)
        · refine x_iconst (pc := 47) (v := 2) dX12_missedOf_47 rfl ?_
          refine x_ireturn (pc := 48) dX12_missedOf_48 rfl rfl ?_
          exact ⟨by simp_all [msI], rfl⟩
        · refine x_iconst (pc := 34) (v := 2) dX12_missedOf_34 rfl ?_
          refine x_aload_n (pc := 35) dX12_missedOf_35 rfl ?_
          refine m_getR (pc := 36) hM dX12_missedOf_36 fk_12_35 (Or.inr ⟨_, rfl⟩) (Or.inl (by decide)) ?_
          refine x_iload_n (pc := 39) dX12_missedOf_39 rfl ?_
          refine m_iald (pc := 40) hM dX12_missedOf_40 (ht) (hi) ?_
          refine x_iconst (pc := 41) (v := 4) dX12_missedOf_41 rfl ?_
          refine x_idiv (pc := 42) dX12_missedOf_42 (by decide) ?_
          refine x_iadd (pc := 43) dX12_missedOf_43 ?_
          refine x_goto (pc := 44) (tgt := 48) dX12_missedOf_44 rfl ?_
          refine x_ireturn (pc := 48) dX12_missedOf_48 rfl rfl ?_
          exact ⟨by simp_all [msI], rfl⟩
      · refine x_iconst (pc := 25) (v := 0) dX12_missedOf_25 rfl ?_
        refine x_goto (pc := 26) (tgt := 48) dX12_missedOf_26 rfl ?_
        refine x_ireturn (pc := 48) dX12_missedOf_48 rfl rfl ?_
        exact ⟨by simp_all [msI], rfl⟩
    · refine x_iconst (pc := 16) (v := 1) dX12_missedOf_16 rfl ?_
      refine x_goto (pc := 17) (tgt := 48) dX12_missedOf_17 rfl ?_
      refine x_ireturn (pc := 48) dX12_missedOf_48 rfl rfl ?_
      exact ⟨by simp_all [msI], rfl⟩
def ofI (k n g x : Int32) : Int32 := if k = 4 then 2 * (if x = n - n / 4 * 4 then 1 else 0) else if k = 2 then (if x = n - n / 4 * 4 then 1 else 0) else if k = 5 then 1 else if k = 3 then (if x < g then 1 else 0) else 0
theorem c_offendsOf (hM : MOK μ a) {i : Nat} {t : Int32} (x : Int32) (ht : t = nI i) (hi : i < 5) : XM Γ zX12_offendsOf 1 0 0 [.ref a.1, .int t, .int x] (MV μ a σ) (rt (.int (ofI (σ.2.2 10 i) (σ.2.2 11 i) (σ.2.2 12 i) x)) (MV μ a σ)) := by
  refine XM.of 2 rfl (by decide) (Nat.le_of_ble_eq_true rfl) ?_
  refine x_aload_n (pc := 0) dX12_offendsOf_0 rfl ?_
  refine m_getR (pc := 1) hM dX12_offendsOf_1 fk_12_32 (Or.inr ⟨_, rfl⟩) (Or.inl (by decide)) ?_
  refine x_iload_n (pc := 4) dX12_offendsOf_4 rfl ?_
  refine m_iald (pc := 5) hM dX12_offendsOf_5 (ht) (hi) ?_
  generalize σ.2.2 10 i = k
  refine x_istore_n (pc := 6) (lv2 := [_, _, _, _, _]) dX12_offendsOf_6 (by decide) rfl rfl ?_
  refine x_iload_n (pc := 7) dX12_offendsOf_7 rfl ?_
  refine x_aload_n (pc := 8) dX12_offendsOf_8 rfl ?_
  refine m_getR (pc := 9) hM dX12_offendsOf_9 fk_12_35 (Or.inr ⟨_, rfl⟩) (Or.inl (by decide)) ?_
  refine x_iload_n (pc := 12) dX12_offendsOf_12 rfl ?_
  refine m_iald (pc := 13) hM dX12_offendsOf_13 (ht) (hi) ?_
  refine x_iconst (pc := 14) (v := 4) dX12_offendsOf_14 rfl ?_
  refine x_irem (pc := 15) dX12_offendsOf_15 (by decide) ?_
  refine x_icmp_ne (pc := 16) (tgt := 23) dX12_offendsOf_16 rfl (fun h_16 => ?_) (fun h_16 => ?_)
  · refine x_iconst (pc := 23) (v := 0) dX12_offendsOf_23 rfl ?_
    refine x_istore (pc := 24) (lv2 := [_, _, _, _, _]) dX12_offendsOf_24 (by decide) rfl rfl ?_
    refine x_iload_n (pc := 26) dX12_offendsOf_26 rfl ?_
    refine x_iconst (pc := 27) (v := 2) dX12_offendsOf_27 rfl ?_
    refine x_icmp_eq (pc := 28) (tgt := 36) dX12_offendsOf_28 rfl (fun h_28 => ?_) (fun h_28 => ?_)
    · refine x_iload_n (pc := 36) dX12_offendsOf_36 rfl ?_
      refine x_iconst (pc := 37) (v := 4) dX12_offendsOf_37 rfl ?_
      refine x_icmp_ne (pc := 38) (tgt := 48) dX12_offendsOf_38 rfl (fun h_38 => ?_) (fun h_38 => ?_)
      · refine x_iload (pc := 48) dX12_offendsOf_48 rfl ?_
        refine x_ireturn (pc := 50) dX12_offendsOf_50 rfl rfl ?_
        exact ⟨by simp_all [ofI], rfl⟩
      · refine x_iconst (pc := 41) (v := 2) dX12_offendsOf_41 rfl ?_
        refine x_iload (pc := 42) dX12_offendsOf_42 rfl ?_
        refine x_imul (pc := 44) dX12_offendsOf_44 ?_
        refine x_goto (pc := 45) (tgt := 50) dX12_offendsOf_45 rfl ?_
        refine x_ireturn (pc := 50) dX12_offendsOf_50 rfl rfl ?_
        exact ⟨by simp_all [ofI], rfl⟩
    · refine x_iload_n (pc := 31) dX12_offendsOf_31 rfl ?_
      refine x_iconst (pc := 32) (v := 4) dX12_offendsOf_32 rfl ?_
      refine x_icmp_ne (pc := 33) (tgt := 51) dX12_offendsOf_33 rfl (fun h_33 => ?_) (fun h_33 => ?_)
      · refine x_iload_n (pc := 51) dX12_offendsOf_51 rfl ?_
        refine x_iconst (pc := 52) (v := 5) dX12_offendsOf_52 rfl ?_
        refine x_icmp_eq (pc := 53) (tgt := 71) dX12_offendsOf_53 rfl (fun h_53 => ?_) (fun h_53 => ?_)
        · refine x_iconst (pc := 71) (v := 1) dX12_offendsOf_71 rfl ?_
          refine x_goto (pc := 72) (tgt := 76) dX12_offendsOf_72 rfl ?_
          refine x_ireturn (pc := 76) dX12_offendsOf_76 rfl rfl ?_
          exact ⟨by simp_all [ofI], rfl⟩
        · refine x_iload_n (pc := 56) dX12_offendsOf_56 rfl ?_
          refine x_iconst (pc := 57) (v := 3) dX12_offendsOf_57 rfl ?_
          refine x_icmp_ne (pc := 58) (tgt := 75) dX12_offendsOf_58 rfl (fun h_58 => ?_) (fun h_58 => ?_)
          · refine x_iconst (pc := 75) (v := 0) dX12_offendsOf_75 rfl ?_
            refine x_ireturn (pc := 76) dX12_offendsOf_76 rfl rfl ?_
            exact ⟨by simp_all [ofI], rfl⟩
          · refine x_iload_n (pc := 61) dX12_offendsOf_61 rfl ?_
            refine x_aload_n (pc := 62) dX12_offendsOf_62 rfl ?_
            refine m_getR (pc := 63) hM dX12_offendsOf_63 fk_12_38 (Or.inr ⟨_, rfl⟩) (Or.inl (by decide)) ?_
            refine x_iload_n (pc := 66) dX12_offendsOf_66 rfl ?_
            refine m_iald (pc := 67) hM dX12_offendsOf_67 (ht) (hi) ?_
            refine x_icmp_ge (pc := 68) (tgt := 75) dX12_offendsOf_68 rfl (fun h_68 => ?_) (fun h_68 => ?_)
            · refine x_iconst (pc := 75) (v := 0) dX12_offendsOf_75 rfl ?_
              refine x_ireturn (pc := 76) dX12_offendsOf_76 rfl rfl ?_
              exact ⟨by simp_all [ofI], rfl⟩
            · refine x_iconst (pc := 71) (v := 1) dX12_offendsOf_71 rfl ?_
              refine x_goto (pc := 72) (tgt := 76) dX12_offendsOf_72 rfl ?_
              refine x_ireturn (pc := 76) dX12_offendsOf_76 rfl rfl ?_
              exact ⟨by simp_all [ofI], rfl⟩
      · refine x_iload_n (pc := 36) dX12_offendsOf_36 rfl ?_
        refine x_iconst (pc := 37) (v := 4) dX12_offendsOf_37 rfl ?_
        refine x_icmp_ne (pc := 38) (tgt := 48) dX12_offendsOf_38 rfl (fun h_38 => ?_) (fun h_38 => ?_)
        · refine x_iload (pc := 48) dX12_offendsOf_48 rfl ?_
          refine x_ireturn (pc := 50) dX12_offendsOf_50 rfl rfl ?_
          exact ⟨by simp_all [ofI], rfl⟩
        · refine x_iconst (pc := 41) (v := 2) dX12_offendsOf_41 rfl ?_
          refine x_iload (pc := 42) dX12_offendsOf_42 rfl ?_
          refine x_imul (pc := 44) dX12_offendsOf_44 ?_
          refine x_goto (pc := 45) (tgt := 50) dX12_offendsOf_45 rfl ?_
          refine x_ireturn (pc := 50) dX12_offendsOf_50 rfl rfl ?_
          exact ⟨by simp_all [ofI], rfl⟩
  · refine x_iconst (pc := 19) (v := 1) dX12_offendsOf_19 rfl ?_
    refine x_goto (pc := 20) (tgt := 24) dX12_offendsOf_20 rfl ?_
    refine x_istore (pc := 24) (lv2 := [_, _, _, _, _]) dX12_offendsOf_24 (by decide) rfl rfl ?_
    refine x_iload_n (pc := 26) dX12_offendsOf_26 rfl ?_
    refine x_iconst (pc := 27) (v := 2) dX12_offendsOf_27 rfl ?_
    refine x_icmp_eq (pc := 28) (tgt := 36) dX12_offendsOf_28 rfl (fun h_28 => ?_) (fun h_28 => ?_)
    · refine x_iload_n (pc := 36) dX12_offendsOf_36 rfl ?_
      refine x_iconst (pc := 37) (v := 4) dX12_offendsOf_37 rfl ?_
      refine x_icmp_ne (pc := 38) (tgt := 48) dX12_offendsOf_38 rfl (fun h_38 => ?_) (fun h_38 => ?_)
      · refine x_iload (pc := 48) dX12_offendsOf_48 rfl ?_
        refine x_ireturn (pc := 50) dX12_offendsOf_50 rfl rfl ?_
        exact ⟨by simp_all [ofI], rfl⟩
      · refine x_iconst (pc := 41) (v := 2) dX12_offendsOf_41 rfl ?_
        refine x_iload (pc := 42) dX12_offendsOf_42 rfl ?_
        refine x_imul (pc := 44) dX12_offendsOf_44 ?_
        refine x_goto (pc := 45) (tgt := 50) dX12_offendsOf_45 rfl ?_
        refine x_ireturn (pc := 50) dX12_offendsOf_50 rfl rfl ?_
        exact ⟨by simp_all [ofI], rfl⟩
    · refine x_iload_n (pc := 31) dX12_offendsOf_31 rfl ?_
      refine x_iconst (pc := 32) (v := 4) dX12_offendsOf_32 rfl ?_
      refine x_icmp_ne (pc := 33) (tgt := 51) dX12_offendsOf_33 rfl (fun h_33 => ?_) (fun h_33 => ?_)
      · refine x_iload_n (pc := 51) dX12_offendsOf_51 rfl ?_
        refine x_iconst (pc := 52) (v := 5) dX12_offendsOf_52 rfl ?_
        refine x_icmp_eq (pc := 53) (tgt := 71) dX12_offendsOf_53 rfl (fun h_53 => ?_) (fun h_53 => ?_)
        · refine x_iconst (pc := 71) (v := 1) dX12_offendsOf_71 rfl ?_
          refine x_goto (pc := 72) (tgt := 76) dX12_offendsOf_72 rfl ?_
          refine x_ireturn (pc := 76) dX12_offendsOf_76 rfl rfl ?_
          exact ⟨by simp_all [ofI], rfl⟩
        · refine x_iload_n (pc := 56) dX12_offendsOf_56 rfl ?_
          refine x_iconst (pc := 57) (v := 3) dX12_offendsOf_57 rfl ?_
          refine x_icmp_ne (pc := 58) (tgt := 75) dX12_offendsOf_58 rfl (fun h_58 => ?_) (fun h_58 => ?_)
          · refine x_iconst (pc := 75) (v := 0) dX12_offendsOf_75 rfl ?_
            refine x_ireturn (pc := 76) dX12_offendsOf_76 rfl rfl ?_
            exact ⟨by simp_all [ofI], rfl⟩
          · refine x_iload_n (pc := 61) dX12_offendsOf_61 rfl ?_
            refine x_aload_n (pc := 62) dX12_offendsOf_62 rfl ?_
            refine m_getR (pc := 63) hM dX12_offendsOf_63 fk_12_38 (Or.inr ⟨_, rfl⟩) (Or.inl (by decide)) ?_
            refine x_iload_n (pc := 66) dX12_offendsOf_66 rfl ?_
            refine m_iald (pc := 67) hM dX12_offendsOf_67 (ht) (hi) ?_
            refine x_icmp_ge (pc := 68) (tgt := 75) dX12_offendsOf_68 rfl (fun h_68 => ?_) (fun h_68 => ?_)
            · refine x_iconst (pc := 75) (v := 0) dX12_offendsOf_75 rfl ?_
              refine x_ireturn (pc := 76) dX12_offendsOf_76 rfl rfl ?_
              exact ⟨by simp_all [ofI], rfl⟩
            · refine x_iconst (pc := 71) (v := 1) dX12_offendsOf_71 rfl ?_
              refine x_goto (pc := 72) (tgt := 76) dX12_offendsOf_72 rfl ?_
              refine x_ireturn (pc := 76) dX12_offendsOf_76 rfl rfl ?_
              exact ⟨by simp_all [ofI], rfl⟩
      · refine x_iload_n (pc := 36) dX12_offendsOf_36 rfl ?_
        refine x_iconst (pc := 37) (v := 4) dX12_offendsOf_37 rfl ?_
        refine x_icmp_ne (pc := 38) (tgt := 48) dX12_offendsOf_38 rfl (fun h_38 => ?_) (fun h_38 => ?_)
        · refine x_iload (pc := 48) dX12_offendsOf_48 rfl ?_
          refine x_ireturn (pc := 50) dX12_offendsOf_50 rfl rfl ?_
          exact ⟨by simp_all [ofI], rfl⟩
        · refine x_iconst (pc := 41) (v := 2) dX12_offendsOf_41 rfl ?_
          refine x_iload (pc := 42) dX12_offendsOf_42 rfl ?_
          refine x_imul (pc := 44) dX12_offendsOf_44 ?_
          refine x_goto (pc := 45) (tgt := 50) dX12_offendsOf_45 rfl ?_
          refine x_ireturn (pc := 50) dX12_offendsOf_50 rfl rfl ?_
          exact ⟨by simp_all [ofI], rfl⟩
def seI (σ : MS) (g p : Nat) : Int32 := if (σ.2.2 7 p >>> (σ.2.2 8 g &&& 31)) &&& 1 = 1 then 1 else 0
theorem c_doesSeeN (hM : MOK μ a) (g : Int32) : XM Γ zX12_doesSee 1 0 0 [.ref a.1, .int g, .int (-1)] (MV μ a σ) (rt (.int 0) (MV μ a σ)) := by
  refine XM.of 0 rfl (by decide) (Nat.le_of_ble_eq_true rfl) ?_
  refine x_iload_n (pc := 0) dX12_doesSee_0 rfl ?_
  refine x_iconst (pc := 1) (v := -1) dX12_doesSee_1 rfl ?_
  refine x_icmp_eq (pc := 2) (tgt := 28) dX12_doesSee_2 rfl (fun h_2 => ?_) (fun h_2 => absurd (by decide) h_2)
  refine x_iconst (pc := 28) (v := 0) dX12_doesSee_28 rfl ?_
  refine x_ireturn (pc := 29) dX12_doesSee_29 rfl (by first | rfl | exact bi_nz) ?_
  exact ⟨rfl, rfl⟩
theorem c_doesSee (hM : MOK μ a) {i j : Nat} {g p : Int32} (hg : g = nI j) (hj : j < 4) (hp : p = nI i) (hi : i < 6) : XM Γ zX12_doesSee 1 0 0 [.ref a.1, .int g, .int p] (MV μ a σ) (rt (.int (seI σ j i)) (MV μ a σ)) := by
  refine XM.of 0 rfl (by decide) (Nat.le_of_ble_eq_true rfl) ?_
  refine x_iload_n (pc := 0) dX12_doesSee_0 rfl ?_
  refine x_iconst (pc := 1) (v := -1) dX12_doesSee_1 rfl ?_
  refine x_icmp_eq (pc := 2) (tgt := 28) dX12_doesSee_2 rfl (fun h_2 => absurd h_2 (by rw [hp]; exact fun h => absurd h (nI_m1 (by omega)))) (fun h_2 => ?_)
  refine x_aload_n (pc := 5) dX12_doesSee_5 rfl ?_
  refine m_getR (pc := 6) hM dX12_doesSee_6 fk_12_23 (Or.inr ⟨_, rfl⟩) (Or.inl (by decide)) ?_
  refine x_iload_n (pc := 9) dX12_doesSee_9 rfl ?_
  refine m_iald (pc := 10) hM dX12_doesSee_10 (hp) (hi) ?_
  refine x_aload_n (pc := 11) dX12_doesSee_11 rfl ?_
  refine m_getR (pc := 12) hM dX12_doesSee_12 fk_12_26 (Or.inr ⟨_, rfl⟩) (Or.inl (by decide)) ?_
  refine x_iload_n (pc := 15) dX12_doesSee_15 rfl ?_
  refine m_iald (pc := 16) hM dX12_doesSee_16 (hg) (hj) ?_
  refine x_ishr (pc := 17) dX12_doesSee_17 ?_
  refine x_iconst (pc := 18) (v := 1) dX12_doesSee_18 rfl ?_
  refine x_iand (pc := 19) dX12_doesSee_19 ?_
  refine x_iconst (pc := 20) (v := 1) dX12_doesSee_20 rfl ?_
  refine x_icmp_ne (pc := 21) (tgt := 28) dX12_doesSee_21 rfl (fun h_21 => ?_) (fun h_21 => ?_)
  · refine x_iconst (pc := 28) (v := 0) dX12_doesSee_28 rfl ?_
    refine x_ireturn (pc := 29) dX12_doesSee_29 rfl (by first | rfl | exact bi_nz) ?_
    exact ⟨by simp_all [seI], rfl⟩
  · refine x_iconst (pc := 24) (v := 1) dX12_doesSee_24 rfl ?_
    refine x_goto (pc := 25) (tgt := 29) dX12_doesSee_25 rfl ?_
    refine x_ireturn (pc := 29) dX12_doesSee_29 rfl (by first | rfl | exact bi_nz) ?_
    exact ⟨by simp_all [seI], rfl⟩
end M30
