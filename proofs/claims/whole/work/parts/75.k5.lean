/-! the class: a text that was read, told -/
def hdL (S : List Int32) : Int32 := S.getD 0 0
/-- what a name says, what joins two -/
def nmI (e : Nat → Int32) (c : Int32) : Int32 := if c = -1 then e 0 else if c = -2 then e 1 else if c = -3 then e 2 else if c = -4 then e 3 else if c = -5 then e 4 else e 5
def jnI (c x y : Int32) : Int32 := if c = -7 then (if x = 0 then (if y = 0 then 0 else 1) else 1) else if c = -8 then (if x = 0 then 0 else if y = 0 then 0 else 1) else if c = -10 then (if x < y then 1 else 0) else if c = -11 then (if x = y then 1 else 0) else if c = -12 then x + y else if c = -13 then x - y else x * y
def tSt (e : Nat → Int32) (c : Int32) (S : List Int32) : List Int32 := if 0 ≤ c then c :: S else if -6 ≤ c then nmI e c :: S else if c = -15 then (-hdL S) :: S.tail else if c = -9 then (if hdL S = 0 then 1 else 0) :: S.tail else jnI c (hdL S.tail) (hdL S) :: S.tail.tail
/-- from instruction i on, f more at most -/
def tRn (e : Nat → Int32) (c : Nat → Int32) : Nat → Nat → List Int32 → List Int32
  | 0, _, S => S
  | f + 1, i, S => if c i = -16 then S else tRn e c f (i + 1) (tSt e (c i) S)
def tEn (κ : KS) (t : Nat) (pl gs : Int32) : Nat → Int32 := fun j => if j = 0 then κ.1 t 1 else if j = 1 then pl else if j = 2 then κ.1 t 3 else if j = 3 then gs else if j = 4 then κ.1 t 4 else κ.1 t 2
def tVal (κ : KS) (o n t : Nat) (part : Nat) (pl gs : Int32) : Int32 := wit (hdL (tRn (tEn κ t pl gs) (κ.2 o 0) (n - nn (κ.2 o 1 part)) (nn (κ.2 o 1 part)) [])) 0 99
/-- the stack of object o is S -/
def SR (κ : KS) (o : Nat) (S : List Int32) : Prop := κ.1 o 3 = nI S.length ∧ ∀ j, j < S.length → κ.2 o 2 (S.length - 1 - j) = S.getD j 0
def tP (o : Nat) : Nat → Nat → Prop := fun a k => a = o ∧ (k = 2 ∨ k = 3)
theorem ti_of {c : Int32} {k : Int} (h : c.toInt = k) : c = Int32.ofInt k := by
  subst h
  exact (Int32.ofInt_toInt c).symm
section M75
variable {Γ : Gm} {μ : Mem} {b : Kb} {κ : KS} {o : Nat}
theorem k_push {n : Nat} (hK : KO μ b o 8 (tLen n)) (hn : n ≠ 0) (hn2 : n < 2 ^ 31) {S : List Int32} (hS : SR κ o S) (hl : S.length < n) (v : Int32) : XM Γ zX8_push 1 0 0 [.ref (adO b o), .int v] (KV μ b κ) (fun r μ2 => ∃ κ2, r = none ∧ μ2 = KV μ b κ2 ∧ kq (tP o) κ κ2 ∧ SR κ2 o (v :: S)) := by
  refine XM.of 0 rfl (by decide) (Nat.le_of_ble_eq_true rfl) ?_
  refine x_aload_n (pc := 0) dX8_push_0 rfl ?_
  refine k_getI (pc := 1) hK dX8_push_1 fk_8_9 (Or.inl rfl) ?_
  refine x_aload_n (pc := 4) dX8_push_4 rfl ?_
  refine k_getA (pc := 5) hK dX8_push_5 fk_8_28 (Or.inr ⟨_, rfl⟩) (by exact hn) ?_
  refine k_alen (pc := 8) hK dX8_push_8 (by exact hn) rfl ?_
  refine x_icmp_ge (pc := 9) (tgt := 32) dX8_push_9 rfl (fun h_9 => absurd h_9 (by rw [hS.1]; exact nI_ge hl (by show tLen n 2 < _; exact hn2))) (fun h_9 => ?_)
  refine x_aload_n (pc := 12) dX8_push_12 rfl ?_
  refine k_getA (pc := 13) hK dX8_push_13 fk_8_28 (Or.inr ⟨_, rfl⟩) (by exact hn) ?_
  refine x_aload_n (pc := 16) dX8_push_16 rfl ?_
  refine k_getI (pc := 17) hK dX8_push_17 fk_8_9 (Or.inl rfl) ?_
  refine x_iload_n (pc := 20) dX8_push_20 rfl ?_
  refine k_iast (pc := 21) hK dX8_push_21 (hS.1) (hl) (hn2) ?_
  refine x_aload_n (pc := 22) dX8_push_22 rfl ?_
  refine x_dup (pc := 23) dX8_push_23 rfl ?_
  refine k_getI (pc := 24) hK dX8_push_24 fk_8_9 (Or.inl rfl) ?_
  refine x_iconst (pc := 27) (v := 1) dX8_push_27 rfl ?_
  refine x_iadd (pc := 28) dX8_push_28 ?_
  refine k_putI (pc := 29) hK dX8_push_29 fk_8_9 (Or.inl rfl) (Or.inl rfl) ?_
  refine x_return (pc := 32) dX8_push_32 rfl ?_
  refine ⟨_, rfl, rfl, (kq.rf.A ⟨rfl, Or.inl rfl⟩).I ⟨rfl, Or.inr rfl⟩, ?_, fun j hj => ?_⟩
  · show up2 κ.1 o 3 (κ.1 o 3 + 1) o 3 = _
    rw [up2_s, hS.1, nI_1]
    rfl
  · show up3 κ.2 o 2 S.length v o 2 ((v :: S).length - 1 - j) = _
    have e : (v :: S).length = S.length + 1 := rfl
    rw [e] at hj ⊢
    cases j with
    | zero =>
      rw [show S.length + 1 - 1 - 0 = S.length by omega, up3_s]
      rfl
    | succ j =>
      rw [up3_i (by omega), show S.length + 1 - 1 - (j + 1) = S.length - 1 - j by omega, hS.2 j (by omega)]
      rfl
theorem k_pop {n : Nat} (hK : KO μ b o 8 (tLen n)) (hn : n ≠ 0) (hn2 : n < 2 ^ 31) {S : List Int32} (hS : SR κ o S) (hl : S.length ≤ n) : XM Γ zX8_pop 1 0 0 [.ref (adO b o)] (KV μ b κ) (fun r μ2 => ∃ κ2, r = some (.int (hdL S)) ∧ μ2 = KV μ b κ2 ∧ kq (tP o) κ κ2 ∧ SR κ2 o S.tail) := by
  refine XM.of 0 rfl (by decide) (Nat.le_of_ble_eq_true rfl) ?_
  have K0 : S = [] → SR κ o S.tail := fun h => by subst h; exact hS
  have e1 : ∀ v T, S = v :: T → κ.1 o 3 - 1 = nI T.length := fun v T h => by rw [hS.1, h]; exact nI_pred _
  refine x_aload_n (pc := 0) dX8_pop_0 rfl ?_
  refine k_getI (pc := 1) hK dX8_pop_1 fk_8_9 (Or.inl rfl) ?_
  refine x_if_ne (pc := 4) (tgt := 9) dX8_pop_4 rfl (fun h_4 => ?_) (fun h_4 => ?_)
  · obtain ⟨v, T, rfl⟩ : ∃ v T, S = v :: T := by
      rcases S with _ | ⟨v, T⟩
      · exact absurd hS.1 (by exact h_4)
      · exact ⟨v, T, rfl⟩
    have hT : T.length < n := hl
    refine x_aload_n (pc := 9) dX8_pop_9 rfl ?_
    refine x_dup (pc := 10) dX8_pop_10 rfl ?_
    refine k_getI (pc := 11) hK dX8_pop_11 fk_8_9 (Or.inl rfl) ?_
    refine x_iconst (pc := 14) (v := 1) dX8_pop_14 rfl ?_
    refine x_isub (pc := 15) dX8_pop_15 ?_
    rw [e1 v T rfl]
    refine k_putI (pc := 16) hK dX8_pop_16 fk_8_9 (Or.inl rfl) (Or.inl rfl) ?_
    refine x_aload_n (pc := 19) dX8_pop_19 rfl ?_
    refine k_getA (pc := 20) hK dX8_pop_20 fk_8_28 (Or.inr ⟨_, rfl⟩) (by exact hn) ?_
    refine x_aload_n (pc := 23) dX8_pop_23 rfl ?_
    refine k_getI (pc := 24) hK dX8_pop_24 fk_8_9 (Or.inl rfl) ?_
    rw [show (kI κ o 3 (nI T.length)).1 o 3 = nI T.length from up2_s]
    refine k_iald (pc := 27) hK dX8_pop_27 (rfl) (hT) (hn2) ?_
    refine x_ireturn (pc := 28) dX8_pop_28 rfl rfl ?_
    refine ⟨_, ?_, rfl, kq.rf.I ⟨rfl, Or.inr rfl⟩, up2_s, fun j hj => ?_⟩
    · have := hS.2 0 (Nat.succ_pos _)
      rw [show (v :: T).length - 1 - 0 = T.length by show T.length + 1 - 1 - 0 = _; omega] at this
      show some (Value.int (κ.2 o 2 T.length)) = _
      rw [this]
      rfl
    · have hj2 : j < T.length := hj
      have := hS.2 (j + 1) (show j + 1 < T.length + 1 by omega)
      rw [show (v :: T).length - 1 - (j + 1) = T.length - 1 - j by show T.length + 1 - 1 - (j + 1) = _; omega] at this
      exact this
  · refine x_iconst (pc := 7) (v := 0) dX8_pop_7 rfl ?_
    refine x_ireturn (pc := 8) dX8_pop_8 rfl rfl ?_
    have h0 : S = [] := by
      rcases S with _ | ⟨v, T⟩
      · rfl
      · rw [hS.1] at h_4
        exact absurd (by first | exact h_4 | exact Decidable.not_not.mp h_4) (nI_ne0 (show 0 < (v :: T).length from Nat.succ_pos _) (by omega))
    exact ⟨κ, by rw [h0]; rfl, rfl, kq.rf, K0 h0⟩
theorem k_named {t ci : Nat} (hth : isTh ci) (hK : KO μ b t ci thL) (c pl gs : Int32) : XM Γ zX8_named 1 0 0 [.int c, .ref (adO b t), .int pl, .int gs] (KV μ b κ) (rt (.int (nmI (tEn κ t pl gs) c)) (KV μ b κ)) := by
  refine XM.of 0 rfl (by decide) (Nat.le_of_ble_eq_true rfl) ?_
  by_cases h1 : c = -1
  · subst h1
    refine x_iload_n (pc := 0) dX8_named_0 rfl ?_
    refine x_tableIn (pc := 1) (off := 35) (tgt := 36) dX8_named_1 (by decide) (by decide) (by decide) (by decide) ?_
    refine x_aload_n (pc := 36) dX8_named_36 rfl ?_
    refine k_getI (pc := 37) hK dX8_named_37 (fk_8_56 hth) (Or.inl (th_i hth (by decide))) ?_
    refine x_ireturn (pc := 40) dX8_named_40 rfl rfl ?_
    exact ⟨rfl, rfl⟩
  by_cases h2 : c = -2
  · subst h2
    refine x_iload_n (pc := 0) dX8_named_0 rfl ?_
    refine x_tableIn (pc := 1) (off := 40) (tgt := 41) dX8_named_1 (by decide) (by decide) (by decide) (by decide) ?_
    refine x_iload_n (pc := 41) dX8_named_41 rfl ?_
    refine x_ireturn (pc := 42) dX8_named_42 rfl rfl ?_
    exact ⟨rfl, rfl⟩
  by_cases h3 : c = -3
  · subst h3
    refine x_iload_n (pc := 0) dX8_named_0 rfl ?_
    refine x_tableIn (pc := 1) (off := 42) (tgt := 43) dX8_named_1 (by decide) (by decide) (by decide) (by decide) ?_
    refine x_aload_n (pc := 43) dX8_named_43 rfl ?_
    refine k_getI (pc := 44) hK dX8_named_44 (fk_8_61 hth) (Or.inl (th_i hth (by decide))) ?_
    refine x_ireturn (pc := 47) dX8_named_47 rfl rfl ?_
    exact ⟨rfl, rfl⟩
  by_cases h4 : c = -4
  · subst h4
    refine x_iload_n (pc := 0) dX8_named_0 rfl ?_
    refine x_tableIn (pc := 1) (off := 47) (tgt := 48) dX8_named_1 (by decide) (by decide) (by decide) (by decide) ?_
    refine x_iload_n (pc := 48) dX8_named_48 rfl ?_
    refine x_ireturn (pc := 49) dX8_named_49 rfl rfl ?_
    exact ⟨rfl, rfl⟩
  by_cases h5 : c = -5
  · subst h5
    refine x_iload_n (pc := 0) dX8_named_0 rfl ?_
    refine x_tableIn (pc := 1) (off := 49) (tgt := 50) dX8_named_1 (by decide) (by decide) (by decide) (by decide) ?_
    refine x_aload_n (pc := 50) dX8_named_50 rfl ?_
    refine k_getI (pc := 51) hK dX8_named_51 (fk_8_64 hth) (Or.inl (th_i hth (by decide))) ?_
    refine x_ireturn (pc := 54) dX8_named_54 rfl rfl ?_
    exact ⟨rfl, rfl⟩
  refine x_iload_n (pc := 0) dX8_named_0 rfl ?_
  refine x_tableOut (pc := 1) (tgt := 55) dX8_named_1 ?_ (by decide) ?_
  · rcases Int.lt_or_le c.toInt (-5) with q | q
    · exact Or.inl q
    · refine Or.inr ?_
      rcases Int.lt_or_le (-1) c.toInt with q2 | q2
      · exact q2
      · exfalso
        have : c.toInt = -1 ∨ c.toInt = -2 ∨ c.toInt = -3 ∨ c.toInt = -4 ∨ c.toInt = -5 := by omega
        rcases this with z | z | z | z | z
        · exact h1 (ti_of z)
        · exact h2 (ti_of z)
        · exact h3 (ti_of z)
        · exact h4 (ti_of z)
        · exact h5 (ti_of z)
  refine x_aload_n (pc := 55) dX8_named_55 rfl ?_
  refine k_getI (pc := 56) hK dX8_named_56 (fk_8_67 hth) (Or.inl (th_i hth (by decide))) ?_
  refine x_ireturn (pc := 59) dX8_named_59 rfl rfl ?_
  exact ⟨by unfold nmI; rw [if_neg h1, if_neg h2, if_neg h3, if_neg h4, if_neg h5]; rfl, rfl⟩
theorem k_joined (c x y : Int32) : XM Γ zX8_joined 1 0 0 [.int c, .int x, .int y] μ (rt (.int (jnI c x y)) μ) := by
  refine XM.of 0 rfl (by decide) (Nat.le_of_ble_eq_true rfl) ?_
  by_cases h13 : c = -13
  · subst h13
    refine x_iload_n (pc := 0) dX8_joined_0 rfl ?_
    refine x_tableIn (pc := 1) (off := 97) (tgt := 98) dX8_joined_1 (by decide) (by decide) (by decide) (by decide) ?_
    refine x_iload_n (pc := 98) dX8_joined_98 rfl ?_
    refine x_iload_n (pc := 99) dX8_joined_99 rfl ?_
    refine x_isub (pc := 100) dX8_joined_100 ?_
    refine x_ireturn (pc := 101) dX8_joined_101 rfl rfl ?_
    exact ⟨by
      first
        | rfl
        | simp_all [jnI], rfl⟩
  by_cases h12 : c = -12
  · subst h12
    refine x_iload_n (pc := 0) dX8_joined_0 rfl ?_
    refine x_tableIn (pc := 1) (off := 93) (tgt := 94) dX8_joined_1 (by decide) (by decide) (by decide) (by decide) ?_
    refine x_iload_n (pc := 94) dX8_joined_94 rfl ?_
    refine x_iload_n (pc := 95) dX8_joined_95 rfl ?_
    refine x_iadd (pc := 96) dX8_joined_96 ?_
    refine x_ireturn (pc := 97) dX8_joined_97 rfl rfl ?_
    exact ⟨by
      first
        | rfl
        | simp_all [jnI], rfl⟩
  by_cases h11 : c = -11
  · subst h11
    refine x_iload_n (pc := 0) dX8_joined_0 rfl ?_
    refine x_tableIn (pc := 1) (off := 82) (tgt := 83) dX8_joined_1 (by decide) (by decide) (by decide) (by decide) ?_
    refine x_iload_n (pc := 83) dX8_joined_83 rfl ?_
    refine x_iload_n (pc := 84) dX8_joined_84 rfl ?_
    refine x_icmp_ne (pc := 85) (tgt := 92) dX8_joined_85 rfl (fun h_85 => ?_) (fun h_85 => ?_)
    · refine x_iconst (pc := 92) (v := 0) dX8_joined_92 rfl ?_
      refine x_ireturn (pc := 93) dX8_joined_93 rfl rfl ?_
      exact ⟨by
        first
          | rfl
          | simp_all [jnI], rfl⟩
    · refine x_iconst (pc := 88) (v := 1) dX8_joined_88 rfl ?_
      refine x_goto (pc := 89) (tgt := 93) dX8_joined_89 rfl ?_
      refine x_ireturn (pc := 93) dX8_joined_93 rfl rfl ?_
      exact ⟨by
        first
          | rfl
          | simp_all [jnI], rfl⟩
  by_cases h10 : c = -10
  · subst h10
    refine x_iload_n (pc := 0) dX8_joined_0 rfl ?_
    refine x_tableIn (pc := 1) (off := 71) (tgt := 72) dX8_joined_1 (by decide) (by decide) (by decide) (by decide) ?_
    refine x_iload_n (pc := 72) dX8_joined_72 rfl ?_
    refine x_iload_n (pc := 73) dX8_joined_73 rfl ?_
    refine x_icmp_ge (pc := 74) (tgt := 81) dX8_joined_74 rfl (fun h_74 => ?_) (fun h_74 => ?_)
    · refine x_iconst (pc := 81) (v := 0) dX8_joined_81 rfl ?_
      refine x_ireturn (pc := 82) dX8_joined_82 rfl rfl ?_
      exact ⟨by
        first
          | rfl
          | simp_all [jnI], rfl⟩
    · refine x_iconst (pc := 77) (v := 1) dX8_joined_77 rfl ?_
      refine x_goto (pc := 78) (tgt := 82) dX8_joined_78 rfl ?_
      refine x_ireturn (pc := 82) dX8_joined_82 rfl rfl ?_
      exact ⟨by
        first
          | rfl
          | simp_all [jnI], rfl⟩
  by_cases h9 : c = -9
  · subst h9
    refine x_iload_n (pc := 0) dX8_joined_0 rfl ?_
    refine x_tableIn (pc := 1) (off := 101) (tgt := 102) dX8_joined_1 (by decide) (by decide) (by decide) (by decide) ?_
    refine x_iload_n (pc := 102) dX8_joined_102 rfl ?_
    refine x_iload_n (pc := 103) dX8_joined_103 rfl ?_
    refine x_imul (pc := 104) dX8_joined_104 ?_
    refine x_ireturn (pc := 105) dX8_joined_105 rfl rfl ?_
    exact ⟨by
      first
        | rfl
        | simp_all [jnI], rfl⟩
  by_cases h8 : c = -8
  · subst h8
    refine x_iload_n (pc := 0) dX8_joined_0 rfl ?_
    refine x_tableIn (pc := 1) (off := 57) (tgt := 58) dX8_joined_1 (by decide) (by decide) (by decide) (by decide) ?_
    refine x_iload_n (pc := 58) dX8_joined_58 rfl ?_
    refine x_if_eq (pc := 59) (tgt := 70) dX8_joined_59 rfl (fun h_59 => ?_) (fun h_59 => ?_)
    · refine x_iconst (pc := 70) (v := 0) dX8_joined_70 rfl ?_
      refine x_ireturn (pc := 71) dX8_joined_71 rfl rfl ?_
      exact ⟨by
        first
          | rfl
          | simp_all [jnI], rfl⟩
    · refine x_iload_n (pc := 62) dX8_joined_62 rfl ?_
      refine x_if_eq (pc := 63) (tgt := 70) dX8_joined_63 rfl (fun h_63 => ?_) (fun h_63 => ?_)
      · refine x_iconst (pc := 70) (v := 0) dX8_joined_70 rfl ?_
        refine x_ireturn (pc := 71) dX8_joined_71 rfl rfl ?_
        exact ⟨by
          first
            | rfl
            | simp_all [jnI], rfl⟩
      · refine x_iconst (pc := 66) (v := 1) dX8_joined_66 rfl ?_
        refine x_goto (pc := 67) (tgt := 71) dX8_joined_67 rfl ?_
        refine x_ireturn (pc := 71) dX8_joined_71 rfl rfl ?_
        exact ⟨by
          first
            | rfl
            | simp_all [jnI], rfl⟩
  by_cases h7 : c = -7
  · subst h7
    refine x_iload_n (pc := 0) dX8_joined_0 rfl ?_
    refine x_tableIn (pc := 1) (off := 43) (tgt := 44) dX8_joined_1 (by decide) (by decide) (by decide) (by decide) ?_
    refine x_iload_n (pc := 44) dX8_joined_44 rfl ?_
    refine x_if_ne (pc := 45) (tgt := 52) dX8_joined_45 rfl (fun h_45 => ?_) (fun h_45 => ?_)
    · refine x_iconst (pc := 52) (v := 1) dX8_joined_52 rfl ?_
      refine x_goto (pc := 53) (tgt := 57) dX8_joined_53 rfl ?_
      refine x_ireturn (pc := 57) dX8_joined_57 rfl rfl ?_
      exact ⟨by
        first
          | rfl
          | simp_all [jnI], rfl⟩
    · refine x_iload_n (pc := 48) dX8_joined_48 rfl ?_
      refine x_if_eq (pc := 49) (tgt := 56) dX8_joined_49 rfl (fun h_49 => ?_) (fun h_49 => ?_)
      · refine x_iconst (pc := 56) (v := 0) dX8_joined_56 rfl ?_
        refine x_ireturn (pc := 57) dX8_joined_57 rfl rfl ?_
        exact ⟨by
          first
            | rfl
            | simp_all [jnI], rfl⟩
      · refine x_iconst (pc := 52) (v := 1) dX8_joined_52 rfl ?_
        refine x_goto (pc := 53) (tgt := 57) dX8_joined_53 rfl ?_
        refine x_ireturn (pc := 57) dX8_joined_57 rfl rfl ?_
        exact ⟨by
          first
            | rfl
            | simp_all [jnI], rfl⟩
  refine x_iload_n (pc := 0) dX8_joined_0 rfl ?_
  refine x_tableOut (pc := 1) (tgt := 102) dX8_joined_1 ?_ (by decide) ?_
  · rcases Int.lt_or_le c.toInt (-13) with q | q
    · exact Or.inl q
    · refine Or.inr ?_
      rcases Int.lt_or_le (-7) c.toInt with q2 | q2
      · exact q2
      · exfalso
        have : c.toInt = -13 ∨ c.toInt = -12 ∨ c.toInt = -11 ∨ c.toInt = -10 ∨ c.toInt = -9 ∨ c.toInt = -8 ∨ c.toInt = -7 := by omega
        rcases this with z | z | z | z | z | z | z
        · exact h13 (ti_of z)
        · exact h12 (ti_of z)
        · exact h11 (ti_of z)
        · exact h10 (ti_of z)
        · exact h9 (ti_of z)
        · exact h8 (ti_of z)
        · exact h7 (ti_of z)
  refine x_iload_n (pc := 102) dX8_joined_102 rfl ?_
  refine x_iload_n (pc := 103) dX8_joined_103 rfl ?_
  refine x_imul (pc := 104) dX8_joined_104 ?_
  refine x_ireturn (pc := 105) dX8_joined_105 rfl rfl ?_
  exact ⟨by unfold jnI; rw [if_neg h7, if_neg h8, if_neg h10, if_neg h11, if_neg h12, if_neg h13], rfl⟩
theorem k_tells {n : Nat} (hK : KO μ b o 8 (tLen n)) (hn : n ≠ 0) (hn2 : n < 2 ^ 31) {t ci x sx : Nat} (hth : isTh ci) (hT : KO μ b t ci thL) (hto : t ≠ o) (hx : x < 3) (hs : κ.2 o 1 x = nI sx) (hsx31 : sx < 2 ^ 31) (pl gs : Int32) : XM Γ zX8_tells 2 0 0 [.ref (adO b o), .int (nI x), .ref (adO b t), .int pl, .int gs] (KV μ b κ) (fun r μ2 => ∃ κ2, r = some (.int (tVal κ o n t x pl gs)) ∧ μ2 = KV μ b κ2 ∧ kq (tP o) κ κ2) := by
  refine XM.of 4 rfl (by decide) (Nat.le_of_ble_eq_true rfl) ?_
  have hnm : ∀ κ2, kq (tP o) κ κ2 → tEn κ2 t pl gs = tEn κ t pl gs ∧ κ2.2 o 0 = κ.2 o 0 := fun κ2 hq => by
    have ht : ∀ k, κ2.1 t k = κ.1 t k := fun k => (hq t k (fun z => hto z.1)).1
    refine ⟨funext fun j => ?_, (hq o 0 (fun z => by have := z.2; omega)).2⟩
    unfold tEn
    rw [ht, ht, ht, ht]
  have L : ∀ (f i : Nat) (κ2 : KS) (S : List Int32) (z6 z7 z8 : Option Value), i + f = n ∨ (n ≤ i ∧ f = 0) → i < 2 ^ 31 → kq (tP o) κ κ2 → SR κ2 o S → S.length ≤ i → S.length ≤ n → wit (hdL (tRn (tEn κ t pl gs) (κ.2 o 0) f i S)) 0 99 = tVal κ o n t x pl gs → WA Γ zX8_tells (xrm 2 0 0) 0 0 0 0 (fun r μ2 => ∃ κ2, r = some (.int (tVal κ o n t x pl gs)) ∧ μ2 = KV μ b κ2 ∧ kq (tP o) κ κ2) 13 [some (.ref (adO b o)), some (.int (nI x)), some (.ref (adO b t)), some (.int pl), some (.int gs), some (.int (nI i)), z6, z7, z8] [] (KV μ b κ2) := by
    intro f
    induction f with
    | zero =>
      intro i κ2 S z6 z7 z8 hi hi31 hq hS hli hl hV
      have hin : n ≤ i := by omega
      refine x_iload (pc := 13) dX8_tells_13 rfl ?_
      refine x_aload_n (pc := 15) dX8_tells_15 rfl ?_
      refine k_getA (pc := 16) hK dX8_tells_16 fk_8_21 (Or.inr ⟨_, rfl⟩) (by exact hn) ?_
      refine k_alen (pc := 19) hK dX8_tells_19 (by exact hn) rfl ?_
      refine x_icmp_ge (pc := 20) (tgt := 157) dX8_tells_20 rfl (fun h_20 => ?_) (fun h_20 => absurd (by show nI (tLen n 0) ≤ _; first | exact nI_le hin hi31 | (rw [show tLen n 0 = i from hin.symm]; exact Int32.le_refl _)) h_20)
      refine x_iconst (pc := 157) (v := 0) dX8_tells_157 rfl ?_
      refine x_bipush (pc := 158) (v := 99) dX8_tells_158 rfl ?_
      refine x_aload_n (pc := 160) dX8_tells_160 rfl ?_
      refine x_callV (pc := 161) (As := []) dX8_tells_161 mX8_pop lk_8_39 hK.2.2.1 (k_pop hK hn hn2 hS hl) rfl rfl (Nat.le_of_ble_eq_true rfl) ⟨by decide, by decide⟩ ⟨Nat.zero_le _, Nat.zero_le _⟩ (fun r μ3 hq3 => ?_)
      obtain ⟨κ3, rfl, rfl, hq4, -⟩ := hq3
      refine x_mmin (pc := 164) dX8_tells_164 lk_8_47.1 (by decide) ⟨by decide, by decide⟩ ⟨by decide, by decide⟩ ?_
      refine x_mmax (pc := 167) dX8_tells_167 lk_8_53.1 (by decide) ⟨by decide, by decide⟩ ⟨by decide, by decide⟩ ?_
      refine x_ireturn (pc := 170) dX8_tells_170 rfl rfl ?_
      refine ⟨κ3, ?_, rfl, hq.trans hq4⟩
      rw [← hV, show tRn (tEn κ t pl gs) (κ.2 o 0) 0 i S = S from rfl]
      generalize hdL S = q
      unfold wit
      by_cases h1 : q < 0
      · have : q < 99 := Int32.lt_trans h1 (by decide)
        rw [if_pos h1, if_pos this, if_neg (Int32.not_lt.mpr (Int32.le_of_lt h1))]
      · rw [if_neg h1]
        by_cases h2 : (99 : Int32) < q
        · rw [if_pos h2, if_neg (fun z => Int32.lt_irrefl (Int32.lt_trans z h2)), if_pos (by decide)]
        · rw [if_neg h2]
          by_cases h3 : q < 99
          · rw [if_pos h3]
            by_cases h4 : (0 : Int32) < q
            · rw [if_pos h4]
            · rw [if_neg h4]
              exact congrArg _ (congrArg _ (Int32.le_antisymm (Int32.not_lt.mp h1) (Int32.not_lt.mp h4)))
          · rw [if_neg h3, if_pos (by decide)]
            exact congrArg _ (congrArg _ (Int32.le_antisymm (Int32.not_lt.mp h3) (Int32.not_lt.mp h2)))
    | succ f ih =>
      intro i κ2 S z6 z7 z8 hi hi31 hq hS hli hl hV
      have hin : i < n := by omega
      have hlt : S.length < n := by omega
      obtain ⟨en1, en2⟩ := hnm κ2 hq
      have eR : tRn (tEn κ t pl gs) (κ.2 o 0) (f + 1) i S = if κ.2 o 0 i = -16 then S else tRn (tEn κ t pl gs) (κ.2 o 0) f (i + 1) (tSt (tEn κ t pl gs) (κ.2 o 0 i) S) := rfl
      by_cases hc16 : κ.2 o 0 i = -16
      · refine x_iload (pc := 13) dX8_tells_13 rfl ?_
        refine x_aload_n (pc := 15) dX8_tells_15 rfl ?_
        refine k_getA (pc := 16) hK dX8_tells_16 fk_8_21 (Or.inr ⟨_, rfl⟩) (by exact hn) ?_
        refine k_alen (pc := 19) hK dX8_tells_19 (by exact hn) rfl ?_
        refine x_icmp_ge (pc := 20) (tgt := 157) dX8_tells_20 rfl (fun h_20 => absurd h_20 (by show ¬ nI (tLen n 0) ≤ _; exact nI_ge hin hn2)) (fun h_20 => ?_)
        refine x_aload_n (pc := 23) dX8_tells_23 rfl ?_
        refine k_getA (pc := 24) hK dX8_tells_24 fk_8_21 (Or.inr ⟨_, rfl⟩) (by exact hn) ?_
        refine x_iload (pc := 27) dX8_tells_27 rfl ?_
        skip
        refine k_iald (pc := 29) hK dX8_tells_29 (rfl) (hin) (hn2) ?_
        rw [en2]
        refine x_bipush (pc := 30) (v := -16) dX8_tells_30 rfl ?_
        refine x_icmp_eq (pc := 32) (tgt := 157) dX8_tells_32 rfl (fun h_32 => ?_) (fun h_32 => absurd (hc16) h_32)
        refine x_iconst (pc := 157) (v := 0) dX8_tells_157 rfl ?_
        refine x_bipush (pc := 158) (v := 99) dX8_tells_158 rfl ?_
        refine x_aload_n (pc := 160) dX8_tells_160 rfl ?_
        refine x_callV (pc := 161) (As := []) dX8_tells_161 mX8_pop lk_8_39 hK.2.2.1 (k_pop hK hn hn2 hS hl) rfl rfl (Nat.le_of_ble_eq_true rfl) ⟨by decide, by decide⟩ ⟨Nat.zero_le _, Nat.zero_le _⟩ (fun r μ3 hq3 => ?_)
        obtain ⟨κ3, rfl, rfl, hq4, -⟩ := hq3
        refine x_mmin (pc := 164) dX8_tells_164 lk_8_47.1 (by decide) ⟨by decide, by decide⟩ ⟨by decide, by decide⟩ ?_
        refine x_mmax (pc := 167) dX8_tells_167 lk_8_53.1 (by decide) ⟨by decide, by decide⟩ ⟨by decide, by decide⟩ ?_
        refine x_ireturn (pc := 170) dX8_tells_170 rfl rfl ?_
        refine ⟨κ3, ?_, rfl, hq.trans hq4⟩
        rw [← hV, show tRn (tEn κ t pl gs) (κ.2 o 0) (f + 1) i S = S by rw [eR, if_pos hc16]]
        generalize hdL S = q
        unfold wit
        by_cases h1 : q < 0
        · have : q < 99 := Int32.lt_trans h1 (by decide)
          rw [if_pos h1, if_pos this, if_neg (Int32.not_lt.mpr (Int32.le_of_lt h1))]
        · rw [if_neg h1]
          by_cases h2 : (99 : Int32) < q
          · rw [if_pos h2, if_neg (fun z => Int32.lt_irrefl (Int32.lt_trans z h2)), if_pos (by decide)]
          · rw [if_neg h2]
            by_cases h3 : q < 99
            · rw [if_pos h3]
              by_cases h4 : (0 : Int32) < q
              · rw [if_pos h4]
              · rw [if_neg h4]
                exact congrArg _ (congrArg _ (Int32.le_antisymm (Int32.not_lt.mp h1) (Int32.not_lt.mp h4)))
            · rw [if_neg h3, if_pos (by decide)]
              exact congrArg _ (congrArg _ (Int32.le_antisymm (Int32.not_lt.mp h3) (Int32.not_lt.mp h2)))
      · rw [eR, if_neg hc16] at hV
        have N : ∀ (κ3 : KS) (v : Int32) (T : List Int32) (z6 z7 z8 : Option Value), tSt (tEn κ t pl gs) (κ.2 o 0 i) S = v :: T → T.length ≤ S.length → kq (tP o) κ κ3 → SR κ3 o (v :: T) → WA Γ zX8_tells (xrm 2 0 0) 0 0 0 0 (fun r μ2 => ∃ κ2, r = some (.int (tVal κ o n t x pl gs)) ∧ μ2 = KV μ b κ2 ∧ kq (tP o) κ κ2) 13 [some (.ref (adO b o)), some (.int (nI x)), some (.ref (adO b t)), some (.int pl), some (.int gs), some (.int (nI (i + 1))), z6, z7, z8] [] (KV μ b κ3) := by
          intro κ3 v T z6 z7 z8 e hT2 hq3 hS3
          refine ih (i + 1) κ3 (v :: T) z6 z7 z8 (by omega) (by omega) hq3 hS3 (by show T.length + 1 ≤ _; omega) (by show T.length + 1 ≤ _; omega) ?_
          rw [← e]
          exact hV
        have tl : ∀ L : List Int32, L.tail.length ≤ L.length := fun L => by rw [List.length_tail]; omega
        refine x_iload (pc := 13) dX8_tells_13 rfl ?_
        refine x_aload_n (pc := 15) dX8_tells_15 rfl ?_
        refine k_getA (pc := 16) hK dX8_tells_16 fk_8_21 (Or.inr ⟨_, rfl⟩) (by exact hn) ?_
        refine k_alen (pc := 19) hK dX8_tells_19 (by exact hn) rfl ?_
        refine x_icmp_ge (pc := 20) (tgt := 157) dX8_tells_20 rfl (fun h_20 => absurd h_20 (by show ¬ nI (tLen n 0) ≤ _; exact nI_ge hin hn2)) (fun h_20 => ?_)
        refine x_aload_n (pc := 23) dX8_tells_23 rfl ?_
        refine k_getA (pc := 24) hK dX8_tells_24 fk_8_21 (Or.inr ⟨_, rfl⟩) (by exact hn) ?_
        refine x_iload (pc := 27) dX8_tells_27 rfl ?_
        skip
        refine k_iald (pc := 29) hK dX8_tells_29 (rfl) (hin) (hn2) ?_
        rw [en2]
        refine x_bipush (pc := 30) (v := -16) dX8_tells_30 rfl ?_
        refine x_icmp_eq (pc := 32) (tgt := 157) dX8_tells_32 rfl (fun h_32 => absurd h_32 (hc16)) (fun h_32 => ?_)
        refine x_aload_n (pc := 35) dX8_tells_35 rfl ?_
        refine k_getA (pc := 36) hK dX8_tells_36 fk_8_21 (Or.inr ⟨_, rfl⟩) (by exact hn) ?_
        refine x_iload (pc := 39) dX8_tells_39 rfl ?_
        refine k_iald (pc := 41) hK dX8_tells_41 (rfl) (hin) (hn2) ?_
        rw [en2]
        refine x_istore (pc := 42) (lv2 := [_, _, _, _, _, _, _, _, _]) dX8_tells_42 (by decide) rfl rfl ?_
        refine x_iload (pc := 44) dX8_tells_44 rfl ?_
        refine x_if_lt (pc := 46) (tgt := 58) dX8_tells_46 rfl (fun h_46 => ?_) (fun h_46 => ?_)
        · refine x_iload (pc := 58) dX8_tells_58 rfl ?_
          refine x_bipush (pc := 60) (v := -6) dX8_tells_60 rfl ?_
          refine x_icmp_lt (pc := 62) (tgt := 81) dX8_tells_62 rfl (fun h_62 => ?_) (fun h_62 => ?_)
          · refine x_iload (pc := 81) dX8_tells_81 rfl ?_
            refine x_bipush (pc := 83) (v := -15) dX8_tells_83 rfl ?_
            refine x_icmp_ne (pc := 85) (tgt := 100) dX8_tells_85 rfl (fun h_85 => ?_) (fun h_85 => ?_)
            · refine x_iload (pc := 100) dX8_tells_100 rfl ?_
              refine x_bipush (pc := 102) (v := -9) dX8_tells_102 rfl ?_
              refine x_icmp_ne (pc := 104) (tgt := 126) dX8_tells_104 rfl (fun h_104 => ?_) (fun h_104 => ?_)
              · refine x_aload_n (pc := 126) dX8_tells_126 rfl ?_
                refine x_callV (pc := 127) (As := []) dX8_tells_127 mX8_pop lk_8_39 hK.2.2.1 (k_pop hK hn hn2 hS hl) rfl rfl (Nat.le_of_ble_eq_true rfl) ⟨by decide, by decide⟩ ⟨Nat.zero_le _, Nat.zero_le _⟩ (fun r μ3 hq3 => ?_)
                obtain ⟨κ3, rfl, rfl, hq4, hS4⟩ := hq3
                refine x_istore (pc := 130) (lv2 := [_, _, _, _, _, _, _, _, _]) dX8_tells_130 (by decide) rfl rfl ?_
                refine x_aload_n (pc := 132) dX8_tells_132 rfl ?_
                refine x_callV (pc := 133) (As := []) dX8_tells_133 mX8_pop lk_8_39 hK.2.2.1 (k_pop hK hn hn2 hS4 (by have := tl S; omega)) rfl rfl (Nat.le_of_ble_eq_true rfl) ⟨by decide, by decide⟩ ⟨Nat.zero_le _, Nat.zero_le _⟩ (fun r μ5 hq5 => ?_)
                obtain ⟨κ5, rfl, rfl, hq6, hS6⟩ := hq5
                refine x_istore (pc := 136) (lv2 := [_, _, _, _, _, _, _, _, _]) dX8_tells_136 (by decide) rfl rfl ?_
                refine x_aload_n (pc := 138) dX8_tells_138 rfl ?_
                refine x_iload (pc := 139) dX8_tells_139 rfl ?_
                refine x_iload (pc := 141) dX8_tells_141 rfl ?_
                refine x_iload (pc := 143) dX8_tells_143 rfl ?_
                refine x_callS (pc := 145) (As := [.int _, .int _, .int _]) dX8_tells_145 mX8_joined lk_8_43 (k_joined _ _ _) rfl rfl (Nat.le_of_ble_eq_true rfl) ⟨by decide, by decide⟩ ⟨Nat.zero_le _, Nat.zero_le _⟩ (k_rt ?_)
                refine x_callV (pc := 148) (As := [.int _]) dX8_tells_148 mX8_push lk_8_31 hK.2.2.1 (k_push hK hn hn2 hS6 (by have := tl S; have := tl S.tail; omega) _) rfl rfl (Nat.le_of_ble_eq_true rfl) ⟨by decide, by decide⟩ ⟨Nat.zero_le _, Nat.zero_le _⟩ (fun r μ7 hq7 => ?_)
                first
                  | obtain ⟨κ8, rfl, rfl, hq8, hS8⟩ := hq7
                  | obtain ⟨κ8, rfl, rfl, hq8, hS8⟩ := hq5
                  | obtain ⟨κ8, rfl, rfl, hq8, hS8⟩ := hq3
                refine x_iinc (pc := 151) (lv2 := [_, _, _, _, _, _, _, _, _]) dX8_tells_151 (by decide) rfl rfl (nI_1 _) rfl ?_
                refine x_goto (pc := 154) (tgt := 13) dX8_tells_154 rfl ?_
                first
                  | exact N κ8 _ _ _ _ _ (by unfold tSt; rw [if_pos (by first | exact Int32.not_lt.mp h_46 | exact h_46)]) (Nat.le_refl _) (hq.trans hq8) hS8
                  | exact N κ8 _ _ _ _ _ (by unfold tSt; rw [if_neg (by first | exact Int32.not_le.mpr h_46 | exact h_46), if_pos (by first | exact Int32.not_lt.mp h_62 | exact h_62)]) (Nat.le_refl _) (hq.trans hq8) hS8
                  | exact N κ8 _ _ _ _ _ (by unfold tSt; rw [if_neg (by first | exact Int32.not_le.mpr h_46 | exact h_46), if_neg (by first | exact Int32.not_le.mpr h_62 | exact h_62), if_pos (by first | exact h_85 | exact Decidable.not_not.mp h_85)]) (tl S) ((hq.trans hq4).trans hq8) hS8
                  | exact N κ8 _ _ _ _ _ (by unfold tSt; rw [if_neg (by first | exact Int32.not_le.mpr h_46 | exact h_46), if_neg (by first | exact Int32.not_le.mpr h_62 | exact h_62), if_neg (by exact h_85), if_pos (by first | exact h_104 | exact Decidable.not_not.mp h_104), if_pos (by first | exact h_112 | exact Decidable.not_not.mp h_112)]) (tl S) ((hq.trans hq4).trans hq8) hS8
                  | exact N κ8 _ _ _ _ _ (by unfold tSt; rw [if_neg (by first | exact Int32.not_le.mpr h_46 | exact h_46), if_neg (by first | exact Int32.not_le.mpr h_62 | exact h_62), if_neg (by exact h_85), if_pos (by first | exact h_104 | exact Decidable.not_not.mp h_104), if_neg (by exact h_112)]) (tl S) ((hq.trans hq4).trans hq8) hS8
                  | exact N κ8 _ _ _ _ _ (by unfold tSt; rw [if_neg (by first | exact Int32.not_le.mpr h_46 | exact h_46), if_neg (by first | exact Int32.not_le.mpr h_62 | exact h_62), if_neg (by exact h_85), if_neg (by exact h_104)]) (by have := tl S; have := tl S.tail; omega) (((hq.trans hq4).trans hq6).trans hq8) hS8
              · refine x_aload_n (pc := 107) dX8_tells_107 rfl ?_
                refine x_aload_n (pc := 108) dX8_tells_108 rfl ?_
                refine x_callV (pc := 109) (As := []) dX8_tells_109 mX8_pop lk_8_39 hK.2.2.1 (k_pop hK hn hn2 hS hl) rfl rfl (Nat.le_of_ble_eq_true rfl) ⟨by decide, by decide⟩ ⟨Nat.zero_le _, Nat.zero_le _⟩ (fun r μ3 hq3 => ?_)
                obtain ⟨κ3, rfl, rfl, hq4, hS4⟩ := hq3
                refine x_if_ne (pc := 112) (tgt := 119) dX8_tells_112 rfl (fun h_112 => ?_) (fun h_112 => ?_)
                · refine x_iconst (pc := 119) (v := 0) dX8_tells_119 rfl ?_
                  refine x_callV (pc := 120) (As := [.int _]) dX8_tells_120 mX8_push lk_8_31 hK.2.2.1 (k_push hK hn hn2 hS4 (by have := tl S; omega) _) rfl rfl (Nat.le_of_ble_eq_true rfl) ⟨by decide, by decide⟩ ⟨Nat.zero_le _, Nat.zero_le _⟩ (fun r μ5 hq5 => ?_)
                  refine x_goto (pc := 123) (tgt := 151) dX8_tells_123 rfl ?_
                  first
                    | obtain ⟨κ8, rfl, rfl, hq8, hS8⟩ := hq7
                    | obtain ⟨κ8, rfl, rfl, hq8, hS8⟩ := hq5
                    | obtain ⟨κ8, rfl, rfl, hq8, hS8⟩ := hq3
                  refine x_iinc (pc := 151) (lv2 := [_, _, _, _, _, _, _, _, _]) dX8_tells_151 (by decide) rfl rfl (nI_1 _) rfl ?_
                  refine x_goto (pc := 154) (tgt := 13) dX8_tells_154 rfl ?_
                  first
                    | exact N κ8 _ _ _ _ _ (by unfold tSt; rw [if_pos (by first | exact Int32.not_lt.mp h_46 | exact h_46)]) (Nat.le_refl _) (hq.trans hq8) hS8
                    | exact N κ8 _ _ _ _ _ (by unfold tSt; rw [if_neg (by first | exact Int32.not_le.mpr h_46 | exact h_46), if_pos (by first | exact Int32.not_lt.mp h_62 | exact h_62)]) (Nat.le_refl _) (hq.trans hq8) hS8
                    | exact N κ8 _ _ _ _ _ (by unfold tSt; rw [if_neg (by first | exact Int32.not_le.mpr h_46 | exact h_46), if_neg (by first | exact Int32.not_le.mpr h_62 | exact h_62), if_pos (by first | exact h_85 | exact Decidable.not_not.mp h_85)]) (tl S) ((hq.trans hq4).trans hq8) hS8
                    | exact N κ8 _ _ _ _ _ (by unfold tSt; rw [if_neg (by first | exact Int32.not_le.mpr h_46 | exact h_46), if_neg (by first | exact Int32.not_le.mpr h_62 | exact h_62), if_neg (by exact h_85), if_pos (by first | exact h_104 | exact Decidable.not_not.mp h_104), if_pos (by first | exact h_112 | exact Decidable.not_not.mp h_112)]) (tl S) ((hq.trans hq4).trans hq8) hS8
                    | exact N κ8 _ _ _ _ _ (by unfold tSt; rw [if_neg (by first | exact Int32.not_le.mpr h_46 | exact h_46), if_neg (by first | exact Int32.not_le.mpr h_62 | exact h_62), if_neg (by exact h_85), if_pos (by first | exact h_104 | exact Decidable.not_not.mp h_104), if_neg (by exact h_112)]) (tl S) ((hq.trans hq4).trans hq8) hS8
                    | exact N κ8 _ _ _ _ _ (by unfold tSt; rw [if_neg (by first | exact Int32.not_le.mpr h_46 | exact h_46), if_neg (by first | exact Int32.not_le.mpr h_62 | exact h_62), if_neg (by exact h_85), if_neg (by exact h_104)]) (by have := tl S; have := tl S.tail; omega) (((hq.trans hq4).trans hq6).trans hq8) hS8
                · refine x_iconst (pc := 115) (v := 1) dX8_tells_115 rfl ?_
                  refine x_goto (pc := 116) (tgt := 120) dX8_tells_116 rfl ?_
                  refine x_callV (pc := 120) (As := [.int _]) dX8_tells_120 mX8_push lk_8_31 hK.2.2.1 (k_push hK hn hn2 hS4 (by have := tl S; omega) _) rfl rfl (Nat.le_of_ble_eq_true rfl) ⟨by decide, by decide⟩ ⟨Nat.zero_le _, Nat.zero_le _⟩ (fun r μ5 hq5 => ?_)
                  refine x_goto (pc := 123) (tgt := 151) dX8_tells_123 rfl ?_
                  first
                    | obtain ⟨κ8, rfl, rfl, hq8, hS8⟩ := hq7
                    | obtain ⟨κ8, rfl, rfl, hq8, hS8⟩ := hq5
                    | obtain ⟨κ8, rfl, rfl, hq8, hS8⟩ := hq3
                  refine x_iinc (pc := 151) (lv2 := [_, _, _, _, _, _, _, _, _]) dX8_tells_151 (by decide) rfl rfl (nI_1 _) rfl ?_
                  refine x_goto (pc := 154) (tgt := 13) dX8_tells_154 rfl ?_
                  first
                    | exact N κ8 _ _ _ _ _ (by unfold tSt; rw [if_pos (by first | exact Int32.not_lt.mp h_46 | exact h_46)]) (Nat.le_refl _) (hq.trans hq8) hS8
                    | exact N κ8 _ _ _ _ _ (by unfold tSt; rw [if_neg (by first | exact Int32.not_le.mpr h_46 | exact h_46), if_pos (by first | exact Int32.not_lt.mp h_62 | exact h_62)]) (Nat.le_refl _) (hq.trans hq8) hS8
                    | exact N κ8 _ _ _ _ _ (by unfold tSt; rw [if_neg (by first | exact Int32.not_le.mpr h_46 | exact h_46), if_neg (by first | exact Int32.not_le.mpr h_62 | exact h_62), if_pos (by first | exact h_85 | exact Decidable.not_not.mp h_85)]) (tl S) ((hq.trans hq4).trans hq8) hS8
                    | exact N κ8 _ _ _ _ _ (by unfold tSt; rw [if_neg (by first | exact Int32.not_le.mpr h_46 | exact h_46), if_neg (by first | exact Int32.not_le.mpr h_62 | exact h_62), if_neg (by exact h_85), if_pos (by first | exact h_104 | exact Decidable.not_not.mp h_104), if_pos (by first | exact h_112 | exact Decidable.not_not.mp h_112)]) (tl S) ((hq.trans hq4).trans hq8) hS8
                    | exact N κ8 _ _ _ _ _ (by unfold tSt; rw [if_neg (by first | exact Int32.not_le.mpr h_46 | exact h_46), if_neg (by first | exact Int32.not_le.mpr h_62 | exact h_62), if_neg (by exact h_85), if_pos (by first | exact h_104 | exact Decidable.not_not.mp h_104), if_neg (by exact h_112)]) (tl S) ((hq.trans hq4).trans hq8) hS8
                    | exact N κ8 _ _ _ _ _ (by unfold tSt; rw [if_neg (by first | exact Int32.not_le.mpr h_46 | exact h_46), if_neg (by first | exact Int32.not_le.mpr h_62 | exact h_62), if_neg (by exact h_85), if_neg (by exact h_104)]) (by have := tl S; have := tl S.tail; omega) (((hq.trans hq4).trans hq6).trans hq8) hS8
            · refine x_aload_n (pc := 88) dX8_tells_88 rfl ?_
              refine x_aload_n (pc := 89) dX8_tells_89 rfl ?_
              refine x_callV (pc := 90) (As := []) dX8_tells_90 mX8_pop lk_8_39 hK.2.2.1 (k_pop hK hn hn2 hS hl) rfl rfl (Nat.le_of_ble_eq_true rfl) ⟨by decide, by decide⟩ ⟨Nat.zero_le _, Nat.zero_le _⟩ (fun r μ3 hq3 => ?_)
              obtain ⟨κ3, rfl, rfl, hq4, hS4⟩ := hq3
              refine x_ineg (pc := 93) dX8_tells_93 ?_
              refine x_callV (pc := 94) (As := [.int _]) dX8_tells_94 mX8_push lk_8_31 hK.2.2.1 (k_push hK hn hn2 hS4 (by have := tl S; omega) _) rfl rfl (Nat.le_of_ble_eq_true rfl) ⟨by decide, by decide⟩ ⟨Nat.zero_le _, Nat.zero_le _⟩ (fun r μ5 hq5 => ?_)
              refine x_goto (pc := 97) (tgt := 151) dX8_tells_97 rfl ?_
              first
                | obtain ⟨κ8, rfl, rfl, hq8, hS8⟩ := hq7
                | obtain ⟨κ8, rfl, rfl, hq8, hS8⟩ := hq5
                | obtain ⟨κ8, rfl, rfl, hq8, hS8⟩ := hq3
              refine x_iinc (pc := 151) (lv2 := [_, _, _, _, _, _, _, _, _]) dX8_tells_151 (by decide) rfl rfl (nI_1 _) rfl ?_
              refine x_goto (pc := 154) (tgt := 13) dX8_tells_154 rfl ?_
              first
                | exact N κ8 _ _ _ _ _ (by unfold tSt; rw [if_pos (by first | exact Int32.not_lt.mp h_46 | exact h_46)]) (Nat.le_refl _) (hq.trans hq8) hS8
                | exact N κ8 _ _ _ _ _ (by unfold tSt; rw [if_neg (by first | exact Int32.not_le.mpr h_46 | exact h_46), if_pos (by first | exact Int32.not_lt.mp h_62 | exact h_62)]) (Nat.le_refl _) (hq.trans hq8) hS8
                | exact N κ8 _ _ _ _ _ (by unfold tSt; rw [if_neg (by first | exact Int32.not_le.mpr h_46 | exact h_46), if_neg (by first | exact Int32.not_le.mpr h_62 | exact h_62), if_pos (by first | exact h_85 | exact Decidable.not_not.mp h_85)]) (tl S) ((hq.trans hq4).trans hq8) hS8
                | exact N κ8 _ _ _ _ _ (by unfold tSt; rw [if_neg (by first | exact Int32.not_le.mpr h_46 | exact h_46), if_neg (by first | exact Int32.not_le.mpr h_62 | exact h_62), if_neg (by exact h_85), if_pos (by first | exact h_104 | exact Decidable.not_not.mp h_104), if_pos (by first | exact h_112 | exact Decidable.not_not.mp h_112)]) (tl S) ((hq.trans hq4).trans hq8) hS8
                | exact N κ8 _ _ _ _ _ (by unfold tSt; rw [if_neg (by first | exact Int32.not_le.mpr h_46 | exact h_46), if_neg (by first | exact Int32.not_le.mpr h_62 | exact h_62), if_neg (by exact h_85), if_pos (by first | exact h_104 | exact Decidable.not_not.mp h_104), if_neg (by exact h_112)]) (tl S) ((hq.trans hq4).trans hq8) hS8
                | exact N κ8 _ _ _ _ _ (by unfold tSt; rw [if_neg (by first | exact Int32.not_le.mpr h_46 | exact h_46), if_neg (by first | exact Int32.not_le.mpr h_62 | exact h_62), if_neg (by exact h_85), if_neg (by exact h_104)]) (by have := tl S; have := tl S.tail; omega) (((hq.trans hq4).trans hq6).trans hq8) hS8
          · refine x_aload_n (pc := 65) dX8_tells_65 rfl ?_
            refine x_iload (pc := 66) dX8_tells_66 rfl ?_
            refine x_aload_n (pc := 68) dX8_tells_68 rfl ?_
            refine x_iload_n (pc := 69) dX8_tells_69 rfl ?_
            refine x_iload (pc := 70) dX8_tells_70 rfl ?_
            skip
            refine x_callS (pc := 72) (As := [.int _, .ref _, .int _, .int _]) dX8_tells_72 mX8_named lk_8_35 (k_named hth hT _ _ _) rfl rfl (Nat.le_of_ble_eq_true rfl) ⟨by decide, by decide⟩ ⟨Nat.zero_le _, Nat.zero_le _⟩ (k_rt ?_)
            rw [en1]
            refine x_callV (pc := 75) (As := [.int _]) dX8_tells_75 mX8_push lk_8_31 hK.2.2.1 (k_push hK hn hn2 hS hlt _) rfl rfl (Nat.le_of_ble_eq_true rfl) ⟨by decide, by decide⟩ ⟨Nat.zero_le _, Nat.zero_le _⟩ (fun r μ3 hq3 => ?_)
            refine x_goto (pc := 78) (tgt := 151) dX8_tells_78 rfl ?_
            first
              | obtain ⟨κ8, rfl, rfl, hq8, hS8⟩ := hq7
              | obtain ⟨κ8, rfl, rfl, hq8, hS8⟩ := hq5
              | obtain ⟨κ8, rfl, rfl, hq8, hS8⟩ := hq3
            refine x_iinc (pc := 151) (lv2 := [_, _, _, _, _, _, _, _, _]) dX8_tells_151 (by decide) rfl rfl (nI_1 _) rfl ?_
            refine x_goto (pc := 154) (tgt := 13) dX8_tells_154 rfl ?_
            first
              | exact N κ8 _ _ _ _ _ (by unfold tSt; rw [if_pos (by first | exact Int32.not_lt.mp h_46 | exact h_46)]) (Nat.le_refl _) (hq.trans hq8) hS8
              | exact N κ8 _ _ _ _ _ (by unfold tSt; rw [if_neg (by first | exact Int32.not_le.mpr h_46 | exact h_46), if_pos (by first | exact Int32.not_lt.mp h_62 | exact h_62)]) (Nat.le_refl _) (hq.trans hq8) hS8
              | exact N κ8 _ _ _ _ _ (by unfold tSt; rw [if_neg (by first | exact Int32.not_le.mpr h_46 | exact h_46), if_neg (by first | exact Int32.not_le.mpr h_62 | exact h_62), if_pos (by first | exact h_85 | exact Decidable.not_not.mp h_85)]) (tl S) ((hq.trans hq4).trans hq8) hS8
              | exact N κ8 _ _ _ _ _ (by unfold tSt; rw [if_neg (by first | exact Int32.not_le.mpr h_46 | exact h_46), if_neg (by first | exact Int32.not_le.mpr h_62 | exact h_62), if_neg (by exact h_85), if_pos (by first | exact h_104 | exact Decidable.not_not.mp h_104), if_pos (by first | exact h_112 | exact Decidable.not_not.mp h_112)]) (tl S) ((hq.trans hq4).trans hq8) hS8
              | exact N κ8 _ _ _ _ _ (by unfold tSt; rw [if_neg (by first | exact Int32.not_le.mpr h_46 | exact h_46), if_neg (by first | exact Int32.not_le.mpr h_62 | exact h_62), if_neg (by exact h_85), if_pos (by first | exact h_104 | exact Decidable.not_not.mp h_104), if_neg (by exact h_112)]) (tl S) ((hq.trans hq4).trans hq8) hS8
              | exact N κ8 _ _ _ _ _ (by unfold tSt; rw [if_neg (by first | exact Int32.not_le.mpr h_46 | exact h_46), if_neg (by first | exact Int32.not_le.mpr h_62 | exact h_62), if_neg (by exact h_85), if_neg (by exact h_104)]) (by have := tl S; have := tl S.tail; omega) (((hq.trans hq4).trans hq6).trans hq8) hS8
        · refine x_aload_n (pc := 49) dX8_tells_49 rfl ?_
          refine x_iload (pc := 50) dX8_tells_50 rfl ?_
          refine x_callV (pc := 52) (As := [.int _]) dX8_tells_52 mX8_push lk_8_31 hK.2.2.1 (k_push hK hn hn2 hS hlt _) rfl rfl (Nat.le_of_ble_eq_true rfl) ⟨by decide, by decide⟩ ⟨Nat.zero_le _, Nat.zero_le _⟩ (fun r μ3 hq3 => ?_)
          refine x_goto (pc := 55) (tgt := 151) dX8_tells_55 rfl ?_
          first
            | obtain ⟨κ8, rfl, rfl, hq8, hS8⟩ := hq7
            | obtain ⟨κ8, rfl, rfl, hq8, hS8⟩ := hq5
            | obtain ⟨κ8, rfl, rfl, hq8, hS8⟩ := hq3
          refine x_iinc (pc := 151) (lv2 := [_, _, _, _, _, _, _, _, _]) dX8_tells_151 (by decide) rfl rfl (nI_1 _) rfl ?_
          refine x_goto (pc := 154) (tgt := 13) dX8_tells_154 rfl ?_
          first
            | exact N κ8 _ _ _ _ _ (by unfold tSt; rw [if_pos (by first | exact Int32.not_lt.mp h_46 | exact h_46)]) (Nat.le_refl _) (hq.trans hq8) hS8
            | exact N κ8 _ _ _ _ _ (by unfold tSt; rw [if_neg (by first | exact Int32.not_le.mpr h_46 | exact h_46), if_pos (by first | exact Int32.not_lt.mp h_62 | exact h_62)]) (Nat.le_refl _) (hq.trans hq8) hS8
            | exact N κ8 _ _ _ _ _ (by unfold tSt; rw [if_neg (by first | exact Int32.not_le.mpr h_46 | exact h_46), if_neg (by first | exact Int32.not_le.mpr h_62 | exact h_62), if_pos (by first | exact h_85 | exact Decidable.not_not.mp h_85)]) (tl S) ((hq.trans hq4).trans hq8) hS8
            | exact N κ8 _ _ _ _ _ (by unfold tSt; rw [if_neg (by first | exact Int32.not_le.mpr h_46 | exact h_46), if_neg (by first | exact Int32.not_le.mpr h_62 | exact h_62), if_neg (by exact h_85), if_pos (by first | exact h_104 | exact Decidable.not_not.mp h_104), if_pos (by first | exact h_112 | exact Decidable.not_not.mp h_112)]) (tl S) ((hq.trans hq4).trans hq8) hS8
            | exact N κ8 _ _ _ _ _ (by unfold tSt; rw [if_neg (by first | exact Int32.not_le.mpr h_46 | exact h_46), if_neg (by first | exact Int32.not_le.mpr h_62 | exact h_62), if_neg (by exact h_85), if_pos (by first | exact h_104 | exact Decidable.not_not.mp h_104), if_neg (by exact h_112)]) (tl S) ((hq.trans hq4).trans hq8) hS8
            | exact N κ8 _ _ _ _ _ (by unfold tSt; rw [if_neg (by first | exact Int32.not_le.mpr h_46 | exact h_46), if_neg (by first | exact Int32.not_le.mpr h_62 | exact h_62), if_neg (by exact h_85), if_neg (by exact h_104)]) (by have := tl S; have := tl S.tail; omega) (((hq.trans hq4).trans hq6).trans hq8) hS8
  refine x_aload_n (pc := 0) dX8_tells_0 rfl ?_
  refine x_iconst (pc := 1) (v := 0) dX8_tells_1 rfl ?_
  refine k_putI (pc := 2) hK dX8_tells_2 fk_8_9 (Or.inl rfl) (Or.inl rfl) ?_
  refine x_aload_n (pc := 5) dX8_tells_5 rfl ?_
  refine k_getA (pc := 6) hK dX8_tells_6 fk_8_25 (Or.inr ⟨_, rfl⟩) (by show 3 ≠ 0; omega) ?_
  refine x_iload_n (pc := 9) dX8_tells_9 rfl ?_
  refine k_iald (pc := 10) hK dX8_tells_10 (rfl) (hx) (by show 3 < 2 ^ 31; omega) ?_
  rw [show (kI κ o 3 0).2 o 1 x = nI sx from hs]
  refine x_istore (pc := 11) (lv2 := [_, _, _, _, _, _, _, _, _]) dX8_tells_11 (by decide) rfl rfl ?_
  have hsx : nn (κ.2 o 1 x) = sx ∨ True := Or.inr trivial
  obtain ⟨sx', hsx', e'⟩ : ∃ s, s < 2 ^ 31 ∧ nI sx = nI s := ⟨sx, hsx31, rfl⟩
  refine L (n - sx) sx _ [] _ _ _ (by omega) hsx31 (kq.rf.I ⟨rfl, Or.inr rfl⟩) ⟨up2_s, fun j hj => absurd hj (by show ¬ j < 0; omega)⟩ (Nat.zero_le _) (Nat.zero_le _) ?_
  unfold tVal
  rw [hs, nn_nI hsx31]
end M75
