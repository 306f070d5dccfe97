/-! the reference: loops that copy -/
def it (f : Nat → MS → MS) : Nat → MS → MS
  | 0, s => s
  | n + 1, s => f n (it f n s)
theorem it_I {f : Nat → MS → MS} (h : ∀ j s, (f j s).1 = s.1) : ∀ (n : Nat) (s : MS), (it f n s).1 = s.1
  | 0, _ => rfl
  | n + 1, s => (h n _).trans (it_I h n s)
theorem lit_le {n : Nat} (j : Nat) (h : j < n) (hn : n < 2 ^ 31) : ¬ nI n ≤ nI j := nI_ge h hn
section M32
variable {Γ : Gm} {μ : Mem} {a : Ma} {σ : MS}
def f_kd : Nat → MS → MS := fun j s => tA s 46 j (s.2.2 9 j)
theorem c_keepsDays (hM : MOK μ a) : XM Γ zX12_keepsDays 1 0 0 [.ref a.1] (MV μ a σ) (rv (MV μ a (it f_kd 7 σ))) := by
  refine XM.of 1 rfl (by decide) (Nat.le_of_ble_eq_true rfl) ?_
  have L : ∀ (m j : Nat), j + m = 7 → WA Γ zX12_keepsDays (xrm 1 0 0) 0 0 0 0 (rv (MV μ a (it f_kd 7 σ))) 2 [some (.ref a.1), some (.int (nI j))] [] (MV μ a (it f_kd j σ)) := by
    intro m
    induction m with
    | zero =>
      intro j hj
      obtain rfl : j = 7 := by omega
      refine x_iload_n (pc := 2) dX12_keepsDays_2 rfl ?_
      refine x_bipush (pc := 3) (v := 7) dX12_keepsDays_3 rfl ?_
      refine x_icmp_ge (pc := 5) (tgt := 26) dX12_keepsDays_5 rfl (fun h_5 => ?_) (fun h_5 => absurd (by decide) h_5)
      refine x_return (pc := 26) dX12_keepsDays_26 rfl ?_
      exact ⟨rfl, rfl⟩
    | succ m ih =>
      intro j hj
      refine x_iload_n (pc := 2) dX12_keepsDays_2 rfl ?_
      refine x_bipush (pc := 3) (v := 7) dX12_keepsDays_3 rfl ?_
      refine x_icmp_ge (pc := 5) (tgt := 26) dX12_keepsDays_5 rfl (fun h_5 => absurd h_5 (lit_le (n := 7) j (by omega) (by omega))) (fun h_5 => ?_)
      refine x_aload_n (pc := 8) dX12_keepsDays_8 rfl ?_
      refine m_getR (pc := 9) hM dX12_keepsDays_9 fk_12_71 (Or.inr ⟨_, rfl⟩) (Or.inl (by decide)) ?_
      refine x_iload_n (pc := 12) dX12_keepsDays_12 rfl ?_
      refine x_aload_n (pc := 13) dX12_keepsDays_13 rfl ?_
      refine m_getR (pc := 14) hM dX12_keepsDays_14 fk_12_29 (Or.inr ⟨_, rfl⟩) (Or.inl (by decide)) ?_
      refine x_iload_n (pc := 17) dX12_keepsDays_17 rfl ?_
      refine m_iald (pc := 18) hM dX12_keepsDays_18 (rfl) (by show j < 7; omega) ?_
      refine m_iast (pc := 19) hM dX12_keepsDays_19 (rfl) (by show j < 7; omega) ?_
      refine x_iinc (pc := 20) (lv2 := [_, _]) dX12_keepsDays_20 (by decide) rfl rfl (nI_1 _) rfl ?_
      refine x_goto (pc := 23) (tgt := 2) dX12_keepsDays_23 rfl ?_
      exact ih (j + 1) (by omega)
  refine x_iconst (pc := 0) (v := 0) dX12_keepsDays_0 rfl ?_
  refine x_istore_n (pc := 1) (lv2 := [_, _]) dX12_keepsDays_1 (by decide) rfl rfl ?_
  exact L 7 0 (by omega)
def f_db : Nat → MS → MS := fun j s => tA s 9 j (s.2.2 46 j)
theorem c_daysBack (hM : MOK μ a) : XM Γ zX12_daysBack 1 0 0 [.ref a.1] (MV μ a σ) (rv (MV μ a (it f_db 7 σ))) := by
  refine XM.of 1 rfl (by decide) (Nat.le_of_ble_eq_true rfl) ?_
  have L : ∀ (m j : Nat), j + m = 7 → WA Γ zX12_daysBack (xrm 1 0 0) 0 0 0 0 (rv (MV μ a (it f_db 7 σ))) 2 [some (.ref a.1), some (.int (nI j))] [] (MV μ a (it f_db j σ)) := by
    intro m
    induction m with
    | zero =>
      intro j hj
      obtain rfl : j = 7 := by omega
      refine x_iload_n (pc := 2) dX12_daysBack_2 rfl ?_
      refine x_bipush (pc := 3) (v := 7) dX12_daysBack_3 rfl ?_
      refine x_icmp_ge (pc := 5) (tgt := 26) dX12_daysBack_5 rfl (fun h_5 => ?_) (fun h_5 => absurd (by decide) h_5)
      refine x_return (pc := 26) dX12_daysBack_26 rfl ?_
      exact ⟨rfl, rfl⟩
    | succ m ih =>
      intro j hj
      refine x_iload_n (pc := 2) dX12_daysBack_2 rfl ?_
      refine x_bipush (pc := 3) (v := 7) dX12_daysBack_3 rfl ?_
      refine x_icmp_ge (pc := 5) (tgt := 26) dX12_daysBack_5 rfl (fun h_5 => absurd h_5 (lit_le (n := 7) j (by omega) (by omega))) (fun h_5 => ?_)
      refine x_aload_n (pc := 8) dX12_daysBack_8 rfl ?_
      refine m_getR (pc := 9) hM dX12_daysBack_9 fk_12_29 (Or.inr ⟨_, rfl⟩) (Or.inl (by decide)) ?_
      refine x_iload_n (pc := 12) dX12_daysBack_12 rfl ?_
      refine x_aload_n (pc := 13) dX12_daysBack_13 rfl ?_
      refine m_getR (pc := 14) hM dX12_daysBack_14 fk_12_71 (Or.inr ⟨_, rfl⟩) (Or.inl (by decide)) ?_
      refine x_iload_n (pc := 17) dX12_daysBack_17 rfl ?_
      refine m_iald (pc := 18) hM dX12_daysBack_18 (rfl) (by show j < 7; omega) ?_
      refine m_iast (pc := 19) hM dX12_daysBack_19 (rfl) (by show j < 7; omega) ?_
      refine x_iinc (pc := 20) (lv2 := [_, _]) dX12_daysBack_20 (by decide) rfl rfl (nI_1 _) rfl ?_
      refine x_goto (pc := 23) (tgt := 2) dX12_daysBack_23 rfl ?_
      exact ih (j + 1) (by omega)
  refine x_iconst (pc := 0) (v := 0) dX12_daysBack_0 rfl ?_
  refine x_istore_n (pc := 1) (lv2 := [_, _]) dX12_daysBack_1 (by decide) rfl rfl ?_
  exact L 7 0 (by omega)
def f_bg : Nat → MS → MS := fun j s => tA s 34 j 0
theorem c_begins (hM : MOK μ a) : XM Γ zX12_begins 1 0 0 [.ref a.1] (MV μ a σ) (rv (MV μ a (it f_bg 35 (tI σ 39 0)))) := by
  refine XM.of 1 rfl (by decide) (Nat.le_of_ble_eq_true rfl) ?_
  have L : ∀ (m j : Nat), j + m = 35 → WA Γ zX12_begins (xrm 1 0 0) 0 0 0 0 (rv (MV μ a (it f_bg 35 (tI σ 39 0)))) 7 [some (.ref a.1), some (.int (nI j))] [] (MV μ a (it f_bg j (tI σ 39 0))) := by
    intro m
    induction m with
    | zero =>
      intro j hj
      obtain rfl : j = 35 := by omega
      refine x_iload_n (pc := 7) dX12_begins_7 rfl ?_
      refine x_bipush (pc := 8) (v := 35) dX12_begins_8 rfl ?_
      refine x_icmp_ge (pc := 10) (tgt := 26) dX12_begins_10 rfl (fun h_10 => ?_) (fun h_10 => absurd (by decide) h_10)
      refine x_return (pc := 26) dX12_begins_26 rfl ?_
      exact ⟨rfl, rfl⟩
    | succ m ih =>
      intro j hj
      refine x_iload_n (pc := 7) dX12_begins_7 rfl ?_
      refine x_bipush (pc := 8) (v := 35) dX12_begins_8 rfl ?_
      refine x_icmp_ge (pc := 10) (tgt := 26) dX12_begins_10 rfl (fun h_10 => absurd h_10 (lit_le (n := 35) j (by omega) (by omega))) (fun h_10 => ?_)
      refine x_aload_n (pc := 13) dX12_begins_13 rfl ?_
      refine m_getR (pc := 14) hM dX12_begins_14 fk_12_56 (Or.inr ⟨_, rfl⟩) (Or.inl (by decide)) ?_
      refine x_iload_n (pc := 17) dX12_begins_17 rfl ?_
      refine x_iconst (pc := 18) (v := 0) dX12_begins_18 rfl ?_
      refine m_iast (pc := 19) hM dX12_begins_19 (rfl) (by show j < 35; omega) ?_
      refine x_iinc (pc := 20) (lv2 := [_, _]) dX12_begins_20 (by decide) rfl rfl (nI_1 _) rfl ?_
      refine x_goto (pc := 23) (tgt := 7) dX12_begins_23 rfl ?_
      exact ih (j + 1) (by omega)
  refine x_aload_n (pc := 0) dX12_begins_0 rfl ?_
  refine x_iconst (pc := 1) (v := 0) dX12_begins_1 rfl ?_
  refine m_putI (pc := 2) hM dX12_begins_2 fk_12_282 rfl (Or.inr ⟨rfl, by first | exact Or.inl rfl | exact Or.inr rfl⟩) ?_
  refine x_iconst (pc := 5) (v := 0) dX12_begins_5 rfl ?_
  refine x_istore_n (pc := 6) (lv2 := [_, _]) dX12_begins_6 (by decide) rfl rfl ?_
  exact L 35 0 (by omega)
def f_fn : Nat → MS → MS := fun j s => tA s 41 j (if s.1 15 ≤ nI j then -1 else s.2.2 14 j)
theorem c_fromNow (hM : MOK μ a) : XM Γ zX12_fromNow 1 0 0 [.ref a.1] (MV μ a σ) (rv (MV μ a (it f_fn 5 σ))) := by
  refine XM.of 1 rfl (by decide) (Nat.le_of_ble_eq_true rfl) ?_
  have L : ∀ (m j : Nat), j + m = 5 → WA Γ zX12_fromNow (xrm 1 0 0) 0 0 0 0 (rv (MV μ a (it f_fn 5 σ))) 2 [some (.ref a.1), some (.int (nI j))] [] (MV μ a (it f_fn j σ)) := by
    intro m
    induction m with
    | zero =>
      intro j hj
      obtain rfl : j = 5 := by omega
      refine x_iload_n (pc := 2) dX12_fromNow_2 rfl ?_
      refine x_iconst (pc := 3) (v := 5) dX12_fromNow_3 rfl ?_
      refine x_icmp_ge (pc := 4) (tgt := 37) dX12_fromNow_4 rfl (fun h_4 => ?_) (fun h_4 => absurd (by decide) h_4)
      refine x_return (pc := 37) dX12_fromNow_37 rfl ?_
      exact ⟨rfl, rfl⟩
    | succ m ih =>
      intro j hj
      refine x_iload_n (pc := 2) dX12_fromNow_2 rfl ?_
      refine x_iconst (pc := 3) (v := 5) dX12_fromNow_3 rfl ?_
      refine x_icmp_ge (pc := 4) (tgt := 37) dX12_fromNow_4 rfl (fun h_4 => absurd h_4 (lit_le (n := 5) j (by omega) (by omega))) (fun h_4 => ?_)
      refine x_aload_n (pc := 7) dX12_fromNow_7 rfl ?_
      refine m_getR (pc := 8) hM dX12_fromNow_8 fk_12_68 (Or.inr ⟨_, rfl⟩) (Or.inl (by decide)) ?_
      refine x_iload_n (pc := 11) dX12_fromNow_11 rfl ?_
      refine x_iload_n (pc := 12) dX12_fromNow_12 rfl ?_
      refine x_aload_n (pc := 13) dX12_fromNow_13 rfl ?_
      refine m_getI (pc := 14) hM dX12_fromNow_14 fk_12_106 (Or.inl rfl) ?_
      refine x_icmp_ge (pc := 17) (tgt := 29) dX12_fromNow_17 rfl (fun h_17 => ?_) (fun h_17 => ?_)
      · refine x_iconst (pc := 29) (v := -1) dX12_fromNow_29 rfl ?_
        refine m_iast (pc := 30) hM dX12_fromNow_30 (rfl) (by show j < 5; omega) ?_
        refine x_iinc (pc := 31) (lv2 := [_, _]) dX12_fromNow_31 (by decide) rfl rfl (nI_1 _) rfl ?_
        refine x_goto (pc := 34) (tgt := 2) dX12_fromNow_34 rfl ?_
        have e : it f_fn (j + 1) σ = tA (it f_fn j σ) 41 j (if (it f_fn j σ).1 15 ≤ nI j then -1 else (it f_fn j σ).2.2 14 j) := rfl
        first | rw [if_pos h_17] at e | rw [if_neg h_17] at e
        rw [← e]
        exact ih (j + 1) (by omega)
      · refine x_aload_n (pc := 20) dX12_fromNow_20 rfl ?_
        refine m_getR (pc := 21) hM dX12_fromNow_21 fk_12_44 (Or.inr ⟨_, rfl⟩) (Or.inl (by decide)) ?_
        refine x_iload_n (pc := 24) dX12_fromNow_24 rfl ?_
        refine m_iald (pc := 25) hM dX12_fromNow_25 (rfl) (by show j < 5; omega) ?_
        refine x_goto (pc := 26) (tgt := 30) dX12_fromNow_26 rfl ?_
        refine m_iast (pc := 30) hM dX12_fromNow_30 (rfl) (by show j < 5; omega) ?_
        refine x_iinc (pc := 31) (lv2 := [_, _]) dX12_fromNow_31 (by decide) rfl rfl (nI_1 _) rfl ?_
        refine x_goto (pc := 34) (tgt := 2) dX12_fromNow_34 rfl ?_
        have e : it f_fn (j + 1) σ = tA (it f_fn j σ) 41 j (if (it f_fn j σ).1 15 ≤ nI j then -1 else (it f_fn j σ).2.2 14 j) := rfl
        first | rw [if_pos h_17] at e | rw [if_neg h_17] at e
        rw [← e]
        exact ih (j + 1) (by omega)
  refine x_iconst (pc := 0) (v := 0) dX12_fromNow_0 rfl ?_
  refine x_istore_n (pc := 1) (lv2 := [_, _]) dX12_fromNow_1 (by decide) rfl rfl ?_
  exact L 5 0 (by omega)
def zz (s : Int32) : Nat → Int32
  | 0 => s
  | n + 1 => zz s n * 1103515245 + 12345
def dw (z : Int32) : Int32 := (z.toUInt32 >>> ((9 : Int32).toUInt32 &&& Int32.toUInt32 31)).toInt32 - (z.toUInt32 >>> ((9 : Int32).toUInt32 &&& Int32.toUInt32 31)).toInt32 / 16 * 16
def f_dr (sd : Int32) : Nat → MS → MS := fun j s => tA s 9 j (dw (zz sd (j + 1)))
theorem c_draws (hM : MOK μ a) (sd : Int32) : XM Γ zX12_draws 1 0 0 [.ref a.1, .int sd] (MV μ a σ) (rv (MV μ a (it (f_dr sd) 7 σ))) := by
  refine XM.of 2 rfl (by decide) (Nat.le_of_ble_eq_true rfl) ?_
  have L : ∀ (m j : Nat), j + m = 7 → WA Γ zX12_draws (xrm 1 0 0) 0 0 0 0 (rv (MV μ a (it (f_dr sd) 7 σ))) 4 [some (.ref a.1), some (.int sd), some (.int (zz sd j)), some (.int (nI j))] [] (MV μ a (it (f_dr sd) j σ)) := by
    intro m
    induction m with
    | zero =>
      intro j hj
      obtain rfl : j = 7 := by omega
      refine x_iload_n (pc := 4) dX12_draws_4 rfl ?_
      refine x_bipush (pc := 5) (v := 7) dX12_draws_5 rfl ?_
      refine x_icmp_ge (pc := 7) (tgt := 39) dX12_draws_7 rfl (fun h_7 => ?_) (fun h_7 => absurd (by decide) h_7)
      refine x_return (pc := 39) dX12_draws_39 rfl ?_
      exact ⟨rfl, rfl⟩
    | succ m ih =>
      intro j hj
      refine x_iload_n (pc := 4) dX12_draws_4 rfl ?_
      refine x_bipush (pc := 5) (v := 7) dX12_draws_5 rfl ?_
      refine x_icmp_ge (pc := 7) (tgt := 39) dX12_draws_7 rfl (fun h_7 => absurd h_7 (lit_le (n := 7) j (by omega) (by omega))) (fun h_7 => ?_)
      refine x_iload_n (pc := 10) dX12_draws_10 rfl ?_
      refine x_ldcw (pc := 11) dX12_draws_11 kc_12_364 ?_
      refine x_imul (pc := 14) dX12_draws_14 ?_
      refine x_sipush (pc := 15) (v := 12345) dX12_draws_15 rfl ?_
      refine x_iadd (pc := 18) dX12_draws_18 ?_
      refine x_istore_n (pc := 19) (lv2 := [_, _, _, _]) dX12_draws_19 (by decide) rfl rfl ?_
      refine x_aload_n (pc := 20) dX12_draws_20 rfl ?_
      refine m_getR (pc := 21) hM dX12_draws_21 fk_12_29 (Or.inr ⟨_, rfl⟩) (Or.inl (by decide)) ?_
      refine x_iload_n (pc := 24) dX12_draws_24 rfl ?_
      refine x_iload_n (pc := 25) dX12_draws_25 rfl ?_
      refine x_bipush (pc := 26) (v := 9) dX12_draws_26 rfl ?_
      refine x_iushr (pc := 28) dX12_draws_28 ?_
      refine x_bipush (pc := 29) (v := 16) dX12_draws_29 rfl ?_
      refine x_irem (pc := 31) dX12_draws_31 (by decide) ?_
      refine m_iast (pc := 32) hM dX12_draws_32 (rfl) (by show j < 7; omega) ?_
      refine x_iinc (pc := 33) (lv2 := [_, _, _, _]) dX12_draws_33 (by decide) rfl rfl (nI_1 _) rfl ?_
      refine x_goto (pc := 36) (tgt := 4) dX12_draws_36 rfl ?_
      exact ih (j + 1) (by omega)
  refine x_iload_n (pc := 0) dX12_draws_0 rfl ?_
  refine x_istore_n (pc := 1) (lv2 := [_, _, _, _]) dX12_draws_1 (by decide) rfl rfl ?_
  refine x_iconst (pc := 2) (v := 0) dX12_draws_2 rfl ?_
  refine x_istore_n (pc := 3) (lv2 := [_, _, _, _]) dX12_draws_3 (by decide) rfl rfl ?_
  exact L 7 0 (by omega)
def f_i1 : Nat → MS → MS := fun j s => tA s 48 j (s.2.2 7 j)
def f_i2 : Nat → MS → MS := fun j s => tA s 48 (6 + j) (s.2.2 8 j)
def f_i3 : Nat → MS → MS := fun j s => tA s 48 (10 + j) (s.2.2 9 j)
def f_i4a : Nat → MS → MS := fun j s => tA s 49 j (s.2.2 11 j)
def f_i4b : Nat → MS → MS := fun j s => tA s 49 (5 + j) (s.2.2 12 j)
def f_i4c : Nat → MS → MS := fun j s => tA s 49 (10 + j) (s.2.2 13 j)
def f_i4d : Nat → MS → MS := fun j s => tA s 49 (15 + j) (s.2.2 14 j)
def f_i4 : Nat → MS → MS := fun j s => f_i4d j (f_i4c j (f_i4b j (f_i4a j s)))
def imA (σ : MS) : MS := it f_i4 5 (it f_i3 7 (it f_i2 4 (it f_i1 6 σ)))
def imR (σ : MS) : MS := tI (tI (imA σ) 50 ((imA σ).1 15)) 51 ((imA σ).1 4)
theorem nI_o (k j : Nat) : nI k + nI j = nI (k + j) := nI_add k j
theorem c_image (hM : MOK μ a) : XM Γ zX12_image 1 0 0 [.ref a.1] (MV μ a σ) (rt (.int ((imA σ).1 15)) (MV μ a (imR σ))) := by
  refine XM.of 1 rfl (by decide) (Nat.le_of_ble_eq_true rfl) ?_
  have L4 : ∀ (m j : Nat), j + m = 5 → WA Γ zX12_image (xrm 1 0 0) 0 0 0 0 (rt (.int ((imA σ).1 15)) (MV μ a (imR σ))) 85 [some (.ref a.1), some (.int (nI j))] [] (MV μ a (it f_i4 j (it f_i3 7 (it f_i2 4 (it f_i1 6 σ))))) := by
    intro m
    induction m with
    | zero =>
      intro j hj
      obtain rfl : j = 5 := by omega
      refine x_iload_n (pc := 85) dX12_image_85 rfl ?_
      refine x_iconst (pc := 86) (v := 5) dX12_image_86 rfl ?_
      refine x_icmp_ge (pc := 87) (tgt := 152) dX12_image_87 rfl (fun h_87 => ?_) (fun h_87 => absurd (by decide) h_87)
      refine x_aload_n (pc := 152) dX12_image_152 rfl ?_
      refine x_aload_n (pc := 153) dX12_image_153 rfl ?_
      refine m_getI (pc := 154) hM dX12_image_154 fk_12_106 (Or.inl rfl) ?_
      refine m_putI (pc := 157) hM dX12_image_157 fk_12_83 rfl (Or.inl rfl) ?_
      refine x_aload_n (pc := 160) dX12_image_160 rfl ?_
      refine x_aload_n (pc := 161) dX12_image_161 rfl ?_
      refine m_getI (pc := 162) hM dX12_image_162 fk_12_263 (Or.inl rfl) ?_
      refine m_putI (pc := 165) hM dX12_image_165 fk_12_370 rfl (Or.inl rfl) ?_
      refine x_aload_n (pc := 168) dX12_image_168 rfl ?_
      refine m_getI (pc := 169) hM dX12_image_169 fk_12_106 (Or.inl rfl) ?_
      refine x_ireturn (pc := 172) dX12_image_172 rfl rfl ?_
      exact ⟨rfl, rfl⟩
    | succ m ih =>
      intro j hj
      refine x_iload_n (pc := 85) dX12_image_85 rfl ?_
      refine x_iconst (pc := 86) (v := 5) dX12_image_86 rfl ?_
      refine x_icmp_ge (pc := 87) (tgt := 152) dX12_image_87 rfl (fun h_87 => absurd h_87 (lit_le (n := 5) j (by omega) (by omega))) (fun h_87 => ?_)
      refine x_aload_n (pc := 90) dX12_image_90 rfl ?_
      refine m_getR (pc := 91) hM dX12_image_91 fk_12_80 (Or.inr ⟨_, rfl⟩) (Or.inl (by decide)) ?_
      refine x_iload_n (pc := 94) dX12_image_94 rfl ?_
      refine x_aload_n (pc := 95) dX12_image_95 rfl ?_
      refine m_getR (pc := 96) hM dX12_image_96 fk_12_35 (Or.inr ⟨_, rfl⟩) (Or.inl (by decide)) ?_
      refine x_iload_n (pc := 99) dX12_image_99 rfl ?_
      refine m_iald (pc := 100) hM dX12_image_100 (rfl) (by show j < 5; omega) ?_
      refine m_iast (pc := 101) hM dX12_image_101 (rfl) (by show j < 20; omega) ?_
      refine x_aload_n (pc := 102) dX12_image_102 rfl ?_
      refine m_getR (pc := 103) hM dX12_image_103 fk_12_80 (Or.inr ⟨_, rfl⟩) (Or.inl (by decide)) ?_
      refine x_iconst (pc := 106) (v := 5) dX12_image_106 rfl ?_
      refine x_iload_n (pc := 107) dX12_image_107 rfl ?_
      refine x_iadd (pc := 108) dX12_image_108 ?_
      refine x_aload_n (pc := 109) dX12_image_109 rfl ?_
      refine m_getR (pc := 110) hM dX12_image_110 fk_12_38 (Or.inr ⟨_, rfl⟩) (Or.inl (by decide)) ?_
      refine x_iload_n (pc := 113) dX12_image_113 rfl ?_
      refine m_iald (pc := 114) hM dX12_image_114 (rfl) (by show j < 5; omega) ?_
      refine m_iast (pc := 115) hM dX12_image_115 (nI_add 5 j) (by show 5 + j < 20; omega) ?_
      refine x_aload_n (pc := 116) dX12_image_116 rfl ?_
      refine m_getR (pc := 117) hM dX12_image_117 fk_12_80 (Or.inr ⟨_, rfl⟩) (Or.inl (by decide)) ?_
      refine x_bipush (pc := 120) (v := 10) dX12_image_120 rfl ?_
      refine x_iload_n (pc := 122) dX12_image_122 rfl ?_
      refine x_iadd (pc := 123) dX12_image_123 ?_
      refine x_aload_n (pc := 124) dX12_image_124 rfl ?_
      refine m_getR (pc := 125) hM dX12_image_125 fk_12_41 (Or.inr ⟨_, rfl⟩) (Or.inl (by decide)) ?_
      refine x_iload_n (pc := 128) dX12_image_128 rfl ?_
      refine m_iald (pc := 129) hM dX12_image_129 (rfl) (by show j < 5; omega) ?_
      refine m_iast (pc := 130) hM dX12_image_130 (nI_add 10 j) (by show 10 + j < 20; omega) ?_
      refine x_aload_n (pc := 131) dX12_image_131 rfl ?_
      refine m_getR (pc := 132) hM dX12_image_132 fk_12_80 (Or.inr ⟨_, rfl⟩) (Or.inl (by decide)) ?_
      refine x_bipush (pc := 135) (v := 15) dX12_image_135 rfl ?_
      refine x_iload_n (pc := 137) dX12_image_137 rfl ?_
      refine x_iadd (pc := 138) dX12_image_138 ?_
      refine x_aload_n (pc := 139) dX12_image_139 rfl ?_
      refine m_getR (pc := 140) hM dX12_image_140 fk_12_44 (Or.inr ⟨_, rfl⟩) (Or.inl (by decide)) ?_
      refine x_iload_n (pc := 143) dX12_image_143 rfl ?_
      refine m_iald (pc := 144) hM dX12_image_144 (rfl) (by show j < 5; omega) ?_
      refine m_iast (pc := 145) hM dX12_image_145 (nI_add 15 j) (by show 15 + j < 20; omega) ?_
      refine x_iinc (pc := 146) (lv2 := [_, _]) dX12_image_146 (by decide) rfl rfl (nI_1 _) rfl ?_
      refine x_goto (pc := 149) (tgt := 85) dX12_image_149 rfl ?_
      exact ih (j + 1) (by omega)
  have L3 : ∀ (m j : Nat), j + m = 7 → WA Γ zX12_image (xrm 1 0 0) 0 0 0 0 (rt (.int ((imA σ).1 15)) (MV μ a (imR σ))) 56 [some (.ref a.1), some (.int (nI j))] [] (MV μ a (it f_i3 j (it f_i2 4 (it f_i1 6 σ)))) := by
    intro m
    induction m with
    | zero =>
      intro j hj
      obtain rfl : j = 7 := by omega
      refine x_iload_n (pc := 56) dX12_image_56 rfl ?_
      refine x_bipush (pc := 57) (v := 7) dX12_image_57 rfl ?_
      refine x_icmp_ge (pc := 59) (tgt := 83) dX12_image_59 rfl (fun h_59 => ?_) (fun h_59 => absurd (by decide) h_59)
      refine x_iconst (pc := 83) (v := 0) dX12_image_83 rfl ?_
      refine x_istore_n (pc := 84) (lv2 := [_, _]) dX12_image_84 (by decide) rfl rfl ?_
      exact L4 5 0 (by omega)
    | succ m ih =>
      intro j hj
      refine x_iload_n (pc := 56) dX12_image_56 rfl ?_
      refine x_bipush (pc := 57) (v := 7) dX12_image_57 rfl ?_
      refine x_icmp_ge (pc := 59) (tgt := 83) dX12_image_59 rfl (fun h_59 => absurd h_59 (lit_le (n := 7) j (by omega) (by omega))) (fun h_59 => ?_)
      refine x_aload_n (pc := 62) dX12_image_62 rfl ?_
      refine m_getR (pc := 63) hM dX12_image_63 fk_12_77 (Or.inr ⟨_, rfl⟩) (Or.inl (by decide)) ?_
      refine x_bipush (pc := 66) (v := 10) dX12_image_66 rfl ?_
      refine x_iload_n (pc := 68) dX12_image_68 rfl ?_
      refine x_iadd (pc := 69) dX12_image_69 ?_
      refine x_aload_n (pc := 70) dX12_image_70 rfl ?_
      refine m_getR (pc := 71) hM dX12_image_71 fk_12_29 (Or.inr ⟨_, rfl⟩) (Or.inl (by decide)) ?_
      refine x_iload_n (pc := 74) dX12_image_74 rfl ?_
      refine m_iald (pc := 75) hM dX12_image_75 (rfl) (by show j < 7; omega) ?_
      refine m_iast (pc := 76) hM dX12_image_76 (nI_add 10 j) (by show 10 + j < 17; omega) ?_
      refine x_iinc (pc := 77) (lv2 := [_, _]) dX12_image_77 (by decide) rfl rfl (nI_1 _) rfl ?_
      refine x_goto (pc := 80) (tgt := 56) dX12_image_80 rfl ?_
      exact ih (j + 1) (by omega)
  have L2 : ∀ (m j : Nat), j + m = 4 → WA Γ zX12_image (xrm 1 0 0) 0 0 0 0 (rt (.int ((imA σ).1 15)) (MV μ a (imR σ))) 28 [some (.ref a.1), some (.int (nI j))] [] (MV μ a (it f_i2 j (it f_i1 6 σ))) := by
    intro m
    induction m with
    | zero =>
      intro j hj
      obtain rfl : j = 4 := by omega
      refine x_iload_n (pc := 28) dX12_image_28 rfl ?_
      refine x_iconst (pc := 29) (v := 4) dX12_image_29 rfl ?_
      refine x_icmp_ge (pc := 30) (tgt := 54) dX12_image_30 rfl (fun h_30 => ?_) (fun h_30 => absurd (by decide) h_30)
      refine x_iconst (pc := 54) (v := 0) dX12_image_54 rfl ?_
      refine x_istore_n (pc := 55) (lv2 := [_, _]) dX12_image_55 (by decide) rfl rfl ?_
      exact L3 7 0 (by omega)
    | succ m ih =>
      intro j hj
      refine x_iload_n (pc := 28) dX12_image_28 rfl ?_
      refine x_iconst (pc := 29) (v := 4) dX12_image_29 rfl ?_
      refine x_icmp_ge (pc := 30) (tgt := 54) dX12_image_30 rfl (fun h_30 => absurd h_30 (lit_le (n := 4) j (by omega) (by omega))) (fun h_30 => ?_)
      refine x_aload_n (pc := 33) dX12_image_33 rfl ?_
      refine m_getR (pc := 34) hM dX12_image_34 fk_12_77 (Or.inr ⟨_, rfl⟩) (Or.inl (by decide)) ?_
      refine x_bipush (pc := 37) (v := 6) dX12_image_37 rfl ?_
      refine x_iload_n (pc := 39) dX12_image_39 rfl ?_
      refine x_iadd (pc := 40) dX12_image_40 ?_
      refine x_aload_n (pc := 41) dX12_image_41 rfl ?_
      refine m_getR (pc := 42) hM dX12_image_42 fk_12_26 (Or.inr ⟨_, rfl⟩) (Or.inl (by decide)) ?_
      refine x_iload_n (pc := 45) dX12_image_45 rfl ?_
      refine m_iald (pc := 46) hM dX12_image_46 (rfl) (by show j < 4; omega) ?_
      refine m_iast (pc := 47) hM dX12_image_47 (nI_add 6 j) (by show 6 + j < 17; omega) ?_
      refine x_iinc (pc := 48) (lv2 := [_, _]) dX12_image_48 (by decide) rfl rfl (nI_1 _) rfl ?_
      refine x_goto (pc := 51) (tgt := 28) dX12_image_51 rfl ?_
      exact ih (j + 1) (by omega)
  have L1 : ∀ (m j : Nat), j + m = 6 → WA Γ zX12_image (xrm 1 0 0) 0 0 0 0 (rt (.int ((imA σ).1 15)) (MV μ a (imR σ))) 2 [some (.ref a.1), some (.int (nI j))] [] (MV μ a (it f_i1 j σ)) := by
    intro m
    induction m with
    | zero =>
      intro j hj
      obtain rfl : j = 6 := by omega
      refine x_iload_n (pc := 2) dX12_image_2 rfl ?_
      refine x_bipush (pc := 3) (v := 6) dX12_image_3 rfl ?_
      refine x_icmp_ge (pc := 5) (tgt := 26) dX12_image_5 rfl (fun h_5 => ?_) (fun h_5 => absurd (by decide) h_5)
      refine x_iconst (pc := 26) (v := 0) dX12_image_26 rfl ?_
      refine x_istore_n (pc := 27) (lv2 := [_, _]) dX12_image_27 (by decide) rfl rfl ?_
      exact L2 4 0 (by omega)
    | succ m ih =>
      intro j hj
      refine x_iload_n (pc := 2) dX12_image_2 rfl ?_
      refine x_bipush (pc := 3) (v := 6) dX12_image_3 rfl ?_
      refine x_icmp_ge (pc := 5) (tgt := 26) dX12_image_5 rfl (fun h_5 => absurd h_5 (lit_le (n := 6) j (by omega) (by omega))) (fun h_5 => ?_)
      refine x_aload_n (pc := 8) dX12_image_8 rfl ?_
      refine m_getR (pc := 9) hM dX12_image_9 fk_12_77 (Or.inr ⟨_, rfl⟩) (Or.inl (by decide)) ?_
      refine x_iload_n (pc := 12) dX12_image_12 rfl ?_
      refine x_aload_n (pc := 13) dX12_image_13 rfl ?_
      refine m_getR (pc := 14) hM dX12_image_14 fk_12_23 (Or.inr ⟨_, rfl⟩) (Or.inl (by decide)) ?_
      refine x_iload_n (pc := 17) dX12_image_17 rfl ?_
      refine m_iald (pc := 18) hM dX12_image_18 (rfl) (by show j < 6; omega) ?_
      refine m_iast (pc := 19) hM dX12_image_19 (rfl) (by show j < 17; omega) ?_
      refine x_iinc (pc := 20) (lv2 := [_, _]) dX12_image_20 (by decide) rfl rfl (nI_1 _) rfl ?_
      refine x_goto (pc := 23) (tgt := 2) dX12_image_23 rfl ?_
      exact ih (j + 1) (by omega)
  refine x_iconst (pc := 0) (v := 0) dX12_image_0 rfl ?_
  refine x_istore_n (pc := 1) (lv2 := [_, _]) dX12_image_1 (by decide) rfl rfl ?_
  exact L1 6 0 (by omega)
def f_b1 : Nat → MS → MS := fun j s => tA s 7 j (s.2.2 48 j)
def f_b2 : Nat → MS → MS := fun j s => tA s 8 j (s.2.2 48 (6 + j))
def f_b3 : Nat → MS → MS := fun j s => tA s 9 j (s.2.2 48 (10 + j))
def f_b4a : Nat → MS → MS := fun j s => tA s 11 j (s.2.2 49 j)
def f_b4b : Nat → MS → MS := fun j s => tA s 12 j (s.2.2 49 (5 + j))
def f_b4c : Nat → MS → MS := fun j s => tA s 13 j (s.2.2 49 (10 + j))
def f_b4d : Nat → MS → MS := fun j s => tA s 14 j (s.2.2 49 (15 + j))
def f_b4 : Nat → MS → MS := fun j s => f_b4d j (f_b4c j (f_b4b j (f_b4a j s)))
def bkA (σ : MS) : MS := it f_b4 5 (it f_b3 7 (it f_b2 4 (it f_b1 6 σ)))
def bkR (σ : MS) : MS := tI (tI (bkA σ) 15 ((bkA σ).1 50)) 4 ((bkA σ).1 51)
theorem c_back (hM : MOK μ a) (h50 : ¬ σ.1 50 = -1) : XM Γ zX12_back 1 0 0 [.ref a.1] (MV μ a σ) (rt (.int ((bkA σ).1 50)) (MV μ a (bkR σ))) := by
  refine XM.of 1 rfl (by decide) (Nat.le_of_ble_eq_true rfl) ?_
  have L4 : ∀ (m j : Nat), j + m = 5 → WA Γ zX12_back (xrm 1 0 0) 0 0 0 0 (rt (.int ((bkA σ).1 50)) (MV μ a (bkR σ))) 96 [some (.ref a.1), some (.int (nI j))] [] (MV μ a (it f_b4 j (it f_b3 7 (it f_b2 4 (it f_b1 6 σ))))) := by
    intro m
    induction m with
    | zero =>
      intro j hj
      obtain rfl : j = 5 := by omega
      refine x_iload_n (pc := 96) dX12_back_96 rfl ?_
      refine x_iconst (pc := 97) (v := 5) dX12_back_97 rfl ?_
      refine x_icmp_ge (pc := 98) (tgt := 163) dX12_back_98 rfl (fun h_98 => ?_) (fun h_98 => absurd (by decide) h_98)
      refine x_aload_n (pc := 163) dX12_back_163 rfl ?_
      refine x_aload_n (pc := 164) dX12_back_164 rfl ?_
      refine m_getI (pc := 165) hM dX12_back_165 fk_12_83 (Or.inl rfl) ?_
      refine m_putI (pc := 168) hM dX12_back_168 fk_12_106 rfl (Or.inl rfl) ?_
      refine x_aload_n (pc := 171) dX12_back_171 rfl ?_
      refine x_aload_n (pc := 172) dX12_back_172 rfl ?_
      refine m_getI (pc := 173) hM dX12_back_173 fk_12_370 (Or.inl rfl) ?_
      refine m_putI (pc := 176) hM dX12_back_176 fk_12_263 rfl (Or.inl rfl) ?_
      refine x_aload_n (pc := 179) dX12_back_179 rfl ?_
      refine m_getI (pc := 180) hM dX12_back_180 fk_12_106 (Or.inl rfl) ?_
      refine x_ireturn (pc := 183) dX12_back_183 rfl rfl ?_
      exact ⟨rfl, rfl⟩
    | succ m ih =>
      intro j hj
      refine x_iload_n (pc := 96) dX12_back_96 rfl ?_
      refine x_iconst (pc := 97) (v := 5) dX12_back_97 rfl ?_
      refine x_icmp_ge (pc := 98) (tgt := 163) dX12_back_98 rfl (fun h_98 => absurd h_98 (lit_le (n := 5) j (by omega) (by omega))) (fun h_98 => ?_)
      refine x_aload_n (pc := 101) dX12_back_101 rfl ?_
      refine m_getR (pc := 102) hM dX12_back_102 fk_12_35 (Or.inr ⟨_, rfl⟩) (Or.inl (by decide)) ?_
      refine x_iload_n (pc := 105) dX12_back_105 rfl ?_
      refine x_aload_n (pc := 106) dX12_back_106 rfl ?_
      refine m_getR (pc := 107) hM dX12_back_107 fk_12_80 (Or.inr ⟨_, rfl⟩) (Or.inl (by decide)) ?_
      refine x_iload_n (pc := 110) dX12_back_110 rfl ?_
      refine m_iald (pc := 111) hM dX12_back_111 (rfl) (by show j < 20; omega) ?_
      refine m_iast (pc := 112) hM dX12_back_112 (rfl) (by show j < 5; omega) ?_
      refine x_aload_n (pc := 113) dX12_back_113 rfl ?_
      refine m_getR (pc := 114) hM dX12_back_114 fk_12_38 (Or.inr ⟨_, rfl⟩) (Or.inl (by decide)) ?_
      refine x_iload_n (pc := 117) dX12_back_117 rfl ?_
      refine x_aload_n (pc := 118) dX12_back_118 rfl ?_
      refine m_getR (pc := 119) hM dX12_back_119 fk_12_80 (Or.inr ⟨_, rfl⟩) (Or.inl (by decide)) ?_
      refine x_iconst (pc := 122) (v := 5) dX12_back_122 rfl ?_
      refine x_iload_n (pc := 123) dX12_back_123 rfl ?_
      refine x_iadd (pc := 124) dX12_back_124 ?_
      refine m_iald (pc := 125) hM dX12_back_125 (nI_add 5 j) (by show 5 + j < 20; omega) ?_
      refine m_iast (pc := 126) hM dX12_back_126 (rfl) (by show j < 5; omega) ?_
      refine x_aload_n (pc := 127) dX12_back_127 rfl ?_
      refine m_getR (pc := 128) hM dX12_back_128 fk_12_41 (Or.inr ⟨_, rfl⟩) (Or.inl (by decide)) ?_
      refine x_iload_n (pc := 131) dX12_back_131 rfl ?_
      refine x_aload_n (pc := 132) dX12_back_132 rfl ?_
      refine m_getR (pc := 133) hM dX12_back_133 fk_12_80 (Or.inr ⟨_, rfl⟩) (Or.inl (by decide)) ?_
      refine x_bipush (pc := 136) (v := 10) dX12_back_136 rfl ?_
      refine x_iload_n (pc := 138) dX12_back_138 rfl ?_
      refine x_iadd (pc := 139) dX12_back_139 ?_
      refine m_iald (pc := 140) hM dX12_back_140 (nI_add 10 j) (by show 10 + j < 20; omega) ?_
      refine m_iast (pc := 141) hM dX12_back_141 (rfl) (by show j < 5; omega) ?_
      refine x_aload_n (pc := 142) dX12_back_142 rfl ?_
      refine m_getR (pc := 143) hM dX12_back_143 fk_12_44 (Or.inr ⟨_, rfl⟩) (Or.inl (by decide)) ?_
      refine x_iload_n (pc := 146) dX12_back_146 rfl ?_
      refine x_aload_n (pc := 147) dX12_back_147 rfl ?_
      refine m_getR (pc := 148) hM dX12_back_148 fk_12_80 (Or.inr ⟨_, rfl⟩) (Or.inl (by decide)) ?_
      refine x_bipush (pc := 151) (v := 15) dX12_back_151 rfl ?_
      refine x_iload_n (pc := 153) dX12_back_153 rfl ?_
      refine x_iadd (pc := 154) dX12_back_154 ?_
      refine m_iald (pc := 155) hM dX12_back_155 (nI_add 15 j) (by show 15 + j < 20; omega) ?_
      refine m_iast (pc := 156) hM dX12_back_156 (rfl) (by show j < 5; omega) ?_
      refine x_iinc (pc := 157) (lv2 := [_, _]) dX12_back_157 (by decide) rfl rfl (nI_1 _) rfl ?_
      refine x_goto (pc := 160) (tgt := 96) dX12_back_160 rfl ?_
      exact ih (j + 1) (by omega)
  have L3 : ∀ (m j : Nat), j + m = 7 → WA Γ zX12_back (xrm 1 0 0) 0 0 0 0 (rt (.int ((bkA σ).1 50)) (MV μ a (bkR σ))) 67 [some (.ref a.1), some (.int (nI j))] [] (MV μ a (it f_b3 j (it f_b2 4 (it f_b1 6 σ)))) := by
    intro m
    induction m with
    | zero =>
      intro j hj
      obtain rfl : j = 7 := by omega
      refine x_iload_n (pc := 67) dX12_back_67 rfl ?_
      refine x_bipush (pc := 68) (v := 7) dX12_back_68 rfl ?_
      refine x_icmp_ge (pc := 70) (tgt := 94) dX12_back_70 rfl (fun h_70 => ?_) (fun h_70 => absurd (by decide) h_70)
      refine x_iconst (pc := 94) (v := 0) dX12_back_94 rfl ?_
      refine x_istore_n (pc := 95) (lv2 := [_, _]) dX12_back_95 (by decide) rfl rfl ?_
      exact L4 5 0 (by omega)
    | succ m ih =>
      intro j hj
      refine x_iload_n (pc := 67) dX12_back_67 rfl ?_
      refine x_bipush (pc := 68) (v := 7) dX12_back_68 rfl ?_
      refine x_icmp_ge (pc := 70) (tgt := 94) dX12_back_70 rfl (fun h_70 => absurd h_70 (lit_le (n := 7) j (by omega) (by omega))) (fun h_70 => ?_)
      refine x_aload_n (pc := 73) dX12_back_73 rfl ?_
      refine m_getR (pc := 74) hM dX12_back_74 fk_12_29 (Or.inr ⟨_, rfl⟩) (Or.inl (by decide)) ?_
      refine x_iload_n (pc := 77) dX12_back_77 rfl ?_
      refine x_aload_n (pc := 78) dX12_back_78 rfl ?_
      refine m_getR (pc := 79) hM dX12_back_79 fk_12_77 (Or.inr ⟨_, rfl⟩) (Or.inl (by decide)) ?_
      refine x_bipush (pc := 82) (v := 10) dX12_back_82 rfl ?_
      refine x_iload_n (pc := 84) dX12_back_84 rfl ?_
      refine x_iadd (pc := 85) dX12_back_85 ?_
      refine m_iald (pc := 86) hM dX12_back_86 (nI_add 10 j) (by show 10 + j < 17; omega) ?_
      refine m_iast (pc := 87) hM dX12_back_87 (rfl) (by show j < 7; omega) ?_
      refine x_iinc (pc := 88) (lv2 := [_, _]) dX12_back_88 (by decide) rfl rfl (nI_1 _) rfl ?_
      refine x_goto (pc := 91) (tgt := 67) dX12_back_91 rfl ?_
      exact ih (j + 1) (by omega)
  have L2 : ∀ (m j : Nat), j + m = 4 → WA Γ zX12_back (xrm 1 0 0) 0 0 0 0 (rt (.int ((bkA σ).1 50)) (MV μ a (bkR σ))) 39 [some (.ref a.1), some (.int (nI j))] [] (MV μ a (it f_b2 j (it f_b1 6 σ))) := by
    intro m
    induction m with
    | zero =>
      intro j hj
      obtain rfl : j = 4 := by omega
      refine x_iload_n (pc := 39) dX12_back_39 rfl ?_
      refine x_iconst (pc := 40) (v := 4) dX12_back_40 rfl ?_
      refine x_icmp_ge (pc := 41) (tgt := 65) dX12_back_41 rfl (fun h_41 => ?_) (fun h_41 => absurd (by decide) h_41)
      refine x_iconst (pc := 65) (v := 0) dX12_back_65 rfl ?_
      refine x_istore_n (pc := 66) (lv2 := [_, _]) dX12_back_66 (by decide) rfl rfl ?_
      exact L3 7 0 (by omega)
    | succ m ih =>
      intro j hj
      refine x_iload_n (pc := 39) dX12_back_39 rfl ?_
      refine x_iconst (pc := 40) (v := 4) dX12_back_40 rfl ?_
      refine x_icmp_ge (pc := 41) (tgt := 65) dX12_back_41 rfl (fun h_41 => absurd h_41 (lit_le (n := 4) j (by omega) (by omega))) (fun h_41 => ?_)
      refine x_aload_n (pc := 44) dX12_back_44 rfl ?_
      refine m_getR (pc := 45) hM dX12_back_45 fk_12_26 (Or.inr ⟨_, rfl⟩) (Or.inl (by decide)) ?_
      refine x_iload_n (pc := 48) dX12_back_48 rfl ?_
      refine x_aload_n (pc := 49) dX12_back_49 rfl ?_
      refine m_getR (pc := 50) hM dX12_back_50 fk_12_77 (Or.inr ⟨_, rfl⟩) (Or.inl (by decide)) ?_
      refine x_bipush (pc := 53) (v := 6) dX12_back_53 rfl ?_
      refine x_iload_n (pc := 55) dX12_back_55 rfl ?_
      refine x_iadd (pc := 56) dX12_back_56 ?_
      refine m_iald (pc := 57) hM dX12_back_57 (nI_add 6 j) (by show 6 + j < 17; omega) ?_
      refine m_iast (pc := 58) hM dX12_back_58 (rfl) (by show j < 4; omega) ?_
      refine x_iinc (pc := 59) (lv2 := [_, _]) dX12_back_59 (by decide) rfl rfl (nI_1 _) rfl ?_
      refine x_goto (pc := 62) (tgt := 39) dX12_back_62 rfl ?_
      exact ih (j + 1) (by omega)
  have L1 : ∀ (m j : Nat), j + m = 6 → WA Γ zX12_back (xrm 1 0 0) 0 0 0 0 (rt (.int ((bkA σ).1 50)) (MV μ a (bkR σ))) 13 [some (.ref a.1), some (.int (nI j))] [] (MV μ a (it f_b1 j σ)) := by
    intro m
    induction m with
    | zero =>
      intro j hj
      obtain rfl : j = 6 := by omega
      refine x_iload_n (pc := 13) dX12_back_13 rfl ?_
      refine x_bipush (pc := 14) (v := 6) dX12_back_14 rfl ?_
      refine x_icmp_ge (pc := 16) (tgt := 37) dX12_back_16 rfl (fun h_16 => ?_) (fun h_16 => absurd (by decide) h_16)
      refine x_iconst (pc := 37) (v := 0) dX12_back_37 rfl ?_
      refine x_istore_n (pc := 38) (lv2 := [_, _]) dX12_back_38 (by decide) rfl rfl ?_
      exact L2 4 0 (by omega)
    | succ m ih =>
      intro j hj
      refine x_iload_n (pc := 13) dX12_back_13 rfl ?_
      refine x_bipush (pc := 14) (v := 6) dX12_back_14 rfl ?_
      refine x_icmp_ge (pc := 16) (tgt := 37) dX12_back_16 rfl (fun h_16 => absurd h_16 (lit_le (n := 6) j (by omega) (by omega))) (fun h_16 => ?_)
      refine x_aload_n (pc := 19) dX12_back_19 rfl ?_
      refine m_getR (pc := 20) hM dX12_back_20 fk_12_23 (Or.inr ⟨_, rfl⟩) (Or.inl (by decide)) ?_
      refine x_iload_n (pc := 23) dX12_back_23 rfl ?_
      refine x_aload_n (pc := 24) dX12_back_24 rfl ?_
      refine m_getR (pc := 25) hM dX12_back_25 fk_12_77 (Or.inr ⟨_, rfl⟩) (Or.inl (by decide)) ?_
      refine x_iload_n (pc := 28) dX12_back_28 rfl ?_
      refine m_iald (pc := 29) hM dX12_back_29 (rfl) (by show j < 17; omega) ?_
      refine m_iast (pc := 30) hM dX12_back_30 (rfl) (by show j < 6; omega) ?_
      refine x_iinc (pc := 31) (lv2 := [_, _]) dX12_back_31 (by decide) rfl rfl (nI_1 _) rfl ?_
      refine x_goto (pc := 34) (tgt := 13) dX12_back_34 rfl ?_
      exact ih (j + 1) (by omega)
  refine x_aload_n (pc := 0) dX12_back_0 rfl ?_
  refine m_getI (pc := 1) hM dX12_back_1 fk_12_83 (Or.inl rfl) ?_
  refine x_iconst (pc := 4) (v := -1) dX12_back_4 rfl ?_
  refine x_icmp_ne (pc := 5) (tgt := 11) dX12_back_5 rfl (fun h_5 => ?_) (fun h_5 => absurd h_5 (h50))
  refine x_iconst (pc := 11) (v := 0) dX12_back_11 rfl ?_
  refine x_istore_n (pc := 12) (lv2 := [_, _]) dX12_back_12 (by decide) rfl rfl ?_
  exact L1 6 0 (by omega)
theorem c_backN (hM : MOK μ a) (h50 : σ.1 50 = -1) : XM Γ zX12_back 1 0 0 [.ref a.1] (MV μ a σ) (rt (.int (-3)) (MV μ a σ)) := by
  refine XM.of 1 rfl (by decide) (Nat.le_of_ble_eq_true rfl) ?_
  refine x_aload_n (pc := 0) dX12_back_0 rfl ?_
  refine m_getI (pc := 1) hM dX12_back_1 fk_12_83 (Or.inl rfl) ?_
  refine x_iconst (pc := 4) (v := -1) dX12_back_4 rfl ?_
  refine x_icmp_ne (pc := 5) (tgt := 11) dX12_back_5 rfl (fun h_5 => absurd (h50) h_5) (fun h_5 => ?_)
  refine x_bipush (pc := 8) (v := -3) dX12_back_8 rfl ?_
  refine x_ireturn (pc := 10) dX12_back_10 rfl rfl ?_
  exact ⟨rfl, rfl⟩
end M32
