/-! the class: rows, sheets -/
/-- a whole row -/
def kS (κ : KS) (o f : Nat) (g : Nat → Int32) : KS := (κ.1, up2 κ.2 o f g)
theorem kA_S {κ : KS} {o f i : Nat} {v : Int32} : kA κ o f i v = kS κ o f (va_up (κ.2 o f) i v) := by
  refine Prod.ext rfl ?_
  funext a c
  show up3 κ.2 o f i v a c = up2 κ.2 o f (va_up (κ.2 o f) i v) a c
  by_cases h : a = o ∧ c = f
  · rw [h.1, h.2, up3_r, up2_s]
  · have : a ≠ o ∨ c ≠ f := by
      by_cases h1 : a = o
      · exact Or.inr (fun h2 => h ⟨h1, h2⟩)
      · exact Or.inl h1
    rw [up3_n this, up2_n this]
theorem kS_s {κ : KS} {o f : Nat} {g : Nat → Int32} : (kS κ o f g).2 o f = g := up2_s
theorem kS_S {κ : KS} {o f : Nat} {g g' : Nat → Int32} : kS (kS κ o f g) o f g' = kS κ o f g' := by
  refine Prod.ext rfl ?_
  funext a c
  show up2 (up2 κ.2 o f g) o f g' a c = up2 κ.2 o f g' a c
  by_cases h : a = o ∧ c = f
  · rw [h.1, h.2, up2_s, up2_s]
  · have : a ≠ o ∨ c ≠ f := by
      by_cases h1 : a = o
      · exact Or.inr (fun h2 => h ⟨h1, h2⟩)
      · exact Or.inl h1
    rw [up2_n this, up2_n this, up2_n this]
theorem kS_A {κ : KS} {o f i : Nat} {v : Int32} {g : Nat → Int32} : kA (kS κ o f g) o f i v = kS κ o f (va_up g i v) := by
  rw [kA_S, kS_s, kS_S]
theorem kq.S {P : Nat → Nat → Prop} {κ κ' : KS} {o k : Nat} {g : Nat → Int32} (h : kq P κ κ') (hp : P o k) : kq P κ (kS κ' o k g) := fun a c hn => ⟨(h a c hn).1, (up2_n (by
  by_cases h1 : a = o
  · by_cases h2 : c = k
    · rw [h1, h2] at hn; exact absurd hp hn
    · exact Or.inr h2
  · exact Or.inl h1)).trans (h a c hn).2⟩
theorem kS_0 {κ : KS} {o f : Nat} {g : Nat → Int32} (h : g = κ.2 o f) : kS κ o f g = κ := by
  refine Prod.ext rfl ?_
  funext a c
  show up2 κ.2 o f g a c = κ.2 a c
  by_cases h2 : a = o ∧ c = f
  · rw [h2.1, h2.2, up2_s, h]
  · exact up2_n (by
      by_cases h1 : a = o
      · exact Or.inr (fun h3 => h2 ⟨h1, h3⟩)
      · exact Or.inl h1)
/-- the first j of a row are as E says -/
def pre (E : Nat → Int32) (g : Nat → Int32) (j : Nat) : Nat → Int32 := fun i => if i < j then E i else g i
theorem pre_0 {E g : Nat → Int32} : pre E g 0 = g := funext fun i => if_neg (by omega)
theorem pre_s {E g : Nat → Int32} {j : Nat} : va_up (pre E g j) j (E j) = pre E g (j + 1) := by
  funext i
  by_cases h : i = j
  · rw [h, va_up_s, pre, if_pos (by omega)]
  · rw [va_up_n h, pre, pre]
    by_cases h2 : i < j
    · rw [if_pos h2, if_pos (by omega)]
    · rw [if_neg h2, if_neg (by omega)]
theorem pre_ge {E g : Nat → Int32} {j i : Nat} (h : j ≤ i) : pre E g j i = g i := if_neg (by omega)
theorem pre_lt {E g : Nat → Int32} {j i : Nat} (h : i < j) : pre E g j i = E i := if_pos h
section M72
variable {Γ : Gm} {μ : Mem} {b : Kb} {κ : KS} {o ci : Nat} {len : Nat → Nat}
theorem k_fill (hK : KO μ b o ci len) (f : Nat) (v : Int32) (hl : len f ≠ 0) (hl2 : len f < 2 ^ 31) : XM Γ zJ7_fill_53178 1 0 0 [.ref (adR b o f), .int v] (KV μ b κ) (rv (KV μ b (kS κ o f (pre (fun _ => v) (κ.2 o f) (len f))))) := by
  refine XM.of 2 rfl (by decide) (Nat.le_of_ble_eq_true rfl) ?_
  have L : ∀ (m j : Nat), j + m = len f → WA Γ zJ7_fill_53178 (xrm 1 0 0) 0 0 0 0 (rv (KV μ b (kS κ o f (pre (fun _ => v) (κ.2 o f) (len f))))) 5 [some (.ref (adR b o f)), some (.int v), some (.int (nI j)), some (.int (nI (len f)))] [] (KV μ b (kS κ o f (pre (fun _ => v) (κ.2 o f) j))) := by
    intro m
    induction m with
    | zero =>
      intro j hj
      obtain rfl : j = len f := by omega
      refine x_iload_n (pc := 5) dJ7_fill_53178_5 rfl ?_
      refine x_iload_n (pc := 6) dJ7_fill_53178_6 rfl ?_
      refine x_icmp_ge (pc := 7) (tgt := 20) dJ7_fill_53178_7 rfl (fun h_7 => ?_) (fun h_7 => absurd (Int32.le_refl _) h_7)
      refine x_return (pc := 20) dJ7_fill_53178_20 rfl ?_
      exact ⟨rfl, rfl⟩
    | succ m ih =>
      intro j hj
      refine x_iload_n (pc := 5) dJ7_fill_53178_5 rfl ?_
      refine x_iload_n (pc := 6) dJ7_fill_53178_6 rfl ?_
      refine x_icmp_ge (pc := 7) (tgt := 20) dJ7_fill_53178_7 rfl (fun h_7 => absurd h_7 (lit_le (n := len f) j (by omega) (by omega))) (fun h_7 => ?_)
      refine x_aload_n (pc := 10) dJ7_fill_53178_10 rfl ?_
      refine x_iload_n (pc := 11) dJ7_fill_53178_11 rfl ?_
      refine x_iload_n (pc := 12) dJ7_fill_53178_12 rfl ?_
      refine k_iast (pc := 13) hK dJ7_fill_53178_13 (rfl) (by omega) (hl2) ?_
      rw [kS_A, pre_s (E := fun _ => v)]
      refine x_iinc (pc := 14) (lv2 := [_, _, _, _]) dJ7_fill_53178_14 (by decide) rfl rfl (nI_1 _) rfl ?_
      refine x_goto (pc := 17) (tgt := 5) dJ7_fill_53178_17 rfl ?_
      exact ih (j + 1) (by omega)
  refine x_iconst (pc := 0) (v := 0) dJ7_fill_53178_0 rfl ?_
  refine x_istore_n (pc := 1) (lv2 := [_, _, _, _]) dJ7_fill_53178_1 (by decide) rfl rfl ?_
  refine x_aload_n (pc := 2) dJ7_fill_53178_2 rfl ?_
  refine k_alen (pc := 3) hK dJ7_fill_53178_3 (hl) rfl ?_
  refine x_istore_n (pc := 4) (lv2 := [_, _, _, _]) dJ7_fill_53178_4 (by decide) rfl rfl ?_
  have h := L (len f) 0 (by omega)
  rw [pre_0, kS_0 rfl] at h
  exact h
def exV (κ : KS) (o f n : Nat) (i v B : Int32) : Int32 × KS := if (0 ≤ i ∧ i < nI n) ∧ (0 ≤ v ∧ v < B) then (κ.2 o f (nn i), kA κ o f (nn i) v) else (-2, κ)
theorem ixD {x : Int32} {n : Nat} (hb : 0 ≤ x ∧ x < nI n) (hn : n < 2 ^ 31) : ∃ j : Nat, j < n ∧ x = nI j := by
  obtain ⟨j, hj, e⟩ := nI_of (Int32.not_lt.mpr hb.1)
  refine ⟨j, ?_, e⟩
  have := hb.2
  rw [e, nI_ltI hj hn] at this
  exact this
theorem k_exchange (hK : KO μ b o ci len) (f : Nat) (i v B : Int32) (hl : len f ≠ 0) (hl2 : len f < 2 ^ 31) : XM Γ zX11_exchange 2 0 0 [.ref (adR b o f), .int i, .int v, .int B] (KV μ b κ) (rt (.int (exV κ o f (len f) i v B).1) (KV μ b (exV κ o f (len f) i v B).2)) := by
  refine XM.of 1 rfl (by decide) (Nat.le_of_ble_eq_true rfl) ?_
  refine x_iload_n (pc := 0) dX11_exchange_0 rfl ?_
  refine x_aload_n (pc := 1) dX11_exchange_1 rfl ?_
  refine k_alen (pc := 2) hK dX11_exchange_2 (hl) rfl ?_
  refine x_callS (pc := 3) (As := [.int _, .int _]) dX11_exchange_3 mX11_isBelow lk_11_104 (k_isBelow _ _) rfl rfl (Nat.le_of_ble_eq_true rfl) ⟨by decide, by decide⟩ ⟨Nat.zero_le _, Nat.zero_le _⟩ (k_rt ?_)
  refine x_if_eq (pc := 6) (tgt := 17) dX11_exchange_6 rfl (fun h_6 => ?_) (fun h_6 => ?_)
  · refine x_bipush (pc := 17) (v := -2) dX11_exchange_17 rfl ?_
    refine x_ireturn (pc := 19) dX11_exchange_19 rfl rfl ?_
    have e1 : exV κ o f (len f) i v B = (-2, κ) := by
      unfold exV
      rw [if_neg]
      rintro ⟨q1, q2⟩
      first
        | exact absurd h_6 (by rw [bi_t q1]; decide)
        | exact absurd h_14 (by rw [bi_t q2]; decide)
    rw [e1]
    exact ⟨rfl, rfl⟩
  · refine x_iload_n (pc := 9) dX11_exchange_9 rfl ?_
    refine x_iload_n (pc := 10) dX11_exchange_10 rfl ?_
    refine x_callS (pc := 11) (As := [.int _, .int _]) dX11_exchange_11 mX11_isBelow lk_11_104 (k_isBelow _ _) rfl rfl (Nat.le_of_ble_eq_true rfl) ⟨by decide, by decide⟩ ⟨Nat.zero_le _, Nat.zero_le _⟩ (k_rt ?_)
    refine x_if_ne (pc := 14) (tgt := 20) dX11_exchange_14 rfl (fun h_14 => ?_) (fun h_14 => ?_)
    · have hc : (0 ≤ i ∧ i < nI (len f)) ∧ (0 ≤ v ∧ v < B) := ⟨bi_n0 h_6, bi_n0 h_14⟩
      obtain ⟨j, hj, ej⟩ := ixD hc.1 hl2
      have e1 : exV κ o f (len f) i v B = (κ.2 o f j, kA κ o f j v) := by unfold exV; rw [if_pos hc, ej, nn_nI (by omega)]
      refine x_aload_n (pc := 20) dX11_exchange_20 rfl ?_
      refine x_iload_n (pc := 21) dX11_exchange_21 rfl ?_
      refine k_iald (pc := 22) hK dX11_exchange_22 (ej) (hj) (hl2) ?_
      refine x_istore (pc := 23) (lv2 := [_, _, _, _, _]) dX11_exchange_23 (by decide) rfl rfl ?_
      refine x_aload_n (pc := 25) dX11_exchange_25 rfl ?_
      refine x_iload_n (pc := 26) dX11_exchange_26 rfl ?_
      refine x_iload_n (pc := 27) dX11_exchange_27 rfl ?_
      refine k_iast (pc := 28) hK dX11_exchange_28 (ej) (hj) (hl2) ?_
      refine x_iload (pc := 29) dX11_exchange_29 rfl ?_
      refine x_ireturn (pc := 31) dX11_exchange_31 rfl rfl ?_
      rw [e1]; exact ⟨rfl, rfl⟩
    · refine x_bipush (pc := 17) (v := -2) dX11_exchange_17 rfl ?_
      refine x_ireturn (pc := 19) dX11_exchange_19 rfl rfl ?_
      have e1 : exV κ o f (len f) i v B = (-2, κ) := by
        unfold exV
        rw [if_neg]
        rintro ⟨q1, q2⟩
        first
          | exact absurd h_6 (by rw [bi_t q1]; decide)
          | exact absurd h_14 (by rw [bi_t q2]; decide)
      rw [e1]
      exact ⟨rfl, rfl⟩
/-- whose seats see -/
def vwI (si : Int32) (se : Nat → Int32) : Nat → Int32
  | 0 => 0
  | g + 1 => if hbI si (se g) = 0 then vwI si se g else vwI si se g ||| ((1 : Int32) <<< (nI g &&& 31))
theorem k_viewersOf (hK : KO μ b o ci len) (f : Nat) (x : Int32) (hl : len f = 4) : XM Γ zX11_viewersOf 2 0 0 [.int x, .ref (adR b o f)] (KV μ b κ) (rt (.int (vwI x (κ.2 o f) 4)) (KV μ b κ)) := by
  refine XM.of 2 rfl (by decide) (Nat.le_of_ble_eq_true rfl) ?_
  have L : ∀ (m j : Nat), j + m = 4 → WA Γ zX11_viewersOf (xrm 2 0 0) 0 0 0 0 (rt (.int (vwI x (κ.2 o f) 4)) (KV μ b κ)) 4 [some (.int x), some (.ref (adR b o f)), some (.int (vwI x (κ.2 o f) j)), some (.int (nI j))] [] (KV μ b κ) := by
    intro m
    induction m with
    | zero =>
      intro j hj
      obtain rfl : j = 4 := by omega
      refine x_iload_n (pc := 4) dX11_viewersOf_4 rfl ?_
      refine x_iconst (pc := 5) (v := 4) dX11_viewersOf_5 rfl ?_
      refine x_icmp_ge (pc := 6) (tgt := 31) dX11_viewersOf_6 rfl (fun h_6 => ?_) (fun h_6 => absurd (by decide) h_6)
      refine x_iload_n (pc := 31) dX11_viewersOf_31 rfl ?_
      refine x_ireturn (pc := 32) dX11_viewersOf_32 rfl rfl ?_
      exact ⟨rfl, rfl⟩
    | succ m ih =>
      intro j hj
      have IH := ih (j + 1) (by omega)
      have e : vwI x (κ.2 o f) (j + 1) = if hbI x (κ.2 o f j) = 0 then vwI x (κ.2 o f) j else vwI x (κ.2 o f) j ||| ((1 : Int32) <<< (nI j &&& 31)) := rfl
      rw [e] at IH
      refine x_iload_n (pc := 4) dX11_viewersOf_4 rfl ?_
      refine x_iconst (pc := 5) (v := 4) dX11_viewersOf_5 rfl ?_
      refine x_icmp_ge (pc := 6) (tgt := 31) dX11_viewersOf_6 rfl (fun h_6 => absurd h_6 (lit_le (n := 4) j (by omega) (by omega))) (fun h_6 => ?_)
      refine x_iload_n (pc := 9) dX11_viewersOf_9 rfl ?_
      refine x_aload_n (pc := 10) dX11_viewersOf_10 rfl ?_
      refine x_iload_n (pc := 11) dX11_viewersOf_11 rfl ?_
      refine k_iald (pc := 12) hK dX11_viewersOf_12 (rfl) (by omega) (by omega) ?_
      refine x_callS (pc := 13) (As := [.int _, .int _]) dX11_viewersOf_13 mX11_hasBit lk_11_276 (k_hasBit _ _) rfl rfl (Nat.le_of_ble_eq_true rfl) ⟨by decide, by decide⟩ ⟨Nat.zero_le _, Nat.zero_le _⟩ (k_rt ?_)
      refine x_if_eq (pc := 16) (tgt := 25) dX11_viewersOf_16 rfl (fun h_16 => ?_) (fun h_16 => ?_)
      · refine x_iinc (pc := 25) (lv2 := [_, _, _, _]) dX11_viewersOf_25 (by decide) rfl rfl (nI_1 _) rfl ?_
        refine x_goto (pc := 28) (tgt := 4) dX11_viewersOf_28 rfl ?_
        first
          | (rw [if_pos (by first | exact h_16 | exact Decidable.not_not.mp h_16)] at IH; exact IH)
          | (rw [if_neg h_16] at IH; exact IH)
      · refine x_iload_n (pc := 19) dX11_viewersOf_19 rfl ?_
        refine x_iconst (pc := 20) (v := 1) dX11_viewersOf_20 rfl ?_
        refine x_iload_n (pc := 21) dX11_viewersOf_21 rfl ?_
        refine x_ishl (pc := 22) dX11_viewersOf_22 ?_
        refine x_ior (pc := 23) dX11_viewersOf_23 ?_
        refine x_istore_n (pc := 24) (lv2 := [_, _, _, _]) dX11_viewersOf_24 (by decide) rfl rfl ?_
        refine x_iinc (pc := 25) (lv2 := [_, _, _, _]) dX11_viewersOf_25 (by decide) rfl rfl (nI_1 _) rfl ?_
        refine x_goto (pc := 28) (tgt := 4) dX11_viewersOf_28 rfl ?_
        first
          | (rw [if_pos (by first | exact h_16 | exact Decidable.not_not.mp h_16)] at IH; exact IH)
          | (rw [if_neg h_16] at IH; exact IH)
  refine x_iconst (pc := 0) (v := 0) dX11_viewersOf_0 rfl ?_
  refine x_istore_n (pc := 1) (lv2 := [_, _, _, _]) dX11_viewersOf_1 (by decide) rfl rfl ?_
  refine x_iconst (pc := 2) (v := 0) dX11_viewersOf_2 rfl ?_
  refine x_istore_n (pc := 3) (lv2 := [_, _, _, _]) dX11_viewersOf_3 (by decide) rfl rfl ?_
  exact L 4 0 (by omega)
def shLen : Nat → Nat := fun f => if f = 2 then 40 else 0
theorem k_become (hK : KO μ b o 7 shLen) (k n : Int32) : XM Γ zX7_become 2 0 0 [.ref (adO b o), .int k, .int n] (KV μ b κ) (rv (KV μ b (kS (kI (kI κ o 0 k) o 1 n) o 2 (pre (fun _ => 0) (κ.2 o 2) 40)))) := by
  refine XM.of 0 rfl (by decide) (Nat.le_of_ble_eq_true rfl) ?_
  refine x_aload_n (pc := 0) dX7_become_0 rfl ?_
  refine x_iload_n (pc := 1) dX7_become_1 rfl ?_
  refine k_putI (pc := 2) hK dX7_become_2 fk_7_9 (Or.inl rfl) (Or.inl rfl) ?_
  refine x_aload_n (pc := 5) dX7_become_5 rfl ?_
  refine x_iload_n (pc := 6) dX7_become_6 rfl ?_
  refine k_putI (pc := 7) hK dX7_become_7 fk_7_15 (Or.inl rfl) (Or.inl rfl) ?_
  refine x_aload_n (pc := 10) dX7_become_10 rfl ?_
  refine k_getA (pc := 11) hK dX7_become_11 fk_7_18 (Or.inr ⟨_, rfl⟩) (by decide) ?_
  refine x_iconst (pc := 14) (v := 0) dX7_become_14 rfl ?_
  refine x_callS (pc := 15) (As := [.ref _, .int _]) dX7_become_15 mJ7_fill_53178 lk_7_22 (k_fill hK 2 0 (by decide) (by decide)) rfl rfl (Nat.le_of_ble_eq_true rfl) ⟨by decide, by decide⟩ ⟨Nat.zero_le _, Nat.zero_le _⟩ (k_rv ?_)
  refine x_return (pc := 18) dX7_become_18 rfl ?_
  exact ⟨rfl, rfl⟩
theorem k_narrowed (hK : KO μ b o 7 shLen) (v : Int32) : XM Γ zX7_narrowed 1 0 0 [.ref (adO b o), .int v] (KV μ b κ) (rt (.int (nr (κ.1 o 0) v)) (KV μ b κ)) := by
  refine XM.of 0 rfl (by decide) (Nat.le_of_ble_eq_true rfl) ?_
  refine x_aload_n (pc := 0) dX7_narrowed_0 rfl ?_
  refine k_getI (pc := 1) hK dX7_narrowed_1 fk_7_9 (Or.inl rfl) ?_
  refine x_if_ne (pc := 4) (tgt := 12) dX7_narrowed_4 rfl (fun h_4 => ?_) (fun h_4 => ?_)
  · refine x_aload_n (pc := 12) dX7_narrowed_12 rfl ?_
    refine k_getI (pc := 13) hK dX7_narrowed_13 fk_7_9 (Or.inl rfl) ?_
    refine x_iconst (pc := 16) (v := 1) dX7_narrowed_16 rfl ?_
    refine x_icmp_ne (pc := 17) (tgt := 25) dX7_narrowed_17 rfl (fun h_17 => ?_) (fun h_17 => ?_)
    · refine x_iload_n (pc := 25) dX7_narrowed_25 rfl ?_
      refine x_ireturn (pc := 26) dX7_narrowed_26 rfl rfl ?_
      exact ⟨by
        unfold nr
        first
          | rw [if_pos (by first | exact h_4 | exact Decidable.not_not.mp h_4)]
          | rw [if_neg h_4, if_pos (by first | exact h_17 | exact Decidable.not_not.mp h_17)]
          | rw [if_neg h_4, if_neg h_17], rfl⟩
    · refine x_iload_n (pc := 20) dX7_narrowed_20 rfl ?_
      refine x_i2s (pc := 21) dX7_narrowed_21 ?_
      refine x_goto (pc := 22) (tgt := 26) dX7_narrowed_22 rfl ?_
      refine x_ireturn (pc := 26) dX7_narrowed_26 rfl rfl ?_
      exact ⟨by
        unfold nr
        first
          | rw [if_pos (by first | exact h_4 | exact Decidable.not_not.mp h_4)]
          | rw [if_neg h_4, if_pos (by first | exact h_17 | exact Decidable.not_not.mp h_17)]
          | rw [if_neg h_4, if_neg h_17], rfl⟩
  · refine x_iload_n (pc := 7) dX7_narrowed_7 rfl ?_
    refine x_i2b (pc := 8) dX7_narrowed_8 ?_
    refine x_goto (pc := 9) (tgt := 26) dX7_narrowed_9 rfl ?_
    refine x_ireturn (pc := 26) dX7_narrowed_26 rfl rfl ?_
    exact ⟨by
      unfold nr
      first
        | rw [if_pos (by first | exact h_4 | exact Decidable.not_not.mp h_4)]
        | rw [if_neg h_4, if_pos (by first | exact h_17 | exact Decidable.not_not.mp h_17)]
        | rw [if_neg h_4, if_neg h_17], rfl⟩
theorem k_holds (hK : KO μ b o 7 shLen) (i n : Int32) : XM Γ zX7_holds 1 0 0 [.ref (adO b o), .int i, .int n] (KV μ b κ) (rt (.int (bi (0 ≤ n ∧ n ≤ κ.1 o 1 ∧ 0 ≤ i ∧ i ≤ κ.1 o 1 - n))) (KV μ b κ)) := by
  refine XM.of 0 rfl (by decide) (Nat.le_of_ble_eq_true rfl) ?_
  refine x_iload_n (pc := 0) dX7_holds_0 rfl ?_
  refine x_if_lt (pc := 1) (tgt := 30) dX7_holds_1 rfl (fun h_1 => ?_) (fun h_1 => ?_)
  · refine x_iconst (pc := 30) (v := 0) dX7_holds_30 rfl ?_
    refine x_ireturn (pc := 31) dX7_holds_31 rfl (by first | rfl | exact bi_nz) ?_
    exact ⟨by
      first
        | rw [bi_t (by exact ⟨Int32.not_lt.mp h_1, Int32.not_lt.mp h_9, Int32.not_lt.mp h_13, Int32.not_lt.mp h_23⟩)]
        | rw [bi_f (by exact fun z => absurd z.1 (Int32.not_le.mpr h_1))]
        | rw [bi_f (by exact fun z => absurd z.2.1 (Int32.not_le.mpr h_9))]
        | rw [bi_f (by exact fun z => absurd z.2.2.1 (Int32.not_le.mpr h_13))]
        | rw [bi_f (by exact fun z => absurd z.2.2.2 (Int32.not_le.mpr h_23))], rfl⟩
  · refine x_iload_n (pc := 4) dX7_holds_4 rfl ?_
    refine x_aload_n (pc := 5) dX7_holds_5 rfl ?_
    refine k_getI (pc := 6) hK dX7_holds_6 fk_7_15 (Or.inl rfl) ?_
    refine x_icmp_gt (pc := 9) (tgt := 30) dX7_holds_9 rfl (fun h_9 => ?_) (fun h_9 => ?_)
    · refine x_iconst (pc := 30) (v := 0) dX7_holds_30 rfl ?_
      refine x_ireturn (pc := 31) dX7_holds_31 rfl (by first | rfl | exact bi_nz) ?_
      exact ⟨by
        first
          | rw [bi_t (by exact ⟨Int32.not_lt.mp h_1, Int32.not_lt.mp h_9, Int32.not_lt.mp h_13, Int32.not_lt.mp h_23⟩)]
          | rw [bi_f (by exact fun z => absurd z.1 (Int32.not_le.mpr h_1))]
          | rw [bi_f (by exact fun z => absurd z.2.1 (Int32.not_le.mpr h_9))]
          | rw [bi_f (by exact fun z => absurd z.2.2.1 (Int32.not_le.mpr h_13))]
          | rw [bi_f (by exact fun z => absurd z.2.2.2 (Int32.not_le.mpr h_23))], rfl⟩
    · refine x_iload_n (pc := 12) dX7_holds_12 rfl ?_
      refine x_if_lt (pc := 13) (tgt := 30) dX7_holds_13 rfl (fun h_13 => ?_) (fun h_13 => ?_)
      · refine x_iconst (pc := 30) (v := 0) dX7_holds_30 rfl ?_
        refine x_ireturn (pc := 31) dX7_holds_31 rfl (by first | rfl | exact bi_nz) ?_
        exact ⟨by
          first
            | rw [bi_t (by exact ⟨Int32.not_lt.mp h_1, Int32.not_lt.mp h_9, Int32.not_lt.mp h_13, Int32.not_lt.mp h_23⟩)]
            | rw [bi_f (by exact fun z => absurd z.1 (Int32.not_le.mpr h_1))]
            | rw [bi_f (by exact fun z => absurd z.2.1 (Int32.not_le.mpr h_9))]
            | rw [bi_f (by exact fun z => absurd z.2.2.1 (Int32.not_le.mpr h_13))]
            | rw [bi_f (by exact fun z => absurd z.2.2.2 (Int32.not_le.mpr h_23))], rfl⟩
      · refine x_iload_n (pc := 16) dX7_holds_16 rfl ?_
        refine x_aload_n (pc := 17) dX7_holds_17 rfl ?_
        refine k_getI (pc := 18) hK dX7_holds_18 fk_7_15 (Or.inl rfl) ?_
        refine x_iload_n (pc := 21) dX7_holds_21 rfl ?_
        refine x_isub (pc := 22) dX7_holds_22 ?_
        refine x_icmp_gt (pc := 23) (tgt := 30) dX7_holds_23 rfl (fun h_23 => ?_) (fun h_23 => ?_)
        · refine x_iconst (pc := 30) (v := 0) dX7_holds_30 rfl ?_
          refine x_ireturn (pc := 31) dX7_holds_31 rfl (by first | rfl | exact bi_nz) ?_
          exact ⟨by
            first
              | rw [bi_t (by exact ⟨Int32.not_lt.mp h_1, Int32.not_lt.mp h_9, Int32.not_lt.mp h_13, Int32.not_lt.mp h_23⟩)]
              | rw [bi_f (by exact fun z => absurd z.1 (Int32.not_le.mpr h_1))]
              | rw [bi_f (by exact fun z => absurd z.2.1 (Int32.not_le.mpr h_9))]
              | rw [bi_f (by exact fun z => absurd z.2.2.1 (Int32.not_le.mpr h_13))]
              | rw [bi_f (by exact fun z => absurd z.2.2.2 (Int32.not_le.mpr h_23))], rfl⟩
        · refine x_iconst (pc := 26) (v := 1) dX7_holds_26 rfl ?_
          refine x_goto (pc := 27) (tgt := 31) dX7_holds_27 rfl ?_
          refine x_ireturn (pc := 31) dX7_holds_31 rfl (by first | rfl | exact bi_nz) ?_
          exact ⟨by
            first
              | rw [bi_t (by exact ⟨Int32.not_lt.mp h_1, Int32.not_lt.mp h_9, Int32.not_lt.mp h_13, Int32.not_lt.mp h_23⟩)]
              | rw [bi_f (by exact fun z => absurd z.1 (Int32.not_le.mpr h_1))]
              | rw [bi_f (by exact fun z => absurd z.2.1 (Int32.not_le.mpr h_9))]
              | rw [bi_f (by exact fun z => absurd z.2.2.1 (Int32.not_le.mpr h_13))]
              | rw [bi_f (by exact fun z => absurd z.2.2.2 (Int32.not_le.mpr h_23))], rfl⟩
end M72
