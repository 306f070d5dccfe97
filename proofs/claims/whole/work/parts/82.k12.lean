/-! the class: prices of things, the best for a day -/
def vwD (D : PD) (s : Nat) : Nat := (if seeD D 0 s = true then 1 else 0) + (if seeD D 1 s = true then 2 else 0) + (if seeD D 2 s = true then 4 else 0) + (if seeD D 3 s = true then 8 else 0)
theorem vw_b : ∀ a b c d : Bool, ((if a = true then 1 else 0) + (if b = true then 2 else 0) + (if c = true then 4 else 0) + (if d = true then 8 else 0) : Nat) < 16 ∧ ((if a = true then 1 else 0) + (if b = true then 2 else 0) + (if c = true then 4 else 0) + (if d = true then 8 else 0) : Nat).testBit 0 = a ∧ ((if a = true then 1 else 0) + (if b = true then 2 else 0) + (if c = true then 4 else 0) + (if d = true then 8 else 0) : Nat).testBit 1 = b ∧ ((if a = true then 1 else 0) + (if b = true then 2 else 0) + (if c = true then 4 else 0) + (if d = true then 8 else 0) : Nat).testBit 2 = c ∧ ((if a = true then 1 else 0) + (if b = true then 2 else 0) + (if c = true then 4 else 0) + (if d = true then 8 else 0) : Nat).testBit 3 = d := by decide +kernel
theorem vw_lt (D : PD) (s : Nat) : vwD D s < 16 := (vw_b _ _ _ _).1
theorem vw_t (D : PD) (s : Nat) : ∀ g, g < 4 → (vwD D s).testBit g = seeD D g s := by
  intro g hg
  obtain ⟨-, h0, h1, h2, h3⟩ := vw_b (seeD D 0 s) (seeD D 1 s) (seeD D 2 s) (seeD D 3 s)
  rcases (show g = 0 ∨ g = 1 ∨ g = 2 ∨ g = 3 by omega) with rfl | rfl | rfl | rfl
  · exact h0
  · exact h1
  · exact h2
  · exact h3
theorem tb_hm {D : PD} {i s G : Nat} (hg : D 2 i < 4) : tbD D i s G 4 = hmD D i G (vwD D s) := by
  have e : ∀ g, g ≤ 4 → tbD D i s G g = ofsD D i (G &&& vwD D s) g + (if G.testBit (D 2 i) = true ∧ (vwD D s).testBit (D 2 i) = false then msD (D 0 i) (D 1 i) else 0) := by
    intro g
    induction g with
    | zero =>
      intro _
      rw [vw_t D s _ hg]
      show _ = 0 + _
      rw [Nat.zero_add]
      rfl
    | succ g ih =>
      intro h
      have h1 : tbD D i s G (g + 1) = tbD D i s G g + (if G.testBit g = true ∧ g ≠ D 2 i ∧ seeD D g s = true then ofD (D 0 i) (D 1 i) (D 2 i) g else 0) := rfl
      have h2 : ofsD D i (G &&& vwD D s) (g + 1) = ofsD D i (G &&& vwD D s) g + (if g ≠ D 2 i ∧ (G &&& vwD D s).testBit g = true then ofD (D 0 i) (D 1 i) (D 2 i) g else 0) := rfl
      have h3 : (G.testBit g = true ∧ g ≠ D 2 i ∧ seeD D g s = true) ↔ (g ≠ D 2 i ∧ (G &&& vwD D s).testBit g = true) := by
        rw [Nat.testBit_and, vw_t D s g (by omega), Bool.and_eq_true]
        exact ⟨fun z => ⟨z.2.1, z.1, z.2.2⟩, fun z => ⟨z.2.1, z.1, z.2.2⟩⟩
      rw [h1, h2, ih (by omega)]
      by_cases h4 : G.testBit g = true ∧ g ≠ D 2 i ∧ seeD D g s = true
      · rw [if_pos h4, if_pos (h3.mp h4)]; omega
      · rw [if_neg h4, if_neg (fun z => h4 (h3.mpr z))]; omega
  exact e 4 (Nat.le_refl 4)
theorem bd_hm {D : PD} {i s G : Nat} (hg : D 2 i < 4) : hmD D i G (vwD D s) * D 9 (5 * i + bc G) + D 8 (7 * i + s) = bdD D i s G := by
  unfold bdD
  rw [tb_hm hg, Nat.mul_comm]
/-- the planner as it has learnt -/
def PL (κ : KS) (D : PD) (n aw : Nat) : Prop := okD D n ∧ okG D n ∧ κ.1 3 1 = nI n ∧ κ.1 3 2 = awI aw ∧ (∀ t, t < n → TH κ (15 + t) D t ∧ LN κ (15 + t) D t) ∧ ∀ s, s < 7 → κ.2 3 6 s = nI (vwD D s)
/-- what planning changes -/
def plP : Nat → Nat → Prop := fun a k => (a = 3 ∧ (k = 7 ∨ k = 8 ∨ k = 9 ∨ k = 10 ∨ 100 ≤ k)) ∨ (15 ≤ a ∧ k = 12)
def prP : Nat → Nat → Prop := fun a k => 15 ≤ a ∧ k = 12
theorem LN.kq {κ κ2 : KS} {o : Nat} {D : PD} {i : Nat} {P : Nat → Nat → Prop} (h : LN κ o D i) (q : kq P κ κ2) (hp : ∀ k, k = 6 ∨ k = 7 ∨ k = 8 ∨ k = 9 ∨ k = 10 ∨ k = 11 → ¬ P o k) : LN κ2 o D i := by
  unfold LN at h ⊢
  rw [(q o 6 (hp 6 (by omega))).2, (q o 7 (hp 7 (by omega))).2, (q o 8 (hp 8 (by omega))).2, (q o 9 (hp 9 (by omega))).2, (q o 11 (hp 11 (by omega))).2, (q o 10 (hp 10 (by omega))).1]
  exact h
theorem PL.kq {κ κ2 : KS} {D : PD} {n aw : Nat} (h : PL κ D n aw) (q : kq plP κ κ2) : PL κ2 D n aw := by
  obtain ⟨h1, h2, h3, h4, h5, h6⟩ := h
  have hn := h1.1
  refine ⟨h1, h2, (q 3 1 (fun z => by unfold plP at z; omega)).1.trans h3, (q 3 2 (fun z => by unfold plP at z; omega)).1.trans h4, fun t ht => ?_, fun s hs => ?_⟩
  · obtain ⟨g1, g2⟩ := h5 t ht
    exact ⟨g1.kq q (fun k hk z => by unfold plP at z; omega), g2.kq q (fun k hk z => by unfold plP at z; omega)⟩
  · rw [(q 3 6 (fun z => by unfold plP at z; omega)).2]
    exact h6 s hs
theorem pr_pl {κ κ2 : KS} (q : kq prP κ κ2) : kq plP κ κ2 := q.mono (fun a k z => Or.inr z)
theorem se_pl {κ κ2 : KS} (q : kq seP κ κ2) : kq plP κ κ2 := q.mono (fun a k z => by unfold seP at z; unfold plP; omega)
/-- the class's price -/
def clD (D : PD) (L : List Nat) (rm : Nat → Nat) (aw : Nat) (ct : Bool) (t s : Nat) : Nat := if t = aw then (if s = 0 then 0 else 1000000) else (if stD (D 0 t) s = true then 0 else 1000000) + (if s = rm t then 0 else if ct = false then 0 else D 7 (7 * t + s)) + tabD D t s L
theorem cl_f {D : PD} {rm : Nat → Nat} {aw t s : Nat} (h : t ≠ aw) : clD D [] rm aw false t s = (if stD (D 0 t) s = true then 0 else 1000000) := by
  unfold clD
  rw [if_neg h]
  by_cases z : s = rm t
  · rw [if_pos z]; rfl
  · rw [if_neg z]; rfl
theorem cl_t {D : PD} {rm : Nat → Nat} {aw t s : Nat} (h : t ≠ aw) : clD D [] rm aw true t s = (if stD (D 0 t) s = true then 0 else 1000000) + (if s = rm t then 0 else D 7 (7 * t + s)) := by
  unfold clD
  rw [if_neg h]
  by_cases z : s = rm t
  · rw [if_pos z, if_pos z]; rfl
  · rw [if_neg z, if_neg z]; rfl
theorem cl_c {D : PD} {rm : Nat → Nat} {aw t s G : Nat} {L : List Nat} {ct : Bool} (h : t ≠ aw) : clD D (G :: L) rm aw ct t s = clD D L rm aw ct t s + bdD D t s G := by
  unfold clD
  rw [if_neg h, if_neg h]
  show _ + (tabD D t s L + bdD D t s G) = _
  omega
theorem cl_ok {D : PD} {n aw : Nat} {L : List Nat} {rm : Nat → Nat} {ct : Bool} (h : okD D n) (hg : okG D n) (hL : okL L) (hL7 : L.length ≤ 7) : cpO (clD D L rm aw ct) (prD D L rm aw ct) (okA D aw) n := by
  intro t s ht hs
  have hb := pr_le (was := rm) (aw := aw) (ct := ct) h hg ht hs hL hL7
  have h1 := tab_le h hg ht hs (fun G hG => bd_le h hg ht hs hG) L hL
  have h2 := ((hg t ht).1 s hs).1
  have h3 : 1300 * L.length ≤ 1300 * 7 := Nat.mul_le_mul_left _ hL7
  refine ⟨fun hk => ⟨?_, hb⟩, fun hk => ?_⟩
  · unfold okA at hk
    unfold clD prD
    by_cases ha : t = aw
    · rw [if_pos ha] at hk
      rw [if_pos ha, if_pos ha, if_pos (beq_iff_eq.mp hk)]
    · rw [if_neg ha] at hk
      rw [if_neg ha, if_neg ha, if_pos hk]
      omega
  · unfold okA at hk
    unfold clD
    by_cases ha : t = aw
    · rw [if_pos ha] at hk
      rw [if_pos ha, if_neg (fun z => by rw [z] at hk; cases hk)]
      omega
    · rw [if_neg ha] at hk
      rw [if_neg ha, if_neg (fun z => by rw [z] at hk; cases hk)]
      split
      · omega
      · split <;> omega
theorem XPR {κ κ2 : KS} {n t : Nat} {E cp : Nat → Nat → Nat} {g : Nat → Int32} (h1 : ∀ x, x < t → ∀ s, s < 7 → κ2.2 (15 + x) 12 s = nI (E x s)) (h2 : ∀ x, t ≤ x → x < n → κ2.2 (15 + x) 12 = κ.2 (15 + x) 12) (hg : ∀ s, s < 7 → g s = nI (E t s)) : (∀ x, x < t + 1 → ∀ s, s < 7 → (kS κ2 (15 + t) 12 g).2 (15 + x) 12 s = nI (E x s)) ∧ ∀ x, t + 1 ≤ x → x < n → (kS κ2 (15 + t) 12 g).2 (15 + x) 12 = κ.2 (15 + x) 12 := by
  refine ⟨fun x hx s hs => ?_, fun x hx hn => ?_⟩
  · rcases Nat.lt_or_ge x t with q | q
    · rw [show (kS κ2 (15 + t) 12 g).2 (15 + x) 12 = κ2.2 (15 + x) 12 from up2_n (Or.inl (by omega))]
      exact h1 x q s hs
    · obtain rfl : x = t := by omega
      rw [kS_s]
      exact hg s hs
  · rw [show (kS κ2 (15 + t) 12 g).2 (15 + x) 12 = κ2.2 (15 + x) 12 from up2_n (Or.inl (by omega))]
    exact h2 x (by omega) hn
section M82
variable {Γ : Gm} {μ : Mem} {b : Kb} {κ : KS}
theorem k_pN {D : PD} {n aw : Nat} (hP : KP μ b (D 0)) (hL : PL κ D n aw) (rm : Nat → Nat) : XM Γ zX4_priceNothing 2 0 0 [.ref (adO b 3)] (KV μ b κ) (fun x μ2 => ∃ κ2, x = none ∧ μ2 = KV μ b κ2 ∧ kq prP κ κ2 ∧ PRc κ2 (clD D [] rm aw false) n) := by
  refine XM.of 1 rfl (by decide) (Nat.le_of_ble_eq_true rfl) ?_
  have hn := hL.1.1
  have hP0 := hP
  obtain ⟨hK, hth0, hX, hLe⟩ := hP
  have Lo : ∀ (m t : Nat) (κ2 : KS), t + m = n → kq prP κ κ2 → (∀ x, x < t → ∀ s, s < 7 → κ2.2 (15 + x) 12 s = nI ((clD D [] rm aw false) x s)) → (∀ x, t ≤ x → x < n → κ2.2 (15 + x) 12 = κ.2 (15 + x) 12) → WA Γ zX4_priceNothing (xrm 2 0 0) 0 0 0 0 (fun x μ2 => ∃ κ2, x = none ∧ μ2 = KV μ b κ2 ∧ kq prP κ κ2 ∧ PRc κ2 (clD D [] rm aw false) n) 2 [some (.ref (adO b 3)), some (.int (nI t))] [] (KV μ b κ2) := by
    intro m
    induction m with
    | zero =>
      intro t κ2 ht hq h1 h2
      obtain rfl : t = n := by omega
      have hL2 := hL.kq (pr_pl hq)
      refine x_iload_n (pc := 2) dX4_priceNothing_2 rfl ?_
      refine x_aload_n (pc := 3) dX4_priceNothing_3 rfl ?_
      refine k_getI (pc := 4) hK dX4_priceNothing_4 fk_4_17 (Or.inl rfl) ?_
      refine x_icmp_ge (pc := 7) (tgt := 38) dX4_priceNothing_7 rfl (fun h_7 => ?_) (fun h_7 => absurd (by rw [hL2.2.2.1]; exact Int32.le_refl _) h_7)
      refine x_return (pc := 38) dX4_priceNothing_38 rfl ?_
      exact ⟨κ2, rfl, rfl, hq, fun t ht s hs => h1 t ht s hs⟩
    | succ m ih =>
      intro t κ2 ht hq h1 h2
      have hL2 := hL.kq (pr_pl hq)
      obtain ⟨hTt, hLt⟩ := hL2.2.2.2.2.1 t (by omega)
      have haw : nI t = awI aw ↔ t = aw := aw_eq (by omega)
      have hX2 := hX.2 t (by omega)
      have e12 := h2 t (Nat.le_refl t) (by omega)
      have eA : t ≠ aw → ∀ s, s < 7 → pre (fun s => if (1 : Int32) = 1 ∨ s = 0 then κ2.2 (15 + t) 11 s else 1000000) (κ2.2 (15 + t) 12) 7 s = nI (clD D [] rm aw false t s) := fun hne s hs => by
        rw [pre_lt hs, if_pos (Or.inl rfl), (hLt.1 s hs).2.2]
        unfold clD
        rw [if_neg hne]
        have hz : (if s = rm t then 0 else if false = false then 0 else D 7 (7 * t + s)) = 0 := by split <;> rfl
        rw [hz]
        show _ = nI (_ + 0 + 0)
        split <;> rfl
      have eB : t = aw → ∀ s, s < 7 → pre (fun s => if (0 : Int32) = 1 ∨ s = 0 then κ2.2 (15 + t) 11 s else 1000000) (κ2.2 (15 + t) 12) 7 s = nI (clD D [] rm aw false t s) := fun he s hs => by
        rw [pre_lt hs]
        unfold clD
        rw [if_pos he]
        by_cases h0 : s = 0
        · rw [if_pos (Or.inr h0), if_pos h0, (hLt.1 s hs).2.2, h0]
          rfl
        · rw [if_neg (by rintro (z | z); exact absurd z (by decide); exact h0 z), if_neg h0]
          rfl
      refine x_iload_n (pc := 2) dX4_priceNothing_2 rfl ?_
      refine x_aload_n (pc := 3) dX4_priceNothing_3 rfl ?_
      refine k_getI (pc := 4) hK dX4_priceNothing_4 fk_4_17 (Or.inl rfl) ?_
      refine x_icmp_ge (pc := 7) (tgt := 38) dX4_priceNothing_7 rfl (fun h_7 => absurd h_7 (by rw [hL2.2.2.1]; exact lit_le t (by omega) (by omega))) (fun h_7 => ?_)
      refine x_aload_n (pc := 10) dX4_priceNothing_10 rfl ?_
      refine k_getR (pc := 11) hK dX4_priceNothing_11 fk_4_11 (Or.inr ⟨_, rfl⟩) (hth0) ?_
      refine x_iload_n (pc := 14) dX4_priceNothing_14 rfl ?_
      refine x_aald (pc := 15) dX4_priceNothing_15 (hX.1) (Or.inl rfl) (rfl) ((by omega)) (by decide) ((hX.2 t (by omega)).1) ?_
      refine x_iload_n (pc := 16) dX4_priceNothing_16 rfl ?_
      refine x_aload_n (pc := 17) dX4_priceNothing_17 rfl ?_
      skip
      refine k_getI (pc := 18) hK dX4_priceNothing_18 fk_4_21 (Or.inl rfl) ?_
      refine x_icmp_eq (pc := 21) (tgt := 28) dX4_priceNothing_21 rfl (fun h_21 => ?_) (fun h_21 => ?_)
      · refine x_iconst (pc := 28) (v := 0) dX4_priceNothing_28 rfl ?_
        refine x_callU (pc := 29) (As := [.int _]) dX4_priceNothing_29 mX9_priceNothing (lt_4_140 (kci_th (D 0 t))) hX2.2.2.2.1 (k_priceNothing (kci_th (D 0 t)) hX2.2 _ (by first | exact Or.inr rfl | exact Or.inl rfl)) rfl rfl (Nat.le_of_ble_eq_true rfl) ⟨by decide, by decide⟩ ⟨Nat.zero_le _, Nat.zero_le _⟩ (k_rv ?_)
        refine x_iinc (pc := 32) (lv2 := [_, _]) dX4_priceNothing_32 (by decide) rfl rfl (nI_1 _) rfl ?_
        refine x_goto (pc := 35) (tgt := 2) dX4_priceNothing_35 rfl ?_
        first
          | (obtain ⟨g1, g2⟩ := XPR (κ := κ) (n := n) (t := t) (E := clD D [] rm aw false) (cp := fun _ _ => 0) h1 h2 (eA (fun z => absurd (haw.mpr z) (by have := h_21; rw [hL2.2.2.2.1] at this; exact this)))
             exact ih (t + 1) _ (by omega) (hq.S ⟨by omega, rfl⟩) g1 g2)
          | (obtain ⟨g1, g2⟩ := XPR (κ := κ) (n := n) (t := t) (E := clD D [] rm aw false) (cp := fun _ _ => 0) h1 h2 (eB (haw.mp (by have := h_21; rw [hL2.2.2.2.1] at this; first | exact this | exact Decidable.not_not.mp this)))
             exact ih (t + 1) _ (by omega) (hq.S ⟨by omega, rfl⟩) g1 g2)
      · refine x_iconst (pc := 24) (v := 1) dX4_priceNothing_24 rfl ?_
        refine x_goto (pc := 25) (tgt := 29) dX4_priceNothing_25 rfl ?_
        refine x_callU (pc := 29) (As := [.int _]) dX4_priceNothing_29 mX9_priceNothing (lt_4_140 (kci_th (D 0 t))) hX2.2.2.2.1 (k_priceNothing (kci_th (D 0 t)) hX2.2 _ (by first | exact Or.inr rfl | exact Or.inl rfl)) rfl rfl (Nat.le_of_ble_eq_true rfl) ⟨by decide, by decide⟩ ⟨Nat.zero_le _, Nat.zero_le _⟩ (k_rv ?_)
        refine x_iinc (pc := 32) (lv2 := [_, _]) dX4_priceNothing_32 (by decide) rfl rfl (nI_1 _) rfl ?_
        refine x_goto (pc := 35) (tgt := 2) dX4_priceNothing_35 rfl ?_
        first
          | (obtain ⟨g1, g2⟩ := XPR (κ := κ) (n := n) (t := t) (E := clD D [] rm aw false) (cp := fun _ _ => 0) h1 h2 (eA (fun z => absurd (haw.mpr z) (by have := h_21; rw [hL2.2.2.2.1] at this; exact this)))
             exact ih (t + 1) _ (by omega) (hq.S ⟨by omega, rfl⟩) g1 g2)
          | (obtain ⟨g1, g2⟩ := XPR (κ := κ) (n := n) (t := t) (E := clD D [] rm aw false) (cp := fun _ _ => 0) h1 h2 (eB (haw.mp (by have := h_21; rw [hL2.2.2.2.1] at this; first | exact this | exact Decidable.not_not.mp this)))
             exact ih (t + 1) _ (by omega) (hq.S ⟨by omega, rfl⟩) g1 g2)
  refine x_iconst (pc := 0) (v := 0) dX4_priceNothing_0 rfl ?_
  refine x_istore_n (pc := 1) (lv2 := [_, _]) dX4_priceNothing_1 (by decide) rfl rfl ?_
  exact Lo n 0 κ (by omega) kq.rf (fun x hx => absurd hx (by omega)) (fun _ _ _ => rfl)
theorem k_pM {D : PD} {n aw : Nat} (hP : KP μ b (D 0)) (hL : PL κ D n aw) {rm : Nat → Nat} (hpr : PRc κ (clD D [] rm aw false) n) (hrm : RMc κ rm n) : XM Γ zX4_priceMoves 2 0 0 [.ref (adO b 3)] (KV μ b κ) (fun x μ2 => ∃ κ2, x = none ∧ μ2 = KV μ b κ2 ∧ kq prP κ κ2 ∧ PRc κ2 (clD D [] rm aw true) n) := by
  refine XM.of 1 rfl (by decide) (Nat.le_of_ble_eq_true rfl) ?_
  have hn := hL.1.1
  have hP0 := hP
  obtain ⟨hK, hth0, hX, hLe⟩ := hP
  have Lo : ∀ (m t : Nat) (κ2 : KS), t + m = n → kq prP κ κ2 → (∀ x, x < t → ∀ s, s < 7 → κ2.2 (15 + x) 12 s = nI ((clD D [] rm aw true) x s)) → (∀ x, t ≤ x → x < n → κ2.2 (15 + x) 12 = κ.2 (15 + x) 12) → WA Γ zX4_priceMoves (xrm 2 0 0) 0 0 0 0 (fun x μ2 => ∃ κ2, x = none ∧ μ2 = KV μ b κ2 ∧ kq prP κ κ2 ∧ PRc κ2 (clD D [] rm aw true) n) 2 [some (.ref (adO b 3)), some (.int (nI t))] [] (KV μ b κ2) := by
    intro m
    induction m with
    | zero =>
      intro t κ2 ht hq h1 h2
      obtain rfl : t = n := by omega
      have hL2 := hL.kq (pr_pl hq)
      refine x_iload_n (pc := 2) dX4_priceMoves_2 rfl ?_
      refine x_aload_n (pc := 3) dX4_priceMoves_3 rfl ?_
      refine k_getI (pc := 4) hK dX4_priceMoves_4 fk_4_17 (Or.inl rfl) ?_
      refine x_icmp_ge (pc := 7) (tgt := 39) dX4_priceMoves_7 rfl (fun h_7 => ?_) (fun h_7 => absurd (by rw [hL2.2.2.1]; exact Int32.le_refl _) h_7)
      refine x_return (pc := 39) dX4_priceMoves_39 rfl ?_
      exact ⟨κ2, rfl, rfl, hq, fun t ht s hs => h1 t ht s hs⟩
    | succ m ih =>
      intro t κ2 ht hq h1 h2
      have hL2 := hL.kq (pr_pl hq)
      obtain ⟨hTt, hLt⟩ := hL2.2.2.2.2.1 t (by omega)
      have haw : nI t = awI aw ↔ t = aw := aw_eq (by omega)
      have hX2 := hX.2 t (by omega)
      have e12 := h2 t (Nat.le_refl t) (by omega)
      obtain ⟨er, hr7⟩ := hrm t (by omega)
      have er2 : κ2.2 3 7 t = nI (rm t) - 1 := by rw [(hq 3 7 (fun z => by have := z.1; omega)).2]; exact er
      have eA : t ≠ aw → ∀ s, s < 7 → pre (fun s => if s = rm t then κ2.2 (15 + t) 12 s else κ2.2 (15 + t) 12 s + κ2.2 (15 + t) 6 s) (κ2.2 (15 + t) 12) 7 s = nI (clD D [] rm aw true t s) := fun hne s hs => by
        rw [pre_lt hs, e12, hpr t (by omega) s hs, (hLt.1 s hs).1, cl_f hne, cl_t hne]
        by_cases hsr : s = rm t
        · rw [if_pos hsr, if_pos hsr]
          rfl
        · rw [if_neg hsr, if_neg hsr, nI_add]
      refine x_iload_n (pc := 2) dX4_priceMoves_2 rfl ?_
      refine x_aload_n (pc := 3) dX4_priceMoves_3 rfl ?_
      refine k_getI (pc := 4) hK dX4_priceMoves_4 fk_4_17 (Or.inl rfl) ?_
      refine x_icmp_ge (pc := 7) (tgt := 39) dX4_priceMoves_7 rfl (fun h_7 => absurd h_7 (by rw [hL2.2.2.1]; exact lit_le t (by omega) (by omega))) (fun h_7 => ?_)
      refine x_iload_n (pc := 10) dX4_priceMoves_10 rfl ?_
      refine x_aload_n (pc := 11) dX4_priceMoves_11 rfl ?_
      refine k_getI (pc := 12) hK dX4_priceMoves_12 fk_4_21 (Or.inl rfl) ?_
      rw [hL2.2.2.2.1]
      refine x_icmp_eq (pc := 15) (tgt := 33) dX4_priceMoves_15 rfl (fun h_15 => ?_) (fun h_15 => ?_)
      · refine x_iinc (pc := 33) (lv2 := [_, _]) dX4_priceMoves_33 (by decide) rfl rfl (nI_1 _) rfl ?_
        refine x_goto (pc := 36) (tgt := 2) dX4_priceMoves_36 rfl ?_
        first
          | (have haw1 : t ≠ aw := fun z => absurd (haw.mpr z) (by exact h_15)
             obtain ⟨g1, g2⟩ := XPR (κ := κ) (n := n) (t := t) (E := clD D [] rm aw true) (cp := fun _ _ => 0) h1 h2 (eA haw1)
             exact ih (t + 1) _ (by omega) (hq.S ⟨by omega, rfl⟩) g1 g2)
          | (have haw2 : t = aw := haw.mp (by first | exact h_15 | exact Decidable.not_not.mp h_15)
             have hE : ∀ s, s < 7 → κ2.2 (15 + t) 12 s = nI ((clD D [] rm aw true) t s) := fun s hs => by
               rw [e12, hpr t (by omega) s hs]
               unfold clD
               rw [if_pos haw2, if_pos haw2]
             refine ih (t + 1) κ2 (by omega) hq (fun x hx s hs => ?_) (fun x h3 h4 => h2 x (by omega) h4)
             rcases Nat.lt_or_ge x t with q | q
             · exact h1 x q s hs
             · obtain rfl : x = t := by omega
               exact hE s hs)
      · refine x_aload_n (pc := 18) dX4_priceMoves_18 rfl ?_
        refine k_getR (pc := 19) hK dX4_priceMoves_19 fk_4_11 (Or.inr ⟨_, rfl⟩) (hth0) ?_
        refine x_iload_n (pc := 22) dX4_priceMoves_22 rfl ?_
        refine x_aald (pc := 23) dX4_priceMoves_23 (hX.1) (Or.inl rfl) (rfl) ((by omega)) (by decide) ((hX.2 t (by omega)).1) ?_
        refine x_aload_n (pc := 24) dX4_priceMoves_24 rfl ?_
        refine k_getA (pc := 25) hK dX4_priceMoves_25 fk_4_37 (Or.inr ⟨_, rfl⟩) (by decide) ?_
        refine x_iload_n (pc := 28) dX4_priceMoves_28 rfl ?_
        refine k_iald (pc := 29) hK dX4_priceMoves_29 (rfl) (by show t < 5; omega) (by decide) ?_
        rw [er2]
        refine x_callU (pc := 30) (As := [.int _]) dX4_priceMoves_30 mX9_priceMoves (lt_4_143 (kci_th (D 0 t))) hX2.2.2.2.1 (k_priceMoves (kci_th (D 0 t)) hX2.2 hr7) rfl rfl (Nat.le_of_ble_eq_true rfl) ⟨by decide, by decide⟩ ⟨Nat.zero_le _, Nat.zero_le _⟩ (k_rv ?_)
        refine x_iinc (pc := 33) (lv2 := [_, _]) dX4_priceMoves_33 (by decide) rfl rfl (nI_1 _) rfl ?_
        refine x_goto (pc := 36) (tgt := 2) dX4_priceMoves_36 rfl ?_
        first
          | (have haw1 : t ≠ aw := fun z => absurd (haw.mpr z) (by exact h_15)
             obtain ⟨g1, g2⟩ := XPR (κ := κ) (n := n) (t := t) (E := clD D [] rm aw true) (cp := fun _ _ => 0) h1 h2 (eA haw1)
             exact ih (t + 1) _ (by omega) (hq.S ⟨by omega, rfl⟩) g1 g2)
          | (have haw2 : t = aw := haw.mp (by first | exact h_15 | exact Decidable.not_not.mp h_15)
             have hE : ∀ s, s < 7 → κ2.2 (15 + t) 12 s = nI ((clD D [] rm aw true) t s) := fun s hs => by
               rw [e12, hpr t (by omega) s hs]
               unfold clD
               rw [if_pos haw2, if_pos haw2]
             refine ih (t + 1) κ2 (by omega) hq (fun x hx s hs => ?_) (fun x h3 h4 => h2 x (by omega) h4)
             rcases Nat.lt_or_ge x t with q | q
             · exact h1 x q s hs
             · obtain rfl : x = t := by omega
               exact hE s hs)
  refine x_iconst (pc := 0) (v := 0) dX4_priceMoves_0 rfl ?_
  refine x_istore_n (pc := 1) (lv2 := [_, _]) dX4_priceMoves_1 (by decide) rfl rfl ?_
  exact Lo n 0 κ (by omega) kq.rf (fun x hx => absurd hx (by omega)) (fun _ _ _ => rfl)
theorem k_pD {D : PD} {n aw : Nat} (hP : KP μ b (D 0)) (hL : PL κ D n aw) {rm : Nat → Nat} {L : List Nat} {ct : Bool} {G : Nat} (hG : G < 16) (hpr : PRc κ (clD D L rm aw ct) n) : XM Γ zX4_priceDay 4 0 0 [.ref (adO b 3), .int (nI G)] (KV μ b κ) (fun x μ2 => ∃ κ2, x = none ∧ μ2 = KV μ b κ2 ∧ kq prP κ κ2 ∧ PRc κ2 (clD D (G :: L) rm aw ct) n) := by
  refine XM.of 1 rfl (by decide) (Nat.le_of_ble_eq_true rfl) ?_
  have hn := hL.1.1
  have hP0 := hP
  obtain ⟨hK, hth0, hX, hLe⟩ := hP
  have Lo : ∀ (m t : Nat) (κ2 : KS), t + m = n → kq prP κ κ2 → (∀ x, x < t → ∀ s, s < 7 → κ2.2 (15 + x) 12 s = nI ((clD D (G :: L) rm aw ct) x s)) → (∀ x, t ≤ x → x < n → κ2.2 (15 + x) 12 = κ.2 (15 + x) 12) → WA Γ zX4_priceDay (xrm 4 0 0) 0 0 0 0 (fun x μ2 => ∃ κ2, x = none ∧ μ2 = KV μ b κ2 ∧ kq prP κ κ2 ∧ PRc κ2 (clD D (G :: L) rm aw ct) n) 2 [some (.ref (adO b 3)), some (.int (nI G)), some (.int (nI t))] [] (KV μ b κ2) := by
    intro m
    induction m with
    | zero =>
      intro t κ2 ht hq h1 h2
      obtain rfl : t = n := by omega
      have hL2 := hL.kq (pr_pl hq)
      refine x_iload_n (pc := 2) dX4_priceDay_2 rfl ?_
      refine x_aload_n (pc := 3) dX4_priceDay_3 rfl ?_
      refine k_getI (pc := 4) hK dX4_priceDay_4 fk_4_17 (Or.inl rfl) ?_
      refine x_icmp_ge (pc := 7) (tgt := 38) dX4_priceDay_7 rfl (fun h_7 => ?_) (fun h_7 => absurd (by rw [hL2.2.2.1]; exact Int32.le_refl _) h_7)
      refine x_return (pc := 38) dX4_priceDay_38 rfl ?_
      exact ⟨κ2, rfl, rfl, hq, fun t ht s hs => h1 t ht s hs⟩
    | succ m ih =>
      intro t κ2 ht hq h1 h2
      have hL2 := hL.kq (pr_pl hq)
      obtain ⟨hTt, hLt⟩ := hL2.2.2.2.2.1 t (by omega)
      have haw : nI t = awI aw ↔ t = aw := aw_eq (by omega)
      have hX2 := hX.2 t (by omega)
      have e12 := h2 t (Nat.le_refl t) (by omega)
      have hg4 := (hL.1.2.1 t (by omega)).2.2.1
      have eA : t ≠ aw → ∀ s, s < 7 → pre (fun s => κ2.2 (15 + t) 12 s + nI (hmD D t G (vwD D s) * D 9 (5 * t + bc G) + D 8 (7 * t + s))) (κ2.2 (15 + t) 12) 7 s = nI (clD D (G :: L) rm aw ct t s) := fun hne s hs => by
        rw [pre_lt hs, e12, hpr t (by omega) s hs, bd_hm hg4, nI_add, cl_c hne]
      refine x_iload_n (pc := 2) dX4_priceDay_2 rfl ?_
      refine x_aload_n (pc := 3) dX4_priceDay_3 rfl ?_
      refine k_getI (pc := 4) hK dX4_priceDay_4 fk_4_17 (Or.inl rfl) ?_
      refine x_icmp_ge (pc := 7) (tgt := 38) dX4_priceDay_7 rfl (fun h_7 => absurd h_7 (by rw [hL2.2.2.1]; exact lit_le t (by omega) (by omega))) (fun h_7 => ?_)
      refine x_iload_n (pc := 10) dX4_priceDay_10 rfl ?_
      refine x_aload_n (pc := 11) dX4_priceDay_11 rfl ?_
      refine k_getI (pc := 12) hK dX4_priceDay_12 fk_4_21 (Or.inl rfl) ?_
      rw [hL2.2.2.2.1]
      refine x_icmp_eq (pc := 15) (tgt := 32) dX4_priceDay_15 rfl (fun h_15 => ?_) (fun h_15 => ?_)
      · refine x_iinc (pc := 32) (lv2 := [_, _, _]) dX4_priceDay_32 (by decide) rfl rfl (nI_1 _) rfl ?_
        refine x_goto (pc := 35) (tgt := 2) dX4_priceDay_35 rfl ?_
        first
          | (have haw1 : t ≠ aw := fun z => absurd (haw.mpr z) (by exact h_15)
             obtain ⟨g1, g2⟩ := XPR (κ := κ) (n := n) (t := t) (E := clD D (G :: L) rm aw ct) (cp := fun _ _ => 0) h1 h2 (eA haw1)
             exact ih (t + 1) _ (by omega) (hq.S ⟨by omega, rfl⟩) g1 g2)
          | (have haw2 : t = aw := haw.mp (by first | exact h_15 | exact Decidable.not_not.mp h_15)
             have hE : ∀ s, s < 7 → κ2.2 (15 + t) 12 s = nI ((clD D (G :: L) rm aw ct) t s) := fun s hs => by
               rw [e12, hpr t (by omega) s hs]
               unfold clD
               rw [if_pos haw2, if_pos haw2]
             refine ih (t + 1) κ2 (by omega) hq (fun x hx s hs => ?_) (fun x h3 h4 => h2 x (by omega) h4)
             rcases Nat.lt_or_ge x t with q | q
             · exact h1 x q s hs
             · obtain rfl : x = t := by omega
               exact hE s hs)
      · refine x_aload_n (pc := 18) dX4_priceDay_18 rfl ?_
        refine k_getR (pc := 19) hK dX4_priceDay_19 fk_4_11 (Or.inr ⟨_, rfl⟩) (hth0) ?_
        refine x_iload_n (pc := 22) dX4_priceDay_22 rfl ?_
        refine x_aald (pc := 23) dX4_priceDay_23 (hX.1) (Or.inl rfl) (rfl) ((by omega)) (by decide) ((hX.2 t (by omega)).1) ?_
        refine x_iload_n (pc := 24) dX4_priceDay_24 rfl ?_
        refine x_aload_n (pc := 25) dX4_priceDay_25 rfl ?_
        skip
        refine k_getA (pc := 26) hK dX4_priceDay_26 fk_4_34 (Or.inr ⟨_, rfl⟩) (by decide) ?_
        refine x_callU (pc := 29) (As := [.int _, .ref _]) dX4_priceDay_29 mX9_priceDay (lt_4_145 (kci_th (D 0 t))) hX2.2.2.2.1 (k_priceDay (kci_th (D 0 t)) hX2.2 hTt hLt hG hK (show plL 6 = 7 from rfl) (by omega) (V := vwD D) (fun s hs => ⟨vw_lt D s, hL2.2.2.2.2.2 s hs⟩)) rfl rfl (Nat.le_of_ble_eq_true rfl) ⟨by decide, by decide⟩ ⟨Nat.zero_le _, Nat.zero_le _⟩ (k_rv ?_)
        refine x_iinc (pc := 32) (lv2 := [_, _, _]) dX4_priceDay_32 (by decide) rfl rfl (nI_1 _) rfl ?_
        refine x_goto (pc := 35) (tgt := 2) dX4_priceDay_35 rfl ?_
        first
          | (have haw1 : t ≠ aw := fun z => absurd (haw.mpr z) (by exact h_15)
             obtain ⟨g1, g2⟩ := XPR (κ := κ) (n := n) (t := t) (E := clD D (G :: L) rm aw ct) (cp := fun _ _ => 0) h1 h2 (eA haw1)
             exact ih (t + 1) _ (by omega) (hq.S ⟨by omega, rfl⟩) g1 g2)
          | (have haw2 : t = aw := haw.mp (by first | exact h_15 | exact Decidable.not_not.mp h_15)
             have hE : ∀ s, s < 7 → κ2.2 (15 + t) 12 s = nI ((clD D (G :: L) rm aw ct) t s) := fun s hs => by
               rw [e12, hpr t (by omega) s hs]
               unfold clD
               rw [if_pos haw2, if_pos haw2]
             refine ih (t + 1) κ2 (by omega) hq (fun x hx s hs => ?_) (fun x h3 h4 => h2 x (by omega) h4)
             rcases Nat.lt_or_ge x t with q | q
             · exact h1 x q s hs
             · obtain rfl : x = t := by omega
               exact hE s hs)
  refine x_iconst (pc := 0) (v := 0) dX4_priceDay_0 rfl ?_
  refine x_istore_n (pc := 1) (lv2 := [_, _, _]) dX4_priceDay_1 (by decide) rfl rfl ?_
  exact Lo n 0 κ (by omega) kq.rf (fun x hx => absurd hx (by omega)) (fun _ _ _ => rfl)
theorem k_bestFor {D : PD} {n aw : Nat} (hP : KP μ b (D 0)) (hL : PL κ D n aw) {rm : Nat → Nat} (hrm : RMc κ rm n) {G M : Nat} (hG : G < 16) (hM : M ≤ 5) (hne : bsD D n [G] rm aw true M ≠ none) : XM Γ zX4_bestFor 5 0 0 [.ref (adO b 3), .int (nI G), .int (nI M)] (KV μ b κ) (fun x μ2 => ∃ κ2, x = some (.int (nI (brC (bsD D n [G] rm aw true M)))) ∧ μ2 = KV μ b κ2 ∧ kq plP κ κ2 ∧ κ2.1 3 9 = κ.1 3 9 ∧ κ2.1 3 10 = κ.1 3 10 ∧ RMc κ2 rm n ∧ ∀ t, t < n → κ2.2 3 8 t = nI (brR (bsD D n [G] rm aw true M) t) - 1) := by
  refine XM.of 0 rfl (by decide) (Nat.le_of_ble_eq_true rfl) ?_
  have hK := hP.1
  obtain ⟨r, hr⟩ : ∃ r, bsD D n [G] rm aw true M = some r := by
    cases h : bsD D n [G] rm aw true M with
    | none => exact absurd h hne
    | some r => exact ⟨r, rfl⟩
  refine x_aload_n (pc := 0) dX4_bestFor_0 rfl ?_
  refine x_callV (pc := 1) (As := []) dX4_bestFor_1 mX4_priceNothing lk_4_113 hK.2.2.1 (k_pN hP hL rm) rfl rfl (Nat.le_of_ble_eq_true rfl) ⟨by decide, by decide⟩ ⟨Nat.zero_le _, Nat.zero_le _⟩ (fun x μ3 hq => ?_)
  obtain ⟨κ2, rfl, rfl, q2, p2⟩ := hq
  have L2 := hL.kq (pr_pl q2)
  have r2 := hrm.kq q2 (fun z => by have := z.1; omega)
  refine x_aload_n (pc := 4) dX4_bestFor_4 rfl ?_
  refine x_callV (pc := 5) (As := []) dX4_bestFor_5 mX4_priceMoves lk_4_126 hK.2.2.1 (k_pM hP L2 p2 r2) rfl rfl (Nat.le_of_ble_eq_true rfl) ⟨by decide, by decide⟩ ⟨Nat.zero_le _, Nat.zero_le _⟩ (fun x μ3 hq => ?_)
  obtain ⟨κ3, rfl, rfl, q3, p3⟩ := hq
  have L3 := L2.kq (pr_pl q3)
  have r3 := r2.kq q3 (fun z => by have := z.1; omega)
  refine x_aload_n (pc := 8) dX4_bestFor_8 rfl ?_
  refine x_iload_n (pc := 9) dX4_bestFor_9 rfl ?_
  refine x_callV (pc := 10) (As := [.int _]) dX4_bestFor_10 mX4_priceDay lk_4_116 hK.2.2.1 (k_pD hP L3 hG p3) rfl rfl (Nat.le_of_ble_eq_true rfl) ⟨by decide, by decide⟩ ⟨Nat.zero_le _, Nat.zero_le _⟩ (fun x μ3 hq => ?_)
  obtain ⟨κ4, rfl, rfl, q4, p4⟩ := hq
  have L4 := L3.kq (pr_pl q4)
  have r4 := r3.kq q4 (fun z => by have := z.1; omega)
  refine x_aload_n (pc := 13) dX4_bestFor_13 rfl ?_
  refine x_iload_n (pc := 14) dX4_bestFor_14 rfl ?_
  refine x_callV (pc := 15) (As := [.int _]) dX4_bestFor_15 mX4_search lk_4_123 hK.2.2.1 (k_search hP hL.1.1 (cl_ok hL.1 hL.2.1 (okL1 hG) (by show 1 ≤ 7; omega)) p4 r4 L4.2.2.1 hM hr) rfl rfl (Nat.le_of_ble_eq_true rfl) ⟨by decide, by decide⟩ ⟨Nat.zero_le _, Nat.zero_le _⟩ (fun x μ3 hq => ?_)
  obtain ⟨κ5, rfl, rfl, q5, hf⟩ := hq
  refine x_ireturn (pc := 18) dX4_bestFor_18 rfl rfl ?_
  have qA : kq prP κ κ4 := (q2.trans q3).trans q4
  refine ⟨κ5, by rw [hr]; rfl, rfl, (pr_pl qA).trans (se_pl q5), ?_, ?_, r4.kq q5 (fun z => by have := z.2; omega), fun t ht => by rw [hf t ht, hr]; rfl⟩
  · rw [(q5 3 9 (fun z => by have := z.2; omega)).1, (qA 3 9 (fun z => by have := z.1; omega)).1]
  · rw [(q5 3 10 (fun z => by have := z.2; omega)).1, (qA 3 10 (fun z => by have := z.1; omega)).1]
end M82
