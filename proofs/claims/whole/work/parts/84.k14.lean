/-! the class: who sees, bad days, a room that was seen -/
theorem kA_r {κ : KS} {o k i : Nat} {v : Int32} : (kA κ o k i v).2 o k = va_up (κ.2 o k) i v := up3_r
def viP : Nat → Nat → Prop := fun a k => a = 3 ∧ k = 6
/-- the planner's sights and seats -/
def SC (κ : KS) (D : PD) : Prop := (∀ p, p < 6 → D 4 p < 16 ∧ κ.2 3 3 p = nI (D 4 p)) ∧ ∀ g, g < 4 → D 5 g < 4 ∧ κ.2 3 4 g = nI (D 5 g)
theorem vw4 : ∀ a b c d : Bool, (if bi (d = true) = 0 then (if bi (c = true) = 0 then (if bi (b = true) = 0 then (if bi (a = true) = 0 then (0 : Int32) else 0 ||| ((1 : Int32) <<< (nI 0 &&& 31))) else (if bi (a = true) = 0 then (0 : Int32) else 0 ||| ((1 : Int32) <<< (nI 0 &&& 31))) ||| ((1 : Int32) <<< (nI 1 &&& 31))) else (if bi (b = true) = 0 then (if bi (a = true) = 0 then (0 : Int32) else 0 ||| ((1 : Int32) <<< (nI 0 &&& 31))) else (if bi (a = true) = 0 then (0 : Int32) else 0 ||| ((1 : Int32) <<< (nI 0 &&& 31))) ||| ((1 : Int32) <<< (nI 1 &&& 31))) ||| ((1 : Int32) <<< (nI 2 &&& 31))) else (if bi (c = true) = 0 then (if bi (b = true) = 0 then (if bi (a = true) = 0 then (0 : Int32) else 0 ||| ((1 : Int32) <<< (nI 0 &&& 31))) else (if bi (a = true) = 0 then (0 : Int32) else 0 ||| ((1 : Int32) <<< (nI 0 &&& 31))) ||| ((1 : Int32) <<< (nI 1 &&& 31))) else (if bi (b = true) = 0 then (if bi (a = true) = 0 then (0 : Int32) else 0 ||| ((1 : Int32) <<< (nI 0 &&& 31))) else (if bi (a = true) = 0 then (0 : Int32) else 0 ||| ((1 : Int32) <<< (nI 0 &&& 31))) ||| ((1 : Int32) <<< (nI 1 &&& 31))) ||| ((1 : Int32) <<< (nI 2 &&& 31))) ||| ((1 : Int32) <<< (nI 3 &&& 31))) = nI ((if a = true then 1 else 0) + (if b = true then 2 else 0) + (if c = true then 4 else 0) + (if d = true then 8 else 0)) := by decide +kernel
theorem vw_I {D : PD} {p : Nat} {se : Nat → Int32} (h4 : D 4 p < 16) (h5 : ∀ g, g < 4 → D 5 g < 4 ∧ se g = nI (D 5 g)) : vwI (nI (D 4 p)) se 4 = nI (vwD D (p + 1)) := by
  have e : ∀ g, g < 4 → hbI (nI (D 4 p)) (se g) = bi (seeD D g (p + 1) = true) := fun g hg => by
    rw [(h5 g hg).2, hb_a _ (by omega) _ (by have := (h5 g hg).1; omega)]
    refine bi_c ?_
    unfold seeD
    simp
  unfold vwI vwI vwI vwI vwI
  rw [e 0 (by omega), e 1 (by omega), e 2 (by omega), e 3 (by omega)]
  exact vw4 (seeD D 0 (p + 1)) (seeD D 1 (p + 1)) (seeD D 2 (p + 1)) (seeD D 3 (p + 1))
section M84
variable {Γ : Gm} {μ : Mem} {b : Kb} {κ : KS}
theorem k_lookAround {D : PD} (hK : KO μ b 3 4 plL) (hS : SC κ D) (h0 : κ.2 3 6 0 = 0) : XM Γ zX4_lookAround 3 0 0 [.ref (adO b 3)] (KV μ b κ) (fun x μ2 => ∃ κ2, x = none ∧ μ2 = KV μ b κ2 ∧ kq viP κ κ2 ∧ ∀ s, s < 7 → κ2.2 3 6 s = nI (vwD D s)) := by
  refine XM.of 1 rfl (by decide) (Nat.le_of_ble_eq_true rfl) ?_
  have Lo : ∀ (m p : Nat) (κ2 : KS), p + m = 6 → kq viP κ κ2 → (∀ s, s < p + 1 → κ2.2 3 6 s = nI (vwD D s)) → WA Γ zX4_lookAround (xrm 3 0 0) 0 0 0 0 (fun x μ2 => ∃ κ2, x = none ∧ μ2 = KV μ b κ2 ∧ kq viP κ κ2 ∧ ∀ s, s < 7 → κ2.2 3 6 s = nI (vwD D s)) 2 [some (.ref (adO b 3)), some (.int (nI p))] [] (KV μ b κ2) := by
    intro m
    induction m with
    | zero =>
      intro p κ2 hp hq h1
      obtain rfl : p = 6 := by omega
      refine x_iload_n (pc := 2) dX4_lookAround_2 rfl ?_
      refine x_bipush (pc := 3) (v := 6) dX4_lookAround_3 rfl ?_
      refine x_icmp_ge (pc := 5) (tgt := 35) dX4_lookAround_5 rfl (fun h_5 => ?_) (fun h_5 => absurd (by decide) h_5)
      refine x_return (pc := 35) dX4_lookAround_35 rfl ?_
      exact ⟨κ2, rfl, rfl, hq, fun s hs => h1 s (by omega)⟩
    | succ m ih =>
      intro p κ2 hp hq h1
      have e3 : κ2.2 3 3 = κ.2 3 3 := (hq 3 3 (fun z => by have := z.2; omega)).2
      have e4 : κ2.2 3 4 = κ.2 3 4 := (hq 3 4 (fun z => by have := z.2; omega)).2
      have hp4 := (hS.1 p (by omega)).1
      have ev : vwI (nI (D 4 p)) (κ.2 3 4) 4 = nI (vwD D (p + 1)) := vw_I hp4 hS.2
      refine x_iload_n (pc := 2) dX4_lookAround_2 rfl ?_
      refine x_bipush (pc := 3) (v := 6) dX4_lookAround_3 rfl ?_
      refine x_icmp_ge (pc := 5) (tgt := 35) dX4_lookAround_5 rfl (fun h_5 => absurd h_5 (lit_le (n := 6) p (by omega) (by omega))) (fun h_5 => ?_)
      refine x_aload_n (pc := 8) dX4_lookAround_8 rfl ?_
      refine k_getA (pc := 9) hK dX4_lookAround_9 fk_4_34 (Or.inr ⟨_, rfl⟩) (by decide) ?_
      refine x_iload_n (pc := 12) dX4_lookAround_12 rfl ?_
      refine x_iconst (pc := 13) (v := 1) dX4_lookAround_13 rfl ?_
      refine x_iadd (pc := 14) dX4_lookAround_14 ?_
      rw [nI_1]
      refine x_aload_n (pc := 15) dX4_lookAround_15 rfl ?_
      refine k_getA (pc := 16) hK dX4_lookAround_16 fk_4_24 (Or.inr ⟨_, rfl⟩) (by decide) ?_
      refine x_iload_n (pc := 19) dX4_lookAround_19 rfl ?_
      refine k_iald (pc := 20) hK dX4_lookAround_20 (rfl) (by show p < 6; omega) (by decide) ?_
      refine x_aload_n (pc := 21) dX4_lookAround_21 rfl ?_
      refine k_getA (pc := 22) hK dX4_lookAround_22 fk_4_28 (Or.inr ⟨_, rfl⟩) (by decide) ?_
      rw [e3, (hS.1 p (by omega)).2]
      refine x_callSN (pc := 25) (As := [.int _, .ref _]) dX4_lookAround_25 mX11_viewersOf lk_4_77 (k_viewersOf hK 4 _ rfl) rfl rfl (Nat.le_of_ble_eq_true rfl) ⟨by decide, by decide⟩ ⟨Nat.zero_le _, Nat.zero_le _⟩ (k_rt ?_)
      rw [e4, ev]
      refine k_iast (pc := 28) hK dX4_lookAround_28 (rfl) (by show p + 1 < 7; omega) (by decide) ?_
      refine x_iinc (pc := 29) (lv2 := [_, _]) dX4_lookAround_29 (by decide) rfl rfl (nI_1 _) rfl ?_
      refine x_goto (pc := 32) (tgt := 2) dX4_lookAround_32 rfl ?_
      refine ih (p + 1) _ (by omega) (hq.A ⟨rfl, rfl⟩) (fun s hs => ?_)
      rcases Nat.lt_or_ge s (p + 1) with q | q
      · rw [kA_i (by omega)]
        exact h1 s q
      · obtain rfl : s = p + 1 := by omega
        rw [kA_s]
  refine x_iconst (pc := 0) (v := 0) dX4_lookAround_0 rfl ?_
  refine x_istore_n (pc := 1) (lv2 := [_, _]) dX4_lookAround_1 (by decide) rfl rfl ?_
  refine Lo 6 0 κ (by omega) kq.rf (fun s hs => ?_)
  obtain rfl : s = 0 := by omega
  rw [h0]
  rfl
def siP : Nat → Nat → Prop := fun a k => a = 3 ∧ (k = 4 ∨ k = 6)
theorem k_sits {D : PD} (hK : KO μ b 3 4 plL) {g j : Nat} (hg : g < 4) (hS : (∀ p, p < 6 → D 4 p < 16 ∧ κ.2 3 3 p = nI (D 4 p)) ∧ ∀ x, x < 4 → (if x = g then j else D 5 x) < 4 ∧ va_up (κ.2 3 4) g (nI j) x = nI (if x = g then j else D 5 x)) (h0 : κ.2 3 6 0 = 0) : XM Γ zX4_sits 4 0 0 [.ref (adO b 3), .int (nI g), .int (nI j)] (KV μ b κ) (fun x μ2 => ∃ κ2, x = none ∧ μ2 = KV μ b κ2 ∧ kq siP κ κ2 ∧ (∀ s, s < 7 → κ2.2 3 6 s = nI (vwD (upF D 5 (fun x => if x = g then j else D 5 x)) s)) ∧ κ2.2 3 4 = va_up (κ.2 3 4) g (nI j)) := by
  refine XM.of 0 rfl (by decide) (Nat.le_of_ble_eq_true rfl) ?_
  refine x_aload_n (pc := 0) dX4_sits_0 rfl ?_
  refine k_getA (pc := 1) hK dX4_sits_1 fk_4_28 (Or.inr ⟨_, rfl⟩) (by decide) ?_
  refine x_iload_n (pc := 4) dX4_sits_4 rfl ?_
  refine x_iload_n (pc := 5) dX4_sits_5 rfl ?_
  refine k_iast (pc := 6) hK dX4_sits_6 (rfl) (by show g < 4; omega) (by decide) ?_
  refine x_aload_n (pc := 7) dX4_sits_7 rfl ?_
  refine x_callV (pc := 8) (As := []) dX4_sits_8 mX4_lookAround lk_4_67 hK.2.2.1 (k_lookAround (D := upF D 5 (fun x => if x = g then j else D 5 x)) hK ⟨fun p hp => ⟨(hS.1 p hp).1, (congrFun (kA_n (Or.inr (by decide))) p).trans (hS.1 p hp).2⟩, fun x hx => ⟨(hS.2 x hx).1, (congrFun kA_r x).trans (hS.2 x hx).2⟩⟩ ((congrFun (kA_n (Or.inr (by decide))) 0).trans h0)) rfl rfl (Nat.le_of_ble_eq_true rfl) ⟨by decide, by decide⟩ ⟨Nat.zero_le _, Nat.zero_le _⟩ (fun x μ3 hq3 => ?_)
  obtain ⟨κ3, rfl, rfl, q3, v3⟩ := hq3
  refine x_return (pc := 11) dX4_sits_11 rfl ?_
  refine ⟨κ3, rfl, rfl, ?_, v3, ?_⟩
  · exact (kq.rf.A ⟨rfl, Or.inl rfl⟩).trans (q3.mono (fun a k z => ⟨z.1, Or.inr z.2⟩))
  · rw [(q3 3 4 (fun z => by have := z.2; omega)).2]
    exact kA_r
theorem k_badDay {D : PD} {n aw : Nat} (hP : KP μ b (D 0)) (hL : PL κ D n aw) {rm : Nat → Nat} (hrm : RMc κ rm n) {G : Nat} (hG : G < 16) : XM Γ zX4_badDay 4 0 0 [.ref (adO b 3), .int (nI G)] (KV μ b κ) (rt (.int (nI (bnD D rm G n))) (KV μ b κ)) := by
  refine XM.of 3 rfl (by decide) (Nat.le_of_ble_eq_true rfl) ?_
  have hn := hL.1.1
  obtain ⟨hK, hth0, hX, hLe⟩ := hP
  have Lo : ∀ (m t : Nat) (z4 : Option Value), t + m = n → WA Γ zX4_badDay (xrm 4 0 0) 0 0 0 0 (rt (.int (nI (bnD D rm G n))) (KV μ b κ)) 4 [some (.ref (adO b 3)), some (.int (nI G)), some (.int (nI (bnD D rm G t))), some (.int (nI t)), z4] [] (KV μ b κ) := by
    intro m
    induction m with
    | zero =>
      intro t z4 ht
      obtain rfl : t = n := by omega
      refine x_iload_n (pc := 4) dX4_badDay_4 rfl ?_
      refine x_aload_n (pc := 5) dX4_badDay_5 rfl ?_
      refine k_getI (pc := 6) hK dX4_badDay_6 fk_4_17 (Or.inl rfl) ?_
      refine x_icmp_ge (pc := 9) (tgt := 50) dX4_badDay_9 rfl (fun h_9 => ?_) (fun h_9 => absurd (by rw [hL.2.2.1]; exact Int32.le_refl _) h_9)
      refine x_iload_n (pc := 50) dX4_badDay_50 rfl ?_
      refine x_ireturn (pc := 51) dX4_badDay_51 rfl rfl ?_
      exact ⟨rfl, rfl⟩
    | succ m ih =>
      intro t z4 ht
      obtain ⟨er, hr7⟩ := hrm t (by omega)
      obtain ⟨hTt, hLt⟩ := hL.2.2.2.2.1 t (by omega)
      have e1 : nI (rm t) - 1 + 1 = nI (rm t) := (sp_nI (show rm t ≤ 6 by omega)).2
      have ev := hL.2.2.2.2.2 (rm t) hr7
      have hst : bnD D rm G (t + 1) = bnD D rm G t + bdD D t (rm t) G := rfl
      refine x_iload_n (pc := 4) dX4_badDay_4 rfl ?_
      refine x_aload_n (pc := 5) dX4_badDay_5 rfl ?_
      refine k_getI (pc := 6) hK dX4_badDay_6 fk_4_17 (Or.inl rfl) ?_
      refine x_icmp_ge (pc := 9) (tgt := 50) dX4_badDay_9 rfl (fun h_9 => absurd h_9 (by rw [hL.2.2.1]; exact lit_le t (by omega) (by omega))) (fun h_9 => ?_)
      refine x_aload_n (pc := 12) dX4_badDay_12 rfl ?_
      refine k_getA (pc := 13) hK dX4_badDay_13 fk_4_37 (Or.inr ⟨_, rfl⟩) (by decide) ?_
      refine x_iload_n (pc := 16) dX4_badDay_16 rfl ?_
      refine k_iald (pc := 17) hK dX4_badDay_17 (rfl) (by show t < 5; omega) (by decide) ?_
      refine x_iconst (pc := 18) (v := 1) dX4_badDay_18 rfl ?_
      rw [er]
      refine x_iadd (pc := 19) dX4_badDay_19 ?_
      rw [e1]
      refine x_istore (pc := 20) (lv2 := [_, _, _, _, _]) dX4_badDay_20 (by decide) rfl rfl ?_
      refine x_iload_n (pc := 22) dX4_badDay_22 rfl ?_
      refine x_aload_n (pc := 23) dX4_badDay_23 rfl ?_
      refine k_getR (pc := 24) hK dX4_badDay_24 fk_4_11 (Or.inr ⟨_, rfl⟩) (hth0) ?_
      refine x_iload_n (pc := 27) dX4_badDay_27 rfl ?_
      refine x_aald (pc := 28) dX4_badDay_28 (hX.1) (Or.inl rfl) (rfl) ((by omega)) (by decide) ((hX.2 t (by omega)).1) ?_
      refine x_iload (pc := 29) dX4_badDay_29 rfl ?_
      refine x_iload_n (pc := 31) dX4_badDay_31 rfl ?_
      refine x_aload_n (pc := 32) dX4_badDay_32 rfl ?_
      refine k_getA (pc := 33) hK dX4_badDay_33 fk_4_34 (Or.inr ⟨_, rfl⟩) (by decide) ?_
      refine x_iload (pc := 36) dX4_badDay_36 rfl ?_
      refine k_iald (pc := 38) hK dX4_badDay_38 (rfl) (by show rm t < 7; exact hr7) (by decide) ?_
      rw [ev]
      refine x_callU (pc := 39) (As := [.int _, .int _, .int _]) dX4_badDay_39 mX9_bad (lt_4_96 (kci_th (D 0 t))) (hX.2 t (by omega)).2.2.2.1 (k_bad (kci_th (D 0 t)) (hX.2 t (by omega)).2 hTt hLt hG (vw_lt D (rm t)) hr7) rfl rfl (Nat.le_of_ble_eq_true rfl) ⟨by decide, by decide⟩ ⟨Nat.zero_le _, Nat.zero_le _⟩ (k_rt ?_)
      rw [bd_hm hTt.2.2.1]
      refine x_iadd (pc := 42) dX4_badDay_42 ?_
      rw [nI_add, ← hst]
      refine x_istore_n (pc := 43) (lv2 := [_, _, _, _, _]) dX4_badDay_43 (by decide) rfl rfl ?_
      refine x_iinc (pc := 44) (lv2 := [_, _, _, _, _]) dX4_badDay_44 (by decide) rfl rfl (nI_1 _) rfl ?_
      refine x_goto (pc := 47) (tgt := 4) dX4_badDay_47 rfl ?_
      exact ih (t + 1) _ (by omega)
  refine x_iconst (pc := 0) (v := 0) dX4_badDay_0 rfl ?_
  refine x_istore_n (pc := 1) (lv2 := [_, _, _, _, _]) dX4_badDay_1 (by decide) rfl rfl ?_
  refine x_iconst (pc := 2) (v := 0) dX4_badDay_2 rfl ?_
  refine x_istore_n (pc := 3) (lv2 := [_, _, _, _, _]) dX4_badDay_3 (by decide) rfl rfl ?_
  exact Lo n 0 _ (by omega)
theorem or_c : ∀ x, x < 32 → ∀ i, i < 5 → nI x ||| ((1 : Int32) <<< (nI i &&& 31)) = nI (x ||| (1 <<< i)) := by decide +kernel
/-- what is told of a thing: it is missed, it offends, it is safe -/
theorem off_ofs {D : PD} {i s G : Nat} (hg : D 2 i < 4) : ∀ g, g ≤ 4 → offD D i s G g = ofsD D i (G &&& vwD D s) g
  | 0, _ => rfl
  | g + 1, h => by
    have h1 : offD D i s G (g + 1) = offD D i s G g + (if G.testBit g = true ∧ g ≠ D 2 i ∧ seeD D g s = true then ofD (D 0 i) (D 1 i) (D 2 i) g else 0) := rfl
    have h2 : ofsD D i (G &&& vwD D s) (g + 1) = ofsD D i (G &&& vwD D s) g + (if g ≠ D 2 i ∧ (G &&& vwD D s).testBit g = true then ofD (D 0 i) (D 1 i) (D 2 i) g else 0) := rfl
    have h3 : (G.testBit g = true ∧ g ≠ D 2 i ∧ seeD D g s = true) ↔ (g ≠ D 2 i ∧ (G &&& vwD D s).testBit g = true) := by
      rw [Nat.testBit_and, vw_t D s g (by omega), Bool.and_eq_true]
      exact ⟨fun z => ⟨z.2.1, z.1, z.2.2⟩, fun z => ⟨z.2.1, z.1, z.2.2⟩⟩
    rw [h1, h2, off_ofs hg g (by omega)]
    by_cases h4 : G.testBit g = true ∧ g ≠ D 2 i ∧ seeD D g s = true
    · rw [if_pos h4, if_pos (h3.mp h4)]
    · rw [if_neg h4, if_neg (fun z => h4 (h3.mpr z))]
theorem k_thingsThat {D : PD} {n aw : Nat} (hP : KP μ b (D 0)) (hL : PL κ D n aw) (hrm : RMc κ (D 3) n) {G k : Nat} (hG : G < 16) (hk : k ≤ 3) : XM Γ zX4_thingsThat 4 0 0 [.ref (adO b 3), .int (nI G), .int (nI k)] (KV μ b κ) (rt (.int (nI (dyS D G k n))) (KV μ b κ)) := by
  refine XM.of 4 rfl (by decide) (Nat.le_of_ble_eq_true rfl) ?_
  have hn := hL.1.1
  obtain ⟨hK, hth0, hX, hLe⟩ := hP
  have Lo : ∀ (m t : Nat) (z5 z6 : Option Value), t + m = n → WA Γ zX4_thingsThat (xrm 4 0 0) 0 0 0 0 (rt (.int (nI (dyS D G k n))) (KV μ b κ)) 5 [some (.ref (adO b 3)), some (.int (nI G)), some (.int (nI k)), some (.int (nI (dyS D G k t))), some (.int (nI t)), z5, z6] [] (KV μ b κ) := by
    intro m
    induction m with
    | zero =>
      intro t z5 z6 ht
      obtain rfl : t = n := by omega
      refine x_iload (pc := 5) dX4_thingsThat_5 rfl ?_
      refine x_aload_n (pc := 7) dX4_thingsThat_7 rfl ?_
      refine k_getI (pc := 8) hK dX4_thingsThat_8 fk_4_17 (Or.inl rfl) ?_
      refine x_icmp_ge (pc := 11) (tgt := 113) dX4_thingsThat_11 rfl (fun h_11 => ?_) (fun h_11 => absurd (by rw [hL.2.2.1]; exact Int32.le_refl _) h_11)
      refine x_iload_n (pc := 113) dX4_thingsThat_113 rfl ?_
      refine x_ireturn (pc := 114) dX4_thingsThat_114 rfl rfl ?_
      exact ⟨rfl, rfl⟩
    | succ m ih =>
      intro t z5 z6 ht
      obtain ⟨er, hr7⟩ := hrm t (by omega)
      obtain ⟨hTt, hLt⟩ := hL.2.2.2.2.1 t (by omega)
      have hg4 := hTt.2.2.1
      have e1 : nI (D 3 t) - 1 + 1 = nI (D 3 t) := (sp_nI (show D 3 t ≤ 6 by omega)).2
      have ev := hL.2.2.2.2.2 (D 3 t) hr7
      have hlt := dyS_lt D G k t (by omega)
      have hst : dyS D G k (t + 1) = dyS D G k t ||| ((if dyP D t G k = true then 1 else 0) <<< t) := rfl
      have hXt := (hX.2 t (by omega)).2
      have IH := fun z5 z6 => ih (t + 1) z5 z6 (by omega)
      rw [hst] at IH
      have F : ∀ (c : Int32), (c = 0 ↔ ¬ dyP D t G k = true) → WA Γ zX4_thingsThat (xrm 4 0 0) 0 0 0 0 (rt (.int (nI (dyS D G k n))) (KV μ b κ)) 93 [some (.ref (adO b 3)), some (.int (nI G)), some (.int (nI k)), some (.int (nI (dyS D G k t))), some (.int (nI t)), some (.int (nI (vwD D (D 3 t)))), z6] [.int c] (KV μ b κ) := by
        intro c hc
        refine x_istore (pc := 93) (lv2 := [_, _, _, _, _, _, _]) dX4_thingsThat_93 (by decide) rfl rfl ?_
        refine x_iload (pc := 95) dX4_thingsThat_95 rfl ?_
        refine x_if_eq (pc := 97) (tgt := 107) dX4_thingsThat_97 rfl (fun h_97 => ?_) (fun h_97 => ?_)
        · refine x_iinc (pc := 107) (lv2 := [_, _, _, _, _, _, _]) dX4_thingsThat_107 (by decide) rfl rfl (nI_1 _) rfl ?_
          refine x_goto (pc := 110) (tgt := 5) dX4_thingsThat_110 rfl ?_
          first
            | (rw [if_neg (hc.mp (by first | exact h_97 | exact Decidable.not_not.mp h_97)), show dyS D G k t ||| (0 <<< t) = dyS D G k t by rw [Nat.zero_shiftLeft, Nat.or_zero]] at IH
               exact IH _ _)
            | (rw [if_pos (by
                by_cases z : dyP D t G k = true
                · exact z
                · exact absurd (hc.mpr z) (by exact h_97))] at IH
               exact IH _ _)
        · refine x_iload_n (pc := 100) dX4_thingsThat_100 rfl ?_
          refine x_iconst (pc := 101) (v := 1) dX4_thingsThat_101 rfl ?_
          refine x_iload (pc := 102) dX4_thingsThat_102 rfl ?_
          refine x_ishl (pc := 104) dX4_thingsThat_104 ?_
          refine x_ior (pc := 105) dX4_thingsThat_105 ?_
          rw [or_c _ hlt t (by omega)]
          refine x_istore_n (pc := 106) (lv2 := [_, _, _, _, _, _, _]) dX4_thingsThat_106 (by decide) rfl rfl ?_
          refine x_iinc (pc := 107) (lv2 := [_, _, _, _, _, _, _]) dX4_thingsThat_107 (by decide) rfl rfl (nI_1 _) rfl ?_
          refine x_goto (pc := 110) (tgt := 5) dX4_thingsThat_110 rfl ?_
          first
            | (rw [if_neg (hc.mp (by first | exact h_97 | exact Decidable.not_not.mp h_97)), show dyS D G k t ||| (0 <<< t) = dyS D G k t by rw [Nat.zero_shiftLeft, Nat.or_zero]] at IH
               exact IH _ _)
            | (rw [if_pos (by
                by_cases z : dyP D t G k = true
                · exact z
                · exact absurd (hc.mpr z) (by exact h_97))] at IH
               exact IH _ _)
      refine x_iload (pc := 5) dX4_thingsThat_5 rfl ?_
      refine x_aload_n (pc := 7) dX4_thingsThat_7 rfl ?_
      refine k_getI (pc := 8) hK dX4_thingsThat_8 fk_4_17 (Or.inl rfl) ?_
      refine x_icmp_ge (pc := 11) (tgt := 113) dX4_thingsThat_11 rfl (fun h_11 => absurd h_11 (by rw [hL.2.2.1]; exact lit_le t (by omega) (by omega))) (fun h_11 => ?_)
      refine x_aload_n (pc := 14) dX4_thingsThat_14 rfl ?_
      refine k_getA (pc := 15) hK dX4_thingsThat_15 fk_4_34 (Or.inr ⟨_, rfl⟩) (by decide) ?_
      refine x_aload_n (pc := 18) dX4_thingsThat_18 rfl ?_
      refine k_getA (pc := 19) hK dX4_thingsThat_19 fk_4_37 (Or.inr ⟨_, rfl⟩) (by decide) ?_
      refine x_iload (pc := 22) dX4_thingsThat_22 rfl ?_
      refine k_iald (pc := 24) hK dX4_thingsThat_24 (rfl) (by show t < 5; omega) (by decide) ?_
      refine x_iconst (pc := 25) (v := 1) dX4_thingsThat_25 rfl ?_
      rw [er]
      refine x_iadd (pc := 26) dX4_thingsThat_26 ?_
      rw [e1]
      refine k_iald (pc := 27) hK dX4_thingsThat_27 (rfl) (by show D 3 t < 7; exact hr7) (by decide) ?_
      rw [ev]
      refine x_istore (pc := 28) (lv2 := [_, _, _, _, _, _, _]) dX4_thingsThat_28 (by decide) rfl rfl ?_
      refine x_iload_n (pc := 30) dX4_thingsThat_30 rfl ?_
      refine x_iconst (pc := 31) (v := 1) dX4_thingsThat_31 rfl ?_
      refine x_icmp_ne (pc := 32) (tgt := 51) dX4_thingsThat_32 rfl (fun h_32 => ?_) (fun h_32 => ?_)
      · refine x_iload_n (pc := 51) dX4_thingsThat_51 rfl ?_
        refine x_iconst (pc := 52) (v := 2) dX4_thingsThat_52 rfl ?_
        refine x_icmp_ne (pc := 53) (tgt := 72) dX4_thingsThat_53 rfl (fun h_53 => ?_) (fun h_53 => ?_)
        · refine x_aload_n (pc := 72) dX4_thingsThat_72 rfl ?_
          refine k_getR (pc := 73) hK dX4_thingsThat_73 fk_4_11 (Or.inr ⟨_, rfl⟩) (hth0) ?_
          refine x_iload (pc := 76) dX4_thingsThat_76 rfl ?_
          refine x_aald (pc := 78) dX4_thingsThat_78 (hX.1) (Or.inl rfl) (rfl) ((by omega)) (by decide) ((hX.2 t (by omega)).1) ?_
          refine x_iload_n (pc := 79) dX4_thingsThat_79 rfl ?_
          refine x_iload (pc := 80) dX4_thingsThat_80 rfl ?_
          refine x_callU (pc := 82) (As := [.int _, .int _]) dX4_thingsThat_82 mX9_harm (lt_4_106 (kci_th (D 0 t))) hXt.2.2.1 (k_harm (kci_th (D 0 t)) hXt hTt hLt hG (vw_lt D (D 3 t))) rfl rfl (Nat.le_of_ble_eq_true rfl) ⟨by decide, by decide⟩ ⟨Nat.zero_le _, Nat.zero_le _⟩ (k_rt ?_)
          refine x_if_ne (pc := 85) (tgt := 92) dX4_thingsThat_85 rfl (fun h_85 => ?_) (fun h_85 => ?_)
          · refine x_iconst (pc := 92) (v := 0) dX4_thingsThat_92 rfl ?_
            have k1 : nI k = 1 ↔ k = 1 := nI_eq (a := k) (b := 1) (by omega) (by omega)
            have k2 : nI k = 2 ↔ k = 2 := nI_eq (a := k) (b := 2) (by omega) (by omega)
            have hh : hmD D t G (vwD D (D 3 t)) * D 9 (5 * t + bc G) = D 9 (5 * t + bc G) * tbD D t (D 3 t) G 4 := by rw [tb_hm hg4, Nat.mul_comm]
            have hhl : hmD D t G (vwD D (D 3 t)) * D 9 (5 * t + bc G) < 2 ^ 31 := by
              have b1 := bd_le hL.1 hL.2.1 (show t < n by omega) hr7 hG
              rw [← bd_hm hg4] at b1
              omega
            refine F _ ?_
            unfold dyP
            first
              | (rw [if_pos (k1.mp (by first | exact h_32 | exact Decidable.not_not.mp h_32)), bi_0]
                 unfold isMs
                 rw [vw_t D (D 3 t) _ hg4]
                 simp only [Bool.and_eq_true, Bool.not_eq_true', decide_eq_true_eq]
                 exact ⟨fun z y => z ⟨y.2, y.1.1, y.1.2⟩, fun z y => z ⟨⟨y.2.1, y.2.2⟩, y.1⟩⟩)
              | (rw [if_neg (fun z => absurd (k1.mpr z) (by exact h_32)), if_pos (k2.mp (by first | exact h_53 | exact Decidable.not_not.mp h_53)), bi_0, off_ofs hg4 4 (Nat.le_refl 4), decide_eq_true_eq])
              | (rw [if_neg (fun z => absurd (k1.mpr z) (by exact h_32)), if_neg (fun z => absurd (k2.mpr z) (by exact h_53)), ← hh, decide_eq_true_eq]
                 exact ⟨fun z => absurd z (by decide), fun z => absurd ((nI_eq (b := 0) hhl (by omega)).mp (by first | exact h_85 | exact Decidable.not_not.mp h_85)) z⟩)
              | (rw [if_neg (fun z => absurd (k1.mpr z) (by exact h_32)), if_neg (fun z => absurd (k2.mpr z) (by exact h_53)), ← hh, decide_eq_true_eq]
                 exact ⟨fun _ z => absurd (show nI (hmD D t G (vwD D (D 3 t)) * D 9 (5 * t + bc G)) = 0 by rw [z]; rfl) (by exact h_85), fun _ => rfl⟩)
          · refine x_iconst (pc := 88) (v := 1) dX4_thingsThat_88 rfl ?_
            refine x_goto (pc := 89) (tgt := 93) dX4_thingsThat_89 rfl ?_
            have k1 : nI k = 1 ↔ k = 1 := nI_eq (a := k) (b := 1) (by omega) (by omega)
            have k2 : nI k = 2 ↔ k = 2 := nI_eq (a := k) (b := 2) (by omega) (by omega)
            have hh : hmD D t G (vwD D (D 3 t)) * D 9 (5 * t + bc G) = D 9 (5 * t + bc G) * tbD D t (D 3 t) G 4 := by rw [tb_hm hg4, Nat.mul_comm]
            have hhl : hmD D t G (vwD D (D 3 t)) * D 9 (5 * t + bc G) < 2 ^ 31 := by
              have b1 := bd_le hL.1 hL.2.1 (show t < n by omega) hr7 hG
              rw [← bd_hm hg4] at b1
              omega
            refine F _ ?_
            unfold dyP
            first
              | (rw [if_pos (k1.mp (by first | exact h_32 | exact Decidable.not_not.mp h_32)), bi_0]
                 unfold isMs
                 rw [vw_t D (D 3 t) _ hg4]
                 simp only [Bool.and_eq_true, Bool.not_eq_true', decide_eq_true_eq]
                 exact ⟨fun z y => z ⟨y.2, y.1.1, y.1.2⟩, fun z y => z ⟨⟨y.2.1, y.2.2⟩, y.1⟩⟩)
              | (rw [if_neg (fun z => absurd (k1.mpr z) (by exact h_32)), if_pos (k2.mp (by first | exact h_53 | exact Decidable.not_not.mp h_53)), bi_0, off_ofs hg4 4 (Nat.le_refl 4), decide_eq_true_eq])
              | (rw [if_neg (fun z => absurd (k1.mpr z) (by exact h_32)), if_neg (fun z => absurd (k2.mpr z) (by exact h_53)), ← hh, decide_eq_true_eq]
                 exact ⟨fun z => absurd z (by decide), fun z => absurd ((nI_eq (b := 0) hhl (by omega)).mp (by first | exact h_85 | exact Decidable.not_not.mp h_85)) z⟩)
              | (rw [if_neg (fun z => absurd (k1.mpr z) (by exact h_32)), if_neg (fun z => absurd (k2.mpr z) (by exact h_53)), ← hh, decide_eq_true_eq]
                 exact ⟨fun _ z => absurd (show nI (hmD D t G (vwD D (D 3 t)) * D 9 (5 * t + bc G)) = 0 by rw [z]; rfl) (by exact h_85), fun _ => rfl⟩)
        · refine x_aload_n (pc := 56) dX4_thingsThat_56 rfl ?_
          refine k_getR (pc := 57) hK dX4_thingsThat_57 fk_4_11 (Or.inr ⟨_, rfl⟩) (hth0) ?_
          refine x_iload (pc := 60) dX4_thingsThat_60 rfl ?_
          refine x_aald (pc := 62) dX4_thingsThat_62 (hX.1) (Or.inl rfl) (rfl) ((by omega)) (by decide) ((hX.2 t (by omega)).1) ?_
          refine x_iload_n (pc := 63) dX4_thingsThat_63 rfl ?_
          refine x_iload (pc := 64) dX4_thingsThat_64 rfl ?_
          refine x_callU (pc := 66) (As := [.int _, .int _]) dX4_thingsThat_66 mX9_isOffending (lt_4_103 (kci_th (D 0 t))) hXt.2.2.1 (k_isOffending (kci_th (D 0 t)) hXt hTt hLt hG (vw_lt D (D 3 t))) rfl rfl (Nat.le_of_ble_eq_true rfl) ⟨by decide, by decide⟩ ⟨Nat.zero_le _, Nat.zero_le _⟩ (k_rt ?_)
          refine x_goto (pc := 69) (tgt := 93) dX4_thingsThat_69 rfl ?_
          have k1 : nI k = 1 ↔ k = 1 := nI_eq (a := k) (b := 1) (by omega) (by omega)
          have k2 : nI k = 2 ↔ k = 2 := nI_eq (a := k) (b := 2) (by omega) (by omega)
          have hh : hmD D t G (vwD D (D 3 t)) * D 9 (5 * t + bc G) = D 9 (5 * t + bc G) * tbD D t (D 3 t) G 4 := by rw [tb_hm hg4, Nat.mul_comm]
          have hhl : hmD D t G (vwD D (D 3 t)) * D 9 (5 * t + bc G) < 2 ^ 31 := by
            have b1 := bd_le hL.1 hL.2.1 (show t < n by omega) hr7 hG
            rw [← bd_hm hg4] at b1
            omega
          refine F _ ?_
          unfold dyP
          first
            | (rw [if_pos (k1.mp (by first | exact h_32 | exact Decidable.not_not.mp h_32)), bi_0]
               unfold isMs
               rw [vw_t D (D 3 t) _ hg4]
               simp only [Bool.and_eq_true, Bool.not_eq_true', decide_eq_true_eq]
               exact ⟨fun z y => z ⟨y.2, y.1.1, y.1.2⟩, fun z y => z ⟨⟨y.2.1, y.2.2⟩, y.1⟩⟩)
            | (rw [if_neg (fun z => absurd (k1.mpr z) (by exact h_32)), if_pos (k2.mp (by first | exact h_53 | exact Decidable.not_not.mp h_53)), bi_0, off_ofs hg4 4 (Nat.le_refl 4), decide_eq_true_eq])
            | (rw [if_neg (fun z => absurd (k1.mpr z) (by exact h_32)), if_neg (fun z => absurd (k2.mpr z) (by exact h_53)), ← hh, decide_eq_true_eq]
               exact ⟨fun z => absurd z (by decide), fun z => absurd ((nI_eq (b := 0) hhl (by omega)).mp (by first | exact h_85 | exact Decidable.not_not.mp h_85)) z⟩)
            | (rw [if_neg (fun z => absurd (k1.mpr z) (by exact h_32)), if_neg (fun z => absurd (k2.mpr z) (by exact h_53)), ← hh, decide_eq_true_eq]
               exact ⟨fun _ z => absurd (show nI (hmD D t G (vwD D (D 3 t)) * D 9 (5 * t + bc G)) = 0 by rw [z]; rfl) (by exact h_85), fun _ => rfl⟩)
      · refine x_aload_n (pc := 35) dX4_thingsThat_35 rfl ?_
        refine k_getR (pc := 36) hK dX4_thingsThat_36 fk_4_11 (Or.inr ⟨_, rfl⟩) (hth0) ?_
        refine x_iload (pc := 39) dX4_thingsThat_39 rfl ?_
        refine x_aald (pc := 41) dX4_thingsThat_41 (hX.1) (Or.inl rfl) (rfl) ((by omega)) (by decide) ((hX.2 t (by omega)).1) ?_
        refine x_iload_n (pc := 42) dX4_thingsThat_42 rfl ?_
        refine x_iload (pc := 43) dX4_thingsThat_43 rfl ?_
        refine x_callU (pc := 45) (As := [.int _, .int _]) dX4_thingsThat_45 mX9_isMissed (lt_4_100 (kci_th (D 0 t))) hXt.2.2.1 (k_isMissed (kci_th (D 0 t)) hXt hTt hLt hG (vw_lt D (D 3 t))) rfl rfl (Nat.le_of_ble_eq_true rfl) ⟨by decide, by decide⟩ ⟨Nat.zero_le _, Nat.zero_le _⟩ (k_rt ?_)
        refine x_goto (pc := 48) (tgt := 93) dX4_thingsThat_48 rfl ?_
        have k1 : nI k = 1 ↔ k = 1 := nI_eq (a := k) (b := 1) (by omega) (by omega)
        have k2 : nI k = 2 ↔ k = 2 := nI_eq (a := k) (b := 2) (by omega) (by omega)
        have hh : hmD D t G (vwD D (D 3 t)) * D 9 (5 * t + bc G) = D 9 (5 * t + bc G) * tbD D t (D 3 t) G 4 := by rw [tb_hm hg4, Nat.mul_comm]
        have hhl : hmD D t G (vwD D (D 3 t)) * D 9 (5 * t + bc G) < 2 ^ 31 := by
          have b1 := bd_le hL.1 hL.2.1 (show t < n by omega) hr7 hG
          rw [← bd_hm hg4] at b1
          omega
        refine F _ ?_
        unfold dyP
        first
          | (rw [if_pos (k1.mp (by first | exact h_32 | exact Decidable.not_not.mp h_32)), bi_0]
             unfold isMs
             rw [vw_t D (D 3 t) _ hg4]
             simp only [Bool.and_eq_true, Bool.not_eq_true', decide_eq_true_eq]
             exact ⟨fun z y => z ⟨y.2, y.1.1, y.1.2⟩, fun z y => z ⟨⟨y.2.1, y.2.2⟩, y.1⟩⟩)
          | (rw [if_neg (fun z => absurd (k1.mpr z) (by exact h_32)), if_pos (k2.mp (by first | exact h_53 | exact Decidable.not_not.mp h_53)), bi_0, off_ofs hg4 4 (Nat.le_refl 4), decide_eq_true_eq])
          | (rw [if_neg (fun z => absurd (k1.mpr z) (by exact h_32)), if_neg (fun z => absurd (k2.mpr z) (by exact h_53)), ← hh, decide_eq_true_eq]
             exact ⟨fun z => absurd z (by decide), fun z => absurd ((nI_eq (b := 0) hhl (by omega)).mp (by first | exact h_85 | exact Decidable.not_not.mp h_85)) z⟩)
          | (rw [if_neg (fun z => absurd (k1.mpr z) (by exact h_32)), if_neg (fun z => absurd (k2.mpr z) (by exact h_53)), ← hh, decide_eq_true_eq]
             exact ⟨fun _ z => absurd (show nI (hmD D t G (vwD D (D 3 t)) * D 9 (5 * t + bc G)) = 0 by rw [z]; rfl) (by exact h_85), fun _ => rfl⟩)
  refine x_iconst (pc := 0) (v := 0) dX4_thingsThat_0 rfl ?_
  refine x_istore_n (pc := 1) (lv2 := [_, _, _, _, _, _, _]) dX4_thingsThat_1 (by decide) rfl rfl ?_
  refine x_iconst (pc := 2) (v := 0) dX4_thingsThat_2 rfl ?_
  refine x_istore (pc := 3) (lv2 := [_, _, _, _, _, _, _]) dX4_thingsThat_3 (by decide) rfl rfl ?_
  exact Lo n 0 _ _ (by omega)
end M84
