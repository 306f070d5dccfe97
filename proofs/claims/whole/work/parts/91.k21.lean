/-! the class: its reader as functions -/
def okc (n : Nat) (c : CT) : Prop := c.1 ≤ n ∧ c.2.2.2.2.2.1 ≤ 160
def cAt (σ : MS) (f n : Nat) (ca ce : Nat → CT → CT) (op : Nat) (c : CT) : CT := if c.2.2.1 = -22 then cA σ f n (cE c.2.2.2.1 c) else if c.2.2.1 ≤ -1 ∧ -6 ≤ c.2.2.1 then cA σ f n (cE c.2.2.1 c) else if c.2.2.1 = -13 ∧ op < 5 then cE (-15) (ca (op + 1) (cA σ f n c)) else if c.2.2.1 = -17 ∧ op < 5 then cX σ f n (-18) (ce (op + 1) (cA σ f n c)) else cF c
def clp (step : CT → Option CT) : Nat → CT → CT
  | 0, c => c
  | k + 1, c => match step c with
    | none => c
    | some d => clp step k d
def stX (σ : MS) (f n : Nat) (g : CT → CT) (v : Int32) (c : CT) : Option CT := if c.2.2.1 = v then some (cE v (g (cA σ f n c))) else none
def stS (σ : MS) (f n : Nat) (g : CT → CT) (c : CT) : Option CT := if c.2.2.1 = -12 ∨ c.2.2.1 = -13 then some (cE c.2.2.1 (g (cA σ f n c))) else none
def cCm (σ : MS) (f n : Nat) (g : CT → CT) (c : CT) : CT := if (g c).2.2.1 = -10 ∨ (g c).2.2.1 = -11 then cE (g c).2.2.1 (g (cA σ f n (g c))) else g c
def cNt (σ : MS) (f n : Nat) (cn cs : Nat → CT → CT) (op : Nat) (c : CT) : CT := if c.2.2.1 = -9 then (if 5 ≤ op then cF c else cE (-9) (cn (op + 1) (cA σ f n c))) else cCm σ f n (cs op) c
/-- one, term, sum, negation, both, either: by how deep they may go, how many are open -/
def cz (σ : MS) (f n : Nat) : Nat → Nat → Nat → CT → CT
  | 0, _, _, c => c
  | N + 1, 0, op, c => cAt σ f n (cz σ f n N 0) (cz σ f n N 5) op c
  | N + 1, 1, op, c => clp (stX σ f n (cz σ f n N 0 op) (-14)) 160 (cz σ f n N 0 op c)
  | N + 1, 2, op, c => clp (stS σ f n (cz σ f n N 1 op)) 160 (cz σ f n N 1 op c)
  | N + 1, 3, op, c => cNt σ f n (cz σ f n N 3) (cz σ f n N 2) op c
  | N + 1, 4, op, c => clp (stX σ f n (cz σ f n N 3 op) (-8)) 160 (cz σ f n N 3 op c)
  | N + 1, _, op, c => clp (stX σ f n (cz σ f n N 4 op) (-7)) 160 (cz σ f n N 4 op c)
section
variable {σ : MS} {f n : Nat} {c : CT}
theorem okc_F (h : okc n c) : okc n (cF c) := h
theorem okc_E {v : Int32} (h : okc n c) : okc n (cE v c) := by
  unfold cE
  split
  · refine ⟨h.1, ?_⟩
    show c.2.2.2.2.2.1 + 1 ≤ 160
    omega
  · exact h
theorem okc_A (h : okc n c) : okc n (cA σ f n c) := by
  have hs := skB_in (σ := σ) (f := f) (n := n) (n - c.1) c.1 (by have := h.1; omega)
  unfold cA
  split
  · generalize skB σ f n (n - c.1) c.1 = s at hs
    unfold cAx
    split
    · exact ⟨hs.2, h.2⟩
    · rename_i hlt
      split
      · exact ⟨(weB_in (σ := σ) (f := f) (n := n) (n - s) s (by omega)).2, h.2⟩
      · split
        · exact ⟨(dcB_in (σ := σ) (f := f) (n := n) (n - s) s 0 (by omega)).2, h.2⟩
        · exact ⟨by show s + 1 ≤ n; omega, h.2⟩
  · exact h
theorem okc_X {v : Int32} (h : okc n c) : okc n (cX σ f n v c) := by
  unfold cX
  split
  · exact okc_A h
  · exact okc_F h
theorem clp_ok {step : CT → Option CT} (hs : ∀ c d, okc n c → step c = some d → okc n d) : ∀ (k : Nat) (c : CT), okc n c → okc n (clp step k c)
  | 0, _, h => h
  | k + 1, c, h => by
    rw [clp]
    split
    · exact h
    · rename_i d hd
      exact clp_ok hs k d (hs c d h hd)
theorem sT_ok {g : CT → CT} {v : Int32} (hg : ∀ c, okc n c → okc n (g c)) (c d : CT) (h : okc n c) (e : stX σ f n g v c = some d) : okc n d := by
  unfold stX at e
  split at e
  · cases e
    exact okc_E (hg _ (okc_A h))
  · cases e
theorem sA_ok {g : CT → CT} (hg : ∀ c, okc n c → okc n (g c)) (c d : CT) (h : okc n c) (e : stS σ f n g c = some d) : okc n d := by
  unfold stS at e
  split at e
  · cases e
    exact okc_E (hg _ (okc_A h))
  · cases e
theorem cz_ok : ∀ (N l op : Nat) (c : CT), okc n c → okc n (cz σ f n N l op c)
  | 0, _, _, _, h => h
  | N + 1, 0, op, c, h => by
    show okc n (cAt σ f n (cz σ f n N 0) (cz σ f n N 5) op c)
    unfold cAt
    split
    · exact okc_A (okc_E h)
    · split
      · exact okc_A (okc_E h)
      · split
        · exact okc_E (cz_ok N 0 _ _ (okc_A h))
        · split
          · exact okc_X (cz_ok N 5 _ _ (okc_A h))
          · exact okc_F h
  | N + 1, 1, op, c, h => clp_ok (sT_ok (cz_ok N 0 op)) 160 _ (cz_ok N 0 op c h)
  | N + 1, 2, op, c, h => clp_ok (sA_ok (cz_ok N 1 op)) 160 _ (cz_ok N 1 op c h)
  | N + 1, 3, op, c, h => by
    show okc n (cNt σ f n (cz σ f n N 3) (cz σ f n N 2) op c)
    unfold cNt
    split
    · split
      · exact okc_F h
      · exact okc_E (cz_ok N 3 _ _ (okc_A h))
    · unfold cCm
      have k := cz_ok N 2 op c h
      split
      · exact okc_E (cz_ok N 2 op _ (okc_A k))
      · exact k
  | N + 1, 4, op, c, h => clp_ok (sT_ok (cz_ok N 3 op)) 160 _ (cz_ok N 3 op c h)
  | N + 1, l + 5, op, c, h => clp_ok (sT_ok (cz_ok N 4 op)) 160 _ (cz_ok N 4 op c h)
end
theorem rmz {D d1 : Nat} (h : d1 + 1 ≤ D) : d1 + 1 ≤ (xrm D 0 0).frames ∧ 64 * (d1 + 1) ≤ (xrm D 0 0).locals := ⟨h, Nat.mul_le_mul_left 64 h⟩
section M91
variable {Γ : Gm} {μ : Mem} {b : Kb} {κ : KS} {σ : MS} {f n lt : Nat}
theorem z_term (hK : KO μ b 4 6 rdL) (hT : KTp μ b lt) (hO : cO κ σ f n) (hl : n ≤ lt) (hl2 : lt < 2 ^ 31) (N : Nat) (c0 : (∀ op c, okc n c → op ≤ 5 → 7 * (5 - op) + 0 < N → XM Γ zX6_one (2 * N + 8) 0 0 [.ref (adO b 4), .int (nI op)] (KV μ b (rK κ c)) (rv (KV μ b (rK κ (cz σ f n N 0 op c)))))) : ∀ op c, okc n c → op ≤ 5 → 7 * (5 - op) + 1 < (N + 1) → XM Γ zX6_term (2 * (N + 1) + 8) 0 0 [.ref (adO b 4), .int (nI op)] (KV μ b (rK κ c)) (rv (KV μ b (rK κ (cz σ f n ((N + 1)) 1 op c)))) := by
  intro op c h h5 hd
  refine XM.of 1 rfl (by decide) (Nat.le_of_ble_eq_true rfl) ?_
  have L : ∀ (m i : Nat) (d : CT), i + m = 160 → okc n d → WA Γ zX6_term (xrm (2 * (N + 1) + 8) 0 0) 0 0 0 0 (rv (KV μ b (rK κ (clp (stX σ f n (cz σ f n N 0 op) (-14)) m d)))) 7 [some (.ref (adO b 4)), some (.int (nI op)), some (.int (nI i))] [] (KV μ b (rK κ d)) := by
    intro m
    induction m with
    | zero =>
      intro i d hi hk
      obtain rfl : i = 160 := by omega
      refine x_iload_n (pc := 7) dX6_term_7 rfl ?_
      refine x_sipush (pc := 8) (v := 160) dX6_term_8 rfl ?_
      refine x_icmp_ge (pc := 11) (tgt := 44) dX6_term_11 rfl (fun h_11 => ?_) (fun h_11 => absurd (by decide) h_11)
      refine x_return (pc := 44) dX6_term_44 rfl ?_
      exact ⟨rfl, rfl⟩
    | succ m ih =>
      intro i d hi hk
      rw [clp, stX]
      refine x_iload_n (pc := 7) dX6_term_7 rfl ?_
      refine x_sipush (pc := 8) (v := 160) dX6_term_8 rfl ?_
      refine x_icmp_ge (pc := 11) (tgt := 44) dX6_term_11 rfl (fun h_11 => absurd h_11 (nI_ge (a := i) (b := 160) (by omega) (by decide))) (fun h_11 => ?_)
      refine x_aload_n (pc := 14) dX6_term_14 rfl ?_
      refine k_getI (pc := 15) hK dX6_term_15 fk_6_25 (Or.inl rfl) ?_
      refine x_bipush (pc := 18) (v := -14) dX6_term_18 rfl ?_
      refine x_icmp_ne (pc := 20) (tgt := 44) dX6_term_20 rfl (fun h_20 => ?_) (fun h_20 => ?_)
      · rw [if_neg (show ¬ d.2.2.1 = -14 from h_20)]
        refine x_return (pc := 44) dX6_term_44 rfl ?_
        exact ⟨rfl, rfl⟩
      · rw [if_pos (show d.2.2.1 = -14 by first | exact h_20 | exact Decidable.not_not.mp h_20)]
        refine x_aload_n (pc := 23) dX6_term_23 rfl ?_
        refine x_callV (pc := 24) (As := []) dX6_term_24 mX6_advance lk_6_43 hK.2.2.1 (k_advance hK hT hO hl hl2 hk.1) rfl rfl (Nat.le_of_ble_eq_true rfl) (rmz (by omega)) ⟨Nat.zero_le _, Nat.zero_le _⟩ (k_rv ?_)
        refine x_aload_n (pc := 27) dX6_term_27 rfl ?_
        refine x_iload_n (pc := 28) dX6_term_28 rfl ?_
        refine x_callV (pc := 29) (As := [.int _]) dX6_term_29 mX6_one lk_6_79 hK.2.2.1 (c0 op _ (okc_A hk) h5 (by omega)) rfl rfl (Nat.le_of_ble_eq_true rfl) (rmz (by omega)) ⟨Nat.zero_le _, Nat.zero_le _⟩ (k_rv ?_)
        refine x_aload_n (pc := 32) dX6_term_32 rfl ?_
        refine x_bipush (pc := 33) (v := -14) dX6_term_33 rfl ?_
        refine x_callV (pc := 35) (As := [.int _]) dX6_term_35 mX6_emit lk_6_53 hK.2.2.1 (k_emit hK (cz_ok N 0 op _ (okc_A hk)).2) rfl rfl (Nat.le_of_ble_eq_true rfl) (rmz (by omega)) ⟨Nat.zero_le _, Nat.zero_le _⟩ (k_rv ?_)
        refine x_iinc (pc := 38) (lv2 := [_, _, _]) dX6_term_38 (by decide) rfl rfl (nI_1 _) rfl ?_
        refine x_goto (pc := 41) (tgt := 7) dX6_term_41 rfl ?_
        exact ih (i + 1) _ (by omega) (okc_E (cz_ok N 0 op _ (okc_A hk)))
  refine x_aload_n (pc := 0) dX6_term_0 rfl ?_
  refine x_iload_n (pc := 1) dX6_term_1 rfl ?_
  refine x_callV (pc := 2) (As := [.int _]) dX6_term_2 mX6_one lk_6_79 hK.2.2.1 (c0 op c h h5 (by omega)) rfl rfl (Nat.le_of_ble_eq_true rfl) (rmz (by omega)) ⟨Nat.zero_le _, Nat.zero_le _⟩ (k_rv ?_)
  refine x_iconst (pc := 5) (v := 0) dX6_term_5 rfl ?_
  refine x_istore_n (pc := 6) (lv2 := [_, _, _]) dX6_term_6 (by decide) rfl rfl ?_
  exact L 160 0 _ rfl (cz_ok N 0 op c h)
theorem z_both (hK : KO μ b 4 6 rdL) (hT : KTp μ b lt) (hO : cO κ σ f n) (hl : n ≤ lt) (hl2 : lt < 2 ^ 31) (N : Nat) (c0 : (∀ op c, okc n c → op ≤ 5 → 7 * (5 - op) + 3 < N → XM Γ zX6_negation (2 * N + 8) 0 0 [.ref (adO b 4), .int (nI op)] (KV μ b (rK κ c)) (rv (KV μ b (rK κ (cz σ f n N 3 op c)))))) : ∀ op c, okc n c → op ≤ 5 → 7 * (5 - op) + 4 < (N + 1) → XM Γ zX6_both (2 * (N + 1) + 8) 0 0 [.ref (adO b 4), .int (nI op)] (KV μ b (rK κ c)) (rv (KV μ b (rK κ (cz σ f n ((N + 1)) 4 op c)))) := by
  intro op c h h5 hd
  refine XM.of 1 rfl (by decide) (Nat.le_of_ble_eq_true rfl) ?_
  have L : ∀ (m i : Nat) (d : CT), i + m = 160 → okc n d → WA Γ zX6_both (xrm (2 * (N + 1) + 8) 0 0) 0 0 0 0 (rv (KV μ b (rK κ (clp (stX σ f n (cz σ f n N 3 op) (-8)) m d)))) 7 [some (.ref (adO b 4)), some (.int (nI op)), some (.int (nI i))] [] (KV μ b (rK κ d)) := by
    intro m
    induction m with
    | zero =>
      intro i d hi hk
      obtain rfl : i = 160 := by omega
      refine x_iload_n (pc := 7) dX6_both_7 rfl ?_
      refine x_sipush (pc := 8) (v := 160) dX6_both_8 rfl ?_
      refine x_icmp_ge (pc := 11) (tgt := 44) dX6_both_11 rfl (fun h_11 => ?_) (fun h_11 => absurd (by decide) h_11)
      refine x_return (pc := 44) dX6_both_44 rfl ?_
      exact ⟨rfl, rfl⟩
    | succ m ih =>
      intro i d hi hk
      rw [clp, stX]
      refine x_iload_n (pc := 7) dX6_both_7 rfl ?_
      refine x_sipush (pc := 8) (v := 160) dX6_both_8 rfl ?_
      refine x_icmp_ge (pc := 11) (tgt := 44) dX6_both_11 rfl (fun h_11 => absurd h_11 (nI_ge (a := i) (b := 160) (by omega) (by decide))) (fun h_11 => ?_)
      refine x_aload_n (pc := 14) dX6_both_14 rfl ?_
      refine k_getI (pc := 15) hK dX6_both_15 fk_6_25 (Or.inl rfl) ?_
      refine x_bipush (pc := 18) (v := -8) dX6_both_18 rfl ?_
      refine x_icmp_ne (pc := 20) (tgt := 44) dX6_both_20 rfl (fun h_20 => ?_) (fun h_20 => ?_)
      · rw [if_neg (show ¬ d.2.2.1 = -8 from h_20)]
        refine x_return (pc := 44) dX6_both_44 rfl ?_
        exact ⟨rfl, rfl⟩
      · rw [if_pos (show d.2.2.1 = -8 by first | exact h_20 | exact Decidable.not_not.mp h_20)]
        refine x_aload_n (pc := 23) dX6_both_23 rfl ?_
        refine x_callV (pc := 24) (As := []) dX6_both_24 mX6_advance lk_6_43 hK.2.2.1 (k_advance hK hT hO hl hl2 hk.1) rfl rfl (Nat.le_of_ble_eq_true rfl) (rmz (by omega)) ⟨Nat.zero_le _, Nat.zero_le _⟩ (k_rv ?_)
        refine x_aload_n (pc := 27) dX6_both_27 rfl ?_
        refine x_iload_n (pc := 28) dX6_both_28 rfl ?_
        refine x_callV (pc := 29) (As := [.int _]) dX6_both_29 mX6_negation lk_6_64 hK.2.2.1 (c0 op _ (okc_A hk) h5 (by omega)) rfl rfl (Nat.le_of_ble_eq_true rfl) (rmz (by omega)) ⟨Nat.zero_le _, Nat.zero_le _⟩ (k_rv ?_)
        refine x_aload_n (pc := 32) dX6_both_32 rfl ?_
        refine x_bipush (pc := 33) (v := -8) dX6_both_33 rfl ?_
        refine x_callV (pc := 35) (As := [.int _]) dX6_both_35 mX6_emit lk_6_53 hK.2.2.1 (k_emit hK (cz_ok N 3 op _ (okc_A hk)).2) rfl rfl (Nat.le_of_ble_eq_true rfl) (rmz (by omega)) ⟨Nat.zero_le _, Nat.zero_le _⟩ (k_rv ?_)
        refine x_iinc (pc := 38) (lv2 := [_, _, _]) dX6_both_38 (by decide) rfl rfl (nI_1 _) rfl ?_
        refine x_goto (pc := 41) (tgt := 7) dX6_both_41 rfl ?_
        exact ih (i + 1) _ (by omega) (okc_E (cz_ok N 3 op _ (okc_A hk)))
  refine x_aload_n (pc := 0) dX6_both_0 rfl ?_
  refine x_iload_n (pc := 1) dX6_both_1 rfl ?_
  refine x_callV (pc := 2) (As := [.int _]) dX6_both_2 mX6_negation lk_6_64 hK.2.2.1 (c0 op c h h5 (by omega)) rfl rfl (Nat.le_of_ble_eq_true rfl) (rmz (by omega)) ⟨Nat.zero_le _, Nat.zero_le _⟩ (k_rv ?_)
  refine x_iconst (pc := 5) (v := 0) dX6_both_5 rfl ?_
  refine x_istore_n (pc := 6) (lv2 := [_, _, _]) dX6_both_6 (by decide) rfl rfl ?_
  exact L 160 0 _ rfl (cz_ok N 3 op c h)
theorem z_either (hK : KO μ b 4 6 rdL) (hT : KTp μ b lt) (hO : cO κ σ f n) (hl : n ≤ lt) (hl2 : lt < 2 ^ 31) (N : Nat) (c0 : (∀ op c, okc n c → op ≤ 5 → 7 * (5 - op) + 4 < N → XM Γ zX6_both (2 * N + 8) 0 0 [.ref (adO b 4), .int (nI op)] (KV μ b (rK κ c)) (rv (KV μ b (rK κ (cz σ f n N 4 op c)))))) : ∀ op c, okc n c → op ≤ 5 → 7 * (5 - op) + 5 < (N + 1) → XM Γ zX6_either (2 * (N + 1) + 8) 0 0 [.ref (adO b 4), .int (nI op)] (KV μ b (rK κ c)) (rv (KV μ b (rK κ (cz σ f n ((N + 1)) 5 op c)))) := by
  intro op c h h5 hd
  refine XM.of 1 rfl (by decide) (Nat.le_of_ble_eq_true rfl) ?_
  have L : ∀ (m i : Nat) (d : CT), i + m = 160 → okc n d → WA Γ zX6_either (xrm (2 * (N + 1) + 8) 0 0) 0 0 0 0 (rv (KV μ b (rK κ (clp (stX σ f n (cz σ f n N 4 op) (-7)) m d)))) 7 [some (.ref (adO b 4)), some (.int (nI op)), some (.int (nI i))] [] (KV μ b (rK κ d)) := by
    intro m
    induction m with
    | zero =>
      intro i d hi hk
      obtain rfl : i = 160 := by omega
      refine x_iload_n (pc := 7) dX6_either_7 rfl ?_
      refine x_sipush (pc := 8) (v := 160) dX6_either_8 rfl ?_
      refine x_icmp_ge (pc := 11) (tgt := 44) dX6_either_11 rfl (fun h_11 => ?_) (fun h_11 => absurd (by decide) h_11)
      refine x_return (pc := 44) dX6_either_44 rfl ?_
      exact ⟨rfl, rfl⟩
    | succ m ih =>
      intro i d hi hk
      rw [clp, stX]
      refine x_iload_n (pc := 7) dX6_either_7 rfl ?_
      refine x_sipush (pc := 8) (v := 160) dX6_either_8 rfl ?_
      refine x_icmp_ge (pc := 11) (tgt := 44) dX6_either_11 rfl (fun h_11 => absurd h_11 (nI_ge (a := i) (b := 160) (by omega) (by decide))) (fun h_11 => ?_)
      refine x_aload_n (pc := 14) dX6_either_14 rfl ?_
      refine k_getI (pc := 15) hK dX6_either_15 fk_6_25 (Or.inl rfl) ?_
      refine x_bipush (pc := 18) (v := -7) dX6_either_18 rfl ?_
      refine x_icmp_ne (pc := 20) (tgt := 44) dX6_either_20 rfl (fun h_20 => ?_) (fun h_20 => ?_)
      · rw [if_neg (show ¬ d.2.2.1 = -7 from h_20)]
        refine x_return (pc := 44) dX6_either_44 rfl ?_
        exact ⟨rfl, rfl⟩
      · rw [if_pos (show d.2.2.1 = -7 by first | exact h_20 | exact Decidable.not_not.mp h_20)]
        refine x_aload_n (pc := 23) dX6_either_23 rfl ?_
        refine x_callV (pc := 24) (As := []) dX6_either_24 mX6_advance lk_6_43 hK.2.2.1 (k_advance hK hT hO hl hl2 hk.1) rfl rfl (Nat.le_of_ble_eq_true rfl) (rmz (by omega)) ⟨Nat.zero_le _, Nat.zero_le _⟩ (k_rv ?_)
        refine x_aload_n (pc := 27) dX6_either_27 rfl ?_
        refine x_iload_n (pc := 28) dX6_either_28 rfl ?_
        refine x_callV (pc := 29) (As := [.int _]) dX6_either_29 mX6_both lk_6_61 hK.2.2.1 (c0 op _ (okc_A hk) h5 (by omega)) rfl rfl (Nat.le_of_ble_eq_true rfl) (rmz (by omega)) ⟨Nat.zero_le _, Nat.zero_le _⟩ (k_rv ?_)
        refine x_aload_n (pc := 32) dX6_either_32 rfl ?_
        refine x_bipush (pc := 33) (v := -7) dX6_either_33 rfl ?_
        refine x_callV (pc := 35) (As := [.int _]) dX6_either_35 mX6_emit lk_6_53 hK.2.2.1 (k_emit hK (cz_ok N 4 op _ (okc_A hk)).2) rfl rfl (Nat.le_of_ble_eq_true rfl) (rmz (by omega)) ⟨Nat.zero_le _, Nat.zero_le _⟩ (k_rv ?_)
        refine x_iinc (pc := 38) (lv2 := [_, _, _]) dX6_either_38 (by decide) rfl rfl (nI_1 _) rfl ?_
        refine x_goto (pc := 41) (tgt := 7) dX6_either_41 rfl ?_
        exact ih (i + 1) _ (by omega) (okc_E (cz_ok N 4 op _ (okc_A hk)))
  refine x_aload_n (pc := 0) dX6_either_0 rfl ?_
  refine x_iload_n (pc := 1) dX6_either_1 rfl ?_
  refine x_callV (pc := 2) (As := [.int _]) dX6_either_2 mX6_both lk_6_61 hK.2.2.1 (c0 op c h h5 (by omega)) rfl rfl (Nat.le_of_ble_eq_true rfl) (rmz (by omega)) ⟨Nat.zero_le _, Nat.zero_le _⟩ (k_rv ?_)
  refine x_iconst (pc := 5) (v := 0) dX6_either_5 rfl ?_
  refine x_istore_n (pc := 6) (lv2 := [_, _, _]) dX6_either_6 (by decide) rfl rfl ?_
  exact L 160 0 _ rfl (cz_ok N 4 op c h)
theorem z_sum (hK : KO μ b 4 6 rdL) (hT : KTp μ b lt) (hO : cO κ σ f n) (hl : n ≤ lt) (hl2 : lt < 2 ^ 31) (N : Nat) (c0 : (∀ op c, okc n c → op ≤ 5 → 7 * (5 - op) + 1 < N → XM Γ zX6_term (2 * N + 8) 0 0 [.ref (adO b 4), .int (nI op)] (KV μ b (rK κ c)) (rv (KV μ b (rK κ (cz σ f n N 1 op c)))))) : ∀ op c, okc n c → op ≤ 5 → 7 * (5 - op) + 2 < (N + 1) → XM Γ zX6_sum (2 * (N + 1) + 8) 0 0 [.ref (adO b 4), .int (nI op)] (KV μ b (rK κ c)) (rv (KV μ b (rK κ (cz σ f n ((N + 1)) 2 op c)))) := by
  intro op c h h5 hd
  refine XM.of 2 rfl (by decide) (Nat.le_of_ble_eq_true rfl) ?_
  have L : ∀ (m i : Nat) (d : CT) (z : Option Value), i + m = 160 → okc n d → WA Γ zX6_sum (xrm (2 * (N + 1) + 8) 0 0) 0 0 0 0 (rv (KV μ b (rK κ (clp (stS σ f n (cz σ f n N 1 op)) m d)))) 7 [some (.ref (adO b 4)), some (.int (nI op)), some (.int (nI i)), z] [] (KV μ b (rK κ d)) := by
    intro m
    induction m with
    | zero =>
      intro i d z hi hk
      obtain rfl : i = 160 := by omega
      refine x_iload_n (pc := 7) dX6_sum_7 rfl ?_
      refine x_sipush (pc := 8) (v := 160) dX6_sum_8 rfl ?_
      refine x_icmp_ge (pc := 11) (tgt := 57) dX6_sum_11 rfl (fun h_11 => ?_) (fun h_11 => absurd (by decide) h_11)
      refine x_return (pc := 57) dX6_sum_57 rfl ?_
      exact ⟨rfl, rfl⟩
    | succ m ih =>
      intro i d z hi hk
      rw [clp, stS]
      refine x_iload_n (pc := 7) dX6_sum_7 rfl ?_
      refine x_sipush (pc := 8) (v := 160) dX6_sum_8 rfl ?_
      refine x_icmp_ge (pc := 11) (tgt := 57) dX6_sum_11 rfl (fun h_11 => absurd h_11 (nI_ge (a := i) (b := 160) (by omega) (by decide))) (fun h_11 => ?_)
      refine x_aload_n (pc := 14) dX6_sum_14 rfl ?_
      refine k_getI (pc := 15) hK dX6_sum_15 fk_6_25 (Or.inl rfl) ?_
      refine x_bipush (pc := 18) (v := -12) dX6_sum_18 rfl ?_
      refine x_icmp_eq (pc := 20) (tgt := 32) dX6_sum_20 rfl (fun h_20 => ?_) (fun h_20 => ?_)
      · rw [if_pos (show d.2.2.1 = -12 ∨ d.2.2.1 = -13 by first | exact Or.inl h_20 | exact Or.inr h_29 | exact Or.inr (Decidable.not_not.mp h_29))]
        refine x_aload_n (pc := 32) dX6_sum_32 rfl ?_
        refine k_getI (pc := 33) hK dX6_sum_33 fk_6_25 (Or.inl rfl) ?_
        refine x_istore_n (pc := 36) (lv2 := [_, _, _, _]) dX6_sum_36 (by decide) rfl rfl ?_
        refine x_aload_n (pc := 37) dX6_sum_37 rfl ?_
        refine x_callV (pc := 38) (As := []) dX6_sum_38 mX6_advance lk_6_43 hK.2.2.1 (k_advance hK hT hO hl hl2 hk.1) rfl rfl (Nat.le_of_ble_eq_true rfl) (rmz (by omega)) ⟨Nat.zero_le _, Nat.zero_le _⟩ (k_rv ?_)
        refine x_aload_n (pc := 41) dX6_sum_41 rfl ?_
        refine x_iload_n (pc := 42) dX6_sum_42 rfl ?_
        refine x_callV (pc := 43) (As := [.int _]) dX6_sum_43 mX6_term lk_6_76 hK.2.2.1 (c0 op _ (okc_A hk) h5 (by omega)) rfl rfl (Nat.le_of_ble_eq_true rfl) (rmz (by omega)) ⟨Nat.zero_le _, Nat.zero_le _⟩ (k_rv ?_)
        refine x_aload_n (pc := 46) dX6_sum_46 rfl ?_
        refine x_iload_n (pc := 47) dX6_sum_47 rfl ?_
        refine x_callV (pc := 48) (As := [.int _]) dX6_sum_48 mX6_emit lk_6_53 hK.2.2.1 (k_emit hK (cz_ok N 1 op _ (okc_A hk)).2) rfl rfl (Nat.le_of_ble_eq_true rfl) (rmz (by omega)) ⟨Nat.zero_le _, Nat.zero_le _⟩ (k_rv ?_)
        refine x_iinc (pc := 51) (lv2 := [_, _, _, _]) dX6_sum_51 (by decide) rfl rfl (nI_1 _) rfl ?_
        refine x_goto (pc := 54) (tgt := 7) dX6_sum_54 rfl ?_
        exact ih (i + 1) _ _ (by omega) (okc_E (cz_ok N 1 op _ (okc_A hk)))
      · refine x_aload_n (pc := 23) dX6_sum_23 rfl ?_
        refine k_getI (pc := 24) hK dX6_sum_24 fk_6_25 (Or.inl rfl) ?_
        refine x_bipush (pc := 27) (v := -13) dX6_sum_27 rfl ?_
        refine x_icmp_ne (pc := 29) (tgt := 57) dX6_sum_29 rfl (fun h_29 => ?_) (fun h_29 => ?_)
        · rw [if_neg (show ¬ (d.2.2.1 = -12 ∨ d.2.2.1 = -13) from fun q => q.elim (fun y => h_20 y) (fun y => h_29 y))]
          refine x_return (pc := 57) dX6_sum_57 rfl ?_
          exact ⟨rfl, rfl⟩
        · rw [if_pos (show d.2.2.1 = -12 ∨ d.2.2.1 = -13 by first | exact Or.inl h_20 | exact Or.inr h_29 | exact Or.inr (Decidable.not_not.mp h_29))]
          refine x_aload_n (pc := 32) dX6_sum_32 rfl ?_
          refine k_getI (pc := 33) hK dX6_sum_33 fk_6_25 (Or.inl rfl) ?_
          refine x_istore_n (pc := 36) (lv2 := [_, _, _, _]) dX6_sum_36 (by decide) rfl rfl ?_
          refine x_aload_n (pc := 37) dX6_sum_37 rfl ?_
          refine x_callV (pc := 38) (As := []) dX6_sum_38 mX6_advance lk_6_43 hK.2.2.1 (k_advance hK hT hO hl hl2 hk.1) rfl rfl (Nat.le_of_ble_eq_true rfl) (rmz (by omega)) ⟨Nat.zero_le _, Nat.zero_le _⟩ (k_rv ?_)
          refine x_aload_n (pc := 41) dX6_sum_41 rfl ?_
          refine x_iload_n (pc := 42) dX6_sum_42 rfl ?_
          refine x_callV (pc := 43) (As := [.int _]) dX6_sum_43 mX6_term lk_6_76 hK.2.2.1 (c0 op _ (okc_A hk) h5 (by omega)) rfl rfl (Nat.le_of_ble_eq_true rfl) (rmz (by omega)) ⟨Nat.zero_le _, Nat.zero_le _⟩ (k_rv ?_)
          refine x_aload_n (pc := 46) dX6_sum_46 rfl ?_
          refine x_iload_n (pc := 47) dX6_sum_47 rfl ?_
          refine x_callV (pc := 48) (As := [.int _]) dX6_sum_48 mX6_emit lk_6_53 hK.2.2.1 (k_emit hK (cz_ok N 1 op _ (okc_A hk)).2) rfl rfl (Nat.le_of_ble_eq_true rfl) (rmz (by omega)) ⟨Nat.zero_le _, Nat.zero_le _⟩ (k_rv ?_)
          refine x_iinc (pc := 51) (lv2 := [_, _, _, _]) dX6_sum_51 (by decide) rfl rfl (nI_1 _) rfl ?_
          refine x_goto (pc := 54) (tgt := 7) dX6_sum_54 rfl ?_
          exact ih (i + 1) _ _ (by omega) (okc_E (cz_ok N 1 op _ (okc_A hk)))
  refine x_aload_n (pc := 0) dX6_sum_0 rfl ?_
  refine x_iload_n (pc := 1) dX6_sum_1 rfl ?_
  refine x_callV (pc := 2) (As := [.int _]) dX6_sum_2 mX6_term lk_6_76 hK.2.2.1 (c0 op c h h5 (by omega)) rfl rfl (Nat.le_of_ble_eq_true rfl) (rmz (by omega)) ⟨Nat.zero_le _, Nat.zero_le _⟩ (k_rv ?_)
  refine x_iconst (pc := 5) (v := 0) dX6_sum_5 rfl ?_
  refine x_istore_n (pc := 6) (lv2 := [_, _, _, _]) dX6_sum_6 (by decide) rfl rfl ?_
  exact L 160 0 _ _ rfl (cz_ok N 1 op c h)
theorem z_cmp (hK : KO μ b 4 6 rdL) (hT : KTp μ b lt) (hO : cO κ σ f n) (hl : n ≤ lt) (hl2 : lt < 2 ^ 31) (N : Nat) (c0 : (∀ op c, okc n c → op ≤ 5 → 7 * (5 - op) + 2 < N → XM Γ zX6_sum (2 * N + 8) 0 0 [.ref (adO b 4), .int (nI op)] (KV μ b (rK κ c)) (rv (KV μ b (rK κ (cz σ f n N 2 op c)))))) : ∀ op c, okc n c → op ≤ 5 → 7 * (5 - op) + 2 < N → XM Γ zX6_comparison (2 * N + 9) 0 0 [.ref (adO b 4), .int (nI op)] (KV μ b (rK κ c)) (rv (KV μ b (rK κ (cCm σ f n (cz σ f n N 2 op) c)))) := by
  intro op c h h5 hd
  refine XM.of 1 rfl (by decide) (Nat.le_of_ble_eq_true rfl) ?_
  have k := cz_ok (σ := σ) (f := f) N 2 op c h
  unfold cCm
  refine x_aload_n (pc := 0) dX6_comparison_0 rfl ?_
  refine x_iload_n (pc := 1) dX6_comparison_1 rfl ?_
  refine x_callV (pc := 2) (As := [.int _]) dX6_comparison_2 mX6_sum lk_6_73 hK.2.2.1 (c0 op c h h5 (by omega)) rfl rfl (Nat.le_of_ble_eq_true rfl) (rmz (by omega)) ⟨Nat.zero_le _, Nat.zero_le _⟩ (k_rv ?_)
  refine x_aload_n (pc := 5) dX6_comparison_5 rfl ?_
  refine k_getI (pc := 6) hK dX6_comparison_6 fk_6_25 (Or.inl rfl) ?_
  refine x_bipush (pc := 9) (v := -10) dX6_comparison_9 rfl ?_
  refine x_icmp_eq (pc := 11) (tgt := 23) dX6_comparison_11 rfl (fun h_11 => ?_) (fun h_11 => ?_)
  · rw [if_pos (show (cz σ f n N 2 op c).2.2.1 = -10 ∨ (cz σ f n N 2 op c).2.2.1 = -11 by first | exact Or.inl h_11 | exact Or.inr h_20 | exact Or.inr (Decidable.not_not.mp h_20))]
    refine x_aload_n (pc := 23) dX6_comparison_23 rfl ?_
    refine k_getI (pc := 24) hK dX6_comparison_24 fk_6_25 (Or.inl rfl) ?_
    refine x_istore_n (pc := 27) (lv2 := [_, _, _]) dX6_comparison_27 (by decide) rfl rfl ?_
    refine x_aload_n (pc := 28) dX6_comparison_28 rfl ?_
    refine x_callV (pc := 29) (As := []) dX6_comparison_29 mX6_advance lk_6_43 hK.2.2.1 (k_advance hK hT hO hl hl2 k.1) rfl rfl (Nat.le_of_ble_eq_true rfl) (rmz (by omega)) ⟨Nat.zero_le _, Nat.zero_le _⟩ (k_rv ?_)
    refine x_aload_n (pc := 32) dX6_comparison_32 rfl ?_
    refine x_iload_n (pc := 33) dX6_comparison_33 rfl ?_
    refine x_callV (pc := 34) (As := [.int _]) dX6_comparison_34 mX6_sum lk_6_73 hK.2.2.1 (c0 op _ (okc_A k) h5 (by omega)) rfl rfl (Nat.le_of_ble_eq_true rfl) (rmz (by omega)) ⟨Nat.zero_le _, Nat.zero_le _⟩ (k_rv ?_)
    refine x_aload_n (pc := 37) dX6_comparison_37 rfl ?_
    refine x_iload_n (pc := 38) dX6_comparison_38 rfl ?_
    refine x_callV (pc := 39) (As := [.int _]) dX6_comparison_39 mX6_emit lk_6_53 hK.2.2.1 (k_emit hK (cz_ok N 2 op _ (okc_A k)).2) rfl rfl (Nat.le_of_ble_eq_true rfl) (rmz (by omega)) ⟨Nat.zero_le _, Nat.zero_le _⟩ (k_rv ?_)
    try rw [if_neg (show ¬ ((cz σ f n N 2 op c).2.2.1 = -10 ∨ (cz σ f n N 2 op c).2.2.1 = -11) from fun q => q.elim (fun y => h_11 y) (fun y => h_20 y))]
    refine x_return (pc := 42) dX6_comparison_42 rfl ?_
    exact ⟨rfl, rfl⟩
  · refine x_aload_n (pc := 14) dX6_comparison_14 rfl ?_
    refine k_getI (pc := 15) hK dX6_comparison_15 fk_6_25 (Or.inl rfl) ?_
    refine x_bipush (pc := 18) (v := -11) dX6_comparison_18 rfl ?_
    refine x_icmp_ne (pc := 20) (tgt := 42) dX6_comparison_20 rfl (fun h_20 => ?_) (fun h_20 => ?_)
    · try rw [if_neg (show ¬ ((cz σ f n N 2 op c).2.2.1 = -10 ∨ (cz σ f n N 2 op c).2.2.1 = -11) from fun q => q.elim (fun y => h_11 y) (fun y => h_20 y))]
      refine x_return (pc := 42) dX6_comparison_42 rfl ?_
      exact ⟨rfl, rfl⟩
    · rw [if_pos (show (cz σ f n N 2 op c).2.2.1 = -10 ∨ (cz σ f n N 2 op c).2.2.1 = -11 by first | exact Or.inl h_11 | exact Or.inr h_20 | exact Or.inr (Decidable.not_not.mp h_20))]
      refine x_aload_n (pc := 23) dX6_comparison_23 rfl ?_
      refine k_getI (pc := 24) hK dX6_comparison_24 fk_6_25 (Or.inl rfl) ?_
      refine x_istore_n (pc := 27) (lv2 := [_, _, _]) dX6_comparison_27 (by decide) rfl rfl ?_
      refine x_aload_n (pc := 28) dX6_comparison_28 rfl ?_
      refine x_callV (pc := 29) (As := []) dX6_comparison_29 mX6_advance lk_6_43 hK.2.2.1 (k_advance hK hT hO hl hl2 k.1) rfl rfl (Nat.le_of_ble_eq_true rfl) (rmz (by omega)) ⟨Nat.zero_le _, Nat.zero_le _⟩ (k_rv ?_)
      refine x_aload_n (pc := 32) dX6_comparison_32 rfl ?_
      refine x_iload_n (pc := 33) dX6_comparison_33 rfl ?_
      refine x_callV (pc := 34) (As := [.int _]) dX6_comparison_34 mX6_sum lk_6_73 hK.2.2.1 (c0 op _ (okc_A k) h5 (by omega)) rfl rfl (Nat.le_of_ble_eq_true rfl) (rmz (by omega)) ⟨Nat.zero_le _, Nat.zero_le _⟩ (k_rv ?_)
      refine x_aload_n (pc := 37) dX6_comparison_37 rfl ?_
      refine x_iload_n (pc := 38) dX6_comparison_38 rfl ?_
      refine x_callV (pc := 39) (As := [.int _]) dX6_comparison_39 mX6_emit lk_6_53 hK.2.2.1 (k_emit hK (cz_ok N 2 op _ (okc_A k)).2) rfl rfl (Nat.le_of_ble_eq_true rfl) (rmz (by omega)) ⟨Nat.zero_le _, Nat.zero_le _⟩ (k_rv ?_)
      try rw [if_neg (show ¬ ((cz σ f n N 2 op c).2.2.1 = -10 ∨ (cz σ f n N 2 op c).2.2.1 = -11) from fun q => q.elim (fun y => h_11 y) (fun y => h_20 y))]
      refine x_return (pc := 42) dX6_comparison_42 rfl ?_
      exact ⟨rfl, rfl⟩
theorem z_negation (hK : KO μ b 4 6 rdL) (hT : KTp μ b lt) (hO : cO κ σ f n) (hl : n ≤ lt) (hl2 : lt < 2 ^ 31) (N : Nat) (c3 : (∀ op c, okc n c → op ≤ 5 → 7 * (5 - op) + 3 < N → XM Γ zX6_negation (2 * N + 8) 0 0 [.ref (adO b 4), .int (nI op)] (KV μ b (rK κ c)) (rv (KV μ b (rK κ (cz σ f n N 3 op c)))))) (c2 : ∀ op c, okc n c → op ≤ 5 → 7 * (5 - op) + 2 < N → XM Γ zX6_comparison (2 * N + 9) 0 0 [.ref (adO b 4), .int (nI op)] (KV μ b (rK κ c)) (rv (KV μ b (rK κ (cCm σ f n (cz σ f n N 2 op) c))))) : ∀ op c, okc n c → op ≤ 5 → 7 * (5 - op) + 3 < (N + 1) → XM Γ zX6_negation (2 * (N + 1) + 8) 0 0 [.ref (adO b 4), .int (nI op)] (KV μ b (rK κ c)) (rv (KV μ b (rK κ (cz σ f n ((N + 1)) 3 op c)))) := by
  intro op c h h5 hd
  refine XM.of 0 rfl (by decide) (Nat.le_of_ble_eq_true rfl) ?_
  show WA _ _ _ _ _ _ _ (rv (KV μ b (rK κ (cNt σ f n (cz σ f n N 3) (cz σ f n N 2) op c)))) _ _ _ _
  unfold cNt
  refine x_aload_n (pc := 0) dX6_negation_0 rfl ?_
  refine k_getI (pc := 1) hK dX6_negation_1 fk_6_25 (Or.inl rfl) ?_
  refine x_bipush (pc := 4) (v := -9) dX6_negation_4 rfl ?_
  refine x_icmp_eq (pc := 6) (tgt := 17) dX6_negation_6 rfl (fun h_6 => ?_) (fun h_6 => ?_)
  · rw [if_pos (show c.2.2.1 = -9 by first | exact h_6 | exact Decidable.not_not.mp h_6)]
    refine x_iload_n (pc := 17) dX6_negation_17 rfl ?_
    refine x_iconst (pc := 18) (v := 5) dX6_negation_18 rfl ?_
    refine x_icmp_lt (pc := 19) (tgt := 29) dX6_negation_19 rfl (fun h_19 => ?_) (fun h_19 => ?_)
    · have hop : op < 5 := (nI_ltI (b := 5) (by omega) (by decide)).mp h_19
      rw [if_neg (Nat.not_le.mpr hop)]
      refine x_aload_n (pc := 29) dX6_negation_29 rfl ?_
      refine x_callV (pc := 30) (As := []) dX6_negation_30 mX6_advance lk_6_43 hK.2.2.1 (k_advance hK hT hO hl hl2 h.1) rfl rfl (Nat.le_of_ble_eq_true rfl) (rmz (by omega)) ⟨Nat.zero_le _, Nat.zero_le _⟩ (k_rv ?_)
      refine x_aload_n (pc := 33) dX6_negation_33 rfl ?_
      refine x_iload_n (pc := 34) dX6_negation_34 rfl ?_
      refine x_iconst (pc := 35) (v := 1) dX6_negation_35 rfl ?_
      refine x_iadd (pc := 36) dX6_negation_36 ?_
      rw [nI_1]
      refine x_callV (pc := 37) (As := [.int _]) dX6_negation_37 mX6_negation lk_6_64 hK.2.2.1 (c3 (op + 1) _ (okc_A h) (by omega) (by omega)) rfl rfl (Nat.le_of_ble_eq_true rfl) (rmz (by omega)) ⟨Nat.zero_le _, Nat.zero_le _⟩ (k_rv ?_)
      refine x_aload_n (pc := 40) dX6_negation_40 rfl ?_
      refine x_bipush (pc := 41) (v := -9) dX6_negation_41 rfl ?_
      refine x_callV (pc := 43) (As := [.int _]) dX6_negation_43 mX6_emit lk_6_53 hK.2.2.1 (k_emit hK (cz_ok N 3 (op + 1) _ (okc_A h)).2) rfl rfl (Nat.le_of_ble_eq_true rfl) (rmz (by omega)) ⟨Nat.zero_le _, Nat.zero_le _⟩ (k_rv ?_)
      refine x_return (pc := 46) dX6_negation_46 rfl ?_
      exact ⟨rfl, rfl⟩
    · rw [if_pos (show 5 ≤ op from Nat.le_of_not_lt (fun z => h_19 (nI_lt (b := 5) z (by decide))))]
      refine x_aload_n (pc := 22) dX6_negation_22 rfl ?_
      refine x_callV (pc := 23) (As := []) dX6_negation_23 mX6_fail lk_6_70 hK.2.2.1 (k_fail hK) rfl rfl (Nat.le_of_ble_eq_true rfl) (rmz (by omega)) ⟨Nat.zero_le _, Nat.zero_le _⟩ (k_rv ?_)
      refine x_goto (pc := 26) (tgt := 46) dX6_negation_26 rfl ?_
      refine x_return (pc := 46) dX6_negation_46 rfl ?_
      exact ⟨rfl, rfl⟩
  · rw [if_neg (show ¬ c.2.2.1 = -9 from h_6)]
    refine x_aload_n (pc := 9) dX6_negation_9 rfl ?_
    refine x_iload_n (pc := 10) dX6_negation_10 rfl ?_
    refine x_callV (pc := 11) (As := [.int _]) dX6_negation_11 mX6_comparison lk_6_67 hK.2.2.1 (c2 op c h h5 (by omega)) rfl rfl (Nat.le_of_ble_eq_true rfl) (rmz (by omega)) ⟨Nat.zero_le _, Nat.zero_le _⟩ (k_rv ?_)
    refine x_goto (pc := 14) (tgt := 46) dX6_negation_14 rfl ?_
    refine x_return (pc := 46) dX6_negation_46 rfl ?_
    exact ⟨rfl, rfl⟩
theorem z_one (hK : KO μ b 4 6 rdL) (hT : KTp μ b lt) (hO : cO κ σ f n) (hl : n ≤ lt) (hl2 : lt < 2 ^ 31) (N : Nat) (c0 : (∀ op c, okc n c → op ≤ 5 → 7 * (5 - op) + 0 < N → XM Γ zX6_one (2 * N + 8) 0 0 [.ref (adO b 4), .int (nI op)] (KV μ b (rK κ c)) (rv (KV μ b (rK κ (cz σ f n N 0 op c)))))) (c5 : (∀ op c, okc n c → op ≤ 5 → 7 * (5 - op) + 5 < N → XM Γ zX6_either (2 * N + 8) 0 0 [.ref (adO b 4), .int (nI op)] (KV μ b (rK κ c)) (rv (KV μ b (rK κ (cz σ f n N 5 op c)))))) : ∀ op c, okc n c → op ≤ 5 → 7 * (5 - op) + 0 < (N + 1) → XM Γ zX6_one (2 * (N + 1) + 8) 0 0 [.ref (adO b 4), .int (nI op)] (KV μ b (rK κ c)) (rv (KV μ b (rK κ (cz σ f n ((N + 1)) 0 op c)))) := by
  intro op c h h5 hd
  refine XM.of 0 rfl (by decide) (Nat.le_of_ble_eq_true rfl) ?_
  show WA _ _ _ _ _ _ _ (rv (KV μ b (rK κ (cAt σ f n (cz σ f n N 0) (cz σ f n N 5) op c)))) _ _ _ _
  unfold cAt
  refine x_aload_n (pc := 0) dX6_one_0 rfl ?_
  refine k_getI (pc := 1) hK dX6_one_1 fk_6_25 (Or.inl rfl) ?_
  refine x_bipush (pc := 4) (v := -22) dX6_one_4 rfl ?_
  refine x_icmp_ne (pc := 6) (tgt := 24) dX6_one_6 rfl (fun h_6 => ?_) (fun h_6 => ?_)
  · rw [if_neg (show ¬ c.2.2.1 = -22 from h_6)]
    refine x_aload_n (pc := 24) dX6_one_24 rfl ?_
    refine k_getI (pc := 25) hK dX6_one_25 fk_6_25 (Or.inl rfl) ?_
    refine x_iconst (pc := 28) (v := -1) dX6_one_28 rfl ?_
    refine x_icmp_gt (pc := 29) (tgt := 56) dX6_one_29 rfl (fun h_29 => ?_) (fun h_29 => ?_)
    · rw [if_neg (show ¬ (c.2.2.1 ≤ -1 ∧ -6 ≤ c.2.2.1) from fun z => by first | exact Int32.not_lt.mpr z.1 h_29 | exact Int32.not_lt.mpr z.2 h_38)]
      refine x_aload_n (pc := 56) dX6_one_56 rfl ?_
      refine k_getI (pc := 57) hK dX6_one_57 fk_6_25 (Or.inl rfl) ?_
      refine x_bipush (pc := 60) (v := -13) dX6_one_60 rfl ?_
      refine x_icmp_ne (pc := 62) (tgt := 90) dX6_one_62 rfl (fun h_62 => ?_) (fun h_62 => ?_)
      · rw [if_neg (show ¬ (c.2.2.1 = -13 ∧ op < 5) from fun z => by first | exact h_62 z.1 | exact nI_ge z.2 (by decide) h_67)]
        refine x_aload_n (pc := 90) dX6_one_90 rfl ?_
        refine k_getI (pc := 91) hK dX6_one_91 fk_6_25 (Or.inl rfl) ?_
        refine x_bipush (pc := 94) (v := -17) dX6_one_94 rfl ?_
        refine x_icmp_ne (pc := 96) (tgt := 124) dX6_one_96 rfl (fun h_96 => ?_) (fun h_96 => ?_)
        · rw [if_neg (show ¬ (c.2.2.1 = -17 ∧ op < 5) from fun z => by first | exact h_96 z.1 | exact nI_ge z.2 (by decide) h_101)]
          refine x_aload_n (pc := 124) dX6_one_124 rfl ?_
          refine x_callV (pc := 125) (As := []) dX6_one_125 mX6_fail lk_6_70 hK.2.2.1 (k_fail hK) rfl rfl (Nat.le_of_ble_eq_true rfl) (rmz (by omega)) ⟨Nat.zero_le _, Nat.zero_le _⟩ (k_rv ?_)
          refine x_return (pc := 128) dX6_one_128 rfl ?_
          exact ⟨rfl, rfl⟩
        · refine x_iload_n (pc := 99) dX6_one_99 rfl ?_
          refine x_iconst (pc := 100) (v := 5) dX6_one_100 rfl ?_
          refine x_icmp_ge (pc := 101) (tgt := 124) dX6_one_101 rfl (fun h_101 => ?_) (fun h_101 => ?_)
          · rw [if_neg (show ¬ (c.2.2.1 = -17 ∧ op < 5) from fun z => by first | exact h_96 z.1 | exact nI_ge z.2 (by decide) h_101)]
            refine x_aload_n (pc := 124) dX6_one_124 rfl ?_
            refine x_callV (pc := 125) (As := []) dX6_one_125 mX6_fail lk_6_70 hK.2.2.1 (k_fail hK) rfl rfl (Nat.le_of_ble_eq_true rfl) (rmz (by omega)) ⟨Nat.zero_le _, Nat.zero_le _⟩ (k_rv ?_)
            refine x_return (pc := 128) dX6_one_128 rfl ?_
            exact ⟨rfl, rfl⟩
          · have hop : op < 5 := Nat.lt_of_not_le (fun z => h_101 (nI_le (a := 5) z (by omega)))
            rw [if_pos (show c.2.2.1 = -17 ∧ op < 5 from ⟨by first | exact h_96 | exact Decidable.not_not.mp h_96, hop⟩)]
            refine x_aload_n (pc := 104) dX6_one_104 rfl ?_
            refine x_callV (pc := 105) (As := []) dX6_one_105 mX6_advance lk_6_43 hK.2.2.1 (k_advance hK hT hO hl hl2 h.1) rfl rfl (Nat.le_of_ble_eq_true rfl) (rmz (by omega)) ⟨Nat.zero_le _, Nat.zero_le _⟩ (k_rv ?_)
            refine x_aload_n (pc := 108) dX6_one_108 rfl ?_
            refine x_iload_n (pc := 109) dX6_one_109 rfl ?_
            refine x_iconst (pc := 110) (v := 1) dX6_one_110 rfl ?_
            refine x_iadd (pc := 111) dX6_one_111 ?_
            rw [nI_1]
            refine x_callV (pc := 112) (As := [.int _]) dX6_one_112 mX6_either lk_6_50 hK.2.2.1 (c5 (op + 1) _ (okc_A h) (by omega) (by omega)) rfl rfl (Nat.le_of_ble_eq_true rfl) (rmz (by omega)) ⟨Nat.zero_le _, Nat.zero_le _⟩ (k_rv ?_)
            refine x_aload_n (pc := 115) dX6_one_115 rfl ?_
            refine x_bipush (pc := 116) (v := -18) dX6_one_116 rfl ?_
            refine x_callV (pc := 118) (As := [.int _]) dX6_one_118 mX6_expect lk_6_46 hK.2.2.1 (k_expect hK hT hO hl hl2 (cz_ok N 5 (op + 1) _ (okc_A h)).1) rfl rfl (Nat.le_of_ble_eq_true rfl) (rmz (by omega)) ⟨Nat.zero_le _, Nat.zero_le _⟩ (k_rv ?_)
            refine x_goto (pc := 121) (tgt := 128) dX6_one_121 rfl ?_
            refine x_return (pc := 128) dX6_one_128 rfl ?_
            exact ⟨rfl, rfl⟩
      · refine x_iload_n (pc := 65) dX6_one_65 rfl ?_
        refine x_iconst (pc := 66) (v := 5) dX6_one_66 rfl ?_
        refine x_icmp_ge (pc := 67) (tgt := 90) dX6_one_67 rfl (fun h_67 => ?_) (fun h_67 => ?_)
        · rw [if_neg (show ¬ (c.2.2.1 = -13 ∧ op < 5) from fun z => by first | exact h_62 z.1 | exact nI_ge z.2 (by decide) h_67)]
          refine x_aload_n (pc := 90) dX6_one_90 rfl ?_
          refine k_getI (pc := 91) hK dX6_one_91 fk_6_25 (Or.inl rfl) ?_
          refine x_bipush (pc := 94) (v := -17) dX6_one_94 rfl ?_
          refine x_icmp_ne (pc := 96) (tgt := 124) dX6_one_96 rfl (fun h_96 => ?_) (fun h_96 => ?_)
          · rw [if_neg (show ¬ (c.2.2.1 = -17 ∧ op < 5) from fun z => by first | exact h_96 z.1 | exact nI_ge z.2 (by decide) h_101)]
            refine x_aload_n (pc := 124) dX6_one_124 rfl ?_
            refine x_callV (pc := 125) (As := []) dX6_one_125 mX6_fail lk_6_70 hK.2.2.1 (k_fail hK) rfl rfl (Nat.le_of_ble_eq_true rfl) (rmz (by omega)) ⟨Nat.zero_le _, Nat.zero_le _⟩ (k_rv ?_)
            refine x_return (pc := 128) dX6_one_128 rfl ?_
            exact ⟨rfl, rfl⟩
          · refine x_iload_n (pc := 99) dX6_one_99 rfl ?_
            refine x_iconst (pc := 100) (v := 5) dX6_one_100 rfl ?_
            refine x_icmp_ge (pc := 101) (tgt := 124) dX6_one_101 rfl (fun h_101 => ?_) (fun h_101 => ?_)
            · rw [if_neg (show ¬ (c.2.2.1 = -17 ∧ op < 5) from fun z => by first | exact h_96 z.1 | exact nI_ge z.2 (by decide) h_101)]
              refine x_aload_n (pc := 124) dX6_one_124 rfl ?_
              refine x_callV (pc := 125) (As := []) dX6_one_125 mX6_fail lk_6_70 hK.2.2.1 (k_fail hK) rfl rfl (Nat.le_of_ble_eq_true rfl) (rmz (by omega)) ⟨Nat.zero_le _, Nat.zero_le _⟩ (k_rv ?_)
              refine x_return (pc := 128) dX6_one_128 rfl ?_
              exact ⟨rfl, rfl⟩
            · have hop : op < 5 := Nat.lt_of_not_le (fun z => h_101 (nI_le (a := 5) z (by omega)))
              rw [if_pos (show c.2.2.1 = -17 ∧ op < 5 from ⟨by first | exact h_96 | exact Decidable.not_not.mp h_96, hop⟩)]
              refine x_aload_n (pc := 104) dX6_one_104 rfl ?_
              refine x_callV (pc := 105) (As := []) dX6_one_105 mX6_advance lk_6_43 hK.2.2.1 (k_advance hK hT hO hl hl2 h.1) rfl rfl (Nat.le_of_ble_eq_true rfl) (rmz (by omega)) ⟨Nat.zero_le _, Nat.zero_le _⟩ (k_rv ?_)
              refine x_aload_n (pc := 108) dX6_one_108 rfl ?_
              refine x_iload_n (pc := 109) dX6_one_109 rfl ?_
              refine x_iconst (pc := 110) (v := 1) dX6_one_110 rfl ?_
              refine x_iadd (pc := 111) dX6_one_111 ?_
              rw [nI_1]
              refine x_callV (pc := 112) (As := [.int _]) dX6_one_112 mX6_either lk_6_50 hK.2.2.1 (c5 (op + 1) _ (okc_A h) (by omega) (by omega)) rfl rfl (Nat.le_of_ble_eq_true rfl) (rmz (by omega)) ⟨Nat.zero_le _, Nat.zero_le _⟩ (k_rv ?_)
              refine x_aload_n (pc := 115) dX6_one_115 rfl ?_
              refine x_bipush (pc := 116) (v := -18) dX6_one_116 rfl ?_
              refine x_callV (pc := 118) (As := [.int _]) dX6_one_118 mX6_expect lk_6_46 hK.2.2.1 (k_expect hK hT hO hl hl2 (cz_ok N 5 (op + 1) _ (okc_A h)).1) rfl rfl (Nat.le_of_ble_eq_true rfl) (rmz (by omega)) ⟨Nat.zero_le _, Nat.zero_le _⟩ (k_rv ?_)
              refine x_goto (pc := 121) (tgt := 128) dX6_one_121 rfl ?_
              refine x_return (pc := 128) dX6_one_128 rfl ?_
              exact ⟨rfl, rfl⟩
        · have hop : op < 5 := Nat.lt_of_not_le (fun z => h_67 (nI_le (a := 5) z (by omega)))
          rw [if_pos (show c.2.2.1 = -13 ∧ op < 5 from ⟨by first | exact h_62 | exact Decidable.not_not.mp h_62, hop⟩)]
          refine x_aload_n (pc := 70) dX6_one_70 rfl ?_
          refine x_callV (pc := 71) (As := []) dX6_one_71 mX6_advance lk_6_43 hK.2.2.1 (k_advance hK hT hO hl hl2 h.1) rfl rfl (Nat.le_of_ble_eq_true rfl) (rmz (by omega)) ⟨Nat.zero_le _, Nat.zero_le _⟩ (k_rv ?_)
          refine x_aload_n (pc := 74) dX6_one_74 rfl ?_
          refine x_iload_n (pc := 75) dX6_one_75 rfl ?_
          refine x_iconst (pc := 76) (v := 1) dX6_one_76 rfl ?_
          refine x_iadd (pc := 77) dX6_one_77 ?_
          rw [nI_1]
          refine x_callV (pc := 78) (As := [.int _]) dX6_one_78 mX6_one lk_6_79 hK.2.2.1 (c0 (op + 1) _ (okc_A h) (by omega) (by omega)) rfl rfl (Nat.le_of_ble_eq_true rfl) (rmz (by omega)) ⟨Nat.zero_le _, Nat.zero_le _⟩ (k_rv ?_)
          refine x_aload_n (pc := 81) dX6_one_81 rfl ?_
          refine x_bipush (pc := 82) (v := -15) dX6_one_82 rfl ?_
          refine x_callV (pc := 84) (As := [.int _]) dX6_one_84 mX6_emit lk_6_53 hK.2.2.1 (k_emit hK (cz_ok N 0 (op + 1) _ (okc_A h)).2) rfl rfl (Nat.le_of_ble_eq_true rfl) (rmz (by omega)) ⟨Nat.zero_le _, Nat.zero_le _⟩ (k_rv ?_)
          refine x_goto (pc := 87) (tgt := 128) dX6_one_87 rfl ?_
          refine x_return (pc := 128) dX6_one_128 rfl ?_
          exact ⟨rfl, rfl⟩
    · refine x_aload_n (pc := 32) dX6_one_32 rfl ?_
      refine k_getI (pc := 33) hK dX6_one_33 fk_6_25 (Or.inl rfl) ?_
      refine x_bipush (pc := 36) (v := -6) dX6_one_36 rfl ?_
      refine x_icmp_lt (pc := 38) (tgt := 56) dX6_one_38 rfl (fun h_38 => ?_) (fun h_38 => ?_)
      · rw [if_neg (show ¬ (c.2.2.1 ≤ -1 ∧ -6 ≤ c.2.2.1) from fun z => by first | exact Int32.not_lt.mpr z.1 h_29 | exact Int32.not_lt.mpr z.2 h_38)]
        refine x_aload_n (pc := 56) dX6_one_56 rfl ?_
        refine k_getI (pc := 57) hK dX6_one_57 fk_6_25 (Or.inl rfl) ?_
        refine x_bipush (pc := 60) (v := -13) dX6_one_60 rfl ?_
        refine x_icmp_ne (pc := 62) (tgt := 90) dX6_one_62 rfl (fun h_62 => ?_) (fun h_62 => ?_)
        · rw [if_neg (show ¬ (c.2.2.1 = -13 ∧ op < 5) from fun z => by first | exact h_62 z.1 | exact nI_ge z.2 (by decide) h_67)]
          refine x_aload_n (pc := 90) dX6_one_90 rfl ?_
          refine k_getI (pc := 91) hK dX6_one_91 fk_6_25 (Or.inl rfl) ?_
          refine x_bipush (pc := 94) (v := -17) dX6_one_94 rfl ?_
          refine x_icmp_ne (pc := 96) (tgt := 124) dX6_one_96 rfl (fun h_96 => ?_) (fun h_96 => ?_)
          · rw [if_neg (show ¬ (c.2.2.1 = -17 ∧ op < 5) from fun z => by first | exact h_96 z.1 | exact nI_ge z.2 (by decide) h_101)]
            refine x_aload_n (pc := 124) dX6_one_124 rfl ?_
            refine x_callV (pc := 125) (As := []) dX6_one_125 mX6_fail lk_6_70 hK.2.2.1 (k_fail hK) rfl rfl (Nat.le_of_ble_eq_true rfl) (rmz (by omega)) ⟨Nat.zero_le _, Nat.zero_le _⟩ (k_rv ?_)
            refine x_return (pc := 128) dX6_one_128 rfl ?_
            exact ⟨rfl, rfl⟩
          · refine x_iload_n (pc := 99) dX6_one_99 rfl ?_
            refine x_iconst (pc := 100) (v := 5) dX6_one_100 rfl ?_
            refine x_icmp_ge (pc := 101) (tgt := 124) dX6_one_101 rfl (fun h_101 => ?_) (fun h_101 => ?_)
            · rw [if_neg (show ¬ (c.2.2.1 = -17 ∧ op < 5) from fun z => by first | exact h_96 z.1 | exact nI_ge z.2 (by decide) h_101)]
              refine x_aload_n (pc := 124) dX6_one_124 rfl ?_
              refine x_callV (pc := 125) (As := []) dX6_one_125 mX6_fail lk_6_70 hK.2.2.1 (k_fail hK) rfl rfl (Nat.le_of_ble_eq_true rfl) (rmz (by omega)) ⟨Nat.zero_le _, Nat.zero_le _⟩ (k_rv ?_)
              refine x_return (pc := 128) dX6_one_128 rfl ?_
              exact ⟨rfl, rfl⟩
            · have hop : op < 5 := Nat.lt_of_not_le (fun z => h_101 (nI_le (a := 5) z (by omega)))
              rw [if_pos (show c.2.2.1 = -17 ∧ op < 5 from ⟨by first | exact h_96 | exact Decidable.not_not.mp h_96, hop⟩)]
              refine x_aload_n (pc := 104) dX6_one_104 rfl ?_
              refine x_callV (pc := 105) (As := []) dX6_one_105 mX6_advance lk_6_43 hK.2.2.1 (k_advance hK hT hO hl hl2 h.1) rfl rfl (Nat.le_of_ble_eq_true rfl) (rmz (by omega)) ⟨Nat.zero_le _, Nat.zero_le _⟩ (k_rv ?_)
              refine x_aload_n (pc := 108) dX6_one_108 rfl ?_
              refine x_iload_n (pc := 109) dX6_one_109 rfl ?_
              refine x_iconst (pc := 110) (v := 1) dX6_one_110 rfl ?_
              refine x_iadd (pc := 111) dX6_one_111 ?_
              rw [nI_1]
              refine x_callV (pc := 112) (As := [.int _]) dX6_one_112 mX6_either lk_6_50 hK.2.2.1 (c5 (op + 1) _ (okc_A h) (by omega) (by omega)) rfl rfl (Nat.le_of_ble_eq_true rfl) (rmz (by omega)) ⟨Nat.zero_le _, Nat.zero_le _⟩ (k_rv ?_)
              refine x_aload_n (pc := 115) dX6_one_115 rfl ?_
              refine x_bipush (pc := 116) (v := -18) dX6_one_116 rfl ?_
              refine x_callV (pc := 118) (As := [.int _]) dX6_one_118 mX6_expect lk_6_46 hK.2.2.1 (k_expect hK hT hO hl hl2 (cz_ok N 5 (op + 1) _ (okc_A h)).1) rfl rfl (Nat.le_of_ble_eq_true rfl) (rmz (by omega)) ⟨Nat.zero_le _, Nat.zero_le _⟩ (k_rv ?_)
              refine x_goto (pc := 121) (tgt := 128) dX6_one_121 rfl ?_
              refine x_return (pc := 128) dX6_one_128 rfl ?_
              exact ⟨rfl, rfl⟩
        · refine x_iload_n (pc := 65) dX6_one_65 rfl ?_
          refine x_iconst (pc := 66) (v := 5) dX6_one_66 rfl ?_
          refine x_icmp_ge (pc := 67) (tgt := 90) dX6_one_67 rfl (fun h_67 => ?_) (fun h_67 => ?_)
          · rw [if_neg (show ¬ (c.2.2.1 = -13 ∧ op < 5) from fun z => by first | exact h_62 z.1 | exact nI_ge z.2 (by decide) h_67)]
            refine x_aload_n (pc := 90) dX6_one_90 rfl ?_
            refine k_getI (pc := 91) hK dX6_one_91 fk_6_25 (Or.inl rfl) ?_
            refine x_bipush (pc := 94) (v := -17) dX6_one_94 rfl ?_
            refine x_icmp_ne (pc := 96) (tgt := 124) dX6_one_96 rfl (fun h_96 => ?_) (fun h_96 => ?_)
            · rw [if_neg (show ¬ (c.2.2.1 = -17 ∧ op < 5) from fun z => by first | exact h_96 z.1 | exact nI_ge z.2 (by decide) h_101)]
              refine x_aload_n (pc := 124) dX6_one_124 rfl ?_
              refine x_callV (pc := 125) (As := []) dX6_one_125 mX6_fail lk_6_70 hK.2.2.1 (k_fail hK) rfl rfl (Nat.le_of_ble_eq_true rfl) (rmz (by omega)) ⟨Nat.zero_le _, Nat.zero_le _⟩ (k_rv ?_)
              refine x_return (pc := 128) dX6_one_128 rfl ?_
              exact ⟨rfl, rfl⟩
            · refine x_iload_n (pc := 99) dX6_one_99 rfl ?_
              refine x_iconst (pc := 100) (v := 5) dX6_one_100 rfl ?_
              refine x_icmp_ge (pc := 101) (tgt := 124) dX6_one_101 rfl (fun h_101 => ?_) (fun h_101 => ?_)
              · rw [if_neg (show ¬ (c.2.2.1 = -17 ∧ op < 5) from fun z => by first | exact h_96 z.1 | exact nI_ge z.2 (by decide) h_101)]
                refine x_aload_n (pc := 124) dX6_one_124 rfl ?_
                refine x_callV (pc := 125) (As := []) dX6_one_125 mX6_fail lk_6_70 hK.2.2.1 (k_fail hK) rfl rfl (Nat.le_of_ble_eq_true rfl) (rmz (by omega)) ⟨Nat.zero_le _, Nat.zero_le _⟩ (k_rv ?_)
                refine x_return (pc := 128) dX6_one_128 rfl ?_
                exact ⟨rfl, rfl⟩
              · have hop : op < 5 := Nat.lt_of_not_le (fun z => h_101 (nI_le (a := 5) z (by omega)))
                rw [if_pos (show c.2.2.1 = -17 ∧ op < 5 from ⟨by first | exact h_96 | exact Decidable.not_not.mp h_96, hop⟩)]
                refine x_aload_n (pc := 104) dX6_one_104 rfl ?_
                refine x_callV (pc := 105) (As := []) dX6_one_105 mX6_advance lk_6_43 hK.2.2.1 (k_advance hK hT hO hl hl2 h.1) rfl rfl (Nat.le_of_ble_eq_true rfl) (rmz (by omega)) ⟨Nat.zero_le _, Nat.zero_le _⟩ (k_rv ?_)
                refine x_aload_n (pc := 108) dX6_one_108 rfl ?_
                refine x_iload_n (pc := 109) dX6_one_109 rfl ?_
                refine x_iconst (pc := 110) (v := 1) dX6_one_110 rfl ?_
                refine x_iadd (pc := 111) dX6_one_111 ?_
                rw [nI_1]
                refine x_callV (pc := 112) (As := [.int _]) dX6_one_112 mX6_either lk_6_50 hK.2.2.1 (c5 (op + 1) _ (okc_A h) (by omega) (by omega)) rfl rfl (Nat.le_of_ble_eq_true rfl) (rmz (by omega)) ⟨Nat.zero_le _, Nat.zero_le _⟩ (k_rv ?_)
                refine x_aload_n (pc := 115) dX6_one_115 rfl ?_
                refine x_bipush (pc := 116) (v := -18) dX6_one_116 rfl ?_
                refine x_callV (pc := 118) (As := [.int _]) dX6_one_118 mX6_expect lk_6_46 hK.2.2.1 (k_expect hK hT hO hl hl2 (cz_ok N 5 (op + 1) _ (okc_A h)).1) rfl rfl (Nat.le_of_ble_eq_true rfl) (rmz (by omega)) ⟨Nat.zero_le _, Nat.zero_le _⟩ (k_rv ?_)
                refine x_goto (pc := 121) (tgt := 128) dX6_one_121 rfl ?_
                refine x_return (pc := 128) dX6_one_128 rfl ?_
                exact ⟨rfl, rfl⟩
          · have hop : op < 5 := Nat.lt_of_not_le (fun z => h_67 (nI_le (a := 5) z (by omega)))
            rw [if_pos (show c.2.2.1 = -13 ∧ op < 5 from ⟨by first | exact h_62 | exact Decidable.not_not.mp h_62, hop⟩)]
            refine x_aload_n (pc := 70) dX6_one_70 rfl ?_
            refine x_callV (pc := 71) (As := []) dX6_one_71 mX6_advance lk_6_43 hK.2.2.1 (k_advance hK hT hO hl hl2 h.1) rfl rfl (Nat.le_of_ble_eq_true rfl) (rmz (by omega)) ⟨Nat.zero_le _, Nat.zero_le _⟩ (k_rv ?_)
            refine x_aload_n (pc := 74) dX6_one_74 rfl ?_
            refine x_iload_n (pc := 75) dX6_one_75 rfl ?_
            refine x_iconst (pc := 76) (v := 1) dX6_one_76 rfl ?_
            refine x_iadd (pc := 77) dX6_one_77 ?_
            rw [nI_1]
            refine x_callV (pc := 78) (As := [.int _]) dX6_one_78 mX6_one lk_6_79 hK.2.2.1 (c0 (op + 1) _ (okc_A h) (by omega) (by omega)) rfl rfl (Nat.le_of_ble_eq_true rfl) (rmz (by omega)) ⟨Nat.zero_le _, Nat.zero_le _⟩ (k_rv ?_)
            refine x_aload_n (pc := 81) dX6_one_81 rfl ?_
            refine x_bipush (pc := 82) (v := -15) dX6_one_82 rfl ?_
            refine x_callV (pc := 84) (As := [.int _]) dX6_one_84 mX6_emit lk_6_53 hK.2.2.1 (k_emit hK (cz_ok N 0 (op + 1) _ (okc_A h)).2) rfl rfl (Nat.le_of_ble_eq_true rfl) (rmz (by omega)) ⟨Nat.zero_le _, Nat.zero_le _⟩ (k_rv ?_)
            refine x_goto (pc := 87) (tgt := 128) dX6_one_87 rfl ?_
            refine x_return (pc := 128) dX6_one_128 rfl ?_
            exact ⟨rfl, rfl⟩
      · rw [if_pos (show c.2.2.1 ≤ -1 ∧ -6 ≤ c.2.2.1 from ⟨Int32.not_lt.mp h_29, Int32.not_lt.mp h_38⟩)]
        refine x_aload_n (pc := 41) dX6_one_41 rfl ?_
        refine x_aload_n (pc := 42) dX6_one_42 rfl ?_
        refine k_getI (pc := 43) hK dX6_one_43 fk_6_25 (Or.inl rfl) ?_
        refine x_callV (pc := 46) (As := [.int _]) dX6_one_46 mX6_emit lk_6_53 hK.2.2.1 (k_emit hK h.2) rfl rfl (Nat.le_of_ble_eq_true rfl) (rmz (by omega)) ⟨Nat.zero_le _, Nat.zero_le _⟩ (k_rv ?_)
        refine x_aload_n (pc := 49) dX6_one_49 rfl ?_
        refine x_callV (pc := 50) (As := []) dX6_one_50 mX6_advance lk_6_43 hK.2.2.1 (k_advance hK hT hO hl hl2 (okc_E h).1) rfl rfl (Nat.le_of_ble_eq_true rfl) (rmz (by omega)) ⟨Nat.zero_le _, Nat.zero_le _⟩ (k_rv ?_)
        refine x_goto (pc := 53) (tgt := 128) dX6_one_53 rfl ?_
        refine x_return (pc := 128) dX6_one_128 rfl ?_
        exact ⟨rfl, rfl⟩
  · rw [if_pos (show c.2.2.1 = -22 by first | exact h_6 | exact Decidable.not_not.mp h_6)]
    refine x_aload_n (pc := 9) dX6_one_9 rfl ?_
    refine x_aload_n (pc := 10) dX6_one_10 rfl ?_
    refine k_getI (pc := 11) hK dX6_one_11 fk_6_28 (Or.inl rfl) ?_
    refine x_callV (pc := 14) (As := [.int _]) dX6_one_14 mX6_emit lk_6_53 hK.2.2.1 (k_emit hK h.2) rfl rfl (Nat.le_of_ble_eq_true rfl) (rmz (by omega)) ⟨Nat.zero_le _, Nat.zero_le _⟩ (k_rv ?_)
    refine x_aload_n (pc := 17) dX6_one_17 rfl ?_
    refine x_callV (pc := 18) (As := []) dX6_one_18 mX6_advance lk_6_43 hK.2.2.1 (k_advance hK hT hO hl hl2 (okc_E h).1) rfl rfl (Nat.le_of_ble_eq_true rfl) (rmz (by omega)) ⟨Nat.zero_le _, Nat.zero_le _⟩ (k_rv ?_)
    refine x_goto (pc := 21) (tgt := 128) dX6_one_21 rfl ?_
    refine x_return (pc := 128) dX6_one_128 rfl ?_
    exact ⟨rfl, rfl⟩
theorem z_all (hK : KO μ b 4 6 rdL) (hT : KTp μ b lt) (hO : cO κ σ f n) (hl : n ≤ lt) (hl2 : lt < 2 ^ 31) : ∀ N : Nat, (∀ op c, okc n c → op ≤ 5 → 7 * (5 - op) + 0 < N → XM Γ zX6_one (2 * N + 8) 0 0 [.ref (adO b 4), .int (nI op)] (KV μ b (rK κ c)) (rv (KV μ b (rK κ (cz σ f n N 0 op c))))) ∧ (∀ op c, okc n c → op ≤ 5 → 7 * (5 - op) + 1 < N → XM Γ zX6_term (2 * N + 8) 0 0 [.ref (adO b 4), .int (nI op)] (KV μ b (rK κ c)) (rv (KV μ b (rK κ (cz σ f n N 1 op c))))) ∧ (∀ op c, okc n c → op ≤ 5 → 7 * (5 - op) + 2 < N → XM Γ zX6_sum (2 * N + 8) 0 0 [.ref (adO b 4), .int (nI op)] (KV μ b (rK κ c)) (rv (KV μ b (rK κ (cz σ f n N 2 op c))))) ∧ (∀ op c, okc n c → op ≤ 5 → 7 * (5 - op) + 3 < N → XM Γ zX6_negation (2 * N + 8) 0 0 [.ref (adO b 4), .int (nI op)] (KV μ b (rK κ c)) (rv (KV μ b (rK κ (cz σ f n N 3 op c))))) ∧ (∀ op c, okc n c → op ≤ 5 → 7 * (5 - op) + 4 < N → XM Γ zX6_both (2 * N + 8) 0 0 [.ref (adO b 4), .int (nI op)] (KV μ b (rK κ c)) (rv (KV μ b (rK κ (cz σ f n N 4 op c))))) ∧ (∀ op c, okc n c → op ≤ 5 → 7 * (5 - op) + 5 < N → XM Γ zX6_either (2 * N + 8) 0 0 [.ref (adO b 4), .int (nI op)] (KV μ b (rK κ c)) (rv (KV μ b (rK κ (cz σ f n N 5 op c)))))
  | 0 => ⟨fun _ _ _ _ h => absurd h (by omega), fun _ _ _ _ h => absurd h (by omega), fun _ _ _ _ h => absurd h (by omega), fun _ _ _ _ h => absurd h (by omega), fun _ _ _ _ h => absurd h (by omega), fun _ _ _ _ h => absurd h (by omega)⟩
  | N + 1 => by
    obtain ⟨c0, c1, c2, c3, c4, c5⟩ := z_all hK hT hO hl hl2 N
    exact ⟨z_one hK hT hO hl hl2 N c0 c5, z_term hK hT hO hl hl2 N c0, z_sum hK hT hO hl hl2 N c1, z_negation hK hT hO hl hl2 N c3 (z_cmp hK hT hO hl hl2 N c2), z_both hK hT hO hl hl2 N c3, z_either hK hT hO hl hl2 N c4⟩
end M91
