/-! the class: a text is read -/
def thR4 (μ : Mem) (b : Kb) : Mem := sR μ (adO b 4) 0 (some (adR b 0 2))
theorem KO_t4 {μ : Mem} {b : Kb} {o ci : Nat} {len : Nat → Nat} (h4 : KO μ b 4 6 rdL) (h : KO μ b o ci len) (ho : o ≠ 4 ∨ len 0 = 0) : KO (thR4 μ b) b o ci len := by
  refine ⟨h.1, h.2.1, h.2.2.1, h.2.2.2.1, fun f hf => ⟨?_, (h.2.2.2.2 f hf).2⟩⟩
  refine (up2_n ?_).trans (h.2.2.2.2 f hf).1
  rcases ho with z | z
  · refine Or.inl (fun e => z ?_)
    have e1 := h.2.2.2.1
    rw [e, h4.2.2.2.1] at e1
    exact e1.symm
  · exact Or.inr (fun e => hf (by rw [e]; exact z))
theorem thR4_self {μ : Mem} {b : Kb} (h : mR μ (adO b 4) 0 = some (adR b 0 2)) : thR4 μ b = μ := by
  unfold thR4 sR
  refine Prod.ext rfl (Prod.ext rfl (Prod.ext rfl (Prod.ext ?_ rfl)))
  funext q k
  show up2 μ.2.2.2.1 (adO b 4) 0 (some (adR b 0 2)) q k = μ.2.2.2.1 q k
  unfold up2
  split
  · rename_i z
    rw [z.1, z.2]
    exact h.symm
  · rfl
theorem rK_self (κ : KS) : ∃ c : CT, κ = rK κ c := by
  obtain ⟨x, hx⟩ := nI_any (κ.1 4 2)
  obtain ⟨s, hs⟩ := nI_any (κ.1 4 3)
  obtain ⟨l, hl⟩ := nI_any (κ.1 4 8)
  refine ⟨(x, s, κ.1 4 4, κ.1 4 5, κ.1 4 6, l, κ.2 4 7), Prod.ext (funext fun a => funext fun k => ?_) (funext fun a => funext fun k => ?_)⟩
  · unfold rK
    by_cases ha : a = 4
    · by_cases h2 : k = 2
      · simp [ha, h2, hx]
      · by_cases h3 : k = 3
        · simp [ha, h3, hs]
        · by_cases h4 : k = 4
          · simp [ha, h4]
          · by_cases h5 : k = 5
            · simp [ha, h5]
            · by_cases h6 : k = 6
              · simp [ha, h6]
              · by_cases h8 : k = 8
                · simp [ha, h8, hl]
                · simp [ha, h2, h3, h4, h5, h6, h8]
    · simp [ha]
  · unfold rK
    by_cases ha : a = 4 ∧ k = 7
    · simp [ha]
    · simp [ha]
theorem rK_1 {κ : KS} {c : CT} {v : Int32} : kI (rK κ c) 4 1 v = rK (kI κ 4 1 v) c := by
  refine Prod.ext (funext fun a => funext fun k => ?_) rfl
  show up2 _ 4 1 v a k = _
  unfold up2 rK kI
  by_cases ha : a = 4
  · by_cases hk : k = 1 <;> simp [ha, hk, up2]
  · simp [ha, up2]
theorem rK_9 {κ : KS} {c : CT} {i : Nat} {v : Int32} : kA (rK κ c) 4 9 i v = rK (kA κ 4 9 i v) c := by
  refine Prod.ext rfl (funext fun a => funext fun k => ?_)
  show up3 _ 4 9 i v a k = _
  unfold up3 rK kA
  by_cases ha : a = 4 ∧ k = 9
  · simp [ha, up3]
  · by_cases hb : a = 4 ∧ k = 7 <;> simp [ha, hb, up3]
theorem cO_9 {κ : KS} {σ : MS} {f n i : Nat} {v : Int32} (h : cO κ σ f n) : cO (kA κ 4 9 i v) σ f n := h
def cPt (σ : MS) (f n N : Nat) (v : Int32) (c : CT) : CT := cX σ f n (-16) (cE (-16) (cz σ f n N 5 0 (cX σ f n v c)))
def rdN (σ : MS) (f n N : Nat) : Nat → Nat → KS × CT → KS × CT
  | 0, _, q => q
  | m + 1, i, q => rdN σ f n N m (i + 1) (kA q.1 4 9 i (nI (cX σ f n (-19 - nI i) q.2).2.2.2.2.2.1), cPt σ f n N (-19 - nI i) q.2)
def rdA (σ : MS) (f n N : Nat) (κ : KS) (c : CT) : KS × CT := rdN σ f n N 3 0 (kI κ 4 1 (nI n), cA σ f n (0, c.2.1, c.2.2.1, c.2.2.2.1, -1, 0, c.2.2.2.2.2.2))
theorem okc_Pt {σ : MS} {f n N : Nat} {v : Int32} {c : CT} (h : okc n c) : okc n (cPt σ f n N v c) := okc_X (okc_E (cz_ok N 5 0 _ (okc_X h)))
theorem rdN_ok {σ : MS} {f n N : Nat} : ∀ (m i : Nat) (q : KS × CT), okc n q.2 → okc n (rdN σ f n N m i q).2
  | 0, _, _, h => h
  | m + 1, i, q, h => rdN_ok m (i + 1) _ (okc_Pt h)
section M92
variable {Γ : Gm} {μ : Mem} {b : Kb} {κ : KS} {σ : MS} {f n lt : Nat}
theorem k_read {c : CT} {N : Nat} (h4 : KO μ b 4 6 rdL) (hA : mT μ (adR b 0 2) = (2, lt) ∧ ivR b (adR b 0 2) = (0, 2)) (hO : rdO σ f n) (hB : ∀ i, i < n → κ.2 0 2 i = σ.2.2 1 (f + i)) (hl : n ≤ lt) (hl2 : lt < 2 ^ 31) (hN : 41 ≤ N) : XM Γ zX6_read (2 * N + 9) 0 0 [.ref (adO b 4), .ref (adR b 0 2), .int (nI n)] (KV μ b (rK κ c)) (rt (.int (cX σ f n (-23) (rdA σ f n N κ c).2).2.2.2.2.1) (KV (thR4 μ b) b (rK (rdA σ f n N κ c).1 (cX σ f n (-23) (rdA σ f n N κ c).2)))) := by
  refine XM.of 1 rfl (by decide) (Nat.le_of_ble_eq_true rfl) ?_
  obtain ⟨x, s, t, u, fl, l, cd⟩ := c
  have hK : KO (thR4 μ b) b 4 6 rdL := KO_t4 h4 h4 (Or.inr rfl)
  have hT : KTp (thR4 μ b) b lt := ⟨hA.1, h4.1, hA.2, up2_s⟩
  have L : ∀ (m i : Nat) (q : KS × CT), i + m = 3 → okc n q.2 → cO q.1 σ f n → WA Γ zX6_read (xrm (2 * N + 9) 0 0) 0 0 0 0 (rt (.int (cX σ f n (-23) (rdN σ f n N m i q).2).2.2.2.2.1) (KV (thR4 μ b) b (rK (rdN σ f n N m i q).1 (cX σ f n (-23) (rdN σ f n N m i q).2)))) 31 [some (.ref (adO b 4)), some (.ref (adR b 0 2)), some (.int (nI n)), some (.int (nI i))] [] (KV (thR4 μ b) b (rK q.1 q.2)) := by
    intro m
    induction m with
    | zero =>
      intro i q hi hk hO
      obtain rfl : i = 3 := by omega
      show WA _ _ _ _ _ _ _ (rt (.int (cX σ f n (-23) q.2).2.2.2.2.1) (KV (thR4 μ b) b (rK q.1 (cX σ f n (-23) q.2)))) _ _ _ _
      refine x_iload_n (pc := 31) dX6_read_31 rfl ?_
      refine x_iconst (pc := 32) (v := 3) dX6_read_32 rfl ?_
      refine x_icmp_ge (pc := 33) (tgt := 77) dX6_read_33 rfl (fun h_33 => ?_) (fun h_33 => absurd (by decide) h_33)
      refine x_aload_n (pc := 77) dX6_read_77 rfl ?_
      refine x_bipush (pc := 78) (v := -23) dX6_read_78 rfl ?_
      refine x_callV (pc := 80) (As := [.int _]) dX6_read_80 mX6_expect lk_6_46 hK.2.2.1 (k_expect hK hT hO hl hl2 hk.1) rfl rfl (Nat.le_of_ble_eq_true rfl) (rmz (by omega)) ⟨Nat.zero_le _, Nat.zero_le _⟩ (k_rv ?_)
      refine x_aload_n (pc := 83) dX6_read_83 rfl ?_
      refine k_getI (pc := 84) hK dX6_read_84 fk_6_31 (Or.inl rfl) ?_
      refine x_ireturn (pc := 87) dX6_read_87 rfl rfl ?_
      exact ⟨rfl, rfl⟩
    | succ m ih =>
      intro i q hi hk hO
      have hk1 : okc n (cX σ f n (-19 - nI i) q.2) := okc_X hk
      have hO2 : cO (kA q.1 4 9 i (nI (cX σ f n (-19 - nI i) q.2).2.2.2.2.2.1)) σ f n := cO_9 hO
      have hk2 := cz_ok (σ := σ) (f := f) N 5 0 _ hk1
      refine x_iload_n (pc := 31) dX6_read_31 rfl ?_
      refine x_iconst (pc := 32) (v := 3) dX6_read_32 rfl ?_
      refine x_icmp_ge (pc := 33) (tgt := 77) dX6_read_33 rfl (fun h_33 => absurd h_33 (nI_ge (a := i) (b := 3) (by omega) (by decide))) (fun h_33 => ?_)
      refine x_aload_n (pc := 36) dX6_read_36 rfl ?_
      refine x_bipush (pc := 37) (v := -19) dX6_read_37 rfl ?_
      refine x_iload_n (pc := 39) dX6_read_39 rfl ?_
      refine x_isub (pc := 40) dX6_read_40 ?_
      refine x_callV (pc := 41) (As := [.int _]) dX6_read_41 mX6_expect lk_6_46 hK.2.2.1 (k_expect hK hT hO hl hl2 hk.1) rfl rfl (Nat.le_of_ble_eq_true rfl) (rmz (by omega)) ⟨Nat.zero_le _, Nat.zero_le _⟩ (k_rv ?_)
      refine x_aload_n (pc := 44) dX6_read_44 rfl ?_
      refine k_getA (pc := 45) hK dX6_read_45 fk_6_40 (Or.inr ⟨_, rfl⟩) (by decide) ?_
      refine x_iload_n (pc := 48) dX6_read_48 rfl ?_
      refine x_aload_n (pc := 49) dX6_read_49 rfl ?_
      refine k_getI (pc := 50) hK dX6_read_50 fk_6_37 (Or.inl rfl) ?_
      refine k_iast (pc := 53) hK dX6_read_53 (rfl) (show i < 3 by omega) (by decide) ?_
      rw [show (rK q.1 (cX σ f n (-19 - nI i) q.2)).1 4 8 = nI (cX σ f n (-19 - nI i) q.2).2.2.2.2.2.1 from rfl, rK_9]
      refine x_aload_n (pc := 54) dX6_read_54 rfl ?_
      refine x_iconst (pc := 55) (v := 0) dX6_read_55 rfl ?_
      refine x_callV (pc := 56) (As := [.int _]) dX6_read_56 mX6_either lk_6_50 hK.2.2.1 ((z_all hK hT hO2 hl hl2 N).2.2.2.2.2 0 _ hk1 (by omega) (by omega)) rfl rfl (Nat.le_of_ble_eq_true rfl) (rmz (by omega)) ⟨Nat.zero_le _, Nat.zero_le _⟩ (k_rv ?_)
      refine x_aload_n (pc := 59) dX6_read_59 rfl ?_
      refine x_bipush (pc := 60) (v := -16) dX6_read_60 rfl ?_
      refine x_callV (pc := 62) (As := [.int _]) dX6_read_62 mX6_emit lk_6_53 hK.2.2.1 (k_emit hK hk2.2) rfl rfl (Nat.le_of_ble_eq_true rfl) (rmz (by omega)) ⟨Nat.zero_le _, Nat.zero_le _⟩ (k_rv ?_)
      refine x_aload_n (pc := 65) dX6_read_65 rfl ?_
      refine x_bipush (pc := 66) (v := -16) dX6_read_66 rfl ?_
      refine x_callV (pc := 68) (As := [.int _]) dX6_read_68 mX6_expect lk_6_46 hK.2.2.1 (k_expect hK hT hO2 hl hl2 (okc_E hk2).1) rfl rfl (Nat.le_of_ble_eq_true rfl) (rmz (by omega)) ⟨Nat.zero_le _, Nat.zero_le _⟩ (k_rv ?_)
      refine x_iinc (pc := 71) (lv2 := [_, _, _, _]) dX6_read_71 (by decide) rfl rfl (nI_1 _) rfl ?_
      refine x_goto (pc := 74) (tgt := 31) dX6_read_74 rfl ?_
      exact ih (i + 1) (kA q.1 4 9 i (nI (cX σ f n (-19 - nI i) q.2).2.2.2.2.2.1), cPt σ f n N (-19 - nI i) q.2) (by omega) (okc_Pt hk) hO2
  refine x_aload_n (pc := 0) dX6_read_0 rfl ?_
  refine x_aload_n (pc := 1) dX6_read_1 rfl ?_
  refine x_putR (pc := 2) dX6_read_2 fk_6_9 (Or.inl rfl) h4.2.2.1 (Or.inr ⟨_, rfl⟩) ?_
  rw [show sR (KV μ b (rK κ (x, s, t, u, fl, l, cd))) (adO b 4) 0 (some (adR b 0 2)) = KV (thR4 μ b) b (rK κ (x, s, t, u, fl, l, cd)) from rfl]
  refine x_aload_n (pc := 5) dX6_read_5 rfl ?_
  refine x_iload_n (pc := 6) dX6_read_6 rfl ?_
  refine k_putI (pc := 7) hK dX6_read_7 fk_6_15 (Or.inl rfl) (Or.inl rfl) ?_
  rw [rK_1]
  refine x_aload_n (pc := 10) dX6_read_10 rfl ?_
  refine x_iconst (pc := 11) (v := 0) dX6_read_11 rfl ?_
  refine k_putI (pc := 12) hK dX6_read_12 fk_6_19 (Or.inl rfl) (Or.inl rfl) ?_
  rw [show (0 : Int32) = nI 0 from rfl, rK_at]
  refine x_aload_n (pc := 15) dX6_read_15 rfl ?_
  refine x_iconst (pc := 16) (v := 0) dX6_read_16 rfl ?_
  refine k_putI (pc := 17) hK dX6_read_17 fk_6_37 (Or.inl rfl) (Or.inl rfl) ?_
  rw [show (0 : Int32) = nI 0 from rfl, rK_ln]
  refine x_aload_n (pc := 20) dX6_read_20 rfl ?_
  refine x_iconst (pc := 21) (v := -1) dX6_read_21 rfl ?_
  refine k_putI (pc := 22) hK dX6_read_22 fk_6_31 (Or.inl rfl) (Or.inl rfl) ?_
  rw [rK_ft]
  refine x_aload_n (pc := 25) dX6_read_25 rfl ?_
  refine x_callV (pc := 26) (As := []) dX6_read_26 mX6_advance lk_6_43 hK.2.2.1 (k_advance (κ := kI κ 4 1 (nI n)) (c := (0, s, t, u, -1, 0, cd)) hK hT ⟨kI_s, hO, hB⟩ hl hl2 (Nat.zero_le n)) rfl rfl (Nat.le_of_ble_eq_true rfl) (rmz (by omega)) ⟨Nat.zero_le _, Nat.zero_le _⟩ (k_rv ?_)
  refine x_iconst (pc := 29) (v := 0) dX6_read_29 rfl ?_
  refine x_istore_n (pc := 30) (lv2 := [_, _, _, _]) dX6_read_30 (by decide) rfl rfl ?_
  exact L 3 0 (kI κ 4 1 (nI n), cA σ f n (0, s, t, u, -1, 0, cd)) rfl (okc_A ⟨Nat.zero_le _, Nat.zero_le _⟩) ⟨kI_s, hO, hB⟩
end M92
