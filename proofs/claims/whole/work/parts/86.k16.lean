/-! the class: the planner starts -/
theorem kS_n {κ : KS} {o k a c : Nat} {g : Nat → Int32} (h : a ≠ o ∨ c ≠ k) : (kS κ o k g).2 a c = κ.2 a c := up2_n h
theorem kS_1 {κ : KS} {o k : Nat} {g : Nat → Int32} : (kS κ o k g).1 = κ.1 := rfl
theorem kI_2 {κ : KS} {o k : Nat} {v : Int32} : (kI κ o k v).2 = κ.2 := rfl
def hsL : Nat → Nat := fun f => if f = 0 then 6 else if f = 1 then 4 else if f = 2 then 7 else 0
theorem KV_cp {μ : Mem} {b : Kb} {κ : KS} {o f o' f' i j n : Nat} (hc : Kc b) (ho : o < 25) (ho' : o' < 25) (h : ivR b (adR b o f) = (o, f)) (h' : ivR b (adR b o' f') = (o', f')) : cpA (KV μ b κ) (adR b o f) (adR b o' f') i j n = KV μ b (kS κ o' f' (va_cpy (κ.2 o f) (κ.2 o' f') i j n)) := by
  have ea : mA (KV μ b κ) (adR b o f) = κ.2 o f := funext fun x => KV_mA h ho
  have eb : mA (KV μ b κ) (adR b o' f') = κ.2 o' f' := funext fun x => KV_mA h' ho'
  have e : cpA (KV μ b κ) (adR b o f) (adR b o' f') i j n = ((KV μ b κ).1, (KV μ b κ).2.1, (KV μ b κ).2.2.1, (KV μ b κ).2.2.2.1, va_up (mA (KV μ b κ)) (adR b o' f') (va_cpy (mA (KV μ b κ) (adR b o f)) (mA (KV μ b κ) (adR b o' f')) i j n), (KV μ b κ).2.2.2.2.2) := rfl
  rw [e, ea, eb]
  refine congrArg (Prod.mk _) (congrArg (Prod.mk _) (congrArg (Prod.mk _) (congrArg (Prod.mk _) (congrArg (fun z => (z, _)) ?_))))
  funext q x
  show va_up (mA (KV μ b κ)) (adR b o' f') (va_cpy (κ.2 o f) (κ.2 o' f') i j n) q x = if (ivR b q).1 < 25 then up2 κ.2 o' f' (va_cpy (κ.2 o f) (κ.2 o' f') i j n) (ivR b q).1 (ivR b q).2 x else mA μ q x
  by_cases hq : q = adR b o' f'
  · subst hq
    rw [va_up_s, h', if_pos ho', up2_s]
  · rw [va_up_n hq]
    show (if (ivR b q).1 < 25 then κ.2 (ivR b q).1 (ivR b q).2 x else mA μ q x) = _
    by_cases hv : (ivR b q).1 < 25
    · rw [if_pos hv, if_pos hv, up2_n]
      by_cases h1 : (ivR b q).1 = o'
      · refine Or.inr (fun h2 => hq ?_)
        have := hc.2 q hv
        rw [h1, h2] at this
        exact this
      · exact Or.inl h1
    · rw [if_neg hv, if_neg hv]
section M86r
variable {Γ : Gm} {M : Mt} {R : Room} {mc ms cl sl : Nat} {Q : Option Value → Mem → Prop} {pc : Nat} {lv : List (Option Value)} {st : List Value} {μ : Mem} {b : Kb} {κ : KS} {o o' ci ci' : Nat} {len len' : Nat → Nat}
theorem k_copy {idx f f' i j n : Nat} {iv jv nv : Int32} (h : KO μ b o ci len) (h' : KO μ b o' ci' len') (d : decode M.2.1 pc = .ok (.invokestatic idx, 3)) (hw : Cond.methodLink M.1.cls idx arraycopyName ∈ gT) (hf : len f ≠ 0) (hf' : len' f' ≠ 0) (hi : iv = nI i) (hj : jv = nI j) (hn : nv = nI n) (h4 : i + n ≤ len f) (h5 : j + n ≤ len' f') (hna : len f < 2 ^ 31) (hnb : len' f' < 2 ^ 31) (hR : 1 ≤ R.frames ∧ 64 ≤ R.locals) (hws : (st.map fun v => v.category).sum ≤ 8)
    (kk : WA Γ M R mc ms cl sl Q (pc + 3) lv st (KV μ b (kS κ o' f' (va_cpy (κ.2 o f) (κ.2 o' f') i j n)))) : WA Γ M R mc ms cl sl Q pc lv (.int nv :: .int jv :: .ref (adR b o' f') :: .int iv :: .ref (adR b o f) :: st) (KV μ b κ) := by
  obtain ⟨-, h1, h2⟩ := h.2.2.2.2 f hf
  obtain ⟨-, h1', h2'⟩ := h'.2.2.2.2 f' hf'
  refine x_copy d hw wa_nat wa_st w_System h1 h1' hi hj hn h4 h5 hna hnb hR hws ?_
  rw [KV_cp h.1 h.2.1 h'.2.1 h2 h2']
  exact kk
end M86r
/-- the things of the house are the planner's -/
def thR3 (μ : Mem) (b : Kb) : Mem := sR μ (adO b 3) 0 (some (adR b 1 3))
theorem KO_th {μ : Mem} {b : Kb} {o ci : Nat} {len : Nat → Nat} (h3 : KO μ b 3 4 plL) (h : KO μ b o ci len) (ho : o ≠ 3 ∨ len 0 = 0) : KO (thR3 μ b) b o ci len := by
  obtain ⟨h1, h2, h4, h5, h6⟩ := h
  refine ⟨h1, h2, h4, h5, fun f hf => ?_⟩
  obtain ⟨g1, g2, g3⟩ := h6 f hf
  refine ⟨?_, g2, g3⟩
  show up2 (mR μ) (adO b 3) 0 (some (adR b 1 3)) (adO b o) f = _
  rw [up2_n]
  · exact g1
  · by_cases ho3 : adO b o = adO b 3
    · have : o = 3 := by rw [← h5, ho3, h3.2.2.2.1]
      rcases ho with z | z
      · exact absurd this z
      · exact Or.inr (fun y => hf (by rw [y]; exact z))
    · exact Or.inl ho3
theorem KX_th {μ : Mem} {b : Kb} {kd : Nat → Nat} (h3 : KO μ b 3 4 plL) (h : KX μ b kd) : KX (thR3 μ b) b kd := ⟨h.1, fun t ht => ⟨(h.2 t ht).1, KO_th h3 (h.2 t ht).2 (Or.inl (by omega))⟩⟩
theorem KL_th {μ : Mem} {b : Kb} (h : KL μ b) : KL (thR3 μ b) b := ⟨(up2_n (Or.inr (by decide))).trans h.1, h.2.1, h.2.2⟩
theorem KP_th {μ : Mem} {b : Kb} {kd : Nat → Nat} (h3 : KO μ b 3 4 plL) (hX : KX μ b kd) (hL : KL μ b) : KP (thR3 μ b) b kd := ⟨KO_th h3 h3 (Or.inr rfl), up2_s, KX_th h3 hX, KL_th hL⟩
/-- the house holds these numbers -/
def HC (κ : KS) (D : PD) (n : Nat) : Prop := okD D n ∧ κ.1 1 4 = nI n ∧ (∀ p, p < 6 → κ.2 1 0 p = nI (D 4 p)) ∧ (∀ g, g < 4 → κ.2 1 1 g = nI (D 5 g)) ∧ (∀ d, d < 7 → κ.2 1 2 d = nI (D 6 d)) ∧ ∀ t, t < n → TH κ (15 + t) D t ∧ κ.1 (15 + t) 5 = nI (D 3 t) - 1
def stP (tx : Nat) : Nat → Nat → Prop := fun a k => a = 3 ∨ (15 ≤ a ∧ 6 ≤ k) ∨ tP tx a k
/-- what stands when the planner has started -/
def SD (κ0 κ : KS) (D : PD) (n tx : Nat) : Prop := kq (stP tx) κ0 κ ∧ PL κ D n 9 ∧ PC κ D n ∧ DC κ D ∧ SC κ D ∧ RMc κ (wasA D 9) n ∧ κ.2 3 6 0 = 0
section M86
variable {Γ : Gm} {μ : Mem} {b : Kb} {κ : KS}
theorem k_start {D : PD} {n tx tn : Nat} (h3 : KO μ b 3 4 plL) (hKX : KX μ b (D 0)) (hKL : KL μ b) (hH0 : KO μ b 1 2 hsL) (hHt : mR μ (adO b 1) 3 = some (adR b 1 3)) (hX0 : KO μ b tx 8 (tLen tn)) (htx : 9 ≤ tx ∧ tx < 15) (htn : tn ≠ 0) (htn2 : tn < 2 ^ 31) (ht : tOk κ tx) (hC : HC κ D n) (hG : okG D n) (hV : ∀ t, t < n → TV κ tx tn (15 + t) D t) (h60 : κ.2 3 6 0 = 0) : XM Γ zX4_start 6 0 0 [.ref (adO b 3), .ref (adO b 1), .ref (adO b tx)] (KV μ b κ) (fun x μ2 => ∃ κ2, x = none ∧ μ2 = KV (thR3 μ b) b κ2 ∧ SD κ κ2 D n tx) := by
  refine XM.of 1 rfl (by decide) (Nat.le_of_ble_eq_true rfl) ?_
  have hn := hC.1.1
  have hP : KP (thR3 μ b) b (D 0) := KP_th h3 hKX hKL
  have hK : KO (thR3 μ b) b 3 4 plL := hP.1
  have hH : KO (thR3 μ b) b 1 2 hsL := KO_th h3 hH0 (Or.inl (by decide))
  have hX : KO (thR3 μ b) b tx 8 (tLen tn) := KO_th h3 hX0 (Or.inl (by omega))
  have hth0 := hP.2.1
  have hXX := hP.2.2.1
  have Lo : ∀ (m t : Nat) (κ2 : KS), t + m = n → kq (stP tx) κ κ2 → κ2.1 3 1 = nI n → κ2.1 3 2 = -1 → DC κ2 D → SC κ2 D → (∀ s, s < 7 → κ2.2 3 6 s = nI (vwD D s)) → (∀ x, x < t → LN κ2 (15 + x) D x) → (∀ x, x < n → TH κ2 (15 + x) D x ∧ κ2.1 (15 + x) 5 = nI (D 3 x) - 1 ∧ TV κ2 tx tn (15 + x) D x) → tOk κ2 tx → WA Γ zX4_start (xrm 6 0 0) 0 0 0 0 (fun x μ2 => ∃ κ2, x = none ∧ μ2 = KV (thR3 μ b) b κ2 ∧ SD κ κ2 D n tx) 71 [some (.ref (adO b 3)), some (.ref (adO b 1)), some (.ref (adO b tx)), some (.int (nI t))] [] (KV (thR3 μ b) b κ2) := by
    intro m
    induction m with
    | zero =>
      intro t κ2 ht0 hq h1 h2 hD hS hv hl hT hto
      obtain rfl : t = n := by omega
      have hL : PL κ2 D t 9 := ⟨hC.1, hG, h1, h2, fun x hx => ⟨(hT x hx).1, hl x hx⟩, hv⟩
      have hPC : PC κ2 D t := fun x hx => (hT x hx).2.1
      refine x_iload_n (pc := 71) dX4_start_71 rfl ?_
      refine x_aload_n (pc := 72) dX4_start_72 rfl ?_
      refine k_getI (pc := 73) hK dX4_start_73 fk_4_17 (Or.inl rfl) ?_
      refine x_icmp_ge (pc := 76) (tgt := 95) dX4_start_76 rfl (fun h_76 => ?_) (fun h_76 => absurd (by rw [h1]; exact Int32.le_refl _) h_76)
      refine x_aload_n (pc := 95) dX4_start_95 rfl ?_
      refine x_callV (pc := 96) (As := []) dX4_start_96 mX4_enterNow lk_4_74 hK.2.2.1 (k_enterNow hP hL hPC) rfl rfl (Nat.le_of_ble_eq_true rfl) ⟨by decide, by decide⟩ ⟨Nat.zero_le _, Nat.zero_le _⟩ (fun x μ3 hq3 => ?_)
      obtain ⟨κ3, rfl, rfl, q3, r3⟩ := hq3
      have q4 := ro_pl q3
      refine x_return (pc := 99) dX4_start_99 rfl ?_
      refine ⟨κ3, rfl, rfl, hq.trans (q3.mono (fun a k z => Or.inl z.1)), hL.kq q4, hPC.kq q4, hD.kq q4, ⟨fun p hp => ⟨(hS.1 p hp).1, ?_⟩, fun g hg => ⟨(hS.2 g hg).1, ?_⟩⟩, r3, ?_⟩
      · rw [(q3 3 3 (fun z => by have := z.2; omega)).2]; exact (hS.1 p hp).2
      · rw [(q3 3 4 (fun z => by have := z.2; omega)).2]; exact (hS.2 g hg).2
      · rw [(q3 3 6 (fun z => by have := z.2; omega)).2, hv 0 (by omega)]
        rfl
    | succ m ih =>
      intro t κ2 ht0 hq h1 h2 hD hS hv hl hT hto
      have htn5 : t < 5 := by omega
      obtain ⟨hTt, hpt, hVt⟩ := hT t (by omega)
      have hXt := (hXX.2 t htn5).2
      refine x_iload_n (pc := 71) dX4_start_71 rfl ?_
      refine x_aload_n (pc := 72) dX4_start_72 rfl ?_
      refine k_getI (pc := 73) hK dX4_start_73 fk_4_17 (Or.inl rfl) ?_
      refine x_icmp_ge (pc := 76) (tgt := 95) dX4_start_76 rfl (fun h_76 => absurd h_76 (by rw [h1]; exact lit_le t (by omega) (by omega))) (fun h_76 => ?_)
      refine x_aload_n (pc := 79) dX4_start_79 rfl ?_
      refine k_getR (pc := 80) hK dX4_start_80 fk_4_11 (Or.inr ⟨_, rfl⟩) (hth0) ?_
      refine x_iload_n (pc := 83) dX4_start_83 rfl ?_
      refine x_aald (pc := 84) dX4_start_84 (hXX.1) (Or.inl rfl) (rfl) (htn5) (by decide) ((hXX.2 t htn5).1) ?_
      refine x_aload_n (pc := 85) dX4_start_85 rfl ?_
      refine x_callU (pc := 86) (As := [.ref _]) dX4_start_86 mX9_learn (lt_4_70 (kci_th (D 0 t))) hXt.2.2.1 (k_learn hXt hTt hX htn htn2 (by omega) hto hVt) rfl rfl (Nat.le_of_ble_eq_true rfl) ⟨by decide, by decide⟩ ⟨Nat.zero_le _, Nat.zero_le _⟩ (fun x μ3 hq3 => ?_)
      obtain ⟨κ3, rfl, rfl, q3, l3⟩ := hq3
      refine x_iinc (pc := 89) (lv2 := [_, _, _, _]) dX4_start_89 (by decide) rfl rfl (nI_1 _) rfl ?_
      refine x_goto (pc := 92) (tgt := 71) dX4_start_92 rfl ?_
      have hno : ∀ a k, (a = 3 ∨ (a = 15 + t ∧ k < 6) ∨ (15 ≤ a ∧ a ≠ 15 + t) ∨ (a = tx ∧ k < 2)) → ¬ lnP (15 + t) tx a k := fun a k hak z => by
        rcases z with ⟨z1, z2⟩ | ⟨z1, z2⟩ <;> omega
      refine ih (t + 1) κ3 (by omega) (hq.trans (q3.mono (fun a k z => ?_))) ?_ ?_ (fun d hd => ?_) ⟨fun p hp => ⟨(hS.1 p hp).1, ?_⟩, fun g hg => ⟨(hS.2 g hg).1, ?_⟩⟩ (fun s hs => ?_) (fun x hx => ?_) (fun x hx => ?_) ?_
      · rcases z with ⟨z1, z2⟩ | z
        · exact Or.inr (Or.inl (by omega))
        · exact Or.inr (Or.inr z)
      · rw [(q3 3 1 (hno 3 1 (by omega))).1]; exact h1
      · rw [(q3 3 2 (hno 3 2 (by omega))).1]; exact h2
      · rw [(q3 3 5 (hno 3 5 (by omega))).2]; exact hD d hd
      · rw [(q3 3 3 (hno 3 3 (by omega))).2]; exact (hS.1 p hp).2
      · rw [(q3 3 4 (hno 3 4 (by omega))).2]; exact (hS.2 g hg).2
      · rw [(q3 3 6 (hno 3 6 (by omega))).2]; exact hv s hs
      · rcases Nat.lt_or_ge x t with y | y
        · exact (hl x y).kq q3 (fun k hk => hno _ _ (by omega))
        · obtain rfl : x = t := by omega
          exact l3
      · obtain ⟨g1, g2, g3⟩ := hT x hx
        refine ⟨g1.kq q3 (fun k hk => hno _ _ (by omega)), ?_, ?_⟩
        · rw [(q3 (15 + x) 5 (hno _ _ (by omega))).1]; exact g2
        · have e := fun y pl gs => tV_kq (tx := tx) (tn := tn) (o := 15 + x) q3 (fun k hk => hno _ _ (by omega)) (fun k hk => hno _ _ (by omega)) y pl gs
          refine ⟨fun s hs => ⟨(e _ _ _).trans (g3.1 s hs).1, fun hs0 => (e _ _ _).trans ((g3.1 s hs).2 hs0)⟩, g3.2.1, fun c hc => (e _ _ _).trans (g3.2.2 c hc)⟩
      · intro x hx
        rw [(q3 tx 1 (hno _ _ (by omega))).2]
        exact hto x hx
  -- from behind the copies
  have cp : ∀ (f g : Nat → Int32) (n k : Nat), k < n → va_cpy f g 0 0 n k = f k := fun f g n k hk => by
    unfold va_cpy
    rw [if_pos (by omega)]
    congr 1
    omega
  refine x_aload_n (pc := 0) dX4_start_0 rfl ?_
  refine x_aload_n (pc := 1) dX4_start_1 rfl ?_
  refine x_getR (pc := 2) dX4_start_2 fk_4_54 hH0.2.2.1 (Or.inr ⟨_, rfl⟩) hHt ?_
  refine x_putR (pc := 5) dX4_start_5 fk_4_11 (Or.inl rfl) h3.2.2.1 (Or.inr ⟨_, rfl⟩) ?_
  rw [show sR (KV μ b κ) (adO b 3) 0 (some (adR b 1 3)) = KV (thR3 μ b) b κ from rfl]
  refine x_aload_n (pc := 8) dX4_start_8 rfl ?_
  refine x_aload_n (pc := 9) dX4_start_9 rfl ?_
  refine k_getI (pc := 10) hH dX4_start_10 fk_4_57 (Or.inl rfl) ?_
  refine k_putI (pc := 13) hK dX4_start_13 fk_4_17 (Or.inl rfl) (Or.inl rfl) ?_
  refine x_aload_n (pc := 16) dX4_start_16 rfl ?_
  refine x_iconst (pc := 17) (v := -1) dX4_start_17 rfl ?_
  refine k_putI (pc := 18) hK dX4_start_18 fk_4_21 (Or.inl rfl) (Or.inl rfl) ?_
  refine x_aload_n (pc := 21) dX4_start_21 rfl ?_
  refine k_getA (pc := 22) hH dX4_start_22 fk_4_58 (Or.inr ⟨_, rfl⟩) (by decide) ?_
  refine x_iconst (pc := 25) (v := 0) dX4_start_25 rfl ?_
  refine x_aload_n (pc := 26) dX4_start_26 rfl ?_
  refine k_getA (pc := 27) hK dX4_start_27 fk_4_24 (Or.inr ⟨_, rfl⟩) (by decide) ?_
  refine x_iconst (pc := 30) (v := 0) dX4_start_30 rfl ?_
  refine x_bipush (pc := 31) (v := 6) dX4_start_31 rfl ?_
  refine k_copy (pc := 33) (i := 0) (j := 0) (n := 6) hH hK dX4_start_33 lw_4_59 (by decide) (by decide) rfl rfl rfl (by decide) (by decide) (by decide) (by decide) ⟨by decide, by decide⟩ (by decide) ?_
  refine x_aload_n (pc := 36) dX4_start_36 rfl ?_
  refine k_getA (pc := 37) hH dX4_start_37 fk_4_65 (Or.inr ⟨_, rfl⟩) (by decide) ?_
  refine x_iconst (pc := 40) (v := 0) dX4_start_40 rfl ?_
  refine x_aload_n (pc := 41) dX4_start_41 rfl ?_
  refine k_getA (pc := 42) hK dX4_start_42 fk_4_28 (Or.inr ⟨_, rfl⟩) (by decide) ?_
  refine x_iconst (pc := 45) (v := 0) dX4_start_45 rfl ?_
  refine x_iconst (pc := 46) (v := 4) dX4_start_46 rfl ?_
  refine k_copy (pc := 47) (i := 0) (j := 0) (n := 4) hH hK dX4_start_47 lw_4_59 (by decide) (by decide) rfl rfl rfl (by decide) (by decide) (by decide) (by decide) ⟨by decide, by decide⟩ (by decide) ?_
  refine x_aload_n (pc := 50) dX4_start_50 rfl ?_
  refine k_getA (pc := 51) hH dX4_start_51 fk_4_66 (Or.inr ⟨_, rfl⟩) (by decide) ?_
  refine x_iconst (pc := 54) (v := 0) dX4_start_54 rfl ?_
  refine x_aload_n (pc := 55) dX4_start_55 rfl ?_
  refine k_getA (pc := 56) hK dX4_start_56 fk_4_31 (Or.inr ⟨_, rfl⟩) (by decide) ?_
  refine x_iconst (pc := 59) (v := 0) dX4_start_59 rfl ?_
  refine x_bipush (pc := 60) (v := 7) dX4_start_60 rfl ?_
  refine k_copy (pc := 62) (i := 0) (j := 0) (n := 7) hH hK dX4_start_62 lw_4_59 (by decide) (by decide) rfl rfl rfl (by decide) (by decide) (by decide) (by decide) ⟨by decide, by decide⟩ (by decide) ?_
  refine x_aload_n (pc := 65) dX4_start_65 rfl ?_
  generalize hκA : kS (kS (kS (kI (kI κ 3 1 (κ.1 1 4)) 3 2 (-1)) 3 3 _) 3 4 _) 3 5 _ = κA
  have qA : kq (stP tx) κ κA := by
    rw [← hκA]
    exact ((((kq.rf.I (Or.inl rfl)).I (Or.inl rfl)).S (Or.inl rfl)).S (Or.inl rfl)).S (Or.inl rfl)
  have a1 : κA.1 3 1 = nI n := by rw [← hκA, kS_1, kS_1, kS_1, kI_n (Or.inr (by decide)), kI_s]; exact hC.2.1
  have a2 : κA.1 3 2 = -1 := by rw [← hκA, kS_1, kS_1, kS_1, kI_s]
  have aS : SC κA D := by
    refine ⟨fun p hp => ⟨hC.1.2.2.1 p hp, ?_⟩, fun g hg => ⟨hC.1.2.2.2.1 g hg, ?_⟩⟩
    · rw [← hκA, kS_n (Or.inr (by decide)), kS_n (Or.inr (by decide)), kS_s, cp _ _ _ _ hp, kI_2, kI_2]
      exact hC.2.2.1 p hp
    · rw [← hκA, kS_n (Or.inr (by decide)), kS_s, cp _ _ _ _ hg, kS_n (Or.inl (by decide)), kI_2, kI_2]
      exact hC.2.2.2.1 g hg
  have aD : DC κA D := fun d hd => by
    rw [← hκA, kS_s, cp _ _ _ _ hd, kS_n (Or.inl (by decide)), kS_n (Or.inl (by decide)), kI_2, kI_2]
    exact hC.2.2.2.2.1 d hd
  have a60 : κA.2 3 6 0 = 0 := by
    rw [← hκA, kS_n (Or.inr (by decide)), kS_n (Or.inr (by decide)), kS_n (Or.inr (by decide)), kI_2, kI_2]
    exact h60
  clear hκA
  refine x_callV (pc := 66) (As := []) dX4_start_66 mX4_lookAround lk_4_67 hK.2.2.1 (k_lookAround (D := D) hK aS a60) rfl rfl (Nat.le_of_ble_eq_true rfl) ⟨by decide, by decide⟩ ⟨Nat.zero_le _, Nat.zero_le _⟩ (fun x μ3 hq3 => ?_)
  obtain ⟨κ3, rfl, rfl, q3, v3⟩ := hq3
  refine x_iconst (pc := 69) (v := 0) dX4_start_69 rfl ?_
  refine x_istore_n (pc := 70) (lv2 := [_, _, _, _]) dX4_start_70 (by decide) rfl rfl ?_
  have q5 : kq (stP tx) κ κ3 := qA.trans (q3.mono (fun a k z => Or.inl z.1))
  have hno : ∀ a k, (15 ≤ a ∧ k < 6) ∨ (a = tx ∧ k < 2) → ¬ stP tx a k := fun a k hak z => by
    rcases z with z | z | ⟨z1, z2⟩ <;> omega
  refine Lo n 0 κ3 (by omega) q5 ?_ ?_ (fun d hd => ?_) ⟨fun p hp => ⟨(aS.1 p hp).1, ?_⟩, fun g hg => ⟨(aS.2 g hg).1, ?_⟩⟩ v3 (fun x hx => absurd hx (by omega)) (fun x hx => ?_) ?_
  · rw [(q3 3 1 (fun z => by have := z.2; omega)).1]; exact a1
  · rw [(q3 3 2 (fun z => by have := z.2; omega)).1]; exact a2
  · rw [(q3 3 5 (fun z => by have := z.2; omega)).2]; exact aD d hd
  · rw [(q3 3 3 (fun z => by have := z.2; omega)).2]; exact (aS.1 p hp).2
  · rw [(q3 3 4 (fun z => by have := z.2; omega)).2]; exact (aS.2 g hg).2
  · obtain ⟨g1, g2⟩ := hC.2.2.2.2.2 x hx
    have g3 := hV x hx
    refine ⟨g1.kq q5 (fun k hk => hno _ _ (by omega)), ?_, ?_⟩
    · rw [(q5 (15 + x) 5 (hno _ _ (by omega))).1]; exact g2
    · have e := fun y pl gs => tV_kq (tx := tx) (tn := tn) (o := 15 + x) q5 (fun k hk => hno _ _ (by omega)) (fun k hk => hno _ _ (by omega)) y pl gs
      exact ⟨fun s hs => ⟨(e _ _ _).trans (g3.1 s hs).1, fun hs0 => (e _ _ _).trans ((g3.1 s hs).2 hs0)⟩, g3.2.1, fun c hc => (e _ _ _).trans (g3.2.2 c hc)⟩
  · intro x hx
    rw [(q5 tx 1 (hno _ _ (by omega))).2]
    exact ht x hx
end M86
