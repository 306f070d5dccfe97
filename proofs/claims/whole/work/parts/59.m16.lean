/-! the reference: a room that was seen, film -/
/-- the spot that a number tells -/
def spI (v : Int32) : Nat := if 0 ≤ v ∧ v ≤ 5 then nn v + 1 else 0
theorem sp_lt (v : Int32) : spI v < 7 := by
  unfold spI
  split
  · rename_i h
    obtain ⟨j, hj, e⟩ := ixB (n := 5) rfl h (by omega)
    rw [e, nn_nI (by omega)]
    omega
  · omega
/-- is it a room: the places that are taken by the first t things -/
def irD (kd sp : Nat → Nat) : Nat → Option Nat
  | 0 => some 0
  | t + 1 => match irD kd sp t with
    | none => none
    | some u => if sp t = 0 then some u else if stD (kd t) (sp t) = true ∧ utk u (sp t) = false then some (ust u (sp t)) else none
theorem ir_lt {kd sp : Nat → Nat} (h : ∀ t, sp t < 7) : ∀ t u, irD kd sp t = some u → u < 64
  | 0, u, e => by cases e; omega
  | t + 1, u, e => by
    rw [irD] at e
    cases hc : irD kd sp t with
    | none => rw [hc] at e; cases e
    | some w =>
      rw [hc] at e
      have hw := ir_lt h t w hc
      dsimp only at e
      split at e
      · cases e; exact hw
      · split at e
        · cases e
          exact (bits_a w hw (sp t) (h t)).2.2.1
        · cases e
theorem ir_none {kd sp : Nat → Nat} {t : Nat} (h : irD kd sp t = none) : ∀ m, irD kd sp (t + m) = none
  | 0 => h
  | m + 1 => by
    show irD kd sp (t + m + 1) = none
    rw [irD, ir_none h m]
/-- but for what the reference was told -/
def but47 (σ s : MS) : Prop := but 47 σ s
theorem bit01 : ∀ u, u < 64 → ∀ p, p < 6 → ((nI u >>> (nI p &&& 31)) &&& 1 = 0 ∨ (nI u >>> (nI p &&& 31)) &&& 1 = 1) := by decide +kernel
theorem RR_b {σ s : MS} {D : PD} {n r m : Nat} (h : RR σ D n r m) (hb : but 47 σ s) : RR s D n r m := by
  have hp : pq σ s := ⟨fun k _ => by rw [hb.1], fun k hk => hb.2.2 k (by unfold pa at hk; omega)⟩
  obtain ⟨h1, h2, h3, h4, h5⟩ := h
  refine ⟨h1.pq hp, by rw [hb.1]; exact h2, ?_, ?_, h5⟩
  · unfold rlO at h3 ⊢
    rw [hb.1, hb.2.2 2 (by decide), hb.2.2 1 (by decide)]
    exact h3
  · unfold TD SV at h4 ⊢
    rw [hb.2.2 1 (by decide), hb.2.2 12 (by decide), hb.2.2 13 (by decide), hb.2.2 11 (by decide)]
    exact h4
section M59
variable {Γ : Gm} {μ : Mem} {a : Ma} {σ : MS}
def shS (σ : MS) (s : Nat) (t : Nat) : Nat := spI (σ.2.2 55 (40 * s + t))
theorem c_isRoom (hM : MOK μ a) {D : PD} {n q : Nat} (h : RD σ D n) (hq : q < 4) : XM Γ zX12_isRoom 3 0 0 [.ref a.1, .int (nI q)] (MV μ a σ) (fun v μ2 => ∃ s : MS, μ2 = MV μ a s ∧ but 47 σ s ∧ ((irD (D 0) (shS σ q) n = none ∧ v = some (.int 0)) ∨ (irD (D 0) (shS σ q) n ≠ none ∧ v = some (.int 1) ∧ ∀ t, t < n → s.2.2 47 t = nI (shS σ q t) - 1))) := by
  refine XM.of 3 rfl (by decide) (Nat.le_of_ble_eq_true rfl) ?_
  have hn := h.1.1
  have Lo : ∀ (m t : Nat) (s : MS) (u : Nat) (z4 : Option Value), t + m = n → but 47 σ s → irD (D 0) (shS σ q) t = some u → (∀ t', t' < t → s.2.2 47 t' = nI (shS σ q t') - 1) → WA Γ zX12_isRoom (xrm 3 0 0) 0 0 0 0 (fun v μ2 => ∃ s : MS, μ2 = MV μ a s ∧ but 47 σ s ∧ ((irD (D 0) (shS σ q) n = none ∧ v = some (.int 0)) ∨ (irD (D 0) (shS σ q) n ≠ none ∧ v = some (.int 1) ∧ ∀ t, t < n → s.2.2 47 t = nI (shS σ q t) - 1))) 4 [some (.ref a.1), some (.int (nI q)), some (.int (nI u)), some (.int (nI t)), z4] [] (MV μ a s) := by
    intro m
    induction m with
    | zero =>
      intro t s u z4 ht hb hu h47
      obtain rfl : t = n := by omega
      have e15 : s.1 15 = nI t := by rw [hb.1]; exact h.2.1
      refine x_iload_n (pc := 4) dX12_isRoom_4 rfl ?_
      refine x_aload_n (pc := 5) dX12_isRoom_5 rfl ?_
      refine m_getI (pc := 6) hM dX12_isRoom_6 fk_12_106 (Or.inl rfl) ?_
      refine x_icmp_ge (pc := 9) (tgt := 90) dX12_isRoom_9 rfl (fun h_9 => ?_) (fun h_9 => absurd (by rw [e15]; exact Int32.le_refl _) h_9)
      refine x_iconst (pc := 90) (v := 1) dX12_isRoom_90 rfl ?_
      refine x_ireturn (pc := 91) dX12_isRoom_91 rfl (by first | rfl | exact bi_nz) ?_
      exact ⟨s, rfl, hb, Or.inr ⟨(by rw [hu]; exact fun z => by cases z), rfl, h47⟩⟩
    | succ m ih =>
      intro t s u z4 ht hb hu h47
      have e15 : s.1 15 = nI n := by rw [hb.1]; exact h.2.1
      have e55 : s.2.2 55 (40 * q + t) = σ.2.2 55 (40 * q + t) := by rw [hb.2.2 55 (by decide)]
      have e10 : s.2.2 10 t = nI (D 0 t) := by rw [hb.2.2 10 (by decide)]; exact (h.2.2.1 t (by omega)).1
      have hk0 := (h.1.2.1 t (by omega)).1
      have hu64 := ir_lt (fun _ => sp_lt _) t u hu
      have hst : irD (D 0) (shS σ q) (t + 1) = if shS σ q t = 0 then some u else if stD (D 0 t) (shS σ q t) = true ∧ utk u (shS σ q t) = false then some (ust u (shS σ q t)) else none := by
        rw [irD, hu]
      have hno : irD (D 0) (shS σ q) (t + 1) = none → irD (D 0) (shS σ q) n = none := fun z => by
        have := ir_none z (n - (t + 1))
        rwa [show t + 1 + (n - (t + 1)) = n by omega] at this
      have K : ∀ (s2 : MS) (v : Int32), s2 = tA s 47 t v → v = nI (shS σ q t) - 1 → but 47 σ s2 ∧ ∀ t', t' < t + 1 → s2.2.2 47 t' = nI (shS σ q t') - 1 := by
        intro s2 v e hv
        subst e
        refine ⟨hb.tA, fun t' ht' => ?_⟩
        show up2 s.2.2 47 t v 47 t' = _
        rcases Nat.lt_or_ge t' t with y | y
        · rw [up2_n (Or.inr (by omega)), h47 t' y]
        · obtain rfl : t' = t := by omega
          rw [up2_s, hv]
      have e22 : (tA s 47 t (nI (shS σ q t) - 1)).2.2 47 t = nI (shS σ q t) - 1 := up2_s
      by_cases hp : 0 ≤ σ.2.2 55 (40 * q + t) ∧ σ.2.2 55 (40 * q + t) ≤ 5
      · have hsp : shS σ q t = nn (σ.2.2 55 (40 * q + t)) + 1 := by unfold shS spI; rw [if_pos hp]
        obtain ⟨p, hp5, ep⟩ := ixB (n := 5) rfl hp (by omega)
        rw [ep, nn_nI (by omega)] at hsp
        have ev : nI p = nI (shS σ q t) - 1 := by rw [hsp, nI_pred]
        obtain ⟨K1, K2⟩ := K _ (nI p) rfl ev
        have b1 := bits_a u hu64 (p + 1) (by omega)
        rw [nI_pred] at b1
        have b2 := st_a (D 0 t) hk0 (p + 1) (by omega)
        rw [nI_pred] at b2
        have bsh : nI u ||| ((1 : Int32) <<< (nI p &&& 31)) = nI (ust u (p + 1)) := by
          have := b1.2.1
          rwa [if_neg (nI_m1 (by omega))] at this
        rw [hsp, if_neg (by omega)] at hst
        refine x_iload_n (pc := 4) dX12_isRoom_4 rfl ?_
        refine x_aload_n (pc := 5) dX12_isRoom_5 rfl ?_
        refine m_getI (pc := 6) hM dX12_isRoom_6 fk_12_106 (Or.inl rfl) ?_
        refine x_icmp_ge (pc := 9) (tgt := 90) dX12_isRoom_9 rfl (fun h_9 => absurd h_9 (by rw [e15]; exact lit_le t (by omega) (by omega))) (fun h_9 => ?_)
        refine x_aload_n (pc := 12) dX12_isRoom_12 rfl ?_
        refine m_getR (pc := 13) hM dX12_isRoom_13 fk_12_96 (Or.inr ⟨_, rfl⟩) (Or.inl (by decide)) ?_
        refine x_bipush (pc := 16) (v := 40) dX12_isRoom_16 rfl ?_
        refine x_iload_n (pc := 18) dX12_isRoom_18 rfl ?_
        refine x_imul (pc := 19) dX12_isRoom_19 ?_
        refine x_iload_n (pc := 20) dX12_isRoom_20 rfl ?_
        refine x_iadd (pc := 21) dX12_isRoom_21 ?_
        refine m_iald (pc := 22) hM dX12_isRoom_22 (i40 q t) (by show 40 * q + t < 160; omega) ?_
        rw [e55, ep]
        refine x_istore (pc := 23) (lv2 := [_, _, _, _, _]) dX12_isRoom_23 (by decide) rfl rfl ?_
        refine x_aload_n (pc := 25) dX12_isRoom_25 rfl ?_
        refine m_getR (pc := 26) hM dX12_isRoom_26 fk_12_74 (Or.inr ⟨_, rfl⟩) (Or.inl (by decide)) ?_
        refine x_iload_n (pc := 29) dX12_isRoom_29 rfl ?_
        refine x_iload (pc := 30) dX12_isRoom_30 rfl ?_
        refine x_callS (pc := 32) (As := [.int _]) dX12_isRoom_32 mX12_isPlace lk_12_127 (c_isPlace _) rfl rfl (Nat.le_of_ble_eq_true rfl) ⟨by decide, by decide⟩ ⟨Nat.zero_le _, Nat.zero_le _⟩ (k_rt ?_)
        refine x_if_eq (pc := 35) (tgt := 43) dX12_isRoom_35 rfl (fun h_35 => absurd h_35 (by rw [bi_t (by rw [← ep]; exact hp)]; decide)) (fun h_35 => ?_)
        refine x_iload (pc := 38) dX12_isRoom_38 rfl ?_
        refine x_goto (pc := 40) (tgt := 44) dX12_isRoom_40 rfl ?_
        refine m_iast (pc := 44) hM dX12_isRoom_44 (rfl) (by show t < 5; omega) ?_
        refine x_aload_n (pc := 45) dX12_isRoom_45 rfl ?_
        refine m_getR (pc := 46) hM dX12_isRoom_46 fk_12_74 (Or.inr ⟨_, rfl⟩) (Or.inl (by decide)) ?_
        refine x_iload_n (pc := 49) dX12_isRoom_49 rfl ?_
        refine m_iald (pc := 50) hM dX12_isRoom_50 (rfl) (by show t < 5; omega) ?_
        refine x_iconst (pc := 51) (v := -1) dX12_isRoom_51 rfl ?_
        refine x_icmp_eq (pc := 52) (tgt := 84) dX12_isRoom_52 rfl (fun h_52 => absurd h_52 (by show ¬ up2 s.2.2 47 t (nI p) 47 t = -1; rw [up2_s]; exact nI_m1 (by omega))) (fun h_52 => ?_)
        refine x_aload_n (pc := 55) dX12_isRoom_55 rfl ?_
        refine x_iload_n (pc := 56) dX12_isRoom_56 rfl ?_
        refine x_iload (pc := 57) dX12_isRoom_57 rfl ?_
        refine x_callV (pc := 59) (As := [.int _, .int _]) dX12_isRoom_59 mX12_stands lk_12_130 hM.1 (c_stands hM _ rfl (by omega)) rfl rfl (Nat.le_of_ble_eq_true rfl) ⟨by decide, by decide⟩ ⟨Nat.zero_le _, Nat.zero_le _⟩ (k_rt ?_)
        refine x_if_eq (pc := 62) (tgt := 75) dX12_isRoom_62 rfl (fun h_62 => ?_) (fun h_62 => ?_)
        · refine x_iconst (pc := 75) (v := 0) dX12_isRoom_75 rfl ?_
          refine x_ireturn (pc := 76) dX12_isRoom_76 rfl (by first | rfl | exact bi_nz) ?_
          refine ⟨_, rfl, K1, Or.inl ⟨hno ?_, rfl⟩⟩
          rw [hst, if_neg]
          rintro ⟨y1, y2⟩
          first
            | (have y := (b2.mp y1).resolve_left (by omega)
               exact y (by rw [← e10]; exact h_62))
            | (have y := (b1.1 (by omega)).mpr y2
               have z := h_72
               rw [y] at z
               exact absurd z (by decide))
        · refine x_iload_n (pc := 65) dX12_isRoom_65 rfl ?_
          refine x_iload (pc := 66) dX12_isRoom_66 rfl ?_
          refine x_ishr (pc := 68) dX12_isRoom_68 ?_
          refine x_iconst (pc := 69) (v := 1) dX12_isRoom_69 rfl ?_
          refine x_iand (pc := 70) dX12_isRoom_70 ?_
          refine x_iconst (pc := 71) (v := 1) dX12_isRoom_71 rfl ?_
          refine x_icmp_ne (pc := 72) (tgt := 77) dX12_isRoom_72 rfl (fun h_72 => ?_) (fun h_72 => ?_)
          · refine x_iload_n (pc := 77) dX12_isRoom_77 rfl ?_
            refine x_iconst (pc := 78) (v := 1) dX12_isRoom_78 rfl ?_
            refine x_iload (pc := 79) dX12_isRoom_79 rfl ?_
            refine x_ishl (pc := 81) dX12_isRoom_81 ?_
            refine x_ior (pc := 82) dX12_isRoom_82 ?_
            rw [bsh]
            refine x_istore_n (pc := 83) (lv2 := [_, _, _, _, _]) dX12_isRoom_83 (by decide) rfl rfl ?_
            refine x_iinc (pc := 84) (lv2 := [_, _, _, _, _]) dX12_isRoom_84 (by decide) rfl rfl (nI_1 _) rfl ?_
            refine x_goto (pc := 87) (tgt := 4) dX12_isRoom_87 rfl ?_
            refine ih (t + 1) _ _ _ (by omega) K1 ?_ K2
            rw [hst, if_pos]
            refine ⟨b2.mpr (Or.inr (fun y => h_62 (by show stI (s.2.2 10 t) (nI p) = 0; rw [e10]; exact y))), (b1.1 (by omega)).mp ?_⟩
            rcases bit01 u hu64 p (by omega) with y | y
            · exact y
            · exact absurd y h_72
          · refine x_iconst (pc := 75) (v := 0) dX12_isRoom_75 rfl ?_
            refine x_ireturn (pc := 76) dX12_isRoom_76 rfl (by first | rfl | exact bi_nz) ?_
            refine ⟨_, rfl, K1, Or.inl ⟨hno ?_, rfl⟩⟩
            rw [hst, if_neg]
            rintro ⟨y1, y2⟩
            first
              | (have y := (b2.mp y1).resolve_left (by omega)
                 exact y (by rw [← e10]; exact h_62))
              | (have y := (b1.1 (by omega)).mpr y2
                 have z := h_72
                 rw [y] at z
                 exact absurd z (by decide))
      · have hsp : shS σ q t = 0 := by unfold shS spI; rw [if_neg hp]
        have ev : (-1 : Int32) = nI (shS σ q t) - 1 := by rw [hsp]; rfl
        obtain ⟨K1, K2⟩ := K _ (-1) rfl ev
        rw [hsp, if_pos rfl] at hst
        refine x_iload_n (pc := 4) dX12_isRoom_4 rfl ?_
        refine x_aload_n (pc := 5) dX12_isRoom_5 rfl ?_
        refine m_getI (pc := 6) hM dX12_isRoom_6 fk_12_106 (Or.inl rfl) ?_
        refine x_icmp_ge (pc := 9) (tgt := 90) dX12_isRoom_9 rfl (fun h_9 => absurd h_9 (by rw [e15]; exact lit_le t (by omega) (by omega))) (fun h_9 => ?_)
        refine x_aload_n (pc := 12) dX12_isRoom_12 rfl ?_
        refine m_getR (pc := 13) hM dX12_isRoom_13 fk_12_96 (Or.inr ⟨_, rfl⟩) (Or.inl (by decide)) ?_
        refine x_bipush (pc := 16) (v := 40) dX12_isRoom_16 rfl ?_
        refine x_iload_n (pc := 18) dX12_isRoom_18 rfl ?_
        refine x_imul (pc := 19) dX12_isRoom_19 ?_
        refine x_iload_n (pc := 20) dX12_isRoom_20 rfl ?_
        refine x_iadd (pc := 21) dX12_isRoom_21 ?_
        refine m_iald (pc := 22) hM dX12_isRoom_22 (i40 q t) (by show 40 * q + t < 160; omega) ?_
        rw [e55]
        refine x_istore (pc := 23) (lv2 := [_, _, _, _, _]) dX12_isRoom_23 (by decide) rfl rfl ?_
        refine x_aload_n (pc := 25) dX12_isRoom_25 rfl ?_
        refine m_getR (pc := 26) hM dX12_isRoom_26 fk_12_74 (Or.inr ⟨_, rfl⟩) (Or.inl (by decide)) ?_
        refine x_iload_n (pc := 29) dX12_isRoom_29 rfl ?_
        refine x_iload (pc := 30) dX12_isRoom_30 rfl ?_
        refine x_callS (pc := 32) (As := [.int _]) dX12_isRoom_32 mX12_isPlace lk_12_127 (c_isPlace _) rfl rfl (Nat.le_of_ble_eq_true rfl) ⟨by decide, by decide⟩ ⟨Nat.zero_le _, Nat.zero_le _⟩ (k_rt ?_)
        refine x_if_eq (pc := 35) (tgt := 43) dX12_isRoom_35 rfl (fun h_35 => ?_) (fun h_35 => absurd (bi_f hp) h_35)
        refine x_iconst (pc := 43) (v := -1) dX12_isRoom_43 rfl ?_
        refine m_iast (pc := 44) hM dX12_isRoom_44 (rfl) (by show t < 5; omega) ?_
        refine x_aload_n (pc := 45) dX12_isRoom_45 rfl ?_
        refine m_getR (pc := 46) hM dX12_isRoom_46 fk_12_74 (Or.inr ⟨_, rfl⟩) (Or.inl (by decide)) ?_
        refine x_iload_n (pc := 49) dX12_isRoom_49 rfl ?_
        refine m_iald (pc := 50) hM dX12_isRoom_50 (rfl) (by show t < 5; omega) ?_
        refine x_iconst (pc := 51) (v := -1) dX12_isRoom_51 rfl ?_
        refine x_icmp_eq (pc := 52) (tgt := 84) dX12_isRoom_52 rfl (fun h_52 => ?_) (fun h_52 => absurd (by show up2 s.2.2 47 t (-1) 47 t = -1; exact up2_s) h_52)
        refine x_iinc (pc := 84) (lv2 := [_, _, _, _, _]) dX12_isRoom_84 (by decide) rfl rfl (nI_1 _) rfl ?_
        refine x_goto (pc := 87) (tgt := 4) dX12_isRoom_87 rfl ?_
        exact ih (t + 1) _ _ _ (by omega) K1 hst K2
  refine x_iconst (pc := 0) (v := 0) dX12_isRoom_0 rfl ?_
  refine x_istore_n (pc := 1) (lv2 := [_, _, _, _, _]) dX12_isRoom_1 (by decide) rfl rfl ?_
  refine x_iconst (pc := 2) (v := 0) dX12_isRoom_2 rfl ?_
  refine x_istore_n (pc := 3) (lv2 := [_, _, _, _, _]) dX12_isRoom_3 (by decide) rfl rfl ?_
  exact Lo n 0 σ 0 _ (by omega) but.rf rfl (fun _ z => absurd z (by omega))
def suD (D : PD) (sp : Nat → Nat) : Nat → Nat
  | 0 => 0
  | t + 1 => suD D sp t ||| ((if 0 < msD (D 0 t) (D 1 t) ∧ seeD D (D 2 t) (sp t) = false then 1 else 0) <<< D 2 t)
theorem or_b : ∀ x, x < 16 → ∀ b, b < 2 → ∀ i, i < 4 → nI x ||| (nI b <<< (nI i &&& 31)) = nI (x ||| (b <<< i)) ∧ (x ||| (b <<< i)) < 16 := by decide +kernel
theorem su_lt {D : PD} {sp : Nat → Nat} {n : Nat} (h : okD D n) : ∀ t, t ≤ 5 → suD D sp t < 16
  | 0, _ => by show 0 < 16; omega
  | t + 1, ht => (or_b _ (su_lt h t (by omega)) _ (by split <;> omega) _ (h.2.1 t (by omega)).2.2.1).2
/-- is it one of the best for these -/
def exP (D : PD) (n : Nat) (sp : Nat → Nat) (G : Nat) : Bool := bnD D sp G n == brC (bsD D n [G] (wasA D 9) 9 false 5)
def exC (D : PD) (n : Nat) (sp : Nat → Nat) : Nat → Nat
  | 0 => 0
  | G + 1 => exC D n sp G + (if exP D n sp G = true then 1 else 0)
def exF (D : PD) (n : Nat) (sp : Nat → Nat) : Nat → Nat
  | 0 => 0
  | G + 1 => if exF D n sp G = 0 ∧ exP D n sp G = true then G + 1 else exF D n sp G
theorem exC_le (D : PD) (n : Nat) (sp : Nat → Nat) : ∀ G, exC D n sp G ≤ G ∧ exF D n sp G ≤ G
  | 0 => ⟨Nat.le_refl _, Nat.le_refl _⟩
  | G + 1 => by
    have := exC_le D n sp G
    unfold exC exF
    split <;> split <;> omega
def snV (D : PD) (n : Nat) (sp : Nat → Nat) (y : Int32) : Int32 := if irD (D 0) sp n = none then -3 else if y = 2 then nI (suD D sp n) else if y = 0 then nI (exC D n sp 16) else nI (exF D n sp 16) - 1
def seenV (σ : MS) (D : PD) (n : Nat) (x y : Int32) : Int32 := if (0 ≤ x ∧ x ≤ 3) ∧ (0 ≤ y ∧ y ≤ 2) then (if σ.2.2 52 (nn x) = 0 then -11 else if ¬ σ.2.2 54 (nn x) = nI n then -2 else snV D n (shS σ (nn x)) y) else -2
theorem bn_b {σ : MS} {D : PD} {n i G : Nat} {sp : Nat → Nat} (h : RD σ D n) (hg : RG σ D n) (hG : G < 16) (hs : ∀ t, sp t < 7) (hi : i < n) : nI (bnD D sp G i) + bdI σ i (sp i) G = nI (bnD D sp G (i + 1)) := by
  rw [(bd_a h hg hi (hs i) hG).1, nI_add]
  rfl
theorem bn_l {D : PD} {n G : Nat} {sp : Nat → Nat} (h : okD D n) (hg : okG D n) (hG : G < 16) (hs : ∀ t, sp t < 7) : ∀ i, i ≤ n → bnD D sp G i ≤ 1300 * i
  | 0, _ => Nat.le_refl _
  | i + 1, hi => by
    have h1 := bn_l h hg hG hs i (by omega)
    have h2 := bd_le h hg (show i < n by omega) (hs i) hG
    show bnD D sp G i + bdD D i (sp i) G ≤ _
    omega
theorem c_seen (hM : MOK μ a) {D : PD} {n r m : Nat} (x y : Int32) (hR : RR σ D n r m) : XM Γ zX12_seen 52 0 0 [.ref a.1, .int x, .int y] (MV μ a σ) (fun v μ2 => ∃ s : MS, v = some (.int (seenV σ D n x y)) ∧ μ2 = MV μ a s ∧ pq σ s) := by
  refine XM.of 6 rfl (by decide) (Nat.le_of_ble_eq_true rfl) ?_
  have hn := hR.1.1.1
  have S : ∀ (q : Nat) (s : MS), x = nI q → q < 4 → y = 2 → pq σ s → RD s D n → (∀ t, t < n → s.2.2 47 t = nI (shS σ q t) - 1) → seenV σ D n x y = nI (suD D (shS σ q) n) → ∀ (m t : Nat) (z5 z6 z7 z8 : Option Value), t + m = n → WA Γ zX12_seen (xrm 52 0 0) 0 0 0 0 (fun v μ2 => ∃ s : MS, v = some (.int (seenV σ D n x y)) ∧ μ2 = MV μ a s ∧ pq σ s) 79 [some (.ref a.1), some (.int x), some (.int y), some (.int (nI (suD D (shS σ q) t))), some (.int (nI t)), z5, z6, z7, z8] [] (MV μ a s) := by
    intro q s hx hq hy hp h h47 hV m
    induction m with
    | zero =>
      intro t z5 z6 z7 z8 ht
      obtain rfl : t = n := by omega
      refine x_iload (pc := 79) dX12_seen_79 rfl ?_
      refine x_aload_n (pc := 81) dX12_seen_81 rfl ?_
      refine m_getI (pc := 82) hM dX12_seen_82 fk_12_106 (Or.inl rfl) ?_
      refine x_icmp_ge (pc := 85) (tgt := 140) dX12_seen_85 rfl (fun h_85 => ?_) (fun h_85 => absurd (by rw [h.2.1]; exact Int32.le_refl _) h_85)
      refine x_iload_n (pc := 140) dX12_seen_140 rfl ?_
      refine x_ireturn (pc := 141) dX12_seen_141 rfl rfl ?_
      exact ⟨s, by rw [hV], rfl, hp⟩
    | succ m ih =>
      intro t z5 z6 z7 z8 ht
      obtain ⟨h10, h11, h12, h14⟩ := h.2.2.1 t (by omega)
      obtain ⟨k1, k2, k3, k4⟩ := h.1.2.1 t (by omega)
      have e2 := see_a (s := shS σ q t) h k3 (sp_lt _)
      have e3 := ms_a (D 0 t) k1 (D 1 t) k2
      have hlt := su_lt (sp := shS σ q) h.1 t (by omega)
      have hst : suD D (shS σ q) (t + 1) = suD D (shS σ q) t ||| ((if 0 < msD (D 0 t) (D 1 t) ∧ seeD D (D 2 t) (shS σ q t) = false then 1 else 0) <<< D 2 t) := rfl
      have eo := fun b hb => (or_b _ hlt b hb (D 2 t) k3).1
      refine x_iload (pc := 79) dX12_seen_79 rfl ?_
      refine x_aload_n (pc := 81) dX12_seen_81 rfl ?_
      refine m_getI (pc := 82) hM dX12_seen_82 fk_12_106 (Or.inl rfl) ?_
      refine x_icmp_ge (pc := 85) (tgt := 140) dX12_seen_85 rfl (fun h_85 => absurd h_85 (by rw [h.2.1]; exact lit_le t (by omega) (by omega))) (fun h_85 => ?_)
      refine x_iload_n (pc := 88) dX12_seen_88 rfl ?_
      refine x_aload_n (pc := 89) dX12_seen_89 rfl ?_
      refine x_iload (pc := 90) dX12_seen_90 rfl ?_
      refine x_callV (pc := 92) (As := [.int _]) dX12_seen_92 mX12_missedOf lk_12_270 hM.1 (c_missedOf hM rfl (by omega)) rfl rfl (Nat.le_of_ble_eq_true rfl) ⟨by decide, by decide⟩ ⟨Nat.zero_le _, Nat.zero_le _⟩ (k_rt ?_)
      refine x_if_le (pc := 95) (tgt := 123) dX12_seen_95 rfl (fun h_95 => ?_) (fun h_95 => ?_)
      · refine x_iconst (pc := 123) (v := 0) dX12_seen_123 rfl ?_
        refine x_aload_n (pc := 124) dX12_seen_124 rfl ?_
        refine m_getR (pc := 125) hM dX12_seen_125 fk_12_38 (Or.inr ⟨_, rfl⟩) (Or.inl (by decide)) ?_
        refine x_iload (pc := 128) dX12_seen_128 rfl ?_
        refine m_iald (pc := 130) hM dX12_seen_130 (rfl) (by show t < 5; omega) ?_
        rw [h12]
        refine x_ishl (pc := 131) dX12_seen_131 ?_
        refine x_ior (pc := 132) dX12_seen_132 ?_
        first
          | rw [show nI (suD D (shS σ q) t) ||| ((1 : Int32) <<< (nI (D 2 t) &&& 31)) = nI (suD D (shS σ q) (t + 1)) by
              rw [hst, if_pos ⟨by
                have z := Int32.not_le.mp h_95
                rw [h10, h11, e3.1] at z
                exact (nI_ltI (a := 0) (by omega) (by omega)).mp z, e2.mp (by first | exact h_116 | exact Decidable.not_not.mp h_116)⟩]
              exact eo 1 (by omega)]
          | rw [show nI (suD D (shS σ q) t) ||| ((0 : Int32) <<< (nI (D 2 t) &&& 31)) = nI (suD D (shS σ q) (t + 1)) by
              rw [hst, if_neg (by
                rintro ⟨y1, y2⟩
                first
                  | exact h_116 (e2.mpr y2)
                  | (have z := h_95
                     rw [h10, h11, e3.1] at z
                     exact nI_nle y1 (by omega) z))]
              exact eo 0 (by omega)]
        refine x_istore_n (pc := 133) (lv2 := [_, _, _, _, _, _, _, _, _]) dX12_seen_133 (by decide) rfl rfl ?_
        refine x_iinc (pc := 134) (lv2 := [_, _, _, _, _, _, _, _, _]) dX12_seen_134 (by decide) rfl rfl (nI_1 _) rfl ?_
        refine x_goto (pc := 137) (tgt := 79) dX12_seen_137 rfl ?_
        exact ih (t + 1) _ _ _ _ (by omega)
      · refine x_aload_n (pc := 98) dX12_seen_98 rfl ?_
        refine x_aload_n (pc := 99) dX12_seen_99 rfl ?_
        refine m_getR (pc := 100) hM dX12_seen_100 fk_12_38 (Or.inr ⟨_, rfl⟩) (Or.inl (by decide)) ?_
        refine x_iload (pc := 103) dX12_seen_103 rfl ?_
        refine m_iald (pc := 105) hM dX12_seen_105 (rfl) (by show t < 5; omega) ?_
        rw [h12]
        refine x_aload_n (pc := 106) dX12_seen_106 rfl ?_
        refine m_getR (pc := 107) hM dX12_seen_107 fk_12_74 (Or.inr ⟨_, rfl⟩) (Or.inl (by decide)) ?_
        refine x_iload (pc := 110) dX12_seen_110 rfl ?_
        refine m_iald (pc := 112) hM dX12_seen_112 (rfl) (by show t < 5; omega) ?_
        rw [h47 t (by omega)]
        refine x_callV (pc := 113) (As := [.int _, .int _]) dX12_seen_113 mX12_doesSee lk_12_140 hM.1 (c_doesSeeS hM k3 (by have := sp_lt (σ.2.2 55 (40 * q + t)); unfold shS; omega)) rfl rfl (Nat.le_of_ble_eq_true rfl) ⟨by decide, by decide⟩ ⟨Nat.zero_le _, Nat.zero_le _⟩ (k_rt ?_)
        refine x_if_ne (pc := 116) (tgt := 123) dX12_seen_116 rfl (fun h_116 => ?_) (fun h_116 => ?_)
        · refine x_iconst (pc := 123) (v := 0) dX12_seen_123 rfl ?_
          refine x_aload_n (pc := 124) dX12_seen_124 rfl ?_
          refine m_getR (pc := 125) hM dX12_seen_125 fk_12_38 (Or.inr ⟨_, rfl⟩) (Or.inl (by decide)) ?_
          refine x_iload (pc := 128) dX12_seen_128 rfl ?_
          refine m_iald (pc := 130) hM dX12_seen_130 (rfl) (by show t < 5; omega) ?_
          rw [h12]
          refine x_ishl (pc := 131) dX12_seen_131 ?_
          refine x_ior (pc := 132) dX12_seen_132 ?_
          first
            | rw [show nI (suD D (shS σ q) t) ||| ((1 : Int32) <<< (nI (D 2 t) &&& 31)) = nI (suD D (shS σ q) (t + 1)) by
                rw [hst, if_pos ⟨by
                  have z := Int32.not_le.mp h_95
                  rw [h10, h11, e3.1] at z
                  exact (nI_ltI (a := 0) (by omega) (by omega)).mp z, e2.mp (by first | exact h_116 | exact Decidable.not_not.mp h_116)⟩]
                exact eo 1 (by omega)]
            | rw [show nI (suD D (shS σ q) t) ||| ((0 : Int32) <<< (nI (D 2 t) &&& 31)) = nI (suD D (shS σ q) (t + 1)) by
                rw [hst, if_neg (by
                  rintro ⟨y1, y2⟩
                  first
                    | exact h_116 (e2.mpr y2)
                    | (have z := h_95
                       rw [h10, h11, e3.1] at z
                       exact nI_nle y1 (by omega) z))]
                exact eo 0 (by omega)]
          refine x_istore_n (pc := 133) (lv2 := [_, _, _, _, _, _, _, _, _]) dX12_seen_133 (by decide) rfl rfl ?_
          refine x_iinc (pc := 134) (lv2 := [_, _, _, _, _, _, _, _, _]) dX12_seen_134 (by decide) rfl rfl (nI_1 _) rfl ?_
          refine x_goto (pc := 137) (tgt := 79) dX12_seen_137 rfl ?_
          exact ih (t + 1) _ _ _ _ (by omega)
        · refine x_iconst (pc := 119) (v := 1) dX12_seen_119 rfl ?_
          refine x_goto (pc := 120) (tgt := 124) dX12_seen_120 rfl ?_
          refine x_aload_n (pc := 124) dX12_seen_124 rfl ?_
          refine m_getR (pc := 125) hM dX12_seen_125 fk_12_38 (Or.inr ⟨_, rfl⟩) (Or.inl (by decide)) ?_
          refine x_iload (pc := 128) dX12_seen_128 rfl ?_
          refine m_iald (pc := 130) hM dX12_seen_130 (rfl) (by show t < 5; omega) ?_
          rw [h12]
          refine x_ishl (pc := 131) dX12_seen_131 ?_
          refine x_ior (pc := 132) dX12_seen_132 ?_
          first
            | rw [show nI (suD D (shS σ q) t) ||| ((1 : Int32) <<< (nI (D 2 t) &&& 31)) = nI (suD D (shS σ q) (t + 1)) by
                rw [hst, if_pos ⟨by
                  have z := Int32.not_le.mp h_95
                  rw [h10, h11, e3.1] at z
                  exact (nI_ltI (a := 0) (by omega) (by omega)).mp z, e2.mp (by first | exact h_116 | exact Decidable.not_not.mp h_116)⟩]
                exact eo 1 (by omega)]
            | rw [show nI (suD D (shS σ q) t) ||| ((0 : Int32) <<< (nI (D 2 t) &&& 31)) = nI (suD D (shS σ q) (t + 1)) by
                rw [hst, if_neg (by
                  rintro ⟨y1, y2⟩
                  first
                    | exact h_116 (e2.mpr y2)
                    | (have z := h_95
                       rw [h10, h11, e3.1] at z
                       exact nI_nle y1 (by omega) z))]
                exact eo 0 (by omega)]
          refine x_istore_n (pc := 133) (lv2 := [_, _, _, _, _, _, _, _, _]) dX12_seen_133 (by decide) rfl rfl ?_
          refine x_iinc (pc := 134) (lv2 := [_, _, _, _, _, _, _, _, _]) dX12_seen_134 (by decide) rfl rfl (nI_1 _) rfl ?_
          refine x_goto (pc := 137) (tgt := 79) dX12_seen_137 rfl ?_
          exact ih (t + 1) _ _ _ _ (by omega)
  have E : ∀ (q : Nat), x = nI q → q < 4 → ¬ y = 2 → (0 ≤ y ∧ y ≤ 2) → seenV σ D n x y = (if y = 0 then nI (exC D n (shS σ q) 16) else nI (exF D n (shS σ q) 16) - 1) → ∀ (m G : Nat) (s : MS) (z7 z8 : Option Value), G + m = 16 → pq σ s → RD s D n → RG s D n → SW s n 9 (wasA D 9) → (∀ t, t < n → s.2.2 47 t = nI (shS σ q t) - 1) → WA Γ zX12_seen (xrm 52 0 0) 0 0 0 0 (fun v μ2 => ∃ s : MS, v = some (.int (seenV σ D n x y)) ∧ μ2 = MV μ a s ∧ pq σ s) 151 [some (.ref a.1), some (.int x), some (.int y), some (.int 0), some (.int (nI (exC D n (shS σ q) G))), some (.int (nI (exF D n (shS σ q) G) - 1)), some (.int (nI G)), z7, z8] [] (MV μ a s) := by
    intro q hx hq hy hyB hV m
    induction m with
    | zero =>
      intro G s z7 z8 hG hp h hg hW h47
      obtain rfl : G = 16 := by omega
      refine x_iload (pc := 151) dX12_seen_151 rfl ?_
      refine x_bipush (pc := 153) (v := 16) dX12_seen_153 rfl ?_
      refine x_icmp_ge (pc := 155) (tgt := 236) dX12_seen_155 rfl (fun h_155 => ?_) (fun h_155 => absurd (by decide) h_155)
      refine x_iload_n (pc := 236) dX12_seen_236 rfl ?_
      refine x_if_ne (pc := 237) (tgt := 245) dX12_seen_237 rfl (fun h_237 => ?_) (fun h_237 => ?_)
      · refine x_iload (pc := 245) dX12_seen_245 rfl ?_
        refine x_ireturn (pc := 247) dX12_seen_247 rfl rfl ?_
        refine ⟨s, ?_, rfl, hp⟩
        rw [hV]
        first
          | rw [if_pos (by first | exact h_237 | exact Decidable.not_not.mp h_237)]
          | rw [if_neg (by exact h_237)]
      · refine x_iload (pc := 240) dX12_seen_240 rfl ?_
        refine x_goto (pc := 242) (tgt := 247) dX12_seen_242 rfl ?_
        refine x_ireturn (pc := 247) dX12_seen_247 rfl rfl ?_
        refine ⟨s, ?_, rfl, hp⟩
        rw [hV]
        first
          | rw [if_pos (by first | exact h_237 | exact Decidable.not_not.mp h_237)]
          | rw [if_neg (by exact h_237)]
    | succ m ih =>
      intro G s z7 z8 hG hp h hg hW h47
      have hG16 : G < 16 := by omega
      have Li : ∀ (m2 t : Nat), t + m2 = n → WA Γ zX12_seen (xrm 52 0 0) 0 0 0 0 (fun v μ2 => ∃ s : MS, v = some (.int (seenV σ D n x y)) ∧ μ2 = MV μ a s ∧ pq σ s) 164 [some (.ref a.1), some (.int x), some (.int y), some (.int 0), some (.int (nI (exC D n (shS σ q) G))), some (.int (nI (exF D n (shS σ q) G) - 1)), some (.int (nI G)), some (.int (nI (bnD D (shS σ q) G t))), some (.int (nI t))] [] (MV μ a s) := by
        intro m2
        induction m2 with
        | zero =>
          intro t ht
          obtain rfl : t = n := by omega
          have hC := exC_le D t (shS σ q) G
          have hst : exC D t (shS σ q) (G + 1) = exC D t (shS σ q) G + (if exP D t (shS σ q) G = true then 1 else 0) := rfl
          have hsf : exF D t (shS σ q) (G + 1) = if exF D t (shS σ q) G = 0 ∧ exP D t (shS σ q) G = true then G + 1 else exF D t (shS σ q) G := rfl
          have hl1 := bn_l h.1 hg.1 hG16 (fun t => sp_lt (σ.2.2 55 (40 * q + t))) t (Nat.le_refl t)
          have hl2 := (bsD_ok (aw := 9) (was := wasA D 9) (ct := false) (M := 5) h.1 hg.1 (okL1 hG16) (by show 1 ≤ 7; omega) (bsD_ne h.1.1)).1
          have hn5 := h.1.1
          have exI : (nI (bnD D (shS σ q) G t) = nI (brC (bsD D t [G] (wasA D 9) 9 false 5))) ↔ exP D t (shS σ q) G = true := by
            unfold exP
            rw [beq_iff_eq]
            exact nI_eq (by show bnD D (fun i => spI (σ.2.2 55 (40 * q + i))) G t < _; omega) (by omega)
          refine x_iload (pc := 164) dX12_seen_164 rfl ?_
          refine x_aload_n (pc := 166) dX12_seen_166 rfl ?_
          refine m_getI (pc := 167) hM dX12_seen_167 fk_12_106 (Or.inl rfl) ?_
          refine x_icmp_ge (pc := 170) (tgt := 201) dX12_seen_170 rfl (fun h_170 => ?_) (fun h_170 => absurd (by rw [h.2.1]; exact Int32.le_refl _) h_170)
          refine x_iload (pc := 201) dX12_seen_201 rfl ?_
          refine x_aload_n (pc := 203) dX12_seen_203 rfl ?_
          refine x_iload (pc := 204) dX12_seen_204 rfl ?_
          refine x_callV (pc := 206) (As := [.int _]) dX12_seen_206 mX12_leastBad lk_12_358 hM.1 (c_leastBad hM h hg hW hG16) rfl rfl (Nat.le_of_ble_eq_true rfl) ⟨by decide, by decide⟩ ⟨Nat.zero_le _, Nat.zero_le _⟩ (fun v μ2 hq => ?_)
          obtain ⟨s4, rfl, rfl, hs4⟩ := hq
          refine x_icmp_ne (pc := 209) (tgt := 230) dX12_seen_209 rfl (fun h_209 => ?_) (fun h_209 => ?_)
          · refine x_iinc (pc := 230) (lv2 := [_, _, _, _, _, _, _, _, _]) dX12_seen_230 (by decide) rfl rfl (nI_1 _) rfl ?_
            refine x_goto (pc := 233) (tgt := 151) dX12_seen_233 rfl ?_
            have IH := ih (G + 1) s4 (some (.int (nI (bnD D (shS σ q) G t)))) (some (.int (nI t))) (by omega) (hp.trans (pq.sq hs4.1.sq)) (h.sq hs4.1.sq) (hg.sq hs4.1.sq) (hW.sf hs4.1) (fun i hi => by rw [hs4.1.2.2 47 (by decide) (by decide) (by decide)]; exact h47 i hi)
            rw [hst, hsf] at IH
            first
              | (rw [if_neg (fun z => h_209 (exI.mpr z)), if_neg (fun z => h_209 (exI.mpr z.2))] at IH
                 exact IH)
              | (have z := exI.mp (by first | exact h_209 | exact Decidable.not_not.mp h_209)
                 rw [if_pos z] at IH
                 have hz : exF D t (shS σ q) G = 0 := by
                   have y1 := h_218
                   rw [show (-1 : Int32) = nI 0 - 1 from rfl] at y1
                   exact (nI_eq (a := exF D t (shS σ q) G) (b := 0) (by omega) (by omega)).mp (by
                     have := congrArg (fun w => w + 1) y1
                     simpa using this)
                 rw [if_pos ⟨hz, z⟩, nI_pred] at IH
                 exact IH)
              | (have z := exI.mp (by first | exact h_209 | exact Decidable.not_not.mp h_209)
                 rw [if_pos z] at IH
                 rw [if_neg (fun w => h_218 (by rw [w.1]; rfl))] at IH
                 exact IH)
          · refine x_iinc (pc := 212) (lv2 := [_, _, _, _, _, _, _, _, _]) dX12_seen_212 (by decide) rfl rfl (nI_1 _) rfl ?_
            refine x_iload (pc := 215) dX12_seen_215 rfl ?_
            refine x_iconst (pc := 217) (v := -1) dX12_seen_217 rfl ?_
            refine x_icmp_ne (pc := 218) (tgt := 226) dX12_seen_218 rfl (fun h_218 => ?_) (fun h_218 => ?_)
            · refine x_iload (pc := 226) dX12_seen_226 rfl ?_
              refine x_istore (pc := 228) (lv2 := [_, _, _, _, _, _, _, _, _]) dX12_seen_228 (by decide) rfl rfl ?_
              refine x_iinc (pc := 230) (lv2 := [_, _, _, _, _, _, _, _, _]) dX12_seen_230 (by decide) rfl rfl (nI_1 _) rfl ?_
              refine x_goto (pc := 233) (tgt := 151) dX12_seen_233 rfl ?_
              have IH := ih (G + 1) s4 (some (.int (nI (bnD D (shS σ q) G t)))) (some (.int (nI t))) (by omega) (hp.trans (pq.sq hs4.1.sq)) (h.sq hs4.1.sq) (hg.sq hs4.1.sq) (hW.sf hs4.1) (fun i hi => by rw [hs4.1.2.2 47 (by decide) (by decide) (by decide)]; exact h47 i hi)
              rw [hst, hsf] at IH
              first
                | (rw [if_neg (fun z => h_209 (exI.mpr z)), if_neg (fun z => h_209 (exI.mpr z.2))] at IH
                   exact IH)
                | (have z := exI.mp (by first | exact h_209 | exact Decidable.not_not.mp h_209)
                   rw [if_pos z] at IH
                   have hz : exF D t (shS σ q) G = 0 := by
                     have y1 := h_218
                     rw [show (-1 : Int32) = nI 0 - 1 from rfl] at y1
                     exact (nI_eq (a := exF D t (shS σ q) G) (b := 0) (by omega) (by omega)).mp (by
                       have := congrArg (fun w => w + 1) y1
                       simpa using this)
                   rw [if_pos ⟨hz, z⟩, nI_pred] at IH
                   exact IH)
                | (have z := exI.mp (by first | exact h_209 | exact Decidable.not_not.mp h_209)
                   rw [if_pos z] at IH
                   rw [if_neg (fun w => h_218 (by rw [w.1]; rfl))] at IH
                   exact IH)
            · refine x_iload (pc := 221) dX12_seen_221 rfl ?_
              refine x_goto (pc := 223) (tgt := 228) dX12_seen_223 rfl ?_
              refine x_istore (pc := 228) (lv2 := [_, _, _, _, _, _, _, _, _]) dX12_seen_228 (by decide) rfl rfl ?_
              refine x_iinc (pc := 230) (lv2 := [_, _, _, _, _, _, _, _, _]) dX12_seen_230 (by decide) rfl rfl (nI_1 _) rfl ?_
              refine x_goto (pc := 233) (tgt := 151) dX12_seen_233 rfl ?_
              have IH := ih (G + 1) s4 (some (.int (nI (bnD D (shS σ q) G t)))) (some (.int (nI t))) (by omega) (hp.trans (pq.sq hs4.1.sq)) (h.sq hs4.1.sq) (hg.sq hs4.1.sq) (hW.sf hs4.1) (fun i hi => by rw [hs4.1.2.2 47 (by decide) (by decide) (by decide)]; exact h47 i hi)
              rw [hst, hsf] at IH
              first
                | (rw [if_neg (fun z => h_209 (exI.mpr z)), if_neg (fun z => h_209 (exI.mpr z.2))] at IH
                   exact IH)
                | (have z := exI.mp (by first | exact h_209 | exact Decidable.not_not.mp h_209)
                   rw [if_pos z] at IH
                   have hz : exF D t (shS σ q) G = 0 := by
                     have y1 := h_218
                     rw [show (-1 : Int32) = nI 0 - 1 from rfl] at y1
                     exact (nI_eq (a := exF D t (shS σ q) G) (b := 0) (by omega) (by omega)).mp (by
                       have := congrArg (fun w => w + 1) y1
                       simpa using this)
                   rw [if_pos ⟨hz, z⟩, nI_pred] at IH
                   exact IH)
                | (have z := exI.mp (by first | exact h_209 | exact Decidable.not_not.mp h_209)
                   rw [if_pos z] at IH
                   rw [if_neg (fun w => h_218 (by rw [w.1]; rfl))] at IH
                   exact IH)
        | succ m2 ih2 =>
          intro t ht
          have eb := bn_b h hg hG16 (fun t => sp_lt (σ.2.2 55 (40 * q + t))) (show t < n by omega)
          refine x_iload (pc := 164) dX12_seen_164 rfl ?_
          refine x_aload_n (pc := 166) dX12_seen_166 rfl ?_
          refine m_getI (pc := 167) hM dX12_seen_167 fk_12_106 (Or.inl rfl) ?_
          refine x_icmp_ge (pc := 170) (tgt := 201) dX12_seen_170 rfl (fun h_170 => absurd h_170 (by rw [h.2.1]; exact lit_le t (by omega) (by omega))) (fun h_170 => ?_)
          refine x_iload (pc := 173) dX12_seen_173 rfl ?_
          refine x_aload_n (pc := 175) dX12_seen_175 rfl ?_
          refine x_iload (pc := 176) dX12_seen_176 rfl ?_
          refine x_aload_n (pc := 178) dX12_seen_178 rfl ?_
          refine m_getR (pc := 179) hM dX12_seen_179 fk_12_74 (Or.inr ⟨_, rfl⟩) (Or.inl (by decide)) ?_
          refine x_iload (pc := 182) dX12_seen_182 rfl ?_
          refine m_iald (pc := 184) hM dX12_seen_184 (rfl) (by show t < 5; omega) ?_
          refine x_iconst (pc := 185) (v := 1) dX12_seen_185 rfl ?_
          refine x_iadd (pc := 186) dX12_seen_186 ?_
          rw [h47 t (by omega), (sp_nI (show shS σ q t ≤ 6 by have := sp_lt (σ.2.2 55 (40 * q + t)); unfold shS; omega)).2]
          refine x_iload (pc := 187) dX12_seen_187 rfl ?_
          refine x_callV (pc := 189) (As := [.int _, .int _, .int _]) dX12_seen_189 mX12_badOf lk_12_285 hM.1 (c_badOf hM (by omega) (by have := sp_lt (σ.2.2 55 (40 * q + t)); unfold shS; omega) hG16 h.gv) rfl rfl (Nat.le_of_ble_eq_true rfl) ⟨by decide, by decide⟩ ⟨Nat.zero_le _, Nat.zero_le _⟩ (k_rt ?_)
          refine x_iadd (pc := 192) dX12_seen_192 ?_
          rw [show nI (bnD D (shS σ q) G t) + bdI s t (shS σ q t) G = nI (bnD D (shS σ q) G (t + 1)) from eb]
          refine x_istore (pc := 193) (lv2 := [_, _, _, _, _, _, _, _, _]) dX12_seen_193 (by decide) rfl rfl ?_
          refine x_iinc (pc := 195) (lv2 := [_, _, _, _, _, _, _, _, _]) dX12_seen_195 (by decide) rfl rfl (nI_1 _) rfl ?_
          refine x_goto (pc := 198) (tgt := 164) dX12_seen_198 rfl ?_
          exact ih2 (t + 1) (by omega)
      refine x_iload (pc := 151) dX12_seen_151 rfl ?_
      refine x_bipush (pc := 153) (v := 16) dX12_seen_153 rfl ?_
      refine x_icmp_ge (pc := 155) (tgt := 236) dX12_seen_155 rfl (fun h_155 => absurd h_155 (lit_le (n := 16) G (by omega) (by omega))) (fun h_155 => ?_)
      refine x_iconst (pc := 158) (v := 0) dX12_seen_158 rfl ?_
      refine x_istore (pc := 159) (lv2 := [_, _, _, _, _, _, _, _, _]) dX12_seen_159 (by decide) rfl rfl ?_
      refine x_iconst (pc := 161) (v := 0) dX12_seen_161 rfl ?_
      refine x_istore (pc := 162) (lv2 := [_, _, _, _, _, _, _, _, _]) dX12_seen_162 (by decide) rfl rfl ?_
      exact Li n 0 (by omega)
  refine x_iload_n (pc := 0) dX12_seen_0 rfl ?_
  refine x_callS (pc := 1) (As := [.int _]) dX12_seen_1 mX12_isSheet lk_12_352 (c_isSheet _) rfl rfl (Nat.le_of_ble_eq_true rfl) ⟨by decide, by decide⟩ ⟨Nat.zero_le _, Nat.zero_le _⟩ (k_rt ?_)
  refine x_if_eq (pc := 4) (tgt := 19) dX12_seen_4 rfl (fun h_4 => ?_) (fun h_4 => ?_)
  · refine x_bipush (pc := 19) (v := -2) dX12_seen_19 rfl ?_
    refine x_ireturn (pc := 21) dX12_seen_21 rfl rfl ?_
    refine ⟨σ, ?_, rfl, pq.rf⟩
    unfold seenV
    rw [if_neg]
    rintro ⟨q1, q2⟩
    first
      | exact absurd h_4 (by rw [bi_t q1]; decide)
      | exact absurd h_16 (by rw [bi_t q2]; decide)
  · refine x_iload_n (pc := 7) dX12_seen_7 rfl ?_
    refine x_i2l (pc := 8) dX12_seen_8 ?_
    refine x_lconst (pc := 9) (v := 0) dX12_seen_9 rfl ?_
    refine x_ldc2 (pc := 10) dX12_seen_10 kc_12_339 ?_
    refine x_callS (pc := 13) (As := [.long _, .long _, .long _]) dX12_seen_13 mX12_in lk_12_109 (c_inI 0 2) rfl rfl (Nat.le_of_ble_eq_true rfl) ⟨by decide, by decide⟩ ⟨Nat.zero_le _, Nat.zero_le _⟩ (k_rt ?_)
    refine x_if_ne (pc := 16) (tgt := 22) dX12_seen_16 rfl (fun h_16 => ?_) (fun h_16 => ?_)
    · have hvv : (0 ≤ x ∧ x ≤ 3) ∧ (0 ≤ y ∧ y ≤ 2) := ⟨bi_n0 h_4, bi_n0 h_16⟩
      obtain ⟨q, hq, hx⟩ := i3 hvv.1
      refine x_aload_n (pc := 22) dX12_seen_22 rfl ?_
      refine m_getR (pc := 23) hM dX12_seen_23 fk_12_86 (Or.inr ⟨_, rfl⟩) (Or.inr rfl) ?_
      refine x_iload_n (pc := 26) dX12_seen_26 rfl ?_
      refine m_zald (pc := 27) hM dX12_seen_27 (hx) (hq) ?_
      refine x_if_ne (pc := 28) (tgt := 34) dX12_seen_28 rfl (fun h_28 => ?_) (fun h_28 => ?_)
      · refine x_aload_n (pc := 34) dX12_seen_34 rfl ?_
        refine m_getR (pc := 35) hM dX12_seen_35 fk_12_93 (Or.inr ⟨_, rfl⟩) (Or.inl (by decide)) ?_
        refine x_iload_n (pc := 38) dX12_seen_38 rfl ?_
        refine m_iald (pc := 39) hM dX12_seen_39 (hx) (by show q < 4; omega) ?_
        refine x_aload_n (pc := 40) dX12_seen_40 rfl ?_
        refine m_getI (pc := 41) hM dX12_seen_41 fk_12_106 (Or.inl rfl) ?_
        refine x_icmp_eq (pc := 44) (tgt := 50) dX12_seen_44 rfl (fun h_44 => ?_) (fun h_44 => ?_)
        · refine x_aload_n (pc := 50) dX12_seen_50 rfl ?_
          refine x_iload_n (pc := 51) dX12_seen_51 rfl ?_
          have hV : seenV σ D n x y = snV D n (shS σ q) y := by
            unfold seenV
            rw [if_pos hvv, hx, nn_nI (by omega), if_neg h_28, if_neg (by rw [← hR.1.2.1]; first | exact h_44 | exact fun z => z h_44)]
          subst hx
          refine x_callV (pc := 52) (As := [.int _]) dX12_seen_52 mX12_isRoom lk_12_355 hM.1 (c_isRoom hM hR.1 hq) rfl rfl (Nat.le_of_ble_eq_true rfl) ⟨by decide, by decide⟩ ⟨Nat.zero_le _, Nat.zero_le _⟩ (fun v μ2 hq2 => ?_)
          obtain ⟨s1, rfl, hb1, hir⟩ := hq2
          have hp1 : pq σ s1 := ⟨fun k _ => by rw [hb1.1], fun k hk => hb1.2.2 k (by unfold pa at hk; omega)⟩
          have hirv : (irD (D 0) (shS σ q) n = none ∧ v = some (.int 0)) ∨ (irD (D 0) (shS σ q) n ≠ none ∧ v = some (.int 1)) := by
            rcases hir with z | z
            · exact Or.inl z
            · exact Or.inr ⟨z.1, z.2.1⟩
          obtain ⟨bv, rfl⟩ : ∃ bv : Int32, v = some (.int bv) := by
            rcases hirv with z | z
            · exact ⟨_, z.2⟩
            · exact ⟨_, z.2⟩
          refine x_if_ne (pc := 55) (tgt := 61) dX12_seen_55 rfl (fun h_55 => ?_) (fun h_55 => ?_)
          · have hir2 := hir.resolve_left (fun z => h_55 (by
              have := Option.some.inj z.2
              injection this))
            have h47 := hir2.2.2
            have hR1 : RR s1 D n r m := RR_b hR hb1
            rw [snV, if_neg hir2.1] at hV
            refine x_aload_n (pc := 61) dX12_seen_61 rfl ?_
            refine x_callV (pc := 62) (As := []) dX12_seen_62 mX12_gathers lk_12_311 hM.1 (c_gatherD hM hR1) rfl rfl (Nat.le_of_ble_eq_true rfl) ⟨by decide, by decide⟩ ⟨Nat.zero_le _, Nat.zero_le _⟩ (fun v μ2 hq => ?_)
            obtain ⟨s0, rfl, rfl, hgk, h1, h2, h3⟩ := hq
            obtain ⟨hW, hfq⟩ := SW_fn (aw := 9) h1 h3
            have hp5 : pq σ (it f_fn 5 s0) := hp1.trans ((pq.gk hgk).trans (pq.sq hfq))
            have h475 : ∀ t, t < n → (it f_fn 5 s0).2.2 47 t = nI (shS σ q t) - 1 := fun t ht => by
              rw [hfq.2.2 47 (by omega), hgk.2 47 (by decide) (by decide) (by decide)]
              exact h47 t ht
            refine x_aload_n (pc := 65) dX12_seen_65 rfl ?_
            refine x_callV (pc := 66) (As := []) dX12_seen_66 mX12_fromNow lk_12_317 hM.1 (c_fromNow hM) rfl rfl (Nat.le_of_ble_eq_true rfl) ⟨by decide, by decide⟩ ⟨Nat.zero_le _, Nat.zero_le _⟩ (k_rv ?_)
            refine x_iconst (pc := 69) (v := 0) dX12_seen_69 rfl ?_
            refine x_istore_n (pc := 70) (lv2 := [_, _, _, _, _, _, _, _, _]) dX12_seen_70 (by decide) rfl rfl ?_
            refine x_iload_n (pc := 71) dX12_seen_71 rfl ?_
            refine x_iconst (pc := 72) (v := 2) dX12_seen_72 rfl ?_
            refine x_icmp_ne (pc := 73) (tgt := 142) dX12_seen_73 rfl (fun h_73 => ?_) (fun h_73 => ?_)
            · refine x_iconst (pc := 142) (v := 0) dX12_seen_142 rfl ?_
              refine x_istore (pc := 143) (lv2 := [_, _, _, _, _, _, _, _, _]) dX12_seen_143 (by decide) rfl rfl ?_
              refine x_iconst (pc := 145) (v := -1) dX12_seen_145 rfl ?_
              refine x_istore (pc := 146) (lv2 := [_, _, _, _, _, _, _, _, _]) dX12_seen_146 (by decide) rfl rfl ?_
              refine x_iconst (pc := 148) (v := 0) dX12_seen_148 rfl ?_
              refine x_istore (pc := 149) (lv2 := [_, _, _, _, _, _, _, _, _]) dX12_seen_149 (by decide) rfl rfl ?_
              rw [if_neg (by exact h_73)] at hV
              exact E q rfl hq (by exact h_73) hvv.2 hV 16 0 _ _ _ (by omega) hp5 (h1.sq hfq) (h2.sq hfq) hW h475
            · refine x_iconst (pc := 76) (v := 0) dX12_seen_76 rfl ?_
              refine x_istore (pc := 77) (lv2 := [_, _, _, _, _, _, _, _, _]) dX12_seen_77 (by decide) rfl rfl ?_
              have hy2 : y = 2 := by first | exact h_73 | exact Decidable.not_not.mp h_73
              rw [if_pos hy2] at hV
              exact S q _ rfl hq hy2 hp5 (h1.sq hfq) h475 hV n 0 _ _ _ _ (by omega)
          · refine x_bipush (pc := 58) (v := -3) dX12_seen_58 rfl ?_
            refine x_ireturn (pc := 60) dX12_seen_60 rfl rfl ?_
            refine ⟨s1, ?_, rfl, hp1⟩
            rcases hir with z | z
            · rw [hV, snV, if_pos z.1]
            · exact absurd (by first | exact h_55 | exact Decidable.not_not.mp h_55) (show ¬ bv = 0 by
                have := Option.some.inj z.2.1
                injection this with e
                rw [e]; decide)
        · refine x_bipush (pc := 47) (v := -2) dX12_seen_47 rfl ?_
          refine x_ireturn (pc := 49) dX12_seen_49 rfl rfl ?_
          refine ⟨σ, ?_, rfl, pq.rf⟩
          unfold seenV
          rw [if_pos hvv, hx, nn_nI (by omega), if_neg h_28, if_pos (by rw [← hR.1.2.1]; exact h_44)]
      · refine x_bipush (pc := 31) (v := -11) dX12_seen_31 rfl ?_
        refine x_ireturn (pc := 33) dX12_seen_33 rfl rfl ?_
        refine ⟨σ, ?_, rfl, pq.rf⟩
        unfold seenV
        rw [if_pos hvv, hx, nn_nI (by omega), if_pos (by first | exact h_28 | exact Decidable.not_not.mp h_28)]
    · refine x_bipush (pc := 19) (v := -2) dX12_seen_19 rfl ?_
      refine x_ireturn (pc := 21) dX12_seen_21 rfl rfl ?_
      refine ⟨σ, ?_, rfl, pq.rf⟩
      unfold seenV
      rw [if_neg]
      rintro ⟨q1, q2⟩
      first
        | exact absurd h_4 (by rw [bi_t q1]; decide)
        | exact absurd h_16 (by rw [bi_t q2]; decide)
end M59
