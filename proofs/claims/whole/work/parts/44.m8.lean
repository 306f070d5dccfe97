/-! the reference: how bad things are -/
section M44
variable {Γ : Gm} {μ : Mem} {a : Ma} {σ : MS}
/-- whether a guest sees a spot (0: nowhere) -/
def seS (σ : MS) (g s : Nat) : Int32 := if s = 0 then 0 else seI σ g (s - 1)
theorem seS_b (σ : MS) (g s : Nat) : seS σ g s = 0 ∨ seS σ g s = 1 := by
  unfold seS
  split
  · exact Or.inl rfl
  · exact seI_b σ g (s - 1)
theorem c_doesSeeS (hM : MOK μ a) {g s : Nat} (hg : g < 4) (hs : s ≤ 6) : XM Γ zX12_doesSee 1 0 0 [.ref a.1, .int (nI g), .int (nI s - 1)] (MV μ a σ) (rt (.int (seS σ g s)) (MV μ a σ)) := by
  cases s with
  | zero => exact c_doesSeeN hM (nI g)
  | succ s =>
    rw [nI_pred]
    exact c_doesSee hM rfl hg rfl (by omega)
def gbt (G g : Int32) : Int32 := (G >>> (g &&& 31)) &&& 1
def gvO (σ : MS) : Prop := ∀ i, i < 5 → ∃ g, g < 4 ∧ σ.2.2 12 i = nI g
def tb0 (σ : MS) (i s : Nat) (G : Int32) : Int32 := if gbt G (σ.2.2 12 i) = 1 ∧ seS σ (nn (σ.2.2 12 i)) s = 0 then msI (σ.2.2 10 i) (σ.2.2 11 i) else 0
def tbs (σ : MS) (i s : Nat) (G : Int32) : Nat → Int32
  | 0 => tb0 σ i s G
  | g + 1 => tbs σ i s G g + (if gbt G (nI g) = 1 ∧ ¬ nI g = σ.2.2 12 i ∧ ¬ seS σ g s = 0 then ofI (σ.2.2 10 i) (σ.2.2 11 i) (σ.2.2 12 i) (nI g) else 0)
theorem c_timesBad (hM : MOK μ a) {i s : Nat} (G : Int32) (hi : i < 5) (hs : s ≤ 6) (hv : gvO σ) : XM Γ zX12_timesBad 2 0 0 [.ref a.1, .int (nI i), .int (nI s - 1), .int G] (MV μ a σ) (rt (.int (tbs σ i s G 4)) (MV μ a σ)) := by
  refine XM.of 3 rfl (by decide) (Nat.le_of_ble_eq_true rfl) ?_
  obtain ⟨gv, hgv, eg⟩ := hv i hi
  have L : ∀ (m g : Nat), g + m = 4 → WA Γ zX12_timesBad (xrm 2 0 0) 0 0 0 0 (rt (.int (tbs σ i s G 4)) (MV μ a σ)) 42 [some (.ref a.1), some (.int (nI i)), some (.int (nI s - 1)), some (.int G), some (.int (nI gv)), some (.int (tbs σ i s G g)), some (.int (nI g))] [] (MV μ a σ) := by
    intro m
    induction m with
    | zero =>
      intro g hg
      obtain rfl : g = 4 := by omega
      refine x_iload (pc := 42) dX12_timesBad_42 rfl ?_
      refine x_iconst (pc := 44) (v := 4) dX12_timesBad_44 rfl ?_
      refine x_icmp_ge (pc := 45) (tgt := 97) dX12_timesBad_45 rfl (fun h_45 => ?_) (fun h_45 => absurd (by decide) h_45)
      refine x_iload (pc := 97) dX12_timesBad_97 rfl ?_
      refine x_ireturn (pc := 99) dX12_timesBad_99 rfl rfl ?_
      exact ⟨rfl, rfl⟩
    | succ m ih =>
      intro g hg
      refine x_iload (pc := 42) dX12_timesBad_42 rfl ?_
      refine x_iconst (pc := 44) (v := 4) dX12_timesBad_44 rfl ?_
      refine x_icmp_ge (pc := 45) (tgt := 97) dX12_timesBad_45 rfl (fun h_45 => absurd h_45 (lit_le (n := 4) g (by omega) (by omega))) (fun h_45 => ?_)
      refine x_iload (pc := 48) dX12_timesBad_48 rfl ?_
      refine x_iload_n (pc := 50) dX12_timesBad_50 rfl ?_
      refine x_iload (pc := 51) dX12_timesBad_51 rfl ?_
      refine x_ishr (pc := 53) dX12_timesBad_53 ?_
      refine x_iconst (pc := 54) (v := 1) dX12_timesBad_54 rfl ?_
      refine x_iand (pc := 55) dX12_timesBad_55 ?_
      refine x_iconst (pc := 56) (v := 1) dX12_timesBad_56 rfl ?_
      refine x_icmp_ne (pc := 57) (tgt := 87) dX12_timesBad_57 rfl (fun h_57 => ?_) (fun h_57 => ?_)
      · refine x_iconst (pc := 87) (v := 0) dX12_timesBad_87 rfl ?_
        refine x_iadd (pc := 88) dX12_timesBad_88 ?_
        refine x_istore (pc := 89) (lv2 := [_, _, _, _, _, _, _]) dX12_timesBad_89 (by decide) rfl rfl ?_
        refine x_iinc (pc := 91) (lv2 := [_, _, _, _, _, _, _]) dX12_timesBad_91 (by decide) rfl rfl (nI_1 _) rfl ?_
        refine x_goto (pc := 94) (tgt := 42) dX12_timesBad_94 rfl ?_
        have e : tbs σ i s G (g + 1) = tbs σ i s G g + (if gbt G (nI g) = 1 ∧ ¬ nI g = σ.2.2 12 i ∧ ¬ seS σ g s = 0 then ofI (σ.2.2 10 i) (σ.2.2 11 i) (σ.2.2 12 i) (nI g) else 0) := rfl
        first
          | rw [if_neg (by exact fun z => h_57 z.1)] at e
          | rw [if_neg (by exact fun z => z.2.1 (by rw [eg]; exact h_64))] at e
          | rw [if_neg (by exact fun z => z.2.2 h_74)] at e
          | rw [if_pos (by exact ⟨by first | exact h_57 | exact Decidable.not_not.mp h_57, by rw [eg]; exact h_64, h_74⟩)] at e
        rw [← e]
        exact ih (g + 1) (by omega)
      · refine x_iload (pc := 60) dX12_timesBad_60 rfl ?_
        refine x_iload (pc := 62) dX12_timesBad_62 rfl ?_
        refine x_icmp_eq (pc := 64) (tgt := 87) dX12_timesBad_64 rfl (fun h_64 => ?_) (fun h_64 => ?_)
        · refine x_iconst (pc := 87) (v := 0) dX12_timesBad_87 rfl ?_
          refine x_iadd (pc := 88) dX12_timesBad_88 ?_
          refine x_istore (pc := 89) (lv2 := [_, _, _, _, _, _, _]) dX12_timesBad_89 (by decide) rfl rfl ?_
          refine x_iinc (pc := 91) (lv2 := [_, _, _, _, _, _, _]) dX12_timesBad_91 (by decide) rfl rfl (nI_1 _) rfl ?_
          refine x_goto (pc := 94) (tgt := 42) dX12_timesBad_94 rfl ?_
          have e : tbs σ i s G (g + 1) = tbs σ i s G g + (if gbt G (nI g) = 1 ∧ ¬ nI g = σ.2.2 12 i ∧ ¬ seS σ g s = 0 then ofI (σ.2.2 10 i) (σ.2.2 11 i) (σ.2.2 12 i) (nI g) else 0) := rfl
          first
            | rw [if_neg (by exact fun z => h_57 z.1)] at e
            | rw [if_neg (by exact fun z => z.2.1 (by rw [eg]; exact h_64))] at e
            | rw [if_neg (by exact fun z => z.2.2 h_74)] at e
            | rw [if_pos (by exact ⟨by first | exact h_57 | exact Decidable.not_not.mp h_57, by rw [eg]; exact h_64, h_74⟩)] at e
          rw [← e]
          exact ih (g + 1) (by omega)
        · refine x_aload_n (pc := 67) dX12_timesBad_67 rfl ?_
          refine x_iload (pc := 68) dX12_timesBad_68 rfl ?_
          refine x_iload_n (pc := 70) dX12_timesBad_70 rfl ?_
          refine x_callV (pc := 71) (As := [.int _, .int _]) dX12_timesBad_71 mX12_doesSee lk_12_140 hM.1 (c_doesSeeS hM (by omega) hs) rfl rfl (Nat.le_of_ble_eq_true rfl) ⟨by decide, by decide⟩ ⟨Nat.zero_le _, Nat.zero_le _⟩ (k_rt ?_)
          refine x_if_eq (pc := 74) (tgt := 87) dX12_timesBad_74 rfl (fun h_74 => ?_) (fun h_74 => ?_)
          · refine x_iconst (pc := 87) (v := 0) dX12_timesBad_87 rfl ?_
            refine x_iadd (pc := 88) dX12_timesBad_88 ?_
            refine x_istore (pc := 89) (lv2 := [_, _, _, _, _, _, _]) dX12_timesBad_89 (by decide) rfl rfl ?_
            refine x_iinc (pc := 91) (lv2 := [_, _, _, _, _, _, _]) dX12_timesBad_91 (by decide) rfl rfl (nI_1 _) rfl ?_
            refine x_goto (pc := 94) (tgt := 42) dX12_timesBad_94 rfl ?_
            have e : tbs σ i s G (g + 1) = tbs σ i s G g + (if gbt G (nI g) = 1 ∧ ¬ nI g = σ.2.2 12 i ∧ ¬ seS σ g s = 0 then ofI (σ.2.2 10 i) (σ.2.2 11 i) (σ.2.2 12 i) (nI g) else 0) := rfl
            first
              | rw [if_neg (by exact fun z => h_57 z.1)] at e
              | rw [if_neg (by exact fun z => z.2.1 (by rw [eg]; exact h_64))] at e
              | rw [if_neg (by exact fun z => z.2.2 h_74)] at e
              | rw [if_pos (by exact ⟨by first | exact h_57 | exact Decidable.not_not.mp h_57, by rw [eg]; exact h_64, h_74⟩)] at e
            rw [← e]
            exact ih (g + 1) (by omega)
          · refine x_aload_n (pc := 77) dX12_timesBad_77 rfl ?_
            refine x_iload_n (pc := 78) dX12_timesBad_78 rfl ?_
            refine x_iload (pc := 79) dX12_timesBad_79 rfl ?_
            refine x_callV (pc := 81) (As := [.int _, .int _]) dX12_timesBad_81 mX12_offendsOf lk_12_273 hM.1 (c_offendsOf hM _ rfl hi) rfl rfl (Nat.le_of_ble_eq_true rfl) ⟨by decide, by decide⟩ ⟨Nat.zero_le _, Nat.zero_le _⟩ (k_rt ?_)
            refine x_goto (pc := 84) (tgt := 88) dX12_timesBad_84 rfl ?_
            refine x_iadd (pc := 88) dX12_timesBad_88 ?_
            refine x_istore (pc := 89) (lv2 := [_, _, _, _, _, _, _]) dX12_timesBad_89 (by decide) rfl rfl ?_
            refine x_iinc (pc := 91) (lv2 := [_, _, _, _, _, _, _]) dX12_timesBad_91 (by decide) rfl rfl (nI_1 _) rfl ?_
            refine x_goto (pc := 94) (tgt := 42) dX12_timesBad_94 rfl ?_
            have e : tbs σ i s G (g + 1) = tbs σ i s G g + (if gbt G (nI g) = 1 ∧ ¬ nI g = σ.2.2 12 i ∧ ¬ seS σ g s = 0 then ofI (σ.2.2 10 i) (σ.2.2 11 i) (σ.2.2 12 i) (nI g) else 0) := rfl
            first
              | rw [if_neg (by exact fun z => h_57 z.1)] at e
              | rw [if_neg (by exact fun z => z.2.1 (by rw [eg]; exact h_64))] at e
              | rw [if_neg (by exact fun z => z.2.2 h_74)] at e
              | rw [if_pos (by exact ⟨by first | exact h_57 | exact Decidable.not_not.mp h_57, by rw [eg]; exact h_64, h_74⟩)] at e
            rw [← e]
            exact ih (g + 1) (by omega)
  refine x_aload_n (pc := 0) dX12_timesBad_0 rfl ?_
  refine m_getR (pc := 1) hM dX12_timesBad_1 fk_12_38 (Or.inr ⟨_, rfl⟩) (Or.inl (by decide)) ?_
  refine x_iload_n (pc := 4) dX12_timesBad_4 rfl ?_
  refine m_iald (pc := 5) hM dX12_timesBad_5 rfl (by exact hi) ?_
  rw [eg]
  refine x_istore (pc := 6) (lv2 := [_, _, _, _, _, _, _]) dX12_timesBad_6 (by decide) rfl rfl ?_
  refine x_iload_n (pc := 8) dX12_timesBad_8 rfl ?_
  refine x_iload (pc := 9) dX12_timesBad_9 rfl ?_
  refine x_ishr (pc := 11) dX12_timesBad_11 ?_
  refine x_iconst (pc := 12) (v := 1) dX12_timesBad_12 rfl ?_
  refine x_iand (pc := 13) dX12_timesBad_13 ?_
  refine x_iconst (pc := 14) (v := 1) dX12_timesBad_14 rfl ?_
  refine x_icmp_ne (pc := 15) (tgt := 36) dX12_timesBad_15 rfl (fun h_15 => ?_) (fun h_15 => ?_)
  · refine x_iconst (pc := 36) (v := 0) dX12_timesBad_36 rfl ?_
    refine x_istore (pc := 37) (lv2 := [_, _, _, _, _, _, _]) dX12_timesBad_37 (by decide) rfl rfl ?_
    refine x_iconst (pc := 39) (v := 0) dX12_timesBad_39 rfl ?_
    refine x_istore (pc := 40) (lv2 := [_, _, _, _, _, _, _]) dX12_timesBad_40 (by decide) rfl rfl ?_
    have e : tbs σ i s G 0 = (if gbt G (σ.2.2 12 i) = 1 ∧ seS σ (nn (σ.2.2 12 i)) s = 0 then msI (σ.2.2 10 i) (σ.2.2 11 i) else 0) := rfl
    rw [eg, nn_nI (by omega)] at e
    first
      | rw [if_neg (by exact fun z => h_15 z.1)] at e
      | rw [if_neg (by exact fun z => h_25 z.2)] at e
      | rw [if_pos (by exact ⟨by first | exact h_15 | exact Decidable.not_not.mp h_15, by first | exact h_25 | exact Decidable.not_not.mp h_25⟩)] at e
    have L0 := L 4 0 (by omega)
    rw [e] at L0
    exact L0
  · refine x_aload_n (pc := 18) dX12_timesBad_18 rfl ?_
    refine x_iload (pc := 19) dX12_timesBad_19 rfl ?_
    refine x_iload_n (pc := 21) dX12_timesBad_21 rfl ?_
    refine x_callV (pc := 22) (As := [.int _, .int _]) dX12_timesBad_22 mX12_doesSee lk_12_140 hM.1 (c_doesSeeS hM hgv hs) rfl rfl (Nat.le_of_ble_eq_true rfl) ⟨by decide, by decide⟩ ⟨Nat.zero_le _, Nat.zero_le _⟩ (k_rt ?_)
    refine x_if_ne (pc := 25) (tgt := 36) dX12_timesBad_25 rfl (fun h_25 => ?_) (fun h_25 => ?_)
    · refine x_iconst (pc := 36) (v := 0) dX12_timesBad_36 rfl ?_
      refine x_istore (pc := 37) (lv2 := [_, _, _, _, _, _, _]) dX12_timesBad_37 (by decide) rfl rfl ?_
      refine x_iconst (pc := 39) (v := 0) dX12_timesBad_39 rfl ?_
      refine x_istore (pc := 40) (lv2 := [_, _, _, _, _, _, _]) dX12_timesBad_40 (by decide) rfl rfl ?_
      have e : tbs σ i s G 0 = (if gbt G (σ.2.2 12 i) = 1 ∧ seS σ (nn (σ.2.2 12 i)) s = 0 then msI (σ.2.2 10 i) (σ.2.2 11 i) else 0) := rfl
      rw [eg, nn_nI (by omega)] at e
      first
        | rw [if_neg (by exact fun z => h_15 z.1)] at e
        | rw [if_neg (by exact fun z => h_25 z.2)] at e
        | rw [if_pos (by exact ⟨by first | exact h_15 | exact Decidable.not_not.mp h_15, by first | exact h_25 | exact Decidable.not_not.mp h_25⟩)] at e
      have L0 := L 4 0 (by omega)
      rw [e] at L0
      exact L0
    · refine x_aload_n (pc := 28) dX12_timesBad_28 rfl ?_
      refine x_iload_n (pc := 29) dX12_timesBad_29 rfl ?_
      refine x_callV (pc := 30) (As := [.int _]) dX12_timesBad_30 mX12_missedOf lk_12_270 hM.1 (c_missedOf hM rfl hi) rfl rfl (Nat.le_of_ble_eq_true rfl) ⟨by decide, by decide⟩ ⟨Nat.zero_le _, Nat.zero_le _⟩ (k_rt ?_)
      refine x_goto (pc := 33) (tgt := 37) dX12_timesBad_33 rfl ?_
      refine x_istore (pc := 37) (lv2 := [_, _, _, _, _, _, _]) dX12_timesBad_37 (by decide) rfl rfl ?_
      refine x_iconst (pc := 39) (v := 0) dX12_timesBad_39 rfl ?_
      refine x_istore (pc := 40) (lv2 := [_, _, _, _, _, _, _]) dX12_timesBad_40 (by decide) rfl rfl ?_
      have e : tbs σ i s G 0 = (if gbt G (σ.2.2 12 i) = 1 ∧ seS σ (nn (σ.2.2 12 i)) s = 0 then msI (σ.2.2 10 i) (σ.2.2 11 i) else 0) := rfl
      rw [eg, nn_nI (by omega)] at e
      first
        | rw [if_neg (by exact fun z => h_15 z.1)] at e
        | rw [if_neg (by exact fun z => h_25 z.2)] at e
        | rw [if_pos (by exact ⟨by first | exact h_15 | exact Decidable.not_not.mp h_15, by first | exact h_25 | exact Decidable.not_not.mp h_25⟩)] at e
      have L0 := L 4 0 (by omega)
      rw [e] at L0
      exact L0
def bdI (σ : MS) (i s G : Nat) : Int32 := σ.2.2 33 (5 * i + bc G) * tbs σ i s (nI G) 4 + σ.2.2 31 (7 * i + s)
theorem bc_le {G : Nat} (h : G < 16) : bc G ≤ 4 := by unfold bc; omega
theorem i7 (i k : Nat) : (7 : Int32) * nI i + nI k = nI (7 * i + k) := by rw [show (7 : Int32) = nI 7 from rfl, pk_mul, nI_add]
theorem i5m (i k : Nat) : (5 : Int32) * nI i + nI k = nI (5 * i + k) := by rw [show (5 : Int32) = nI 5 from rfl, pk_mul, nI_add]
theorem c_badOf (hM : MOK μ a) {i s G : Nat} (hi : i < 5) (hs : s ≤ 6) (hG : G < 16) (hv : gvO σ) : XM Γ zX12_badOf 3 0 0 [.ref a.1, .int (nI i), .int (nI s), .int (nI G)] (MV μ a σ) (rt (.int (bdI σ i s G)) (MV μ a σ)) := by
  refine XM.of 0 rfl (by decide) (Nat.le_of_ble_eq_true rfl) ?_
  refine x_aload_n (pc := 0) dX12_badOf_0 rfl ?_
  refine m_getR (pc := 1) hM dX12_badOf_1 fk_12_53 (Or.inr ⟨_, rfl⟩) (Or.inl (by decide)) ?_
  refine x_iconst (pc := 4) (v := 5) dX12_badOf_4 rfl ?_
  refine x_iload_n (pc := 5) dX12_badOf_5 rfl ?_
  refine x_imul (pc := 6) dX12_badOf_6 ?_
  refine x_iload_n (pc := 7) dX12_badOf_7 rfl ?_
  refine x_callS (pc := 8) (As := [.int _]) dX12_badOf_8 mX12_bitsOf lk_12_276 (c_bitsOf hG) rfl rfl (Nat.le_of_ble_eq_true rfl) ⟨by decide, by decide⟩ ⟨Nat.zero_le _, Nat.zero_le _⟩ (k_rt ?_)
  refine x_iadd (pc := 11) dX12_badOf_11 ?_
  refine m_iald (pc := 12) hM dX12_badOf_12 (i5m i (bc G)) (by show 5 * i + bc G < 25; have := bc_le hG; omega) ?_
  refine x_aload_n (pc := 13) dX12_badOf_13 rfl ?_
  refine x_iload_n (pc := 14) dX12_badOf_14 rfl ?_
  refine x_iload_n (pc := 15) dX12_badOf_15 rfl ?_
  refine x_iconst (pc := 16) (v := 1) dX12_badOf_16 rfl ?_
  refine x_isub (pc := 17) dX12_badOf_17 ?_
  refine x_iload_n (pc := 18) dX12_badOf_18 rfl ?_
  refine x_callV (pc := 19) (As := [.int _, .int _, .int _]) dX12_badOf_19 mX12_timesBad lk_12_279 hM.1 (c_timesBad hM _ hi hs hv) rfl rfl (Nat.le_of_ble_eq_true rfl) ⟨by decide, by decide⟩ ⟨Nat.zero_le _, Nat.zero_le _⟩ (k_rt ?_)
  refine x_imul (pc := 22) dX12_badOf_22 ?_
  refine x_aload_n (pc := 23) dX12_badOf_23 rfl ?_
  refine m_getR (pc := 24) hM dX12_badOf_24 fk_12_47 (Or.inr ⟨_, rfl⟩) (Or.inl (by decide)) ?_
  refine x_bipush (pc := 27) (v := 7) dX12_badOf_27 rfl ?_
  refine x_iload_n (pc := 29) dX12_badOf_29 rfl ?_
  refine x_imul (pc := 30) dX12_badOf_30 ?_
  refine x_iload_n (pc := 31) dX12_badOf_31 rfl ?_
  refine x_iadd (pc := 32) dX12_badOf_32 ?_
  refine m_iald (pc := 33) hM dX12_badOf_33 (i7 i s) (by show 7 * i + s < 35; omega) ?_
  refine x_iadd (pc := 34) dX12_badOf_34 ?_
  refine x_ireturn (pc := 35) dX12_badOf_35 rfl rfl ?_
  exact ⟨rfl, rfl⟩
def f_ad (G i : Nat) : Nat → MS → MS := fun k s => tA s 34 (7 * i + k) (s.2.2 34 (7 * i + k) + bdI s i k G)
def f_aD (G : Nat) : Nat → MS → MS := fun i s => it (f_ad G i) 7 s
/-- all but one array is as it was -/
def but (k0 : Nat) (σ s : MS) : Prop := s.1 = σ.1 ∧ s.2.1 = σ.2.1 ∧ ∀ k, k ≠ k0 → s.2.2 k = σ.2.2 k
theorem but.rf {k0 : Nat} {σ : MS} : but k0 σ σ := ⟨rfl, rfl, fun _ _ => rfl⟩
theorem but.tA {k0 i : Nat} {v : Int32} {σ s : MS} (h : but k0 σ s) : but k0 σ (tA s k0 i v) := ⟨h.1, h.2.1, fun k hk => (tA_n hk).trans (h.2.2 k hk)⟩
theorem but_it {k0 : Nat} {f : Nat → MS → MS} {σ : MS} (hf : ∀ j s, but k0 σ s → but k0 σ (f j s)) : ∀ (n : Nat) (s : MS), but k0 σ s → but k0 σ (it f n s)
  | 0, _, h => h
  | n + 1, s, h => hf n _ (but_it hf n s h)
theorem but_ad {σ : MS} {G i : Nat} : ∀ j s, but 34 σ s → but 34 σ (f_ad G i j s) := fun _ _ h => h.tA
theorem but_aD {σ : MS} {G : Nat} : ∀ j s, but 34 σ s → but 34 σ (f_aD G j s) := fun _ s h => but_it but_ad 7 s h
theorem gvO.but {σ s : MS} {k0 : Nat} (h : gvO σ) (hb : but k0 σ s) (h12 : k0 ≠ 12) : gvO s := fun i hi => by rw [hb.2.2 12 (fun e => h12 e.symm)]; exact h i hi
theorem c_addsDay (hM : MOK μ a) {G n : Nat} (hG : G < 16) (h15 : σ.1 15 = nI n) (hn : n ≤ 5) (hv : gvO σ) : XM Γ zX12_addsDay 4 0 0 [.ref a.1, .int (nI G)] (MV μ a σ) (rv (MV μ a (it (f_aD G) n σ))) := by
  refine XM.of 2 rfl (by decide) (Nat.le_of_ble_eq_true rfl) ?_
  have Lo : ∀ (m i : Nat) (z : Option Value), i + m = n → WA Γ zX12_addsDay (xrm 4 0 0) 0 0 0 0 (rv (MV μ a (it (f_aD G) n σ))) 2 [some (.ref a.1), some (.int (nI G)), some (.int (nI i)), z] [] (MV μ a (it (f_aD G) i σ)) := by
    intro m
    induction m with
    | zero =>
      intro i z hi
      obtain rfl : i = n := by omega
      have hb : but 34 σ (it (f_aD G) i σ) := but_it but_aD i σ but.rf
      refine x_iload_n (pc := 2) dX12_addsDay_2 rfl ?_
      refine x_aload_n (pc := 3) dX12_addsDay_3 rfl ?_
      refine m_getI (pc := 4) hM dX12_addsDay_4 fk_12_106 (Or.inl rfl) ?_
      refine x_icmp_ge (pc := 7) (tgt := 51) dX12_addsDay_7 rfl (fun h_7 => ?_) (fun h_7 => absurd (by rw [hb.1, h15]; exact Int32.le_refl _) h_7)
      refine x_return (pc := 51) dX12_addsDay_51 rfl ?_
      exact ⟨rfl, rfl⟩
    | succ m ih =>
      intro i z hi
      have hb : but 34 σ (it (f_aD G) i σ) := but_it but_aD i σ but.rf
      have Li : ∀ (m2 k : Nat), k + m2 = 7 → WA Γ zX12_addsDay (xrm 4 0 0) 0 0 0 0 (rv (MV μ a (it (f_aD G) n σ))) 12 [some (.ref a.1), some (.int (nI G)), some (.int (nI i)), some (.int (nI k))] [] (MV μ a (it (f_ad G i) k (it (f_aD G) i σ))) := by
        intro m2
        induction m2 with
        | zero =>
          intro k hk
          obtain rfl : k = 7 := by omega
          refine x_iload_n (pc := 12) dX12_addsDay_12 rfl ?_
          refine x_bipush (pc := 13) (v := 7) dX12_addsDay_13 rfl ?_
          refine x_icmp_ge (pc := 15) (tgt := 45) dX12_addsDay_15 rfl (fun h_15 => ?_) (fun h_15 => absurd (by decide) h_15)
          refine x_iinc (pc := 45) (lv2 := [_, _, _, _]) dX12_addsDay_45 (by decide) rfl rfl (nI_1 _) rfl ?_
          refine x_goto (pc := 48) (tgt := 2) dX12_addsDay_48 rfl ?_
          exact ih (i + 1) _ (by omega)
        | succ m2 ih2 =>
          intro k hk
          have hb2 : but 34 σ (it (f_ad G i) k (it (f_aD G) i σ)) := but_it but_ad k _ hb
          refine x_iload_n (pc := 12) dX12_addsDay_12 rfl ?_
          refine x_bipush (pc := 13) (v := 7) dX12_addsDay_13 rfl ?_
          refine x_icmp_ge (pc := 15) (tgt := 45) dX12_addsDay_15 rfl (fun h_15 => absurd h_15 (lit_le (n := 7) k (by omega) (by omega))) (fun h_15 => ?_)
          refine x_aload_n (pc := 18) dX12_addsDay_18 rfl ?_
          refine m_getR (pc := 19) hM dX12_addsDay_19 fk_12_56 (Or.inr ⟨_, rfl⟩) (Or.inl (by decide)) ?_
          refine x_bipush (pc := 22) (v := 7) dX12_addsDay_22 rfl ?_
          refine x_iload_n (pc := 24) dX12_addsDay_24 rfl ?_
          refine x_imul (pc := 25) dX12_addsDay_25 ?_
          refine x_iload_n (pc := 26) dX12_addsDay_26 rfl ?_
          refine x_iadd (pc := 27) dX12_addsDay_27 ?_
          refine x_dup2_11 (pc := 28) dX12_addsDay_28 rfl rfl ?_
          refine m_iald (pc := 29) hM dX12_addsDay_29 (i7 i k) (by show 7 * i + k < 35; omega) ?_
          refine x_aload_n (pc := 30) dX12_addsDay_30 rfl ?_
          refine x_iload_n (pc := 31) dX12_addsDay_31 rfl ?_
          refine x_iload_n (pc := 32) dX12_addsDay_32 rfl ?_
          refine x_iload_n (pc := 33) dX12_addsDay_33 rfl ?_
          refine x_callV (pc := 34) (As := [.int _, .int _, .int _]) dX12_addsDay_34 mX12_badOf lk_12_285 hM.1 (c_badOf hM (by omega) (by omega) hG (hv.but hb2 (by decide))) rfl rfl (Nat.le_of_ble_eq_true rfl) ⟨by decide, by decide⟩ ⟨Nat.zero_le _, Nat.zero_le _⟩ (k_rt ?_)
          refine x_iadd (pc := 37) dX12_addsDay_37 ?_
          refine m_iast (pc := 38) hM dX12_addsDay_38 (i7 i k) (by show 7 * i + k < 35; omega) ?_
          refine x_iinc (pc := 39) (lv2 := [_, _, _, _]) dX12_addsDay_39 (by decide) rfl rfl (nI_1 _) rfl ?_
          refine x_goto (pc := 42) (tgt := 12) dX12_addsDay_42 rfl ?_
          exact ih2 (k + 1) (by omega)
      refine x_iload_n (pc := 2) dX12_addsDay_2 rfl ?_
      refine x_aload_n (pc := 3) dX12_addsDay_3 rfl ?_
      refine m_getI (pc := 4) hM dX12_addsDay_4 fk_12_106 (Or.inl rfl) ?_
      refine x_icmp_ge (pc := 7) (tgt := 51) dX12_addsDay_7 rfl (fun h_7 => absurd h_7 (by rw [hb.1, h15]; exact lit_le (n := n) i (by omega) (by omega))) (fun h_7 => ?_)
      refine x_iconst (pc := 10) (v := 0) dX12_addsDay_10 rfl ?_
      refine x_istore_n (pc := 11) (lv2 := [_, _, _, _]) dX12_addsDay_11 (by decide) rfl rfl ?_
      exact Li 7 0 (by omega)
  refine x_iconst (pc := 0) (v := 0) dX12_addsDay_0 rfl ?_
  refine x_istore_n (pc := 1) (lv2 := [_, _, _, _]) dX12_addsDay_1 (by decide) rfl rfl ?_
  exact Lo n 0 _ (by omega)
def puO (σ : MS) : Prop := ∀ i, i < 5 → ∃ s, s ≤ 6 ∧ σ.2.2 14 i = nI s - 1
def sp (x : Int32) : Nat := nn (x + 1)
theorem sp_nI {s : Nat} (h : s ≤ 6) : sp (nI s - 1) = s ∧ nI s - 1 + 1 = nI s := by
  have e : (nI s - 1 + 1 : Int32) = nI s := Int32.sub_add_cancel _ _
  exact ⟨by rw [sp, e, nn_nI (by omega)], e⟩
def bnI (σ : MS) (G : Nat) : Nat → Int32
  | 0 => 0
  | i + 1 => bnI σ G i + bdI σ i (sp (σ.2.2 14 i)) G
theorem c_badNow (hM : MOK μ a) {G n : Nat} (hG : G < 16) (h15 : σ.1 15 = nI n) (hn : n ≤ 5) (hv : gvO σ) (hp : puO σ) : XM Γ zX12_badNow 4 0 0 [.ref a.1, .int (nI G)] (MV μ a σ) (rt (.int (bnI σ G n)) (MV μ a σ)) := by
  refine XM.of 2 rfl (by decide) (Nat.le_of_ble_eq_true rfl) ?_
  have L : ∀ (m i : Nat), i + m = n → WA Γ zX12_badNow (xrm 4 0 0) 0 0 0 0 (rt (.int (bnI σ G n)) (MV μ a σ)) 4 [some (.ref a.1), some (.int (nI G)), some (.int (bnI σ G i)), some (.int (nI i))] [] (MV μ a σ) := by
    intro m
    induction m with
    | zero =>
      intro i hi
      obtain rfl : i = n := by omega
      refine x_iload_n (pc := 4) dX12_badNow_4 rfl ?_
      refine x_aload_n (pc := 5) dX12_badNow_5 rfl ?_
      refine m_getI (pc := 6) hM dX12_badNow_6 fk_12_106 (Or.inl rfl) ?_
      refine x_icmp_ge (pc := 9) (tgt := 35) dX12_badNow_9 rfl (fun h_9 => ?_) (fun h_9 => absurd (by rw [h15]; exact Int32.le_refl _) h_9)
      refine x_iload_n (pc := 35) dX12_badNow_35 rfl ?_
      refine x_ireturn (pc := 36) dX12_badNow_36 rfl rfl ?_
      exact ⟨rfl, rfl⟩
    | succ m ih =>
      intro i hi
      obtain ⟨s, hs, es⟩ := hp i (by omega)
      obtain ⟨e1, e2⟩ := sp_nI hs
      refine x_iload_n (pc := 4) dX12_badNow_4 rfl ?_
      refine x_aload_n (pc := 5) dX12_badNow_5 rfl ?_
      refine m_getI (pc := 6) hM dX12_badNow_6 fk_12_106 (Or.inl rfl) ?_
      refine x_icmp_ge (pc := 9) (tgt := 35) dX12_badNow_9 rfl (fun h_9 => absurd h_9 (by rw [h15]; exact lit_le (n := n) i (by omega) (by omega))) (fun h_9 => ?_)
      refine x_iload_n (pc := 12) dX12_badNow_12 rfl ?_
      refine x_aload_n (pc := 13) dX12_badNow_13 rfl ?_
      refine x_iload_n (pc := 14) dX12_badNow_14 rfl ?_
      refine x_aload_n (pc := 15) dX12_badNow_15 rfl ?_
      refine m_getR (pc := 16) hM dX12_badNow_16 fk_12_44 (Or.inr ⟨_, rfl⟩) (Or.inl (by decide)) ?_
      refine x_iload_n (pc := 19) dX12_badNow_19 rfl ?_
      refine m_iald (pc := 20) hM dX12_badNow_20 (rfl) (by show i < 5; omega) ?_
      refine x_iconst (pc := 21) (v := 1) dX12_badNow_21 rfl ?_
      refine x_iadd (pc := 22) dX12_badNow_22 ?_
      rw [es, e2]
      refine x_iload_n (pc := 23) dX12_badNow_23 rfl ?_
      refine x_callV (pc := 24) (As := [.int _, .int _, .int _]) dX12_badNow_24 mX12_badOf lk_12_285 hM.1 (c_badOf hM (by omega) hs hG hv) rfl rfl (Nat.le_of_ble_eq_true rfl) ⟨by decide, by decide⟩ ⟨Nat.zero_le _, Nat.zero_le _⟩ (k_rt ?_)
      refine x_iadd (pc := 27) dX12_badNow_27 ?_
      refine x_istore_n (pc := 28) (lv2 := [_, _, _, _]) dX12_badNow_28 (by decide) rfl rfl ?_
      refine x_iinc (pc := 29) (lv2 := [_, _, _, _]) dX12_badNow_29 (by decide) rfl rfl (nI_1 _) rfl ?_
      refine x_goto (pc := 32) (tgt := 4) dX12_badNow_32 rfl ?_
      have e : bnI σ G (i + 1) = bnI σ G i + bdI σ i (sp (σ.2.2 14 i)) G := rfl
      rw [es, e1] at e
      rw [← e]
      exact ih (i + 1) (by omega)
  refine x_iconst (pc := 0) (v := 0) dX12_badNow_0 rfl ?_
  refine x_istore_n (pc := 1) (lv2 := [_, _, _, _]) dX12_badNow_1 (by decide) rfl rfl ?_
  refine x_iconst (pc := 2) (v := 0) dX12_badNow_2 rfl ?_
  refine x_istore_n (pc := 3) (lv2 := [_, _, _, _]) dX12_badNow_3 (by decide) rfl rfl ?_
  exact L n 0 (by omega)
end M44
