/-! the class: a room that was seen; days tried; what is lacking -/
theorem nI_or (a c : Nat) : nI a ||| nI c = nI (a ||| c) := by
  refine Int32.toBitVec_inj.mp ?_
  show BitVec.ofNat 32 a ||| BitVec.ofNat 32 c = BitVec.ofNat 32 (a ||| c)
  refine BitVec.eq_of_toNat_eq ?_
  rw [BitVec.toNat_or, BitVec.toNat_ofNat, BitVec.toNat_ofNat, BitVec.toNat_ofNat]
  exact (Nat.or_mod_two_pow).symm
theorem sh_a : ∀ g, g < 16 → (1 : Int32) <<< (nI g &&& 31) = nI (1 <<< g) := by decide +kernel
theorem sh_b : ∀ g, g < 4 → (1 <<< g) < 16 ∧ (1 <<< g : Nat).testBit g = true := by decide
def daP : Nat → Nat → Prop := fun a k => a = 3 ∧ k = 5
theorem bn_lr {D : PD} {n G : Nat} {rm : Nat → Nat} (h : okD D n) (hg : okG D n) (hG : G < 16) (hs : ∀ t, t < n → rm t < 7) : ∀ i, i ≤ n → bnD D rm G i ≤ 1300 * i
  | 0, _ => Nat.le_refl _
  | i + 1, hi => by
    have h1 := bn_lr h hg hG hs i (by omega)
    have h2 := bd_le h hg (show i < n by omega) (hs i (by omega)) hG
    show bnD D rm G i + bdD D i (rm i) G ≤ _
    omega
section M85
variable {Γ : Gm} {μ : Mem} {b : Kb} {κ : KS}
theorem k_surprised {D : PD} {n aw : Nat} (hP : KP μ b (D 0)) (hL : PL κ D n aw) {rm : Nat → Nat} (hrm : RMc κ rm n) : XM Γ zX4_surprised 3 0 0 [.ref (adO b 3)] (KV μ b κ) (rt (.int (nI (suD D rm n))) (KV μ b κ)) := by
  refine XM.of 3 rfl (by decide) (Nat.le_of_ble_eq_true rfl) ?_
  have hn := hL.1.1
  obtain ⟨hK, hth0, hX, hLe⟩ := hP
  have Lo : ∀ (m t : Nat) (z3 : Option Value), t + m = n → WA Γ zX4_surprised (xrm 3 0 0) 0 0 0 0 (rt (.int (nI (suD D rm n))) (KV μ b κ)) 4 [some (.ref (adO b 3)), some (.int (nI (suD D rm t))), some (.int (nI t)), z3] [] (KV μ b κ) := by
    intro m
    induction m with
    | zero =>
      intro t z3 ht
      obtain rfl : t = n := by omega
      refine x_iload_n (pc := 4) dX4_surprised_4 rfl ?_
      refine x_aload_n (pc := 5) dX4_surprised_5 rfl ?_
      refine k_getI (pc := 6) hK dX4_surprised_6 fk_4_17 (Or.inl rfl) ?_
      refine x_icmp_ge (pc := 9) (tgt := 60) dX4_surprised_9 rfl (fun h_9 => ?_) (fun h_9 => absurd (by rw [hL.2.2.1]; exact Int32.le_refl _) h_9)
      refine x_iload_n (pc := 60) dX4_surprised_60 rfl ?_
      refine x_ireturn (pc := 61) dX4_surprised_61 rfl rfl ?_
      exact ⟨rfl, rfl⟩
    | succ m ih =>
      intro t z3 ht
      obtain ⟨er, hr7⟩ := hrm t (by omega)
      obtain ⟨hTt, hLt⟩ := hL.2.2.2.2.1 t (by omega)
      have hg4 := hTt.2.2.1
      have e1 : nI (rm t) - 1 + 1 = nI (rm t) := (sp_nI (show rm t ≤ 6 by omega)).2
      have ev := hL.2.2.2.2.2 (rm t) hr7
      have hXt := (hX.2 t (by omega)).2
      obtain ⟨s1, s2⟩ := sh_b (D 2 t) hg4
      have es := sh_a (D 2 t) (by omega)
      have hst : suD D rm (t + 1) = suD D rm t ||| ((if 0 < msD (D 0 t) (D 1 t) ∧ seeD D (D 2 t) (rm t) = false then 1 else 0) <<< D 2 t) := rfl
      have IH := fun z3 => ih (t + 1) z3 (by omega)
      rw [hst] at IH
      refine x_iload_n (pc := 4) dX4_surprised_4 rfl ?_
      refine x_aload_n (pc := 5) dX4_surprised_5 rfl ?_
      refine k_getI (pc := 6) hK dX4_surprised_6 fk_4_17 (Or.inl rfl) ?_
      refine x_icmp_ge (pc := 9) (tgt := 60) dX4_surprised_9 rfl (fun h_9 => absurd h_9 (by rw [hL.2.2.1]; exact lit_le t (by omega) (by omega))) (fun h_9 => ?_)
      refine x_iconst (pc := 12) (v := 1) dX4_surprised_12 rfl ?_
      refine x_aload_n (pc := 13) dX4_surprised_13 rfl ?_
      refine k_getR (pc := 14) hK dX4_surprised_14 fk_4_11 (Or.inr ⟨_, rfl⟩) (hth0) ?_
      refine x_iload_n (pc := 17) dX4_surprised_17 rfl ?_
      refine x_aald (pc := 18) dX4_surprised_18 (hX.1) (Or.inl rfl) (rfl) ((by omega)) (by decide) ((hX.2 t (by omega)).1) ?_
      refine k_getI (pc := 19) (hX.2 t (by omega)).2 dX4_surprised_19 (fk_4_110 (kci_th (D 0 t))) (Or.inl (th_i (kci_th (D 0 t)) (by decide))) ?_
      rw [hTt.2.2.2.2.2]
      refine x_ishl (pc := 22) dX4_surprised_22 ?_
      rw [es]
      refine x_istore_n (pc := 23) (lv2 := [_, _, _, _]) dX4_surprised_23 (by decide) rfl rfl ?_
      refine x_aload_n (pc := 24) dX4_surprised_24 rfl ?_
      refine k_getR (pc := 25) hK dX4_surprised_25 fk_4_11 (Or.inr ⟨_, rfl⟩) (hth0) ?_
      refine x_iload_n (pc := 28) dX4_surprised_28 rfl ?_
      refine x_aald (pc := 29) dX4_surprised_29 (hX.1) (Or.inl rfl) (rfl) ((by omega)) (by decide) ((hX.2 t (by omega)).1) ?_
      refine x_iload_n (pc := 30) dX4_surprised_30 rfl ?_
      refine x_aload_n (pc := 31) dX4_surprised_31 rfl ?_
      refine k_getA (pc := 32) hK dX4_surprised_32 fk_4_34 (Or.inr ⟨_, rfl⟩) (by decide) ?_
      refine x_aload_n (pc := 35) dX4_surprised_35 rfl ?_
      refine k_getA (pc := 36) hK dX4_surprised_36 fk_4_37 (Or.inr ⟨_, rfl⟩) (by decide) ?_
      refine x_iload_n (pc := 39) dX4_surprised_39 rfl ?_
      refine k_iald (pc := 40) hK dX4_surprised_40 (rfl) (by show t < 5; omega) (by decide) ?_
      refine x_iconst (pc := 41) (v := 1) dX4_surprised_41 rfl ?_
      rw [er]
      refine x_iadd (pc := 42) dX4_surprised_42 ?_
      rw [e1]
      refine k_iald (pc := 43) hK dX4_surprised_43 (rfl) (by show rm t < 7; exact hr7) (by decide) ?_
      rw [ev]
      refine x_callU (pc := 44) (As := [.int _, .int _]) dX4_surprised_44 mX9_isMissed (lt_4_100 (kci_th (D 0 t))) hXt.2.2.1 (k_isMissed (kci_th (D 0 t)) hXt hTt hLt s1 (vw_lt D (rm t))) rfl rfl (Nat.le_of_ble_eq_true rfl) ⟨by decide, by decide⟩ ⟨Nat.zero_le _, Nat.zero_le _⟩ (k_rt ?_)
      refine x_if_eq (pc := 47) (tgt := 54) dX4_surprised_47 rfl (fun h_47 => ?_) (fun h_47 => ?_)
      · refine x_iinc (pc := 54) (lv2 := [_, _, _, _]) dX4_surprised_54 (by decide) rfl rfl (nI_1 _) rfl ?_
        refine x_goto (pc := 57) (tgt := 4) dX4_surprised_57 rfl ?_
        first
          | (have z := bi_n0 (by exact h_47)
             rw [vw_t D (rm t) _ hg4] at z
             rw [if_pos ⟨z.1, z.2.2⟩] at IH
             exact IH _)
          | (have z := bi_0.mp (by first | exact h_47 | exact Decidable.not_not.mp h_47)
             rw [vw_t D (rm t) _ hg4] at z
             rw [if_neg (fun y => z ⟨y.1, s2, y.2⟩), Nat.zero_shiftLeft, Nat.or_zero] at IH
             exact IH _)
      · refine x_iload_n (pc := 50) dX4_surprised_50 rfl ?_
        refine x_iload_n (pc := 51) dX4_surprised_51 rfl ?_
        refine x_ior (pc := 52) dX4_surprised_52 ?_
        rw [nI_or]
        refine x_istore_n (pc := 53) (lv2 := [_, _, _, _]) dX4_surprised_53 (by decide) rfl rfl ?_
        refine x_iinc (pc := 54) (lv2 := [_, _, _, _]) dX4_surprised_54 (by decide) rfl rfl (nI_1 _) rfl ?_
        refine x_goto (pc := 57) (tgt := 4) dX4_surprised_57 rfl ?_
        first
          | (have z := bi_n0 (by exact h_47)
             rw [vw_t D (rm t) _ hg4] at z
             rw [if_pos ⟨z.1, z.2.2⟩] at IH
             exact IH _)
          | (have z := bi_0.mp (by first | exact h_47 | exact Decidable.not_not.mp h_47)
             rw [vw_t D (rm t) _ hg4] at z
             rw [if_neg (fun y => z ⟨y.1, s2, y.2⟩), Nat.zero_shiftLeft, Nat.or_zero] at IH
             exact IH _)
  refine x_iconst (pc := 0) (v := 0) dX4_surprised_0 rfl ?_
  refine x_istore_n (pc := 1) (lv2 := [_, _, _, _]) dX4_surprised_1 (by decide) rfl rfl ?_
  refine x_iconst (pc := 2) (v := 0) dX4_surprised_2 rfl ?_
  refine x_istore_n (pc := 3) (lv2 := [_, _, _, _]) dX4_surprised_3 (by decide) rfl rfl ?_
  exact Lo n 0 _ (by omega)
theorem k_enters {D : PD} {n aw : Nat} (hP : KP μ b (D 0)) (hL : PL κ D n aw) {q f cq : Nat} {lq : Nat → Nat} (hQ : KO μ b q cq lq) (hq3 : q ≠ 3) (hlq : 5 ≤ lq f) (hlq2 : lq f < 2 ^ 31) : XM Γ zX4_enters 2 0 0 [.ref (adO b 3), .ref (adR b q f)] (KV μ b κ) (fun x μ2 => ∃ κ2, μ2 = KV μ b κ2 ∧ kq roP κ κ2 ∧ ((irD (D 0) (fun t => spI (κ.2 q f t)) n = none ∧ x = some (.int 0)) ∨ (irD (D 0) (fun t => spI (κ.2 q f t)) n ≠ none ∧ x = some (.int 1) ∧ RMc κ2 (fun t => spI (κ.2 q f t)) n))) := by
  refine XM.of 3 rfl (by decide) (Nat.le_of_ble_eq_true rfl) ?_
  have hn := hL.1.1
  obtain ⟨hK, hth0, hX, hLe⟩ := hP
  have Lo : ∀ (m t : Nat) (κ2 : KS) (u : Nat) (z4 : Option Value), t + m = n → kq roP κ κ2 → irD (D 0) (fun t => spI (κ.2 q f t)) t = some u → (∀ x, x < t → κ2.2 3 7 x = nI (spI (κ.2 q f x)) - 1) → WA Γ zX4_enters (xrm 2 0 0) 0 0 0 0 (fun x μ2 => ∃ κ2, μ2 = KV μ b κ2 ∧ kq roP κ κ2 ∧ ((irD (D 0) (fun t => spI (κ.2 q f t)) n = none ∧ x = some (.int 0)) ∨ (irD (D 0) (fun t => spI (κ.2 q f t)) n ≠ none ∧ x = some (.int 1) ∧ RMc κ2 (fun t => spI (κ.2 q f t)) n))) 4 [some (.ref (adO b 3)), some (.ref (adR b q f)), some (.int (nI u)), some (.int (nI t)), z4] [] (KV μ b κ2) := by
    intro m
    induction m with
    | zero =>
      intro t κ2 u z4 ht hq hu h7
      obtain rfl : t = n := by omega
      have hL2 := hL.kq (ro_pl hq)
      refine x_iload_n (pc := 4) dX4_enters_4 rfl ?_
      refine x_aload_n (pc := 5) dX4_enters_5 rfl ?_
      refine k_getI (pc := 6) hK dX4_enters_6 fk_4_17 (Or.inl rfl) ?_
      refine x_icmp_ge (pc := 9) (tgt := 89) dX4_enters_9 rfl (fun h_9 => ?_) (fun h_9 => absurd (by rw [hL2.2.2.1]; exact Int32.le_refl _) h_9)
      refine x_iconst (pc := 89) (v := 1) dX4_enters_89 rfl ?_
      refine x_ireturn (pc := 90) dX4_enters_90 rfl (by first | rfl | exact bi_nz) ?_
      exact ⟨κ2, rfl, hq, Or.inr ⟨(by rw [hu]; exact fun z => by cases z), rfl, fun x hx => ⟨h7 x hx, sp_lt _⟩⟩⟩
    | succ m ih =>
      intro t κ2 u z4 ht hq hu h7
      have hL2 := hL.kq (ro_pl hq)
      have ec : κ2.2 q f = κ.2 q f := (hq q f (fun z => hq3 z.1)).2
      have hu64 := ir_lt (fun _ => sp_lt _) t u hu
      have hs7 := sp_lt (κ.2 q f t)
      have hst : irD (D 0) (fun t => spI (κ.2 q f t)) (t + 1) = if spI (κ.2 q f t) = 0 then some u else if stD (D 0 t) (spI (κ.2 q f t)) = true ∧ utk u (spI (κ.2 q f t)) = false then some (ust u (spI (κ.2 q f t))) else none := by
        rw [irD, hu]
      have hno : irD (D 0) (fun t => spI (κ.2 q f t)) (t + 1) = none → irD (D 0) (fun t => spI (κ.2 q f t)) n = none := fun z => by
        have := ir_none z (n - (t + 1))
        rwa [show t + 1 + (n - (t + 1)) = n by omega] at this
      obtain ⟨ua1, ua2⟩ := us_a u hu64 _ hs7
      have e1 : nI (spI (κ.2 q f t)) - 1 + 1 = nI (spI (κ.2 q f t)) := (sp_nI (show spI (κ.2 q f t) ≤ 6 by omega)).2
      have hv : ∀ v, v = nI (spI (κ.2 q f t)) - 1 → WA Γ zX4_enters (xrm 2 0 0) 0 0 0 0 (fun x μ2 => ∃ κ2, μ2 = KV μ b κ2 ∧ kq roP κ κ2 ∧ ((irD (D 0) (fun t => spI (κ.2 q f t)) n = none ∧ x = some (.int 0)) ∨ (irD (D 0) (fun t => spI (κ.2 q f t)) n ≠ none ∧ x = some (.int 1) ∧ RMc κ2 (fun t => spI (κ.2 q f t)) n))) 36 [some (.ref (adO b 3)), some (.ref (adR b q f)), some (.int (nI u)), some (.int (nI t)), z4] [] (KV μ b (kA κ2 3 7 t v)) := by
        intro v hv
        have q3 : kq roP κ (kA κ2 3 7 t v) := hq.A ⟨rfl, rfl⟩
        have L3 := hL.kq (ro_pl q3)
        obtain ⟨hTt, hLt⟩ := L3.2.2.2.2.1 t (by omega)
        have hXt := (hX.2 t (by omega)).2
        have e7 : (kA κ2 3 7 t v).2 3 7 t = nI (spI (κ.2 q f t)) - 1 := kA_s.trans hv
        have ebar := (hLt.1 _ hs7).2.2
        have h7' : ∀ x, x < t + 1 → (kA κ2 3 7 t v).2 3 7 x = nI (spI (κ.2 q f x)) - 1 := fun x hx => by
          rcases Nat.lt_or_ge x t with y | y
          · rw [kA_i (by omega)]
            exact h7 x y
          · obtain rfl : x = t := by omega
            exact e7
        refine x_aload_n (pc := 36) dX4_enters_36 rfl ?_
        refine k_getA (pc := 37) hK dX4_enters_37 fk_4_37 (Or.inr ⟨_, rfl⟩) (by decide) ?_
        refine x_iload_n (pc := 40) dX4_enters_40 rfl ?_
        refine k_iald (pc := 41) hK dX4_enters_41 (rfl) (by show t < 5; omega) (by decide) ?_
        refine x_iconst (pc := 42) (v := 1) dX4_enters_42 rfl ?_
        rw [e7]
        refine x_iadd (pc := 43) dX4_enters_43 ?_
        rw [e1]
        refine x_callS (pc := 44) (As := [.int _]) dX4_enters_44 mX4_bitOf lk_4_88 (k_bitOf _) rfl rfl (Nat.le_of_ble_eq_true rfl) ⟨by decide, by decide⟩ ⟨Nat.zero_le _, Nat.zero_le _⟩ (k_rt ?_)
        rw [bp_a _ hs7]
        refine x_istore (pc := 47) (lv2 := [_, _, _, _, _]) dX4_enters_47 (by decide) rfl rfl ?_
        refine x_iload_n (pc := 49) dX4_enters_49 rfl ?_
        refine x_iload (pc := 50) dX4_enters_50 rfl ?_
        refine x_iand (pc := 52) dX4_enters_52 ?_
        refine x_if_ne (pc := 53) (tgt := 76) dX4_enters_53 rfl (fun h_53 => ?_) (fun h_53 => ?_)
        · refine x_iconst (pc := 76) (v := 0) dX4_enters_76 rfl ?_
          refine x_ireturn (pc := 77) dX4_enters_77 rfl (by first | rfl | exact bi_nz) ?_
          refine ⟨_, rfl, q3, Or.inl ⟨hno ?_, rfl⟩⟩
          rw [hst, if_neg (fun z => by
            first
              | exact h_53 (by rw [z]; exact Int32.and_zero)
              | (have y := bi_n0 h_73
                 exact y (by rw [z]; rfl))), if_neg]
          rintro ⟨y1, y2⟩
          first
            | exact h_53 (ua1.mpr y2)
            | (have y := bi_n0 h_73
               exact y (by rw [if_pos y1]))
        · refine x_aload_n (pc := 56) dX4_enters_56 rfl ?_
          refine k_getR (pc := 57) hK dX4_enters_57 fk_4_11 (Or.inr ⟨_, rfl⟩) (hth0) ?_
          refine x_iload_n (pc := 60) dX4_enters_60 rfl ?_
          refine x_aald (pc := 61) dX4_enters_61 (hX.1) (Or.inl rfl) (rfl) ((by omega)) (by decide) ((hX.2 t (by omega)).1) ?_
          refine x_aload_n (pc := 62) dX4_enters_62 rfl ?_
          refine k_getA (pc := 63) hK dX4_enters_63 fk_4_37 (Or.inr ⟨_, rfl⟩) (by decide) ?_
          refine x_iload_n (pc := 66) dX4_enters_66 rfl ?_
          refine k_iald (pc := 67) hK dX4_enters_67 (rfl) (by show t < 5; omega) (by decide) ?_
          refine x_iconst (pc := 68) (v := 1) dX4_enters_68 rfl ?_
          rw [e7]
          refine x_iadd (pc := 69) dX4_enters_69 ?_
          rw [e1]
          refine x_callU (pc := 70) (As := [.int _]) dX4_enters_70 mX9_isBarred (lt_4_92 (kci_th (D 0 t))) hXt.2.2.1 (k_isBarred (kci_th (D 0 t)) hXt hs7) rfl rfl (Nat.le_of_ble_eq_true rfl) ⟨by decide, by decide⟩ ⟨Nat.zero_le _, Nat.zero_le _⟩ (k_rt ?_)
          rw [ebar]
          refine x_if_eq (pc := 73) (tgt := 78) dX4_enters_73 rfl (fun h_73 => ?_) (fun h_73 => ?_)
          · refine x_iload_n (pc := 78) dX4_enters_78 rfl ?_
            refine x_iload (pc := 79) dX4_enters_79 rfl ?_
            refine x_ior (pc := 81) dX4_enters_81 ?_
            rw [ua2]
            refine x_istore_n (pc := 82) (lv2 := [_, _, _, _, _]) dX4_enters_82 (by decide) rfl rfl ?_
            refine x_iinc (pc := 83) (lv2 := [_, _, _, _, _]) dX4_enters_83 (by decide) rfl rfl (nI_1 _) rfl ?_
            refine x_goto (pc := 86) (tgt := 4) dX4_enters_86 rfl ?_
            have hfree := ua1.mp (by first | exact h_53 | exact Decidable.not_not.mp h_53)
            have hstd : stD (D 0 t) (spI (κ.2 q f t)) = true := by
              have z := bi_0.mp (by first | exact h_73 | exact Decidable.not_not.mp h_73)
              by_cases y : stD (D 0 t) (spI (κ.2 q f t)) = true
              · exact y
              · rw [if_neg y] at z
                exact absurd (by decide) z
            refine ih (t + 1) _ _ _ (by omega) q3 ?_ h7'
            rw [hst]
            by_cases z : spI (κ.2 q f t) = 0
            · rw [if_pos z, z]
              rfl
            · rw [if_neg z, if_pos ⟨hstd, hfree⟩]
          · refine x_iconst (pc := 76) (v := 0) dX4_enters_76 rfl ?_
            refine x_ireturn (pc := 77) dX4_enters_77 rfl (by first | rfl | exact bi_nz) ?_
            refine ⟨_, rfl, q3, Or.inl ⟨hno ?_, rfl⟩⟩
            rw [hst, if_neg (fun z => by
              first
                | exact h_53 (by rw [z]; exact Int32.and_zero)
                | (have y := bi_n0 h_73
                   exact y (by rw [z]; rfl))), if_neg]
            rintro ⟨y1, y2⟩
            first
              | exact h_53 (ua1.mpr y2)
              | (have y := bi_n0 h_73
                 exact y (by rw [if_pos y1]))
      refine x_iload_n (pc := 4) dX4_enters_4 rfl ?_
      refine x_aload_n (pc := 5) dX4_enters_5 rfl ?_
      refine k_getI (pc := 6) hK dX4_enters_6 fk_4_17 (Or.inl rfl) ?_
      refine x_icmp_ge (pc := 9) (tgt := 89) dX4_enters_9 rfl (fun h_9 => absurd h_9 (by rw [hL2.2.2.1]; exact lit_le t (by omega) (by omega))) (fun h_9 => ?_)
      refine x_aload_n (pc := 12) dX4_enters_12 rfl ?_
      refine k_getA (pc := 13) hK dX4_enters_13 fk_4_37 (Or.inr ⟨_, rfl⟩) (by decide) ?_
      refine x_iload_n (pc := 16) dX4_enters_16 rfl ?_
      refine x_aload_n (pc := 17) dX4_enters_17 rfl ?_
      refine x_iload_n (pc := 18) dX4_enters_18 rfl ?_
      refine k_iald (pc := 19) hQ dX4_enters_19 (rfl) (by omega) (hlq2) ?_
      refine x_bipush (pc := 20) (v := 6) dX4_enters_20 rfl ?_
      refine x_callSN (pc := 22) (As := [.int _, .int _]) dX4_enters_22 mX11_isBelow lk_4_84 (k_isBelow _ _) rfl rfl (Nat.le_of_ble_eq_true rfl) ⟨by decide, by decide⟩ ⟨Nat.zero_le _, Nat.zero_le _⟩ (k_rt ?_)
      rw [ec]
      refine x_if_eq (pc := 25) (tgt := 34) dX4_enters_25 rfl (fun h_25 => ?_) (fun h_25 => ?_)
      · refine x_iconst (pc := 34) (v := -1) dX4_enters_34 rfl ?_
        refine k_iast (pc := 35) hK dX4_enters_35 (rfl) (by show t < 5; omega) (by decide) ?_
        first
          | exact hv _ (by
              unfold spI
              rw [if_neg (fun z => by
                have y := bi_0.mp (by first | exact h_25 | exact Decidable.not_not.mp h_25)
                exact y ⟨z.1, Int32.lt_of_le_of_lt z.2 (by decide)⟩)]
              rfl)
          | exact hv _ (by
              have y := bi_n0 (by exact h_25)
              obtain ⟨j, hj, ej⟩ := ixD (n := 6) y (by omega)
              unfold spI
              rw [ej, if_pos ⟨nI_pos' (by omega), nI_le (b := 5) (by omega) (by omega)⟩, nn_nI (by omega), nI_pred])
      · refine x_aload_n (pc := 28) dX4_enters_28 rfl ?_
        refine x_iload_n (pc := 29) dX4_enters_29 rfl ?_
        refine k_iald (pc := 30) hQ dX4_enters_30 (rfl) (by omega) (hlq2) ?_
        rw [ec]
        refine x_goto (pc := 31) (tgt := 35) dX4_enters_31 rfl ?_
        refine k_iast (pc := 35) hK dX4_enters_35 (rfl) (by show t < 5; omega) (by decide) ?_
        first
          | exact hv _ (by
              unfold spI
              rw [if_neg (fun z => by
                have y := bi_0.mp (by first | exact h_25 | exact Decidable.not_not.mp h_25)
                exact y ⟨z.1, Int32.lt_of_le_of_lt z.2 (by decide)⟩)]
              rfl)
          | exact hv _ (by
              have y := bi_n0 (by exact h_25)
              obtain ⟨j, hj, ej⟩ := ixD (n := 6) y (by omega)
              unfold spI
              rw [ej, if_pos ⟨nI_pos' (by omega), nI_le (b := 5) (by omega) (by omega)⟩, nn_nI (by omega), nI_pred])
  refine x_iconst (pc := 0) (v := 0) dX4_enters_0 rfl ?_
  refine x_istore_n (pc := 1) (lv2 := [_, _, _, _, _]) dX4_enters_1 (by decide) rfl rfl ?_
  refine x_iconst (pc := 2) (v := 0) dX4_enters_2 rfl ?_
  refine x_istore_n (pc := 3) (lv2 := [_, _, _, _, _]) dX4_enters_3 (by decide) rfl rfl ?_
  exact Lo n 0 κ 0 _ (by omega) kq.rf rfl (fun x hx => absurd hx (by omega))
def exS (D : PD) (n : Nat) (sp : Nat → Nat) : Nat → Nat
  | 0 => 0
  | G + 1 => exS D n sp G ||| ((if exP D n sp G = true then 1 else 0) <<< G)
theorem bs_ct {D : PD} {n G : Nat} {rm rm' : Nat → Nat} (h : n ≤ 5) : bsD D n [G] rm 9 false 5 = bsD D n [G] rm' 9 false 5 := by
  unfold bsD
  refine bst_congr (n := n) (fun i s _ _ => ⟨rfl, fun _ => ?_⟩) (fun z => by rw [decide_eq_false (by omega)] at z; cases z) n 0 0 5 (by omega)
  unfold prD
  split
  · rfl
  · have e : ∀ x : Nat, (if s = x then 0 else if false = false then 0 else D 7 (7 * i + s)) = 0 := fun x => by split <;> rfl
    rw [e, e]
theorem k_expected {D : PD} {n : Nat} (hP : KP μ b (D 0)) (hL : PL κ D n 9) {rm : Nat → Nat} (hrm : RMc κ rm n) : XM Γ zX4_expected 5 0 0 [.ref (adO b 3)] (KV μ b κ) (fun x μ2 => ∃ κ2, x = some (.int (nI (exS D n rm 16))) ∧ μ2 = KV μ b κ2 ∧ kq plP κ κ2) := by
  refine XM.of 2 rfl (by decide) (Nat.le_of_ble_eq_true rfl) ?_
  have hn := hL.1.1
  have hK := hP.1
  have Lo : ∀ (m G : Nat) (κ2 : KS), G + m = 16 → kq plP κ κ2 → RMc κ2 rm n → WA Γ zX4_expected (xrm 5 0 0) 0 0 0 0 (fun x μ2 => ∃ κ2, x = some (.int (nI (exS D n rm 16))) ∧ μ2 = KV μ b κ2 ∧ kq plP κ κ2) 4 [some (.ref (adO b 3)), some (.int (nI (exS D n rm G))), some (.int (nI G))] [] (KV μ b κ2) := by
    intro m
    induction m with
    | zero =>
      intro G κ2 hG hq hr
      obtain rfl : G = 16 := by omega
      refine x_iload_n (pc := 4) dX4_expected_4 rfl ?_
      refine x_bipush (pc := 5) (v := 16) dX4_expected_5 rfl ?_
      refine x_icmp_ge (pc := 7) (tgt := 44) dX4_expected_7 rfl (fun h_7 => ?_) (fun h_7 => absurd (by decide) h_7)
      refine x_iload_n (pc := 44) dX4_expected_44 rfl ?_
      refine x_ireturn (pc := 45) dX4_expected_45 rfl rfl ?_
      exact ⟨κ2, rfl, rfl, hq⟩
    | succ m ih =>
      intro G κ2 hG hq hr
      have hG16 : G < 16 := by omega
      have hL2 := hL.kq hq
      obtain ⟨r, hr0⟩ : ∃ r, bsD D n [G] rm 9 false 5 = some r := by
        cases h : bsD D n [G] rm 9 false 5 with
        | none => exact absurd h (bsD_ne hn)
        | some r => exact ⟨r, rfl⟩
      have er1 : brC (bsD D n [G] (wasA D 9) 9 false 5) = r.1 := by rw [← bs_ct (rm := rm) hn, hr0]; rfl
      have hrl : r.1 ≤ 46000 := by
        have := (bsD_ok (aw := 9) (was := rm) (ct := false) (M := 5) hL.1 hL.2.1 (okL1 hG16) (by show 1 ≤ 7; omega) (bsD_ne hn)).1
        rw [hr0] at this
        exact this
      have hbl := bn_lr (rm := rm) hL.1 hL.2.1 hG16 (fun t ht => (hrm t ht).2) n (Nat.le_refl n)
      have hex : nI (bnD D rm G n) = nI r.1 ↔ exP D n rm G = true := by
        unfold exP
        rw [beq_iff_eq, er1]
        exact nI_eq (by omega) (by omega)
      have hst : exS D n rm (G + 1) = exS D n rm G ||| ((if exP D n rm G = true then 1 else 0) <<< G) := rfl
      have IH := fun κ4 => ih (G + 1) κ4 (by omega)
      rw [hst] at IH
      refine x_iload_n (pc := 4) dX4_expected_4 rfl ?_
      refine x_bipush (pc := 5) (v := 16) dX4_expected_5 rfl ?_
      refine x_icmp_ge (pc := 7) (tgt := 44) dX4_expected_7 rfl (fun h_7 => absurd h_7 (lit_le (n := 16) G (by omega) (by omega))) (fun h_7 => ?_)
      refine x_aload_n (pc := 10) dX4_expected_10 rfl ?_
      refine x_callV (pc := 11) (As := []) dX4_expected_11 mX4_priceNothing lk_4_113 hK.2.2.1 (k_pN hP hL2 rm) rfl rfl (Nat.le_of_ble_eq_true rfl) ⟨by decide, by decide⟩ ⟨Nat.zero_le _, Nat.zero_le _⟩ (fun x μ3 hq3 => ?_)
      obtain ⟨κ3, rfl, rfl, q3, p3⟩ := hq3
      have hL3 := hL2.kq (pr_pl q3)
      have r3 := hr.kq q3 (fun z => by have := z.1; omega)
      refine x_aload_n (pc := 14) dX4_expected_14 rfl ?_
      refine x_iload_n (pc := 15) dX4_expected_15 rfl ?_
      refine x_callV (pc := 16) (As := [.int _]) dX4_expected_16 mX4_priceDay lk_4_116 hK.2.2.1 (k_pD hP hL3 hG16 p3) rfl rfl (Nat.le_of_ble_eq_true rfl) ⟨by decide, by decide⟩ ⟨Nat.zero_le _, Nat.zero_le _⟩ (fun x μ4 hq4 => ?_)
      obtain ⟨κ4, rfl, rfl, q4, p4⟩ := hq4
      have hL4 := hL3.kq (pr_pl q4)
      have r4 := r3.kq q4 (fun z => by have := z.1; omega)
      refine x_aload_n (pc := 19) dX4_expected_19 rfl ?_
      refine x_iload_n (pc := 20) dX4_expected_20 rfl ?_
      refine x_callV (pc := 21) (As := [.int _]) dX4_expected_21 mX4_badDay lk_4_120 hK.2.2.1 (k_badDay hP hL4 r4 hG16) rfl rfl (Nat.le_of_ble_eq_true rfl) ⟨by decide, by decide⟩ ⟨Nat.zero_le _, Nat.zero_le _⟩ (k_rt ?_)
      refine x_aload_n (pc := 24) dX4_expected_24 rfl ?_
      refine x_iconst (pc := 25) (v := 5) dX4_expected_25 rfl ?_
      refine x_callV (pc := 26) (As := [.int _]) dX4_expected_26 mX4_search lk_4_123 hK.2.2.1 (k_search (M := 5) hP hn (cl_ok hL.1 hL.2.1 (okL1 hG16) (by show 1 ≤ 7; omega)) p4 r4 hL4.2.2.1 (by decide) hr0) rfl rfl (Nat.le_of_ble_eq_true rfl) ⟨by decide, by decide⟩ ⟨Nat.zero_le _, Nat.zero_le _⟩ (fun x μ5 hq5 => ?_)
      obtain ⟨κ5, rfl, rfl, q5, f5⟩ := hq5
      have hq5 := hq.trans ((pr_pl q3).trans ((pr_pl q4).trans (se_pl q5)))
      have r5 := r4.kq q5 (fun z => by have := z.2; omega)
      refine x_icmp_ne (pc := 29) (tgt := 38) dX4_expected_29 rfl (fun h_29 => ?_) (fun h_29 => ?_)
      · refine x_iinc (pc := 38) (lv2 := [_, _, _]) dX4_expected_38 (by decide) rfl rfl (nI_1 _) rfl ?_
        refine x_goto (pc := 41) (tgt := 4) dX4_expected_41 rfl ?_
        first
          | (rw [if_pos (hex.mp (by first | exact h_29 | exact Decidable.not_not.mp h_29))] at IH
             exact IH κ5 hq5 r5)
          | (rw [if_neg (fun z => absurd (hex.mpr z) (by exact h_29)), Nat.zero_shiftLeft, Nat.or_zero] at IH
             exact IH κ5 hq5 r5)
      · refine x_iload_n (pc := 32) dX4_expected_32 rfl ?_
        refine x_iconst (pc := 33) (v := 1) dX4_expected_33 rfl ?_
        refine x_iload_n (pc := 34) dX4_expected_34 rfl ?_
        refine x_ishl (pc := 35) dX4_expected_35 ?_
        rw [sh_a G hG16]
        refine x_ior (pc := 36) dX4_expected_36 ?_
        rw [nI_or]
        refine x_istore_n (pc := 37) (lv2 := [_, _, _]) dX4_expected_37 (by decide) rfl rfl ?_
        refine x_iinc (pc := 38) (lv2 := [_, _, _]) dX4_expected_38 (by decide) rfl rfl (nI_1 _) rfl ?_
        refine x_goto (pc := 41) (tgt := 4) dX4_expected_41 rfl ?_
        first
          | (rw [if_pos (hex.mp (by first | exact h_29 | exact Decidable.not_not.mp h_29))] at IH
             exact IH κ5 hq5 r5)
          | (rw [if_neg (fun z => absurd (hex.mpr z) (by exact h_29)), Nat.zero_shiftLeft, Nat.or_zero] at IH
             exact IH κ5 hq5 r5)
  refine x_iconst (pc := 0) (v := 0) dX4_expected_0 rfl ?_
  refine x_istore_n (pc := 1) (lv2 := [_, _, _]) dX4_expected_1 (by decide) rfl rfl ?_
  refine x_iconst (pc := 2) (v := 0) dX4_expected_2 rfl ?_
  refine x_istore_n (pc := 3) (lv2 := [_, _, _]) dX4_expected_3 (by decide) rfl rfl ?_
  exact Lo 16 0 κ (by omega) kq.rf hrm
theorem k_leaveOut {D : PD} {g : Nat} (hK : KO μ b 3 4 plL) (hg : g < 4) {q f cq : Nat} {lq : Nat → Nat} (hQ : KO μ b q cq lq) (hq3 : q ≠ 3) (hlq : lq f = 7) (hD : ∀ d, d < 7 → D 6 d < 16 ∧ κ.2 q f d = nI (D 6 d)) : XM Γ zX4_leaveOut 1 0 0 [.ref (adO b 3), .ref (adR b q f), .int (nI g)] (KV μ b κ) (fun x μ2 => ∃ κ2, x = none ∧ μ2 = KV μ b κ2 ∧ kq daP κ κ2 ∧ ∀ d, d < 7 → κ2.2 3 5 d = nI (rmG (D 6 d) g)) := by
  refine XM.of 1 rfl (by decide) (Nat.le_of_ble_eq_true rfl) ?_
  have Lo : ∀ (m d : Nat) (κ2 : KS), d + m = 7 → kq daP κ κ2 → (∀ e, e < d → κ2.2 3 5 e = nI (rmG (D 6 e) g)) → WA Γ zX4_leaveOut (xrm 1 0 0) 0 0 0 0 (fun x μ2 => ∃ κ2, x = none ∧ μ2 = KV μ b κ2 ∧ kq daP κ κ2 ∧ ∀ d, d < 7 → κ2.2 3 5 d = nI (rmG (D 6 d) g)) 2 [some (.ref (adO b 3)), some (.ref (adR b q f)), some (.int (nI g)), some (.int (nI d))] [] (KV μ b κ2) := by
    intro m
    induction m with
    | zero =>
      intro d κ2 hd hq h1
      obtain rfl : d = 7 := by omega
      refine x_iload_n (pc := 2) dX4_leaveOut_2 rfl ?_
      refine x_bipush (pc := 3) (v := 7) dX4_leaveOut_3 rfl ?_
      refine x_icmp_ge (pc := 5) (tgt := 29) dX4_leaveOut_5 rfl (fun h_5 => ?_) (fun h_5 => absurd (by decide) h_5)
      refine x_return (pc := 29) dX4_leaveOut_29 rfl ?_
      exact ⟨κ2, rfl, rfl, hq, fun d hd => h1 d hd⟩
    | succ m ih =>
      intro d κ2 hd hq h1
      have ec : κ2.2 q f = κ.2 q f := (hq q f (fun z => hq3 z.1)).2
      obtain ⟨d16, ed⟩ := hD d (by omega)
      have er := (rm_a (D 6 d) d16 g hg).1
      refine x_iload_n (pc := 2) dX4_leaveOut_2 rfl ?_
      refine x_bipush (pc := 3) (v := 7) dX4_leaveOut_3 rfl ?_
      refine x_icmp_ge (pc := 5) (tgt := 29) dX4_leaveOut_5 rfl (fun h_5 => absurd h_5 (lit_le (n := 7) d (by omega) (by omega))) (fun h_5 => ?_)
      refine x_aload_n (pc := 8) dX4_leaveOut_8 rfl ?_
      refine k_getA (pc := 9) hK dX4_leaveOut_9 fk_4_31 (Or.inr ⟨_, rfl⟩) (by decide) ?_
      refine x_iload_n (pc := 12) dX4_leaveOut_12 rfl ?_
      refine x_aload_n (pc := 13) dX4_leaveOut_13 rfl ?_
      refine x_iload_n (pc := 14) dX4_leaveOut_14 rfl ?_
      refine k_iald (pc := 15) hQ dX4_leaveOut_15 (rfl) (by rw [hlq]; omega) (by rw [hlq]; omega) ?_
      rw [ec, ed]
      refine x_iconst (pc := 16) (v := 1) dX4_leaveOut_16 rfl ?_
      refine x_iload_n (pc := 17) dX4_leaveOut_17 rfl ?_
      refine x_ishl (pc := 18) dX4_leaveOut_18 ?_
      refine x_iconst (pc := 19) (v := -1) dX4_leaveOut_19 rfl ?_
      refine x_ixor (pc := 20) dX4_leaveOut_20 ?_
      refine x_iand (pc := 21) dX4_leaveOut_21 ?_
      rw [er]
      refine k_iast (pc := 22) hK dX4_leaveOut_22 (rfl) (by show d < 7; omega) (by decide) ?_
      refine x_iinc (pc := 23) (lv2 := [_, _, _, _]) dX4_leaveOut_23 (by decide) rfl rfl (nI_1 _) rfl ?_
      refine x_goto (pc := 26) (tgt := 2) dX4_leaveOut_26 rfl ?_
      refine ih (d + 1) _ (by omega) (hq.A ⟨rfl, rfl⟩) (fun e he => ?_)
      rcases Nat.lt_or_ge e d with y | y
      · rw [kA_i (by omega)]
        exact h1 e y
      · obtain rfl : e = d := by omega
        rw [kA_s]
  refine x_iconst (pc := 0) (v := 0) dX4_leaveOut_0 rfl ?_
  refine x_istore_n (pc := 1) (lv2 := [_, _, _, _]) dX4_leaveOut_1 (by decide) rfl rfl ?_
  exact Lo 7 0 κ (by omega) kq.rf (fun e he => absurd he (by omega))
theorem k_giveAway (hK : KO μ b 3 4 plL) (x : Int32) : XM Γ zX4_giveAway 1 0 0 [.ref (adO b 3), .int x] (KV μ b κ) (rv (KV μ b (kI κ 3 2 x))) := by
  refine XM.of 0 rfl (by decide) (Nat.le_of_ble_eq_true rfl) ?_
  refine x_aload_n (pc := 0) dX4_giveAway_0 rfl ?_
  refine x_iload_n (pc := 1) dX4_giveAway_1 rfl ?_
  refine k_putI (pc := 2) hK dX4_giveAway_2 fk_4_21 (Or.inl rfl) (Or.inl rfl) ?_
  refine x_return (pc := 5) dX4_giveAway_5 rfl ?_
  exact ⟨rfl, rfl⟩
theorem k_lackOf {D : PD} {n aw : Nat} (hP : KP μ b (D 0)) (hL : PL κ D n aw) (hD : DC κ D) {t : Nat} (ht : t < n) : XM Γ zX4_lackOf 3 0 0 [.ref (adO b 3), .int (nI t)] (KV μ b κ) (rt (.int (nI (lkD D t 7))) (KV μ b κ)) := by
  refine XM.of 2 rfl (by decide) (Nat.le_of_ble_eq_true rfl) ?_
  have hn := hL.1.1
  obtain ⟨hK, hth0, hX, hLe⟩ := hP
  obtain ⟨hTt, hLt⟩ := hL.2.2.2.2.1 t ht
  have hXt := (hX.2 t (by omega)).2
  have Lo : ∀ (m d : Nat), d + m = 7 → WA Γ zX4_lackOf (xrm 3 0 0) 0 0 0 0 (rt (.int (nI (lkD D t 7))) (KV μ b κ)) 4 [some (.ref (adO b 3)), some (.int (nI t)), some (.int (nI (lkD D t d))), some (.int (nI d))] [] (KV μ b κ) := by
    intro m
    induction m with
    | zero =>
      intro d hd
      obtain rfl : d = 7 := by omega
      refine x_iload_n (pc := 4) dX4_lackOf_4 rfl ?_
      refine x_bipush (pc := 5) (v := 7) dX4_lackOf_5 rfl ?_
      refine x_icmp_ge (pc := 7) (tgt := 34) dX4_lackOf_7 rfl (fun h_7 => ?_) (fun h_7 => absurd (by decide) h_7)
      refine x_iload_n (pc := 34) dX4_lackOf_34 rfl ?_
      refine x_ireturn (pc := 35) dX4_lackOf_35 rfl rfl ?_
      exact ⟨rfl, rfl⟩
    | succ m ih =>
      intro d hd
      have hG := hL.1.2.2.2.2 d (by omega)
      have hst : lkD D t (d + 1) = lkD D t d + (if (D 6 d).testBit (D 2 t) = true then D 9 (5 * t + bc (D 6 d)) * msD (D 0 t) (D 1 t) else 0) := rfl
      refine x_iload_n (pc := 4) dX4_lackOf_4 rfl ?_
      refine x_bipush (pc := 5) (v := 7) dX4_lackOf_5 rfl ?_
      refine x_icmp_ge (pc := 7) (tgt := 34) dX4_lackOf_7 rfl (fun h_7 => absurd h_7 (lit_le (n := 7) d (by omega) (by omega))) (fun h_7 => ?_)
      refine x_iload_n (pc := 10) dX4_lackOf_10 rfl ?_
      refine x_aload_n (pc := 11) dX4_lackOf_11 rfl ?_
      refine k_getR (pc := 12) hK dX4_lackOf_12 fk_4_11 (Or.inr ⟨_, rfl⟩) (hth0) ?_
      refine x_iload_n (pc := 15) dX4_lackOf_15 rfl ?_
      refine x_aald (pc := 16) dX4_lackOf_16 (hX.1) (Or.inl rfl) (rfl) ((by omega)) (by decide) ((hX.2 t (by omega)).1) ?_
      refine x_aload_n (pc := 17) dX4_lackOf_17 rfl ?_
      refine k_getA (pc := 18) hK dX4_lackOf_18 fk_4_31 (Or.inr ⟨_, rfl⟩) (by decide) ?_
      refine x_iload_n (pc := 21) dX4_lackOf_21 rfl ?_
      refine k_iald (pc := 22) hK dX4_lackOf_22 (rfl) (by show d < 7; omega) (by decide) ?_
      rw [hD d (by omega)]
      refine x_callU (pc := 23) (As := [.int _]) dX4_lackOf_23 mX9_lackFor (lt_4_136 (kci_th (D 0 t))) hXt.2.2.1 (k_lackFor (kci_th (D 0 t)) hXt hTt hLt hG) rfl rfl (Nat.le_of_ble_eq_true rfl) ⟨by decide, by decide⟩ ⟨Nat.zero_le _, Nat.zero_le _⟩ (k_rt ?_)
      refine x_iadd (pc := 26) dX4_lackOf_26 ?_
      rw [nI_add, ← hst]
      refine x_istore_n (pc := 27) (lv2 := [_, _, _, _]) dX4_lackOf_27 (by decide) rfl rfl ?_
      refine x_iinc (pc := 28) (lv2 := [_, _, _, _]) dX4_lackOf_28 (by decide) rfl rfl (nI_1 _) rfl ?_
      refine x_goto (pc := 31) (tgt := 4) dX4_lackOf_31 rfl ?_
      exact ih (d + 1) (by omega)
  refine x_iconst (pc := 0) (v := 0) dX4_lackOf_0 rfl ?_
  refine x_istore_n (pc := 1) (lv2 := [_, _, _, _]) dX4_lackOf_1 (by decide) rfl rfl ?_
  refine x_iconst (pc := 2) (v := 0) dX4_lackOf_2 rfl ?_
  refine x_istore_n (pc := 3) (lv2 := [_, _, _, _]) dX4_lackOf_3 (by decide) rfl rfl ?_
  exact Lo 7 0 (by omega)
theorem k_draw (hK : KO μ b 3 4 plL) (sd : Int32) : XM Γ zX4_draw 1 0 0 [.ref (adO b 3), .int sd] (KV μ b κ) (fun x μ2 => ∃ κ2, x = none ∧ μ2 = KV μ b κ2 ∧ kq daP κ κ2 ∧ ∀ d, d < 7 → κ2.2 3 5 d = nI (dwN (zz sd (d + 1)))) := by
  refine XM.of 2 rfl (by decide) (Nat.le_of_ble_eq_true rfl) ?_
  have Lo : ∀ (m d : Nat) (κ2 : KS), d + m = 7 → kq daP κ κ2 → (∀ e, e < d → κ2.2 3 5 e = nI (dwN (zz sd (e + 1)))) → WA Γ zX4_draw (xrm 1 0 0) 0 0 0 0 (fun x μ2 => ∃ κ2, x = none ∧ μ2 = KV μ b κ2 ∧ kq daP κ κ2 ∧ ∀ d, d < 7 → κ2.2 3 5 d = nI (dwN (zz sd (d + 1)))) 4 [some (.ref (adO b 3)), some (.int sd), some (.int (zz sd d)), some (.int (nI d))] [] (KV μ b κ2) := by
    intro m
    induction m with
    | zero =>
      intro d κ2 hd hq h1
      obtain rfl : d = 7 := by omega
      refine x_iload_n (pc := 4) dX4_draw_4 rfl ?_
      refine x_bipush (pc := 5) (v := 7) dX4_draw_5 rfl ?_
      refine x_icmp_ge (pc := 7) (tgt := 38) dX4_draw_7 rfl (fun h_7 => ?_) (fun h_7 => absurd (by decide) h_7)
      refine x_return (pc := 38) dX4_draw_38 rfl ?_
      exact ⟨κ2, rfl, rfl, hq, fun d hd => h1 d hd⟩
    | succ m ih =>
      intro d κ2 hd hq h1
      have ez : zz sd d * 1103515245 + 12345 = zz sd (d + 1) := rfl
      refine x_iload_n (pc := 4) dX4_draw_4 rfl ?_
      refine x_bipush (pc := 5) (v := 7) dX4_draw_5 rfl ?_
      refine x_icmp_ge (pc := 7) (tgt := 38) dX4_draw_7 rfl (fun h_7 => absurd h_7 (lit_le (n := 7) d (by omega) (by omega))) (fun h_7 => ?_)
      refine x_iload_n (pc := 10) dX4_draw_10 rfl ?_
      refine x_ldc (pc := 11) dX4_draw_11 kc_4_139 ?_
      refine x_imul (pc := 13) dX4_draw_13 ?_
      refine x_sipush (pc := 14) (v := 12345) dX4_draw_14 rfl ?_
      refine x_iadd (pc := 17) dX4_draw_17 ?_
      rw [ez]
      refine x_istore_n (pc := 18) (lv2 := [_, _, _, _]) dX4_draw_18 (by decide) rfl rfl ?_
      refine x_aload_n (pc := 19) dX4_draw_19 rfl ?_
      refine k_getA (pc := 20) hK dX4_draw_20 fk_4_31 (Or.inr ⟨_, rfl⟩) (by decide) ?_
      refine x_iload_n (pc := 23) dX4_draw_23 rfl ?_
      refine x_iload_n (pc := 24) dX4_draw_24 rfl ?_
      refine x_bipush (pc := 25) (v := 9) dX4_draw_25 rfl ?_
      refine x_iushr (pc := 27) dX4_draw_27 ?_
      refine x_bipush (pc := 28) (v := 16) dX4_draw_28 rfl ?_
      refine x_irem (pc := 30) dX4_draw_30 (by decide) ?_
      rw [show ((zz sd (d + 1)).toUInt32 >>> ((9 : Int32).toUInt32 &&& Int32.toUInt32 31)).toInt32 - ((zz sd (d + 1)).toUInt32 >>> ((9 : Int32).toUInt32 &&& Int32.toUInt32 31)).toInt32 / 16 * 16 = nI (dwN (zz sd (d + 1))) from (dw_a _).1]
      refine k_iast (pc := 31) hK dX4_draw_31 (rfl) (by show d < 7; omega) (by decide) ?_
      refine x_iinc (pc := 32) (lv2 := [_, _, _, _]) dX4_draw_32 (by decide) rfl rfl (nI_1 _) rfl ?_
      refine x_goto (pc := 35) (tgt := 4) dX4_draw_35 rfl ?_
      refine ih (d + 1) _ (by omega) (hq.A ⟨rfl, rfl⟩) (fun e he => ?_)
      rcases Nat.lt_or_ge e d with y | y
      · rw [kA_i (by omega)]
        exact h1 e y
      · obtain rfl : e = d := by omega
        rw [kA_s]
  refine x_iload_n (pc := 0) dX4_draw_0 rfl ?_
  refine x_istore_n (pc := 1) (lv2 := [_, _, _, _]) dX4_draw_1 (by decide) rfl rfl ?_
  refine x_iconst (pc := 2) (v := 0) dX4_draw_2 rfl ?_
  refine x_istore_n (pc := 3) (lv2 := [_, _, _, _]) dX4_draw_3 (by decide) rfl rfl ?_
  exact Lo 7 0 κ (by omega) kq.rf (fun e he => absurd he (by omega))
end M85
