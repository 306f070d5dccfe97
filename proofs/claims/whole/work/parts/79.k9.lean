/-! the class: seeks by its table -/
section M79a
variable {Γ : Gm} {M : Mt} {R : Room} {mc ms cl sl : Nat} {Q : Option Value → Mem → Prop} {pc : Nat} {lv : List (Option Value)} {st : List Value} {μ : Mem} {b : Kb} {κ : KS}
theorem x_aald7 {q n i a : Nat} {j : Int32} (d : decode M.2.1 pc = .ok (.aaload, 1)) (hT : mT μ q = (7, n)) (hj : j = nI i) (hi : i < n) (hn : n < 2 ^ 31) (ha : mX μ q i = some a) (kk : WA Γ M R mc ms cl sl Q (pc + 1) lv (.ref a :: st) μ) : WA Γ M R mc ms cl sl Q pc lv (.int j :: .ref q :: st) μ := by
  intro p e s m args below meth c Qf H locs ls F hS hP hl hE
  obtain ⟨hx, hb, -, -, -, -, -, -, hK, -, -⟩ := id F
  obtain ⟨L, hPL, hD, hL⟩ := id hP
  have hq : q ∈ L := (hL q).mpr (by rw [hT]; exact fun h => by cases h)
  obtain ⟨z, hz⟩ := va_pl_get (X := []) (f := xcell (gC Γ) μ) hq
  have k2 := kk p e s m args below meth c Qf H locs ls F hS hP hl hE
  obtain ⟨h1, h2⟩ := vpin hj hi hn
  rw [xcell_x (k := 3) hT] at hz
  have hlt : j.toNatClampNeg < n := by rw [h2]; exact hi
  exact W.aald (v := va_rf (mX μ q j.toNatClampNeg)) (ty := .array .int) hx hb (hPL z _ hz) ((hK.2 5 (gC Γ 5, .array .int) rfl).1 n (fun x => va_rf (mX μ q x))) rfl (fun y => by cases y) (by show ¬ (j < 0 ∨ (arrV _ _ _).slots.size ≤ _); rw [arrV_size]; exact h1) (by show (arrV _ _ _).slots[_]? = _; rw [arrV_read _ _ hlt]) rfl rfl d (by rw [h2, ha]; exact k2)
/-- a row of ints that no field holds -/
def KR (μ : Mem) (b : Kb) (o f n : Nat) : Prop := Kc b ∧ o < 25 ∧ mT μ (adR b o f) = (2, n) ∧ ivR b (adR b o f) = (o, f)
theorem r_iald {o k i n : Nat} {j : Int32} (h : KR μ b o k n) (d : decode M.2.1 pc = .ok (.iaload, 1)) (hj : j = nI i) (hi : i < n) (hl : n < 2 ^ 31) (kk : WA Γ M R mc ms cl sl Q (pc + 1) lv (.int (κ.2 o k i) :: st) (KV μ b κ)) : WA Γ M R mc ms cl sl Q pc lv (.int j :: .ref (adR b o k) :: st) (KV μ b κ) := by
  refine x_iald d h.2.2.1 hj hi hl ?_
  rw [KV_mA h.2.2.2 h.2.1]
  exact kk
theorem r_iast {o k i n : Nat} {j v : Int32} (h : KR μ b o k n) (d : decode M.2.1 pc = .ok (.iastore, 1)) (hj : j = nI i) (hi : i < n) (hl : n < 2 ^ 31) (kk : WA Γ M R mc ms cl sl Q (pc + 1) lv st (KV μ b (kA κ o k i v))) : WA Γ M R mc ms cl sl Q pc lv (.int v :: .int j :: .ref (adR b o k) :: st) (KV μ b κ) := by
  refine x_iast d h.2.2.1 hj hi hl ?_
  rw [KV_A h.1 h.2.1 h.2.2.2]
  exact kk
end M79a
def plL : Nat → Nat := fun f => if f = 3 then 6 else if f = 4 then 4 else if f = 5 then 7 else if f = 6 then 7 else if f = 7 then 5 else if f = 8 then 5 else 0
/-- the row of things of the house, by their kinds -/
def KX (μ : Mem) (b : Kb) (kd : Nat → Nat) : Prop := mT μ (adR b 1 3) = (4, 5) ∧ ∀ t, t < 5 → mX μ (adR b 1 3) t = some (adO b (15 + t)) ∧ KO μ b (15 + t) (kci (kd t)) thL
/-- the table -/
def KL (μ : Mem) (b : Kb) : Prop := mR μ (adO b 3) 11 = some (adR b 3 11) ∧ mT μ (adR b 3 11) = (7, 6) ∧ ∀ r, r < 6 → mX μ (adR b 3 11) r = some (adR b 3 (100 + r)) ∧ KR μ b 3 (100 + r) 320
/-- the planner, with the house's things -/
def KP (μ : Mem) (b : Kb) (kd : Nat → Nat) : Prop := KO μ b 3 4 plL ∧ mR μ (adO b 3) 0 = some (adR b 1 3) ∧ KX μ b kd ∧ KL μ b
def PRc (κ : KS) (cp : Nat → Nat → Nat) (n : Nat) : Prop := ∀ t, t < n → ∀ s, s < 7 → κ.2 (15 + t) 12 s = nI (cp t s)
def RMc (κ : KS) (rm : Nat → Nat) (n : Nat) : Prop := ∀ t, t < n → κ.2 3 7 t = nI (rm t) - 1 ∧ rm t < 7
def bcu (u : Nat) : Nat := bc (u % 16) + bc (u / 16)
theorem bcu_u : ∀ u, u < 64 → ∀ s, s < 7 → bcu (ust u s) ≤ bcu u + 1 ∧ ust u s < 64 := by decide +kernel
/-- row t of the table, for up to lm moves -/
def LT (κ : KS) (pr : Nat → Nat → Nat) (ok : Nat → Nat → Bool) (rm : Nat → Nat) (cn : Bool) (n lm t : Nat) : Prop := ∀ l, l ≤ lm → ∀ u, u < 64 → bcu u ≤ t → κ.2 3 (100 + t) (64 * l + u) = nI (cst (bst pr ok rm cn (n - t) t u l))
def cnI (cn : Bool) : Int32 := if cn = true then 1 else 0
section M79
variable {Γ : Gm} {μ : Mem} {b : Kb} {κ : KS}
theorem k_costFrom {kd : Nat → Nat} {n : Nat} (hP : KP μ b kd) (hn : n ≤ 5) {cp pr : Nat → Nat → Nat} {ok : Nat → Nat → Bool} {rm : Nat → Nat} {cn : Bool} (hcp : cpO cp pr ok n) (hpr : PRc κ cp n) (hrm : RMc κ rm n) {t s l u lm : Nat} (ht : t < n) (hs : s < 7) (hl : l ≤ lm) (hlm : lm ≤ 4) (hu : u < 64) (hbu : bcu u ≤ t) (hLT : LT κ pr ok rm cn n lm (t + 1)) : XM Γ zX4_costFrom 2 0 0 [.ref (adO b 3), .int (nI t), .int (nI s), .int (nI l), .int (nI u), .int (cnI cn)] (KV μ b κ) (rt (.int (nI (cfN cp pr ok rm cn (n - t - 1) t u l s))) (KV μ b κ)) := by
  refine XM.of 2 rfl (by decide) (Nat.le_of_ble_eq_true rfl) ?_
  obtain ⟨hK, hth0, hX, hle0, hleT, hleX⟩ := hP
  obtain ⟨er, hr7⟩ := hrm t ht
  obtain ⟨ub1, ub2⟩ := bcu_u u hu s hs
  obtain ⟨ua1, ua2⟩ := us_a u hu s hs
  have eb := bp_a s hs
  have emv : nI s - 1 = nI (rm t) - 1 ↔ s = rm t := sp_eq s hs (rm t) hr7
  have hmt : n - t - 1 = n - (t + 1) := by omega
  -- from the row on
  have T : ∀ (l2 : Nat), l2 ≤ lm → lft cn rm t s l = l2 → ¬ (cn = true ∧ rm t ≠ s ∧ l = 0) → WA Γ zX4_costFrom (xrm 2 0 0) 0 0 0 0 (rt (.int (nI (cfN cp pr ok rm cn (n - t - 1) t u l s))) (KV μ b κ)) 24 [some (.ref (adO b 3)), some (.int (nI t)), some (.int (nI s)), some (.int (nI l)), some (.int (nI u)), some (.int (cnI cn)), none, none] [.int (nI l2)] (KV μ b κ) := by
    intro l2 hl2 e2 hno
    have eix : nI l2 * 64 + nI (ust u s) = nI (64 * l2 + ust u s) := by rw [show (64 : Int32) = nI 64 from rfl, pk_mul, nI_add, Nat.mul_comm]
    refine x_istore (pc := 24) (lv2 := [_, _, _, _, _, _, _, _]) dX4_costFrom_24 (by decide) rfl rfl ?_
    refine x_iload_n (pc := 26) dX4_costFrom_26 rfl ?_
    refine x_callS (pc := 27) (As := [.int _]) dX4_costFrom_27 mX4_bitOf lk_4_88 (k_bitOf _) rfl rfl (Nat.le_of_ble_eq_true rfl) ⟨by decide, by decide⟩ ⟨Nat.zero_le _, Nat.zero_le _⟩ (k_rt ?_)
    rw [eb]
    refine x_istore (pc := 30) (lv2 := [_, _, _, _, _, _, _, _]) dX4_costFrom_30 (by decide) rfl rfl ?_
    refine x_iload (pc := 32) dX4_costFrom_32 rfl ?_
    refine x_if_lt (pc := 34) (tgt := 45) dX4_costFrom_34 rfl (fun h_34 => absurd h_34 (nI_pos (by omega))) (fun h_34 => ?_)
    refine x_iload (pc := 37) dX4_costFrom_37 rfl ?_
    refine x_iload (pc := 39) dX4_costFrom_39 rfl ?_
    refine x_iand (pc := 41) dX4_costFrom_41 ?_
    refine x_if_eq (pc := 42) (tgt := 48) dX4_costFrom_42 rfl (fun h_42 => ?_) (fun h_42 => ?_)
    · refine x_aload_n (pc := 48) dX4_costFrom_48 rfl ?_
      refine k_getR (pc := 49) hK dX4_costFrom_49 fk_4_11 (Or.inr ⟨_, rfl⟩) (hth0) ?_
      refine x_iload_n (pc := 52) dX4_costFrom_52 rfl ?_
      refine x_aald (pc := 53) dX4_costFrom_53 (hX.1) (Or.inl rfl) (rfl) ((by omega)) (by decide) ((hX.2 t (by omega)).1) ?_
      refine k_getA (pc := 54) (hX.2 t (by omega)).2 dX4_costFrom_54 (fk_4_177 (kci_th _)) (th_a (kci_th _) (by decide)) (by decide) ?_
      refine x_iload_n (pc := 57) dX4_costFrom_57 rfl ?_
      refine k_iald (pc := 58) (hX.2 t (by omega)).2 dX4_costFrom_58 (rfl) (hs) (by show 7 < 2 ^ 31; omega) ?_
      refine x_aload_n (pc := 59) dX4_costFrom_59 rfl ?_
      refine k_getR (pc := 60) hK dX4_costFrom_60 fk_4_51 (Or.inr ⟨_, rfl⟩) (hle0) ?_
      refine x_iload_n (pc := 63) dX4_costFrom_63 rfl ?_
      refine x_iconst (pc := 64) (v := 1) dX4_costFrom_64 rfl ?_
      refine x_iadd (pc := 65) dX4_costFrom_65 ?_
      rw [nI_1]
      refine x_aald7 (pc := 66) dX4_costFrom_66 hleT rfl (by omega) (by decide) (hleX (t + 1) (by omega)).1 ?_
      refine x_iload (pc := 67) dX4_costFrom_67 rfl ?_
      refine x_bipush (pc := 69) (v := 64) dX4_costFrom_69 rfl ?_
      refine x_imul (pc := 71) dX4_costFrom_71 ?_
      refine x_iload (pc := 72) dX4_costFrom_72 rfl ?_
      refine x_iload (pc := 74) dX4_costFrom_74 rfl ?_
      refine x_ior (pc := 76) dX4_costFrom_76 ?_
      rw [ua2]
      refine x_iadd (pc := 77) dX4_costFrom_77 ?_
      rw [eix]
      refine r_iald (pc := 78) (hleX (t + 1) (by omega)).2 dX4_costFrom_78 rfl (by omega) (by decide) ?_
      rw [hpr t ht s hs, hLT l2 hl2 (ust u s) ub2 (by omega)]
      refine x_iadd (pc := 79) dX4_costFrom_79 ?_
      rw [nI_add]
      refine x_ireturn (pc := 80) dX4_costFrom_80 rfl rfl ?_
      refine ⟨?_, rfl⟩
      unfold cfN
      rw [if_neg (by
        rintro (z | z)
        · exact hno z
        · rw [ua1.mp (by first | exact h_42 | exact Decidable.not_not.mp h_42)] at z
          exact absurd z (by decide)), e2, hmt]
    · refine x_ldc (pc := 45) dX4_costFrom_45 kc_4_167 ?_
      refine x_ireturn (pc := 47) dX4_costFrom_47 rfl rfl ?_
      refine ⟨?_, rfl⟩
      unfold cfN
      rw [if_pos (Or.inr (by
        cases h : utk u s
        · exact absurd (ua1.mpr h) h_42
        · rfl))]
      rfl
  rcases (show cn = true ∨ cn = false by cases cn; exact Or.inr rfl; exact Or.inl rfl) with hc | hc
  · subst hc
    by_cases hmv : rm t = s
    · refine x_iload (pc := 0) dX4_costFrom_0 rfl ?_
      refine x_if_eq (pc := 2) (tgt := 23) dX4_costFrom_2 rfl (fun h_2 => absurd h_2 (by decide)) (fun h_2 => ?_)
      refine x_iload_n (pc := 5) dX4_costFrom_5 rfl ?_
      refine x_iconst (pc := 6) (v := 1) dX4_costFrom_6 rfl ?_
      refine x_isub (pc := 7) dX4_costFrom_7 ?_
      refine x_aload_n (pc := 8) dX4_costFrom_8 rfl ?_
      refine k_getA (pc := 9) hK dX4_costFrom_9 fk_4_37 (Or.inr ⟨_, rfl⟩) (by decide) ?_
      refine x_iload_n (pc := 12) dX4_costFrom_12 rfl ?_
      refine k_iald (pc := 13) hK dX4_costFrom_13 (rfl) (by show t < 5; omega) (by decide) ?_
      rw [er]
      refine x_icmp_eq (pc := 14) (tgt := 23) dX4_costFrom_14 rfl (fun h_14 => ?_) (fun h_14 => absurd (emv.mpr hmv.symm) h_14)
      refine x_iload_n (pc := 23) dX4_costFrom_23 rfl ?_
      exact T l hl (by unfold lft; rw [if_neg (fun z => z.2 hmv)]) (fun z => z.2.1 hmv)
    · rcases Nat.eq_zero_or_pos l with hl0 | hl0
      · refine x_iload (pc := 0) dX4_costFrom_0 rfl ?_
        refine x_if_eq (pc := 2) (tgt := 23) dX4_costFrom_2 rfl (fun h_2 => absurd h_2 (by decide)) (fun h_2 => ?_)
        refine x_iload_n (pc := 5) dX4_costFrom_5 rfl ?_
        refine x_iconst (pc := 6) (v := 1) dX4_costFrom_6 rfl ?_
        refine x_isub (pc := 7) dX4_costFrom_7 ?_
        refine x_aload_n (pc := 8) dX4_costFrom_8 rfl ?_
        refine k_getA (pc := 9) hK dX4_costFrom_9 fk_4_37 (Or.inr ⟨_, rfl⟩) (by decide) ?_
        refine x_iload_n (pc := 12) dX4_costFrom_12 rfl ?_
        refine k_iald (pc := 13) hK dX4_costFrom_13 (rfl) (by show t < 5; omega) (by decide) ?_
        rw [er]
        refine x_icmp_eq (pc := 14) (tgt := 23) dX4_costFrom_14 rfl (fun h_14 => absurd h_14 (fun z => hmv (emv.mp z).symm)) (fun h_14 => ?_)
        refine x_iload_n (pc := 17) dX4_costFrom_17 rfl ?_
        refine x_iconst (pc := 18) (v := 1) dX4_costFrom_18 rfl ?_
        refine x_isub (pc := 19) dX4_costFrom_19 ?_
        refine x_goto (pc := 20) (tgt := 24) dX4_costFrom_20 rfl ?_
        refine x_istore (pc := 24) (lv2 := [_, _, _, _, _, _, _, _]) dX4_costFrom_24 (by decide) rfl rfl ?_
        refine x_iload_n (pc := 26) dX4_costFrom_26 rfl ?_
        refine x_callS (pc := 27) (As := [.int _]) dX4_costFrom_27 mX4_bitOf lk_4_88 (k_bitOf _) rfl rfl (Nat.le_of_ble_eq_true rfl) ⟨by decide, by decide⟩ ⟨Nat.zero_le _, Nat.zero_le _⟩ (k_rt ?_)
        rw [eb]
        refine x_istore (pc := 30) (lv2 := [_, _, _, _, _, _, _, _]) dX4_costFrom_30 (by decide) rfl rfl ?_
        refine x_iload (pc := 32) dX4_costFrom_32 rfl ?_
        refine x_if_lt (pc := 34) (tgt := 45) dX4_costFrom_34 rfl (fun h_34 => ?_) (fun h_34 => absurd (by rw [hl0]; decide) h_34)
        refine x_ldc (pc := 45) dX4_costFrom_45 kc_4_167 ?_
        refine x_ireturn (pc := 47) dX4_costFrom_47 rfl rfl ?_
        exact ⟨by unfold cfN; rw [if_pos (Or.inl ⟨rfl, hmv, hl0⟩)]; rfl, rfl⟩
      · refine x_iload (pc := 0) dX4_costFrom_0 rfl ?_
        refine x_if_eq (pc := 2) (tgt := 23) dX4_costFrom_2 rfl (fun h_2 => absurd h_2 (by decide)) (fun h_2 => ?_)
        refine x_iload_n (pc := 5) dX4_costFrom_5 rfl ?_
        refine x_iconst (pc := 6) (v := 1) dX4_costFrom_6 rfl ?_
        refine x_isub (pc := 7) dX4_costFrom_7 ?_
        refine x_aload_n (pc := 8) dX4_costFrom_8 rfl ?_
        refine k_getA (pc := 9) hK dX4_costFrom_9 fk_4_37 (Or.inr ⟨_, rfl⟩) (by decide) ?_
        refine x_iload_n (pc := 12) dX4_costFrom_12 rfl ?_
        refine k_iald (pc := 13) hK dX4_costFrom_13 (rfl) (by show t < 5; omega) (by decide) ?_
        rw [er]
        refine x_icmp_eq (pc := 14) (tgt := 23) dX4_costFrom_14 rfl (fun h_14 => absurd h_14 (fun z => hmv (emv.mp z).symm)) (fun h_14 => ?_)
        refine x_iload_n (pc := 17) dX4_costFrom_17 rfl ?_
        refine x_iconst (pc := 18) (v := 1) dX4_costFrom_18 rfl ?_
        refine x_isub (pc := 19) dX4_costFrom_19 ?_
        rw [show nI l - 1 = nI (l - 1) by obtain ⟨z, hz⟩ : ∃ z, l = z + 1 := ⟨l - 1, by omega⟩; rw [hz, nI_pred]; rfl]
        refine x_goto (pc := 20) (tgt := 24) dX4_costFrom_20 rfl ?_
        exact T (l - 1) (by omega) (by unfold lft; rw [if_pos ⟨rfl, hmv⟩]) (fun z => by have := z.2.2; omega)
  · subst hc
    refine x_iload (pc := 0) dX4_costFrom_0 rfl ?_
    refine x_if_eq (pc := 2) (tgt := 23) dX4_costFrom_2 rfl (fun h_2 => ?_) (fun h_2 => absurd (rfl) h_2)
    refine x_iload_n (pc := 23) dX4_costFrom_23 rfl ?_
    exact T l hl (by unfold lft; rw [if_neg (fun z => by have := z.1; cases this)]) (fun z => by have := z.1; cases this)
end M79
