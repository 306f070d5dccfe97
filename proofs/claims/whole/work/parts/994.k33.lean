/-! the class: a house: what it has, what is taken, how many are put -/
/-- a house's row of things -/
def KXo (μ : Mem) (b : Kb) (o base : Nat) (kd : Nat → Nat) : Prop := mR μ (adO b o) 3 = some (adR b o 3) ∧ mT μ (adR b o 3) = (4, 5) ∧ ∀ t, t < 5 → mX μ (adR b o 3) t = some (adO b (base + t)) ∧ KO μ b (base + t) (kci (kd t)) thL
def cntP (κ : KS) (base : Nat) : Nat → Nat
  | 0 => 0
  | m + 1 => cntP κ base m + (if κ.1 (base + m) 5 = -1 then 0 else 1)
theorem cntP_le (κ : KS) (base : Nat) : ∀ m, cntP κ base m ≤ m
  | 0 => Nat.le_refl 0
  | m + 1 => by
    rw [cntP]
    have := cntP_le κ base m
    split <;> omega
section M994
variable {Γ : Gm} {μ : Mem} {b : Kb} {κ : KS} {o base : Nat} {kd : Nat → Nat}
theorem k_has {v : Int32} (hK : KO μ b o 2 hsL) {n : Nat} (h4 : κ.1 o 4 = nI n) (hn : n ≤ 5) : XM Γ zX2_has 2 0 0 [.ref (adO b o), .int v] (KV μ b κ) (rt (.int (bi (0 ≤ v ∧ v < nI n))) (KV μ b κ)) := by
  refine XM.of 0 rfl (by decide) (Nat.le_of_ble_eq_true rfl) ?_
  refine x_iload_n (pc := 0) dX2_has_0 rfl ?_
  refine x_aload_n (pc := 1) dX2_has_1 rfl ?_
  refine k_getI (pc := 2) hK dX2_has_2 fk_2_27 (Or.inl rfl) ?_
  rw [h4]
  refine x_callSN (pc := 5) (As := [.int _, .int _]) dX2_has_5 mX11_isBelow lk_2_43 (k_isBelow _ _) rfl rfl (Nat.le_of_ble_eq_true rfl) ⟨by decide, by decide⟩ ⟨Nat.zero_le _, Nat.zero_le _⟩ (k_rt ?_)
  refine x_ireturn (pc := 8) dX2_has_8 rfl (by first | rfl | exact bi_nz) ?_
  exact ⟨rfl, rfl⟩
theorem k_isTaken {v : Int32} (hK : KO μ b o 2 hsL) {n : Nat} (h4 : κ.1 o 4 = nI n) (hn : n ≤ 5) (hX : KXo μ b o base kd) : XM Γ zX2_isTaken 0 0 0 [.ref (adO b o), .int v] (KV μ b κ) (rt (.int (bi (∃ t, t < n ∧ κ.1 (base + t) 5 = v))) (KV μ b κ)) := by
  refine XM.of 1 rfl (by decide) (Nat.le_of_ble_eq_true rfl) ?_
  have L : ∀ m t : Nat, t + m = n → (∀ x, x < t → ¬ κ.1 (base + x) 5 = v) → WA Γ zX2_isTaken (xrm 0 0 0) 0 0 0 0 (rt (.int (bi (∃ t, t < n ∧ κ.1 (base + t) 5 = v))) (KV μ b κ)) 2 [some (.ref (adO b o)), some (.int v), some (.int (nI t))] [] (KV μ b κ) := by
    intro m
    induction m with
    | zero =>
      intro t ht hno
      obtain rfl : t = n := by omega
      refine x_iload_n (pc := 2) dX2_isTaken_2 rfl ?_
      refine x_aload_n (pc := 3) dX2_isTaken_3 rfl ?_
      refine k_getI (pc := 4) hK dX2_isTaken_4 fk_2_27 (Or.inl rfl) ?_
      rw [h4]
      refine x_icmp_ge (pc := 7) (tgt := 31) dX2_isTaken_7 rfl (fun h_7 => ?_) (fun h_7 => absurd (Int32.le_refl _) h_7)
      refine x_iconst (pc := 31) (v := 0) dX2_isTaken_31 rfl ?_
      refine x_ireturn (pc := 32) dX2_isTaken_32 rfl (by first | rfl | exact bi_nz) ?_
      rw [bi_f (fun z => by
        obtain ⟨x, hx, e⟩ := z
        exact hno x hx e)]
      exact ⟨rfl, rfl⟩
    | succ m ih =>
      intro t ht hno
      refine x_iload_n (pc := 2) dX2_isTaken_2 rfl ?_
      refine x_aload_n (pc := 3) dX2_isTaken_3 rfl ?_
      refine k_getI (pc := 4) hK dX2_isTaken_4 fk_2_27 (Or.inl rfl) ?_
      rw [h4]
      refine x_icmp_ge (pc := 7) (tgt := 31) dX2_isTaken_7 rfl (fun h_7 => absurd h_7 (nI_ge (a := t) (b := n) (by omega) (by omega))) (fun h_7 => ?_)
      refine x_aload_n (pc := 10) dX2_isTaken_10 rfl ?_
      refine k_getR (pc := 11) hK dX2_isTaken_11 fk_2_23 (Or.inr ⟨_, rfl⟩) (hX.1) ?_
      refine x_iload_n (pc := 14) dX2_isTaken_14 rfl ?_
      refine x_aald (pc := 15) dX2_isTaken_15 (hX.2.1) (Or.inl rfl) (rfl) (show t < 5 by omega) (by decide) ((hX.2.2 t (by omega)).1) ?_
      refine k_getI (pc := 16) (hX.2.2 t (show t < 5 by omega)).2 dX2_isTaken_16 (fk_2_47 (kci_th _)) (Or.inl (th_i (kci_th _) (by decide))) ?_
      refine x_iload_n (pc := 19) dX2_isTaken_19 rfl ?_
      refine x_icmp_ne (pc := 20) (tgt := 25) dX2_isTaken_20 rfl (fun h_20 => ?_) (fun h_20 => ?_)
      · refine x_iinc (pc := 25) (lv2 := [_, _, _]) dX2_isTaken_25 (by decide) rfl rfl (nI_1 _) rfl ?_
        refine x_goto (pc := 28) (tgt := 2) dX2_isTaken_28 rfl ?_
        refine ih (t + 1) (by omega) (fun x hx => ?_)
        rcases Nat.lt_or_ge x t with q | q
        · exact hno x q
        · obtain rfl : x = t := by omega
          exact h_20
      · refine x_iconst (pc := 23) (v := 1) dX2_isTaken_23 rfl ?_
        refine x_ireturn (pc := 24) dX2_isTaken_24 rfl (by first | rfl | exact bi_nz) ?_
        rw [bi_t (show ∃ t, t < n ∧ κ.1 (base + t) 5 = v from ⟨t, by omega, by first | exact h_20 | exact Decidable.not_not.mp h_20⟩)]
        exact ⟨rfl, rfl⟩
  refine x_iconst (pc := 0) (v := 0) dX2_isTaken_0 rfl ?_
  refine x_istore_n (pc := 1) (lv2 := [_, _, _]) dX2_isTaken_1 (by decide) rfl rfl ?_
  exact L n 0 (by omega) (fun x hx => absurd hx (by omega))
theorem k_howMany (hK : KO μ b o 2 hsL) {n : Nat} (h4 : κ.1 o 4 = nI n) (hn : n ≤ 5) (hX : KXo μ b o base kd) : XM Γ zX2_howManyArePut 0 0 0 [.ref (adO b o)] (KV μ b κ) (rt (.int (nI (cntP κ base n))) (KV μ b κ)) := by
  refine XM.of 2 rfl (by decide) (Nat.le_of_ble_eq_true rfl) ?_
  have L : ∀ m t : Nat, t + m = n → WA Γ zX2_howManyArePut (xrm 0 0 0) 0 0 0 0 (rt (.int (nI (cntP κ base n))) (KV μ b κ)) 4 [some (.ref (adO b o)), some (.int (nI (cntP κ base t))), some (.int (nI t))] [] (KV μ b κ) := by
    intro m
    induction m with
    | zero =>
      intro t ht
      obtain rfl : t = n := by omega
      refine x_iload_n (pc := 4) dX2_howManyArePut_4 rfl ?_
      refine x_aload_n (pc := 5) dX2_howManyArePut_5 rfl ?_
      refine k_getI (pc := 6) hK dX2_howManyArePut_6 fk_2_27 (Or.inl rfl) ?_
      rw [h4]
      refine x_icmp_ge (pc := 9) (tgt := 34) dX2_howManyArePut_9 rfl (fun h_9 => ?_) (fun h_9 => absurd (Int32.le_refl _) h_9)
      refine x_iload_n (pc := 34) dX2_howManyArePut_34 rfl ?_
      refine x_ireturn (pc := 35) dX2_howManyArePut_35 rfl rfl ?_
      exact ⟨rfl, rfl⟩
    | succ m ih =>
      intro t ht
      have e0 : cntP κ base (t + 1) = cntP κ base t + (if κ.1 (base + t) 5 = -1 then 0 else 1) := rfl
      refine x_iload_n (pc := 4) dX2_howManyArePut_4 rfl ?_
      refine x_aload_n (pc := 5) dX2_howManyArePut_5 rfl ?_
      refine k_getI (pc := 6) hK dX2_howManyArePut_6 fk_2_27 (Or.inl rfl) ?_
      rw [h4]
      refine x_icmp_ge (pc := 9) (tgt := 34) dX2_howManyArePut_9 rfl (fun h_9 => absurd h_9 (nI_ge (a := t) (b := n) (by omega) (by omega))) (fun h_9 => ?_)
      refine x_aload_n (pc := 12) dX2_howManyArePut_12 rfl ?_
      refine k_getR (pc := 13) hK dX2_howManyArePut_13 fk_2_23 (Or.inr ⟨_, rfl⟩) (hX.1) ?_
      refine x_iload_n (pc := 16) dX2_howManyArePut_16 rfl ?_
      refine x_aald (pc := 17) dX2_howManyArePut_17 (hX.2.1) (Or.inl rfl) (rfl) (show t < 5 by omega) (by decide) ((hX.2.2 t (by omega)).1) ?_
      refine k_getI (pc := 18) (hX.2.2 t (show t < 5 by omega)).2 dX2_howManyArePut_18 (fk_2_47 (kci_th _)) (Or.inl (th_i (kci_th _) (by decide))) ?_
      refine x_iconst (pc := 21) (v := -1) dX2_howManyArePut_21 rfl ?_
      refine x_icmp_eq (pc := 22) (tgt := 28) dX2_howManyArePut_22 rfl (fun h_22 => ?_) (fun h_22 => ?_)
      · refine x_iinc (pc := 28) (lv2 := [_, _, _]) dX2_howManyArePut_28 (by decide) rfl rfl (nI_1 _) rfl ?_
        refine x_goto (pc := 31) (tgt := 4) dX2_howManyArePut_31 rfl ?_
        have k := ih (t + 1) (by omega)
        rw [e0] at k
        first
          | (rw [if_pos (by first | exact h_22 | exact Decidable.not_not.mp h_22)] at k
             exact k)
          | (rw [if_neg (by exact h_22)] at k
             exact k)
      · refine x_iinc (pc := 25) (lv2 := [_, _, _]) dX2_howManyArePut_25 (by decide) rfl rfl (nI_1 _) rfl ?_
        refine x_iinc (pc := 28) (lv2 := [_, _, _]) dX2_howManyArePut_28 (by decide) rfl rfl (nI_1 _) rfl ?_
        refine x_goto (pc := 31) (tgt := 4) dX2_howManyArePut_31 rfl ?_
        have k := ih (t + 1) (by omega)
        rw [e0] at k
        first
          | (rw [if_pos (by first | exact h_22 | exact Decidable.not_not.mp h_22)] at k
             exact k)
          | (rw [if_neg (by exact h_22)] at k
             exact k)
  refine x_iconst (pc := 0) (v := 0) dX2_howManyArePut_0 rfl ?_
  refine x_istore_n (pc := 1) (lv2 := [_, _, _]) dX2_howManyArePut_1 (by decide) rfl rfl ?_
  refine x_iconst (pc := 2) (v := 0) dX2_howManyArePut_2 rfl ?_
  refine x_istore_n (pc := 3) (lv2 := [_, _, _]) dX2_howManyArePut_3 (by decide) rfl rfl ?_
  exact L n 0 (by omega)
end M994
