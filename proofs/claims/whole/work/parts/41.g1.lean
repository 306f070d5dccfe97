/-! the reference's reader: the machine does as the functions, on -/
section M41
variable {Γ : Gm} {μ : Mem} {a : Ma} {σ : MS}
theorem s_term {f n : Nat} (hM : MOK μ a) (hO : rdO σ f n) (N : Nat) (c0 : ∀ p, okp n p → 7 * (5 - pop p) + 0 < N → XM Γ zX12_atom (N + 4) 0 0 [.ref a.1] (MV μ a (Pσ σ p)) (rt (.int (pz σ f n N 0 p).1) (MV μ a (Pσ σ (pz σ f n N 0 p).2)))) : ∀ p, okp n p → 7 * (5 - pop p) + 1 < N + 1 → XM Γ zX12_term (N + 1 + 4) 0 0 [.ref a.1] (MV μ a (Pσ σ p)) (rt (.int (pz σ f n (N + 1) 1 p).1) (MV μ a (Pσ σ (pz σ f n (N + 1) 1 p).2))) := by
  intro p h hd
  have h4 : pop p ≤ 5 := h.2.2.2.1
  refine XM.of 1 rfl (by decide) (Nat.le_of_ble_eq_true rfl) ?_
  have L : ∀ (K : Nat) (v : Int32) (q : PT), okp n q → pop q = pop p → n - q.2.2.1 < K → WA Γ zX12_term (xrm (N + 5) 0 0) 0 0 0 0 (rt (.int (lpz (stT σ f n (pz σ f n N 0)) K v q).1) (MV μ a (Pσ σ (lpz (stT σ f n (pz σ f n N 0)) K v q).2))) 5 [some (.ref a.1), some (.int v)] [] (MV μ a (Pσ σ q)) := by
    intro K
    induction K with
    | zero => intro v q hq eq hk; omega
    | succ K ih =>
      intro v q hq eq hk
      have kn := kp_N hO hq
      have kg := pN_ok hO hq
      have ka := pz_kp hO N 0 _ kn.1
      have eqn : pop (pN σ f n q) = pop p := kn.2.2.trans eq
      refine x_aload_n (pc := 5) dX12_term_5 rfl ?_
      refine x_bipush (pc := 6) (v := 42) dX12_term_6 rfl ?_
      refine x_callV (pc := 8) (As := [.int _]) dX12_term_8 mX12_isSign lk_12_222 hM.1 (g_S hM hq _) rfl rfl (Nat.le_of_ble_eq_true rfl) ⟨by show _ ≤ N + 5; omega, by show _ ≤ 64 * (N + 5); omega⟩ ⟨Nat.zero_le _, Nat.zero_le _⟩ (k_rt ?_)
      refine x_if_eq (pc := 11) (tgt := 28) dX12_term_11 rfl (fun h_11 => ?_) (fun h_11 => ?_)
      · refine x_iload_n (pc := 28) dX12_term_28 rfl ?_
        refine x_ireturn (pc := 29) dX12_term_29 rfl rfl ?_
        have e : lpz (stT σ f n (pz σ f n N 0)) (K + 1) v q = (v, q) := by
          rw [lpz, stT, if_pos h_11]
        rw [e]
        exact ⟨rfl, rfl⟩
      · refine x_aload_n (pc := 14) dX12_term_14 rfl ?_
        refine x_callV (pc := 15) (As := []) dX12_term_15 mX12_next lk_12_197 hM.1 (g_N hM hO hq) rfl rfl (Nat.le_of_ble_eq_true rfl) ⟨by show _ ≤ N + 5; omega, by show _ ≤ 64 * (N + 5); omega⟩ ⟨Nat.zero_le _, Nat.zero_le _⟩ (k_rv ?_)
        refine x_iload_n (pc := 18) dX12_term_18 rfl ?_
        refine x_aload_n (pc := 19) dX12_term_19 rfl ?_
        refine x_callV (pc := 20) (As := []) dX12_term_20 mX12_atom lk_12_229 hM.1 (c0 _ kn.1 (by rw [eqn]; omega)) rfl rfl (Nat.le_of_ble_eq_true rfl) ⟨by show _ ≤ N + 5; omega, by show _ ≤ 64 * (N + 5); omega⟩ ⟨Nat.zero_le _, Nat.zero_le _⟩ (k_rt ?_)
        refine x_imul (pc := 23) dX12_term_23 ?_
        refine x_istore_n (pc := 24) (lv2 := [_, _]) dX12_term_24 (by decide) rfl rfl ?_
        refine x_goto (pc := 25) (tgt := 5) dX12_term_25 rfl ?_
        have hgt := qS_gt hq h_11
        have hta := ka.2.1
        have h1 := kg.2.1
        have h3 := hq.2.2.1
        have h0 := hq.1
        have e : lpz (stT σ f n (pz σ f n N 0)) (K + 1) v q = lpz (stT σ f n (pz σ f n N 0)) K (v * (pz σ f n N 0 (pN σ f n q)).1) (pz σ f n N 0 (pN σ f n q)).2 := by
          rw [lpz, stT, if_neg h_11]
        rw [e]
        exact ih _ _ ka.1 (ka.2.2.trans eqn) (by omega)
  have k0 := pz_kp hO N 0 p h
  refine x_aload_n (pc := 0) dX12_term_0 rfl ?_
  refine x_callV (pc := 1) (As := []) dX12_term_1 mX12_atom lk_12_229 hM.1 (c0 _ h (by omega)) rfl rfl (Nat.le_of_ble_eq_true rfl) ⟨by show _ ≤ N + 5; omega, by show _ ≤ 64 * (N + 5); omega⟩ ⟨Nat.zero_le _, Nat.zero_le _⟩ (k_rt ?_)
  refine x_istore_n (pc := 4) (lv2 := [_, _]) dX12_term_4 (by decide) rfl rfl ?_
  exact L 200 _ _ k0.1 k0.2.2 (by have := hO.2.2.1; omega)
theorem s_added {f n : Nat} (hM : MOK μ a) (hO : rdO σ f n) (N : Nat) (c1 : ∀ p, okp n p → 7 * (5 - pop p) + 1 < N → XM Γ zX12_term (N + 4) 0 0 [.ref a.1] (MV μ a (Pσ σ p)) (rt (.int (pz σ f n N 1 p).1) (MV μ a (Pσ σ (pz σ f n N 1 p).2)))) : ∀ p, okp n p → 7 * (5 - pop p) + 2 < N + 1 → XM Γ zX12_added (N + 1 + 4) 0 0 [.ref a.1] (MV μ a (Pσ σ p)) (rt (.int (pz σ f n (N + 1) 2 p).1) (MV μ a (Pσ σ (pz σ f n (N + 1) 2 p).2))) := by
  intro p h hd
  have h4 : pop p ≤ 5 := h.2.2.2.1
  refine XM.of 3 rfl (by decide) (Nat.le_of_ble_eq_true rfl) ?_
  have L : ∀ (K : Nat) (v : Int32) (q : PT) (z1 z2 : Option Value), okp n q → pop q = pop p → n - q.2.2.1 < K → WA Γ zX12_added (xrm (N + 5) 0 0) 0 0 0 0 (rt (.int (lpz (stA σ f n (pz σ f n N 1)) K v q).1) (MV μ a (Pσ σ (lpz (stA σ f n (pz σ f n N 1)) K v q).2))) 5 [some (.ref a.1), some (.int v), z1, z2] [] (MV μ a (Pσ σ q)) := by
    intro K
    induction K with
    | zero => intro v q z1 z2 hq eq hk; omega
    | succ K ih =>
      intro v q z1 z2 hq eq hk
      have kn := kp_N hO hq
      have kg := pN_ok hO hq
      have ka := pz_kp hO N 1 _ kn.1
      have eqn : pop (pN σ f n q) = pop p := kn.2.2.trans eq
      refine x_aload_n (pc := 5) dX12_added_5 rfl ?_
      refine x_bipush (pc := 6) (v := 43) dX12_added_6 rfl ?_
      refine x_callV (pc := 8) (As := [.int _]) dX12_added_8 mX12_isSign lk_12_222 hM.1 (g_S hM hq _) rfl rfl (Nat.le_of_ble_eq_true rfl) ⟨by show _ ≤ N + 5; omega, by show _ ≤ 64 * (N + 5); omega⟩ ⟨Nat.zero_le _, Nat.zero_le _⟩ (k_rt ?_)
      refine x_if_ne (pc := 11) (tgt := 23) dX12_added_11 rfl (fun h_11 => ?_) (fun h_11 => ?_)
      · refine x_aload_n (pc := 23) dX12_added_23 rfl ?_
        refine m_getJ (pc := 24) hM dX12_added_24 fk_12_175 ?_
        refine x_ldc2 (pc := 27) dX12_added_27 kc_12_242 ?_
        refine x_lcmp (pc := 30) dX12_added_30 ?_
        refine x_if_ne (pc := 31) (tgt := 38) dX12_added_31 rfl (fun h_31 => ?_) (fun h_31 => ?_)
        · refine x_iconst (pc := 38) (v := 0) dX12_added_38 rfl ?_
          skip
          refine x_istore_n (pc := 39) (lv2 := [_, _, _, _]) dX12_added_39 (by decide) rfl rfl ?_
          refine x_aload_n (pc := 40) dX12_added_40 rfl ?_
          refine x_callV (pc := 41) (As := []) dX12_added_41 mX12_next lk_12_197 hM.1 (g_N hM hO hq) rfl rfl (Nat.le_of_ble_eq_true rfl) ⟨by show _ ≤ N + 5; omega, by show _ ≤ 64 * (N + 5); omega⟩ ⟨Nat.zero_le _, Nat.zero_le _⟩ (k_rv ?_)
          refine x_aload_n (pc := 44) dX12_added_44 rfl ?_
          refine x_callV (pc := 45) (As := []) dX12_added_45 mX12_term lk_12_239 hM.1 (c1 _ kn.1 (by rw [eqn]; omega)) rfl rfl (Nat.le_of_ble_eq_true rfl) ⟨by show _ ≤ N + 5; omega, by show _ ≤ 64 * (N + 5); omega⟩ ⟨Nat.zero_le _, Nat.zero_le _⟩ (k_rt ?_)
          refine x_istore_n (pc := 48) (lv2 := [_, _, _, _]) dX12_added_48 (by decide) rfl rfl ?_
          refine x_iload_n (pc := 49) dX12_added_49 rfl ?_
          refine x_if_eq (pc := 50) (tgt := 59) dX12_added_50 rfl (fun h_50 => ?_) (fun h_50 => absurd (by decide) h_50)
          refine x_iload_n (pc := 59) dX12_added_59 rfl ?_
          refine x_iload_n (pc := 60) dX12_added_60 rfl ?_
          refine x_isub (pc := 61) dX12_added_61 ?_
          refine x_istore_n (pc := 62) (lv2 := [_, _, _, _]) dX12_added_62 (by decide) rfl rfl ?_
          refine x_goto (pc := 63) (tgt := 5) dX12_added_63 rfl ?_
          have hgt := (show q.2.2.1 < q.1 by first | exact qS_gt hq h_11 | exact qS_gt hq h_20)
          have hta := ka.2.1
          have h1 := kg.2.1
          have h3 := hq.2.2.1
          have h0 := hq.1
          have e : lpz (stA σ f n (pz σ f n N 1)) (K + 1) v q = lpz (stA σ f n (pz σ f n N 1)) K (if q.2.2.2.1 = 43 then v + (pz σ f n N 1 (pN σ f n q)).1 else v - (pz σ f n N 1 (pN σ f n q)).1) (pz σ f n N 1 (pN σ f n q)).2 := by
            rw [lpz, stA, if_neg (by first | exact fun z => h_11 z.1 | exact fun z => h_20 z.2)]
          first
            | rw [if_pos (show q.2.2.2.1 = 43 from (lg_cmp_eq _ _).mp (by first | exact h_31 | exact Decidable.not_not.mp h_31))] at e
            | rw [if_neg (show ¬ q.2.2.2.1 = 43 from (by exact fun z => h_31 ((lg_cmp_eq _ _).mpr z)))] at e
          rw [e]
          exact ih _ _ _ _ ka.1 (ka.2.2.trans eqn) (by omega)
        · refine x_iconst (pc := 34) (v := 1) dX12_added_34 rfl ?_
          refine x_goto (pc := 35) (tgt := 39) dX12_added_35 rfl ?_
          skip
          refine x_istore_n (pc := 39) (lv2 := [_, _, _, _]) dX12_added_39 (by decide) rfl rfl ?_
          refine x_aload_n (pc := 40) dX12_added_40 rfl ?_
          refine x_callV (pc := 41) (As := []) dX12_added_41 mX12_next lk_12_197 hM.1 (g_N hM hO hq) rfl rfl (Nat.le_of_ble_eq_true rfl) ⟨by show _ ≤ N + 5; omega, by show _ ≤ 64 * (N + 5); omega⟩ ⟨Nat.zero_le _, Nat.zero_le _⟩ (k_rv ?_)
          refine x_aload_n (pc := 44) dX12_added_44 rfl ?_
          refine x_callV (pc := 45) (As := []) dX12_added_45 mX12_term lk_12_239 hM.1 (c1 _ kn.1 (by rw [eqn]; omega)) rfl rfl (Nat.le_of_ble_eq_true rfl) ⟨by show _ ≤ N + 5; omega, by show _ ≤ 64 * (N + 5); omega⟩ ⟨Nat.zero_le _, Nat.zero_le _⟩ (k_rt ?_)
          refine x_istore_n (pc := 48) (lv2 := [_, _, _, _]) dX12_added_48 (by decide) rfl rfl ?_
          refine x_iload_n (pc := 49) dX12_added_49 rfl ?_
          refine x_if_eq (pc := 50) (tgt := 59) dX12_added_50 rfl (fun h_50 => absurd h_50 (by decide)) (fun h_50 => ?_)
          refine x_iload_n (pc := 53) dX12_added_53 rfl ?_
          refine x_iload_n (pc := 54) dX12_added_54 rfl ?_
          refine x_iadd (pc := 55) dX12_added_55 ?_
          refine x_goto (pc := 56) (tgt := 62) dX12_added_56 rfl ?_
          refine x_istore_n (pc := 62) (lv2 := [_, _, _, _]) dX12_added_62 (by decide) rfl rfl ?_
          refine x_goto (pc := 63) (tgt := 5) dX12_added_63 rfl ?_
          have hgt := (show q.2.2.1 < q.1 by first | exact qS_gt hq h_11 | exact qS_gt hq h_20)
          have hta := ka.2.1
          have h1 := kg.2.1
          have h3 := hq.2.2.1
          have h0 := hq.1
          have e : lpz (stA σ f n (pz σ f n N 1)) (K + 1) v q = lpz (stA σ f n (pz σ f n N 1)) K (if q.2.2.2.1 = 43 then v + (pz σ f n N 1 (pN σ f n q)).1 else v - (pz σ f n N 1 (pN σ f n q)).1) (pz σ f n N 1 (pN σ f n q)).2 := by
            rw [lpz, stA, if_neg (by first | exact fun z => h_11 z.1 | exact fun z => h_20 z.2)]
          first
            | rw [if_pos (show q.2.2.2.1 = 43 from (lg_cmp_eq _ _).mp (by first | exact h_31 | exact Decidable.not_not.mp h_31))] at e
            | rw [if_neg (show ¬ q.2.2.2.1 = 43 from (by exact fun z => h_31 ((lg_cmp_eq _ _).mpr z)))] at e
          rw [e]
          exact ih _ _ _ _ ka.1 (ka.2.2.trans eqn) (by omega)
      · refine x_aload_n (pc := 14) dX12_added_14 rfl ?_
        refine x_bipush (pc := 15) (v := 45) dX12_added_15 rfl ?_
        refine x_callV (pc := 17) (As := [.int _]) dX12_added_17 mX12_isSign lk_12_222 hM.1 (g_S hM hq _) rfl rfl (Nat.le_of_ble_eq_true rfl) ⟨by show _ ≤ N + 5; omega, by show _ ≤ 64 * (N + 5); omega⟩ ⟨Nat.zero_le _, Nat.zero_le _⟩ (k_rt ?_)
        refine x_if_eq (pc := 20) (tgt := 66) dX12_added_20 rfl (fun h_20 => ?_) (fun h_20 => ?_)
        · refine x_iload_n (pc := 66) dX12_added_66 rfl ?_
          refine x_ireturn (pc := 67) dX12_added_67 rfl rfl ?_
          have e : lpz (stA σ f n (pz σ f n N 1)) (K + 1) v q = (v, q) := by
            rw [lpz, stA, if_pos ⟨h_11, h_20⟩]
          rw [e]
          exact ⟨rfl, rfl⟩
        · refine x_aload_n (pc := 23) dX12_added_23 rfl ?_
          refine m_getJ (pc := 24) hM dX12_added_24 fk_12_175 ?_
          refine x_ldc2 (pc := 27) dX12_added_27 kc_12_242 ?_
          refine x_lcmp (pc := 30) dX12_added_30 ?_
          refine x_if_ne (pc := 31) (tgt := 38) dX12_added_31 rfl (fun h_31 => ?_) (fun h_31 => ?_)
          · refine x_iconst (pc := 38) (v := 0) dX12_added_38 rfl ?_
            skip
            refine x_istore_n (pc := 39) (lv2 := [_, _, _, _]) dX12_added_39 (by decide) rfl rfl ?_
            refine x_aload_n (pc := 40) dX12_added_40 rfl ?_
            refine x_callV (pc := 41) (As := []) dX12_added_41 mX12_next lk_12_197 hM.1 (g_N hM hO hq) rfl rfl (Nat.le_of_ble_eq_true rfl) ⟨by show _ ≤ N + 5; omega, by show _ ≤ 64 * (N + 5); omega⟩ ⟨Nat.zero_le _, Nat.zero_le _⟩ (k_rv ?_)
            refine x_aload_n (pc := 44) dX12_added_44 rfl ?_
            refine x_callV (pc := 45) (As := []) dX12_added_45 mX12_term lk_12_239 hM.1 (c1 _ kn.1 (by rw [eqn]; omega)) rfl rfl (Nat.le_of_ble_eq_true rfl) ⟨by show _ ≤ N + 5; omega, by show _ ≤ 64 * (N + 5); omega⟩ ⟨Nat.zero_le _, Nat.zero_le _⟩ (k_rt ?_)
            refine x_istore_n (pc := 48) (lv2 := [_, _, _, _]) dX12_added_48 (by decide) rfl rfl ?_
            refine x_iload_n (pc := 49) dX12_added_49 rfl ?_
            refine x_if_eq (pc := 50) (tgt := 59) dX12_added_50 rfl (fun h_50 => ?_) (fun h_50 => absurd (by decide) h_50)
            refine x_iload_n (pc := 59) dX12_added_59 rfl ?_
            refine x_iload_n (pc := 60) dX12_added_60 rfl ?_
            refine x_isub (pc := 61) dX12_added_61 ?_
            refine x_istore_n (pc := 62) (lv2 := [_, _, _, _]) dX12_added_62 (by decide) rfl rfl ?_
            refine x_goto (pc := 63) (tgt := 5) dX12_added_63 rfl ?_
            have hgt := (show q.2.2.1 < q.1 by first | exact qS_gt hq h_11 | exact qS_gt hq h_20)
            have hta := ka.2.1
            have h1 := kg.2.1
            have h3 := hq.2.2.1
            have h0 := hq.1
            have e : lpz (stA σ f n (pz σ f n N 1)) (K + 1) v q = lpz (stA σ f n (pz σ f n N 1)) K (if q.2.2.2.1 = 43 then v + (pz σ f n N 1 (pN σ f n q)).1 else v - (pz σ f n N 1 (pN σ f n q)).1) (pz σ f n N 1 (pN σ f n q)).2 := by
              rw [lpz, stA, if_neg (by first | exact fun z => h_11 z.1 | exact fun z => h_20 z.2)]
            first
              | rw [if_pos (show q.2.2.2.1 = 43 from (lg_cmp_eq _ _).mp (by first | exact h_31 | exact Decidable.not_not.mp h_31))] at e
              | rw [if_neg (show ¬ q.2.2.2.1 = 43 from (by exact fun z => h_31 ((lg_cmp_eq _ _).mpr z)))] at e
            rw [e]
            exact ih _ _ _ _ ka.1 (ka.2.2.trans eqn) (by omega)
          · refine x_iconst (pc := 34) (v := 1) dX12_added_34 rfl ?_
            refine x_goto (pc := 35) (tgt := 39) dX12_added_35 rfl ?_
            skip
            refine x_istore_n (pc := 39) (lv2 := [_, _, _, _]) dX12_added_39 (by decide) rfl rfl ?_
            refine x_aload_n (pc := 40) dX12_added_40 rfl ?_
            refine x_callV (pc := 41) (As := []) dX12_added_41 mX12_next lk_12_197 hM.1 (g_N hM hO hq) rfl rfl (Nat.le_of_ble_eq_true rfl) ⟨by show _ ≤ N + 5; omega, by show _ ≤ 64 * (N + 5); omega⟩ ⟨Nat.zero_le _, Nat.zero_le _⟩ (k_rv ?_)
            refine x_aload_n (pc := 44) dX12_added_44 rfl ?_
            refine x_callV (pc := 45) (As := []) dX12_added_45 mX12_term lk_12_239 hM.1 (c1 _ kn.1 (by rw [eqn]; omega)) rfl rfl (Nat.le_of_ble_eq_true rfl) ⟨by show _ ≤ N + 5; omega, by show _ ≤ 64 * (N + 5); omega⟩ ⟨Nat.zero_le _, Nat.zero_le _⟩ (k_rt ?_)
            refine x_istore_n (pc := 48) (lv2 := [_, _, _, _]) dX12_added_48 (by decide) rfl rfl ?_
            refine x_iload_n (pc := 49) dX12_added_49 rfl ?_
            refine x_if_eq (pc := 50) (tgt := 59) dX12_added_50 rfl (fun h_50 => absurd h_50 (by decide)) (fun h_50 => ?_)
            refine x_iload_n (pc := 53) dX12_added_53 rfl ?_
            refine x_iload_n (pc := 54) dX12_added_54 rfl ?_
            refine x_iadd (pc := 55) dX12_added_55 ?_
            refine x_goto (pc := 56) (tgt := 62) dX12_added_56 rfl ?_
            refine x_istore_n (pc := 62) (lv2 := [_, _, _, _]) dX12_added_62 (by decide) rfl rfl ?_
            refine x_goto (pc := 63) (tgt := 5) dX12_added_63 rfl ?_
            have hgt := (show q.2.2.1 < q.1 by first | exact qS_gt hq h_11 | exact qS_gt hq h_20)
            have hta := ka.2.1
            have h1 := kg.2.1
            have h3 := hq.2.2.1
            have h0 := hq.1
            have e : lpz (stA σ f n (pz σ f n N 1)) (K + 1) v q = lpz (stA σ f n (pz σ f n N 1)) K (if q.2.2.2.1 = 43 then v + (pz σ f n N 1 (pN σ f n q)).1 else v - (pz σ f n N 1 (pN σ f n q)).1) (pz σ f n N 1 (pN σ f n q)).2 := by
              rw [lpz, stA, if_neg (by first | exact fun z => h_11 z.1 | exact fun z => h_20 z.2)]
            first
              | rw [if_pos (show q.2.2.2.1 = 43 from (lg_cmp_eq _ _).mp (by first | exact h_31 | exact Decidable.not_not.mp h_31))] at e
              | rw [if_neg (show ¬ q.2.2.2.1 = 43 from (by exact fun z => h_31 ((lg_cmp_eq _ _).mpr z)))] at e
            rw [e]
            exact ih _ _ _ _ ka.1 (ka.2.2.trans eqn) (by omega)
  have k0 := pz_kp hO N 1 p h
  refine x_aload_n (pc := 0) dX12_added_0 rfl ?_
  refine x_callV (pc := 1) (As := []) dX12_added_1 mX12_term lk_12_239 hM.1 (c1 _ h (by omega)) rfl rfl (Nat.le_of_ble_eq_true rfl) ⟨by show _ ≤ N + 5; omega, by show _ ≤ 64 * (N + 5); omega⟩ ⟨Nat.zero_le _, Nat.zero_le _⟩ (k_rt ?_)
  refine x_istore_n (pc := 4) (lv2 := [_, _, _, _]) dX12_added_4 (by decide) rfl rfl ?_
  exact L 200 _ _ _ _ k0.1 k0.2.2 (by have := hO.2.2.1; omega)
theorem s_both {f n : Nat} (hM : MOK μ a) (hO : rdO σ f n) (N : Nat) (c3 : ∀ p, okp n p → 7 * (5 - pop p) + 3 < N → XM Γ zX12_not (N + 4) 0 0 [.ref a.1] (MV μ a (Pσ σ p)) (rt (.int (pz σ f n N 3 p).1) (MV μ a (Pσ σ (pz σ f n N 3 p).2)))) : ∀ p, okp n p → 7 * (5 - pop p) + 4 < N + 1 → XM Γ zX12_both (N + 1 + 4) 0 0 [.ref a.1] (MV μ a (Pσ σ p)) (rt (.int (pz σ f n (N + 1) 4 p).1) (MV μ a (Pσ σ (pz σ f n (N + 1) 4 p).2))) := by
  intro p h hd
  have h4 : pop p ≤ 5 := h.2.2.2.1
  refine XM.of 2 rfl (by decide) (Nat.le_of_ble_eq_true rfl) ?_
  have L : ∀ (K : Nat) (v : Int32) (q : PT) (z1 : Option Value), okp n q → pop q = pop p → n - q.2.2.1 < K → WA Γ zX12_both (xrm (N + 5) 0 0) 0 0 0 0 (rt (.int (lpz (stB σ f n (pz σ f n N 3)) K v q).1) (MV μ a (Pσ σ (lpz (stB σ f n (pz σ f n N 3)) K v q).2))) 5 [some (.ref a.1), some (.int v), z1] [] (MV μ a (Pσ σ q)) := by
    intro K
    induction K with
    | zero => intro v q z1 hq eq hk; omega
    | succ K ih =>
      intro v q z1 hq eq hk
      have kn := kp_N hO hq
      have kg := pN_ok hO hq
      have ka := pz_kp hO N 3 _ kn.1
      have eqn : pop (pN σ f n q) = pop p := kn.2.2.trans eq
      refine x_aload_n (pc := 5) dX12_both_5 rfl ?_
      refine x_bipush (pc := 6) (v := 97) dX12_both_6 rfl ?_
      refine x_bipush (pc := 8) (v := 110) dX12_both_8 rfl ?_
      refine x_bipush (pc := 10) (v := 100) dX12_both_10 rfl ?_
      refine x_iconst (pc := 12) (v := 0) dX12_both_12 rfl ?_
      refine x_iconst (pc := 13) (v := 0) dX12_both_13 rfl ?_
      refine x_iconst (pc := 14) (v := 0) dX12_both_14 rfl ?_
      refine x_iconst (pc := 15) (v := 0) dX12_both_15 rfl ?_
      refine x_iconst (pc := 16) (v := 0) dX12_both_16 rfl ?_
      refine x_callV (pc := 17) (As := [.int _, .int _, .int _, .int _, .int _, .int _, .int _, .int _]) dX12_both_17 mX12_isWord lk_12_200 hM.1 (g_W hM hO hq _ _ _ _ _ _ _ _) rfl rfl (Nat.le_of_ble_eq_true rfl) ⟨by show _ ≤ N + 5; omega, by show _ ≤ 64 * (N + 5); omega⟩ ⟨Nat.zero_le _, Nat.zero_le _⟩ (k_rt ?_)
      refine x_if_eq (pc := 20) (tgt := 49) dX12_both_20 rfl (fun h_20 => ?_) (fun h_20 => ?_)
      · refine x_iload_n (pc := 49) dX12_both_49 rfl ?_
        refine x_ireturn (pc := 50) dX12_both_50 rfl rfl ?_
        have e : lpz (stB σ f n (pz σ f n N 3)) (K + 1) v q = (v, q) := by
          rw [lpz, stB, if_pos h_20]
        rw [e]
        exact ⟨rfl, rfl⟩
      · refine x_aload_n (pc := 23) dX12_both_23 rfl ?_
        refine x_callV (pc := 24) (As := []) dX12_both_24 mX12_next lk_12_197 hM.1 (g_N hM hO hq) rfl rfl (Nat.le_of_ble_eq_true rfl) ⟨by show _ ≤ N + 5; omega, by show _ ≤ 64 * (N + 5); omega⟩ ⟨Nat.zero_le _, Nat.zero_le _⟩ (k_rv ?_)
        refine x_aload_n (pc := 27) dX12_both_27 rfl ?_
        refine x_callV (pc := 28) (As := []) dX12_both_28 mX12_not lk_12_244 hM.1 (c3 _ kn.1 (by rw [eqn]; omega)) rfl rfl (Nat.le_of_ble_eq_true rfl) ⟨by show _ ≤ N + 5; omega, by show _ ≤ 64 * (N + 5); omega⟩ ⟨Nat.zero_le _, Nat.zero_le _⟩ (k_rt ?_)
        refine x_istore_n (pc := 31) (lv2 := [_, _, _]) dX12_both_31 (by decide) rfl rfl ?_
        refine x_iload_n (pc := 32) dX12_both_32 rfl ?_
        refine x_if_eq (pc := 33) (tgt := 44) dX12_both_33 rfl (fun h_33 => ?_) (fun h_33 => ?_)
        · refine x_iconst (pc := 44) (v := 0) dX12_both_44 rfl ?_
          refine x_istore_n (pc := 45) (lv2 := [_, _, _]) dX12_both_45 (by decide) rfl rfl ?_
          refine x_goto (pc := 46) (tgt := 5) dX12_both_46 rfl ?_
          have hgt := qW_gt hq h_20
          have hta := ka.2.1
          have h1 := kg.2.1
          have h3 := hq.2.2.1
          have h0 := hq.1
          have e : lpz (stB σ f n (pz σ f n N 3)) (K + 1) v q = lpz (stB σ f n (pz σ f n N 3)) K (if v = 0 then 0 else if (pz σ f n N 3 (pN σ f n q)).1 = 0 then 0 else 1) (pz σ f n N 3 (pN σ f n q)).2 := by
            rw [lpz, stB, if_neg h_20]
          first
            | rw [if_pos (show v = 0 by first | exact h_33 | exact Decidable.not_not.mp h_33)] at e
            | rw [if_neg h_33, if_pos (show (pz σ f n N 3 (pN σ f n q)).1 = 0 by first | exact h_37 | exact Decidable.not_not.mp h_37)] at e
            | rw [if_neg h_33, if_neg h_37] at e
          rw [e]
          exact ih _ _ _ ka.1 (ka.2.2.trans eqn) (by omega)
        · refine x_iload_n (pc := 36) dX12_both_36 rfl ?_
          refine x_if_eq (pc := 37) (tgt := 44) dX12_both_37 rfl (fun h_37 => ?_) (fun h_37 => ?_)
          · refine x_iconst (pc := 44) (v := 0) dX12_both_44 rfl ?_
            refine x_istore_n (pc := 45) (lv2 := [_, _, _]) dX12_both_45 (by decide) rfl rfl ?_
            refine x_goto (pc := 46) (tgt := 5) dX12_both_46 rfl ?_
            have hgt := qW_gt hq h_20
            have hta := ka.2.1
            have h1 := kg.2.1
            have h3 := hq.2.2.1
            have h0 := hq.1
            have e : lpz (stB σ f n (pz σ f n N 3)) (K + 1) v q = lpz (stB σ f n (pz σ f n N 3)) K (if v = 0 then 0 else if (pz σ f n N 3 (pN σ f n q)).1 = 0 then 0 else 1) (pz σ f n N 3 (pN σ f n q)).2 := by
              rw [lpz, stB, if_neg h_20]
            first
              | rw [if_pos (show v = 0 by first | exact h_33 | exact Decidable.not_not.mp h_33)] at e
              | rw [if_neg h_33, if_pos (show (pz σ f n N 3 (pN σ f n q)).1 = 0 by first | exact h_37 | exact Decidable.not_not.mp h_37)] at e
              | rw [if_neg h_33, if_neg h_37] at e
            rw [e]
            exact ih _ _ _ ka.1 (ka.2.2.trans eqn) (by omega)
          · refine x_iconst (pc := 40) (v := 1) dX12_both_40 rfl ?_
            refine x_goto (pc := 41) (tgt := 45) dX12_both_41 rfl ?_
            refine x_istore_n (pc := 45) (lv2 := [_, _, _]) dX12_both_45 (by decide) rfl rfl ?_
            refine x_goto (pc := 46) (tgt := 5) dX12_both_46 rfl ?_
            have hgt := qW_gt hq h_20
            have hta := ka.2.1
            have h1 := kg.2.1
            have h3 := hq.2.2.1
            have h0 := hq.1
            have e : lpz (stB σ f n (pz σ f n N 3)) (K + 1) v q = lpz (stB σ f n (pz σ f n N 3)) K (if v = 0 then 0 else if (pz σ f n N 3 (pN σ f n q)).1 = 0 then 0 else 1) (pz σ f n N 3 (pN σ f n q)).2 := by
              rw [lpz, stB, if_neg h_20]
            first
              | rw [if_pos (show v = 0 by first | exact h_33 | exact Decidable.not_not.mp h_33)] at e
              | rw [if_neg h_33, if_pos (show (pz σ f n N 3 (pN σ f n q)).1 = 0 by first | exact h_37 | exact Decidable.not_not.mp h_37)] at e
              | rw [if_neg h_33, if_neg h_37] at e
            rw [e]
            exact ih _ _ _ ka.1 (ka.2.2.trans eqn) (by omega)
  have k0 := pz_kp hO N 3 p h
  refine x_aload_n (pc := 0) dX12_both_0 rfl ?_
  refine x_callV (pc := 1) (As := []) dX12_both_1 mX12_not lk_12_244 hM.1 (c3 _ h (by omega)) rfl rfl (Nat.le_of_ble_eq_true rfl) ⟨by show _ ≤ N + 5; omega, by show _ ≤ 64 * (N + 5); omega⟩ ⟨Nat.zero_le _, Nat.zero_le _⟩ (k_rt ?_)
  refine x_istore_n (pc := 4) (lv2 := [_, _, _]) dX12_both_4 (by decide) rfl rfl ?_
  exact L 200 _ _ _ k0.1 k0.2.2 (by have := hO.2.2.1; omega)
theorem s_either {f n : Nat} (hM : MOK μ a) (hO : rdO σ f n) (N : Nat) (c4 : ∀ p, okp n p → 7 * (5 - pop p) + 4 < N → XM Γ zX12_both (N + 4) 0 0 [.ref a.1] (MV μ a (Pσ σ p)) (rt (.int (pz σ f n N 4 p).1) (MV μ a (Pσ σ (pz σ f n N 4 p).2)))) : ∀ p, okp n p → 7 * (5 - pop p) + 5 < N + 1 → XM Γ zX12_either (N + 1 + 4) 0 0 [.ref a.1] (MV μ a (Pσ σ p)) (rt (.int (pz σ f n (N + 1) 5 p).1) (MV μ a (Pσ σ (pz σ f n (N + 1) 5 p).2))) := by
  intro p h hd
  have h4 : pop p ≤ 5 := h.2.2.2.1
  refine XM.of 2 rfl (by decide) (Nat.le_of_ble_eq_true rfl) ?_
  have L : ∀ (K : Nat) (v : Int32) (q : PT) (z1 : Option Value), okp n q → pop q = pop p → n - q.2.2.1 < K → WA Γ zX12_either (xrm (N + 5) 0 0) 0 0 0 0 (rt (.int (lpz (stE σ f n (pz σ f n N 4)) K v q).1) (MV μ a (Pσ σ (lpz (stE σ f n (pz σ f n N 4)) K v q).2))) 5 [some (.ref a.1), some (.int v), z1] [] (MV μ a (Pσ σ q)) := by
    intro K
    induction K with
    | zero => intro v q z1 hq eq hk; omega
    | succ K ih =>
      intro v q z1 hq eq hk
      have kn := kp_N hO hq
      have kg := pN_ok hO hq
      have ka := pz_kp hO N 4 _ kn.1
      have eqn : pop (pN σ f n q) = pop p := kn.2.2.trans eq
      refine x_aload_n (pc := 5) dX12_either_5 rfl ?_
      refine x_bipush (pc := 6) (v := 111) dX12_either_6 rfl ?_
      refine x_bipush (pc := 8) (v := 114) dX12_either_8 rfl ?_
      refine x_iconst (pc := 10) (v := 0) dX12_either_10 rfl ?_
      refine x_iconst (pc := 11) (v := 0) dX12_either_11 rfl ?_
      refine x_iconst (pc := 12) (v := 0) dX12_either_12 rfl ?_
      refine x_iconst (pc := 13) (v := 0) dX12_either_13 rfl ?_
      refine x_iconst (pc := 14) (v := 0) dX12_either_14 rfl ?_
      refine x_iconst (pc := 15) (v := 0) dX12_either_15 rfl ?_
      refine x_callV (pc := 16) (As := [.int _, .int _, .int _, .int _, .int _, .int _, .int _, .int _]) dX12_either_16 mX12_isWord lk_12_200 hM.1 (g_W hM hO hq _ _ _ _ _ _ _ _) rfl rfl (Nat.le_of_ble_eq_true rfl) ⟨by show _ ≤ N + 5; omega, by show _ ≤ 64 * (N + 5); omega⟩ ⟨Nat.zero_le _, Nat.zero_le _⟩ (k_rt ?_)
      refine x_if_eq (pc := 19) (tgt := 48) dX12_either_19 rfl (fun h_19 => ?_) (fun h_19 => ?_)
      · refine x_iload_n (pc := 48) dX12_either_48 rfl ?_
        refine x_ireturn (pc := 49) dX12_either_49 rfl rfl ?_
        have e : lpz (stE σ f n (pz σ f n N 4)) (K + 1) v q = (v, q) := by
          rw [lpz, stE, if_pos h_19]
        rw [e]
        exact ⟨rfl, rfl⟩
      · refine x_aload_n (pc := 22) dX12_either_22 rfl ?_
        refine x_callV (pc := 23) (As := []) dX12_either_23 mX12_next lk_12_197 hM.1 (g_N hM hO hq) rfl rfl (Nat.le_of_ble_eq_true rfl) ⟨by show _ ≤ N + 5; omega, by show _ ≤ 64 * (N + 5); omega⟩ ⟨Nat.zero_le _, Nat.zero_le _⟩ (k_rv ?_)
        refine x_aload_n (pc := 26) dX12_either_26 rfl ?_
        refine x_callV (pc := 27) (As := []) dX12_either_27 mX12_both lk_12_252 hM.1 (c4 _ kn.1 (by rw [eqn]; omega)) rfl rfl (Nat.le_of_ble_eq_true rfl) ⟨by show _ ≤ N + 5; omega, by show _ ≤ 64 * (N + 5); omega⟩ ⟨Nat.zero_le _, Nat.zero_le _⟩ (k_rt ?_)
        refine x_istore_n (pc := 30) (lv2 := [_, _, _]) dX12_either_30 (by decide) rfl rfl ?_
        refine x_iload_n (pc := 31) dX12_either_31 rfl ?_
        refine x_if_ne (pc := 32) (tgt := 39) dX12_either_32 rfl (fun h_32 => ?_) (fun h_32 => ?_)
        · refine x_iconst (pc := 39) (v := 1) dX12_either_39 rfl ?_
          refine x_goto (pc := 40) (tgt := 44) dX12_either_40 rfl ?_
          refine x_istore_n (pc := 44) (lv2 := [_, _, _]) dX12_either_44 (by decide) rfl rfl ?_
          refine x_goto (pc := 45) (tgt := 5) dX12_either_45 rfl ?_
          have hgt := qW_gt hq h_19
          have hta := ka.2.1
          have h1 := kg.2.1
          have h3 := hq.2.2.1
          have h0 := hq.1
          have e : lpz (stE σ f n (pz σ f n N 4)) (K + 1) v q = lpz (stE σ f n (pz σ f n N 4)) K (if v = 0 then (if (pz σ f n N 4 (pN σ f n q)).1 = 0 then 0 else 1) else 1) (pz σ f n N 4 (pN σ f n q)).2 := by
            rw [lpz, stE, if_neg h_19]
          first
            | rw [if_neg (show ¬ v = 0 by exact h_32)] at e
            | rw [if_pos (show v = 0 by first | exact h_32 | exact Decidable.not_not.mp h_32), if_pos (show (pz σ f n N 4 (pN σ f n q)).1 = 0 by first | exact h_36 | exact Decidable.not_not.mp h_36)] at e
            | rw [if_pos (show v = 0 by first | exact h_32 | exact Decidable.not_not.mp h_32), if_neg h_36] at e
          rw [e]
          exact ih _ _ _ ka.1 (ka.2.2.trans eqn) (by omega)
        · refine x_iload_n (pc := 35) dX12_either_35 rfl ?_
          refine x_if_eq (pc := 36) (tgt := 43) dX12_either_36 rfl (fun h_36 => ?_) (fun h_36 => ?_)
          · refine x_iconst (pc := 43) (v := 0) dX12_either_43 rfl ?_
            refine x_istore_n (pc := 44) (lv2 := [_, _, _]) dX12_either_44 (by decide) rfl rfl ?_
            refine x_goto (pc := 45) (tgt := 5) dX12_either_45 rfl ?_
            have hgt := qW_gt hq h_19
            have hta := ka.2.1
            have h1 := kg.2.1
            have h3 := hq.2.2.1
            have h0 := hq.1
            have e : lpz (stE σ f n (pz σ f n N 4)) (K + 1) v q = lpz (stE σ f n (pz σ f n N 4)) K (if v = 0 then (if (pz σ f n N 4 (pN σ f n q)).1 = 0 then 0 else 1) else 1) (pz σ f n N 4 (pN σ f n q)).2 := by
              rw [lpz, stE, if_neg h_19]
            first
              | rw [if_neg (show ¬ v = 0 by exact h_32)] at e
              | rw [if_pos (show v = 0 by first | exact h_32 | exact Decidable.not_not.mp h_32), if_pos (show (pz σ f n N 4 (pN σ f n q)).1 = 0 by first | exact h_36 | exact Decidable.not_not.mp h_36)] at e
              | rw [if_pos (show v = 0 by first | exact h_32 | exact Decidable.not_not.mp h_32), if_neg h_36] at e
            rw [e]
            exact ih _ _ _ ka.1 (ka.2.2.trans eqn) (by omega)
          · refine x_iconst (pc := 39) (v := 1) dX12_either_39 rfl ?_
            refine x_goto (pc := 40) (tgt := 44) dX12_either_40 rfl ?_
            refine x_istore_n (pc := 44) (lv2 := [_, _, _]) dX12_either_44 (by decide) rfl rfl ?_
            refine x_goto (pc := 45) (tgt := 5) dX12_either_45 rfl ?_
            have hgt := qW_gt hq h_19
            have hta := ka.2.1
            have h1 := kg.2.1
            have h3 := hq.2.2.1
            have h0 := hq.1
            have e : lpz (stE σ f n (pz σ f n N 4)) (K + 1) v q = lpz (stE σ f n (pz σ f n N 4)) K (if v = 0 then (if (pz σ f n N 4 (pN σ f n q)).1 = 0 then 0 else 1) else 1) (pz σ f n N 4 (pN σ f n q)).2 := by
              rw [lpz, stE, if_neg h_19]
            first
              | rw [if_neg (show ¬ v = 0 by exact h_32)] at e
              | rw [if_pos (show v = 0 by first | exact h_32 | exact Decidable.not_not.mp h_32), if_pos (show (pz σ f n N 4 (pN σ f n q)).1 = 0 by first | exact h_36 | exact Decidable.not_not.mp h_36)] at e
              | rw [if_pos (show v = 0 by first | exact h_32 | exact Decidable.not_not.mp h_32), if_neg h_36] at e
            rw [e]
            exact ih _ _ _ ka.1 (ka.2.2.trans eqn) (by omega)
  have k0 := pz_kp hO N 4 p h
  refine x_aload_n (pc := 0) dX12_either_0 rfl ?_
  refine x_callV (pc := 1) (As := []) dX12_either_1 mX12_both lk_12_252 hM.1 (c4 _ h (by omega)) rfl rfl (Nat.le_of_ble_eq_true rfl) ⟨by show _ ≤ N + 5; omega, by show _ ≤ 64 * (N + 5); omega⟩ ⟨Nat.zero_le _, Nat.zero_le _⟩ (k_rt ?_)
  refine x_istore_n (pc := 4) (lv2 := [_, _, _]) dX12_either_4 (by decide) rfl rfl ?_
  exact L 200 _ _ _ k0.1 k0.2.2 (by have := hO.2.2.1; omega)
theorem s_not {f n : Nat} (hM : MOK μ a) (hO : rdO σ f n) (N : Nat) (c3 : ∀ p, okp n p → 7 * (5 - pop p) + 3 < N → XM Γ zX12_not (N + 4) 0 0 [.ref a.1] (MV μ a (Pσ σ p)) (rt (.int (pz σ f n N 3 p).1) (MV μ a (Pσ σ (pz σ f n N 3 p).2)))) (c2 : ∀ p, okp n p → 7 * (5 - pop p) + 2 < N → XM Γ zX12_added (N + 4) 0 0 [.ref a.1] (MV μ a (Pσ σ p)) (rt (.int (pz σ f n N 2 p).1) (MV μ a (Pσ σ (pz σ f n N 2 p).2)))) : ∀ p, okp n p → 7 * (5 - pop p) + 3 < N + 1 → XM Γ zX12_not (N + 1 + 4) 0 0 [.ref a.1] (MV μ a (Pσ σ p)) (rt (.int (pz σ f n (N + 1) 3 p).1) (MV μ a (Pσ σ (pz σ f n (N + 1) 3 p).2))) := by
  intro p h hd
  have h4 : pop p ≤ 5 := h.2.2.2.1
  refine XM.of 3 rfl (by decide) (Nat.le_of_ble_eq_true rfl) ?_
  have A5 : ¬ qW σ f n 110 111 116 0 0 0 0 0 p = 0 → pop p = 5 → WA Γ zX12_not (xrm (N + 5) 0 0) 0 0 0 0 (rt (.int (pz σ f n (N + 1) 3 p).1) (MV μ a (Pσ σ (pz σ f n (N + 1) 3 p).2))) 18 [some (.ref a.1), none, none, none] [] (MV μ a (Pσ σ p)) := by
    intro q h5
    refine x_aload_n (pc := 18) dX12_not_18 rfl ?_
    refine x_callV (pc := 19) (As := []) dX12_not_19 mX12_opens lk_12_225 hM.1 (g_O5 hM h h5) rfl rfl (Nat.le_of_ble_eq_true rfl) ⟨by show _ ≤ N + 5; omega, by show _ ≤ 64 * (N + 5); omega⟩ ⟨Nat.zero_le _, Nat.zero_le _⟩ (k_rt ?_)
    refine x_if_ne (pc := 22) (tgt := 27) dX12_not_22 rfl (fun h_22 => absurd (rfl) h_22) (fun h_22 => ?_)
    refine x_iconst (pc := 25) (v := 0) dX12_not_25 rfl ?_
    refine x_ireturn (pc := 26) dX12_not_26 rfl rfl ?_
    show rt (.int (pNt σ f n (pz σ f n N 3) (pz σ f n N 2) p).1) (MV μ a (Pσ σ (pNt σ f n (pz σ f n N 3) (pz σ f n N 2) p).2)) _ _
    rw [pNt, if_pos q, if_pos h5]
    exact ⟨rfl, rfl⟩
  have A : ¬ qW σ f n 110 111 116 0 0 0 0 0 p = 0 → ¬ pop p = 5 → WA Γ zX12_not (xrm (N + 5) 0 0) 0 0 0 0 (rt (.int (pz σ f n (N + 1) 3 p).1) (MV μ a (Pσ σ (pz σ f n (N + 1) 3 p).2))) 18 [some (.ref a.1), none, none, none] [] (MV μ a (Pσ σ p)) := by
    intro q h5
    have k := kp_op hO h h5 (pz_kp hO N 3)
    have eop : pop (pz σ f n N 3 (pOp σ f n p)).2 = pop p + 1 := k.1.2.2.trans k.2.2.1
    refine x_aload_n (pc := 18) dX12_not_18 rfl ?_
    refine x_callV (pc := 19) (As := []) dX12_not_19 mX12_opens lk_12_225 hM.1 (g_O hM hO h h5) rfl rfl (Nat.le_of_ble_eq_true rfl) ⟨by show _ ≤ N + 5; omega, by show _ ≤ 64 * (N + 5); omega⟩ ⟨Nat.zero_le _, Nat.zero_le _⟩ (k_rt ?_)
    refine x_if_ne (pc := 22) (tgt := 27) dX12_not_22 rfl (fun h_22 => ?_) (fun h_22 => absurd h_22 (by decide))
    refine x_aload_n (pc := 27) dX12_not_27 rfl ?_
    refine x_callV (pc := 28) (As := []) dX12_not_28 mX12_not lk_12_244 hM.1 (c3 _ k.2.2.2 (by rw [k.2.2.1]; omega)) rfl rfl (Nat.le_of_ble_eq_true rfl) ⟨by show _ ≤ N + 5; omega, by show _ ≤ 64 * (N + 5); omega⟩ ⟨Nat.zero_le _, Nat.zero_le _⟩ (k_rt ?_)
    refine x_istore_n (pc := 31) (lv2 := [_, _, _, _]) dX12_not_31 (by decide) rfl rfl ?_
    refine x_aload_n (pc := 32) dX12_not_32 rfl ?_
    refine x_dup (pc := 33) dX12_not_33 rfl ?_
    refine m_getIv (pc := 34) (v := nI (pop ((pz σ f n N 3 (pOp σ f n p)).2))) hM dX12_not_34 fk_12_191 (Or.inl rfl) (rfl) ?_
    refine x_iconst (pc := 37) (v := 1) dX12_not_37 rfl ?_
    refine x_isub (pc := 38) dX12_not_38 ?_
    rw [show (1 : Int32) = nI 1 from rfl, pk_sub (by omega)]
    refine m_putI (pc := 39) hM dX12_not_39 fk_12_191 rfl (Or.inl rfl) ?_
    rw [Pσ_op]
    refine x_iload_n (pc := 42) dX12_not_42 rfl ?_
    refine x_if_ne (pc := 43) (tgt := 50) dX12_not_43 rfl (fun h_43 => ?_) (fun h_43 => ?_)
    · refine x_iconst (pc := 50) (v := 0) dX12_not_50 rfl ?_
      refine x_ireturn (pc := 51) dX12_not_51 rfl rfl ?_
      show rt (.int (pNt σ f n (pz σ f n N 3) (pz σ f n N 2) p).1) (MV μ a (Pσ σ (pNt σ f n (pz σ f n N 3) (pz σ f n N 2) p).2)) _ _
      rw [pNt, if_pos q, if_neg h5]
      first
        | rw [if_pos (by first | exact h_43 | exact Decidable.not_not.mp h_43)]; exact ⟨rfl, rfl⟩
        | rw [if_neg h_43]; exact ⟨rfl, rfl⟩
    · refine x_iconst (pc := 46) (v := 1) dX12_not_46 rfl ?_
      refine x_goto (pc := 47) (tgt := 51) dX12_not_47 rfl ?_
      refine x_ireturn (pc := 51) dX12_not_51 rfl rfl ?_
      show rt (.int (pNt σ f n (pz σ f n N 3) (pz σ f n N 2) p).1) (MV μ a (Pσ σ (pNt σ f n (pz σ f n N 3) (pz σ f n N 2) p).2)) _ _
      rw [pNt, if_pos q, if_neg h5]
      first
        | rw [if_pos (by first | exact h_43 | exact Decidable.not_not.mp h_43)]; exact ⟨rfl, rfl⟩
        | rw [if_neg h_43]; exact ⟨rfl, rfl⟩
  have k := pz_kp hO N 2 p h
  have kn := kp_N hO k.1
  have eqn : pop (pN σ f n (pz σ f n N 2 p).2) = pop p := kn.2.2.trans k.2.2
  refine x_aload_n (pc := 0) dX12_not_0 rfl ?_
  refine x_bipush (pc := 1) (v := 110) dX12_not_1 rfl ?_
  refine x_bipush (pc := 3) (v := 111) dX12_not_3 rfl ?_
  refine x_bipush (pc := 5) (v := 116) dX12_not_5 rfl ?_
  refine x_iconst (pc := 7) (v := 0) dX12_not_7 rfl ?_
  refine x_iconst (pc := 8) (v := 0) dX12_not_8 rfl ?_
  refine x_iconst (pc := 9) (v := 0) dX12_not_9 rfl ?_
  refine x_iconst (pc := 10) (v := 0) dX12_not_10 rfl ?_
  refine x_iconst (pc := 11) (v := 0) dX12_not_11 rfl ?_
  refine x_callV (pc := 12) (As := [.int _, .int _, .int _, .int _, .int _, .int _, .int _, .int _]) dX12_not_12 mX12_isWord lk_12_200 hM.1 (g_W hM hO h _ _ _ _ _ _ _ _) rfl rfl (Nat.le_of_ble_eq_true rfl) ⟨by show _ ≤ N + 5; omega, by show _ ≤ 64 * (N + 5); omega⟩ ⟨Nat.zero_le _, Nat.zero_le _⟩ (k_rt ?_)
  refine x_if_eq (pc := 15) (tgt := 52) dX12_not_15 rfl (fun h_15 => ?_) (fun h_15 => ?_)
  · refine x_aload_n (pc := 52) dX12_not_52 rfl ?_
    refine x_callV (pc := 53) (As := []) dX12_not_53 mX12_added lk_12_247 hM.1 (c2 _ h (by omega)) rfl rfl (Nat.le_of_ble_eq_true rfl) ⟨by show _ ≤ N + 5; omega, by show _ ≤ 64 * (N + 5); omega⟩ ⟨Nat.zero_le _, Nat.zero_le _⟩ (k_rt ?_)
    refine x_istore_n (pc := 56) (lv2 := [_, _, _, _]) dX12_not_56 (by decide) rfl rfl ?_
    refine x_aload_n (pc := 57) dX12_not_57 rfl ?_
    refine x_bipush (pc := 58) (v := 60) dX12_not_58 rfl ?_
    refine x_callV (pc := 60) (As := [.int _]) dX12_not_60 mX12_isSign lk_12_222 hM.1 (g_S hM k.1 _) rfl rfl (Nat.le_of_ble_eq_true rfl) ⟨by show _ ≤ N + 5; omega, by show _ ≤ 64 * (N + 5); omega⟩ ⟨Nat.zero_le _, Nat.zero_le _⟩ (k_rt ?_)
    refine x_if_ne (pc := 63) (tgt := 77) dX12_not_63 rfl (fun h_63 => ?_) (fun h_63 => ?_)
    · refine x_aload_n (pc := 77) dX12_not_77 rfl ?_
      refine m_getJ (pc := 78) hM dX12_not_78 fk_12_175 ?_
      refine x_ldc2 (pc := 81) dX12_not_81 kc_12_250 ?_
      refine x_lcmp (pc := 84) dX12_not_84 ?_
      refine x_if_ne (pc := 85) (tgt := 92) dX12_not_85 rfl (fun h_85 => ?_) (fun h_85 => ?_)
      · refine x_iconst (pc := 92) (v := 0) dX12_not_92 rfl ?_
        refine x_istore_n (pc := 93) (lv2 := [_, _, _, _]) dX12_not_93 (by decide) rfl rfl ?_
        refine x_aload_n (pc := 94) dX12_not_94 rfl ?_
        refine x_callV (pc := 95) (As := []) dX12_not_95 mX12_next lk_12_197 hM.1 (g_N hM hO k.1) rfl rfl (Nat.le_of_ble_eq_true rfl) ⟨by show _ ≤ N + 5; omega, by show _ ≤ 64 * (N + 5); omega⟩ ⟨Nat.zero_le _, Nat.zero_le _⟩ (k_rv ?_)
        refine x_aload_n (pc := 98) dX12_not_98 rfl ?_
        refine x_callV (pc := 99) (As := []) dX12_not_99 mX12_added lk_12_247 hM.1 (c2 _ kn.1 (by rw [eqn]; omega)) rfl rfl (Nat.le_of_ble_eq_true rfl) ⟨by show _ ≤ N + 5; omega, by show _ ≤ 64 * (N + 5); omega⟩ ⟨Nat.zero_le _, Nat.zero_le _⟩ (k_rt ?_)
        refine x_istore_n (pc := 102) (lv2 := [_, _, _, _]) dX12_not_102 (by decide) rfl rfl ?_
        refine x_iload_n (pc := 103) dX12_not_103 rfl ?_
        refine x_if_eq (pc := 104) (tgt := 115) dX12_not_104 rfl (fun h_104 => ?_) (fun h_104 => absurd (by decide) h_104)
        refine x_iload_n (pc := 115) dX12_not_115 rfl ?_
        refine x_iload_n (pc := 116) dX12_not_116 rfl ?_
        refine x_icmp_ne (pc := 117) (tgt := 124) dX12_not_117 rfl (fun h_117 => ?_) (fun h_117 => ?_)
        · refine x_iconst (pc := 124) (v := 0) dX12_not_124 rfl ?_
          refine x_ireturn (pc := 125) dX12_not_125 rfl rfl ?_
          show rt (.int (pNt σ f n (pz σ f n N 3) (pz σ f n N 2) p).1) (MV μ a (Pσ σ (pNt σ f n (pz σ f n N 3) (pz σ f n N 2) p).2)) _ _
          rw [pNt, if_neg (not_not_intro h_15), if_neg (by first | exact fun z => h_63 z.1 | exact fun z => h_72 z.2)]
          first
            | (rw [if_pos ((lg_cmp_eq _ _).mp (by first | exact h_85 | exact Decidable.not_not.mp h_85))]
               first
                 | rw [if_neg (by exact Int32.not_lt.mpr h_109)]; exact ⟨rfl, rfl⟩
                 | rw [if_pos (by exact Int32.not_le.mp h_109)]; exact ⟨rfl, rfl⟩)
            | (rw [if_neg (by exact fun z => h_85 ((lg_cmp_eq _ _).mpr z))]
               first
                 | rw [if_pos (by first | exact h_117 | exact Decidable.not_not.mp h_117)]; exact ⟨rfl, rfl⟩
                 | rw [if_neg h_117]; exact ⟨rfl, rfl⟩)
        · refine x_iconst (pc := 120) (v := 1) dX12_not_120 rfl ?_
          refine x_goto (pc := 121) (tgt := 125) dX12_not_121 rfl ?_
          refine x_ireturn (pc := 125) dX12_not_125 rfl rfl ?_
          show rt (.int (pNt σ f n (pz σ f n N 3) (pz σ f n N 2) p).1) (MV μ a (Pσ σ (pNt σ f n (pz σ f n N 3) (pz σ f n N 2) p).2)) _ _
          rw [pNt, if_neg (not_not_intro h_15), if_neg (by first | exact fun z => h_63 z.1 | exact fun z => h_72 z.2)]
          first
            | (rw [if_pos ((lg_cmp_eq _ _).mp (by first | exact h_85 | exact Decidable.not_not.mp h_85))]
               first
                 | rw [if_neg (by exact Int32.not_lt.mpr h_109)]; exact ⟨rfl, rfl⟩
                 | rw [if_pos (by exact Int32.not_le.mp h_109)]; exact ⟨rfl, rfl⟩)
            | (rw [if_neg (by exact fun z => h_85 ((lg_cmp_eq _ _).mpr z))]
               first
                 | rw [if_pos (by first | exact h_117 | exact Decidable.not_not.mp h_117)]; exact ⟨rfl, rfl⟩
                 | rw [if_neg h_117]; exact ⟨rfl, rfl⟩)
      · refine x_iconst (pc := 88) (v := 1) dX12_not_88 rfl ?_
        refine x_goto (pc := 89) (tgt := 93) dX12_not_89 rfl ?_
        refine x_istore_n (pc := 93) (lv2 := [_, _, _, _]) dX12_not_93 (by decide) rfl rfl ?_
        refine x_aload_n (pc := 94) dX12_not_94 rfl ?_
        refine x_callV (pc := 95) (As := []) dX12_not_95 mX12_next lk_12_197 hM.1 (g_N hM hO k.1) rfl rfl (Nat.le_of_ble_eq_true rfl) ⟨by show _ ≤ N + 5; omega, by show _ ≤ 64 * (N + 5); omega⟩ ⟨Nat.zero_le _, Nat.zero_le _⟩ (k_rv ?_)
        refine x_aload_n (pc := 98) dX12_not_98 rfl ?_
        refine x_callV (pc := 99) (As := []) dX12_not_99 mX12_added lk_12_247 hM.1 (c2 _ kn.1 (by rw [eqn]; omega)) rfl rfl (Nat.le_of_ble_eq_true rfl) ⟨by show _ ≤ N + 5; omega, by show _ ≤ 64 * (N + 5); omega⟩ ⟨Nat.zero_le _, Nat.zero_le _⟩ (k_rt ?_)
        refine x_istore_n (pc := 102) (lv2 := [_, _, _, _]) dX12_not_102 (by decide) rfl rfl ?_
        refine x_iload_n (pc := 103) dX12_not_103 rfl ?_
        refine x_if_eq (pc := 104) (tgt := 115) dX12_not_104 rfl (fun h_104 => absurd h_104 (by decide)) (fun h_104 => ?_)
        refine x_iload_n (pc := 107) dX12_not_107 rfl ?_
        refine x_iload_n (pc := 108) dX12_not_108 rfl ?_
        refine x_icmp_ge (pc := 109) (tgt := 124) dX12_not_109 rfl (fun h_109 => ?_) (fun h_109 => ?_)
        · refine x_iconst (pc := 124) (v := 0) dX12_not_124 rfl ?_
          refine x_ireturn (pc := 125) dX12_not_125 rfl rfl ?_
          show rt (.int (pNt σ f n (pz σ f n N 3) (pz σ f n N 2) p).1) (MV μ a (Pσ σ (pNt σ f n (pz σ f n N 3) (pz σ f n N 2) p).2)) _ _
          rw [pNt, if_neg (not_not_intro h_15), if_neg (by first | exact fun z => h_63 z.1 | exact fun z => h_72 z.2)]
          first
            | (rw [if_pos ((lg_cmp_eq _ _).mp (by first | exact h_85 | exact Decidable.not_not.mp h_85))]
               first
                 | rw [if_neg (by exact Int32.not_lt.mpr h_109)]; exact ⟨rfl, rfl⟩
                 | rw [if_pos (by exact Int32.not_le.mp h_109)]; exact ⟨rfl, rfl⟩)
            | (rw [if_neg (by exact fun z => h_85 ((lg_cmp_eq _ _).mpr z))]
               first
                 | rw [if_pos (by first | exact h_117 | exact Decidable.not_not.mp h_117)]; exact ⟨rfl, rfl⟩
                 | rw [if_neg h_117]; exact ⟨rfl, rfl⟩)
        · refine x_goto (pc := 112) (tgt := 120) dX12_not_112 rfl ?_
          refine x_iconst (pc := 120) (v := 1) dX12_not_120 rfl ?_
          refine x_goto (pc := 121) (tgt := 125) dX12_not_121 rfl ?_
          refine x_ireturn (pc := 125) dX12_not_125 rfl rfl ?_
          show rt (.int (pNt σ f n (pz σ f n N 3) (pz σ f n N 2) p).1) (MV μ a (Pσ σ (pNt σ f n (pz σ f n N 3) (pz σ f n N 2) p).2)) _ _
          rw [pNt, if_neg (not_not_intro h_15), if_neg (by first | exact fun z => h_63 z.1 | exact fun z => h_72 z.2)]
          first
            | (rw [if_pos ((lg_cmp_eq _ _).mp (by first | exact h_85 | exact Decidable.not_not.mp h_85))]
               first
                 | rw [if_neg (by exact Int32.not_lt.mpr h_109)]; exact ⟨rfl, rfl⟩
                 | rw [if_pos (by exact Int32.not_le.mp h_109)]; exact ⟨rfl, rfl⟩)
            | (rw [if_neg (by exact fun z => h_85 ((lg_cmp_eq _ _).mpr z))]
               first
                 | rw [if_pos (by first | exact h_117 | exact Decidable.not_not.mp h_117)]; exact ⟨rfl, rfl⟩
                 | rw [if_neg h_117]; exact ⟨rfl, rfl⟩)
    · refine x_aload_n (pc := 66) dX12_not_66 rfl ?_
      refine x_bipush (pc := 67) (v := 61) dX12_not_67 rfl ?_
      refine x_callV (pc := 69) (As := [.int _]) dX12_not_69 mX12_isSign lk_12_222 hM.1 (g_S hM k.1 _) rfl rfl (Nat.le_of_ble_eq_true rfl) ⟨by show _ ≤ N + 5; omega, by show _ ≤ 64 * (N + 5); omega⟩ ⟨Nat.zero_le _, Nat.zero_le _⟩ (k_rt ?_)
      refine x_if_ne (pc := 72) (tgt := 77) dX12_not_72 rfl (fun h_72 => ?_) (fun h_72 => ?_)
      · refine x_aload_n (pc := 77) dX12_not_77 rfl ?_
        refine m_getJ (pc := 78) hM dX12_not_78 fk_12_175 ?_
        refine x_ldc2 (pc := 81) dX12_not_81 kc_12_250 ?_
        refine x_lcmp (pc := 84) dX12_not_84 ?_
        refine x_if_ne (pc := 85) (tgt := 92) dX12_not_85 rfl (fun h_85 => ?_) (fun h_85 => ?_)
        · refine x_iconst (pc := 92) (v := 0) dX12_not_92 rfl ?_
          refine x_istore_n (pc := 93) (lv2 := [_, _, _, _]) dX12_not_93 (by decide) rfl rfl ?_
          refine x_aload_n (pc := 94) dX12_not_94 rfl ?_
          refine x_callV (pc := 95) (As := []) dX12_not_95 mX12_next lk_12_197 hM.1 (g_N hM hO k.1) rfl rfl (Nat.le_of_ble_eq_true rfl) ⟨by show _ ≤ N + 5; omega, by show _ ≤ 64 * (N + 5); omega⟩ ⟨Nat.zero_le _, Nat.zero_le _⟩ (k_rv ?_)
          refine x_aload_n (pc := 98) dX12_not_98 rfl ?_
          refine x_callV (pc := 99) (As := []) dX12_not_99 mX12_added lk_12_247 hM.1 (c2 _ kn.1 (by rw [eqn]; omega)) rfl rfl (Nat.le_of_ble_eq_true rfl) ⟨by show _ ≤ N + 5; omega, by show _ ≤ 64 * (N + 5); omega⟩ ⟨Nat.zero_le _, Nat.zero_le _⟩ (k_rt ?_)
          refine x_istore_n (pc := 102) (lv2 := [_, _, _, _]) dX12_not_102 (by decide) rfl rfl ?_
          refine x_iload_n (pc := 103) dX12_not_103 rfl ?_
          refine x_if_eq (pc := 104) (tgt := 115) dX12_not_104 rfl (fun h_104 => ?_) (fun h_104 => absurd (by decide) h_104)
          refine x_iload_n (pc := 115) dX12_not_115 rfl ?_
          refine x_iload_n (pc := 116) dX12_not_116 rfl ?_
          refine x_icmp_ne (pc := 117) (tgt := 124) dX12_not_117 rfl (fun h_117 => ?_) (fun h_117 => ?_)
          · refine x_iconst (pc := 124) (v := 0) dX12_not_124 rfl ?_
            refine x_ireturn (pc := 125) dX12_not_125 rfl rfl ?_
            show rt (.int (pNt σ f n (pz σ f n N 3) (pz σ f n N 2) p).1) (MV μ a (Pσ σ (pNt σ f n (pz σ f n N 3) (pz σ f n N 2) p).2)) _ _
            rw [pNt, if_neg (not_not_intro h_15), if_neg (by first | exact fun z => h_63 z.1 | exact fun z => h_72 z.2)]
            first
              | (rw [if_pos ((lg_cmp_eq _ _).mp (by first | exact h_85 | exact Decidable.not_not.mp h_85))]
                 first
                   | rw [if_neg (by exact Int32.not_lt.mpr h_109)]; exact ⟨rfl, rfl⟩
                   | rw [if_pos (by exact Int32.not_le.mp h_109)]; exact ⟨rfl, rfl⟩)
              | (rw [if_neg (by exact fun z => h_85 ((lg_cmp_eq _ _).mpr z))]
                 first
                   | rw [if_pos (by first | exact h_117 | exact Decidable.not_not.mp h_117)]; exact ⟨rfl, rfl⟩
                   | rw [if_neg h_117]; exact ⟨rfl, rfl⟩)
          · refine x_iconst (pc := 120) (v := 1) dX12_not_120 rfl ?_
            refine x_goto (pc := 121) (tgt := 125) dX12_not_121 rfl ?_
            refine x_ireturn (pc := 125) dX12_not_125 rfl rfl ?_
            show rt (.int (pNt σ f n (pz σ f n N 3) (pz σ f n N 2) p).1) (MV μ a (Pσ σ (pNt σ f n (pz σ f n N 3) (pz σ f n N 2) p).2)) _ _
            rw [pNt, if_neg (not_not_intro h_15), if_neg (by first | exact fun z => h_63 z.1 | exact fun z => h_72 z.2)]
            first
              | (rw [if_pos ((lg_cmp_eq _ _).mp (by first | exact h_85 | exact Decidable.not_not.mp h_85))]
                 first
                   | rw [if_neg (by exact Int32.not_lt.mpr h_109)]; exact ⟨rfl, rfl⟩
                   | rw [if_pos (by exact Int32.not_le.mp h_109)]; exact ⟨rfl, rfl⟩)
              | (rw [if_neg (by exact fun z => h_85 ((lg_cmp_eq _ _).mpr z))]
                 first
                   | rw [if_pos (by first | exact h_117 | exact Decidable.not_not.mp h_117)]; exact ⟨rfl, rfl⟩
                   | rw [if_neg h_117]; exact ⟨rfl, rfl⟩)
        · refine x_iconst (pc := 88) (v := 1) dX12_not_88 rfl ?_
          refine x_goto (pc := 89) (tgt := 93) dX12_not_89 rfl ?_
          refine x_istore_n (pc := 93) (lv2 := [_, _, _, _]) dX12_not_93 (by decide) rfl rfl ?_
          refine x_aload_n (pc := 94) dX12_not_94 rfl ?_
          refine x_callV (pc := 95) (As := []) dX12_not_95 mX12_next lk_12_197 hM.1 (g_N hM hO k.1) rfl rfl (Nat.le_of_ble_eq_true rfl) ⟨by show _ ≤ N + 5; omega, by show _ ≤ 64 * (N + 5); omega⟩ ⟨Nat.zero_le _, Nat.zero_le _⟩ (k_rv ?_)
          refine x_aload_n (pc := 98) dX12_not_98 rfl ?_
          refine x_callV (pc := 99) (As := []) dX12_not_99 mX12_added lk_12_247 hM.1 (c2 _ kn.1 (by rw [eqn]; omega)) rfl rfl (Nat.le_of_ble_eq_true rfl) ⟨by show _ ≤ N + 5; omega, by show _ ≤ 64 * (N + 5); omega⟩ ⟨Nat.zero_le _, Nat.zero_le _⟩ (k_rt ?_)
          refine x_istore_n (pc := 102) (lv2 := [_, _, _, _]) dX12_not_102 (by decide) rfl rfl ?_
          refine x_iload_n (pc := 103) dX12_not_103 rfl ?_
          refine x_if_eq (pc := 104) (tgt := 115) dX12_not_104 rfl (fun h_104 => absurd h_104 (by decide)) (fun h_104 => ?_)
          refine x_iload_n (pc := 107) dX12_not_107 rfl ?_
          refine x_iload_n (pc := 108) dX12_not_108 rfl ?_
          refine x_icmp_ge (pc := 109) (tgt := 124) dX12_not_109 rfl (fun h_109 => ?_) (fun h_109 => ?_)
          · refine x_iconst (pc := 124) (v := 0) dX12_not_124 rfl ?_
            refine x_ireturn (pc := 125) dX12_not_125 rfl rfl ?_
            show rt (.int (pNt σ f n (pz σ f n N 3) (pz σ f n N 2) p).1) (MV μ a (Pσ σ (pNt σ f n (pz σ f n N 3) (pz σ f n N 2) p).2)) _ _
            rw [pNt, if_neg (not_not_intro h_15), if_neg (by first | exact fun z => h_63 z.1 | exact fun z => h_72 z.2)]
            first
              | (rw [if_pos ((lg_cmp_eq _ _).mp (by first | exact h_85 | exact Decidable.not_not.mp h_85))]
                 first
                   | rw [if_neg (by exact Int32.not_lt.mpr h_109)]; exact ⟨rfl, rfl⟩
                   | rw [if_pos (by exact Int32.not_le.mp h_109)]; exact ⟨rfl, rfl⟩)
              | (rw [if_neg (by exact fun z => h_85 ((lg_cmp_eq _ _).mpr z))]
                 first
                   | rw [if_pos (by first | exact h_117 | exact Decidable.not_not.mp h_117)]; exact ⟨rfl, rfl⟩
                   | rw [if_neg h_117]; exact ⟨rfl, rfl⟩)
          · refine x_goto (pc := 112) (tgt := 120) dX12_not_112 rfl ?_
            refine x_iconst (pc := 120) (v := 1) dX12_not_120 rfl ?_
            refine x_goto (pc := 121) (tgt := 125) dX12_not_121 rfl ?_
            refine x_ireturn (pc := 125) dX12_not_125 rfl rfl ?_
            show rt (.int (pNt σ f n (pz σ f n N 3) (pz σ f n N 2) p).1) (MV μ a (Pσ σ (pNt σ f n (pz σ f n N 3) (pz σ f n N 2) p).2)) _ _
            rw [pNt, if_neg (not_not_intro h_15), if_neg (by first | exact fun z => h_63 z.1 | exact fun z => h_72 z.2)]
            first
              | (rw [if_pos ((lg_cmp_eq _ _).mp (by first | exact h_85 | exact Decidable.not_not.mp h_85))]
                 first
                   | rw [if_neg (by exact Int32.not_lt.mpr h_109)]; exact ⟨rfl, rfl⟩
                   | rw [if_pos (by exact Int32.not_le.mp h_109)]; exact ⟨rfl, rfl⟩)
              | (rw [if_neg (by exact fun z => h_85 ((lg_cmp_eq _ _).mpr z))]
                 first
                   | rw [if_pos (by first | exact h_117 | exact Decidable.not_not.mp h_117)]; exact ⟨rfl, rfl⟩
                   | rw [if_neg h_117]; exact ⟨rfl, rfl⟩)
      · refine x_iload_n (pc := 75) dX12_not_75 rfl ?_
        refine x_ireturn (pc := 76) dX12_not_76 rfl rfl ?_
        show rt (.int (pNt σ f n (pz σ f n N 3) (pz σ f n N 2) p).1) (MV μ a (Pσ σ (pNt σ f n (pz σ f n N 3) (pz σ f n N 2) p).2)) _ _
        rw [pNt, if_neg (not_not_intro h_15), if_pos ⟨h_63, h_72⟩]
        exact ⟨rfl, rfl⟩
  · by_cases h5 : pop p = 5
    · exact A5 h_15 h5
    · exact A h_15 h5
def zl : Nat → Mt := fun l => match l with
  | 0 => zX12_atom
  | 1 => zX12_term
  | 2 => zX12_added
  | 3 => zX12_not
  | 4 => zX12_both
  | _ => zX12_either
theorem g_all {f n : Nat} (hM : MOK μ a) (hO : rdO σ f n) : ∀ N : Nat, (∀ p, okp n p → 7 * (5 - pop p) + 0 < N → XM Γ zX12_atom (N + 4) 0 0 [.ref a.1] (MV μ a (Pσ σ p)) (rt (.int (pz σ f n N 0 p).1) (MV μ a (Pσ σ (pz σ f n N 0 p).2)))) ∧ (∀ p, okp n p → 7 * (5 - pop p) + 1 < N → XM Γ zX12_term (N + 4) 0 0 [.ref a.1] (MV μ a (Pσ σ p)) (rt (.int (pz σ f n N 1 p).1) (MV μ a (Pσ σ (pz σ f n N 1 p).2)))) ∧ (∀ p, okp n p → 7 * (5 - pop p) + 2 < N → XM Γ zX12_added (N + 4) 0 0 [.ref a.1] (MV μ a (Pσ σ p)) (rt (.int (pz σ f n N 2 p).1) (MV μ a (Pσ σ (pz σ f n N 2 p).2)))) ∧ (∀ p, okp n p → 7 * (5 - pop p) + 3 < N → XM Γ zX12_not (N + 4) 0 0 [.ref a.1] (MV μ a (Pσ σ p)) (rt (.int (pz σ f n N 3 p).1) (MV μ a (Pσ σ (pz σ f n N 3 p).2)))) ∧ (∀ p, okp n p → 7 * (5 - pop p) + 4 < N → XM Γ zX12_both (N + 4) 0 0 [.ref a.1] (MV μ a (Pσ σ p)) (rt (.int (pz σ f n N 4 p).1) (MV μ a (Pσ σ (pz σ f n N 4 p).2)))) ∧ (∀ p, okp n p → 7 * (5 - pop p) + 5 < N → XM Γ zX12_either (N + 4) 0 0 [.ref a.1] (MV μ a (Pσ σ p)) (rt (.int (pz σ f n N 5 p).1) (MV μ a (Pσ σ (pz σ f n N 5 p).2))))
  | 0 => ⟨fun _ _ h => absurd h (by omega), fun _ _ h => absurd h (by omega), fun _ _ h => absurd h (by omega), fun _ _ h => absurd h (by omega), fun _ _ h => absurd h (by omega), fun _ _ h => absurd h (by omega)⟩
  | N + 1 => by
    obtain ⟨c0, c1, c2, c3, c4, c5⟩ := g_all hM hO N
    exact ⟨s_atom hM hO N c0 c5, s_term hM hO N c0, s_added hM hO N c1, s_not hM hO N c3 c2, s_both hM hO N c3, s_either hM hO N c4⟩
end M41
