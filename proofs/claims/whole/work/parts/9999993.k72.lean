/-! the class: things -/
def hld3 (sz at_ : Int32) : Prop := 0 ≤ (3 : Int32) ∧ 3 ≤ sz ∧ 0 ≤ at_ ∧ at_ ≤ sz - 3
def tsC (ce : Nat → Int32) (sz fr : Int32) : Nat → Nat → Int32 → KS → (Nat → Nat) → Nat → Int32 → KS → (Nat → Nat) → Nat → Prop
  | 0, _, came, κ, kd, n, v, κ2, kd2, n2 => v = came ∧ κ2 = κ ∧ kd2 = kd ∧ n2 = n
  | m + 1, i, came, κ, kd, n, v, κ2, kd2, n2 => (¬ hld3 sz (fr + 3 * nI i) ∧ v = -12 ∧ κ2 = κ ∧ kd2 = kd ∧ n2 = n) ∨ (hld3 sz (fr + 3 * nI i) ∧ ∃ (w : Int32) (κ' : KS) (kd' : Nat → Nat) (n' : Nat), thC κ kd n (ce (nn (fr + 3 * nI i))) (ce (nn (fr + 3 * nI i) + 1)) (ce (nn (fr + 3 * nI i) + 2)) w κ' kd' n' ∧ tsC ce sz fr m (i + 1) (came + if w < 0 then 0 else 1) κ' kd' n' v κ2 kd2 n2)
def tsCC (κ : KS) (kd : Nat → Nat) (n : Nat) (s k fr N v : Int32) (κ2 : KS) (kd2 : Nat → Nat) (n2 : Nat) : Prop := if (0 ≤ s ∧ s < 4) ∧ (0 ≤ k ∧ k < 3) ∧ (¬ N < 0 ∧ N ≤ 5) then (if κ.1 (5 + nn s) 0 = -1 then v = -11 ∧ κ2 = κ ∧ kd2 = kd ∧ n2 = n else if κ.1 (5 + nn s) 0 = k then tsC (κ.2 (5 + nn s) 2) (κ.1 (5 + nn s) 1) fr (nn N) 0 0 κ kd n v κ2 kd2 n2 else v = -13 ∧ κ2 = κ ∧ kd2 = kd ∧ n2 = n) else v = -2 ∧ κ2 = κ ∧ kd2 = kd ∧ n2 = n
theorem thC_cnt {κ κ2 : KS} {kd kd2 : Nat → Nat} {n n2 : Nat} {k x g v : Int32} (h : thC κ kd n k x g v κ2 kd2 n2) (h14 : κ.1 1 4 = nI n) (hn5 : n ≤ 5) : κ2.1 1 4 = nI n2 ∧ n2 ≤ 5 ∧ ∀ a, 2 ≤ a → a < 15 → κ2.1 a = κ.1 a ∧ κ2.2 a = κ.2 a := by
  rcases h with ⟨-, -, rfl, rfl, rfl⟩ | ⟨-, -, -, rfl, rfl, rfl⟩ | ⟨-, h2, -, rfl, -, h6, -, -, h9, -⟩
  · exact ⟨h14, hn5, fun _ _ _ => ⟨rfl, rfl⟩⟩
  · exact ⟨h14, hn5, fun _ _ _ => ⟨rfl, rfl⟩⟩
  · exact ⟨h9, by omega, fun a h1 h2 => h6 a (by omega) (by omega) (by omega)⟩
section M9999993
variable {Γ : Gm} {μ : Mem} {b : Kb} {κ : KS} {kd : Nat → Nat} {kp : Bool} {n nt : Nat} {tn : Nat → Nat}
theorem k_ts_l (hnt : nt ≤ 6) {s k fr : Int32} {q z N : Nat} (hq : q < 4) (hz : z ≤ 40) (hN : N ≤ 5) {Q : Option Value → Mem → Prop} {μ0 : Mem} {b0 : Kb} {κ0 : KS} {ce : Nat → Int32} (P : Nat → Nat → Int32 → KS → (Nat → Nat) → Nat → Prop) (hP0 : ∀ i came κ1 kd1 n1, i = N → P 0 i came κ1 kd1 n1 → ∀ μ2 b2, CI μ2 b2 kd1 kp 4 nt tn → FO μ0 b0 κ0 μ2 b2 κ1 → (∀ a, a < 15 → adO b2 a = adO b0 a) → Q (some (.int came)) (KV μ2 b2 κ1)) (hPx : ∀ m i came κ1 kd1 n1, P (m + 1) i came κ1 kd1 n1 → ¬ hld3 (nI z) (fr + 3 * nI i) → ∀ μ2 b2, CI μ2 b2 kd1 kp 4 nt tn → FO μ0 b0 κ0 μ2 b2 κ1 → (∀ a, a < 15 → adO b2 a = adO b0 a) → Q (some (.int (-12))) (KV μ2 b2 κ1)) (hPs : ∀ m i came κ1 kd1 n1, P (m + 1) i came κ1 kd1 n1 → hld3 (nI z) (fr + 3 * nI i) → ∀ w κ' kd' n', thC κ1 kd1 n1 (ce (nn (fr + 3 * nI i))) (ce (nn (fr + 3 * nI i) + 1)) (ce (nn (fr + 3 * nI i) + 2)) w κ' kd' n' → P m (i + 1) (came + if w < 0 then 0 else 1) κ' kd' n') : ∀ (m i : Nat) (came : Int32) (μ' : Mem) (b' : Kb) (κ' : KS) (kd' : Nat → Nat) (n' : Nat) (z8 : Option Value), i + m = N → P m i came κ' kd' n' → CI μ' b' kd' kp 4 nt tn → FO μ0 b0 κ0 μ' b' κ' → (∀ a, a < 15 → adO b' a = adO b0 a) → κ'.1 1 4 = nI n' → n' ≤ 5 → κ'.2 (5 + q) 2 = ce → κ'.1 (5 + q) 1 = nI z → WA Γ zX11_things (xrm 6 35 310) 35 310 (7 * i) (62 * i) Q 68 [some (.ref (adO b0 0)), some (.int s), some (.int k), some (.int fr), some (.int (nI N)), some (.ref (adO b0 (5 + q))), some (.int came), some (.int (nI i)), z8] [] (KV μ' b' κ') := by
  intro m
  induction m with
  | zero =>
    intro i came μ' b' κ' kd' n' z8 hi hP hI hF hA h14 hn5 hce hsz
    obtain rfl : i = N := by omega
    refine x_iload (pc := 68) dX11_things_68 rfl ?_
    refine x_iload (pc := 70) dX11_things_70 rfl ?_
    refine x_icmp_ge (pc := 72) (tgt := 141) dX11_things_72 rfl (fun h_72 => ?_) (fun h_72 => absurd (Int32.le_refl _) h_72)
    refine x_iload (pc := 141) dX11_things_141 rfl ?_
    refine x_widen (k := 35) (n := 310) (by omega) (by omega) ?_
    refine x_ireturn (pc := 143) dX11_things_143 rfl rfl ?_
    exact hP0 i came κ' kd' n' rfl hP μ' b' hI hF hA
  | succ m ih =>
    intro i came μ' b' κ' kd' n' z8 hi hP hI hF hA h14 hn5 hce hsz
    have hI' := hI
    obtain ⟨-, ⟨c1, c2, c3, c4, c5, c6, c7⟩, ⟨c8, c9⟩, hh, -, ⟨p1, p2⟩, c10, hsh, -⟩ := hI'
    have hS := (hsh q hq).2
    rw [← hA 0 (by decide), ← hA (5 + q) (by omega)]
    refine x_iload (pc := 68) dX11_things_68 rfl ?_
    refine x_iload (pc := 70) dX11_things_70 rfl ?_
    refine x_icmp_ge (pc := 72) (tgt := 141) dX11_things_72 rfl (fun h_72 => absurd h_72 (nI_ge (a := i) (b := N) (by omega) (by omega))) (fun h_72 => ?_)
    refine x_iload_n (pc := 75) dX11_things_75 rfl ?_
    refine x_iconst (pc := 76) (v := 3) dX11_things_76 rfl ?_
    refine x_iload (pc := 77) dX11_things_77 rfl ?_
    refine x_imul (pc := 79) dX11_things_79 ?_
    refine x_iadd (pc := 80) dX11_things_80 ?_
    refine x_istore (pc := 81) (lv2 := [_, _, _, _, _, _, _, _, _]) dX11_things_81 (by decide) rfl rfl ?_
    refine x_aload (pc := 83) dX11_things_83 rfl ?_
    refine x_iload (pc := 85) dX11_things_85 rfl ?_
    refine x_iconst (pc := 87) (v := 3) dX11_things_87 rfl ?_
    refine x_callV (pc := 88) (As := [.int _, .int _]) dX11_things_88 mX7_holds lk_11_247 hS.2.2.1 (k_holds hS (fr + 3 * nI i) 3) rfl rfl (Nat.le_of_ble_eq_true rfl) ⟨by decide, by decide⟩ ⟨by show 7 * i + 0 ≤ 35; omega, by show 62 * i + 0 ≤ 310; omega⟩ (k_rt ?_)
    refine x_if_ne (pc := 91) (tgt := 97) dX11_things_91 rfl (fun h_91 => ?_) (fun h_91 => ?_)
    · have hyes := bi_n0 h_91
      rw [hsz] at hyes
      have hyes2 : hld3 (nI z) (fr + 3 * nI i) := hyes
      have hz3 : 3 ≤ z := (nI_leI (a := 3) (by decide) (by omega)).mp hyes.2.1
      obtain ⟨A, hA1, eA⟩ := ixB (x := fr + 3 * nI i) (c := nI (z - 3)) (n := z - 3) rfl ⟨hyes.2.2.1, by
        have := hyes.2.2.2
        rw [show nI z - 3 = nI (z - 3) from pk_sub (b := 3) hz3] at this
        exact this⟩ (by omega)
      have hS3 := hPs m i came κ' kd' n' hP hyes2
      rw [eA, nn_nI (by omega)] at hS3
      rw [eA]
      refine x_aload_n (pc := 97) dX11_things_97 rfl ?_
      refine x_aload (pc := 98) dX11_things_98 rfl ?_
      refine k_getA (pc := 100) hS dX11_things_100 fk_11_199 (Or.inr ⟨_, rfl⟩) (by decide) ?_
      refine x_iload (pc := 103) dX11_things_103 rfl ?_
      refine k_iald (pc := 105) hS dX11_things_105 (rfl) (show A < 40 by omega) (by decide) ?_
      refine x_aload (pc := 106) dX11_things_106 rfl ?_
      refine k_getA (pc := 108) hS dX11_things_108 fk_11_199 (Or.inr ⟨_, rfl⟩) (by decide) ?_
      refine x_iload (pc := 111) dX11_things_111 rfl ?_
      refine x_iconst (pc := 113) (v := 1) dX11_things_113 rfl ?_
      refine x_iadd (pc := 114) dX11_things_114 ?_
      rw [nI_1]
      refine k_iald (pc := 115) hS dX11_things_115 (rfl) (show A + 1 < 40 by omega) (by decide) ?_
      refine x_aload (pc := 116) dX11_things_116 rfl ?_
      refine k_getA (pc := 118) hS dX11_things_118 fk_11_199 (Or.inr ⟨_, rfl⟩) (by decide) ?_
      refine x_iload (pc := 121) dX11_things_121 rfl ?_
      refine x_iconst (pc := 123) (v := 2) dX11_things_123 rfl ?_
      refine x_iadd (pc := 124) dX11_things_124 ?_
      rw [show nI A + 2 = nI (A + 2) from nI_add A 2]
      refine k_iald (pc := 125) hS dX11_things_125 (rfl) (show A + 2 < 40 by omega) (by decide) ?_
      rw [hce]
      refine x_callV (pc := 126) (As := [.int _, .int _, .int _]) dX11_things_126 mX11_thing lk_11_250 c1.2.2.1 (k_thing hI hnt (ce A) (ce (A + 1)) (ce (A + 2)) h14 hn5) rfl rfl (Nat.le_of_ble_eq_true rfl) ⟨by decide, by decide⟩ ⟨by show 7 * i + 0 + 7 ≤ 35; omega, by show 62 * i + 0 + 62 ≤ 310; omega⟩ (fun r μ2 hr => ?_)
      obtain ⟨w, μ3, b3, κ3, kd3, n3, rfl, rfl, hI3, fo3, ad3, hth⟩ := hr
      dsimp only [Option.toList, List.cons_append, List.nil_append]
      obtain ⟨t1, t2, t3⟩ := thC_cnt hth h14 hn5
      have ht5 := t3 (5 + q) (by omega) (by omega)
      have hP3 := hS3 w κ3 kd3 n3 hth
      have ih2 := ih (i + 1) _ μ3 b3 κ3 kd3 n3 (some (.int (nI A))) (by omega) hP3 hI3 (hF.trans fo3) (fun a ha => (ad3 a ha).trans (hA a ha)) t1 t2 (by rw [ht5.2]; exact hce) (by rw [ht5.1]; exact hsz)
      rw [show 7 * (i + 1) = 7 * i + 7 by omega, show 62 * (i + 1) = 62 * i + 62 by omega] at ih2
      rw [hA 0 (by decide), hA (5 + q) (by omega)]
      refine x_if_lt (pc := 129) (tgt := 135) dX11_things_129 rfl (fun h_129 => ?_) (fun h_129 => ?_)
      · refine x_iinc (pc := 135) (lv2 := [_, _, _, _, _, _, _, _, _]) dX11_things_135 (by decide) rfl rfl (nI_1 _) rfl ?_
        refine x_goto (pc := 138) (tgt := 68) dX11_things_138 rfl ?_
        rw [if_pos h_129, Int32.add_zero] at ih2
        exact ih2
      · refine x_iinc (pc := 132) (lv2 := [_, _, _, _, _, _, _, _, _]) dX11_things_132 (by decide) rfl rfl (inc1 _) rfl ?_
        refine x_iinc (pc := 135) (lv2 := [_, _, _, _, _, _, _, _, _]) dX11_things_135 (by decide) rfl rfl (nI_1 _) rfl ?_
        refine x_goto (pc := 138) (tgt := 68) dX11_things_138 rfl ?_
        rw [if_neg h_129] at ih2
        exact ih2
    · refine x_bipush (pc := 94) (v := -12) dX11_things_94 rfl ?_
      refine x_widen (k := 35) (n := 310) (by omega) (by omega) ?_
      refine x_ireturn (pc := 96) dX11_things_96 rfl rfl ?_
      have hno := bi_0.mp h_91
      rw [hsz] at hno
      exact hPx m i came κ' kd' n' hP hno μ' b' hI hF hA
theorem k_things (hI : CI μ b kd kp 4 nt tn) (hnt : nt ≤ 6) (s k fr n9 : Int32) (h14 : κ.1 1 4 = nI n) (hn5 : n ≤ 5) (hz : ∀ i, i < 4 → κ.1 (5 + i) 0 = -1 ∨ ∃ z, z ≤ 40 ∧ κ.1 (5 + i) 1 = nI z) : XM Γ zX11_things 6 35 310 [.ref (adO b 0), .int s, .int k, .int fr, .int n9] (KV μ b κ) (fun r M => ∃ v μ2 b2 κ2 kd2 n2, r = some (.int v) ∧ M = KV μ2 b2 κ2 ∧ CI μ2 b2 kd2 kp 4 nt tn ∧ FO μ b κ μ2 b2 κ2 ∧ adO b2 0 = adO b 0 ∧ tsCC κ kd n s k fr n9 v κ2 kd2 n2) := by
  refine XM.of 4 rfl (by decide) (Nat.le_of_ble_eq_true rfl) ?_
  have hI' := hI
  obtain ⟨-, ⟨c1, c2, c3, c4, c5, c6, c7⟩, ⟨c8, c9⟩, hh, -, ⟨p1, p2⟩, c10, hsh, -⟩ := hI'
  refine x_iload_n (pc := 0) dX11_things_0 rfl ?_
  refine x_iconst (pc := 1) (v := 4) dX11_things_1 rfl ?_
  refine x_callS (pc := 2) (As := [.int _, .int _]) dX11_things_2 mX11_isBelow lk_11_104 (k_isBelow _ _) rfl rfl (Nat.le_of_ble_eq_true rfl) ⟨by decide, by decide⟩ ⟨Nat.zero_le _, Nat.zero_le _⟩ (k_rt ?_)
  refine x_if_eq (pc := 5) (tgt := 27) dX11_things_5 rfl (fun h_5 => ?_) (fun h_5 => ?_)
  · refine x_bipush (pc := 27) (v := -2) dX11_things_27 rfl ?_
    refine x_widen (k := 35) (n := 310) (Nat.le_of_ble_eq_true rfl) (Nat.le_of_ble_eq_true rfl) ?_
    refine x_ireturn (pc := 29) dX11_things_29 rfl rfl ?_
    refine ⟨_, μ, b, κ, kd, n, rfl, rfl, hI, FO.rf, rfl, ?_⟩
    unfold tsCC
    rw [if_neg (fun z => by first | exact bi_0.mp h_5 z.1 | exact bi_0.mp h_13 z.2.1 | exact z.2.2.1 h_18 | exact h_24 z.2.2.2)]
    exact ⟨rfl, rfl, rfl, rfl⟩
  · refine x_iload_n (pc := 8) dX11_things_8 rfl ?_
    refine x_iconst (pc := 9) (v := 3) dX11_things_9 rfl ?_
    refine x_callS (pc := 10) (As := [.int _, .int _]) dX11_things_10 mX11_isBelow lk_11_104 (k_isBelow _ _) rfl rfl (Nat.le_of_ble_eq_true rfl) ⟨by decide, by decide⟩ ⟨Nat.zero_le _, Nat.zero_le _⟩ (k_rt ?_)
    refine x_if_eq (pc := 13) (tgt := 27) dX11_things_13 rfl (fun h_13 => ?_) (fun h_13 => ?_)
    · refine x_bipush (pc := 27) (v := -2) dX11_things_27 rfl ?_
      refine x_widen (k := 35) (n := 310) (Nat.le_of_ble_eq_true rfl) (Nat.le_of_ble_eq_true rfl) ?_
      refine x_ireturn (pc := 29) dX11_things_29 rfl rfl ?_
      refine ⟨_, μ, b, κ, kd, n, rfl, rfl, hI, FO.rf, rfl, ?_⟩
      unfold tsCC
      rw [if_neg (fun z => by first | exact bi_0.mp h_5 z.1 | exact bi_0.mp h_13 z.2.1 | exact z.2.2.1 h_18 | exact h_24 z.2.2.2)]
      exact ⟨rfl, rfl, rfl, rfl⟩
    · refine x_iload (pc := 16) dX11_things_16 rfl ?_
      refine x_if_lt (pc := 18) (tgt := 27) dX11_things_18 rfl (fun h_18 => ?_) (fun h_18 => ?_)
      · refine x_bipush (pc := 27) (v := -2) dX11_things_27 rfl ?_
        refine x_widen (k := 35) (n := 310) (Nat.le_of_ble_eq_true rfl) (Nat.le_of_ble_eq_true rfl) ?_
        refine x_ireturn (pc := 29) dX11_things_29 rfl rfl ?_
        refine ⟨_, μ, b, κ, kd, n, rfl, rfl, hI, FO.rf, rfl, ?_⟩
        unfold tsCC
        rw [if_neg (fun z => by first | exact bi_0.mp h_5 z.1 | exact bi_0.mp h_13 z.2.1 | exact z.2.2.1 h_18 | exact h_24 z.2.2.2)]
        exact ⟨rfl, rfl, rfl, rfl⟩
      · refine x_iload (pc := 21) dX11_things_21 rfl ?_
        refine x_iconst (pc := 23) (v := 5) dX11_things_23 rfl ?_
        refine x_icmp_le (pc := 24) (tgt := 30) dX11_things_24 rfl (fun h_24 => ?_) (fun h_24 => ?_)
        · have hg : (0 ≤ s ∧ s < 4) ∧ (0 ≤ k ∧ k < 3) ∧ (¬ n9 < 0 ∧ n9 ≤ 5) := ⟨bi_n0 h_5, bi_n0 h_13, h_18, h_24⟩
          obtain ⟨q, hq, rfl⟩ := ixD (n := 4) hg.1 (by decide)
          obtain ⟨N, hN, rfl⟩ := ixB (x := n9) (c := 5) (n := 5) rfl ⟨Int32.not_lt.mp h_18, h_24⟩ (by decide)
          refine x_aload_n (pc := 30) dX11_things_30 rfl ?_
          refine k_getR (pc := 31) c1 dX11_things_31 fk_11_45 (Or.inr ⟨_, rfl⟩) (c6) ?_
          refine x_iload_n (pc := 34) dX11_things_34 rfl ?_
          refine x_aald (pc := 35) dX11_things_35 (c9.2.1) (Or.inr (Or.inr rfl)) (rfl) (hq) (by decide) ((hsh q hq).1) ?_
          refine x_astore (pc := 36) (lv2 := [_, _, _, _, _, _, _, _, _]) dX11_things_36 (by decide) rfl rfl ?_
          refine x_aload (pc := 38) dX11_things_38 rfl ?_
          refine k_getI (pc := 40) (hsh q hq).2 dX11_things_40 fk_11_193 (Or.inl rfl) ?_
          refine x_iconst (pc := 43) (v := -1) dX11_things_43 rfl ?_
          refine x_icmp_ne (pc := 44) (tgt := 50) dX11_things_44 rfl (fun h_44 => ?_) (fun h_44 => ?_)
          · refine x_aload (pc := 50) dX11_things_50 rfl ?_
            refine k_getI (pc := 52) (hsh q hq).2 dX11_things_52 fk_11_193 (Or.inl rfl) ?_
            refine x_iload_n (pc := 55) dX11_things_55 rfl ?_
            refine x_icmp_eq (pc := 56) (tgt := 62) dX11_things_56 rfl (fun h_56 => ?_) (fun h_56 => ?_)
            · obtain ⟨z, hz1, hz2⟩ := (hz q hq).resolve_left h_44
              refine x_iconst (pc := 62) (v := 0) dX11_things_62 rfl ?_
              refine x_istore (pc := 63) (lv2 := [_, _, _, _, _, _, _, _, _]) dX11_things_63 (by decide) rfl rfl ?_
              refine x_iconst (pc := 65) (v := 0) dX11_things_65 rfl ?_
              refine x_istore (pc := 66) (lv2 := [_, _, _, _, _, _, _, _, _]) dX11_things_66 (by decide) rfl rfl ?_
              refine k_ts_l (q := q) (z := z) (N := N) (ce := κ.2 (5 + q) 2) (μ0 := μ) (b0 := b) (κ0 := κ) hnt hq hz1 hN (fun m i came κ1 kd1 n1 => ∀ v κ2 kd2 n2, tsC (κ.2 (5 + q) 2) (nI z) fr m i came κ1 kd1 n1 v κ2 kd2 n2 → tsC (κ.2 (5 + q) 2) (nI z) fr N 0 0 κ kd n v κ2 kd2 n2) (fun i came κ1 kd1 n1 _ hP μ2 b2 hI2 hF2 hA2 => ?_) (fun m i came κ1 kd1 n1 hP hno μ2 b2 hI2 hF2 hA2 => ?_) (fun m i came κ1 kd1 n1 hP hy w κ' kd' n' hth v κ2 kd2 n2 h => hP v κ2 kd2 n2 (Or.inr ⟨hy, w, κ', kd', n', hth, h⟩)) N 0 0 μ b κ kd n none (by omega) (fun _ _ _ _ h => h) hI FO.rf (fun _ _ => rfl) h14 hn5 rfl hz2
              · refine ⟨_, μ2, b2, κ1, kd1, n1, rfl, rfl, hI2, hF2, hA2 0 (by decide), ?_⟩
                unfold tsCC
                rw [if_pos hg, nn_nI (by omega), nn_nI (by omega), if_neg h_44, if_pos h_56, hz2]
                exact hP _ _ _ _ ⟨rfl, rfl, rfl, rfl⟩
              · refine ⟨_, μ2, b2, κ1, kd1, n1, rfl, rfl, hI2, hF2, hA2 0 (by decide), ?_⟩
                unfold tsCC
                rw [if_pos hg, nn_nI (by omega), nn_nI (by omega), if_neg h_44, if_pos h_56, hz2]
                exact hP _ _ _ _ (Or.inl ⟨hno, rfl, rfl, rfl, rfl⟩)
            · refine x_bipush (pc := 59) (v := -13) dX11_things_59 rfl ?_
              refine x_widen (k := 35) (n := 310) (Nat.le_of_ble_eq_true rfl) (Nat.le_of_ble_eq_true rfl) ?_
              refine x_ireturn (pc := 61) dX11_things_61 rfl rfl ?_
              refine ⟨_, μ, b, κ, kd, n, rfl, rfl, hI, FO.rf, rfl, ?_⟩
              unfold tsCC
              rw [if_pos hg, nn_nI (by omega), if_neg h_44, if_neg h_56]
              exact ⟨rfl, rfl, rfl, rfl⟩
          · refine x_bipush (pc := 47) (v := -11) dX11_things_47 rfl ?_
            refine x_widen (k := 35) (n := 310) (Nat.le_of_ble_eq_true rfl) (Nat.le_of_ble_eq_true rfl) ?_
            refine x_ireturn (pc := 49) dX11_things_49 rfl rfl ?_
            refine ⟨_, μ, b, κ, kd, n, rfl, rfl, hI, FO.rf, rfl, ?_⟩
            unfold tsCC
            rw [if_pos hg, nn_nI (by omega), if_pos h_44]
            exact ⟨rfl, rfl, rfl, rfl⟩
        · refine x_bipush (pc := 27) (v := -2) dX11_things_27 rfl ?_
          refine x_widen (k := 35) (n := 310) (Nat.le_of_ble_eq_true rfl) (Nat.le_of_ble_eq_true rfl) ?_
          refine x_ireturn (pc := 29) dX11_things_29 rfl rfl ?_
          refine ⟨_, μ, b, κ, kd, n, rfl, rfl, hI, FO.rf, rfl, ?_⟩
          unfold tsCC
          rw [if_neg (fun z => by first | exact bi_0.mp h_5 z.1 | exact bi_0.mp h_13 z.2.1 | exact z.2.2.1 h_18 | exact h_24 z.2.2.2)]
          exact ⟨rfl, rfl, rfl, rfl⟩
end M9999993
