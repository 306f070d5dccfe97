/-! the class: force, feed, count, taken, told -/
def frK (κ : KS) (t : Int32) : Int32 × KS := if 0 ≤ t ∧ t < κ.1 0 6 then (κ.1 1 5, kI κ 1 5 t) else (-2, κ)
def fdK (κ : KS) (l : Int32) : Int32 × KS := if 0 ≤ l ∧ l < 256 then (if κ.1 0 3 < 160 then (κ.1 0 3 + 1, kI (kA κ 0 2 (nn (κ.1 0 3)) l) 0 3 (κ.1 0 3 + 1)) else (-4, κ)) else (-2, κ)
def ctK (κ : KS) (n : Nat) (x : Int32) : Int32 := if 5 ≤ x ∧ x < 11 then κ.2 1 0 (nn (x - 5)) else if 11 ≤ x ∧ x < 15 then κ.2 1 1 (nn (x - 11)) else if 15 ≤ x ∧ x < 22 then κ.2 1 2 (nn (x - 15)) else if x = 0 then κ.1 1 4 else if x = 1 then nI (cntP κ 15 n) else if x = 2 then κ.1 0 6 else if x = 3 then κ.1 0 3 else if x = 4 then κ.1 1 5 else -2
def tkK2 (κ : KS) (kd : Nat → Nat) (n : Nat) (t k : Int32) : Int32 := if 0 ≤ k ∧ k < 6 then (if 0 ≤ t ∧ t < nI n then (if k ∈ chn (nI (kd (nn t))) then κ.1 (15 + nn t) 2 else -13) else -11) else -2
def tdK2 (κ : KS) (kd : Nat → Nat) (n : Nat) (t x : Int32) : Int32 := if 0 ≤ t ∧ t < nI n then (if x = 0 then κ.1 (15 + nn t) 0 else if x = 1 then κ.1 (15 + nn t) 2 else if x = 2 then κ.1 (15 + nn t) 3 else if x = 3 then κ.1 (15 + nn t) 4 else if x = 4 then κ.1 (15 + nn t) 5 else if x = 5 then (if 0 ≤ κ.1 (15 + nn t) 5 ∧ κ.1 (15 + nn t) 5 < 6 then vwI (κ.2 1 0 (nn (κ.1 (15 + nn t) 5))) (κ.2 1 1) 4 else 0) else if x < 6 then -100 else if x < 12 then (if stI (nI (kd (nn t))) (x - 6) = 0 then 0 else 1) else -100) else -100
theorem sub_ix {x a : Int32} {A B : Nat} (ha : a = nI A) (hA : A < 100) (h1 : a ≤ x) (hb : x < nI (A + B)) (hB : B < 100) : ∃ j, j < B ∧ x - a = nI j ∧ x = nI (A + j) := by
  subst ha
  have h0 : 0 ≤ x := Int32.le_trans (show (0 : Int32) ≤ nI A from (nI_leI (a := 0) (by omega) (by omega)).mpr (Nat.zero_le _)) h1
  obtain ⟨j, hj, rfl⟩ := ixD (n := A + B) ⟨h0, hb⟩ (by omega)
  have h2 := (nI_leI (by omega) (by omega)).mp h1
  exact ⟨j - A, by omega, pk_sub h2, by rw [Nat.add_sub_cancel' h2]⟩
section M999999
variable {Γ : Gm} {μ : Mem} {b : Kb} {κ : KS} {kd : Nat → Nat} {kp : Bool} {n nt : Nat} {tn : Nat → Nat}
theorem k_force (hI : CI μ b kd kp 4 nt tn) (t : Int32) : XM Γ zX11_force 2 0 0 [.ref (adO b 0), .int t] (KV μ b κ) (rt (.int (frK κ t).1) (KV μ b (frK κ t).2)) := by
  refine XM.of 1 rfl (by decide) (Nat.le_of_ble_eq_true rfl) ?_
  have hI' := hI
  obtain ⟨-, ⟨c1, c2, c3, c4, c5, c6, c7⟩, ⟨c8, c9⟩, hh, -, ⟨p1, p2⟩, c10, hsh, -⟩ := hI'
  refine x_iload_n (pc := 0) dX11_force_0 rfl ?_
  refine x_aload_n (pc := 1) dX11_force_1 rfl ?_
  refine k_getI (pc := 2) c1 dX11_force_2 fk_11_40 (Or.inl rfl) ?_
  refine x_callS (pc := 5) (As := [.int _, .int _]) dX11_force_5 mX11_isBelow lk_11_104 (k_isBelow _ _) rfl rfl (Nat.le_of_ble_eq_true rfl) ⟨by decide, by decide⟩ ⟨Nat.zero_le _, Nat.zero_le _⟩ (k_rt ?_)
  refine x_if_ne (pc := 8) (tgt := 14) dX11_force_8 rfl (fun h_8 => ?_) (fun h_8 => ?_)
  · refine x_aload_n (pc := 14) dX11_force_14 rfl ?_
    refine k_getR (pc := 15) c1 dX11_force_15 fk_11_10 (Or.inl ⟨_, rfl⟩) (c2) ?_
    refine k_getI (pc := 18) hh.1 dX11_force_18 fk_11_146 (Or.inl rfl) ?_
    refine x_istore_n (pc := 21) (lv2 := [_, _, _]) dX11_force_21 (by decide) rfl rfl ?_
    refine x_aload_n (pc := 22) dX11_force_22 rfl ?_
    refine k_getR (pc := 23) c1 dX11_force_23 fk_11_10 (Or.inl ⟨_, rfl⟩) (c2) ?_
    refine x_iload_n (pc := 26) dX11_force_26 rfl ?_
    refine k_putI (pc := 27) hh.1 dX11_force_27 fk_11_146 (Or.inl rfl) (Or.inl rfl) ?_
    refine x_iload_n (pc := 30) dX11_force_30 rfl ?_
    refine x_ireturn (pc := 31) dX11_force_31 rfl rfl ?_
    rw [show frK κ t = (κ.1 1 5, kI κ 1 5 t) from if_pos (bi_n0 h_8)]
    exact ⟨rfl, rfl⟩
  · refine x_bipush (pc := 11) (v := -2) dX11_force_11 rfl ?_
    refine x_ireturn (pc := 13) dX11_force_13 rfl rfl ?_
    rw [show frK κ t = (-2, κ) from if_neg (bi_0.mp h_8)]
    exact ⟨rfl, rfl⟩
theorem k_feed (hI : CI μ b kd kp 4 nt tn) (l : Int32) {fd : Nat} (hfd : κ.1 0 3 = nI fd) (hfd2 : fd ≤ 160) : XM Γ zX11_feed 2 0 0 [.ref (adO b 0), .int l] (KV μ b κ) (rt (.int (fdK κ l).1) (KV μ b (fdK κ l).2)) := by
  refine XM.of 0 rfl (by decide) (Nat.le_of_ble_eq_true rfl) ?_
  have hI' := hI
  obtain ⟨-, ⟨c1, c2, c3, c4, c5, c6, c7⟩, ⟨c8, c9⟩, hh, -, ⟨p1, p2⟩, c10, hsh, -⟩ := hI'
  refine x_iload_n (pc := 0) dX11_feed_0 rfl ?_
  refine x_sipush (pc := 1) (v := 256) dX11_feed_1 rfl ?_
  refine x_callS (pc := 4) (As := [.int _, .int _]) dX11_feed_4 mX11_isBelow lk_11_104 (k_isBelow _ _) rfl rfl (Nat.le_of_ble_eq_true rfl) ⟨by decide, by decide⟩ ⟨Nat.zero_le _, Nat.zero_le _⟩ (k_rt ?_)
  refine x_if_ne (pc := 7) (tgt := 13) dX11_feed_7 rfl (fun h_7 => ?_) (fun h_7 => ?_)
  · refine x_aload_n (pc := 13) dX11_feed_13 rfl ?_
    refine k_getI (pc := 14) c1 dX11_feed_14 fk_11_23 (Or.inl rfl) ?_
    refine x_sipush (pc := 17) (v := 160) dX11_feed_17 rfl ?_
    refine x_icmp_lt (pc := 20) (tgt := 26) dX11_feed_20 rfl (fun h_20 => ?_) (fun h_20 => ?_)
    · have hlt : fd < 160 := by
        rw [hfd] at h_20
        exact (nI_ltI (b := 160) (by omega) (by decide)).mp h_20
      refine x_aload_n (pc := 26) dX11_feed_26 rfl ?_
      refine k_getA (pc := 27) c1 dX11_feed_27 fk_11_19 (Or.inr ⟨_, rfl⟩) (by decide) ?_
      refine x_aload_n (pc := 30) dX11_feed_30 rfl ?_
      refine k_getI (pc := 31) c1 dX11_feed_31 fk_11_23 (Or.inl rfl) ?_
      refine x_iload_n (pc := 34) dX11_feed_34 rfl ?_
      rw [hfd]
      refine k_iast (pc := 35) c1 dX11_feed_35 (rfl) (show fd < 160 from hlt) (by decide) ?_
      refine x_aload_n (pc := 36) dX11_feed_36 rfl ?_
      refine x_dup (pc := 37) dX11_feed_37 rfl ?_
      refine k_getI (pc := 38) c1 dX11_feed_38 fk_11_23 (Or.inl rfl) ?_
      refine x_iconst (pc := 41) (v := 1) dX11_feed_41 rfl ?_
      rw [show (kA κ 0 2 fd l).1 0 3 = nI fd from hfd]
      refine x_iadd (pc := 42) dX11_feed_42 ?_
      refine k_putI (pc := 43) c1 dX11_feed_43 fk_11_23 (Or.inl rfl) (Or.inl rfl) ?_
      refine x_aload_n (pc := 46) dX11_feed_46 rfl ?_
      refine k_getI (pc := 47) c1 dX11_feed_47 fk_11_23 (Or.inl rfl) ?_
      rw [kI_s]
      refine x_ireturn (pc := 50) dX11_feed_50 rfl rfl ?_
      rw [show fdK κ l = (κ.1 0 3 + 1, kI (kA κ 0 2 (nn (κ.1 0 3)) l) 0 3 (κ.1 0 3 + 1)) from (if_pos (bi_n0 h_7)).trans (if_pos h_20), hfd, nn_nI (by omega)]
      exact ⟨rfl, rfl⟩
    · refine x_bipush (pc := 23) (v := -4) dX11_feed_23 rfl ?_
      refine x_ireturn (pc := 25) dX11_feed_25 rfl rfl ?_
      rw [show fdK κ l = (-4, κ) from (if_pos (bi_n0 h_7)).trans (if_neg h_20)]
      exact ⟨rfl, rfl⟩
  · refine x_bipush (pc := 10) (v := -2) dX11_feed_10 rfl ?_
    refine x_ireturn (pc := 12) dX11_feed_12 rfl rfl ?_
    rw [show fdK κ l = (-2, κ) from if_neg (bi_0.mp h_7)]
    exact ⟨rfl, rfl⟩
theorem k_count (hI : CI μ b kd kp 4 nt tn) (x : Int32) (h14 : κ.1 1 4 = nI n) (hn5 : n ≤ 5) : XM Γ zX11_count 2 0 0 [.ref (adO b 0), .int x] (KV μ b κ) (rt (.int (ctK κ n x)) (KV μ b κ)) := by
  refine XM.of 0 rfl (by decide) (Nat.le_of_ble_eq_true rfl) ?_
  have hI' := hI
  obtain ⟨-, ⟨c1, c2, c3, c4, c5, c6, c7⟩, ⟨c8, c9⟩, hh, -, ⟨p1, p2⟩, c10, hsh, -⟩ := hI'
  have L73 : ¬ (5 ≤ x ∧ x < 11) → ¬ (11 ≤ x ∧ x < 15) → ¬ (15 ≤ x ∧ x < 22) →  WA Γ zX11_count (xrm 2 0 0) 0 0 0 0 (rt (.int (ctK κ n x)) (KV μ b κ)) 73 [some (.ref (adO b 0)), some (.int x)] [] (KV μ b κ) := by
    intro r1 r2 r3
    have e : ctK κ n x = if x = 0 then κ.1 1 4 else if x = 1 then nI (cntP κ 15 n) else if x = 2 then κ.1 0 6 else if x = 3 then κ.1 0 3 else if x = 4 then κ.1 1 5 else -2 := by
      unfold ctK
      rw [if_neg r1, if_neg r2, if_neg r3]
    refine x_iload_n (pc := 73) dX11_count_73 rfl ?_
    by_cases x0 : x = 0
    · subst x0
      refine x_tableIn (pc := 74) (off := 34) (tgt := 108) dX11_count_74 (by decide) (by decide) (by decide) (by decide) ?_
      refine x_aload_n (pc := 108) dX11_count_108 rfl ?_
      refine k_getR (pc := 109) c1 dX11_count_109 fk_11_10 (Or.inl ⟨_, rfl⟩) (c2) ?_
      refine k_getI (pc := 112) hh.1 dX11_count_112 fk_11_108 (Or.inl rfl) ?_
      refine x_ireturn (pc := 115) dX11_count_115 rfl rfl ?_
      rw [e, if_pos rfl]
      exact ⟨rfl, rfl⟩
    by_cases x1 : x = 1
    · subst x1
      refine x_tableIn (pc := 74) (off := 42) (tgt := 116) dX11_count_74 (by decide) (by decide) (by decide) (by decide) ?_
      refine x_aload_n (pc := 116) dX11_count_116 rfl ?_
      refine k_getR (pc := 117) c1 dX11_count_117 fk_11_10 (Or.inl ⟨_, rfl⟩) (c2) ?_
      refine x_callV (pc := 120) (As := []) dX11_count_120 mX2_howManyArePut lk_11_241 hh.1.2.2.1 (k_howMany hh.1 h14 hn5 hh.2.2) rfl rfl (Nat.le_of_ble_eq_true rfl) ⟨by decide, by decide⟩ ⟨Nat.zero_le _, Nat.zero_le _⟩ (k_rt ?_)
      refine x_ireturn (pc := 123) dX11_count_123 rfl rfl ?_
      rw [e, if_neg (by decide), if_pos rfl]
      exact ⟨rfl, rfl⟩
    by_cases x2 : x = 2
    · subst x2
      refine x_tableIn (pc := 74) (off := 50) (tgt := 124) dX11_count_74 (by decide) (by decide) (by decide) (by decide) ?_
      refine x_aload_n (pc := 124) dX11_count_124 rfl ?_
      refine k_getI (pc := 125) c1 dX11_count_125 fk_11_40 (Or.inl rfl) ?_
      refine x_ireturn (pc := 128) dX11_count_128 rfl rfl ?_
      rw [e, if_neg (by decide), if_neg (by decide), if_pos rfl]
      exact ⟨rfl, rfl⟩
    by_cases x3 : x = 3
    · subst x3
      refine x_tableIn (pc := 74) (off := 55) (tgt := 129) dX11_count_74 (by decide) (by decide) (by decide) (by decide) ?_
      refine x_aload_n (pc := 129) dX11_count_129 rfl ?_
      refine k_getI (pc := 130) c1 dX11_count_130 fk_11_23 (Or.inl rfl) ?_
      refine x_ireturn (pc := 133) dX11_count_133 rfl rfl ?_
      rw [e, if_neg (by decide), if_neg (by decide), if_neg (by decide), if_pos rfl]
      exact ⟨rfl, rfl⟩
    by_cases x4 : x = 4
    · subst x4
      refine x_tableIn (pc := 74) (off := 60) (tgt := 134) dX11_count_74 (by decide) (by decide) (by decide) (by decide) ?_
      refine x_aload_n (pc := 134) dX11_count_134 rfl ?_
      refine k_getR (pc := 135) c1 dX11_count_135 fk_11_10 (Or.inl ⟨_, rfl⟩) (c2) ?_
      refine k_getI (pc := 138) hh.1 dX11_count_138 fk_11_146 (Or.inl rfl) ?_
      refine x_ireturn (pc := 141) dX11_count_141 rfl rfl ?_
      rw [e, if_neg (by decide), if_neg (by decide), if_neg (by decide), if_neg (by decide), if_pos rfl]
      exact ⟨rfl, rfl⟩
    have hout : x.toInt < 0 ∨ 4 < x.toInt := by
      have y0 : x.toInt ≠ 0 := fun z => x0 (Int32.toInt_inj.mp (z.trans (by decide)))
      have y1 : x.toInt ≠ 1 := fun z => x1 (Int32.toInt_inj.mp (z.trans (by decide)))
      have y2 : x.toInt ≠ 2 := fun z => x2 (Int32.toInt_inj.mp (z.trans (by decide)))
      have y3 : x.toInt ≠ 3 := fun z => x3 (Int32.toInt_inj.mp (z.trans (by decide)))
      have y4 : x.toInt ≠ 4 := fun z => x4 (Int32.toInt_inj.mp (z.trans (by decide)))
      omega
    refine x_tableOut (pc := 74) (tgt := 142) dX11_count_74 hout rfl ?_
    refine x_bipush (pc := 142) (v := -2) dX11_count_142 rfl ?_
    refine x_ireturn (pc := 144) dX11_count_144 rfl rfl ?_
    rw [e, if_neg x0, if_neg x1, if_neg x2, if_neg x3, if_neg x4]
    exact ⟨rfl, rfl⟩
  have L48 : ¬ (5 ≤ x ∧ x < 11) → ¬ (11 ≤ x ∧ x < 15) →  WA Γ zX11_count (xrm 2 0 0) 0 0 0 0 (rt (.int (ctK κ n x)) (KV μ b κ)) 48 [some (.ref (adO b 0)), some (.int x)] [] (KV μ b κ) := by
    intro r1 r2
    refine x_iload_n (pc := 48) dX11_count_48 rfl ?_
    refine x_bipush (pc := 49) (v := 15) dX11_count_49 rfl ?_
    refine x_icmp_lt (pc := 51) (tgt := 73) dX11_count_51 rfl (fun h_51 => ?_) (fun h_51 => ?_)
    · first
        | exact L73 r1 r2 (fun z => Int32.lt_irrefl (Int32.lt_of_lt_of_le h_51 z.1))
        | exact L73 r1 r2 (fun z => Int32.lt_irrefl (Int32.lt_of_lt_of_le z.2 h_57))
    · refine x_iload_n (pc := 54) dX11_count_54 rfl ?_
      refine x_bipush (pc := 55) (v := 22) dX11_count_55 rfl ?_
      refine x_icmp_ge (pc := 57) (tgt := 73) dX11_count_57 rfl (fun h_57 => ?_) (fun h_57 => ?_)
      · first
          | exact L73 r1 r2 (fun z => Int32.lt_irrefl (Int32.lt_of_lt_of_le h_51 z.1))
          | exact L73 r1 r2 (fun z => Int32.lt_irrefl (Int32.lt_of_lt_of_le z.2 h_57))
      · have hx : 15 ≤ x ∧ x < 22 := ⟨Int32.not_lt.mp h_51, Int32.not_le.mp h_57⟩
        obtain ⟨j, hj, ej, -⟩ := sub_ix (a := 15) (A := 15) (B := 7) rfl (by decide) hx.1 hx.2 (by decide)
        refine x_aload_n (pc := 60) dX11_count_60 rfl ?_
        refine k_getR (pc := 61) c1 dX11_count_61 fk_11_10 (Or.inl ⟨_, rfl⟩) (c2) ?_
        refine k_getA (pc := 64) hh.1 dX11_count_64 fk_11_87 (Or.inr ⟨_, rfl⟩) (by decide) ?_
        refine x_iload_n (pc := 67) dX11_count_67 rfl ?_
        refine x_bipush (pc := 68) (v := 15) dX11_count_68 rfl ?_
        refine x_isub (pc := 70) dX11_count_70 ?_
        rw [ej]
        refine k_iald (pc := 71) hh.1 dX11_count_71 (rfl) (show j < 7 from hj) (by decide) ?_
        refine x_ireturn (pc := 72) dX11_count_72 rfl rfl ?_
        have e : ctK κ n x = κ.2 1 2 (nn (x - 15)) := by
          unfold ctK
          rw [if_neg r1, if_neg r2, if_pos hx]
        rw [e, ej, nn_nI (by omega)]
        exact ⟨rfl, rfl⟩
  have L23 : ¬ (5 ≤ x ∧ x < 11) →  WA Γ zX11_count (xrm 2 0 0) 0 0 0 0 (rt (.int (ctK κ n x)) (KV μ b κ)) 23 [some (.ref (adO b 0)), some (.int x)] [] (KV μ b κ) := by
    intro r1
    refine x_iload_n (pc := 23) dX11_count_23 rfl ?_
    refine x_bipush (pc := 24) (v := 11) dX11_count_24 rfl ?_
    refine x_icmp_lt (pc := 26) (tgt := 48) dX11_count_26 rfl (fun h_26 => ?_) (fun h_26 => ?_)
    · first
        | exact L48 r1 (fun z => Int32.lt_irrefl (Int32.lt_of_lt_of_le h_26 z.1))
        | exact L48 r1 (fun z => Int32.lt_irrefl (Int32.lt_of_lt_of_le z.2 h_32))
    · refine x_iload_n (pc := 29) dX11_count_29 rfl ?_
      refine x_bipush (pc := 30) (v := 15) dX11_count_30 rfl ?_
      refine x_icmp_ge (pc := 32) (tgt := 48) dX11_count_32 rfl (fun h_32 => ?_) (fun h_32 => ?_)
      · first
          | exact L48 r1 (fun z => Int32.lt_irrefl (Int32.lt_of_lt_of_le h_26 z.1))
          | exact L48 r1 (fun z => Int32.lt_irrefl (Int32.lt_of_lt_of_le z.2 h_32))
      · have hx : 11 ≤ x ∧ x < 15 := ⟨Int32.not_lt.mp h_26, Int32.not_le.mp h_32⟩
        obtain ⟨j, hj, ej, -⟩ := sub_ix (a := 11) (A := 11) (B := 4) rfl (by decide) hx.1 hx.2 (by decide)
        refine x_aload_n (pc := 35) dX11_count_35 rfl ?_
        refine k_getR (pc := 36) c1 dX11_count_36 fk_11_10 (Or.inl ⟨_, rfl⟩) (c2) ?_
        refine k_getA (pc := 39) hh.1 dX11_count_39 fk_11_84 (Or.inr ⟨_, rfl⟩) (by decide) ?_
        refine x_iload_n (pc := 42) dX11_count_42 rfl ?_
        refine x_bipush (pc := 43) (v := 11) dX11_count_43 rfl ?_
        refine x_isub (pc := 45) dX11_count_45 ?_
        rw [ej]
        refine k_iald (pc := 46) hh.1 dX11_count_46 (rfl) (show j < 4 from hj) (by decide) ?_
        refine x_ireturn (pc := 47) dX11_count_47 rfl rfl ?_
        have e : ctK κ n x = κ.2 1 1 (nn (x - 11)) := by
          unfold ctK
          rw [if_neg r1, if_pos hx]
        rw [e, ej, nn_nI (by omega)]
        exact ⟨rfl, rfl⟩
  refine x_iload_n (pc := 0) dX11_count_0 rfl ?_
  refine x_iconst (pc := 1) (v := 5) dX11_count_1 rfl ?_
  refine x_icmp_lt (pc := 2) (tgt := 23) dX11_count_2 rfl (fun h_2 => ?_) (fun h_2 => ?_)
  · first
      | exact L23 (fun z => Int32.lt_irrefl (Int32.lt_of_lt_of_le h_2 z.1))
      | exact L23 (fun z => Int32.lt_irrefl (Int32.lt_of_lt_of_le z.2 h_8))
  · refine x_iload_n (pc := 5) dX11_count_5 rfl ?_
    refine x_bipush (pc := 6) (v := 11) dX11_count_6 rfl ?_
    refine x_icmp_ge (pc := 8) (tgt := 23) dX11_count_8 rfl (fun h_8 => ?_) (fun h_8 => ?_)
    · first
        | exact L23 (fun z => Int32.lt_irrefl (Int32.lt_of_lt_of_le h_2 z.1))
        | exact L23 (fun z => Int32.lt_irrefl (Int32.lt_of_lt_of_le z.2 h_8))
    · have hx : 5 ≤ x ∧ x < 11 := ⟨Int32.not_lt.mp h_2, Int32.not_le.mp h_8⟩
      obtain ⟨j, hj, ej, -⟩ := sub_ix (a := 5) (A := 5) (B := 6) rfl (by decide) hx.1 hx.2 (by decide)
      refine x_aload_n (pc := 11) dX11_count_11 rfl ?_
      refine k_getR (pc := 12) c1 dX11_count_12 fk_11_10 (Or.inl ⟨_, rfl⟩) (c2) ?_
      refine k_getA (pc := 15) hh.1 dX11_count_15 fk_11_77 (Or.inr ⟨_, rfl⟩) (by decide) ?_
      refine x_iload_n (pc := 18) dX11_count_18 rfl ?_
      refine x_iconst (pc := 19) (v := 5) dX11_count_19 rfl ?_
      refine x_isub (pc := 20) dX11_count_20 ?_
      rw [ej]
      refine k_iald (pc := 21) hh.1 dX11_count_21 (rfl) (show j < 6 from hj) (by decide) ?_
      refine x_ireturn (pc := 22) dX11_count_22 rfl rfl ?_
      have e : ctK κ n x = κ.2 1 0 (nn (x - 5)) := by
        unfold ctK
        rw [if_pos hx]
      rw [e, ej, nn_nI (by omega)]
      exact ⟨rfl, rfl⟩
theorem k_taken (hI : CI μ b kd kp 4 nt tn) (t k : Int32) (h14 : κ.1 1 4 = nI n) (hn5 : n ≤ 5) (hkd : ∀ i, i < 5 → kd i < 6) : XM Γ zX11_taken 3 0 0 [.ref (adO b 0), .int t, .int k] (KV μ b κ) (rt (.int (tkK2 κ kd n t k)) (KV μ b κ)) := by
  refine XM.of 1 rfl (by decide) (Nat.le_of_ble_eq_true rfl) ?_
  have hI' := hI
  obtain ⟨-, ⟨c1, c2, c3, c4, c5, c6, c7⟩, ⟨c8, c9⟩, hh, -, ⟨p1, p2⟩, c10, hsh, -⟩ := hI'
  refine x_iload_n (pc := 0) dX11_taken_0 rfl ?_
  refine x_bipush (pc := 1) (v := 6) dX11_taken_1 rfl ?_
  refine x_callS (pc := 3) (As := [.int _, .int _]) dX11_taken_3 mX11_isBelow lk_11_104 (k_isBelow _ _) rfl rfl (Nat.le_of_ble_eq_true rfl) ⟨by decide, by decide⟩ ⟨Nat.zero_le _, Nat.zero_le _⟩ (k_rt ?_)
  refine x_if_ne (pc := 6) (tgt := 12) dX11_taken_6 rfl (fun h_6 => ?_) (fun h_6 => ?_)
  · refine x_aload_n (pc := 12) dX11_taken_12 rfl ?_
    refine k_getR (pc := 13) c1 dX11_taken_13 fk_11_10 (Or.inl ⟨_, rfl⟩) (c2) ?_
    refine x_iload_n (pc := 16) dX11_taken_16 rfl ?_
    refine x_callV (pc := 17) (As := [.int _]) dX11_taken_17 mX2_has lk_11_90 hh.1.2.2.1 (k_has hh.1 h14 hn5) rfl rfl (Nat.le_of_ble_eq_true rfl) ⟨by decide, by decide⟩ ⟨Nat.zero_le _, Nat.zero_le _⟩ (k_rt ?_)
    refine x_if_ne (pc := 20) (tgt := 26) dX11_taken_20 rfl (fun h_20 => ?_) (fun h_20 => ?_)
    · have hk6 := bi_n0 h_6
      have ht := bi_n0 h_20
      obtain ⟨j, hj, rfl⟩ := ixD (n := 6) hk6 (by decide)
      obtain ⟨i, hi, rfl⟩ := ixD (n := n) ht (by omega)
      have e : tkK2 κ kd n (nI i) (nI j) = if nI j ∈ chn (nI (kd i)) then κ.1 (15 + i) 2 else -13 := by
        unfold tkK2
        rw [if_pos hk6, if_pos ht, nn_nI (by omega)]
      refine x_aload_n (pc := 26) dX11_taken_26 rfl ?_
      refine k_getR (pc := 27) c1 dX11_taken_27 fk_11_10 (Or.inl ⟨_, rfl⟩) (c2) ?_
      refine k_getR (pc := 30) hh.1 dX11_taken_30 fk_11_94 (Or.inr ⟨_, rfl⟩) (hh.2.2.1) ?_
      refine x_iload_n (pc := 33) dX11_taken_33 rfl ?_
      refine x_aald (pc := 34) dX11_taken_34 (hh.2.1.2.1) (Or.inl rfl) (rfl) (show i < 5 by omega) (by decide) ((hh.2.2.2.2 i (by omega)).1) ?_
      refine x_astore_n (pc := 35) (lv2 := [_, _, _, _]) dX11_taken_35 (by decide) rfl rfl ?_
      refine x_aload_n (pc := 36) dX11_taken_36 rfl ?_
      refine x_iload_n (pc := 37) dX11_taken_37 rfl ?_
      refine x_callS (pc := 38) (As := [.ref _, .int _]) dX11_taken_38 mX11_isOf lk_11_254 (k_isOf hj (hkd i (by omega)) (hh.2.2.2.2 i (show i < 5 by omega)).2.2.2.1) rfl rfl (Nat.le_of_ble_eq_true rfl) ⟨by decide, by decide⟩ ⟨Nat.zero_le _, Nat.zero_le _⟩ (k_rt ?_)
      by_cases hm : nI j ∈ chn (nI (kd i))
      · rw [if_pos hm]
        refine x_if_eq (pc := 41) (tgt := 51) dX11_taken_41 rfl (fun h => absurd h (by decide)) (fun _ => ?_)
        refine x_aload_n (pc := 44) dX11_taken_44 rfl ?_
        refine k_getI (pc := 45) (hh.2.2.2.2 i (show i < 5 by omega)).2 dX11_taken_45 (fk_11_133 (kci_th _)) (Or.inl (th_i (kci_th _) (by decide))) ?_
        refine x_goto (pc := 48) (tgt := 53) dX11_taken_48 rfl ?_
        refine x_ireturn (pc := 53) dX11_taken_53 rfl rfl ?_
        rw [e, if_pos hm]
        exact ⟨rfl, rfl⟩
      · rw [if_neg hm]
        refine x_if_eq (pc := 41) (tgt := 51) dX11_taken_41 rfl (fun _ => ?_) (fun h => absurd rfl h)
        refine x_bipush (pc := 51) (v := -13) dX11_taken_51 rfl ?_
        refine x_ireturn (pc := 53) dX11_taken_53 rfl rfl ?_
        rw [e, if_neg hm]
        exact ⟨rfl, rfl⟩
    · refine x_bipush (pc := 23) (v := -11) dX11_taken_23 rfl ?_
      refine x_ireturn (pc := 25) dX11_taken_25 rfl rfl ?_
      rw [show tkK2 κ kd n t k = -11 from (if_pos (bi_n0 h_6)).trans (if_neg (bi_0.mp h_20))]
      exact ⟨rfl, rfl⟩
  · refine x_bipush (pc := 9) (v := -2) dX11_taken_9 rfl ?_
    refine x_ireturn (pc := 11) dX11_taken_11 rfl rfl ?_
    rw [show tkK2 κ kd n t k = -2 from if_neg (bi_0.mp h_6)]
    exact ⟨rfl, rfl⟩
end M999999
