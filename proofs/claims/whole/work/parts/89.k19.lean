/-! the class: its reader; tokens -/
section M89
variable {Γ : Gm} {μ : Mem} {b : Kb} {κ : KS} {σ : MS} {f n lt : Nat}
theorem k_key {x s l : Nat} {t u fl : Int32} {cd : Nat → Int32} (hK : KO μ b 4 6 rdL) (hT : KTp μ b lt) (hO : cO κ σ f n) (hl : n ≤ lt) (hl2 : lt < 2 ^ 31) (hs : s ≤ x) (hx : x ≤ n) : XM Γ zX6_key 5 0 0 [.ref (adO b 4)] (KV μ b (rK κ (x, s, t, u, fl, l, cd))) (rt (.int (keC σ f n s x)) (KV μ b (rK κ (x, s, t, u, fl, l, cd)))) := by
  refine XM.of 0 rfl (by decide) (Nat.le_of_ble_eq_true rfl) ?_
  refine x_aload_n (pc := 0) dX6_key_0 rfl ?_
  refine x_ldcS (pc := 1) (n := 1) dX6_key_1 (by decide) rfl rfl ?_
  refine x_callV (pc := 3) (As := [.ref _]) dX6_key_3 mX6_spells lk_6_108 hK.2.2.1 (k_spells hK hT hO hl hl2 (by decide) hs hx) rfl rfl (Nat.le_of_ble_eq_true rfl) ⟨by decide, by decide⟩ ⟨Nat.zero_le _, Nat.zero_le _⟩ (k_rt ?_)
  refine x_if_eq (pc := 6) (tgt := 14) dX6_key_6 rfl (fun h_6 => ?_) (fun h_6 => ?_)
  · refine x_aload_n (pc := 14) dX6_key_14 rfl ?_
    refine x_ldcS (pc := 15) (n := 2) dX6_key_15 (by decide) rfl rfl ?_
    refine x_callV (pc := 17) (As := [.ref _]) dX6_key_17 mX6_spells lk_6_108 hK.2.2.1 (k_spells hK hT hO hl hl2 (by decide) hs hx) rfl rfl (Nat.le_of_ble_eq_true rfl) ⟨by decide, by decide⟩ ⟨Nat.zero_le _, Nat.zero_le _⟩ (k_rt ?_)
    refine x_if_eq (pc := 20) (tgt := 28) dX6_key_20 rfl (fun h_20 => ?_) (fun h_20 => ?_)
    · refine x_aload_n (pc := 28) dX6_key_28 rfl ?_
      refine x_ldcS (pc := 29) (n := 3) dX6_key_29 (by decide) rfl rfl ?_
      refine x_callV (pc := 31) (As := [.ref _]) dX6_key_31 mX6_spells lk_6_108 hK.2.2.1 (k_spells hK hT hO hl hl2 (by decide) hs hx) rfl rfl (Nat.le_of_ble_eq_true rfl) ⟨by decide, by decide⟩ ⟨Nat.zero_le _, Nat.zero_le _⟩ (k_rt ?_)
      refine x_if_eq (pc := 34) (tgt := 42) dX6_key_34 rfl (fun h_34 => ?_) (fun h_34 => ?_)
      · refine x_aload_n (pc := 42) dX6_key_42 rfl ?_
        refine x_ldcS (pc := 43) (n := 4) dX6_key_43 (by decide) rfl rfl ?_
        refine x_callV (pc := 45) (As := [.ref _]) dX6_key_45 mX6_spells lk_6_108 hK.2.2.1 (k_spells hK hT hO hl hl2 (by decide) hs hx) rfl rfl (Nat.le_of_ble_eq_true rfl) ⟨by decide, by decide⟩ ⟨Nat.zero_le _, Nat.zero_le _⟩ (k_rt ?_)
        refine x_if_eq (pc := 48) (tgt := 56) dX6_key_48 rfl (fun h_48 => ?_) (fun h_48 => ?_)
        · refine x_aload_n (pc := 56) dX6_key_56 rfl ?_
          refine x_ldcS (pc := 57) (n := 5) dX6_key_57 (by decide) rfl rfl ?_
          refine x_callV (pc := 59) (As := [.ref _]) dX6_key_59 mX6_spells lk_6_108 hK.2.2.1 (k_spells hK hT hO hl hl2 (by decide) hs hx) rfl rfl (Nat.le_of_ble_eq_true rfl) ⟨by decide, by decide⟩ ⟨Nat.zero_le _, Nat.zero_le _⟩ (k_rt ?_)
          refine x_if_eq (pc := 62) (tgt := 70) dX6_key_62 rfl (fun h_62 => ?_) (fun h_62 => ?_)
          · refine x_aload_n (pc := 70) dX6_key_70 rfl ?_
            refine x_ldcS (pc := 71) (n := 6) dX6_key_71 (by decide) rfl rfl ?_
            refine x_callV (pc := 73) (As := [.ref _]) dX6_key_73 mX6_spells lk_6_108 hK.2.2.1 (k_spells hK hT hO hl hl2 (by decide) hs hx) rfl rfl (Nat.le_of_ble_eq_true rfl) ⟨by decide, by decide⟩ ⟨Nat.zero_le _, Nat.zero_le _⟩ (k_rt ?_)
            refine x_if_eq (pc := 76) (tgt := 84) dX6_key_76 rfl (fun h_76 => ?_) (fun h_76 => ?_)
            · refine x_bipush (pc := 84) (v := -24) dX6_key_84 rfl ?_
              refine x_ireturn (pc := 86) dX6_key_86 rfl rfl ?_
              unfold keC
              first
                | (rw [if_pos (by exact bi_n0 h_6)]
                   exact ⟨rfl, rfl⟩)
                | (rw [if_neg (by exact bi_0.mp h_6), if_pos (by exact bi_n0 h_20)]
                   exact ⟨rfl, rfl⟩)
                | (rw [if_neg (by exact bi_0.mp h_6), if_neg (by exact bi_0.mp h_20), if_pos (by exact bi_n0 h_34)]
                   exact ⟨rfl, rfl⟩)
                | (rw [if_neg (by exact bi_0.mp h_6), if_neg (by exact bi_0.mp h_20), if_neg (by exact bi_0.mp h_34), if_pos (by exact bi_n0 h_48)]
                   exact ⟨rfl, rfl⟩)
                | (rw [if_neg (by exact bi_0.mp h_6), if_neg (by exact bi_0.mp h_20), if_neg (by exact bi_0.mp h_34), if_neg (by exact bi_0.mp h_48), if_pos (by exact bi_n0 h_62)]
                   exact ⟨rfl, rfl⟩)
                | (rw [if_neg (by exact bi_0.mp h_6), if_neg (by exact bi_0.mp h_20), if_neg (by exact bi_0.mp h_34), if_neg (by exact bi_0.mp h_48), if_neg (by exact bi_0.mp h_62), if_pos (by exact bi_n0 h_76)]
                   exact ⟨rfl, rfl⟩)
                | (rw [if_neg (by exact bi_0.mp h_6), if_neg (by exact bi_0.mp h_20), if_neg (by exact bi_0.mp h_34), if_neg (by exact bi_0.mp h_48), if_neg (by exact bi_0.mp h_62), if_neg (by exact bi_0.mp h_76)]
                   exact ⟨rfl, rfl⟩)
            · refine x_bipush (pc := 79) (v := -9) dX6_key_79 rfl ?_
              refine x_goto (pc := 81) (tgt := 86) dX6_key_81 rfl ?_
              refine x_ireturn (pc := 86) dX6_key_86 rfl rfl ?_
              unfold keC
              first
                | (rw [if_pos (by exact bi_n0 h_6)]
                   exact ⟨rfl, rfl⟩)
                | (rw [if_neg (by exact bi_0.mp h_6), if_pos (by exact bi_n0 h_20)]
                   exact ⟨rfl, rfl⟩)
                | (rw [if_neg (by exact bi_0.mp h_6), if_neg (by exact bi_0.mp h_20), if_pos (by exact bi_n0 h_34)]
                   exact ⟨rfl, rfl⟩)
                | (rw [if_neg (by exact bi_0.mp h_6), if_neg (by exact bi_0.mp h_20), if_neg (by exact bi_0.mp h_34), if_pos (by exact bi_n0 h_48)]
                   exact ⟨rfl, rfl⟩)
                | (rw [if_neg (by exact bi_0.mp h_6), if_neg (by exact bi_0.mp h_20), if_neg (by exact bi_0.mp h_34), if_neg (by exact bi_0.mp h_48), if_pos (by exact bi_n0 h_62)]
                   exact ⟨rfl, rfl⟩)
                | (rw [if_neg (by exact bi_0.mp h_6), if_neg (by exact bi_0.mp h_20), if_neg (by exact bi_0.mp h_34), if_neg (by exact bi_0.mp h_48), if_neg (by exact bi_0.mp h_62), if_pos (by exact bi_n0 h_76)]
                   exact ⟨rfl, rfl⟩)
                | (rw [if_neg (by exact bi_0.mp h_6), if_neg (by exact bi_0.mp h_20), if_neg (by exact bi_0.mp h_34), if_neg (by exact bi_0.mp h_48), if_neg (by exact bi_0.mp h_62), if_neg (by exact bi_0.mp h_76)]
                   exact ⟨rfl, rfl⟩)
          · refine x_bipush (pc := 65) (v := -8) dX6_key_65 rfl ?_
            refine x_goto (pc := 67) (tgt := 86) dX6_key_67 rfl ?_
            refine x_ireturn (pc := 86) dX6_key_86 rfl rfl ?_
            unfold keC
            first
              | (rw [if_pos (by exact bi_n0 h_6)]
                 exact ⟨rfl, rfl⟩)
              | (rw [if_neg (by exact bi_0.mp h_6), if_pos (by exact bi_n0 h_20)]
                 exact ⟨rfl, rfl⟩)
              | (rw [if_neg (by exact bi_0.mp h_6), if_neg (by exact bi_0.mp h_20), if_pos (by exact bi_n0 h_34)]
                 exact ⟨rfl, rfl⟩)
              | (rw [if_neg (by exact bi_0.mp h_6), if_neg (by exact bi_0.mp h_20), if_neg (by exact bi_0.mp h_34), if_pos (by exact bi_n0 h_48)]
                 exact ⟨rfl, rfl⟩)
              | (rw [if_neg (by exact bi_0.mp h_6), if_neg (by exact bi_0.mp h_20), if_neg (by exact bi_0.mp h_34), if_neg (by exact bi_0.mp h_48), if_pos (by exact bi_n0 h_62)]
                 exact ⟨rfl, rfl⟩)
              | (rw [if_neg (by exact bi_0.mp h_6), if_neg (by exact bi_0.mp h_20), if_neg (by exact bi_0.mp h_34), if_neg (by exact bi_0.mp h_48), if_neg (by exact bi_0.mp h_62), if_pos (by exact bi_n0 h_76)]
                 exact ⟨rfl, rfl⟩)
              | (rw [if_neg (by exact bi_0.mp h_6), if_neg (by exact bi_0.mp h_20), if_neg (by exact bi_0.mp h_34), if_neg (by exact bi_0.mp h_48), if_neg (by exact bi_0.mp h_62), if_neg (by exact bi_0.mp h_76)]
                 exact ⟨rfl, rfl⟩)
        · refine x_bipush (pc := 51) (v := -7) dX6_key_51 rfl ?_
          refine x_goto (pc := 53) (tgt := 86) dX6_key_53 rfl ?_
          refine x_ireturn (pc := 86) dX6_key_86 rfl rfl ?_
          unfold keC
          first
            | (rw [if_pos (by exact bi_n0 h_6)]
               exact ⟨rfl, rfl⟩)
            | (rw [if_neg (by exact bi_0.mp h_6), if_pos (by exact bi_n0 h_20)]
               exact ⟨rfl, rfl⟩)
            | (rw [if_neg (by exact bi_0.mp h_6), if_neg (by exact bi_0.mp h_20), if_pos (by exact bi_n0 h_34)]
               exact ⟨rfl, rfl⟩)
            | (rw [if_neg (by exact bi_0.mp h_6), if_neg (by exact bi_0.mp h_20), if_neg (by exact bi_0.mp h_34), if_pos (by exact bi_n0 h_48)]
               exact ⟨rfl, rfl⟩)
            | (rw [if_neg (by exact bi_0.mp h_6), if_neg (by exact bi_0.mp h_20), if_neg (by exact bi_0.mp h_34), if_neg (by exact bi_0.mp h_48), if_pos (by exact bi_n0 h_62)]
               exact ⟨rfl, rfl⟩)
            | (rw [if_neg (by exact bi_0.mp h_6), if_neg (by exact bi_0.mp h_20), if_neg (by exact bi_0.mp h_34), if_neg (by exact bi_0.mp h_48), if_neg (by exact bi_0.mp h_62), if_pos (by exact bi_n0 h_76)]
               exact ⟨rfl, rfl⟩)
            | (rw [if_neg (by exact bi_0.mp h_6), if_neg (by exact bi_0.mp h_20), if_neg (by exact bi_0.mp h_34), if_neg (by exact bi_0.mp h_48), if_neg (by exact bi_0.mp h_62), if_neg (by exact bi_0.mp h_76)]
               exact ⟨rfl, rfl⟩)
      · refine x_bipush (pc := 37) (v := -21) dX6_key_37 rfl ?_
        refine x_goto (pc := 39) (tgt := 86) dX6_key_39 rfl ?_
        refine x_ireturn (pc := 86) dX6_key_86 rfl rfl ?_
        unfold keC
        first
          | (rw [if_pos (by exact bi_n0 h_6)]
             exact ⟨rfl, rfl⟩)
          | (rw [if_neg (by exact bi_0.mp h_6), if_pos (by exact bi_n0 h_20)]
             exact ⟨rfl, rfl⟩)
          | (rw [if_neg (by exact bi_0.mp h_6), if_neg (by exact bi_0.mp h_20), if_pos (by exact bi_n0 h_34)]
             exact ⟨rfl, rfl⟩)
          | (rw [if_neg (by exact bi_0.mp h_6), if_neg (by exact bi_0.mp h_20), if_neg (by exact bi_0.mp h_34), if_pos (by exact bi_n0 h_48)]
             exact ⟨rfl, rfl⟩)
          | (rw [if_neg (by exact bi_0.mp h_6), if_neg (by exact bi_0.mp h_20), if_neg (by exact bi_0.mp h_34), if_neg (by exact bi_0.mp h_48), if_pos (by exact bi_n0 h_62)]
             exact ⟨rfl, rfl⟩)
          | (rw [if_neg (by exact bi_0.mp h_6), if_neg (by exact bi_0.mp h_20), if_neg (by exact bi_0.mp h_34), if_neg (by exact bi_0.mp h_48), if_neg (by exact bi_0.mp h_62), if_pos (by exact bi_n0 h_76)]
             exact ⟨rfl, rfl⟩)
          | (rw [if_neg (by exact bi_0.mp h_6), if_neg (by exact bi_0.mp h_20), if_neg (by exact bi_0.mp h_34), if_neg (by exact bi_0.mp h_48), if_neg (by exact bi_0.mp h_62), if_neg (by exact bi_0.mp h_76)]
             exact ⟨rfl, rfl⟩)
    · refine x_bipush (pc := 23) (v := -20) dX6_key_23 rfl ?_
      refine x_goto (pc := 25) (tgt := 86) dX6_key_25 rfl ?_
      refine x_ireturn (pc := 86) dX6_key_86 rfl rfl ?_
      unfold keC
      first
        | (rw [if_pos (by exact bi_n0 h_6)]
           exact ⟨rfl, rfl⟩)
        | (rw [if_neg (by exact bi_0.mp h_6), if_pos (by exact bi_n0 h_20)]
           exact ⟨rfl, rfl⟩)
        | (rw [if_neg (by exact bi_0.mp h_6), if_neg (by exact bi_0.mp h_20), if_pos (by exact bi_n0 h_34)]
           exact ⟨rfl, rfl⟩)
        | (rw [if_neg (by exact bi_0.mp h_6), if_neg (by exact bi_0.mp h_20), if_neg (by exact bi_0.mp h_34), if_pos (by exact bi_n0 h_48)]
           exact ⟨rfl, rfl⟩)
        | (rw [if_neg (by exact bi_0.mp h_6), if_neg (by exact bi_0.mp h_20), if_neg (by exact bi_0.mp h_34), if_neg (by exact bi_0.mp h_48), if_pos (by exact bi_n0 h_62)]
           exact ⟨rfl, rfl⟩)
        | (rw [if_neg (by exact bi_0.mp h_6), if_neg (by exact bi_0.mp h_20), if_neg (by exact bi_0.mp h_34), if_neg (by exact bi_0.mp h_48), if_neg (by exact bi_0.mp h_62), if_pos (by exact bi_n0 h_76)]
           exact ⟨rfl, rfl⟩)
        | (rw [if_neg (by exact bi_0.mp h_6), if_neg (by exact bi_0.mp h_20), if_neg (by exact bi_0.mp h_34), if_neg (by exact bi_0.mp h_48), if_neg (by exact bi_0.mp h_62), if_neg (by exact bi_0.mp h_76)]
           exact ⟨rfl, rfl⟩)
  · refine x_bipush (pc := 9) (v := -19) dX6_key_9 rfl ?_
    refine x_goto (pc := 11) (tgt := 86) dX6_key_11 rfl ?_
    refine x_ireturn (pc := 86) dX6_key_86 rfl rfl ?_
    unfold keC
    first
      | (rw [if_pos (by exact bi_n0 h_6)]
         exact ⟨rfl, rfl⟩)
      | (rw [if_neg (by exact bi_0.mp h_6), if_pos (by exact bi_n0 h_20)]
         exact ⟨rfl, rfl⟩)
      | (rw [if_neg (by exact bi_0.mp h_6), if_neg (by exact bi_0.mp h_20), if_pos (by exact bi_n0 h_34)]
         exact ⟨rfl, rfl⟩)
      | (rw [if_neg (by exact bi_0.mp h_6), if_neg (by exact bi_0.mp h_20), if_neg (by exact bi_0.mp h_34), if_pos (by exact bi_n0 h_48)]
         exact ⟨rfl, rfl⟩)
      | (rw [if_neg (by exact bi_0.mp h_6), if_neg (by exact bi_0.mp h_20), if_neg (by exact bi_0.mp h_34), if_neg (by exact bi_0.mp h_48), if_pos (by exact bi_n0 h_62)]
         exact ⟨rfl, rfl⟩)
      | (rw [if_neg (by exact bi_0.mp h_6), if_neg (by exact bi_0.mp h_20), if_neg (by exact bi_0.mp h_34), if_neg (by exact bi_0.mp h_48), if_neg (by exact bi_0.mp h_62), if_pos (by exact bi_n0 h_76)]
         exact ⟨rfl, rfl⟩)
      | (rw [if_neg (by exact bi_0.mp h_6), if_neg (by exact bi_0.mp h_20), if_neg (by exact bi_0.mp h_34), if_neg (by exact bi_0.mp h_48), if_neg (by exact bi_0.mp h_62), if_neg (by exact bi_0.mp h_76)]
         exact ⟨rfl, rfl⟩)
theorem k_name {x s l : Nat} {t u fl : Int32} {cd : Nat → Int32} (hK : KO μ b 4 6 rdL) (hT : KTp μ b lt) (hO : cO κ σ f n) (hl : n ≤ lt) (hl2 : lt < 2 ^ 31) (hs : s ≤ x) (hx : x ≤ n) : XM Γ zX6_name 5 0 0 [.ref (adO b 4)] (KV μ b (rK κ (x, s, t, u, fl, l, cd))) (rt (.int (naC σ f n s x)) (KV μ b (rK κ (x, s, t, u, fl, l, cd)))) := by
  refine XM.of 0 rfl (by decide) (Nat.le_of_ble_eq_true rfl) ?_
  refine x_aload_n (pc := 0) dX6_name_0 rfl ?_
  refine x_ldcS (pc := 1) (n := 7) dX6_name_1 (by decide) rfl rfl ?_
  refine x_callV (pc := 3) (As := [.ref _]) dX6_name_3 mX6_spells lk_6_108 hK.2.2.1 (k_spells hK hT hO hl hl2 (by decide) hs hx) rfl rfl (Nat.le_of_ble_eq_true rfl) ⟨by decide, by decide⟩ ⟨Nat.zero_le _, Nat.zero_le _⟩ (k_rt ?_)
  refine x_if_eq (pc := 6) (tgt := 13) dX6_name_6 rfl (fun h_6 => ?_) (fun h_6 => ?_)
  · refine x_aload_n (pc := 13) dX6_name_13 rfl ?_
    refine x_ldcS (pc := 14) (n := 8) dX6_name_14 (by decide) rfl rfl ?_
    refine x_callV (pc := 16) (As := [.ref _]) dX6_name_16 mX6_spells lk_6_108 hK.2.2.1 (k_spells hK hT hO hl hl2 (by decide) hs hx) rfl rfl (Nat.le_of_ble_eq_true rfl) ⟨by decide, by decide⟩ ⟨Nat.zero_le _, Nat.zero_le _⟩ (k_rt ?_)
    refine x_if_eq (pc := 19) (tgt := 27) dX6_name_19 rfl (fun h_19 => ?_) (fun h_19 => ?_)
    · refine x_aload_n (pc := 27) dX6_name_27 rfl ?_
      refine x_ldcS (pc := 28) (n := 9) dX6_name_28 (by decide) rfl rfl ?_
      refine x_callV (pc := 30) (As := [.ref _]) dX6_name_30 mX6_spells lk_6_108 hK.2.2.1 (k_spells hK hT hO hl hl2 (by decide) hs hx) rfl rfl (Nat.le_of_ble_eq_true rfl) ⟨by decide, by decide⟩ ⟨Nat.zero_le _, Nat.zero_le _⟩ (k_rt ?_)
      refine x_if_eq (pc := 33) (tgt := 41) dX6_name_33 rfl (fun h_33 => ?_) (fun h_33 => ?_)
      · refine x_aload_n (pc := 41) dX6_name_41 rfl ?_
        refine x_ldcS (pc := 42) (n := 10) dX6_name_42 (by decide) rfl rfl ?_
        refine x_callV (pc := 44) (As := [.ref _]) dX6_name_44 mX6_spells lk_6_108 hK.2.2.1 (k_spells hK hT hO hl hl2 (by decide) hs hx) rfl rfl (Nat.le_of_ble_eq_true rfl) ⟨by decide, by decide⟩ ⟨Nat.zero_le _, Nat.zero_le _⟩ (k_rt ?_)
        refine x_if_eq (pc := 47) (tgt := 55) dX6_name_47 rfl (fun h_47 => ?_) (fun h_47 => ?_)
        · refine x_aload_n (pc := 55) dX6_name_55 rfl ?_
          refine x_ldcS (pc := 56) (n := 11) dX6_name_56 (by decide) rfl rfl ?_
          refine x_callV (pc := 58) (As := [.ref _]) dX6_name_58 mX6_spells lk_6_108 hK.2.2.1 (k_spells hK hT hO hl hl2 (by decide) hs hx) rfl rfl (Nat.le_of_ble_eq_true rfl) ⟨by decide, by decide⟩ ⟨Nat.zero_le _, Nat.zero_le _⟩ (k_rt ?_)
          refine x_if_eq (pc := 61) (tgt := 69) dX6_name_61 rfl (fun h_61 => ?_) (fun h_61 => ?_)
          · refine x_aload_n (pc := 69) dX6_name_69 rfl ?_
            refine x_ldcS (pc := 70) (n := 12) dX6_name_70 (by decide) rfl rfl ?_
            refine x_callV (pc := 72) (As := [.ref _]) dX6_name_72 mX6_spells lk_6_108 hK.2.2.1 (k_spells hK hT hO hl hl2 (by decide) hs hx) rfl rfl (Nat.le_of_ble_eq_true rfl) ⟨by decide, by decide⟩ ⟨Nat.zero_le _, Nat.zero_le _⟩ (k_rt ?_)
            refine x_if_eq (pc := 75) (tgt := 83) dX6_name_75 rfl (fun h_75 => ?_) (fun h_75 => ?_)
            · refine x_bipush (pc := 83) (v := -24) dX6_name_83 rfl ?_
              refine x_ireturn (pc := 85) dX6_name_85 rfl rfl ?_
              unfold naC
              first
                | (rw [if_pos (by exact bi_n0 h_6)]
                   exact ⟨rfl, rfl⟩)
                | (rw [if_neg (by exact bi_0.mp h_6), if_pos (by exact bi_n0 h_19)]
                   exact ⟨rfl, rfl⟩)
                | (rw [if_neg (by exact bi_0.mp h_6), if_neg (by exact bi_0.mp h_19), if_pos (by exact bi_n0 h_33)]
                   exact ⟨rfl, rfl⟩)
                | (rw [if_neg (by exact bi_0.mp h_6), if_neg (by exact bi_0.mp h_19), if_neg (by exact bi_0.mp h_33), if_pos (by exact bi_n0 h_47)]
                   exact ⟨rfl, rfl⟩)
                | (rw [if_neg (by exact bi_0.mp h_6), if_neg (by exact bi_0.mp h_19), if_neg (by exact bi_0.mp h_33), if_neg (by exact bi_0.mp h_47), if_pos (by exact bi_n0 h_61)]
                   exact ⟨rfl, rfl⟩)
                | (rw [if_neg (by exact bi_0.mp h_6), if_neg (by exact bi_0.mp h_19), if_neg (by exact bi_0.mp h_33), if_neg (by exact bi_0.mp h_47), if_neg (by exact bi_0.mp h_61), if_pos (by exact bi_n0 h_75)]
                   exact ⟨rfl, rfl⟩)
                | (rw [if_neg (by exact bi_0.mp h_6), if_neg (by exact bi_0.mp h_19), if_neg (by exact bi_0.mp h_33), if_neg (by exact bi_0.mp h_47), if_neg (by exact bi_0.mp h_61), if_neg (by exact bi_0.mp h_75)]
                   exact ⟨rfl, rfl⟩)
            · refine x_bipush (pc := 78) (v := -6) dX6_name_78 rfl ?_
              refine x_goto (pc := 80) (tgt := 85) dX6_name_80 rfl ?_
              refine x_ireturn (pc := 85) dX6_name_85 rfl rfl ?_
              unfold naC
              first
                | (rw [if_pos (by exact bi_n0 h_6)]
                   exact ⟨rfl, rfl⟩)
                | (rw [if_neg (by exact bi_0.mp h_6), if_pos (by exact bi_n0 h_19)]
                   exact ⟨rfl, rfl⟩)
                | (rw [if_neg (by exact bi_0.mp h_6), if_neg (by exact bi_0.mp h_19), if_pos (by exact bi_n0 h_33)]
                   exact ⟨rfl, rfl⟩)
                | (rw [if_neg (by exact bi_0.mp h_6), if_neg (by exact bi_0.mp h_19), if_neg (by exact bi_0.mp h_33), if_pos (by exact bi_n0 h_47)]
                   exact ⟨rfl, rfl⟩)
                | (rw [if_neg (by exact bi_0.mp h_6), if_neg (by exact bi_0.mp h_19), if_neg (by exact bi_0.mp h_33), if_neg (by exact bi_0.mp h_47), if_pos (by exact bi_n0 h_61)]
                   exact ⟨rfl, rfl⟩)
                | (rw [if_neg (by exact bi_0.mp h_6), if_neg (by exact bi_0.mp h_19), if_neg (by exact bi_0.mp h_33), if_neg (by exact bi_0.mp h_47), if_neg (by exact bi_0.mp h_61), if_pos (by exact bi_n0 h_75)]
                   exact ⟨rfl, rfl⟩)
                | (rw [if_neg (by exact bi_0.mp h_6), if_neg (by exact bi_0.mp h_19), if_neg (by exact bi_0.mp h_33), if_neg (by exact bi_0.mp h_47), if_neg (by exact bi_0.mp h_61), if_neg (by exact bi_0.mp h_75)]
                   exact ⟨rfl, rfl⟩)
          · refine x_bipush (pc := 64) (v := -5) dX6_name_64 rfl ?_
            refine x_goto (pc := 66) (tgt := 85) dX6_name_66 rfl ?_
            refine x_ireturn (pc := 85) dX6_name_85 rfl rfl ?_
            unfold naC
            first
              | (rw [if_pos (by exact bi_n0 h_6)]
                 exact ⟨rfl, rfl⟩)
              | (rw [if_neg (by exact bi_0.mp h_6), if_pos (by exact bi_n0 h_19)]
                 exact ⟨rfl, rfl⟩)
              | (rw [if_neg (by exact bi_0.mp h_6), if_neg (by exact bi_0.mp h_19), if_pos (by exact bi_n0 h_33)]
                 exact ⟨rfl, rfl⟩)
              | (rw [if_neg (by exact bi_0.mp h_6), if_neg (by exact bi_0.mp h_19), if_neg (by exact bi_0.mp h_33), if_pos (by exact bi_n0 h_47)]
                 exact ⟨rfl, rfl⟩)
              | (rw [if_neg (by exact bi_0.mp h_6), if_neg (by exact bi_0.mp h_19), if_neg (by exact bi_0.mp h_33), if_neg (by exact bi_0.mp h_47), if_pos (by exact bi_n0 h_61)]
                 exact ⟨rfl, rfl⟩)
              | (rw [if_neg (by exact bi_0.mp h_6), if_neg (by exact bi_0.mp h_19), if_neg (by exact bi_0.mp h_33), if_neg (by exact bi_0.mp h_47), if_neg (by exact bi_0.mp h_61), if_pos (by exact bi_n0 h_75)]
                 exact ⟨rfl, rfl⟩)
              | (rw [if_neg (by exact bi_0.mp h_6), if_neg (by exact bi_0.mp h_19), if_neg (by exact bi_0.mp h_33), if_neg (by exact bi_0.mp h_47), if_neg (by exact bi_0.mp h_61), if_neg (by exact bi_0.mp h_75)]
                 exact ⟨rfl, rfl⟩)
        · refine x_bipush (pc := 50) (v := -4) dX6_name_50 rfl ?_
          refine x_goto (pc := 52) (tgt := 85) dX6_name_52 rfl ?_
          refine x_ireturn (pc := 85) dX6_name_85 rfl rfl ?_
          unfold naC
          first
            | (rw [if_pos (by exact bi_n0 h_6)]
               exact ⟨rfl, rfl⟩)
            | (rw [if_neg (by exact bi_0.mp h_6), if_pos (by exact bi_n0 h_19)]
               exact ⟨rfl, rfl⟩)
            | (rw [if_neg (by exact bi_0.mp h_6), if_neg (by exact bi_0.mp h_19), if_pos (by exact bi_n0 h_33)]
               exact ⟨rfl, rfl⟩)
            | (rw [if_neg (by exact bi_0.mp h_6), if_neg (by exact bi_0.mp h_19), if_neg (by exact bi_0.mp h_33), if_pos (by exact bi_n0 h_47)]
               exact ⟨rfl, rfl⟩)
            | (rw [if_neg (by exact bi_0.mp h_6), if_neg (by exact bi_0.mp h_19), if_neg (by exact bi_0.mp h_33), if_neg (by exact bi_0.mp h_47), if_pos (by exact bi_n0 h_61)]
               exact ⟨rfl, rfl⟩)
            | (rw [if_neg (by exact bi_0.mp h_6), if_neg (by exact bi_0.mp h_19), if_neg (by exact bi_0.mp h_33), if_neg (by exact bi_0.mp h_47), if_neg (by exact bi_0.mp h_61), if_pos (by exact bi_n0 h_75)]
               exact ⟨rfl, rfl⟩)
            | (rw [if_neg (by exact bi_0.mp h_6), if_neg (by exact bi_0.mp h_19), if_neg (by exact bi_0.mp h_33), if_neg (by exact bi_0.mp h_47), if_neg (by exact bi_0.mp h_61), if_neg (by exact bi_0.mp h_75)]
               exact ⟨rfl, rfl⟩)
      · refine x_bipush (pc := 36) (v := -3) dX6_name_36 rfl ?_
        refine x_goto (pc := 38) (tgt := 85) dX6_name_38 rfl ?_
        refine x_ireturn (pc := 85) dX6_name_85 rfl rfl ?_
        unfold naC
        first
          | (rw [if_pos (by exact bi_n0 h_6)]
             exact ⟨rfl, rfl⟩)
          | (rw [if_neg (by exact bi_0.mp h_6), if_pos (by exact bi_n0 h_19)]
             exact ⟨rfl, rfl⟩)
          | (rw [if_neg (by exact bi_0.mp h_6), if_neg (by exact bi_0.mp h_19), if_pos (by exact bi_n0 h_33)]
             exact ⟨rfl, rfl⟩)
          | (rw [if_neg (by exact bi_0.mp h_6), if_neg (by exact bi_0.mp h_19), if_neg (by exact bi_0.mp h_33), if_pos (by exact bi_n0 h_47)]
             exact ⟨rfl, rfl⟩)
          | (rw [if_neg (by exact bi_0.mp h_6), if_neg (by exact bi_0.mp h_19), if_neg (by exact bi_0.mp h_33), if_neg (by exact bi_0.mp h_47), if_pos (by exact bi_n0 h_61)]
             exact ⟨rfl, rfl⟩)
          | (rw [if_neg (by exact bi_0.mp h_6), if_neg (by exact bi_0.mp h_19), if_neg (by exact bi_0.mp h_33), if_neg (by exact bi_0.mp h_47), if_neg (by exact bi_0.mp h_61), if_pos (by exact bi_n0 h_75)]
             exact ⟨rfl, rfl⟩)
          | (rw [if_neg (by exact bi_0.mp h_6), if_neg (by exact bi_0.mp h_19), if_neg (by exact bi_0.mp h_33), if_neg (by exact bi_0.mp h_47), if_neg (by exact bi_0.mp h_61), if_neg (by exact bi_0.mp h_75)]
             exact ⟨rfl, rfl⟩)
    · refine x_bipush (pc := 22) (v := -2) dX6_name_22 rfl ?_
      refine x_goto (pc := 24) (tgt := 85) dX6_name_24 rfl ?_
      refine x_ireturn (pc := 85) dX6_name_85 rfl rfl ?_
      unfold naC
      first
        | (rw [if_pos (by exact bi_n0 h_6)]
           exact ⟨rfl, rfl⟩)
        | (rw [if_neg (by exact bi_0.mp h_6), if_pos (by exact bi_n0 h_19)]
           exact ⟨rfl, rfl⟩)
        | (rw [if_neg (by exact bi_0.mp h_6), if_neg (by exact bi_0.mp h_19), if_pos (by exact bi_n0 h_33)]
           exact ⟨rfl, rfl⟩)
        | (rw [if_neg (by exact bi_0.mp h_6), if_neg (by exact bi_0.mp h_19), if_neg (by exact bi_0.mp h_33), if_pos (by exact bi_n0 h_47)]
           exact ⟨rfl, rfl⟩)
        | (rw [if_neg (by exact bi_0.mp h_6), if_neg (by exact bi_0.mp h_19), if_neg (by exact bi_0.mp h_33), if_neg (by exact bi_0.mp h_47), if_pos (by exact bi_n0 h_61)]
           exact ⟨rfl, rfl⟩)
        | (rw [if_neg (by exact bi_0.mp h_6), if_neg (by exact bi_0.mp h_19), if_neg (by exact bi_0.mp h_33), if_neg (by exact bi_0.mp h_47), if_neg (by exact bi_0.mp h_61), if_pos (by exact bi_n0 h_75)]
           exact ⟨rfl, rfl⟩)
        | (rw [if_neg (by exact bi_0.mp h_6), if_neg (by exact bi_0.mp h_19), if_neg (by exact bi_0.mp h_33), if_neg (by exact bi_0.mp h_47), if_neg (by exact bi_0.mp h_61), if_neg (by exact bi_0.mp h_75)]
           exact ⟨rfl, rfl⟩)
  · refine x_iconst (pc := 9) (v := -1) dX6_name_9 rfl ?_
    refine x_goto (pc := 10) (tgt := 85) dX6_name_10 rfl ?_
    refine x_ireturn (pc := 85) dX6_name_85 rfl rfl ?_
    unfold naC
    first
      | (rw [if_pos (by exact bi_n0 h_6)]
         exact ⟨rfl, rfl⟩)
      | (rw [if_neg (by exact bi_0.mp h_6), if_pos (by exact bi_n0 h_19)]
         exact ⟨rfl, rfl⟩)
      | (rw [if_neg (by exact bi_0.mp h_6), if_neg (by exact bi_0.mp h_19), if_pos (by exact bi_n0 h_33)]
         exact ⟨rfl, rfl⟩)
      | (rw [if_neg (by exact bi_0.mp h_6), if_neg (by exact bi_0.mp h_19), if_neg (by exact bi_0.mp h_33), if_pos (by exact bi_n0 h_47)]
         exact ⟨rfl, rfl⟩)
      | (rw [if_neg (by exact bi_0.mp h_6), if_neg (by exact bi_0.mp h_19), if_neg (by exact bi_0.mp h_33), if_neg (by exact bi_0.mp h_47), if_pos (by exact bi_n0 h_61)]
         exact ⟨rfl, rfl⟩)
      | (rw [if_neg (by exact bi_0.mp h_6), if_neg (by exact bi_0.mp h_19), if_neg (by exact bi_0.mp h_33), if_neg (by exact bi_0.mp h_47), if_neg (by exact bi_0.mp h_61), if_pos (by exact bi_n0 h_75)]
         exact ⟨rfl, rfl⟩)
      | (rw [if_neg (by exact bi_0.mp h_6), if_neg (by exact bi_0.mp h_19), if_neg (by exact bi_0.mp h_33), if_neg (by exact bi_0.mp h_47), if_neg (by exact bi_0.mp h_61), if_neg (by exact bi_0.mp h_75)]
         exact ⟨rfl, rfl⟩)
theorem k_digits {x s l : Nat} {t u fl : Int32} {cd : Nat → Int32} (hK : KO μ b 4 6 rdL) (hT : KTp μ b lt) (hO : cO κ σ f n) (hl : n ≤ lt) (hl2 : lt < 2 ^ 31) (hs : s ≤ x) (hx : x ≤ n) : XM Γ zX6_digits 1 0 0 [.ref (adO b 4)] (KV μ b (rK κ (x, s, t, u, fl, l, cd))) (rt (.int (if (dcB σ f n (n - x) x 0).1 - s ≤ 4 then -22 else -24)) (KV μ b (rK κ ((dcB σ f n (n - x) x 0).1, s, t, (dcB σ f n (n - x) x 0).2, fl, l, cd)))) := by
  refine XM.of 0 rfl (by decide) (Nat.le_of_ble_eq_true rfl) ?_
  have hn160 := hO.2.1.2.2.1
  have L : ∀ (m x : Nat) (u : Int32) (e : Nat × Int32), s ≤ x → x + m = n → dcB σ f n m x u = e → WA Γ zX6_digits (xrm 1 0 0) 0 0 0 0 (rt (.int (if e.1 - s ≤ 4 then -22 else -24)) (KV μ b (rK κ (e.1, s, t, e.2, fl, l, cd)))) 5 [some (.ref (adO b 4))] [] (KV μ b (rK κ (x, s, t, u, fl, l, cd))) := by
    intro m
    induction m with
    | zero =>
      intro x u e hsx hx he
      have he : (x, u) = e := he
      subst he
      refine x_aload_n (pc := 5) dX6_digits_5 rfl ?_
      refine k_getI (pc := 6) hK dX6_digits_6 fk_6_19 (Or.inl rfl) ?_
      refine x_aload_n (pc := 9) dX6_digits_9 rfl ?_
      refine k_getI (pc := 10) hK dX6_digits_10 fk_6_15 (Or.inl rfl) ?_
      rw [cO_1 hO]
      refine x_icmp_ge (pc := 13) (tgt := 68) dX6_digits_13 rfl (fun h_13 => ?_) (fun h_13 => absurd (nI_le (a := n) (b := x) (by omega) (by omega)) h_13)
      refine x_aload_n (pc := 68) dX6_digits_68 rfl ?_
      refine k_getI (pc := 69) hK dX6_digits_69 fk_6_19 (Or.inl rfl) ?_
      refine x_aload_n (pc := 72) dX6_digits_72 rfl ?_
      refine k_getI (pc := 73) hK dX6_digits_73 fk_6_22 (Or.inl rfl) ?_
      refine x_isub (pc := 76) dX6_digits_76 ?_
      rw [show (rK κ (x, s, t, u, fl, l, cd)).1 4 2 - (rK κ (x, s, t, u, fl, l, cd)).1 4 3 = nI (x - s) from nI_sb hsx]
      refine x_iconst (pc := 77) (v := 4) dX6_digits_77 rfl ?_
      refine x_icmp_le (pc := 78) (tgt := 86) dX6_digits_78 rfl (fun h_78 => ?_) (fun h_78 => ?_)
      · refine x_bipush (pc := 86) (v := -22) dX6_digits_86 rfl ?_
        refine x_ireturn (pc := 88) dX6_digits_88 rfl rfl ?_
        first
          | (rw [if_pos (show x - s ≤ 4 by first | exact (nI_leI (b := 4) (by omega) (by omega)).mp (by exact h_78) | exact (nI_leI (b := 4) (by omega) (by omega)).mp (by exact h_78))]
             exact ⟨rfl, rfl⟩)
          | (rw [if_neg (show ¬ x - s ≤ 4 from fun z => h_78 (nI_le (b := 4) z (by omega)))]
             exact ⟨rfl, rfl⟩)
      · refine x_bipush (pc := 81) (v := -24) dX6_digits_81 rfl ?_
        refine x_goto (pc := 83) (tgt := 88) dX6_digits_83 rfl ?_
        refine x_ireturn (pc := 88) dX6_digits_88 rfl rfl ?_
        first
          | (rw [if_pos (show x - s ≤ 4 by first | exact (nI_leI (b := 4) (by omega) (by omega)).mp (by exact h_78) | exact (nI_leI (b := 4) (by omega) (by omega)).mp (by exact h_78))]
             exact ⟨rfl, rfl⟩)
          | (rw [if_neg (show ¬ x - s ≤ 4 from fun z => h_78 (nI_le (b := 4) z (by omega)))]
             exact ⟨rfl, rfl⟩)
    | succ m ih =>
      intro x u e hsx hx he
      rw [dcB] at he
      refine x_aload_n (pc := 5) dX6_digits_5 rfl ?_
      refine k_getI (pc := 6) hK dX6_digits_6 fk_6_19 (Or.inl rfl) ?_
      refine x_aload_n (pc := 9) dX6_digits_9 rfl ?_
      refine k_getI (pc := 10) hK dX6_digits_10 fk_6_15 (Or.inl rfl) ?_
      rw [cO_1 hO]
      refine x_icmp_ge (pc := 13) (tgt := 68) dX6_digits_13 rfl (fun h_13 => absurd h_13 (nI_ge (a := x) (b := n) (by omega) (by omega))) (fun h_13 => ?_)
      refine x_aload_n (pc := 16) dX6_digits_16 rfl ?_
      refine k_getR (pc := 17) hK dX6_digits_17 fk_6_9 (Or.inr ⟨_, rfl⟩) (hT.2.2.2) ?_
      refine x_aload_n (pc := 20) dX6_digits_20 rfl ?_
      refine k_getI (pc := 21) hK dX6_digits_21 fk_6_19 (Or.inl rfl) ?_
      refine k_tape (pc := 24) hT hO dX6_digits_24 (by omega) hl hl2 ?_
      refine x_callS (pc := 25) (As := [.int _]) dX6_digits_25 mX6_isDigit lk_6_90 (k_isDigit) rfl rfl (Nat.le_of_ble_eq_true rfl) ⟨by decide, by decide⟩ ⟨Nat.zero_le _, Nat.zero_le _⟩ (k_rt ?_)
      refine x_if_eq (pc := 28) (tgt := 68) dX6_digits_28 rfl (fun h_28 => ?_) (fun h_28 => ?_)
      · rw [if_neg (show ¬ (dgT (bA σ f n x)) from bi_0.mp h_28)] at he
        have he : (x, u) = e := he
        subst he
        refine x_aload_n (pc := 68) dX6_digits_68 rfl ?_
        refine k_getI (pc := 69) hK dX6_digits_69 fk_6_19 (Or.inl rfl) ?_
        refine x_aload_n (pc := 72) dX6_digits_72 rfl ?_
        refine k_getI (pc := 73) hK dX6_digits_73 fk_6_22 (Or.inl rfl) ?_
        refine x_isub (pc := 76) dX6_digits_76 ?_
        rw [show (rK κ (x, s, t, u, fl, l, cd)).1 4 2 - (rK κ (x, s, t, u, fl, l, cd)).1 4 3 = nI (x - s) from nI_sb hsx]
        refine x_iconst (pc := 77) (v := 4) dX6_digits_77 rfl ?_
        refine x_icmp_le (pc := 78) (tgt := 86) dX6_digits_78 rfl (fun h_78 => ?_) (fun h_78 => ?_)
        · refine x_bipush (pc := 86) (v := -22) dX6_digits_86 rfl ?_
          refine x_ireturn (pc := 88) dX6_digits_88 rfl rfl ?_
          first
            | (rw [if_pos (show x - s ≤ 4 by first | exact (nI_leI (b := 4) (by omega) (by omega)).mp (by exact h_78) | exact (nI_leI (b := 4) (by omega) (by omega)).mp (by exact h_78))]
               exact ⟨rfl, rfl⟩)
            | (rw [if_neg (show ¬ x - s ≤ 4 from fun z => h_78 (nI_le (b := 4) z (by omega)))]
               exact ⟨rfl, rfl⟩)
        · refine x_bipush (pc := 81) (v := -24) dX6_digits_81 rfl ?_
          refine x_goto (pc := 83) (tgt := 88) dX6_digits_83 rfl ?_
          refine x_ireturn (pc := 88) dX6_digits_88 rfl rfl ?_
          first
            | (rw [if_pos (show x - s ≤ 4 by first | exact (nI_leI (b := 4) (by omega) (by omega)).mp (by exact h_78) | exact (nI_leI (b := 4) (by omega) (by omega)).mp (by exact h_78))]
               exact ⟨rfl, rfl⟩)
            | (rw [if_neg (show ¬ x - s ≤ 4 from fun z => h_78 (nI_le (b := 4) z (by omega)))]
               exact ⟨rfl, rfl⟩)
      · refine x_aload_n (pc := 31) dX6_digits_31 rfl ?_
        refine x_aload_n (pc := 32) dX6_digits_32 rfl ?_
        refine k_getI (pc := 33) hK dX6_digits_33 fk_6_28 (Or.inl rfl) ?_
        refine x_bipush (pc := 36) (v := 10) dX6_digits_36 rfl ?_
        refine x_imul (pc := 38) dX6_digits_38 ?_
        refine x_aload_n (pc := 39) dX6_digits_39 rfl ?_
        refine k_getR (pc := 40) hK dX6_digits_40 fk_6_9 (Or.inr ⟨_, rfl⟩) (hT.2.2.2) ?_
        refine x_aload_n (pc := 43) dX6_digits_43 rfl ?_
        refine k_getI (pc := 44) hK dX6_digits_44 fk_6_19 (Or.inl rfl) ?_
        refine k_tape (pc := 47) hT hO dX6_digits_47 (by omega) hl hl2 ?_
        refine x_iadd (pc := 48) dX6_digits_48 ?_
        refine x_bipush (pc := 49) (v := 48) dX6_digits_49 rfl ?_
        refine x_isub (pc := 51) dX6_digits_51 ?_
        rw [show (rK κ (x, s, t, u, fl, l, cd)).1 4 5 * 10 + bA σ f n x - 48 = u * 10 + bA σ f n x - 48 from rfl]
        refine k_putI (pc := 52) hK dX6_digits_52 fk_6_28 (Or.inl rfl) (Or.inl rfl) ?_
        rw [rK_vl]
        refine x_aload_n (pc := 55) dX6_digits_55 rfl ?_
        refine x_dup (pc := 56) dX6_digits_56 rfl ?_
        refine k_getI (pc := 57) hK dX6_digits_57 fk_6_19 (Or.inl rfl) ?_
        refine x_iconst (pc := 60) (v := 1) dX6_digits_60 rfl ?_
        refine x_iadd (pc := 61) dX6_digits_61 ?_
        refine k_putI (pc := 62) hK dX6_digits_62 fk_6_19 (Or.inl rfl) (Or.inl rfl) ?_
        rw [show (rK κ (x, s, t, u * 10 + bA σ f n x - 48, fl, l, cd)).1 4 2 + 1 = nI (x + 1) from nI_1 x, rK_at]
        refine x_goto (pc := 65) (tgt := 5) dX6_digits_65 rfl ?_
        rw [if_pos (show dgT (bA σ f n x) from bi_n0 h_28)] at he
        exact ih (x + 1) _ e (by omega) (by omega) he
  refine x_aload_n (pc := 0) dX6_digits_0 rfl ?_
  refine x_iconst (pc := 1) (v := 0) dX6_digits_1 rfl ?_
  refine k_putI (pc := 2) hK dX6_digits_2 fk_6_28 (Or.inl rfl) (Or.inl rfl) ?_
  rw [rK_vl]
  exact L (n - x) x 0 _ hs (by omega) rfl
theorem k_word {x s l : Nat} {t u fl : Int32} {cd : Nat → Int32} (hK : KO μ b 4 6 rdL) (hT : KTp μ b lt) (hO : cO κ σ f n) (hl : n ≤ lt) (hl2 : lt < 2 ^ 31) (hs : s ≤ x) (hx : x ≤ n) : XM Γ zX6_word 6 0 0 [.ref (adO b 4)] (KV μ b (rK κ (x, s, t, u, fl, l, cd))) (rt (.int (wdC σ f n s (weB σ f n (n - x) x))) (KV μ b (rK κ (weB σ f n (n - x) x, s, t, u, fl, l, cd)))) := by
  refine XM.of 1 rfl (by decide) (Nat.le_of_ble_eq_true rfl) ?_
  have hn160 := hO.2.1.2.2.1
  have L : ∀ (m x e : Nat), s ≤ x → x + m = n → weB σ f n m x = e → WA Γ zX6_word (xrm 6 0 0) 0 0 0 0 (rt (.int (wdC σ f n s e)) (KV μ b (rK κ (e, s, t, u, fl, l, cd)))) 0 [some (.ref (adO b 4)), none] [] (KV μ b (rK κ (x, s, t, u, fl, l, cd))) := by
    intro m
    induction m with
    | zero =>
      intro x e hsx hx he
      have he : x = e := he
      subst he
      refine x_aload_n (pc := 0) dX6_word_0 rfl ?_
      refine k_getI (pc := 1) hK dX6_word_1 fk_6_19 (Or.inl rfl) ?_
      refine x_aload_n (pc := 4) dX6_word_4 rfl ?_
      refine k_getI (pc := 5) hK dX6_word_5 fk_6_15 (Or.inl rfl) ?_
      rw [cO_1 hO]
      refine x_icmp_ge (pc := 8) (tgt := 39) dX6_word_8 rfl (fun h_8 => ?_) (fun h_8 => absurd (nI_le (a := n) (b := x) (by omega) (by omega)) h_8)
      refine x_aload_n (pc := 39) dX6_word_39 rfl ?_
      refine x_callV (pc := 40) (As := []) dX6_word_40 mX6_key lk_6_100 hK.2.2.1 (k_key hK hT hO hl hl2 hsx (by omega)) rfl rfl (Nat.le_of_ble_eq_true rfl) ⟨by decide, by decide⟩ ⟨Nat.zero_le _, Nat.zero_le _⟩ (k_rt ?_)
      refine x_istore_n (pc := 43) (lv2 := [_, _]) dX6_word_43 (by decide) rfl rfl ?_
      refine x_iload_n (pc := 44) dX6_word_44 rfl ?_
      refine x_bipush (pc := 45) (v := -24) dX6_word_45 rfl ?_
      refine x_icmp_ne (pc := 47) (tgt := 57) dX6_word_47 rfl (fun h_47 => ?_) (fun h_47 => ?_)
      · refine x_iload_n (pc := 57) dX6_word_57 rfl ?_
        refine x_ireturn (pc := 58) dX6_word_58 rfl rfl ?_
        unfold wdC
        first
          | (rw [if_pos (by first | exact h_47 | exact Decidable.not_not.mp h_47)]
             exact ⟨rfl, rfl⟩)
          | (rw [if_neg (by exact h_47)]
             exact ⟨rfl, rfl⟩)
      · refine x_aload_n (pc := 50) dX6_word_50 rfl ?_
        refine x_callV (pc := 51) (As := []) dX6_word_51 mX6_name lk_6_103 hK.2.2.1 (k_name hK hT hO hl hl2 hsx (by omega)) rfl rfl (Nat.le_of_ble_eq_true rfl) ⟨by decide, by decide⟩ ⟨Nat.zero_le _, Nat.zero_le _⟩ (k_rt ?_)
        refine x_goto (pc := 54) (tgt := 58) dX6_word_54 rfl ?_
        refine x_ireturn (pc := 58) dX6_word_58 rfl rfl ?_
        unfold wdC
        first
          | (rw [if_pos (by first | exact h_47 | exact Decidable.not_not.mp h_47)]
             exact ⟨rfl, rfl⟩)
          | (rw [if_neg (by exact h_47)]
             exact ⟨rfl, rfl⟩)
    | succ m ih =>
      intro x e hsx hx he
      rw [weB] at he
      refine x_aload_n (pc := 0) dX6_word_0 rfl ?_
      refine k_getI (pc := 1) hK dX6_word_1 fk_6_19 (Or.inl rfl) ?_
      refine x_aload_n (pc := 4) dX6_word_4 rfl ?_
      refine k_getI (pc := 5) hK dX6_word_5 fk_6_15 (Or.inl rfl) ?_
      rw [cO_1 hO]
      refine x_icmp_ge (pc := 8) (tgt := 39) dX6_word_8 rfl (fun h_8 => absurd h_8 (nI_ge (a := x) (b := n) (by omega) (by omega))) (fun h_8 => ?_)
      refine x_aload_n (pc := 11) dX6_word_11 rfl ?_
      refine k_getR (pc := 12) hK dX6_word_12 fk_6_9 (Or.inr ⟨_, rfl⟩) (hT.2.2.2) ?_
      refine x_aload_n (pc := 15) dX6_word_15 rfl ?_
      refine k_getI (pc := 16) hK dX6_word_16 fk_6_19 (Or.inl rfl) ?_
      refine k_tape (pc := 19) hT hO dX6_word_19 (by omega) hl hl2 ?_
      refine x_callS (pc := 20) (As := [.int _]) dX6_word_20 mX6_isLetter lk_6_82 (k_isLetter) rfl rfl (Nat.le_of_ble_eq_true rfl) ⟨by decide, by decide⟩ ⟨Nat.zero_le _, Nat.zero_le _⟩ (k_rt ?_)
      refine x_if_eq (pc := 23) (tgt := 39) dX6_word_23 rfl (fun h_23 => ?_) (fun h_23 => ?_)
      · rw [if_neg (show ¬ (97 ≤ bA σ f n x ∧ bA σ f n x ≤ 122) from bi_0.mp h_23)] at he
        subst he
        refine x_aload_n (pc := 39) dX6_word_39 rfl ?_
        refine x_callV (pc := 40) (As := []) dX6_word_40 mX6_key lk_6_100 hK.2.2.1 (k_key hK hT hO hl hl2 hsx (by omega)) rfl rfl (Nat.le_of_ble_eq_true rfl) ⟨by decide, by decide⟩ ⟨Nat.zero_le _, Nat.zero_le _⟩ (k_rt ?_)
        refine x_istore_n (pc := 43) (lv2 := [_, _]) dX6_word_43 (by decide) rfl rfl ?_
        refine x_iload_n (pc := 44) dX6_word_44 rfl ?_
        refine x_bipush (pc := 45) (v := -24) dX6_word_45 rfl ?_
        refine x_icmp_ne (pc := 47) (tgt := 57) dX6_word_47 rfl (fun h_47 => ?_) (fun h_47 => ?_)
        · refine x_iload_n (pc := 57) dX6_word_57 rfl ?_
          refine x_ireturn (pc := 58) dX6_word_58 rfl rfl ?_
          unfold wdC
          first
            | (rw [if_pos (by first | exact h_47 | exact Decidable.not_not.mp h_47)]
               exact ⟨rfl, rfl⟩)
            | (rw [if_neg (by exact h_47)]
               exact ⟨rfl, rfl⟩)
        · refine x_aload_n (pc := 50) dX6_word_50 rfl ?_
          refine x_callV (pc := 51) (As := []) dX6_word_51 mX6_name lk_6_103 hK.2.2.1 (k_name hK hT hO hl hl2 hsx (by omega)) rfl rfl (Nat.le_of_ble_eq_true rfl) ⟨by decide, by decide⟩ ⟨Nat.zero_le _, Nat.zero_le _⟩ (k_rt ?_)
          refine x_goto (pc := 54) (tgt := 58) dX6_word_54 rfl ?_
          refine x_ireturn (pc := 58) dX6_word_58 rfl rfl ?_
          unfold wdC
          first
            | (rw [if_pos (by first | exact h_47 | exact Decidable.not_not.mp h_47)]
               exact ⟨rfl, rfl⟩)
            | (rw [if_neg (by exact h_47)]
               exact ⟨rfl, rfl⟩)
      · refine x_aload_n (pc := 26) dX6_word_26 rfl ?_
        refine x_dup (pc := 27) dX6_word_27 rfl ?_
        refine k_getI (pc := 28) hK dX6_word_28 fk_6_19 (Or.inl rfl) ?_
        refine x_iconst (pc := 31) (v := 1) dX6_word_31 rfl ?_
        refine x_iadd (pc := 32) dX6_word_32 ?_
        refine k_putI (pc := 33) hK dX6_word_33 fk_6_19 (Or.inl rfl) (Or.inl rfl) ?_
        rw [show (rK κ (x, s, t, u, fl, l, cd)).1 4 2 + 1 = nI (x + 1) from nI_1 x, rK_at]
        refine x_goto (pc := 36) (tgt := 0) dX6_word_36 rfl ?_
        rw [if_pos (show 97 ≤ bA σ f n x ∧ bA σ f n x ≤ 122 from bi_n0 h_23)] at he
        exact ih (x + 1) e (by omega) (by omega) he
  exact L (n - x) x _ hs (by omega) rfl
end M89
