/-! the class: of which kind a thing is; a new thing of a kind -/
section M999998
variable {Γ : Gm} {M : Mt} {R : Room} {mc ms cl sl : Nat} {Q : Option Value → Mem → Prop} {pc : Nat} {lv : List (Option Value)} {st : List Value} {μ : Mem} {q : Nat}
theorem x_inst {idx ci : Nat} {nm : String} {res : Int32} (d : decode M.2.1 pc = .ok (.instanceof idx, 3)) (hw : Cond.classLink M.1.cls idx nm ∈ gT) (hT : mT μ q = (1, ci)) (hci : ci < 13) (h : (res = 1 ∧ (xC ci = nm ∨ (xC ci, nm) ∈ castY)) ∨ (res = 0 ∧ (xC ci, nm) ∈ castN)) (kk : WA Γ M R mc ms cl sl Q (pc + 3) lv (.int res :: st) μ) : WA Γ M R mc ms cl sl Q pc lv (.ref q :: st) μ := by
  intro p e s m args below meth c Qf H locs ls F hS hP hl hE
  obtain ⟨hx, hb, -, -, -, -, hown, hts, hK, hB, hSE⟩ := id F
  obtain ⟨L, hPL, hD, hL⟩ := id hP
  have hq : q ∈ L := (hL q).mpr (by rw [hT]; exact fun h => by cases h)
  obtain ⟨z, hz⟩ := va_pl_get (X := []) (f := xcell (gC Γ) μ) hq
  rw [xcell_o hT] at hz
  have hr := va_recv hK hPL (x_cl hci) hz
  have k := kk p e s m args below meth c Qf H locs ls F hS hP hl hE
  rcases h with ⟨rfl, h | h⟩ | ⟨rfl, h⟩
  · subst h
    exact va_instS hx hb hown (hts _ hw) (hK.1 ci _ (x_cl hci)).2 hr d k
  · exact va_instY hx hb hown (hts _ hw) (hSE.2.2.2.2.2.1 (xC ci, nm) h) hr d k
  · exact va_instNo hx hb hown (hts _ hw) (hSE.2.2.2.2.2.2.1 (xC ci, nm) h) hr d k
theorem k_isOf {k kd : Nat} (hk : k < 6) (hkd : kd < 6) (hT : mT μ q = (1, kci kd)) : XM Γ zX11_isOf 0 0 0 [.ref q, .int (nI k)] μ (rt (.int (if nI k ∈ chn (nI kd) then 1 else 0)) μ) := by
  refine XM.of 0 rfl (by decide) (Nat.le_of_ble_eq_true rfl) ?_
  refine x_iload_n (pc := 0) dX11_isOf_0 rfl ?_
  rcases k6 hk with rfl | rfl | rfl | rfl | rfl | rfl
  · refine x_tableOut (pc := 1) (tgt := 61) dX11_isOf_1 (by decide) rfl ?_
    refine x_iconst (pc := 61) (v := 1) dX11_isOf_61 rfl ?_
    refine x_ireturn (pc := 62) dX11_isOf_62 rfl rfl ?_
    rcases k6 hkd with rfl | rfl | rfl | rfl | rfl | rfl <;> exact ⟨by rw [if_pos (by decide)], rfl⟩
  · refine x_tableIn (pc := 1) (off := 35) (tgt := 36) dX11_isOf_1 (by decide) (by decide) (by decide) (by decide) ?_
    refine x_aload_n (pc := 36) dX11_isOf_36 rfl ?_
    rcases k6 hkd with rfl | rfl | rfl | rfl | rfl | rfl
    · refine x_inst (pc := 37) (ci := 9) (res := 0) dX11_isOf_37 kl_11_258 hT (by decide) (Or.inr ⟨rfl, by decide⟩) ?_
      refine x_ireturn (pc := 40) dX11_isOf_40 rfl rfl ?_
      exact ⟨by rw [if_neg (by decide)], rfl⟩
    · refine x_inst (pc := 37) (ci := 3) (res := 1) dX11_isOf_37 kl_11_258 hT (by decide) (Or.inl ⟨rfl, Or.inl rfl⟩) ?_
      refine x_ireturn (pc := 40) dX11_isOf_40 rfl rfl ?_
      exact ⟨by rw [if_pos (by decide)], rfl⟩
    · refine x_inst (pc := 37) (ci := 1) (res := 0) dX11_isOf_37 kl_11_258 hT (by decide) (Or.inr ⟨rfl, by decide⟩) ?_
      refine x_ireturn (pc := 40) dX11_isOf_40 rfl rfl ?_
      exact ⟨by rw [if_neg (by decide)], rfl⟩
    · refine x_inst (pc := 37) (ci := 5) (res := 1) dX11_isOf_37 kl_11_258 hT (by decide) (Or.inl ⟨rfl, Or.inr (by decide)⟩) ?_
      refine x_ireturn (pc := 40) dX11_isOf_40 rfl rfl ?_
      exact ⟨by rw [if_pos (by decide)], rfl⟩
    · refine x_inst (pc := 37) (ci := 10) (res := 0) dX11_isOf_37 kl_11_258 hT (by decide) (Or.inr ⟨rfl, by decide⟩) ?_
      refine x_ireturn (pc := 40) dX11_isOf_40 rfl rfl ?_
      exact ⟨by rw [if_neg (by decide)], rfl⟩
    · refine x_inst (pc := 37) (ci := 0) (res := 0) dX11_isOf_37 kl_11_258 hT (by decide) (Or.inr ⟨rfl, by decide⟩) ?_
      refine x_ireturn (pc := 40) dX11_isOf_40 rfl rfl ?_
      exact ⟨by rw [if_neg (by decide)], rfl⟩
  · refine x_tableIn (pc := 1) (off := 40) (tgt := 41) dX11_isOf_1 (by decide) (by decide) (by decide) (by decide) ?_
    refine x_aload_n (pc := 41) dX11_isOf_41 rfl ?_
    rcases k6 hkd with rfl | rfl | rfl | rfl | rfl | rfl
    · refine x_inst (pc := 42) (ci := 9) (res := 0) dX11_isOf_42 kl_11_263 hT (by decide) (Or.inr ⟨rfl, by decide⟩) ?_
      refine x_ireturn (pc := 45) dX11_isOf_45 rfl rfl ?_
      exact ⟨by rw [if_neg (by decide)], rfl⟩
    · refine x_inst (pc := 42) (ci := 3) (res := 0) dX11_isOf_42 kl_11_263 hT (by decide) (Or.inr ⟨rfl, by decide⟩) ?_
      refine x_ireturn (pc := 45) dX11_isOf_45 rfl rfl ?_
      exact ⟨by rw [if_neg (by decide)], rfl⟩
    · refine x_inst (pc := 42) (ci := 1) (res := 1) dX11_isOf_42 kl_11_263 hT (by decide) (Or.inl ⟨rfl, Or.inl rfl⟩) ?_
      refine x_ireturn (pc := 45) dX11_isOf_45 rfl rfl ?_
      exact ⟨by rw [if_pos (by decide)], rfl⟩
    · refine x_inst (pc := 42) (ci := 5) (res := 0) dX11_isOf_42 kl_11_263 hT (by decide) (Or.inr ⟨rfl, by decide⟩) ?_
      refine x_ireturn (pc := 45) dX11_isOf_45 rfl rfl ?_
      exact ⟨by rw [if_neg (by decide)], rfl⟩
    · refine x_inst (pc := 42) (ci := 10) (res := 1) dX11_isOf_42 kl_11_263 hT (by decide) (Or.inl ⟨rfl, Or.inr (by decide)⟩) ?_
      refine x_ireturn (pc := 45) dX11_isOf_45 rfl rfl ?_
      exact ⟨by rw [if_pos (by decide)], rfl⟩
    · refine x_inst (pc := 42) (ci := 0) (res := 0) dX11_isOf_42 kl_11_263 hT (by decide) (Or.inr ⟨rfl, by decide⟩) ?_
      refine x_ireturn (pc := 45) dX11_isOf_45 rfl rfl ?_
      exact ⟨by rw [if_neg (by decide)], rfl⟩
  · refine x_tableIn (pc := 1) (off := 45) (tgt := 46) dX11_isOf_1 (by decide) (by decide) (by decide) (by decide) ?_
    refine x_aload_n (pc := 46) dX11_isOf_46 rfl ?_
    rcases k6 hkd with rfl | rfl | rfl | rfl | rfl | rfl
    · refine x_inst (pc := 47) (ci := 9) (res := 0) dX11_isOf_47 kl_11_266 hT (by decide) (Or.inr ⟨rfl, by decide⟩) ?_
      refine x_ireturn (pc := 50) dX11_isOf_50 rfl rfl ?_
      exact ⟨by rw [if_neg (by decide)], rfl⟩
    · refine x_inst (pc := 47) (ci := 3) (res := 0) dX11_isOf_47 kl_11_266 hT (by decide) (Or.inr ⟨rfl, by decide⟩) ?_
      refine x_ireturn (pc := 50) dX11_isOf_50 rfl rfl ?_
      exact ⟨by rw [if_neg (by decide)], rfl⟩
    · refine x_inst (pc := 47) (ci := 1) (res := 0) dX11_isOf_47 kl_11_266 hT (by decide) (Or.inr ⟨rfl, by decide⟩) ?_
      refine x_ireturn (pc := 50) dX11_isOf_50 rfl rfl ?_
      exact ⟨by rw [if_neg (by decide)], rfl⟩
    · refine x_inst (pc := 47) (ci := 5) (res := 1) dX11_isOf_47 kl_11_266 hT (by decide) (Or.inl ⟨rfl, Or.inl rfl⟩) ?_
      refine x_ireturn (pc := 50) dX11_isOf_50 rfl rfl ?_
      exact ⟨by rw [if_pos (by decide)], rfl⟩
    · refine x_inst (pc := 47) (ci := 10) (res := 0) dX11_isOf_47 kl_11_266 hT (by decide) (Or.inr ⟨rfl, by decide⟩) ?_
      refine x_ireturn (pc := 50) dX11_isOf_50 rfl rfl ?_
      exact ⟨by rw [if_neg (by decide)], rfl⟩
    · refine x_inst (pc := 47) (ci := 0) (res := 0) dX11_isOf_47 kl_11_266 hT (by decide) (Or.inr ⟨rfl, by decide⟩) ?_
      refine x_ireturn (pc := 50) dX11_isOf_50 rfl rfl ?_
      exact ⟨by rw [if_neg (by decide)], rfl⟩
  · refine x_tableIn (pc := 1) (off := 50) (tgt := 51) dX11_isOf_1 (by decide) (by decide) (by decide) (by decide) ?_
    refine x_aload_n (pc := 51) dX11_isOf_51 rfl ?_
    rcases k6 hkd with rfl | rfl | rfl | rfl | rfl | rfl
    · refine x_inst (pc := 52) (ci := 9) (res := 0) dX11_isOf_52 kl_11_269 hT (by decide) (Or.inr ⟨rfl, by decide⟩) ?_
      refine x_ireturn (pc := 55) dX11_isOf_55 rfl rfl ?_
      exact ⟨by rw [if_neg (by decide)], rfl⟩
    · refine x_inst (pc := 52) (ci := 3) (res := 0) dX11_isOf_52 kl_11_269 hT (by decide) (Or.inr ⟨rfl, by decide⟩) ?_
      refine x_ireturn (pc := 55) dX11_isOf_55 rfl rfl ?_
      exact ⟨by rw [if_neg (by decide)], rfl⟩
    · refine x_inst (pc := 52) (ci := 1) (res := 0) dX11_isOf_52 kl_11_269 hT (by decide) (Or.inr ⟨rfl, by decide⟩) ?_
      refine x_ireturn (pc := 55) dX11_isOf_55 rfl rfl ?_
      exact ⟨by rw [if_neg (by decide)], rfl⟩
    · refine x_inst (pc := 52) (ci := 5) (res := 0) dX11_isOf_52 kl_11_269 hT (by decide) (Or.inr ⟨rfl, by decide⟩) ?_
      refine x_ireturn (pc := 55) dX11_isOf_55 rfl rfl ?_
      exact ⟨by rw [if_neg (by decide)], rfl⟩
    · refine x_inst (pc := 52) (ci := 10) (res := 1) dX11_isOf_52 kl_11_269 hT (by decide) (Or.inl ⟨rfl, Or.inl rfl⟩) ?_
      refine x_ireturn (pc := 55) dX11_isOf_55 rfl rfl ?_
      exact ⟨by rw [if_pos (by decide)], rfl⟩
    · refine x_inst (pc := 52) (ci := 0) (res := 0) dX11_isOf_52 kl_11_269 hT (by decide) (Or.inr ⟨rfl, by decide⟩) ?_
      refine x_ireturn (pc := 55) dX11_isOf_55 rfl rfl ?_
      exact ⟨by rw [if_neg (by decide)], rfl⟩
  · refine x_tableIn (pc := 1) (off := 55) (tgt := 56) dX11_isOf_1 (by decide) (by decide) (by decide) (by decide) ?_
    refine x_aload_n (pc := 56) dX11_isOf_56 rfl ?_
    rcases k6 hkd with rfl | rfl | rfl | rfl | rfl | rfl
    · refine x_inst (pc := 57) (ci := 9) (res := 0) dX11_isOf_57 kl_11_272 hT (by decide) (Or.inr ⟨rfl, by decide⟩) ?_
      refine x_ireturn (pc := 60) dX11_isOf_60 rfl rfl ?_
      exact ⟨by rw [if_neg (by decide)], rfl⟩
    · refine x_inst (pc := 57) (ci := 3) (res := 0) dX11_isOf_57 kl_11_272 hT (by decide) (Or.inr ⟨rfl, by decide⟩) ?_
      refine x_ireturn (pc := 60) dX11_isOf_60 rfl rfl ?_
      exact ⟨by rw [if_neg (by decide)], rfl⟩
    · refine x_inst (pc := 57) (ci := 1) (res := 0) dX11_isOf_57 kl_11_272 hT (by decide) (Or.inr ⟨rfl, by decide⟩) ?_
      refine x_ireturn (pc := 60) dX11_isOf_60 rfl rfl ?_
      exact ⟨by rw [if_neg (by decide)], rfl⟩
    · refine x_inst (pc := 57) (ci := 5) (res := 0) dX11_isOf_57 kl_11_272 hT (by decide) (Or.inr ⟨rfl, by decide⟩) ?_
      refine x_ireturn (pc := 60) dX11_isOf_60 rfl rfl ?_
      exact ⟨by rw [if_neg (by decide)], rfl⟩
    · refine x_inst (pc := 57) (ci := 10) (res := 0) dX11_isOf_57 kl_11_272 hT (by decide) (Or.inr ⟨rfl, by decide⟩) ?_
      refine x_ireturn (pc := 60) dX11_isOf_60 rfl rfl ?_
      exact ⟨by rw [if_neg (by decide)], rfl⟩
    · refine x_inst (pc := 57) (ci := 0) (res := 1) dX11_isOf_57 kl_11_272 hT (by decide) (Or.inl ⟨rfl, Or.inl rfl⟩) ?_
      refine x_ireturn (pc := 60) dX11_isOf_60 rfl rfl ?_
      exact ⟨by rw [if_pos (by decide)], rfl⟩
theorem k_mkd {k : Nat} (hk : k < 6) (ix wh gv : Int32) : XM Γ zX11_made 4 7 62 [.int (nI k), .int ix, .int wh, .int gv] μ (fun r M => ∃ q, r = some (.ref q) ∧ (mT μ q).1 = 0 ∧ thN (nw μ q 1 (kci k)) M q (kci k) (fun _ => 0) (nI k) ix wh gv) := by
  refine XM.of 0 rfl (by decide) (Nat.le_of_ble_eq_true rfl) ?_
  refine x_iload_n (pc := 0) dX11_made_0 rfl ?_
  rcases k6 hk with rfl | rfl | rfl | rfl | rfl | rfl
  · refine x_tableOut (pc := 1) (tgt := 96) dX11_made_1 (by decide) rfl ?_
    refine x_new (pc := 96) (ci := 9) dX11_made_96 (by decide) kl_11_99 ki_9 kn_9 ⟨Nat.le_of_ble_eq_true rfl, Nat.le_of_ble_eq_true rfl⟩ (fun q hq => ?_)
    refine x_dup (pc := 99) dX11_made_99 rfl ?_
    refine x_iload_n (pc := 100) dX11_made_100 rfl ?_
    refine x_iload_n (pc := 101) dX11_made_101 rfl ?_
    refine x_iload_n (pc := 102) dX11_made_102 rfl ?_
    refine x_iload_n (pc := 103) dX11_made_103 rfl ?_
    refine x_callI (pc := 104) (As := [.int _, .int _, .int _, .int _]) dX11_made_104 mX9_init rfl lk_11_275 (k_thInit (μ0 := nw μ q 1 9) (kci_th 0) AI_new) rfl rfl (Nat.le_of_ble_eq_true rfl) ⟨by decide, by decide⟩ ⟨Nat.le_of_ble_eq_true rfl, Nat.le_of_ble_eq_true rfl⟩ (fun r μ2 hr => ?_)
    obtain ⟨rfl, hX⟩ := hr
    refine x_areturn (pc := 107) dX11_made_107 rfl (Or.inl ⟨_, rfl⟩) ?_
    exact ⟨q, rfl, hq, hX⟩
  · refine x_tableIn (pc := 1) (off := 35) (tgt := 36) dX11_made_1 (by decide) (by decide) (by decide) (by decide) ?_
    refine x_new (pc := 36) (ci := 3) dX11_made_36 (by decide) kl_11_258 ki_3 kn_3 ⟨Nat.le_of_ble_eq_true rfl, Nat.le_of_ble_eq_true rfl⟩ (fun q hq => ?_)
    refine x_dup (pc := 39) dX11_made_39 rfl ?_
    refine x_iload_n (pc := 40) dX11_made_40 rfl ?_
    refine x_iload_n (pc := 41) dX11_made_41 rfl ?_
    refine x_iload_n (pc := 42) dX11_made_42 rfl ?_
    refine x_iload_n (pc := 43) dX11_made_43 rfl ?_
    refine x_callI (pc := 44) (As := [.int _, .int _, .int _, .int _]) dX11_made_44 mX3_init rfl lk_11_260 (k_i3 (μ0 := nw μ q 1 3) (kci_th 1) AI_new) rfl rfl (Nat.le_of_ble_eq_true rfl) ⟨by decide, by decide⟩ ⟨Nat.le_of_ble_eq_true rfl, Nat.le_of_ble_eq_true rfl⟩ (fun r μ2 hr => ?_)
    obtain ⟨rfl, hX⟩ := hr
    refine x_areturn (pc := 47) dX11_made_47 rfl (Or.inl ⟨_, rfl⟩) ?_
    exact ⟨q, rfl, hq, hX⟩
  · refine x_tableIn (pc := 1) (off := 47) (tgt := 48) dX11_made_1 (by decide) (by decide) (by decide) (by decide) ?_
    refine x_new (pc := 48) (ci := 1) dX11_made_48 (by decide) kl_11_263 ki_1 kn_1 ⟨Nat.le_of_ble_eq_true rfl, Nat.le_of_ble_eq_true rfl⟩ (fun q hq => ?_)
    refine x_dup (pc := 51) dX11_made_51 rfl ?_
    refine x_iload_n (pc := 52) dX11_made_52 rfl ?_
    refine x_iload_n (pc := 53) dX11_made_53 rfl ?_
    refine x_iload_n (pc := 54) dX11_made_54 rfl ?_
    refine x_iload_n (pc := 55) dX11_made_55 rfl ?_
    refine x_callI (pc := 56) (As := [.int _, .int _, .int _, .int _]) dX11_made_56 mX1_init rfl lk_11_265 (k_i1 (μ0 := nw μ q 1 1) (kci_th 2) AI_new) rfl rfl (Nat.le_of_ble_eq_true rfl) ⟨by decide, by decide⟩ ⟨Nat.le_of_ble_eq_true rfl, Nat.le_of_ble_eq_true rfl⟩ (fun r μ2 hr => ?_)
    obtain ⟨rfl, hX⟩ := hr
    refine x_areturn (pc := 59) dX11_made_59 rfl (Or.inl ⟨_, rfl⟩) ?_
    exact ⟨q, rfl, hq, hX⟩
  · refine x_tableIn (pc := 1) (off := 59) (tgt := 60) dX11_made_1 (by decide) (by decide) (by decide) (by decide) ?_
    refine x_new (pc := 60) (ci := 5) dX11_made_60 (by decide) kl_11_266 ki_5 kn_5 ⟨Nat.le_of_ble_eq_true rfl, Nat.le_of_ble_eq_true rfl⟩ (fun q hq => ?_)
    refine x_dup (pc := 63) dX11_made_63 rfl ?_
    refine x_iload_n (pc := 64) dX11_made_64 rfl ?_
    refine x_iload_n (pc := 65) dX11_made_65 rfl ?_
    refine x_iload_n (pc := 66) dX11_made_66 rfl ?_
    refine x_iload_n (pc := 67) dX11_made_67 rfl ?_
    refine x_callI (pc := 68) (As := [.int _, .int _, .int _, .int _]) dX11_made_68 mX5_init rfl lk_11_268 (k_i5 (μ0 := nw μ q 1 5) (kci_th 3) AI_new) rfl rfl (Nat.le_of_ble_eq_true rfl) ⟨by decide, by decide⟩ ⟨Nat.le_of_ble_eq_true rfl, Nat.le_of_ble_eq_true rfl⟩ (fun r μ2 hr => ?_)
    obtain ⟨rfl, hX⟩ := hr
    refine x_areturn (pc := 71) dX11_made_71 rfl (Or.inl ⟨_, rfl⟩) ?_
    exact ⟨q, rfl, hq, hX⟩
  · refine x_tableIn (pc := 1) (off := 71) (tgt := 72) dX11_made_1 (by decide) (by decide) (by decide) (by decide) ?_
    refine x_new (pc := 72) (ci := 10) dX11_made_72 (by decide) kl_11_269 ki_10 kn_10 ⟨Nat.le_of_ble_eq_true rfl, Nat.le_of_ble_eq_true rfl⟩ (fun q hq => ?_)
    refine x_dup (pc := 75) dX11_made_75 rfl ?_
    refine x_iload_n (pc := 76) dX11_made_76 rfl ?_
    refine x_iload_n (pc := 77) dX11_made_77 rfl ?_
    refine x_iload_n (pc := 78) dX11_made_78 rfl ?_
    refine x_iload_n (pc := 79) dX11_made_79 rfl ?_
    refine x_callI (pc := 80) (As := [.int _, .int _, .int _, .int _]) dX11_made_80 mX10_init rfl lk_11_271 (k_i10 (μ0 := nw μ q 1 10) (kci_th 4) AI_new) rfl rfl (Nat.le_of_ble_eq_true rfl) ⟨by decide, by decide⟩ ⟨Nat.le_of_ble_eq_true rfl, Nat.le_of_ble_eq_true rfl⟩ (fun r μ2 hr => ?_)
    obtain ⟨rfl, hX⟩ := hr
    refine x_areturn (pc := 83) dX11_made_83 rfl (Or.inl ⟨_, rfl⟩) ?_
    exact ⟨q, rfl, hq, hX⟩
  · refine x_tableIn (pc := 1) (off := 83) (tgt := 84) dX11_made_1 (by decide) (by decide) (by decide) (by decide) ?_
    refine x_new (pc := 84) (ci := 0) dX11_made_84 (by decide) kl_11_272 ki_0 kn_0 ⟨Nat.le_of_ble_eq_true rfl, Nat.le_of_ble_eq_true rfl⟩ (fun q hq => ?_)
    refine x_dup (pc := 87) dX11_made_87 rfl ?_
    refine x_iload_n (pc := 88) dX11_made_88 rfl ?_
    refine x_iload_n (pc := 89) dX11_made_89 rfl ?_
    refine x_iload_n (pc := 90) dX11_made_90 rfl ?_
    refine x_iload_n (pc := 91) dX11_made_91 rfl ?_
    refine x_callI (pc := 92) (As := [.int _, .int _, .int _, .int _]) dX11_made_92 mX0_init rfl lk_11_274 (k_i0 (μ0 := nw μ q 1 0) (kci_th 5) AI_new) rfl rfl (Nat.le_of_ble_eq_true rfl) ⟨by decide, by decide⟩ ⟨Nat.le_of_ble_eq_true rfl, Nat.le_of_ble_eq_true rfl⟩ (fun r μ2 hr => ?_)
    obtain ⟨rfl, hX⟩ := hr
    refine x_areturn (pc := 95) dX11_made_95 rfl (Or.inl ⟨_, rfl⟩) ?_
    exact ⟨q, rfl, hq, hX⟩
end M999998
