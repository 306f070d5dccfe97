/-! the reference's reader: a part, a text -/
theorem exNN : ∃ k : Nat, k = 41 := ⟨41, rfl⟩
/-- how deep a reader may go: 41, held so that nobody unfolds it -/
noncomputable def NN : Nat := exNN.choose
theorem NN_eq : NN = 41 := exNN.choose_spec
def pIf (σ : MS) (f n : Nat) (p : PT) : PT := if pbd p = 0 then pN σ f n p else p
noncomputable def pEi (σ : MS) (f n : Nat) (p : PT) : Int32 × PT := if pbd p = 0 then pz σ f n NN 5 p else (0, p)
def pSm (p : PT) : PT := if qS 59 p = 0 then pF p else p
noncomputable def pPt (σ : MS) (f n : Nat) (k : Int32) (p : PT) : Int32 × PT := ((pEi σ f n (pIf σ f n (if k = 0 then pF p else p))).1, pIf σ f n (pSm (pEi σ f n (pIf σ f n (if k = 0 then pF p else p))).2))
noncomputable def rd1 (σ : MS) (f n : Nat) (p : PT) : Int32 × PT := pPt σ f n (qW σ f n 109 111 118 101 115 0 0 0 (pN σ f n p)) (pN σ f n p)
noncomputable def rd2 (σ : MS) (f n : Nat) (p : PT) : Int32 × PT := if pbd (rd1 σ f n p).2 = 0 then pPt σ f n (qW σ f n 117 103 108 121 0 0 0 0 (rd1 σ f n p).2) (rd1 σ f n p).2 else (0, (rd1 σ f n p).2)
noncomputable def rd3 (σ : MS) (f n : Nat) (p : PT) : Int32 × PT := if pbd (rd2 σ f n p).2 = 0 then pPt σ f n (qW σ f n 109 105 110 100 115 0 0 0 (rd2 σ f n p).2) (rd2 σ f n p).2 else (0, (rd2 σ f n p).2)
noncomputable def rdE (σ : MS) (f n : Nat) (p : PT) : PT := if pbd (rd3 σ f n p).2 = 0 ∧ ¬ (rd3 σ f n p).2.2.1 = 0 then pF (rd3 σ f n p).2 else (rd3 σ f n p).2
noncomputable def rdV (σ : MS) (f n : Nat) (p : PT) (x : Int32) : Int32 := if x = 0 then (rd1 σ f n p).1 else if x = 1 then (rd2 σ f n p).1 else (rd3 σ f n p).1
theorem kp_If {σ : MS} {f n : Nat} {p : PT} (hO : rdO σ f n) (h : okp n p) : kp n p (pIf σ f n p) := by
  unfold pIf
  split
  · exact kp_N hO h
  · exact kp.rf h
theorem kp_Ei {σ : MS} {f n : Nat} {p : PT} (hO : rdO σ f n) (h : okp n p) : kp n p (pEi σ f n p).2 := by
  unfold pEi
  split
  · exact pz_kp hO NN 5 p h
  · dsimp only
    exact kp.rf h
theorem kp_Sm {n : Nat} {p : PT} (h : okp n p) : kp n p (pSm p) := by
  unfold pSm
  split
  · exact kp_F h
  · exact kp.rf h
theorem kp_k {n : Nat} {p : PT} {k : Int32} (h : okp n p) : kp n p (if k = 0 then pF p else p) := by
  split
  · exact kp_F h
  · exact kp.rf h
theorem kp_Pt {σ : MS} {f n : Nat} {p : PT} {k : Int32} (hO : rdO σ f n) (h : okp n p) : kp n p (pPt σ f n k p).2 := by
  have k1 := kp_k (k := k) h
  have k2 := kp_If hO k1.1
  have k3 := kp_Ei hO k2.1
  have k4 := kp_Sm k3.1
  unfold pPt
  dsimp only
  exact (((k1.trans k2).trans k3).trans k4).trans (kp_If hO k4.1)
section M42
variable {Γ : Gm} {μ : Mem} {a : Ma} {σ : MS}
theorem b0 {n : Nat} {p : PT} (h : okp n p) (z : nI (pbd p) = 0) : pbd p = 0 := (nI_eq (b := 0) (by have := h.2.2.2.2.1; show pbd p < _; unfold pbd; omega) (by omega)).mp z
theorem b1 {p : PT} (z : ¬ nI (pbd p) = 0) : ¬ pbd p = 0 := fun q => z (by rw [q]; rfl)
theorem g_part {f n : Nat} {p : PT} (hM : MOK μ a) (hO : rdO σ f n) (h : okp n p) (h0 : pop p = 0) (k : Int32) : XM Γ zX12_part 46 0 0 [.ref a.1, .int k] (MV μ a (Pσ σ p)) (rt (.int (pPt σ f n k p).1) (MV μ a (Pσ σ (pPt σ f n k p).2))) := by
  refine XM.of 1 rfl (by decide) (Nat.le_of_ble_eq_true rfl) ?_
  have T4 : ∀ (v : Int32) (q : PT), okp n q → WA Γ zX12_part (xrm 46 0 0) 0 0 0 0 (rt (.int v) (MV μ a (Pσ σ (pIf σ f n q)))) 48 [some (.ref a.1), some (.int k), some (.int v)] [] (MV μ a (Pσ σ q)) := by
    intro v q hq
    refine x_aload_n (pc := 48) dX12_part_48 rfl ?_
    refine m_getIv (pc := 49) (v := nI (pbd (q))) hM dX12_part_49 fk_12_181 (Or.inr rfl) (rfl) ?_
    refine x_if_ne (pc := 52) (tgt := 59) dX12_part_52 rfl (fun h_52 => ?_) (fun h_52 => ?_)
    · refine x_iload_n (pc := 59) dX12_part_59 rfl ?_
      refine x_ireturn (pc := 60) dX12_part_60 rfl rfl ?_
      first
        | (have e : pIf σ f n q = pN σ f n q := if_pos (b0 hq (by first | exact h_52 | exact Decidable.not_not.mp h_52))
           rw [e]
           exact ⟨rfl, rfl⟩)
        | (have e : pIf σ f n q = q := if_neg (b1 h_52)
           rw [e]
           exact ⟨rfl, rfl⟩)
    · refine x_aload_n (pc := 55) dX12_part_55 rfl ?_
      refine x_callV (pc := 56) (As := []) dX12_part_56 mX12_next lk_12_197 hM.1 (g_N hM hO hq) rfl rfl (Nat.le_of_ble_eq_true rfl) ⟨by decide, by decide⟩ ⟨Nat.zero_le _, Nat.zero_le _⟩ (k_rv ?_)
      refine x_iload_n (pc := 59) dX12_part_59 rfl ?_
      refine x_ireturn (pc := 60) dX12_part_60 rfl rfl ?_
      first
        | (have e : pIf σ f n q = pN σ f n q := if_pos (b0 hq (by first | exact h_52 | exact Decidable.not_not.mp h_52))
           rw [e]
           exact ⟨rfl, rfl⟩)
        | (have e : pIf σ f n q = q := if_neg (b1 h_52)
           rw [e]
           exact ⟨rfl, rfl⟩)
  have T3 : ∀ (v : Int32) (q : PT), okp n q → WA Γ zX12_part (xrm 46 0 0) 0 0 0 0 (rt (.int v) (MV μ a (Pσ σ (pIf σ f n (pSm q))))) 35 [some (.ref a.1), some (.int k), some (.int v)] [] (MV μ a (Pσ σ q)) := by
    intro v q hq
    refine x_aload_n (pc := 35) dX12_part_35 rfl ?_
    refine x_bipush (pc := 36) (v := 59) dX12_part_36 rfl ?_
    refine x_callV (pc := 38) (As := [.int _]) dX12_part_38 mX12_isSign lk_12_222 hM.1 (g_S hM hq _) rfl rfl (Nat.le_of_ble_eq_true rfl) ⟨by decide, by decide⟩ ⟨Nat.zero_le _, Nat.zero_le _⟩ (k_rt ?_)
    refine x_if_ne (pc := 41) (tgt := 48) dX12_part_41 rfl (fun h_41 => ?_) (fun h_41 => ?_)
    · first
        | (have e : pSm q = pF q := if_pos h_41
           rw [e]
           exact T4 v _ (pF_ok hq).1)
        | (have e : pSm q = q := if_neg h_41
           rw [e]
           exact T4 v _ hq)
    · refine x_aload_n (pc := 44) dX12_part_44 rfl ?_
      refine x_callV (pc := 45) (As := []) dX12_part_45 mX12_fail lk_12_194 hM.1 (g_F hM hq) rfl rfl (Nat.le_of_ble_eq_true rfl) ⟨by decide, by decide⟩ ⟨Nat.zero_le _, Nat.zero_le _⟩ (k_rv ?_)
      first
        | (have e : pSm q = pF q := if_pos h_41
           rw [e]
           exact T4 v _ (pF_ok hq).1)
        | (have e : pSm q = q := if_neg h_41
           rw [e]
           exact T4 v _ hq)
  have T2 : ∀ (q : PT) (z : Option Value), okp n q → pop q = 0 → WA Γ zX12_part (xrm 46 0 0) 0 0 0 0 (rt (.int (pEi σ f n q).1) (MV μ a (Pσ σ (pIf σ f n (pSm (pEi σ f n q).2))))) 19 [some (.ref a.1), some (.int k), z] [] (MV μ a (Pσ σ q)) := by
    intro q z hq eq
    refine x_aload_n (pc := 19) dX12_part_19 rfl ?_
    refine m_getIv (pc := 20) (v := nI (pbd (q))) hM dX12_part_20 fk_12_181 (Or.inr rfl) (rfl) ?_
    refine x_if_eq (pc := 23) (tgt := 30) dX12_part_23 rfl (fun h_23 => ?_) (fun h_23 => ?_)
    · refine x_aload_n (pc := 30) dX12_part_30 rfl ?_
      refine x_callV (pc := 31) (As := []) dX12_part_31 mX12_either lk_12_233 hM.1 ((g_all hM hO NN).2.2.2.2.2 _ hq (by rw [eq, NN_eq]; decide)) rfl rfl (Nat.le_of_ble_eq_true rfl) ⟨by show NN + 4 + 1 ≤ 46; rw [NN_eq]; decide, by show 64 * (NN + 4 + 1) ≤ 64 * 46; rw [NN_eq]; decide⟩ ⟨Nat.zero_le _, Nat.zero_le _⟩ (k_rt ?_)
      refine x_istore_n (pc := 34) (lv2 := [_, _, _]) dX12_part_34 (by decide) rfl rfl ?_
      first
        | (have e : pEi σ f n q = pz σ f n NN 5 q := if_pos (b0 hq (by first | exact h_23 | exact Decidable.not_not.mp h_23))
           rw [e]
           exact T3 _ _ (pz_kp hO NN 5 q hq).1)
        | (have e : pEi σ f n q = (0, q) := if_neg (b1 h_23)
           rw [e]
           dsimp only
           exact T3 0 q hq)
    · refine x_iconst (pc := 26) (v := 0) dX12_part_26 rfl ?_
      refine x_goto (pc := 27) (tgt := 34) dX12_part_27 rfl ?_
      refine x_istore_n (pc := 34) (lv2 := [_, _, _]) dX12_part_34 (by decide) rfl rfl ?_
      first
        | (have e : pEi σ f n q = pz σ f n NN 5 q := if_pos (b0 hq (by first | exact h_23 | exact Decidable.not_not.mp h_23))
           rw [e]
           exact T3 _ _ (pz_kp hO NN 5 q hq).1)
        | (have e : pEi σ f n q = (0, q) := if_neg (b1 h_23)
           rw [e]
           dsimp only
           exact T3 0 q hq)
  have T1 : ∀ (q : PT) (z : Option Value), okp n q → pop q = 0 → WA Γ zX12_part (xrm 46 0 0) 0 0 0 0 (rt (.int (pEi σ f n (pIf σ f n q)).1) (MV μ a (Pσ σ (pIf σ f n (pSm (pEi σ f n (pIf σ f n q)).2))))) 8 [some (.ref a.1), some (.int k), z] [] (MV μ a (Pσ σ q)) := by
    intro q z hq eq
    refine x_aload_n (pc := 8) dX12_part_8 rfl ?_
    refine m_getIv (pc := 9) (v := nI (pbd (q))) hM dX12_part_9 fk_12_181 (Or.inr rfl) (rfl) ?_
    refine x_if_ne (pc := 12) (tgt := 19) dX12_part_12 rfl (fun h_12 => ?_) (fun h_12 => ?_)
    · first
        | (have e : pIf σ f n q = pN σ f n q := if_pos (b0 hq (by first | exact h_12 | exact Decidable.not_not.mp h_12))
           rw [e]
           exact T2 _ z (kp_N hO hq).1 ((kp_N hO hq).2.2.trans eq))
        | (have e : pIf σ f n q = q := if_neg (b1 h_12)
           rw [e]
           exact T2 q z hq eq)
    · refine x_aload_n (pc := 15) dX12_part_15 rfl ?_
      refine x_callV (pc := 16) (As := []) dX12_part_16 mX12_next lk_12_197 hM.1 (g_N hM hO hq) rfl rfl (Nat.le_of_ble_eq_true rfl) ⟨by decide, by decide⟩ ⟨Nat.zero_le _, Nat.zero_le _⟩ (k_rv ?_)
      first
        | (have e : pIf σ f n q = pN σ f n q := if_pos (b0 hq (by first | exact h_12 | exact Decidable.not_not.mp h_12))
           rw [e]
           exact T2 _ z (kp_N hO hq).1 ((kp_N hO hq).2.2.trans eq))
        | (have e : pIf σ f n q = q := if_neg (b1 h_12)
           rw [e]
           exact T2 q z hq eq)
  refine x_iload_n (pc := 0) dX12_part_0 rfl ?_
  refine x_if_ne (pc := 1) (tgt := 8) dX12_part_1 rfl (fun h_1 => ?_) (fun h_1 => ?_)
  · first
      | (rw [pPt, if_pos (by first | exact h_1 | exact Decidable.not_not.mp h_1)]
         dsimp only
         exact T1 _ _ (pF_ok h).1 h0)
      | (rw [pPt, if_neg h_1]
         dsimp only
         exact T1 _ _ h h0)
  · refine x_aload_n (pc := 4) dX12_part_4 rfl ?_
    refine x_callV (pc := 5) (As := []) dX12_part_5 mX12_fail lk_12_194 hM.1 (g_F hM h) rfl rfl (Nat.le_of_ble_eq_true rfl) ⟨by decide, by decide⟩ ⟨Nat.zero_le _, Nat.zero_le _⟩ (k_rv ?_)
    first
      | (rw [pPt, if_pos (by first | exact h_1 | exact Decidable.not_not.mp h_1)]
         dsimp only
         exact T1 _ _ (pF_ok h).1 h0)
      | (rw [pPt, if_neg h_1]
         dsimp only
         exact T1 _ _ h h0)
/-- the reference with a text at hand -/
def sB (σ : MS) (f : Nat) (n : Int32) : MS := tI (tI σ 22 (nI f)) 23 n
theorem PS_in {σ : MS} {tk ta ft : Nat} (h1 : σ.1 25 = nI tk) (h2 : σ.1 26 = nI ta) (h3 : σ.1 30 = nI ft) : tI (tI (tI σ 24 0) 28 0) 29 0 = PS σ 0 tk ta σ.2.1 0 0 ft := by
  unfold PS tI
  refine congrArg (fun z => (z, _)) (funext fun k => ?_)
  by_cases e1 : k = 24
  · simp [va_up, e1]; rfl
  by_cases e2 : k = 28
  · simp [va_up, e2]; rfl
  by_cases e3 : k = 29
  · simp [va_up, e3]; rfl
  by_cases e4 : k = 25
  · simp [va_up, e4, h1]
  by_cases e5 : k = 26
  · simp [va_up, e5, h2]
  by_cases e6 : k = 30
  · simp [va_up, e6, h3]
  simp [va_up, e1, e2, e3, e4, e5, e6]
theorem nI_any (x : Int32) : ∃ m : Nat, x = nI m := ⟨x.toBitVec.toNat, by
  apply Int32.toBitVec_inj.mp
  show x.toBitVec = BitVec.ofNat 32 x.toBitVec.toNat
  simp⟩
theorem okp_1 {σ : MS} {f n tk ta ft : Nat} {tw : Int64} (hO : rdO σ f n) : okp n (pN σ f n (0, tk, ta, tw, 0, 0, ft)) ∧ pop (pN σ f n (0, tk, ta, tw, 0, 0, ft)) = 0 := by
  have h := pN_ok (p := (0, 0, 0, tw, 0, 0, ft)) hO ⟨Nat.zero_le _, by show (0 : Nat) < 5; omega, Nat.zero_le _, by show (0 : Nat) ≤ 5; omega, by show (0 : Nat) < 2; omega, fun _ q => absurd rfl q, Nat.le_refl _⟩
  exact ⟨h.1, rfl⟩
theorem g_read {i n : Nat} {t : Int32} (x : Int32) (hM : MOK μ a) (hO : rdO (sB σ (160 * i) (nI n)) (160 * i) n) (ht : t = nI i) (hi : i < 6) (hn : σ.2.2 2 i = nI n) : XM Γ zX12_read 48 0 0 [.ref a.1, .int t, .int x] (MV μ a σ) (fun r μ2 => ∃ tk ta ft : Nat, r = some (.int (rdV (sB σ (160 * i) (nI n)) (160 * i) n (0, tk, ta, σ.2.1, 0, 0, ft) x)) ∧ μ2 = MV μ a (Pσ (sB σ (160 * i) (nI n)) (rdE (sB σ (160 * i) (nI n)) (160 * i) n (0, tk, ta, σ.2.1, 0, 0, ft)))) := by
  refine XM.of 3 rfl (by decide) (Nat.le_of_ble_eq_true rfl) ?_
  subst ht
  obtain ⟨tk, e1⟩ := nI_any (σ.1 25)
  obtain ⟨ta, e2⟩ := nI_any (σ.1 26)
  obtain ⟨ft, e3⟩ := nI_any (σ.1 30)
  have hE := PS_in (σ := sB σ (160 * i) (nI n)) (tk := tk) (ta := ta) (ft := ft) e1 e2 e3
  refine x_post (Q2 := rt (.int (rdV (sB σ (160 * i) (nI n)) (160 * i) n (0, tk, ta, σ.2.1, 0, 0, ft) x)) (MV μ a (Pσ (sB σ (160 * i) (nI n)) (rdE (sB σ (160 * i) (nI n)) (160 * i) n (0, tk, ta, σ.2.1, 0, 0, ft))))) (fun r μ2 h => ⟨tk, ta, ft, h.1, h.2⟩) ?_
  have k0 := okp_1 (tk := tk) (ta := ta) (ft := ft) (tw := σ.2.1) hO
  generalize hσ : sB σ (160 * i) (nI n) = s0 at hO hE k0
  generalize hp0 : ((0, tk, ta, σ.2.1, 0, 0, ft) : PT) = p0 at k0
  have hE2 : tI (tI (tI s0 24 0) 28 0) 29 0 = Pσ s0 p0 := by rw [hE, ← hp0, ← hσ]; rfl
  have hh : p0.1 ≤ n := by rw [← hp0]; exact Nat.zero_le _
  have k1 : kp n (pN s0 (160 * i) n p0) (rd1 s0 (160 * i) n p0).2 := by
    unfold rd1
    exact kp_Pt hO k0.1
  have o1 : pop (rd1 s0 (160 * i) n p0).2 = 0 := k1.2.2.trans k0.2
  have k2 : kp n (rd1 s0 (160 * i) n p0).2 (rd2 s0 (160 * i) n p0).2 := by
    unfold rd2
    split
    · exact kp_Pt hO k1.1
    · dsimp only
      exact kp.rf k1.1
  have o2 : pop (rd2 s0 (160 * i) n p0).2 = 0 := k2.2.2.trans o1
  have k3 : kp n (rd2 s0 (160 * i) n p0).2 (rd3 s0 (160 * i) n p0).2 := by
    unfold rd3
    split
    · exact kp_Pt hO k2.1
    · dsimp only
      exact kp.rf k2.1
  have T4 : WA Γ zX12_read (xrm 48 0 0) 0 0 0 0 (rt (.int (rdV s0 (160 * i) n p0 x)) (MV μ a (Pσ s0 (rdE s0 (160 * i) n p0)))) 145 [some (.ref a.1), some (.int (nI i)), some (.int x), some (.int (rd1 s0 (160 * i) n p0).1), some (.int (rd2 s0 (160 * i) n p0).1), some (.int (rd3 s0 (160 * i) n p0).1)] [] (MV μ a (Pσ s0 (rdE s0 (160 * i) n p0))) := by
    refine x_iload_n (pc := 145) dX12_read_145 rfl ?_
    refine x_if_ne (pc := 146) (tgt := 153) dX12_read_146 rfl (fun h_146 => ?_) (fun h_146 => ?_)
    · refine x_iload_n (pc := 153) dX12_read_153 rfl ?_
      refine x_iconst (pc := 154) (v := 1) dX12_read_154 rfl ?_
      refine x_icmp_ne (pc := 155) (tgt := 163) dX12_read_155 rfl (fun h_155 => ?_) (fun h_155 => ?_)
      · refine x_iload (pc := 163) dX12_read_163 rfl ?_
        refine x_ireturn (pc := 165) dX12_read_165 rfl rfl ?_
        rw [rdV]
        first
          | rw [if_pos (by first | exact h_146 | exact Decidable.not_not.mp h_146)]; exact ⟨rfl, rfl⟩
          | rw [if_neg h_146, if_pos (by first | exact h_155 | exact Decidable.not_not.mp h_155)]; exact ⟨rfl, rfl⟩
          | rw [if_neg h_146, if_neg h_155]; exact ⟨rfl, rfl⟩
      · refine x_iload (pc := 158) dX12_read_158 rfl ?_
        refine x_goto (pc := 160) (tgt := 165) dX12_read_160 rfl ?_
        refine x_ireturn (pc := 165) dX12_read_165 rfl rfl ?_
        rw [rdV]
        first
          | rw [if_pos (by first | exact h_146 | exact Decidable.not_not.mp h_146)]; exact ⟨rfl, rfl⟩
          | rw [if_neg h_146, if_pos (by first | exact h_155 | exact Decidable.not_not.mp h_155)]; exact ⟨rfl, rfl⟩
          | rw [if_neg h_146, if_neg h_155]; exact ⟨rfl, rfl⟩
    · refine x_iload_n (pc := 149) dX12_read_149 rfl ?_
      refine x_goto (pc := 150) (tgt := 165) dX12_read_150 rfl ?_
      refine x_ireturn (pc := 165) dX12_read_165 rfl rfl ?_
      rw [rdV]
      first
        | rw [if_pos (by first | exact h_146 | exact Decidable.not_not.mp h_146)]; exact ⟨rfl, rfl⟩
        | rw [if_neg h_146, if_pos (by first | exact h_155 | exact Decidable.not_not.mp h_155)]; exact ⟨rfl, rfl⟩
        | rw [if_neg h_146, if_neg h_155]; exact ⟨rfl, rfl⟩
  have T3 : WA Γ zX12_read (xrm 48 0 0) 0 0 0 0 (rt (.int (rdV s0 (160 * i) n p0 x)) (MV μ a (Pσ s0 (rdE s0 (160 * i) n p0)))) 127 [some (.ref a.1), some (.int (nI i)), some (.int x), some (.int (rd1 s0 (160 * i) n p0).1), some (.int (rd2 s0 (160 * i) n p0).1), some (.int (rd3 s0 (160 * i) n p0).1)] [] (MV μ a (Pσ s0 (rd3 s0 (160 * i) n p0).2)) := by
    refine x_aload_n (pc := 127) dX12_read_127 rfl ?_
    refine m_getIv (pc := 128) (v := nI (pbd ((rd3 s0 (160 * i) n p0).2))) hM dX12_read_128 fk_12_181 (Or.inr rfl) (rfl) ?_
    refine x_if_ne (pc := 131) (tgt := 145) dX12_read_131 rfl (fun h_131 => ?_) (fun h_131 => ?_)
    · first
        | (have e : rdE s0 (160 * i) n p0 = (rd3 s0 (160 * i) n p0).2 := if_neg (by first | exact fun z => h_131 (by rw [z.1]; rfl) | exact fun z => z.2 ((nI_eq (b := 0) (by have := k3.1.2.1; omega) (by omega)).mp h_138))
           rw [e] at T4 ⊢
           exact T4)
        | (have e : rdE s0 (160 * i) n p0 = pF (rd3 s0 (160 * i) n p0).2 := if_pos ⟨b0 k3.1 (by first | exact h_131 | exact Decidable.not_not.mp h_131), fun z => h_138 (by rw [z]; rfl)⟩
           rw [e] at T4 ⊢
           exact T4)
    · refine x_aload_n (pc := 134) dX12_read_134 rfl ?_
      refine m_getIv (pc := 135) (v := nI ((rd3 s0 (160 * i) n p0).2).2.1) hM dX12_read_135 fk_12_164 (Or.inl rfl) (rfl) ?_
      refine x_if_eq (pc := 138) (tgt := 145) dX12_read_138 rfl (fun h_138 => ?_) (fun h_138 => ?_)
      · first
          | (have e : rdE s0 (160 * i) n p0 = (rd3 s0 (160 * i) n p0).2 := if_neg (by first | exact fun z => h_131 (by rw [z.1]; rfl) | exact fun z => z.2 ((nI_eq (b := 0) (by have := k3.1.2.1; omega) (by omega)).mp h_138))
             rw [e] at T4 ⊢
             exact T4)
          | (have e : rdE s0 (160 * i) n p0 = pF (rd3 s0 (160 * i) n p0).2 := if_pos ⟨b0 k3.1 (by first | exact h_131 | exact Decidable.not_not.mp h_131), fun z => h_138 (by rw [z]; rfl)⟩
             rw [e] at T4 ⊢
             exact T4)
      · refine x_aload_n (pc := 141) dX12_read_141 rfl ?_
        refine x_callV (pc := 142) (As := []) dX12_read_142 mX12_fail lk_12_194 hM.1 (g_F hM k3.1) rfl rfl (Nat.le_of_ble_eq_true rfl) ⟨by decide, by decide⟩ ⟨Nat.zero_le _, Nat.zero_le _⟩ (k_rv ?_)
        first
          | (have e : rdE s0 (160 * i) n p0 = (rd3 s0 (160 * i) n p0).2 := if_neg (by first | exact fun z => h_131 (by rw [z.1]; rfl) | exact fun z => z.2 ((nI_eq (b := 0) (by have := k3.1.2.1; omega) (by omega)).mp h_138))
             rw [e] at T4 ⊢
             exact T4)
          | (have e : rdE s0 (160 * i) n p0 = pF (rd3 s0 (160 * i) n p0).2 := if_pos ⟨b0 k3.1 (by first | exact h_131 | exact Decidable.not_not.mp h_131), fun z => h_138 (by rw [z]; rfl)⟩
             rw [e] at T4 ⊢
             exact T4)
  have T2 : WA Γ zX12_read (xrm 48 0 0) 0 0 0 0 (rt (.int (rdV s0 (160 * i) n p0 x)) (MV μ a (Pσ s0 (rdE s0 (160 * i) n p0)))) 93 [some (.ref a.1), some (.int (nI i)), some (.int x), some (.int (rd1 s0 (160 * i) n p0).1), some (.int (rd2 s0 (160 * i) n p0).1), none] [] (MV μ a (Pσ s0 (rd2 s0 (160 * i) n p0).2)) := by
    refine x_aload_n (pc := 93) dX12_read_93 rfl ?_
    refine m_getIv (pc := 94) (v := nI (pbd ((rd2 s0 (160 * i) n p0).2))) hM dX12_read_94 fk_12_181 (Or.inr rfl) (rfl) ?_
    refine x_if_eq (pc := 97) (tgt := 104) dX12_read_97 rfl (fun h_97 => ?_) (fun h_97 => ?_)
    · refine x_aload_n (pc := 104) dX12_read_104 rfl ?_
      refine x_aload_n (pc := 105) dX12_read_105 rfl ?_
      refine x_bipush (pc := 106) (v := 109) dX12_read_106 rfl ?_
      refine x_bipush (pc := 108) (v := 105) dX12_read_108 rfl ?_
      refine x_bipush (pc := 110) (v := 110) dX12_read_110 rfl ?_
      refine x_bipush (pc := 112) (v := 100) dX12_read_112 rfl ?_
      refine x_bipush (pc := 114) (v := 115) dX12_read_114 rfl ?_
      refine x_iconst (pc := 116) (v := 0) dX12_read_116 rfl ?_
      refine x_iconst (pc := 117) (v := 0) dX12_read_117 rfl ?_
      refine x_iconst (pc := 118) (v := 0) dX12_read_118 rfl ?_
      refine x_callV (pc := 119) (As := [.int _, .int _, .int _, .int _, .int _, .int _, .int _, .int _]) dX12_read_119 mX12_isWord lk_12_200 hM.1 (g_W hM hO k2.1 _ _ _ _ _ _ _ _) rfl rfl (Nat.le_of_ble_eq_true rfl) ⟨by decide, by decide⟩ ⟨Nat.zero_le _, Nat.zero_le _⟩ (k_rt ?_)
      refine x_callV (pc := 122) (As := [.int _]) dX12_read_122 mX12_part lk_12_255 hM.1 (g_part hM hO k2.1 o2 _) rfl rfl (Nat.le_of_ble_eq_true rfl) ⟨by decide, by decide⟩ ⟨Nat.zero_le _, Nat.zero_le _⟩ (k_rt ?_)
      refine x_istore (pc := 125) (lv2 := [_, _, _, _, _, _]) dX12_read_125 (by decide) rfl rfl ?_
      first
        | (have e : (rd3 s0 (160 * i) n p0) = pPt s0 (160 * i) n (qW s0 (160 * i) n 109 105 110 100 115 0 0 0 (rd2 s0 (160 * i) n p0).2) (rd2 s0 (160 * i) n p0).2 := if_pos (b0 k2.1 (by first | exact h_97 | exact Decidable.not_not.mp h_97))
           rw [e] at T3
           (try dsimp only at T3)
           exact T3)
        | (have e : (rd3 s0 (160 * i) n p0) = (0, (rd2 s0 (160 * i) n p0).2) := if_neg (b1 h_97)
           rw [e] at T3
           (try dsimp only at T3)
           exact T3)
    · refine x_iconst (pc := 100) (v := 0) dX12_read_100 rfl ?_
      refine x_goto (pc := 101) (tgt := 125) dX12_read_101 rfl ?_
      refine x_istore (pc := 125) (lv2 := [_, _, _, _, _, _]) dX12_read_125 (by decide) rfl rfl ?_
      first
        | (have e : (rd3 s0 (160 * i) n p0) = pPt s0 (160 * i) n (qW s0 (160 * i) n 109 105 110 100 115 0 0 0 (rd2 s0 (160 * i) n p0).2) (rd2 s0 (160 * i) n p0).2 := if_pos (b0 k2.1 (by first | exact h_97 | exact Decidable.not_not.mp h_97))
           rw [e] at T3
           (try dsimp only at T3)
           exact T3)
        | (have e : (rd3 s0 (160 * i) n p0) = (0, (rd2 s0 (160 * i) n p0).2) := if_neg (b1 h_97)
           rw [e] at T3
           (try dsimp only at T3)
           exact T3)
  have T1 : WA Γ zX12_read (xrm 48 0 0) 0 0 0 0 (rt (.int (rdV s0 (160 * i) n p0 x)) (MV μ a (Pσ s0 (rdE s0 (160 * i) n p0)))) 60 [some (.ref a.1), some (.int (nI i)), some (.int x), some (.int (rd1 s0 (160 * i) n p0).1), none, none] [] (MV μ a (Pσ s0 (rd1 s0 (160 * i) n p0).2)) := by
    refine x_aload_n (pc := 60) dX12_read_60 rfl ?_
    refine m_getIv (pc := 61) (v := nI (pbd ((rd1 s0 (160 * i) n p0).2))) hM dX12_read_61 fk_12_181 (Or.inr rfl) (rfl) ?_
    refine x_if_eq (pc := 64) (tgt := 71) dX12_read_64 rfl (fun h_64 => ?_) (fun h_64 => ?_)
    · refine x_aload_n (pc := 71) dX12_read_71 rfl ?_
      refine x_aload_n (pc := 72) dX12_read_72 rfl ?_
      refine x_bipush (pc := 73) (v := 117) dX12_read_73 rfl ?_
      refine x_bipush (pc := 75) (v := 103) dX12_read_75 rfl ?_
      refine x_bipush (pc := 77) (v := 108) dX12_read_77 rfl ?_
      refine x_bipush (pc := 79) (v := 121) dX12_read_79 rfl ?_
      refine x_iconst (pc := 81) (v := 0) dX12_read_81 rfl ?_
      refine x_iconst (pc := 82) (v := 0) dX12_read_82 rfl ?_
      refine x_iconst (pc := 83) (v := 0) dX12_read_83 rfl ?_
      refine x_iconst (pc := 84) (v := 0) dX12_read_84 rfl ?_
      refine x_callV (pc := 85) (As := [.int _, .int _, .int _, .int _, .int _, .int _, .int _, .int _]) dX12_read_85 mX12_isWord lk_12_200 hM.1 (g_W hM hO k1.1 _ _ _ _ _ _ _ _) rfl rfl (Nat.le_of_ble_eq_true rfl) ⟨by decide, by decide⟩ ⟨Nat.zero_le _, Nat.zero_le _⟩ (k_rt ?_)
      refine x_callV (pc := 88) (As := [.int _]) dX12_read_88 mX12_part lk_12_255 hM.1 (g_part hM hO k1.1 o1 _) rfl rfl (Nat.le_of_ble_eq_true rfl) ⟨by decide, by decide⟩ ⟨Nat.zero_le _, Nat.zero_le _⟩ (k_rt ?_)
      refine x_istore (pc := 91) (lv2 := [_, _, _, _, _, _]) dX12_read_91 (by decide) rfl rfl ?_
      first
        | (have e : (rd2 s0 (160 * i) n p0) = pPt s0 (160 * i) n (qW s0 (160 * i) n 117 103 108 121 0 0 0 0 (rd1 s0 (160 * i) n p0).2) (rd1 s0 (160 * i) n p0).2 := if_pos (b0 k1.1 (by first | exact h_64 | exact Decidable.not_not.mp h_64))
           rw [e] at T2
           (try dsimp only at T2)
           exact T2)
        | (have e : (rd2 s0 (160 * i) n p0) = (0, (rd1 s0 (160 * i) n p0).2) := if_neg (b1 h_64)
           rw [e] at T2
           (try dsimp only at T2)
           exact T2)
    · refine x_iconst (pc := 67) (v := 0) dX12_read_67 rfl ?_
      refine x_goto (pc := 68) (tgt := 91) dX12_read_68 rfl ?_
      refine x_istore (pc := 91) (lv2 := [_, _, _, _, _, _]) dX12_read_91 (by decide) rfl rfl ?_
      first
        | (have e : (rd2 s0 (160 * i) n p0) = pPt s0 (160 * i) n (qW s0 (160 * i) n 117 103 108 121 0 0 0 0 (rd1 s0 (160 * i) n p0).2) (rd1 s0 (160 * i) n p0).2 := if_pos (b0 k1.1 (by first | exact h_64 | exact Decidable.not_not.mp h_64))
           rw [e] at T2
           (try dsimp only at T2)
           exact T2)
        | (have e : (rd2 s0 (160 * i) n p0) = (0, (rd1 s0 (160 * i) n p0).2) := if_neg (b1 h_64)
           rw [e] at T2
           (try dsimp only at T2)
           exact T2)
  have eB : tI (tI σ 22 (nI (160 * i))) 23 (nI n) = s0 := hσ
  refine x_aload_n (pc := 0) dX12_read_0 rfl ?_
  refine x_sipush (pc := 1) (v := 160) dX12_read_1 rfl ?_
  refine x_iload_n (pc := 4) dX12_read_4 rfl ?_
  refine x_imul (pc := 5) dX12_read_5 ?_
  rw [show (160 : Int32) = nI 160 from rfl, pk_mul]
  refine m_putI (pc := 6) hM dX12_read_6 fk_12_151 rfl (Or.inl rfl) ?_
  refine x_aload_n (pc := 9) dX12_read_9 rfl ?_
  refine x_aload_n (pc := 10) dX12_read_10 rfl ?_
  refine m_getR (pc := 11) hM dX12_read_11 fk_12_17 (Or.inr ⟨_, rfl⟩) (Or.inl (by decide)) ?_
  refine x_iload_n (pc := 14) dX12_read_14 rfl ?_
  refine m_iald (pc := 15) hM dX12_read_15 (rfl) (hi) ?_
  refine m_putI (pc := 16) hM dX12_read_16 fk_12_148 rfl (Or.inl rfl) ?_
  rw [show (tI σ 22 (nI (160 * i))).2.2 2 i = nI n from hn, eB]
  refine x_aload_n (pc := 19) dX12_read_19 rfl ?_
  refine x_iconst (pc := 20) (v := 0) dX12_read_20 rfl ?_
  refine m_putI (pc := 21) hM dX12_read_21 fk_12_154 rfl (Or.inl rfl) ?_
  refine x_aload_n (pc := 24) dX12_read_24 rfl ?_
  refine x_iconst (pc := 25) (v := 0) dX12_read_25 rfl ?_
  refine m_putI (pc := 26) hM dX12_read_26 fk_12_191 rfl (Or.inl rfl) ?_
  refine x_aload_n (pc := 29) dX12_read_29 rfl ?_
  refine x_iconst (pc := 30) (v := 0) dX12_read_30 rfl ?_
  refine m_putI (pc := 31) hM dX12_read_31 fk_12_181 rfl (Or.inr ⟨rfl, Or.inl rfl⟩) ?_
  rw [hE2]
  refine x_aload_n (pc := 34) dX12_read_34 rfl ?_
  refine x_callV (pc := 35) (As := []) dX12_read_35 mX12_next lk_12_197 hM.1 (c_next hM hO hh) rfl rfl (Nat.le_of_ble_eq_true rfl) ⟨by decide, by decide⟩ ⟨Nat.zero_le _, Nat.zero_le _⟩ (k_rv ?_)
  refine x_aload_n (pc := 38) dX12_read_38 rfl ?_
  refine x_aload_n (pc := 39) dX12_read_39 rfl ?_
  refine x_bipush (pc := 40) (v := 109) dX12_read_40 rfl ?_
  refine x_bipush (pc := 42) (v := 111) dX12_read_42 rfl ?_
  refine x_bipush (pc := 44) (v := 118) dX12_read_44 rfl ?_
  refine x_bipush (pc := 46) (v := 101) dX12_read_46 rfl ?_
  refine x_bipush (pc := 48) (v := 115) dX12_read_48 rfl ?_
  refine x_iconst (pc := 50) (v := 0) dX12_read_50 rfl ?_
  refine x_iconst (pc := 51) (v := 0) dX12_read_51 rfl ?_
  refine x_iconst (pc := 52) (v := 0) dX12_read_52 rfl ?_
  refine x_callV (pc := 53) (As := [.int _, .int _, .int _, .int _, .int _, .int _, .int _, .int _]) dX12_read_53 mX12_isWord lk_12_200 hM.1 (g_W hM hO k0.1 _ _ _ _ _ _ _ _) rfl rfl (Nat.le_of_ble_eq_true rfl) ⟨by decide, by decide⟩ ⟨Nat.zero_le _, Nat.zero_le _⟩ (k_rt ?_)
  refine x_callV (pc := 56) (As := [.int _]) dX12_read_56 mX12_part lk_12_255 hM.1 (g_part hM hO k0.1 k0.2 _) rfl rfl (Nat.le_of_ble_eq_true rfl) ⟨by decide, by decide⟩ ⟨Nat.zero_le _, Nat.zero_le _⟩ (k_rt ?_)
  refine x_istore_n (pc := 59) (lv2 := [_, _, _, _, _, _]) dX12_read_59 (by decide) rfl rfl ?_
  unfold rd1 at T1
  exact T1
end M42
