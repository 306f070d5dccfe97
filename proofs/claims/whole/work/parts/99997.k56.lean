/-! the class: a new PutOut, the whole -/
def σT : MS := (fun k => if k = 23 then 36 else 0, σS.2)
def CV2 (κ : KS) : Prop := HV0 κ 1 ∧ (∀ t, t < 5 → TV0 κ (15 + t) 0 (nI t) 0 0) ∧ κ.2 3 6 0 = 0 ∧ κ.1 0 3 = 0
noncomputable def cT : CT := cX σS 0 36 (-23) (rc σS 0 36 cS 3)
def poV (κ : KS) : Prop := CV2 κ ∧ (∀ i, i < 4 → κ.1 (5 + i) 0 = -1 ∧ κ.1 (5 + i) 1 = 0 ∧ ∀ j, κ.2 (5 + i) 2 j = 0) ∧ κ.1 0 6 = 1 ∧ (∀ j, j < 8 → κ.2 9 0 j = cT.2.2.2.2.2.2 j) ∧ ∀ i, i < 3 → κ.2 9 1 i = nI (rs σS 0 36 cS i)
def poQ (q0 : Nat) : Option Value → Mem → Prop := fun r M => r = none ∧ ∃ (μ : Mem) (b : Kb) (κ : KS), M = KV μ b κ ∧ CI μ b (fun _ => 0) false 4 1 (fun _ => 8) ∧ adO b 0 = q0 ∧ poV κ
section M99997
variable {Γ : Gm} {μ μ2 M : Mem} {b b2 : Kb} {κ κ2 : KS} {q0 : Nat}
theorem σT_0 : bA σT 0 36 = bA σS 0 36 := rfl
theorem σT_c : ∀ i, i < 36 → ∃ c, c < 256 ∧ σT.2.2 1 (0 + i) = nI c ∧ sBt 0 i = σT.2.2 1 (0 + i) := by decide +kernel
theorem σT_O : rdO σT 0 36 := ⟨rfl, rfl, by decide, by decide, fun i hi => by
  obtain ⟨c, h1, h2, -⟩ := σT_c i hi
  exact ⟨c, h1, h2⟩⟩
theorem cT_8 : cT.2.2.2.2.2.1 = 8 := by
  unfold cT
  rw [cD_rc]
  exact tS_40.2.2.2
theorem rK_cS (h : RV κ) : κ = rK κ cS := by
  obtain ⟨h1, h2, h3, h4, h5, h6, h7⟩ := h
  refine Prod.ext (funext fun a => funext fun k => ?_) (funext fun a => funext fun k => ?_)
  · show κ.1 a k = if a = 4 then (if k = 2 then nI 0 else if k = 3 then nI 0 else if k = 4 then -24 else if k = 5 then 0 else if k = 6 then -1 else if k = 8 then nI 0 else κ.1 a k) else κ.1 a k
    by_cases ha : a = 4
    · rw [if_pos ha, ha]
      by_cases k2 : k = 2
      · rw [if_pos k2, k2, h1]; rfl
      rw [if_neg k2]
      by_cases k3 : k = 3
      · rw [if_pos k3, k3, h2]; rfl
      rw [if_neg k3]
      by_cases k4 : k = 4
      · rw [if_pos k4, k4, h3]
      rw [if_neg k4]
      by_cases k5 : k = 5
      · rw [if_pos k5, k5, h4]
      rw [if_neg k5]
      by_cases k6 : k = 6
      · rw [if_pos k6, k6, h5]
      rw [if_neg k6]
      by_cases k8 : k = 8
      · rw [if_pos k8, k8, h6]; rfl
      rw [if_neg k8]
    · rw [if_neg ha]
  · show κ.2 a k = if a = 4 ∧ k = 7 then (fun _ => 0) else κ.2 a k
    by_cases ha : a = 4 ∧ k = 7
    · rw [if_pos ha, ha.1, ha.2]
      exact funext h7
    · rw [if_neg ha]
theorem k_po_5 (h : poI 4 M b κ q0) {κr : KS} (q1 : kq (thP 4) κ2 (rK κr cT)) (q2 : ∀ i, i < 3 → (rK κr cT).2 4 9 i = nI (rs σS 0 36 cS i)) (hκ : kq (fun a k => a = 0 ∧ k = 2) κ κ2) : WA Γ zX11_init (xrm 92 74 2848) 74 2848 70 2825 (poQ (adO b 0)) 150 [some (.ref (adO b 0)), some (.int (nI 36))] [] (KV (thR4 M b) b (rK κr cT)) := by
  obtain ⟨hk, hC, ad, cv, hsh⟩ := h
  have k1 : ∀ a, a ≠ 0 → κ2.1 a = κ.1 a := fun a ha => funext fun k => (hκ a k (fun z => ha z.1)).1
  have k2 : ∀ a, a ≠ 0 → κ2.2 a = κ.2 a := fun a ha => funext fun k => (hκ a k (fun z => ha z.1)).2
  have hC4 := CI_t4 hC
  have hC4' := hC4
  obtain ⟨f1, ⟨d1, d2, d3, d4, d5, d6, d7⟩, -, -, -, -, f4, fs, -⟩ := hC4'
  have hmk := k_made (Γ := Γ) (κ := κr) (c := cT) f4 (by rw [cT_8]; decide)
  rw [cT_8] at hmk
  refine x_aload_n (pc := 150) dX11_init_150 rfl ?_
  refine k_getR (pc := 151) d1 dX11_init_151 fk_11_36 (Or.inr ⟨_, rfl⟩) d5 ?_
  refine x_iconst (pc := 154) (v := 0) dX11_init_154 rfl ?_
  refine x_aload_n (pc := 155) dX11_init_155 rfl ?_
  refine k_getR (pc := 156) d1 dX11_init_156 fk_11_30 (Or.inl ⟨_, rfl⟩) d3 ?_
  refine x_callV (pc := 159) (As := []) dX11_init_159 mX6_made lk_11_73 f4.2.2.1 hmk rfl rfl (Nat.le_of_ble_eq_true rfl) ⟨by decide, by decide⟩ ⟨Nat.le_of_ble_eq_true rfl, Nat.le_of_ble_eq_true rfl⟩ (fun r μ2 hr => ?_)
  obtain ⟨q, rfl, hq, hX⟩ := hr
  obtain ⟨b2, κ3, e1, e2, e3, -, e5, e6, e7, e8, e9⟩ := TX_reg (o := 9) hX hq f1 (by decide)
  obtain ⟨g1, g2, g3, g4, g5, g6, g7, -, g9⟩ := CI_RX (f := 5) (t := 5) (n := 6) (j := 0) (q := q) (tn2 := fun _ => 8) hC4 e3 e2 e1 (by decide) (Or.inl ⟨rfl, rfl, rfl⟩)
  have hT : mT μ2 q = (1, 8) := by
    rw [← e5]
    exact e6.2.2.1
  refine x_aast (pc := 162) (k := 1) (n := 6) (ci := 8) (i := 0) dX11_init_162 (by decide) g9 hT (by decide) (Or.inl rfl) rfl (by decide) (by decide) ?_
  have hCe : CI (sX μ2 (adR b 0 5) 0 (some q)) b2 (fun _ => 0) false 4 1 (fun _ => 8) := by
    refine CI_put g3 (fun i hi => ?_) (fun i hi => ?_)
    · obtain ⟨s1, s2⟩ := fs i hi
      refine ⟨?_, g4 _ _ _ (by omega) (by omega) (by omega) s2⟩
      rw [g7 7 (Or.inr rfl) (by decide) i, s1, (g5 (5 + i) (by omega) (by omega)).1]
    · obtain rfl : i = 0 := by omega
      refine ⟨?_, e6⟩
      rw [g6 0, if_pos rfl, e5]
  have ad2 : adO b2 0 = adO b 0 := (g5 0 (by decide) (by decide)).1
  refine x_aload_n (pc := 163) dX11_init_163 rfl ?_
  refine x_iconst (pc := 164) (v := 1) dX11_init_164 rfl ?_
  rw [← g1, ← ad2]
  refine k_putI (pc := 165) hCe.2.1.1 dX11_init_165 fk_11_40 (Or.inl rfl) (Or.inl rfl) ?_
  refine x_return (pc := 168) dX11_init_168 rfl ?_
  have w1 : ∀ a, a < 25 → a ≠ 9 → a ≠ 4 → a ≠ 0 → κ3.1 a = κ.1 a ∧ κ3.2 a = κ.2 a := fun a h h9 h4 h0 => by
    refine ⟨((g5 a h h9).2.1).trans ?_, ((g5 a h h9).2.2).trans ?_⟩
    · rw [← k1 a h0]
      exact funext fun k => (q1 a k h4).1
    · rw [← k2 a h0]
      exact funext fun k => (q1 a k h4).2
  refine ⟨rfl, _, b2, _, rfl, hCe, rfl, ⟨?_, fun t ht => ?_, ?_, ?_⟩, fun i hi => ?_, ?_, fun j hj => ?_, fun i hi => ?_⟩
  · unfold HV0
    rw [kI_2, kI_n (Or.inl (by decide)), kI_n (Or.inl (by decide)), (w1 1 (by decide) (by decide) (by decide) (by decide)).1, (w1 1 (by decide) (by decide) (by decide) (by decide)).2]
    exact cv.1
  · unfold TV0
    rw [kI_n (Or.inl (by omega)), kI_n (Or.inl (by omega)), kI_n (Or.inl (by omega)), kI_n (Or.inl (by omega)), kI_n (Or.inl (by omega)), kI_n (Or.inl (by omega)), (w1 (15 + t) (by omega) (by omega) (by omega) (by omega)).1]
    exact cv.2.1 t ht
  · rw [kI_2, (w1 3 (by decide) (by decide) (by decide) (by decide)).2]
    exact cv.2.2.1
  · rw [kI_n (Or.inr (by decide)), (g5 0 (by decide) (by decide)).2.1, (q1 0 3 (by show ¬ (0 : Nat) = 4; decide)).1, (hκ 0 3 (fun z => absurd z.2 (by decide))).1]
    exact cv.2.2.2.1
  · rw [kI_n (Or.inl (by omega)), kI_n (Or.inl (by omega)), kI_2, (w1 (5 + i) (by omega) (by omega) (by omega) (by omega)).1, (w1 (5 + i) (by omega) (by omega) (by omega) (by omega)).2]
    exact hsh i hi
  · exact kI_s
  · rw [kI_2]
    exact e8 j hj
  · rw [kI_2, e9 i hi]
    exact q2 i hi
theorem k_po_4 (h : poI 4 M b κ q0) (hκ : kq (fun a k => a = 0 ∧ k = 2) κ κ2) (ht : ∀ i, i < 36 → κ2.2 0 2 i = sBt 0 i) (hV : KV M b κ2 = μ) : WA Γ zX11_init (xrm 92 74 2848) 74 2848 70 2825 (poQ q0) 133 [some (.ref q0), some (.int (nI 36))] [] μ := by
  have h0 := h
  obtain ⟨hk, hC, ad, cv, hsh⟩ := h
  have hC' := hC
  obtain ⟨h1, ⟨c1, c2, c3, c4, c5, c6, c7⟩, ⟨r5, r7⟩, -, -, -, h4, -, -⟩ := hC'
  have k1 : ∀ a, a ≠ 0 → κ2.1 a = κ.1 a := fun a ha => funext fun k => (hκ a k (fun z => ha z.1)).1
  have k2 : ∀ a, a ≠ 0 → κ2.2 a = κ.2 a := fun a ha => funext fun k => (hκ a k (fun z => ha z.1)).2
  have hRV : RV κ2 := by
    unfold RV
    rw [k1 4 (by decide), k2 4 (by decide)]
    exact cv.2.2.2.2
  have hrd := k_readK (Γ := Γ) (σ := σT) (f := 0) (n := 36) h4 c1 σT_O (fun i hi => by
    obtain ⟨c, -, -, e⟩ := σT_c i hi
    rw [ht i hi, e]) (rK_cS hRV)
  rw [cX_cg σT_0, rc_cg σT_0, show cX σS 0 36 (-23) (rc σS 0 36 cS 3) = cT from rfl] at hrd
  subst hV
  rw [← ad]
  refine x_aload_n (pc := 133) dX11_init_133 rfl ?_
  refine k_getR (pc := 134) c1 dX11_init_134 fk_11_30 (Or.inl ⟨_, rfl⟩) c3 ?_
  refine x_aload_n (pc := 137) dX11_init_137 rfl ?_
  refine k_getA (pc := 138) c1 dX11_init_138 fk_11_19 (Or.inr ⟨_, rfl⟩) (by decide) ?_
  refine x_ldcS (pc := 141) (n := 0) dX11_init_141 (by decide) rfl rfl ?_
  refine x_callG (pc := 143) (As := []) dX11_init_143 mJ0_length_8abf5 lg_11_59 (by decide) (c_length (by decide)) rfl rfl (Nat.le_of_ble_eq_true rfl) ⟨by decide, by decide⟩ ⟨Nat.le_of_ble_eq_true rfl, Nat.le_of_ble_eq_true rfl⟩ (k_rt ?_)
  refine x_callV (pc := 146) (As := [.ref _, .int _]) dX11_init_146 mX6_read lk_11_69 h4.2.2.1 hrd rfl rfl (Nat.le_of_ble_eq_true rfl) ⟨by decide, by decide⟩ ⟨Nat.le_of_ble_eq_true rfl, Nat.le_of_ble_eq_true rfl⟩ (k_rt ?_)
  refine x_pop (pc := 149) dX11_init_149 rfl ?_
  obtain ⟨q1, q2⟩ := rdK_kq (κ := κ2) (σ := σT) (f := 0) (n := 36) (c := cS) (d := cT)
  have q2' : ∀ i, i < 3 → (rK (rdK κ2 σT 0 36 cS) cT).2 4 9 i = nI (rs σS 0 36 cS i) := fun i hi => by
    rw [← rs_cg σT_0]
    exact q2 i hi
  exact k_po_5 h0 q1 q2' hκ
theorem k_po_3 (h : poI 4 M b κ q0) : ∀ (m j : Nat), j + m = 36 → WA Γ zX11_init (xrm 92 74 2848) 74 2848 70 2825 (poQ q0) 106 [some (.ref q0), some (.int (nI j))] [] (KV M b (kS κ 0 2 (pre (sBt 0) (κ.2 0 2) j))) := by
  have hC := h.2.1
  obtain ⟨h1, ⟨c1, c2, c3, c4, c5, c6, c7⟩, -, -, -, -, h4, -, -⟩ := hC
  have ad := h.2.2.1
  intro m
  induction m with
  | zero =>
    intro j hj
    obtain rfl : j = 36 := by omega
    refine x_iload_n (pc := 106) dX11_init_106 rfl ?_
    refine x_ldcS (pc := 107) (n := 0) dX11_init_107 (by decide) rfl rfl ?_
    refine x_callG (pc := 109) (As := []) dX11_init_109 mJ0_length_8abf5 lg_11_59 (by decide) (c_length (by decide)) rfl rfl (Nat.le_of_ble_eq_true rfl) ⟨by decide, by decide⟩ ⟨Nat.le_of_ble_eq_true rfl, Nat.le_of_ble_eq_true rfl⟩ (k_rt ?_)
    refine x_icmp_ge (pc := 112) (tgt := 133) dX11_init_112 rfl (fun h_112 => ?_) (fun h_112 => absurd (by decide) h_112)
    exact k_po_4 h (kq.S kq.rf ⟨rfl, rfl⟩) (fun i hi => by rw [kS_s, pre_lt hi]) rfl
  | succ m ih =>
    intro j hj
    refine x_iload_n (pc := 106) dX11_init_106 rfl ?_
    refine x_ldcS (pc := 107) (n := 0) dX11_init_107 (by decide) rfl rfl ?_
    refine x_callG (pc := 109) (As := []) dX11_init_109 mJ0_length_8abf5 lg_11_59 (by decide) (c_length (by decide)) rfl rfl (Nat.le_of_ble_eq_true rfl) ⟨by decide, by decide⟩ ⟨Nat.le_of_ble_eq_true rfl, Nat.le_of_ble_eq_true rfl⟩ (k_rt ?_)
    refine x_icmp_ge (pc := 112) (tgt := 133) dX11_init_112 rfl (fun h_112 => absurd h_112 (lit_le (n := 36) j (by omega) (by decide))) (fun h_112 => ?_)
    rw [← ad]
    refine x_aload_n (pc := 115) dX11_init_115 rfl ?_
    refine k_getA (pc := 116) c1 dX11_init_116 fk_11_19 (Or.inr ⟨_, rfl⟩) (by decide) ?_
    refine x_iload_n (pc := 119) dX11_init_119 rfl ?_
    refine x_ldcS (pc := 120) (n := 0) dX11_init_120 (by decide) rfl rfl ?_
    refine x_iload_n (pc := 122) dX11_init_122 rfl ?_
    refine x_callG (pc := 123) (As := [.int _]) dX11_init_123 mJ0_charAt_5068e lg_11_65 (by decide) (c_charAt (i := 0) (by decide) (show j < sLn 0 by show j < 36; omega)) rfl rfl (Nat.le_of_ble_eq_true rfl) ⟨by decide, by decide⟩ ⟨Nat.le_of_ble_eq_true rfl, Nat.le_of_ble_eq_true rfl⟩ (k_rt ?_)
    refine k_iast (pc := 126) c1 dX11_init_126 rfl (by show j < 160; omega) (by decide) ?_
    rw [kS_A, pre_s (E := sBt 0)]
    refine x_iinc (pc := 127) (lv2 := [_, _]) dX11_init_127 (by decide) rfl rfl (nI_1 _) rfl ?_
    refine x_goto (pc := 130) (tgt := 106) dX11_init_130 rfl ?_
    rw [ad]
    exact ih (j + 1) (by omega)
theorem k_poInit : XM Γ zX11_init 92 74 2848 [.ref q0] (nw μ q0 1 11) (poQ q0) := by
  refine k_po_1 (fun M b κ h => ?_)
  refine x_iconst (pc := 78) (v := 0) dX11_init_78 rfl ?_
  refine x_istore_n (pc := 79) (lv2 := [_, _]) dX11_init_79 (by decide) rfl rfl ?_
  refine k_po_2 (fun M b κ h => ?_) 4 0 M b κ rfl h
  refine x_iconst (pc := 104) (v := 0) dX11_init_104 rfl ?_
  refine x_istore_n (pc := 105) (lv2 := [_, _]) dX11_init_105 (by decide) rfl rfl ?_
  have hh := k_po_3 (Γ := Γ) h 36 0 rfl
  rw [pre_0, kS_0 rfl, h.1] at hh
  exact hh
end M99997
