/-! the reference: its making -/
def mL : List (Nat × Nat × Nat) := [(1, 2, 960), (2, 2, 6), (5, 2, 160), (7, 2, 6), (8, 2, 4), (9, 2, 7), (10, 2, 5), (11, 2, 5), (12, 2, 5), (13, 2, 5), (14, 2, 5), (31, 2, 35), (32, 2, 35), (33, 2, 25), (34, 2, 35), (36, 2, 5), (37, 2, 5), (41, 2, 5), (46, 2, 7), (47, 2, 5), (48, 2, 17), (49, 2, 20), (52, 3, 4), (53, 2, 4), (54, 2, 4), (55, 2, 160)]
theorem mL_ok : ∀ x ∈ mL, x.1 < 56 ∧ ((x.1 = 52 ∧ x.2.1 = 3 ∧ x.2.2 = 4) ∨ (mLen x.1 = x.2.2 ∧ x.2.1 = 2 ∧ x.2.2 ≠ 0)) := by decide +kernel
theorem mL_all : ∀ k, k < 56 → mLen k ≠ 0 → (k, 2, mLen k) ∈ mL := by decide +kernel
theorem mL_52 : (52, 3, 4) ∈ mL := by decide +kernel
theorem mLen56 {k : Nat} (h : mLen k ≠ 0) : k < 56 := by
  rcases Nat.lt_or_ge k 56 with h2 | h2
  · exact h2
  · exact absurd (by unfold mLen; split <;> first | omega | rfl) h
def aOf (q0 : Nat) (L : AL) : Ma := (q0, fun k => ((L.find? (fun x => x.1 == k)).map (fun x => x.2.1)).getD 0, fun q => ((L.find? (fun x => x.2.1 == q)).map (fun x => x.1)).getD 99)
theorem aOf_f {μ0 μ : Mem} {q0 ci : Nat} {g : Nat → Int32} {L : AL} (I : AI μ0 μ q0 ci g L) {x : Nat × Nat × Nat × Nat} (hx : x ∈ L) (hf : ∀ y ∈ L, y.1 = x.1 → y = x) : (aOf q0 L).2.1 x.1 = x.2.1 ∧ (aOf q0 L).2.2 x.2.1 = x.1 := by
  constructor
  · show ((L.find? (fun y => y.1 == x.1)).map (fun y => y.2.1)).getD 0 = x.2.1
    cases h : L.find? (fun y => y.1 == x.1) with
    | none =>
      have := List.find?_eq_none.mp h x hx
      simp at this
    | some y =>
      have h1 := List.mem_of_find?_eq_some h
      have h2 := List.find?_some h
      rw [hf y h1 (by simpa using h2)]
      rfl
  · show ((L.find? (fun y => y.2.1 == x.2.1)).map (fun y => y.1)).getD 99 = x.1
    cases h : L.find? (fun y => y.2.1 == x.2.1) with
    | none =>
      have := List.find?_eq_none.mp h x hx
      simp at this
    | some y =>
      have h1 := List.mem_of_find?_eq_some h
      have h2 := List.find?_some h
      have := I.2.2.2.2.1 y h1 x hx (by simpa using h2)
      show y.1 = x.1
      exact this
theorem aOf_i {q0 : Nat} {L : AL} {q : Nat} (h : (aOf q0 L).2.2 q < 56) : ∃ x ∈ L, x.2.1 = q ∧ (aOf q0 L).2.2 q = x.1 := by
  have h' : ((L.find? (fun y => y.2.1 == q)).map (fun y => y.1)).getD 99 < 56 := h
  cases hc : L.find? (fun y => y.2.1 == q) with
  | none => rw [hc] at h'; exact absurd h' (by decide)
  | some y =>
    have h1 := List.mem_of_find?_eq_some hc
    have h2 := List.find?_some hc
    refine ⟨y, h1, by simpa using h2, ?_⟩
    show ((L.find? (fun y => y.2.1 == q)).map (fun y => y.1)).getD 99 = y.1
    rw [hc]
    rfl
def σZ (g : Nat → Int32) : MS := (g, 0, fun _ _ => 0)
theorem mk_MOK {μ0 μ : Mem} {q0 : Nat} {g : Nat → Int32} {L : AL} (I : AI μ0 μ q0 12 g L) (hL : L.map (fun x => (x.1, x.2.2.1, x.2.2.2)) = mL) : MOK μ (aOf q0 L) ∧ μ = MV μ (aOf q0 L) (σZ g) ∧ ∀ q, (aOf q0 L).2.2 q < 56 → (mT μ0 q).1 = 0 ∧ q ≠ q0 := by
  have hnd : ∀ x ∈ L, ∀ y ∈ L, y.1 = x.1 → y = x := by
    intro x hx y hy e
    have hn : (L.map (fun x => x.1)).Nodup := by
      have : L.map (fun x => x.1) = mL.map (fun x => x.1) := by rw [← hL, List.map_map]; rfl
      rw [this]
      decide +kernel
    have key : ∀ (L : AL), (L.map (fun x => x.1)).Nodup → ∀ x ∈ L, ∀ y ∈ L, y.1 = x.1 → y = x := by
      intro L
      induction L with
      | nil => exact fun _ x hx => absurd hx List.not_mem_nil
      | cons z L ih =>
        intro hn x hx y hy e
        obtain ⟨n1, n2⟩ := List.nodup_cons.mp hn
        rcases List.mem_cons.mp hx with hx1 | hx1
        · rcases List.mem_cons.mp hy with hy1 | hy1
          · rw [hx1, hy1]
          · exact absurd (List.mem_map.mpr ⟨y, hy1, by rw [e, hx1]⟩) n1
        · rcases List.mem_cons.mp hy with hy1 | hy1
          · exact absurd (List.mem_map.mpr ⟨x, hx1, by rw [← e, hy1]⟩) n1
          · exact ih n2 x hx1 y hy1 e
    exact key L hn x hx y hy e
  have hin : ∀ k t n, (k, t, n) ∈ mL → ∃ x ∈ L, x.1 = k ∧ x.2.2.1 = t ∧ x.2.2.2 = n := by
    intro k t n h
    rw [← hL] at h
    obtain ⟨x, hx, e⟩ := List.mem_map.mp h
    injection e with e1 e2
    injection e2 with e2 e3
    exact ⟨x, hx, e1, e2, e3⟩
  have hto : ∀ x ∈ L, (x.1, x.2.2.1, x.2.2.2) ∈ mL := fun x hx => by rw [← hL]; exact List.mem_map.mpr ⟨x, hx, rfl⟩
  have I2 := I
  obtain ⟨h1, h2, h3, h4, h5, h6⟩ := I2
  refine ⟨⟨h1, fun k hk => ?_, ?_, fun q hq => ?_⟩, ?_, fun q hq => ?_⟩
  · obtain ⟨x, hx, rfl, e2, e3⟩ := hin k 2 (mLen k) (mL_all k (mLen56 hk) hk)
    obtain ⟨f1, f2⟩ := aOf_f I hx (hnd x hx)
    obtain ⟨y1, y2, -⟩ := h4 x hx
    rw [f1]
    exact ⟨y1, by rw [y2, e2, e3], f2⟩
  · obtain ⟨x, hx, e1, e2, e3⟩ := hin 52 3 4 mL_52
    obtain ⟨f1, f2⟩ := aOf_f I hx (hnd x hx)
    obtain ⟨y1, y2, -⟩ := h4 x hx
    rw [e1] at f1 f2 y1
    rw [f1]
    exact ⟨y1, by rw [y2, e2, e3], f2⟩
  · obtain ⟨x, hx, e1, e2⟩ := aOf_i hq
    obtain ⟨f1, f2⟩ := aOf_f I hx (hnd x hx)
    rw [e2, f1, e1]
  · unfold MV
    refine Prod.ext rfl (Prod.ext ?_ (Prod.ext ?_ (Prod.ext rfl (Prod.ext ?_ rfl))))
    · funext q k
      show mI μ q k = if q = q0 then g k else mI μ q k
      split
      · rename_i e; rw [e, h2]
      · rfl
    · funext q k
      show mJ μ q k = if q = q0 ∧ k = 27 then 0 else mJ μ q k
      split
      · rename_i e; rw [e.1, h3]
      · rfl
    · funext q i
      show mA μ q i = if (aOf q0 L).2.2 q < 56 then 0 else mA μ q i
      split
      · rename_i e
        obtain ⟨x, hx, e1, -⟩ := aOf_i e
        obtain ⟨-, -, y3, -⟩ := h4 x hx
        rw [← e1]
        exact y3 i
      · rfl
  · obtain ⟨x, hx, e1, -⟩ := aOf_i hq
    obtain ⟨-, -, -, -, y5, y6, -⟩ := h4 x hx
    rw [← e1]
    exact ⟨y6, y5⟩
section M62
variable {Γ : Gm} {μ : Mem} {a : Ma} {σ : MS}
def spS (σ : MS) (b : Nat) (c0 c1 c2 c3 c4 c5 c6 c7 : Int32) : MS := tA (tA (tA (tA (tA (tA (tA (tA σ 1 b c0) 1 (b + 1) c1) 1 (b + 2) c2) 1 (b + 3) c3) 1 (b + 4) c4) 1 (b + 5) c5) 1 (b + 6) c6) 1 (b + 7) c7
theorem c_spell (hM : MOK μ a) {b : Nat} {x : Int32} (c0 c1 c2 c3 c4 c5 c6 c7 : Int32) (hb : x = nI b) (hb2 : b + 8 ≤ 960) : XM Γ zX12_spell 1 0 0 [.ref a.1, .int x, .int c0, .int c1, .int c2, .int c3, .int c4, .int c5, .int c6, .int c7] (MV μ a σ) (rv (MV μ a (spS σ b c0 c1 c2 c3 c4 c5 c6 c7))) := by
  refine XM.of 0 rfl (by decide) (Nat.le_of_ble_eq_true rfl) ?_
  refine x_aload_n (pc := 0) dX12_spell_0 rfl ?_
  refine m_getR (pc := 1) hM dX12_spell_1 fk_12_13 (Or.inr ⟨_, rfl⟩) (Or.inl (by decide)) ?_
  refine x_iload_n (pc := 4) dX12_spell_4 rfl ?_
  refine x_iload_n (pc := 5) dX12_spell_5 rfl ?_
  refine m_iast (pc := 6) hM dX12_spell_6 (hb) (by show b < 960; omega) ?_
  refine x_aload_n (pc := 7) dX12_spell_7 rfl ?_
  refine m_getR (pc := 8) hM dX12_spell_8 fk_12_13 (Or.inr ⟨_, rfl⟩) (Or.inl (by decide)) ?_
  refine x_iload_n (pc := 11) dX12_spell_11 rfl ?_
  refine x_iconst (pc := 12) (v := 1) dX12_spell_12 rfl ?_
  refine x_iadd (pc := 13) dX12_spell_13 ?_
  refine x_iload_n (pc := 14) dX12_spell_14 rfl ?_
  refine m_iast (pc := 15) hM dX12_spell_15 (by rw [hb]; exact nI_add b 1) (by show b + 1 < 960; omega) ?_
  refine x_aload_n (pc := 16) dX12_spell_16 rfl ?_
  refine m_getR (pc := 17) hM dX12_spell_17 fk_12_13 (Or.inr ⟨_, rfl⟩) (Or.inl (by decide)) ?_
  refine x_iload_n (pc := 20) dX12_spell_20 rfl ?_
  refine x_iconst (pc := 21) (v := 2) dX12_spell_21 rfl ?_
  refine x_iadd (pc := 22) dX12_spell_22 ?_
  refine x_iload (pc := 23) dX12_spell_23 rfl ?_
  refine m_iast (pc := 25) hM dX12_spell_25 (by rw [hb]; exact nI_add b 2) (by show b + 2 < 960; omega) ?_
  refine x_aload_n (pc := 26) dX12_spell_26 rfl ?_
  refine m_getR (pc := 27) hM dX12_spell_27 fk_12_13 (Or.inr ⟨_, rfl⟩) (Or.inl (by decide)) ?_
  refine x_iload_n (pc := 30) dX12_spell_30 rfl ?_
  refine x_iconst (pc := 31) (v := 3) dX12_spell_31 rfl ?_
  refine x_iadd (pc := 32) dX12_spell_32 ?_
  refine x_iload (pc := 33) dX12_spell_33 rfl ?_
  refine m_iast (pc := 35) hM dX12_spell_35 (by rw [hb]; exact nI_add b 3) (by show b + 3 < 960; omega) ?_
  refine x_aload_n (pc := 36) dX12_spell_36 rfl ?_
  refine m_getR (pc := 37) hM dX12_spell_37 fk_12_13 (Or.inr ⟨_, rfl⟩) (Or.inl (by decide)) ?_
  refine x_iload_n (pc := 40) dX12_spell_40 rfl ?_
  refine x_iconst (pc := 41) (v := 4) dX12_spell_41 rfl ?_
  refine x_iadd (pc := 42) dX12_spell_42 ?_
  refine x_iload (pc := 43) dX12_spell_43 rfl ?_
  refine m_iast (pc := 45) hM dX12_spell_45 (by rw [hb]; exact nI_add b 4) (by show b + 4 < 960; omega) ?_
  refine x_aload_n (pc := 46) dX12_spell_46 rfl ?_
  refine m_getR (pc := 47) hM dX12_spell_47 fk_12_13 (Or.inr ⟨_, rfl⟩) (Or.inl (by decide)) ?_
  refine x_iload_n (pc := 50) dX12_spell_50 rfl ?_
  refine x_iconst (pc := 51) (v := 5) dX12_spell_51 rfl ?_
  refine x_iadd (pc := 52) dX12_spell_52 ?_
  refine x_iload (pc := 53) dX12_spell_53 rfl ?_
  refine m_iast (pc := 55) hM dX12_spell_55 (by rw [hb]; exact nI_add b 5) (by show b + 5 < 960; omega) ?_
  refine x_aload_n (pc := 56) dX12_spell_56 rfl ?_
  refine m_getR (pc := 57) hM dX12_spell_57 fk_12_13 (Or.inr ⟨_, rfl⟩) (Or.inl (by decide)) ?_
  refine x_iload_n (pc := 60) dX12_spell_60 rfl ?_
  refine x_bipush (pc := 61) (v := 6) dX12_spell_61 rfl ?_
  refine x_iadd (pc := 63) dX12_spell_63 ?_
  refine x_iload (pc := 64) dX12_spell_64 rfl ?_
  refine m_iast (pc := 66) hM dX12_spell_66 (by rw [hb]; exact nI_add b 6) (by show b + 6 < 960; omega) ?_
  refine x_aload_n (pc := 67) dX12_spell_67 rfl ?_
  refine m_getR (pc := 68) hM dX12_spell_68 fk_12_13 (Or.inr ⟨_, rfl⟩) (Or.inl (by decide)) ?_
  refine x_iload_n (pc := 71) dX12_spell_71 rfl ?_
  refine x_bipush (pc := 72) (v := 7) dX12_spell_72 rfl ?_
  refine x_iadd (pc := 74) dX12_spell_74 ?_
  refine x_iload (pc := 75) dX12_spell_75 rfl ?_
  refine m_iast (pc := 77) hM dX12_spell_77 (by rw [hb]; exact nI_add b 7) (by show b + 7 < 960; omega) ?_
  refine x_return (pc := 78) dX12_spell_78 rfl ?_
  exact ⟨rfl, rfl⟩
def f_s7 : Nat → MS → MS := fun j s => tA s 7 j 15
def f_s8 : Nat → MS → MS := fun j s => tA s 8 j (nI j)
def gZ : Nat → Int32 := va_up (va_up (fun _ => 0) 35 (-1)) 50 (-1)
def σI : MS := tI (tA (spS (spS (spS (spS (spS (it f_s8 4 (it f_s7 6 (σZ gZ))) 0 109 111 118 101 115 32 49 32) 8 59 32 117 103 108 121 32 57) 16 32 45 32 108 111 111 107 32) 24 59 32 109 105 110 100 115 32) 32 50 48 32 59 32 32 32 32) 2 0 40) 3 1
theorem c_mInit {q0 : Nat} {μ0 : Mem} (I0 : AI μ0 μ0 q0 12 (fun _ => 0) []) : XM Γ zX12_init 3 26 1534 [.ref q0] μ0 (fun v μ2 => v = none ∧ ∃ L : AL, MOK μ2 (aOf q0 L) ∧ μ2 = MV μ2 (aOf q0 L) σI ∧ (∀ q, (aOf q0 L).2.2 q < 56 → (mT μ0 q).1 = 0 ∧ q ≠ q0) ∧ ∀ q, q ≠ q0 → (mT μ0 q).1 ≠ 0 → same μ0 μ2 q) := by
  refine XM.of 1 rfl (by decide) (Nat.le_of_ble_eq_true rfl) ?_
  have T : ∀ (cl sl : Nat) (μ : Mem) (L : AL), cl = 26 → sl = 1534 → AI μ0 μ q0 12 gZ L → L.map (fun x => (x.1, x.2.2.1, x.2.2.2)) = mL → WA Γ zX12_init (xrm 3 26 1534) 26 1534 cl sl (fun v μ2 => v = none ∧ ∃ L : AL, MOK μ2 (aOf q0 L) ∧ μ2 = MV μ2 (aOf q0 L) σI ∧ (∀ q, (aOf q0 L).2.2 q < 56 → (mT μ0 q).1 = 0 ∧ q ≠ q0) ∧ ∀ q, q ≠ q0 → (mT μ0 q).1 ≠ 0 → same μ0 μ2 q) 212 [some (.ref q0), none] [] μ := by
    intro cl sl μ L hcl hsl I hL
    subst hcl
    subst hsl
    obtain ⟨hM, hV, hO⟩ := mk_MOK I hL
    rw [hV]
    generalize ha : aOf q0 L = a at hM hV hO
    have hq0 : q0 = a.1 := by rw [← ha]; rfl
    have hfin : ∀ σ, MOK (MV μ a σ) a ∧ MV μ a σ = MV (MV μ a σ) a σ ∧ (∀ q, a.2.2 q < 56 → (mT μ0 q).1 = 0 ∧ q ≠ q0) ∧ ∀ q, q ≠ q0 → (mT μ0 q).1 ≠ 0 → same μ0 (MV μ a σ) q := by
      intro σ
      refine ⟨hM, ?_, hO, fun q h1 h2 => ?_⟩
      · unfold MV
        refine Prod.ext rfl (Prod.ext ?_ (Prod.ext ?_ (Prod.ext rfl (Prod.ext ?_ rfl))))
        · funext q k
          show (if q = a.1 then σ.1 k else mI μ q k) = if q = a.1 then σ.1 k else (if q = a.1 then σ.1 k else mI μ q k)
          split <;> rfl
        · funext q k
          show (if q = a.1 ∧ k = 27 then σ.2.1 else mJ μ q k) = if q = a.1 ∧ k = 27 then σ.2.1 else (if q = a.1 ∧ k = 27 then σ.2.1 else mJ μ q k)
          split <;> rfl
        · funext q i
          show (if a.2.2 q < 56 then σ.2.2 (a.2.2 q) i else mA μ q i) = if a.2.2 q < 56 then σ.2.2 (a.2.2 q) i else (if a.2.2 q < 56 then σ.2.2 (a.2.2 q) i else mA μ q i)
          split <;> rfl
      · have hno : ¬ a.2.2 q < 56 := fun z => h2 (hO q z).1
        have hs : same μ0 μ q := I.2.2.2.2.2 q h1 (fun x hx e => by
          have := (I.2.2.2.1 x hx).2.2.2.2.2.1
          rw [e] at this
          exact h2 this)
        refine hs.trans ⟨rfl, ?_, ?_, rfl, ?_, rfl⟩
        · funext k
          show (if q = a.1 then σ.1 k else mI μ q k) = _
          rw [if_neg (by rw [← hq0]; exact h1)]
        · funext k
          show (if q = a.1 ∧ k = 27 then σ.2.1 else mJ μ q k) = _
          rw [if_neg (by rw [← hq0]; exact fun z => h1 z.1)]
        · funext i
          show (if a.2.2 q < 56 then σ.2.2 (a.2.2 q) i else mA μ q i) = _
          rw [if_neg hno]
    have hE : ∀ σ, σ = σI → (fun v μ2 => v = none ∧ ∃ L : AL, MOK μ2 (aOf q0 L) ∧ μ2 = MV μ2 (aOf q0 L) σI ∧ (∀ q, (aOf q0 L).2.2 q < 56 → (mT μ0 q).1 = 0 ∧ q ≠ q0) ∧ ∀ q, q ≠ q0 → (mT μ0 q).1 ≠ 0 → same μ0 μ2 q) (none : Option Value) (MV μ a σ) := by
      intro σ e
      subst e
      refine ⟨rfl, L, ?_⟩
      rw [ha]
      exact hfin σI
    clear hfin hV ha
    subst hq0
    have L2 : ∀ (m j : Nat), j + m = 4 → WA Γ zX12_init (xrm 3 26 1534) 26 1534 26 1534 (fun v μ2 => v = none ∧ ∃ L : AL, MOK μ2 (aOf a.1 L) ∧ μ2 = MV μ2 (aOf a.1 L) σI ∧ (∀ q, (aOf a.1 L).2.2 q < 56 → (mT μ0 q).1 = 0 ∧ q ≠ a.1) ∧ ∀ q, q ≠ a.1 → (mT μ0 q).1 ≠ 0 → same μ0 μ2 q) 236 [some (.ref a.1), some (.int (nI j))] [] (MV μ a (it f_s8 j (it f_s7 6 (σZ gZ)))) := by
      intro m
      induction m with
      | zero =>
        intro j hj
        obtain rfl : j = 4 := by omega
        refine x_iload_n (pc := 236) dX12_init_236 rfl ?_
        refine x_iconst (pc := 237) (v := 4) dX12_init_237 rfl ?_
        refine x_icmp_ge (pc := 238) (tgt := 254) dX12_init_238 rfl (fun h_238 => ?_) (fun h_238 => absurd (by decide) h_238)
        refine x_aload_n (pc := 254) dX12_init_254 rfl ?_
        refine x_iconst (pc := 255) (v := 0) dX12_init_255 rfl ?_
        refine x_bipush (pc := 256) (v := 109) dX12_init_256 rfl ?_
        refine x_bipush (pc := 258) (v := 111) dX12_init_258 rfl ?_
        refine x_bipush (pc := 260) (v := 118) dX12_init_260 rfl ?_
        refine x_bipush (pc := 262) (v := 101) dX12_init_262 rfl ?_
        refine x_bipush (pc := 264) (v := 115) dX12_init_264 rfl ?_
        refine x_bipush (pc := 266) (v := 32) dX12_init_266 rfl ?_
        refine x_bipush (pc := 268) (v := 49) dX12_init_268 rfl ?_
        refine x_bipush (pc := 270) (v := 32) dX12_init_270 rfl ?_
        refine x_callV (pc := 272) (As := [.int _, .int _, .int _, .int _, .int _, .int _, .int _, .int _, .int _]) dX12_init_272 mX12_spell lk_12_99 hM.1 (c_spell (b := 0) hM _ _ _ _ _ _ _ _ rfl (by decide)) rfl rfl (Nat.le_of_ble_eq_true rfl) ⟨by decide, by decide⟩ ⟨Nat.le_of_ble_eq_true rfl, Nat.le_of_ble_eq_true rfl⟩ (k_rv ?_)
        refine x_aload_n (pc := 275) dX12_init_275 rfl ?_
        refine x_bipush (pc := 276) (v := 8) dX12_init_276 rfl ?_
        refine x_bipush (pc := 278) (v := 59) dX12_init_278 rfl ?_
        refine x_bipush (pc := 280) (v := 32) dX12_init_280 rfl ?_
        refine x_bipush (pc := 282) (v := 117) dX12_init_282 rfl ?_
        refine x_bipush (pc := 284) (v := 103) dX12_init_284 rfl ?_
        refine x_bipush (pc := 286) (v := 108) dX12_init_286 rfl ?_
        refine x_bipush (pc := 288) (v := 121) dX12_init_288 rfl ?_
        refine x_bipush (pc := 290) (v := 32) dX12_init_290 rfl ?_
        refine x_bipush (pc := 292) (v := 57) dX12_init_292 rfl ?_
        refine x_callV (pc := 294) (As := [.int _, .int _, .int _, .int _, .int _, .int _, .int _, .int _, .int _]) dX12_init_294 mX12_spell lk_12_99 hM.1 (c_spell (b := 8) hM _ _ _ _ _ _ _ _ rfl (by decide)) rfl rfl (Nat.le_of_ble_eq_true rfl) ⟨by decide, by decide⟩ ⟨Nat.le_of_ble_eq_true rfl, Nat.le_of_ble_eq_true rfl⟩ (k_rv ?_)
        refine x_aload_n (pc := 297) dX12_init_297 rfl ?_
        refine x_bipush (pc := 298) (v := 16) dX12_init_298 rfl ?_
        refine x_bipush (pc := 300) (v := 32) dX12_init_300 rfl ?_
        refine x_bipush (pc := 302) (v := 45) dX12_init_302 rfl ?_
        refine x_bipush (pc := 304) (v := 32) dX12_init_304 rfl ?_
        refine x_bipush (pc := 306) (v := 108) dX12_init_306 rfl ?_
        refine x_bipush (pc := 308) (v := 111) dX12_init_308 rfl ?_
        refine x_bipush (pc := 310) (v := 111) dX12_init_310 rfl ?_
        refine x_bipush (pc := 312) (v := 107) dX12_init_312 rfl ?_
        refine x_bipush (pc := 314) (v := 32) dX12_init_314 rfl ?_
        refine x_callV (pc := 316) (As := [.int _, .int _, .int _, .int _, .int _, .int _, .int _, .int _, .int _]) dX12_init_316 mX12_spell lk_12_99 hM.1 (c_spell (b := 16) hM _ _ _ _ _ _ _ _ rfl (by decide)) rfl rfl (Nat.le_of_ble_eq_true rfl) ⟨by decide, by decide⟩ ⟨Nat.le_of_ble_eq_true rfl, Nat.le_of_ble_eq_true rfl⟩ (k_rv ?_)
        refine x_aload_n (pc := 319) dX12_init_319 rfl ?_
        refine x_bipush (pc := 320) (v := 24) dX12_init_320 rfl ?_
        refine x_bipush (pc := 322) (v := 59) dX12_init_322 rfl ?_
        refine x_bipush (pc := 324) (v := 32) dX12_init_324 rfl ?_
        refine x_bipush (pc := 326) (v := 109) dX12_init_326 rfl ?_
        refine x_bipush (pc := 328) (v := 105) dX12_init_328 rfl ?_
        refine x_bipush (pc := 330) (v := 110) dX12_init_330 rfl ?_
        refine x_bipush (pc := 332) (v := 100) dX12_init_332 rfl ?_
        refine x_bipush (pc := 334) (v := 115) dX12_init_334 rfl ?_
        refine x_bipush (pc := 336) (v := 32) dX12_init_336 rfl ?_
        refine x_callV (pc := 338) (As := [.int _, .int _, .int _, .int _, .int _, .int _, .int _, .int _, .int _]) dX12_init_338 mX12_spell lk_12_99 hM.1 (c_spell (b := 24) hM _ _ _ _ _ _ _ _ rfl (by decide)) rfl rfl (Nat.le_of_ble_eq_true rfl) ⟨by decide, by decide⟩ ⟨Nat.le_of_ble_eq_true rfl, Nat.le_of_ble_eq_true rfl⟩ (k_rv ?_)
        refine x_aload_n (pc := 341) dX12_init_341 rfl ?_
        refine x_bipush (pc := 342) (v := 32) dX12_init_342 rfl ?_
        refine x_bipush (pc := 344) (v := 50) dX12_init_344 rfl ?_
        refine x_bipush (pc := 346) (v := 48) dX12_init_346 rfl ?_
        refine x_bipush (pc := 348) (v := 32) dX12_init_348 rfl ?_
        refine x_bipush (pc := 350) (v := 59) dX12_init_350 rfl ?_
        refine x_bipush (pc := 352) (v := 32) dX12_init_352 rfl ?_
        refine x_bipush (pc := 354) (v := 32) dX12_init_354 rfl ?_
        refine x_bipush (pc := 356) (v := 32) dX12_init_356 rfl ?_
        refine x_bipush (pc := 358) (v := 32) dX12_init_358 rfl ?_
        refine x_callV (pc := 360) (As := [.int _, .int _, .int _, .int _, .int _, .int _, .int _, .int _, .int _]) dX12_init_360 mX12_spell lk_12_99 hM.1 (c_spell (b := 32) hM _ _ _ _ _ _ _ _ rfl (by decide)) rfl rfl (Nat.le_of_ble_eq_true rfl) ⟨by decide, by decide⟩ ⟨Nat.le_of_ble_eq_true rfl, Nat.le_of_ble_eq_true rfl⟩ (k_rv ?_)
        refine x_aload_n (pc := 363) dX12_init_363 rfl ?_
        refine m_getR (pc := 364) hM dX12_init_364 fk_12_17 (Or.inr ⟨_, rfl⟩) (Or.inl (by decide)) ?_
        refine x_iconst (pc := 367) (v := 0) dX12_init_367 rfl ?_
        refine x_bipush (pc := 368) (v := 40) dX12_init_368 rfl ?_
        refine m_iast (pc := 370) (i := 0) hM dX12_init_370 rfl (by decide) ?_
        refine x_aload_n (pc := 371) dX12_init_371 rfl ?_
        refine x_iconst (pc := 372) (v := 1) dX12_init_372 rfl ?_
        refine m_putI (pc := 373) hM dX12_init_373 fk_12_103 rfl (Or.inl rfl) ?_
        refine x_return (pc := 376) dX12_init_376 rfl ?_
        exact hE _ rfl
      | succ m ih =>
        intro j hj
        refine x_iload_n (pc := 236) dX12_init_236 rfl ?_
        refine x_iconst (pc := 237) (v := 4) dX12_init_237 rfl ?_
        refine x_icmp_ge (pc := 238) (tgt := 254) dX12_init_238 rfl (fun h_238 => absurd h_238 (lit_le (n := 4) j (by omega) (by omega))) (fun h_238 => ?_)
        refine x_aload_n (pc := 241) dX12_init_241 rfl ?_
        refine m_getR (pc := 242) hM dX12_init_242 fk_12_26 (Or.inr ⟨_, rfl⟩) (Or.inl (by decide)) ?_
        refine x_iload_n (pc := 245) dX12_init_245 rfl ?_
        refine x_iload_n (pc := 246) dX12_init_246 rfl ?_
        refine m_iast (pc := 247) hM dX12_init_247 (rfl) (by show j < 4; omega) ?_
        refine x_iinc (pc := 248) (lv2 := [_, _]) dX12_init_248 (by decide) rfl rfl (nI_1 _) rfl ?_
        refine x_goto (pc := 251) (tgt := 236) dX12_init_251 rfl ?_
        exact ih (j + 1) (by omega)
    have L1 : ∀ (m j : Nat), j + m = 6 → WA Γ zX12_init (xrm 3 26 1534) 26 1534 26 1534 (fun v μ2 => v = none ∧ ∃ L : AL, MOK μ2 (aOf a.1 L) ∧ μ2 = MV μ2 (aOf a.1 L) σI ∧ (∀ q, (aOf a.1 L).2.2 q < 56 → (mT μ0 q).1 = 0 ∧ q ≠ a.1) ∧ ∀ q, q ≠ a.1 → (mT μ0 q).1 ≠ 0 → same μ0 μ2 q) 214 [some (.ref a.1), some (.int (nI j))] [] (MV μ a (it f_s7 j (σZ gZ))) := by
      intro m
      induction m with
      | zero =>
        intro j hj
        obtain rfl : j = 6 := by omega
        refine x_iload_n (pc := 214) dX12_init_214 rfl ?_
        refine x_bipush (pc := 215) (v := 6) dX12_init_215 rfl ?_
        refine x_icmp_ge (pc := 217) (tgt := 234) dX12_init_217 rfl (fun h_217 => ?_) (fun h_217 => absurd (by decide) h_217)
        refine x_iconst (pc := 234) (v := 0) dX12_init_234 rfl ?_
        refine x_istore_n (pc := 235) (lv2 := [_, _]) dX12_init_235 (by decide) rfl rfl ?_
        exact L2 4 0 (by omega)
      | succ m ih =>
        intro j hj
        refine x_iload_n (pc := 214) dX12_init_214 rfl ?_
        refine x_bipush (pc := 215) (v := 6) dX12_init_215 rfl ?_
        refine x_icmp_ge (pc := 217) (tgt := 234) dX12_init_217 rfl (fun h_217 => absurd h_217 (lit_le (n := 6) j (by omega) (by omega))) (fun h_217 => ?_)
        refine x_aload_n (pc := 220) dX12_init_220 rfl ?_
        refine m_getR (pc := 221) hM dX12_init_221 fk_12_23 (Or.inr ⟨_, rfl⟩) (Or.inl (by decide)) ?_
        refine x_iload_n (pc := 224) dX12_init_224 rfl ?_
        refine x_bipush (pc := 225) (v := 15) dX12_init_225 rfl ?_
        refine m_iast (pc := 227) hM dX12_init_227 (rfl) (by show j < 6; omega) ?_
        refine x_iinc (pc := 228) (lv2 := [_, _]) dX12_init_228 (by decide) rfl rfl (nI_1 _) rfl ?_
        refine x_goto (pc := 231) (tgt := 214) dX12_init_231 rfl ?_
        exact ih (j + 1) (by omega)
    refine x_iconst (pc := 212) (v := 0) dX12_init_212 rfl ?_
    refine x_istore_n (pc := 213) (lv2 := [_, _]) dX12_init_213 (by decide) rfl rfl ?_
    exact L1 6 0 (by omega)
  refine x_aload_n (pc := 0) dX12_init_0 rfl ?_
  refine x_objInit (pc := 1) dX12_init_1 lw_12_7 wo_inst wo_code ⟨by decide, by decide⟩ (by decide) ?_
  refine x_aload_n (pc := 4) dX12_init_4 rfl ?_
  refine x_sipush (pc := 5) (v := 960) dX12_init_5 rfl ?_
  refine x_af (pc := 8) (N := 960) dX12_init_8 dX12_init_10 fk_12_13 (Or.inr ⟨rfl, rfl, rfl⟩) (Or.inr ⟨_, rfl⟩) I0 (by simp) rfl (Nat.le_of_ble_eq_true rfl) ⟨Nat.le_of_ble_eq_true rfl, Nat.le_of_ble_eq_true rfl⟩ (fun q1 μ1 I1 => ?_)
  refine x_aload_n (pc := 13) dX12_init_13 rfl ?_
  refine x_bipush (pc := 14) (v := 6) dX12_init_14 rfl ?_
  refine x_af (pc := 16) (N := 6) dX12_init_16 dX12_init_18 fk_12_17 (Or.inr ⟨rfl, rfl, rfl⟩) (Or.inr ⟨_, rfl⟩) I1 (by simp) rfl (Nat.le_of_ble_eq_true rfl) ⟨Nat.le_of_ble_eq_true rfl, Nat.le_of_ble_eq_true rfl⟩ (fun q2 μ2 I2 => ?_)
  refine x_aload_n (pc := 21) dX12_init_21 rfl ?_
  refine x_sipush (pc := 22) (v := 160) dX12_init_22 rfl ?_
  refine x_af (pc := 25) (N := 160) dX12_init_25 dX12_init_27 fk_12_20 (Or.inr ⟨rfl, rfl, rfl⟩) (Or.inr ⟨_, rfl⟩) I2 (by simp) rfl (Nat.le_of_ble_eq_true rfl) ⟨Nat.le_of_ble_eq_true rfl, Nat.le_of_ble_eq_true rfl⟩ (fun q3 μ3 I3 => ?_)
  refine x_aload_n (pc := 30) dX12_init_30 rfl ?_
  refine x_bipush (pc := 31) (v := 6) dX12_init_31 rfl ?_
  refine x_af (pc := 33) (N := 6) dX12_init_33 dX12_init_35 fk_12_23 (Or.inr ⟨rfl, rfl, rfl⟩) (Or.inr ⟨_, rfl⟩) I3 (by simp) rfl (Nat.le_of_ble_eq_true rfl) ⟨Nat.le_of_ble_eq_true rfl, Nat.le_of_ble_eq_true rfl⟩ (fun q4 μ4 I4 => ?_)
  refine x_aload_n (pc := 38) dX12_init_38 rfl ?_
  refine x_iconst (pc := 39) (v := 4) dX12_init_39 rfl ?_
  refine x_af (pc := 40) (N := 4) dX12_init_40 dX12_init_42 fk_12_26 (Or.inr ⟨rfl, rfl, rfl⟩) (Or.inr ⟨_, rfl⟩) I4 (by simp) rfl (Nat.le_of_ble_eq_true rfl) ⟨Nat.le_of_ble_eq_true rfl, Nat.le_of_ble_eq_true rfl⟩ (fun q5 μ5 I5 => ?_)
  refine x_aload_n (pc := 45) dX12_init_45 rfl ?_
  refine x_bipush (pc := 46) (v := 7) dX12_init_46 rfl ?_
  refine x_af (pc := 48) (N := 7) dX12_init_48 dX12_init_50 fk_12_29 (Or.inr ⟨rfl, rfl, rfl⟩) (Or.inr ⟨_, rfl⟩) I5 (by simp) rfl (Nat.le_of_ble_eq_true rfl) ⟨Nat.le_of_ble_eq_true rfl, Nat.le_of_ble_eq_true rfl⟩ (fun q6 μ6 I6 => ?_)
  refine x_aload_n (pc := 53) dX12_init_53 rfl ?_
  refine x_iconst (pc := 54) (v := 5) dX12_init_54 rfl ?_
  refine x_af (pc := 55) (N := 5) dX12_init_55 dX12_init_57 fk_12_32 (Or.inr ⟨rfl, rfl, rfl⟩) (Or.inr ⟨_, rfl⟩) I6 (by simp) rfl (Nat.le_of_ble_eq_true rfl) ⟨Nat.le_of_ble_eq_true rfl, Nat.le_of_ble_eq_true rfl⟩ (fun q7 μ7 I7 => ?_)
  refine x_aload_n (pc := 60) dX12_init_60 rfl ?_
  refine x_iconst (pc := 61) (v := 5) dX12_init_61 rfl ?_
  refine x_af (pc := 62) (N := 5) dX12_init_62 dX12_init_64 fk_12_35 (Or.inr ⟨rfl, rfl, rfl⟩) (Or.inr ⟨_, rfl⟩) I7 (by simp) rfl (Nat.le_of_ble_eq_true rfl) ⟨Nat.le_of_ble_eq_true rfl, Nat.le_of_ble_eq_true rfl⟩ (fun q8 μ8 I8 => ?_)
  refine x_aload_n (pc := 67) dX12_init_67 rfl ?_
  refine x_iconst (pc := 68) (v := 5) dX12_init_68 rfl ?_
  refine x_af (pc := 69) (N := 5) dX12_init_69 dX12_init_71 fk_12_38 (Or.inr ⟨rfl, rfl, rfl⟩) (Or.inr ⟨_, rfl⟩) I8 (by simp) rfl (Nat.le_of_ble_eq_true rfl) ⟨Nat.le_of_ble_eq_true rfl, Nat.le_of_ble_eq_true rfl⟩ (fun q9 μ9 I9 => ?_)
  refine x_aload_n (pc := 74) dX12_init_74 rfl ?_
  refine x_iconst (pc := 75) (v := 5) dX12_init_75 rfl ?_
  refine x_af (pc := 76) (N := 5) dX12_init_76 dX12_init_78 fk_12_41 (Or.inr ⟨rfl, rfl, rfl⟩) (Or.inr ⟨_, rfl⟩) I9 (by simp) rfl (Nat.le_of_ble_eq_true rfl) ⟨Nat.le_of_ble_eq_true rfl, Nat.le_of_ble_eq_true rfl⟩ (fun q10 μ10 I10 => ?_)
  refine x_aload_n (pc := 81) dX12_init_81 rfl ?_
  refine x_iconst (pc := 82) (v := 5) dX12_init_82 rfl ?_
  refine x_af (pc := 83) (N := 5) dX12_init_83 dX12_init_85 fk_12_44 (Or.inr ⟨rfl, rfl, rfl⟩) (Or.inr ⟨_, rfl⟩) I10 (by simp) rfl (Nat.le_of_ble_eq_true rfl) ⟨Nat.le_of_ble_eq_true rfl, Nat.le_of_ble_eq_true rfl⟩ (fun q11 μ11 I11 => ?_)
  refine x_aload_n (pc := 88) dX12_init_88 rfl ?_
  refine x_bipush (pc := 89) (v := 35) dX12_init_89 rfl ?_
  refine x_af (pc := 91) (N := 35) dX12_init_91 dX12_init_93 fk_12_47 (Or.inr ⟨rfl, rfl, rfl⟩) (Or.inr ⟨_, rfl⟩) I11 (by simp) rfl (Nat.le_of_ble_eq_true rfl) ⟨Nat.le_of_ble_eq_true rfl, Nat.le_of_ble_eq_true rfl⟩ (fun q12 μ12 I12 => ?_)
  refine x_aload_n (pc := 96) dX12_init_96 rfl ?_
  refine x_bipush (pc := 97) (v := 35) dX12_init_97 rfl ?_
  refine x_af (pc := 99) (N := 35) dX12_init_99 dX12_init_101 fk_12_50 (Or.inr ⟨rfl, rfl, rfl⟩) (Or.inr ⟨_, rfl⟩) I12 (by simp) rfl (Nat.le_of_ble_eq_true rfl) ⟨Nat.le_of_ble_eq_true rfl, Nat.le_of_ble_eq_true rfl⟩ (fun q13 μ13 I13 => ?_)
  refine x_aload_n (pc := 104) dX12_init_104 rfl ?_
  refine x_bipush (pc := 105) (v := 25) dX12_init_105 rfl ?_
  refine x_af (pc := 107) (N := 25) dX12_init_107 dX12_init_109 fk_12_53 (Or.inr ⟨rfl, rfl, rfl⟩) (Or.inr ⟨_, rfl⟩) I13 (by simp) rfl (Nat.le_of_ble_eq_true rfl) ⟨Nat.le_of_ble_eq_true rfl, Nat.le_of_ble_eq_true rfl⟩ (fun q14 μ14 I14 => ?_)
  refine x_aload_n (pc := 112) dX12_init_112 rfl ?_
  refine x_bipush (pc := 113) (v := 35) dX12_init_113 rfl ?_
  refine x_af (pc := 115) (N := 35) dX12_init_115 dX12_init_117 fk_12_56 (Or.inr ⟨rfl, rfl, rfl⟩) (Or.inr ⟨_, rfl⟩) I14 (by simp) rfl (Nat.le_of_ble_eq_true rfl) ⟨Nat.le_of_ble_eq_true rfl, Nat.le_of_ble_eq_true rfl⟩ (fun q15 μ15 I15 => ?_)
  refine x_aload_n (pc := 120) dX12_init_120 rfl ?_
  refine x_iconst (pc := 121) (v := -1) dX12_init_121 rfl ?_
  refine x_ai (pc := 122) dX12_init_122 fk_12_59 (Or.inl rfl) I15 (Or.inl rfl) (fun μ15b I15b => ?_)
  refine x_aload_n (pc := 125) dX12_init_125 rfl ?_
  refine x_iconst (pc := 126) (v := 5) dX12_init_126 rfl ?_
  refine x_af (pc := 127) (N := 5) dX12_init_127 dX12_init_129 fk_12_62 (Or.inr ⟨rfl, rfl, rfl⟩) (Or.inr ⟨_, rfl⟩) I15b (by simp) rfl (Nat.le_of_ble_eq_true rfl) ⟨Nat.le_of_ble_eq_true rfl, Nat.le_of_ble_eq_true rfl⟩ (fun q16 μ16 I16 => ?_)
  refine x_aload_n (pc := 132) dX12_init_132 rfl ?_
  refine x_iconst (pc := 133) (v := 5) dX12_init_133 rfl ?_
  refine x_af (pc := 134) (N := 5) dX12_init_134 dX12_init_136 fk_12_65 (Or.inr ⟨rfl, rfl, rfl⟩) (Or.inr ⟨_, rfl⟩) I16 (by simp) rfl (Nat.le_of_ble_eq_true rfl) ⟨Nat.le_of_ble_eq_true rfl, Nat.le_of_ble_eq_true rfl⟩ (fun q17 μ17 I17 => ?_)
  refine x_aload_n (pc := 139) dX12_init_139 rfl ?_
  refine x_iconst (pc := 140) (v := 5) dX12_init_140 rfl ?_
  refine x_af (pc := 141) (N := 5) dX12_init_141 dX12_init_143 fk_12_68 (Or.inr ⟨rfl, rfl, rfl⟩) (Or.inr ⟨_, rfl⟩) I17 (by simp) rfl (Nat.le_of_ble_eq_true rfl) ⟨Nat.le_of_ble_eq_true rfl, Nat.le_of_ble_eq_true rfl⟩ (fun q18 μ18 I18 => ?_)
  refine x_aload_n (pc := 146) dX12_init_146 rfl ?_
  refine x_bipush (pc := 147) (v := 7) dX12_init_147 rfl ?_
  refine x_af (pc := 149) (N := 7) dX12_init_149 dX12_init_151 fk_12_71 (Or.inr ⟨rfl, rfl, rfl⟩) (Or.inr ⟨_, rfl⟩) I18 (by simp) rfl (Nat.le_of_ble_eq_true rfl) ⟨Nat.le_of_ble_eq_true rfl, Nat.le_of_ble_eq_true rfl⟩ (fun q19 μ19 I19 => ?_)
  refine x_aload_n (pc := 154) dX12_init_154 rfl ?_
  refine x_iconst (pc := 155) (v := 5) dX12_init_155 rfl ?_
  refine x_af (pc := 156) (N := 5) dX12_init_156 dX12_init_158 fk_12_74 (Or.inr ⟨rfl, rfl, rfl⟩) (Or.inr ⟨_, rfl⟩) I19 (by simp) rfl (Nat.le_of_ble_eq_true rfl) ⟨Nat.le_of_ble_eq_true rfl, Nat.le_of_ble_eq_true rfl⟩ (fun q20 μ20 I20 => ?_)
  refine x_aload_n (pc := 161) dX12_init_161 rfl ?_
  refine x_bipush (pc := 162) (v := 17) dX12_init_162 rfl ?_
  refine x_af (pc := 164) (N := 17) dX12_init_164 dX12_init_166 fk_12_77 (Or.inr ⟨rfl, rfl, rfl⟩) (Or.inr ⟨_, rfl⟩) I20 (by simp) rfl (Nat.le_of_ble_eq_true rfl) ⟨Nat.le_of_ble_eq_true rfl, Nat.le_of_ble_eq_true rfl⟩ (fun q21 μ21 I21 => ?_)
  refine x_aload_n (pc := 169) dX12_init_169 rfl ?_
  refine x_bipush (pc := 170) (v := 20) dX12_init_170 rfl ?_
  refine x_af (pc := 172) (N := 20) dX12_init_172 dX12_init_174 fk_12_80 (Or.inr ⟨rfl, rfl, rfl⟩) (Or.inr ⟨_, rfl⟩) I21 (by simp) rfl (Nat.le_of_ble_eq_true rfl) ⟨Nat.le_of_ble_eq_true rfl, Nat.le_of_ble_eq_true rfl⟩ (fun q22 μ22 I22 => ?_)
  refine x_aload_n (pc := 177) dX12_init_177 rfl ?_
  refine x_iconst (pc := 178) (v := -1) dX12_init_178 rfl ?_
  refine x_ai (pc := 179) dX12_init_179 fk_12_83 (Or.inl rfl) I22 (Or.inl rfl) (fun μ22b I22b => ?_)
  refine x_aload_n (pc := 182) dX12_init_182 rfl ?_
  refine x_iconst (pc := 183) (v := 4) dX12_init_183 rfl ?_
  refine x_afZ (pc := 184) (N := 4) dX12_init_184 dX12_init_186 fk_12_86 (Or.inr ⟨rfl, rfl, rfl⟩) (Or.inr ⟨_, rfl⟩) I22b (by simp) rfl (Nat.le_of_ble_eq_true rfl) ⟨Nat.le_of_ble_eq_true rfl, Nat.le_of_ble_eq_true rfl⟩ (fun q23 μ23 I23 => ?_)
  refine x_aload_n (pc := 189) dX12_init_189 rfl ?_
  refine x_iconst (pc := 190) (v := 4) dX12_init_190 rfl ?_
  refine x_af (pc := 191) (N := 4) dX12_init_191 dX12_init_193 fk_12_90 (Or.inr ⟨rfl, rfl, rfl⟩) (Or.inr ⟨_, rfl⟩) I23 (by simp) rfl (Nat.le_of_ble_eq_true rfl) ⟨Nat.le_of_ble_eq_true rfl, Nat.le_of_ble_eq_true rfl⟩ (fun q24 μ24 I24 => ?_)
  refine x_aload_n (pc := 196) dX12_init_196 rfl ?_
  refine x_iconst (pc := 197) (v := 4) dX12_init_197 rfl ?_
  refine x_af (pc := 198) (N := 4) dX12_init_198 dX12_init_200 fk_12_93 (Or.inr ⟨rfl, rfl, rfl⟩) (Or.inr ⟨_, rfl⟩) I24 (by simp) rfl (Nat.le_of_ble_eq_true rfl) ⟨Nat.le_of_ble_eq_true rfl, Nat.le_of_ble_eq_true rfl⟩ (fun q25 μ25 I25 => ?_)
  refine x_aload_n (pc := 203) dX12_init_203 rfl ?_
  refine x_sipush (pc := 204) (v := 160) dX12_init_204 rfl ?_
  refine x_af (pc := 207) (N := 160) dX12_init_207 dX12_init_209 fk_12_96 (Or.inr ⟨rfl, rfl, rfl⟩) (Or.inr ⟨_, rfl⟩) I25 (by simp) rfl (Nat.le_of_ble_eq_true rfl) ⟨Nat.le_of_ble_eq_true rfl, Nat.le_of_ble_eq_true rfl⟩ (fun q26 μ26 I26 => ?_)
  exact T _ _ _ _ (Eq.refl 26) (Eq.refl 1534) I26 (by simp [mL])
end M62
