section XMD
variable {Γ : Gm} {M M1 : Mt} {R : Room} {mc ms cl sl : Nat} {Q Q1 : Option Value → Mem → Prop} {pc : Nat} {lv lv2 : List (Option Value)} {st st0 : List Value} {μ : Mem}
/-- an answer and a memory, both known -/
def rt (v : Value) (μ2 : Mem) : Option Value → Mem → Prop := fun r μ' => r = some v ∧ μ' = μ2
def rv (μ2 : Mem) : Option Value → Mem → Prop := fun r μ' => r = none ∧ μ' = μ2
theorem k_rt {v : Value} {μ2 : Mem} (k : WA Γ M R mc ms cl sl Q pc lv (v :: st) μ2) : ∀ r μ', rt v μ2 r μ' → WA Γ M R mc ms cl sl Q pc lv (r.toList ++ st) μ' := by
  rintro r μ' ⟨rfl, rfl⟩
  exact k
theorem k_rv {μ2 : Mem} (k : WA Γ M R mc ms cl sl Q pc lv st μ2) : ∀ r μ', rv μ2 r μ' → WA Γ M R mc ms cl sl Q pc lv (r.toList ++ st) μ' := by
  rintro r μ' ⟨rfl, rfl⟩
  exact k
theorem inc1 (x : Int32) : x + Int32.ofInt 1 = x + 1 := rfl
theorem incm (x : Int32) : x + Int32.ofInt (-1) = x - 1 := by
  rw [show Int32.ofInt (-1) = -1 from rfl, Int32.sub_eq_add_neg]
/-! the reference: its ints by their fields, its long, its arrays by their fields -/
abbrev MS : Type := (Nat → Int32) × Int64 × (Nat → Nat → Int32)
abbrev Ma : Type := Nat × (Nat → Nat) × (Nat → Nat)
def mLen : Nat → Nat := fun k => match k with
  | 1 => 960
  | 2 => 6
  | 5 => 160
  | 7 => 6
  | 8 => 4
  | 9 => 7
  | 10 => 5
  | 11 => 5
  | 12 => 5
  | 13 => 5
  | 14 => 5
  | 31 => 35
  | 32 => 35
  | 33 => 25
  | 34 => 35
  | 36 => 5
  | 37 => 5
  | 41 => 5
  | 46 => 7
  | 47 => 5
  | 48 => 17
  | 49 => 20
  | 53 => 4
  | 54 => 4
  | 55 => 160
  | _ => 0
def MOK (μ : Mem) (a : Ma) : Prop := mT μ a.1 = (1, 12) ∧ (∀ k, mLen k ≠ 0 → mR μ a.1 k = some (a.2.1 k) ∧ mT μ (a.2.1 k) = (2, mLen k) ∧ a.2.2 (a.2.1 k) = k) ∧ (mR μ a.1 52 = some (a.2.1 52) ∧ mT μ (a.2.1 52) = (3, 4) ∧ a.2.2 (a.2.1 52) = 52) ∧ ∀ q, a.2.2 q < 56 → q = a.2.1 (a.2.2 q)
def MV (μ : Mem) (a : Ma) (σ : MS) : Mem := (μ.1, (fun q k => if q = a.1 then σ.1 k else mI μ q k), (fun q k => if q = a.1 ∧ k = 27 then σ.2.1 else mJ μ q k), μ.2.2.2.1, (fun q i => if a.2.2 q < 56 then σ.2.2 (a.2.2 q) i else mA μ q i), μ.2.2.2.2.2)
def tI (σ : MS) (k : Nat) (v : Int32) : MS := (va_up σ.1 k v, σ.2)
def tJ (σ : MS) (v : Int64) : MS := (σ.1, v, σ.2.2)
def tA (σ : MS) (k i : Nat) (v : Int32) : MS := (σ.1, σ.2.1, up2 σ.2.2 k i v)
theorem MV_I {a : Ma} {σ : MS} {k : Nat} {v : Int32} : sI (MV μ a σ) a.1 k v = MV μ a (tI σ k v) := by
  unfold sI MV
  refine congrArg (Prod.mk μ.1) (congrArg (fun z => (z, _)) ?_)
  funext q j
  by_cases hq : q = a.1
  · by_cases hj : j = k
    · simp [up2, tI, va_up, hq, hj]
    · simp [up2, tI, va_up, hq, hj]
  · simp [up2, hq]
theorem MV_J {a : Ma} {σ : MS} {v : Int64} : sJ (MV μ a σ) a.1 27 v = MV μ a (tJ σ v) := by
  unfold sJ MV
  refine congrArg (Prod.mk μ.1) (congrArg (Prod.mk _) (congrArg (fun z => (z, _)) ?_))
  funext q j
  by_cases hq : q = a.1 ∧ j = 27
  · simp [up2, tJ, hq]
  · simp [up2, hq]
theorem MV_A {a : Ma} {σ : MS} {k i : Nat} {v : Int32} (hM : MOK μ a) (hk : mLen k ≠ 0 ∨ k = 52) : sA (MV μ a σ) (a.2.1 k) i v = MV μ a (tA σ k i v) := by
  have hf : a.2.2 (a.2.1 k) = k := by
    rcases hk with h | rfl
    · exact (hM.2.1 k h).2.2
    · exact hM.2.2.1.2.2
  have hk56 : k < 56 := by
    rcases hk with h | rfl
    · rcases Nat.lt_or_ge k 56 with h2 | h2
      · exact h2
      · exact absurd (by unfold mLen; split <;> first | omega | rfl) h
    · decide
  unfold sA MV
  refine congrArg (Prod.mk μ.1) (congrArg (Prod.mk _) (congrArg (Prod.mk _) (congrArg (Prod.mk _) (congrArg (fun z => (z, _)) ?_))))
  funext q j
  show up2 (fun q i => if a.2.2 q < 56 then σ.2.2 (a.2.2 q) i else mA μ q i) (a.2.1 k) i v q j = if a.2.2 q < 56 then up2 σ.2.2 k i v (a.2.2 q) j else mA μ q j
  by_cases hq : a.2.2 q < 56
  · rw [if_pos hq]
    have hqa := hM.2.2.2 q hq
    by_cases h1 : a.2.2 q = k ∧ j = i
    · obtain ⟨h2, rfl⟩ := h1
      have : q = a.2.1 k := by rw [← h2]; exact hqa
      rw [this, up2_s, hf, up2_s]
    · rw [up2_n, up2_n, if_pos hq]
      · by_cases h2 : a.2.2 q = k
        · exact Or.inr (fun h3 => h1 ⟨h2, h3⟩)
        · exact Or.inl h2
      · by_cases h2 : q = a.2.1 k
        · exact Or.inr (fun h3 => h1 ⟨by rw [h2, hf], h3⟩)
        · exact Or.inl h2
  · rw [if_neg hq, up2_n, if_neg hq]
    exact Or.inl (fun h => hq (by rw [h, hf]; exact hk56))
variable {a : Ma} {σ : MS}
theorem m_getI {idx k : Nat} (hM : MOK μ a) (d : decode M.2.1 pc = .ok (.getfield idx, 3)) (f : FK M.1.cls idx 12 k) (hv : xty 12 k = .int ∨ xty 12 k = .boolean) (kk : WA Γ M R mc ms cl sl Q (pc + 3) lv (.int (σ.1 k) :: st) (MV μ a σ)) : WA Γ M R mc ms cl sl Q pc lv (.ref a.1 :: st) (MV μ a σ) := by
  refine x_getI d f hM.1 hv ?_
  rw [show mI (MV μ a σ) a.1 k = σ.1 k from if_pos rfl]
  exact kk
theorem m_getJ {idx : Nat} (hM : MOK μ a) (d : decode M.2.1 pc = .ok (.getfield idx, 3)) (f : FK M.1.cls idx 12 27) (kk : WA Γ M R mc ms cl sl Q (pc + 3) lv (.long σ.2.1 :: st) (MV μ a σ)) : WA Γ M R mc ms cl sl Q pc lv (.ref a.1 :: st) (MV μ a σ) := by
  refine x_getJ d f hM.1 rfl ?_
  rw [show mJ (MV μ a σ) a.1 27 = σ.2.1 from if_pos ⟨rfl, rfl⟩]
  exact kk
theorem m_putJ {idx : Nat} {v : Int64} (hM : MOK μ a) (d : decode M.2.1 pc = .ok (.putfield idx, 3)) (f : FK M.1.cls idx 12 27) (kk : WA Γ M R mc ms cl sl Q (pc + 3) lv st (MV μ a (tJ σ v))) : WA Γ M R mc ms cl sl Q pc lv (.long v :: .ref a.1 :: st) (MV μ a σ) := by
  refine x_putJ d f rfl hM.1 rfl ?_
  rw [MV_J]
  exact kk
theorem m_getR {idx k : Nat} (hM : MOK μ a) (d : decode M.2.1 pc = .ok (.getfield idx, 3)) (f : FK M.1.cls idx 12 k) (hv : isR (xty 12 k)) (hk : mLen k ≠ 0 ∨ k = 52) (kk : WA Γ M R mc ms cl sl Q (pc + 3) lv (.ref (a.2.1 k) :: st) (MV μ a σ)) : WA Γ M R mc ms cl sl Q pc lv (.ref a.1 :: st) (MV μ a σ) := by
  refine x_getR (a := a.2.1 k) d f hM.1 hv ?_ kk
  rcases hk with h | rfl
  · exact (hM.2.1 k h).1
  · exact hM.2.2.1.1
theorem m_putI {idx k : Nat} {v : Int32} (hM : MOK μ a) (d : decode M.2.1 pc = .ok (.putfield idx, 3)) (f : FK M.1.cls idx 12 k) (hfin : (xT 12 k).2.2.2 = false) (hty : xty 12 k = .int ∨ (xty 12 k = .boolean ∧ (v = 0 ∨ v = 1)))
    (kk : WA Γ M R mc ms cl sl Q (pc + 3) lv st (MV μ a (tI σ k v))) : WA Γ M R mc ms cl sl Q pc lv (.int v :: .ref a.1 :: st) (MV μ a σ) := by
  refine x_putI d f (Or.inl hfin) hM.1 hty ?_
  rw [MV_I]
  exact kk
theorem m_iald {k i : Nat} {j : Int32} (hM : MOK μ a) (d : decode M.2.1 pc = .ok (.iaload, 1)) (hj : j = nI i) (hi : i < mLen k) (kk : WA Γ M R mc ms cl sl Q (pc + 1) lv (.int (σ.2.2 k i) :: st) (MV μ a σ)) : WA Γ M R mc ms cl sl Q pc lv (.int j :: .ref (a.2.1 k) :: st) (MV μ a σ) := by
  have hk : mLen k ≠ 0 := by omega
  have hb : mLen k ≤ 960 := by unfold mLen; split <;> omega
  have hk56 : k < 56 := by
    rcases Nat.lt_or_ge k 56 with h2 | h2
    · exact h2
    · exact absurd (by unfold mLen; split <;> first | omega | rfl) hk
  obtain ⟨-, h1, h2⟩ := hM.2.1 k hk
  refine x_iald d h1 hj hi (by omega) ?_
  rw [show mA (MV μ a σ) (a.2.1 k) i = σ.2.2 k i by show (if a.2.2 (a.2.1 k) < 56 then σ.2.2 (a.2.2 (a.2.1 k)) i else _) = _; rw [h2, if_pos hk56]]
  exact kk
theorem m_iast {k i : Nat} {j v : Int32} (hM : MOK μ a) (d : decode M.2.1 pc = .ok (.iastore, 1)) (hj : j = nI i) (hi : i < mLen k) (kk : WA Γ M R mc ms cl sl Q (pc + 1) lv st (MV μ a (tA σ k i v))) : WA Γ M R mc ms cl sl Q pc lv (.int v :: .int j :: .ref (a.2.1 k) :: st) (MV μ a σ) := by
  have hk : mLen k ≠ 0 := by omega
  have hb : mLen k ≤ 960 := by unfold mLen; split <;> omega
  refine x_iast d (hM.2.1 k hk).2.1 hj hi (by omega) ?_
  rw [MV_A hM (Or.inl hk)]
  exact kk
theorem m_zald {i : Nat} {j : Int32} (hM : MOK μ a) (d : decode M.2.1 pc = .ok (.baload, 1)) (hj : j = nI i) (hi : i < 4) (kk : WA Γ M R mc ms cl sl Q (pc + 1) lv (.int (σ.2.2 52 i) :: st) (MV μ a σ)) : WA Γ M R mc ms cl sl Q pc lv (.int j :: .ref (a.2.1 52) :: st) (MV μ a σ) := by
  obtain ⟨-, h1, h2⟩ := hM.2.2.1
  refine x_zald d h1 hj hi (by omega) ?_
  rw [show mA (MV μ a σ) (a.2.1 52) i = σ.2.2 52 i by show (if a.2.2 (a.2.1 52) < 56 then σ.2.2 (a.2.2 (a.2.1 52)) i else _) = _; rw [h2, if_pos (by decide)]]
  exact kk
theorem m_zast {i : Nat} {j v : Int32} (hM : MOK μ a) (d : decode M.2.1 pc = .ok (.bastore, 1)) (hj : j = nI i) (hi : i < 4) (hv : v = 0 ∨ v = 1) (kk : WA Γ M R mc ms cl sl Q (pc + 1) lv st (MV μ a (tA σ 52 i v))) : WA Γ M R mc ms cl sl Q pc lv (.int v :: .int j :: .ref (a.2.1 52) :: st) (MV μ a σ) := by
  refine x_zast d hM.2.2.1.2.1 hj hi (by omega) hv ?_
  rw [MV_A hM (Or.inr rfl)]
  exact kk
end XMD
