/-! the class's memory by numbers of objects: 0 PutOut, 1 house, 2 kept, 3 planner, 4 reader, 5 .. 8 sheets, 9 .. 14 texts, 15 .. 19 the house's things, 20 .. 24 the kept ones -/
/-- ints by object and field, arrays of ints by object and field -/
abbrev KS : Type := (Nat → Nat → Int32) × (Nat → Nat → Nat → Int32)
/-- where: objects, arrays; whose an address is -/
abbrev Kb : Type := (Nat → Nat) × (Nat → Nat → Nat) × (Nat → Nat) × (Nat → Nat × Nat)
def adO (b : Kb) : Nat → Nat := b.1
def adR (b : Kb) : Nat → Nat → Nat := b.2.1
def ivO (b : Kb) : Nat → Nat := b.2.2.1
def ivR (b : Kb) : Nat → Nat × Nat := b.2.2.2
def KV (μ : Mem) (b : Kb) (κ : KS) : Mem := (μ.1, (fun q k => if ivO b q < 25 then κ.1 (ivO b q) k else mI μ q k), μ.2.2.1, μ.2.2.2.1, (fun q i => if (ivR b q).1 < 25 then κ.2 (ivR b q).1 (ivR b q).2 i else mA μ q i), μ.2.2.2.2.2)
def kI (κ : KS) (o k : Nat) (v : Int32) : KS := (up2 κ.1 o k v, κ.2)
def up3 {α : Type} (f : Nat → Nat → Nat → α) (o k i : Nat) (v : α) : Nat → Nat → Nat → α := fun a b => if a = o ∧ b = k then va_up (f a b) i v else f a b
def kA (κ : KS) (o k i : Nat) (v : Int32) : KS := (κ.1, up3 κ.2 o k i v)
theorem up3_s {α : Type} {f : Nat → Nat → Nat → α} {o k i : Nat} {v : α} : up3 f o k i v o k i = v := by simp [up3, va_up]
theorem up3_i {α : Type} {f : Nat → Nat → Nat → α} {o k i j : Nat} {v : α} (h : j ≠ i) : up3 f o k i v o k j = f o k j := by simp [up3, va_up, h]
theorem up3_r {α : Type} {f : Nat → Nat → Nat → α} {o k i : Nat} {v : α} : up3 f o k i v o k = va_up (f o k) i v := by simp [up3]
theorem up3_n {α : Type} {f : Nat → Nat → Nat → α} {o k i a b : Nat} {v : α} (h : a ≠ o ∨ b ≠ k) : up3 f o k i v a b = f a b := by
  unfold up3
  rw [if_neg]
  rintro ⟨h1, h2⟩
  rcases h with h | h
  · exact h h1
  · exact h h2
/-- the two ways agree -/
def Kc (b : Kb) : Prop := (∀ q, ivO b q < 25 → q = adO b (ivO b q)) ∧ ∀ q, (ivR b q).1 < 25 → q = adR b (ivR b q).1 (ivR b q).2
/-- object o is there, of class ci, its rows of ints as long as len says (0: no row) -/
def KO (μ : Mem) (b : Kb) (o ci : Nat) (len : Nat → Nat) : Prop := Kc b ∧ o < 25 ∧ mT μ (adO b o) = (1, ci) ∧ ivO b (adO b o) = o ∧ ∀ f, len f ≠ 0 → mR μ (adO b o) f = some (adR b o f) ∧ mT μ (adR b o f) = (2, len f) ∧ ivR b (adR b o f) = (o, f)
theorem KV_I {μ : Mem} {b : Kb} {κ : KS} {o ci k : Nat} {len : Nat → Nat} {v : Int32} (h : KO μ b o ci len) : sI (KV μ b κ) (adO b o) k v = KV μ b (kI κ o k v) := by
  obtain ⟨hc, ho, -, hi, -⟩ := h
  unfold sI KV
  refine congrArg (Prod.mk μ.1) (congrArg (fun z => (z, _)) ?_)
  funext q j
  show up2 (fun q k => if ivO b q < 25 then κ.1 (ivO b q) k else mI μ q k) (adO b o) k v q j = if ivO b q < 25 then up2 κ.1 o k v (ivO b q) j else mI μ q j
  by_cases hq : ivO b q < 25
  · rw [if_pos hq]
    by_cases h1 : ivO b q = o ∧ j = k
    · obtain ⟨h2, rfl⟩ := h1
      have hqa := hc.1 q hq
      rw [h2] at hqa
      subst hqa
      rw [up2_s, h2, up2_s]
    · rw [up2_n, up2_n, if_pos hq]
      · by_cases h2 : ivO b q = o
        · exact Or.inr (fun h3 => h1 ⟨h2, h3⟩)
        · exact Or.inl h2
      · by_cases h2 : q = adO b o
        · exact Or.inr (fun h3 => h1 ⟨by rw [h2, hi], h3⟩)
        · exact Or.inl h2
  · rw [if_neg hq, up2_n, if_neg hq]
    exact Or.inl (fun h2 => hq (by rw [h2, hi]; exact ho))
theorem KV_A {μ : Mem} {b : Kb} {κ : KS} {o k i : Nat} {v : Int32} (hc : Kc b) (ho : o < 25) (hi : ivR b (adR b o k) = (o, k)) : sA (KV μ b κ) (adR b o k) i v = KV μ b (kA κ o k i v) := by
  unfold sA KV
  refine congrArg (Prod.mk μ.1) (congrArg (Prod.mk _) (congrArg (Prod.mk _) (congrArg (Prod.mk _) (congrArg (fun z => (z, _)) ?_))))
  funext q j
  show up2 (fun q i => if (ivR b q).1 < 25 then κ.2 (ivR b q).1 (ivR b q).2 i else mA μ q i) (adR b o k) i v q j = if (ivR b q).1 < 25 then up3 κ.2 o k i v (ivR b q).1 (ivR b q).2 j else mA μ q j
  by_cases hq : (ivR b q).1 < 25
  · rw [if_pos hq]
    have hqa := hc.2 q hq
    by_cases h1 : ivR b q = (o, k)
    · rw [h1] at hqa
      rw [h1]
      subst hqa
      by_cases hj : j = i
      · rw [hj, up2_s, up3_s]
      · rw [up2_n (Or.inr hj), up3_i hj, if_pos hq, h1]
    · rw [up2_n, up3_n, if_pos hq]
      · by_cases h2 : (ivR b q).1 = o
        · exact Or.inr (fun h3 => h1 (Prod.ext h2 h3))
        · exact Or.inl h2
      · exact Or.inl (fun h2 => h1 (by rw [h2, hi]))
  · rw [if_neg hq, up2_n, if_neg hq]
    exact Or.inl (fun h2 => hq (by rw [h2, hi]; exact ho))
/-- what is written into the memory's own ints doesn't matter where the class's are -/
theorem KV_idem {μ : Mem} {b : Kb} {κ κ' : KS} : KV (KV μ b κ) b κ' = KV μ b κ' := by
  unfold KV
  refine Prod.ext rfl (Prod.ext ?_ (Prod.ext rfl (Prod.ext rfl (Prod.ext ?_ rfl))))
  · funext q k
    show (if ivO b q < 25 then κ'.1 (ivO b q) k else (if ivO b q < 25 then κ.1 (ivO b q) k else mI μ q k)) = if ivO b q < 25 then κ'.1 (ivO b q) k else mI μ q k
    split <;> rfl
  · funext q i
    show (if (ivR b q).1 < 25 then κ'.2 (ivR b q).1 (ivR b q).2 i else (if (ivR b q).1 < 25 then κ.2 (ivR b q).1 (ivR b q).2 i else mA μ q i)) = if (ivR b q).1 < 25 then κ'.2 (ivR b q).1 (ivR b q).2 i else mA μ q i
    split <;> rfl
section M70
variable {Γ : Gm} {M : Mt} {R : Room} {mc ms cl sl : Nat} {Q : Option Value → Mem → Prop} {pc : Nat} {lv : List (Option Value)} {st : List Value} {μ : Mem} {b : Kb} {κ : KS} {o ci : Nat} {len : Nat → Nat}
theorem KV_mI {q k : Nat} (h : ivO b q = o) (ho : o < 25) : mI (KV μ b κ) q k = κ.1 o k := by
  show (if ivO b q < 25 then κ.1 (ivO b q) k else mI μ q k) = _
  rw [h, if_pos ho]
theorem KV_mA {q k i : Nat} (h : ivR b q = (o, k)) (ho : o < 25) : mA (KV μ b κ) q i = κ.2 o k i := by
  show (if (ivR b q).1 < 25 then κ.2 (ivR b q).1 (ivR b q).2 i else mA μ q i) = _
  rw [h, if_pos ho]
theorem k_getI {idx k : Nat} (h : KO μ b o ci len) (d : decode M.2.1 pc = .ok (.getfield idx, 3)) (f : FK M.1.cls idx ci k) (hv : xty ci k = .int ∨ xty ci k = .boolean) (kk : WA Γ M R mc ms cl sl Q (pc + 3) lv (.int (κ.1 o k) :: st) (KV μ b κ)) : WA Γ M R mc ms cl sl Q pc lv (.ref (adO b o) :: st) (KV μ b κ) := by
  refine x_getI d f h.2.2.1 hv ?_
  rw [KV_mI h.2.2.2.1 h.2.1]
  exact kk
theorem k_getA {idx k : Nat} (h : KO μ b o ci len) (d : decode M.2.1 pc = .ok (.getfield idx, 3)) (f : FK M.1.cls idx ci k) (hv : isR (xty ci k)) (hl : len k ≠ 0) (kk : WA Γ M R mc ms cl sl Q (pc + 3) lv (.ref (adR b o k) :: st) (KV μ b κ)) : WA Γ M R mc ms cl sl Q pc lv (.ref (adO b o) :: st) (KV μ b κ) :=
  x_getR (a := adR b o k) d f h.2.2.1 hv (h.2.2.2.2 k hl).1 kk
theorem k_getR {idx k a : Nat} (h : KO μ b o ci len) (d : decode M.2.1 pc = .ok (.getfield idx, 3)) (f : FK M.1.cls idx ci k) (hv : isR (xty ci k)) (ha : mR μ (adO b o) k = some a) (kk : WA Γ M R mc ms cl sl Q (pc + 3) lv (.ref a :: st) (KV μ b κ)) : WA Γ M R mc ms cl sl Q pc lv (.ref (adO b o) :: st) (KV μ b κ) :=
  x_getR (a := a) d f h.2.2.1 hv ha kk
theorem k_getN {idx k : Nat} (h : KO μ b o ci len) (d : decode M.2.1 pc = .ok (.getfield idx, 3)) (f : FK M.1.cls idx ci k) (hv : isR (xty ci k)) (ha : mR μ (adO b o) k = none) (kk : WA Γ M R mc ms cl sl Q (pc + 3) lv (.null :: st) (KV μ b κ)) : WA Γ M R mc ms cl sl Q pc lv (.ref (adO b o) :: st) (KV μ b κ) :=
  x_getN d f h.2.2.1 hv ha kk
theorem k_putI {idx k : Nat} {v : Int32} (h : KO μ b o ci len) (d : decode M.2.1 pc = .ok (.putfield idx, 3)) (f : FK M.1.cls idx ci k) (hfin : (xT ci k).2.2.2 = false ∨ ((xT ci k).2.2.2 = true ∧ M.1.name = "<init>" ∧ (xT ci k).1 = M.1.cls)) (hty : xty ci k = .int ∨ (xty ci k = .boolean ∧ (v = 0 ∨ v = 1))) (kk : WA Γ M R mc ms cl sl Q (pc + 3) lv st (KV μ b (kI κ o k v))) : WA Γ M R mc ms cl sl Q pc lv (.int v :: .ref (adO b o) :: st) (KV μ b κ) := by
  refine x_putI d f hfin h.2.2.1 hty ?_
  rw [KV_I h]
  exact kk
theorem k_iald {k i : Nat} {j : Int32} (h : KO μ b o ci len) (d : decode M.2.1 pc = .ok (.iaload, 1)) (hj : j = nI i) (hi : i < len k) (hl : len k < 2 ^ 31) (kk : WA Γ M R mc ms cl sl Q (pc + 1) lv (.int (κ.2 o k i) :: st) (KV μ b κ)) : WA Γ M R mc ms cl sl Q pc lv (.int j :: .ref (adR b o k) :: st) (KV μ b κ) := by
  obtain ⟨-, h1, h2⟩ := h.2.2.2.2 k (by omega)
  refine x_iald d h1 hj hi hl ?_
  rw [KV_mA h2 h.2.1]
  exact kk
theorem k_iast {k i : Nat} {j v : Int32} (h : KO μ b o ci len) (d : decode M.2.1 pc = .ok (.iastore, 1)) (hj : j = nI i) (hi : i < len k) (hl : len k < 2 ^ 31) (kk : WA Γ M R mc ms cl sl Q (pc + 1) lv st (KV μ b (kA κ o k i v))) : WA Γ M R mc ms cl sl Q pc lv (.int v :: .int j :: .ref (adR b o k) :: st) (KV μ b κ) := by
  obtain ⟨-, h1, h2⟩ := h.2.2.2.2 k (by omega)
  refine x_iast d h1 hj hi hl ?_
  rw [KV_A h.1 h.2.1 h2]
  exact kk
theorem k_alen {k : Nat} {v : Int32} (h : KO μ b o ci len) (d : decode M.2.1 pc = .ok (.arraylength, 1)) (hl : len k ≠ 0) (hv : nI (len k) = v) (kk : WA Γ M R mc ms cl sl Q (pc + 1) lv (.int v :: st) (KV μ b κ)) : WA Γ M R mc ms cl sl Q pc lv (.ref (adR b o k) :: st) (KV μ b κ) :=
  x_alen d (h.2.2.2.2 k hl).2.1 (Or.inl rfl) hv kk
end M70
/-! κ' is κ but for what P names -/
def kq (P : Nat → Nat → Prop) (κ κ' : KS) : Prop := ∀ o k, ¬ P o k → κ'.1 o k = κ.1 o k ∧ κ'.2 o k = κ.2 o k
theorem kq.rf {P : Nat → Nat → Prop} {κ : KS} : kq P κ κ := fun _ _ _ => ⟨rfl, rfl⟩
theorem kq.trans {P : Nat → Nat → Prop} {κ κ' κ'' : KS} (h : kq P κ κ') (h2 : kq P κ' κ'') : kq P κ κ'' := fun o k hp => ⟨(h2 o k hp).1.trans (h o k hp).1, (h2 o k hp).2.trans (h o k hp).2⟩
theorem kq.I {P : Nat → Nat → Prop} {κ κ' : KS} {o k : Nat} {v : Int32} (h : kq P κ κ') (hp : P o k) : kq P κ (kI κ' o k v) := fun a c hn => ⟨(up2_n (by
  by_cases h1 : a = o
  · by_cases h2 : c = k
    · rw [h1, h2] at hn; exact absurd hp hn
    · exact Or.inr h2
  · exact Or.inl h1)).trans (h a c hn).1, (h a c hn).2⟩
theorem kq.A {P : Nat → Nat → Prop} {κ κ' : KS} {o k i : Nat} {v : Int32} (h : kq P κ κ') (hp : P o k) : kq P κ (kA κ' o k i v) := fun a c hn => ⟨(h a c hn).1, (up3_n (by
  by_cases h1 : a = o
  · by_cases h2 : c = k
    · rw [h1, h2] at hn; exact absurd hp hn
    · exact Or.inr h2
  · exact Or.inl h1)).trans (h a c hn).2⟩
theorem kq.mono {P P' : Nat → Nat → Prop} {κ κ' : KS} (h : kq P κ κ') (hp : ∀ o k, P o k → P' o k) : kq P' κ κ' := fun o k hn => h o k (fun z => hn (hp o k z))
/-- how long the rows of an object are, by its class -/
def kLen (ci : Nat) : Nat → Nat := fun f => if ci = 2 then (if f = 0 then 6 else if f = 1 then 4 else if f = 2 then 7 else 0) else if ci = 4 then (if f = 3 then 6 else if f = 4 then 4 else if f = 5 then 7 else if f = 6 then 7 else if f = 7 then 5 else if f = 8 then 5 else 0) else if ci = 6 then (if f = 7 then 160 else if f = 9 then 3 else 0) else if ci = 7 then (if f = 2 then 40 else 0) else if ci = 11 then (if f = 2 then 160 else 0) else (if f = 6 then 7 else if f = 7 then 7 else if f = 8 then 5 else if f = 9 then 16 else if f = 11 then 7 else if f = 12 then 7 else 0)
def tLen (n : Nat) : Nat → Nat := fun f => if f = 0 then n else if f = 1 then 3 else if f = 2 then n else 0
theorem isTh_lt {ci : Nat} (h : isTh ci) : ci < 13 := by unfold isTh at h; omega
/-- a thing's rows -/
def thL : Nat → Nat := fun f => if f = 6 then 7 else if f = 7 then 7 else if f = 8 then 5 else if f = 9 then 16 else if f = 11 then 7 else if f = 12 then 7 else 0
theorem th_i {ci : Nat} (h : isTh ci) {k : Nat} (hk : k = 0 ∨ k = 1 ∨ k = 2 ∨ k = 3 ∨ k = 4 ∨ k = 5 ∨ k = 10) : xty ci k = .int := by
  rcases h with rfl | rfl | rfl | rfl | rfl | rfl <;> rcases hk with rfl | rfl | rfl | rfl | rfl | rfl | rfl <;> rfl
theorem th_a {ci : Nat} (h : isTh ci) {k : Nat} (hk : k = 6 ∨ k = 7 ∨ k = 8 ∨ k = 9 ∨ k = 11 ∨ k = 12) : isR (xty ci k) := by
  rcases h with rfl | rfl | rfl | rfl | rfl | rfl <;> rcases hk with rfl | rfl | rfl | rfl | rfl | rfl <;> exact Or.inr ⟨_, rfl⟩
theorem th_f {ci : Nat} (h : isTh ci) {k : Nat} (hk : k = 2 ∨ k = 3 ∨ k = 4 ∨ k = 5 ∨ k = 10) : (xT ci k).2.2.2 = false := by
  rcases h with rfl | rfl | rfl | rfl | rfl | rfl <;> rcases hk with rfl | rfl | rfl | rfl | rfl <;> rfl
