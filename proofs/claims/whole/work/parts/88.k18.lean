/-! the class: its reader; leaves -/
/-- where it is, where the token began, the token, its worth, the fault, how long the code is, the code -/
abbrev CT : Type := Nat × Nat × Int32 × Int32 × Int32 × Nat × (Nat → Int32)
def rK (κ : KS) (c : CT) : KS := (fun a k => if a = 4 then (if k = 2 then nI c.1 else if k = 3 then nI c.2.1 else if k = 4 then c.2.2.1 else if k = 5 then c.2.2.2.1 else if k = 6 then c.2.2.2.2.1 else if k = 8 then nI c.2.2.2.2.2.1 else κ.1 a k) else κ.1 a k, fun a k => if a = 4 ∧ k = 7 then c.2.2.2.2.2.2 else κ.2 a k)
section
variable {κ : KS} {x s l v : Nat} {t u fl y : Int32} {cd : Nat → Int32}
theorem rK_at : kI (rK κ (x, s, t, u, fl, l, cd)) 4 2 (nI v) = rK κ (v, s, t, u, fl, l, cd) := by
  refine Prod.ext (funext fun a => funext fun k => ?_) rfl
  show up2 _ 4 2 (nI v) a k = _
  unfold up2 rK
  by_cases ha : a = 4
  · by_cases hk : k = 2 <;> simp [ha, hk]
  · simp [ha]
theorem rK_st : kI (rK κ (x, s, t, u, fl, l, cd)) 4 3 (nI v) = rK κ (x, v, t, u, fl, l, cd) := by
  refine Prod.ext (funext fun a => funext fun k => ?_) rfl
  show up2 _ 4 3 (nI v) a k = _
  unfold up2 rK
  by_cases ha : a = 4
  · by_cases hk : k = 3 <;> simp [ha, hk]
  · simp [ha]
theorem rK_tk : kI (rK κ (x, s, t, u, fl, l, cd)) 4 4 (y) = rK κ (x, s, y, u, fl, l, cd) := by
  refine Prod.ext (funext fun a => funext fun k => ?_) rfl
  show up2 _ 4 4 (y) a k = _
  unfold up2 rK
  by_cases ha : a = 4
  · by_cases hk : k = 4 <;> simp [ha, hk]
  · simp [ha]
theorem rK_vl : kI (rK κ (x, s, t, u, fl, l, cd)) 4 5 (y) = rK κ (x, s, t, y, fl, l, cd) := by
  refine Prod.ext (funext fun a => funext fun k => ?_) rfl
  show up2 _ 4 5 (y) a k = _
  unfold up2 rK
  by_cases ha : a = 4
  · by_cases hk : k = 5 <;> simp [ha, hk]
  · simp [ha]
theorem rK_ft : kI (rK κ (x, s, t, u, fl, l, cd)) 4 6 (y) = rK κ (x, s, t, u, y, l, cd) := by
  refine Prod.ext (funext fun a => funext fun k => ?_) rfl
  show up2 _ 4 6 (y) a k = _
  unfold up2 rK
  by_cases ha : a = 4
  · by_cases hk : k = 6 <;> simp [ha, hk]
  · simp [ha]
theorem rK_ln : kI (rK κ (x, s, t, u, fl, l, cd)) 4 8 (nI v) = rK κ (x, s, t, u, fl, v, cd) := by
  refine Prod.ext (funext fun a => funext fun k => ?_) rfl
  show up2 _ 4 8 (nI v) a k = _
  unfold up2 rK
  by_cases ha : a = 4
  · by_cases hk : k = 8 <;> simp [ha, hk]
  · simp [ha]
theorem rK_cd : kA (rK κ (x, s, t, u, fl, l, cd)) 4 7 v y = rK κ (x, s, t, u, fl, l, va_up cd v y) := by
  refine Prod.ext rfl (funext fun a => funext fun k => ?_)
  show up3 _ 4 7 v y a k = _
  unfold up3 rK
  by_cases ha : a = 4 ∧ k = 7 <;> simp [ha]
end
theorem nI_sb {a c : Nat} (h : c ≤ a) : nI a - nI c = nI (a - c) := by
  obtain ⟨d, rfl⟩ : ∃ d, a = c + d := ⟨a - c, by omega⟩
  rw [Nat.add_sub_cancel_left, ← nI_add, Int32.add_comm]
  exact Int32.add_sub_cancel _ _
def rdL : Nat → Nat := fun f => if f = 7 then 160 else if f = 9 then 3 else 0
/-- what is read: n letters of the tape, as the reference has them from f on -/
def cO (κ : KS) (σ : MS) (f n : Nat) : Prop := κ.1 4 1 = nI n ∧ rdO σ f n ∧ ∀ i, i < n → κ.2 0 2 i = σ.2.2 1 (f + i)
theorem cO_b {κ : KS} {σ : MS} {f n i : Nat} (h : cO κ σ f n) (hi : i < n) (c : CT) : (rK κ c).2 0 2 i = bA σ f n i := by
  rw [bA, if_pos hi, ← h.2.2 i hi]
  rfl
theorem cO_1 {κ : KS} {σ : MS} {f n : Nat} (h : cO κ σ f n) (c : CT) : (rK κ c).1 4 1 = nI n := h.1
def KTp (μ : Mem) (b : Kb) (lt : Nat) : Prop := mT μ (adR b 0 2) = (2, lt) ∧ Kc b ∧ ivR b (adR b 0 2) = (0, 2) ∧ mR μ (adO b 4) 0 = some (adR b 0 2)
theorem k_tape {Γ : Gm} {M : Mt} {R : Room} {mc ms cl sl : Nat} {Q : Option Value → Mem → Prop} {pc : Nat} {lv : List (Option Value)} {st : List Value} {μ : Mem} {b : Kb} {κ : KS} {lt i n f : Nat} {σ : MS} {c : CT} (h : KTp μ b lt) (hO : cO κ σ f n) (d : decode M.2.1 pc = .ok (.iaload, 1)) (hi : i < n) (hl : n ≤ lt) (hl2 : lt < 2 ^ 31) (kk : WA Γ M R mc ms cl sl Q (pc + 1) lv (.int (bA σ f n i) :: st) (KV μ b (rK κ c))) : WA Γ M R mc ms cl sl Q pc lv (.int (nI i) :: .ref (adR b 0 2) :: st) (KV μ b (rK κ c)) := by
  refine x_iald (i := i) d h.1 rfl (Nat.lt_of_lt_of_le hi hl) hl2 ?_
  rw [KV_mA h.2.2.1 (by decide), cO_b hO hi]
  exact kk
abbrev ltB (v : Int32) : Prop := 97 ≤ v ∧ v ≤ 122
abbrev dgT (v : Int32) : Prop := 48 ≤ v ∧ v ≤ 57
def sgC (v : Int32) : Int32 := if v = 40 then -17 else if v = 41 then -18 else if v = 59 then -16 else if v = 43 then -12 else if v = 45 then -13 else if v = 42 then -14 else if v = 60 then -10 else if v = 61 then -11 else -24
abbrev spP (σ : MS) (f n s e i : Nat) : Prop := sLn i = e - s ∧ ∀ j : Nat, j < sLn i → sBt i j = bA σ f n (s + j)
def keC (σ : MS) (f n s e : Nat) : Int32 := if spP σ f n s e 1 then -19 else if spP σ f n s e 2 then -20 else if spP σ f n s e 3 then -21 else if spP σ f n s e 4 then -7 else if spP σ f n s e 5 then -8 else if spP σ f n s e 6 then -9 else -24
def naC (σ : MS) (f n s e : Nat) : Int32 := if spP σ f n s e 7 then -1 else if spP σ f n s e 8 then -2 else if spP σ f n s e 9 then -3 else if spP σ f n s e 10 then -4 else if spP σ f n s e 11 then -5 else if spP σ f n s e 12 then -6 else -24
def wdC (σ : MS) (f n s e : Nat) : Int32 := if keC σ f n s e = -24 then naC σ f n s e else keC σ f n s e
def dcB (σ : MS) (f n : Nat) : Nat → Nat → Int32 → Nat × Int32
  | 0, h, v => (h, v)
  | m + 1, h, v => if dgT (bA σ f n h) then dcB σ f n m (h + 1) (v * 10 + bA σ f n h - 48) else (h, v)
theorem dcB_in {σ : MS} {f n : Nat} : ∀ (m h : Nat) (v : Int32), h + m ≤ n → h ≤ (dcB σ f n m h v).1 ∧ (dcB σ f n m h v).1 ≤ n
  | 0, h, v, hm => ⟨Nat.le_refl _, by show h ≤ n; omega⟩
  | m + 1, h, v, hm => by
    rw [dcB]
    split
    · have := dcB_in (σ := σ) (f := f) (n := n) m (h + 1) (v * 10 + bA σ f n h - 48) (by omega)
      omega
    · exact ⟨Nat.le_refl _, by show h ≤ n; omega⟩
def cF (c : CT) : CT := (c.1, c.2.1, -24, c.2.2.2.1, if c.2.2.2.2.1 = -1 then nI c.2.1 else c.2.2.2.2.1, c.2.2.2.2.2.1, c.2.2.2.2.2.2)
def cE (v : Int32) (c : CT) : CT := if c.2.2.2.2.2.1 < 160 then (c.1, c.2.1, c.2.2.1, c.2.2.2.1, c.2.2.2.2.1, c.2.2.2.2.2.1 + 1, va_up c.2.2.2.2.2.2 c.2.2.2.2.2.1 v) else c
def cAx (σ : MS) (f n s : Nat) (c : CT) : CT := if n ≤ s then (s, s, -23, c.2.2.2) else if ltB (bA σ f n s) then (weB σ f n (n - s) s, s, wdC σ f n s (weB σ f n (n - s) s), c.2.2.2) else if dgT (bA σ f n s) then ((dcB σ f n (n - s) s 0).1, s, if (dcB σ f n (n - s) s 0).1 - s ≤ 4 then -22 else -24, (dcB σ f n (n - s) s 0).2, c.2.2.2.2) else (s + 1, s, sgC (bA σ f n s), c.2.2.2)
def cA (σ : MS) (f n : Nat) (c : CT) : CT := if c.2.2.2.2.1 = -1 then cAx σ f n (skB σ f n (n - c.1) c.1) c else c
def cX (σ : MS) (f n : Nat) (v : Int32) (c : CT) : CT := if c.2.2.1 = v then cA σ f n c else cF c
section M88
variable {Γ : Gm} {μ : Mem} {b : Kb} {κ : KS} {σ : MS} {f n lt : Nat}
theorem k_isLetter {v : Int32} : XM Γ zX6_isLetter 0 0 0 [.int v] μ (rt (.int (bi (ltB v))) μ) := by
  refine XM.of 0 rfl (by decide) (Nat.le_of_ble_eq_true rfl) ?_
  refine x_iload_n (pc := 0) dX6_isLetter_0 rfl ?_
  refine x_bipush (pc := 1) (v := 97) dX6_isLetter_1 rfl ?_
  refine x_icmp_lt (pc := 3) (tgt := 16) dX6_isLetter_3 rfl (fun h_3 => ?_) (fun h_3 => ?_)
  · refine x_iconst (pc := 16) (v := 0) dX6_isLetter_16 rfl ?_
    refine x_ireturn (pc := 17) dX6_isLetter_17 rfl (by first | rfl | exact bi_nz) ?_
    first
      | (rw [bi_t (show ltB v from ⟨by first | exact Int32.not_lt.mp h_3 | exact Int32.not_lt.mp (by exact h_3), by first | exact Int32.not_lt.mp h_9 | exact Int32.not_lt.mp (by exact h_9)⟩)]
         exact ⟨rfl, rfl⟩)
      | (rw [bi_f (show ¬ ltB v from fun z => absurd (show v < 97 by first | exact h_3 | exact Int32.not_le.mp (by exact h_3)) (Int32.not_lt.mpr z.1))]
         exact ⟨rfl, rfl⟩)
      | (rw [bi_f (show ¬ ltB v from fun z => absurd (show 122 < v by first | exact h_9 | exact Int32.not_le.mp (by exact h_9)) (Int32.not_lt.mpr z.2))]
         exact ⟨rfl, rfl⟩)
  · refine x_iload_n (pc := 6) dX6_isLetter_6 rfl ?_
    refine x_bipush (pc := 7) (v := 122) dX6_isLetter_7 rfl ?_
    refine x_icmp_gt (pc := 9) (tgt := 16) dX6_isLetter_9 rfl (fun h_9 => ?_) (fun h_9 => ?_)
    · refine x_iconst (pc := 16) (v := 0) dX6_isLetter_16 rfl ?_
      refine x_ireturn (pc := 17) dX6_isLetter_17 rfl (by first | rfl | exact bi_nz) ?_
      first
        | (rw [bi_t (show ltB v from ⟨by first | exact Int32.not_lt.mp h_3 | exact Int32.not_lt.mp (by exact h_3), by first | exact Int32.not_lt.mp h_9 | exact Int32.not_lt.mp (by exact h_9)⟩)]
           exact ⟨rfl, rfl⟩)
        | (rw [bi_f (show ¬ ltB v from fun z => absurd (show v < 97 by first | exact h_3 | exact Int32.not_le.mp (by exact h_3)) (Int32.not_lt.mpr z.1))]
           exact ⟨rfl, rfl⟩)
        | (rw [bi_f (show ¬ ltB v from fun z => absurd (show 122 < v by first | exact h_9 | exact Int32.not_le.mp (by exact h_9)) (Int32.not_lt.mpr z.2))]
           exact ⟨rfl, rfl⟩)
    · refine x_iconst (pc := 12) (v := 1) dX6_isLetter_12 rfl ?_
      refine x_goto (pc := 13) (tgt := 17) dX6_isLetter_13 rfl ?_
      refine x_ireturn (pc := 17) dX6_isLetter_17 rfl (by first | rfl | exact bi_nz) ?_
      first
        | (rw [bi_t (show ltB v from ⟨by first | exact Int32.not_lt.mp h_3 | exact Int32.not_lt.mp (by exact h_3), by first | exact Int32.not_lt.mp h_9 | exact Int32.not_lt.mp (by exact h_9)⟩)]
           exact ⟨rfl, rfl⟩)
        | (rw [bi_f (show ¬ ltB v from fun z => absurd (show v < 97 by first | exact h_3 | exact Int32.not_le.mp (by exact h_3)) (Int32.not_lt.mpr z.1))]
           exact ⟨rfl, rfl⟩)
        | (rw [bi_f (show ¬ ltB v from fun z => absurd (show 122 < v by first | exact h_9 | exact Int32.not_le.mp (by exact h_9)) (Int32.not_lt.mpr z.2))]
           exact ⟨rfl, rfl⟩)
theorem k_isDigit {v : Int32} : XM Γ zX6_isDigit 0 0 0 [.int v] μ (rt (.int (bi (dgT v))) μ) := by
  refine XM.of 0 rfl (by decide) (Nat.le_of_ble_eq_true rfl) ?_
  refine x_iload_n (pc := 0) dX6_isDigit_0 rfl ?_
  refine x_bipush (pc := 1) (v := 48) dX6_isDigit_1 rfl ?_
  refine x_icmp_lt (pc := 3) (tgt := 16) dX6_isDigit_3 rfl (fun h_3 => ?_) (fun h_3 => ?_)
  · refine x_iconst (pc := 16) (v := 0) dX6_isDigit_16 rfl ?_
    refine x_ireturn (pc := 17) dX6_isDigit_17 rfl (by first | rfl | exact bi_nz) ?_
    first
      | (rw [bi_t (show dgT v from ⟨by first | exact Int32.not_lt.mp h_3 | exact Int32.not_lt.mp (by exact h_3), by first | exact Int32.not_lt.mp h_9 | exact Int32.not_lt.mp (by exact h_9)⟩)]
         exact ⟨rfl, rfl⟩)
      | (rw [bi_f (show ¬ dgT v from fun z => absurd (show v < 48 by first | exact h_3 | exact Int32.not_le.mp (by exact h_3)) (Int32.not_lt.mpr z.1))]
         exact ⟨rfl, rfl⟩)
      | (rw [bi_f (show ¬ dgT v from fun z => absurd (show 57 < v by first | exact h_9 | exact Int32.not_le.mp (by exact h_9)) (Int32.not_lt.mpr z.2))]
         exact ⟨rfl, rfl⟩)
  · refine x_iload_n (pc := 6) dX6_isDigit_6 rfl ?_
    refine x_bipush (pc := 7) (v := 57) dX6_isDigit_7 rfl ?_
    refine x_icmp_gt (pc := 9) (tgt := 16) dX6_isDigit_9 rfl (fun h_9 => ?_) (fun h_9 => ?_)
    · refine x_iconst (pc := 16) (v := 0) dX6_isDigit_16 rfl ?_
      refine x_ireturn (pc := 17) dX6_isDigit_17 rfl (by first | rfl | exact bi_nz) ?_
      first
        | (rw [bi_t (show dgT v from ⟨by first | exact Int32.not_lt.mp h_3 | exact Int32.not_lt.mp (by exact h_3), by first | exact Int32.not_lt.mp h_9 | exact Int32.not_lt.mp (by exact h_9)⟩)]
           exact ⟨rfl, rfl⟩)
        | (rw [bi_f (show ¬ dgT v from fun z => absurd (show v < 48 by first | exact h_3 | exact Int32.not_le.mp (by exact h_3)) (Int32.not_lt.mpr z.1))]
           exact ⟨rfl, rfl⟩)
        | (rw [bi_f (show ¬ dgT v from fun z => absurd (show 57 < v by first | exact h_9 | exact Int32.not_le.mp (by exact h_9)) (Int32.not_lt.mpr z.2))]
           exact ⟨rfl, rfl⟩)
    · refine x_iconst (pc := 12) (v := 1) dX6_isDigit_12 rfl ?_
      refine x_goto (pc := 13) (tgt := 17) dX6_isDigit_13 rfl ?_
      refine x_ireturn (pc := 17) dX6_isDigit_17 rfl (by first | rfl | exact bi_nz) ?_
      first
        | (rw [bi_t (show dgT v from ⟨by first | exact Int32.not_lt.mp h_3 | exact Int32.not_lt.mp (by exact h_3), by first | exact Int32.not_lt.mp h_9 | exact Int32.not_lt.mp (by exact h_9)⟩)]
           exact ⟨rfl, rfl⟩)
        | (rw [bi_f (show ¬ dgT v from fun z => absurd (show v < 48 by first | exact h_3 | exact Int32.not_le.mp (by exact h_3)) (Int32.not_lt.mpr z.1))]
           exact ⟨rfl, rfl⟩)
        | (rw [bi_f (show ¬ dgT v from fun z => absurd (show 57 < v by first | exact h_9 | exact Int32.not_le.mp (by exact h_9)) (Int32.not_lt.mpr z.2))]
           exact ⟨rfl, rfl⟩)
theorem k_sign {v : Int32} : XM Γ zX6_sign 0 0 0 [.int v] μ (rt (.int (sgC v)) μ) := by
  refine XM.of 0 rfl (by decide) (Nat.le_of_ble_eq_true rfl) ?_
  refine x_iload_n (pc := 0) dX6_sign_0 rfl ?_
  have out : (v.toInt < 40 ∨ 61 < v.toInt) → sgC v = -24 := fun h => by
    have hn : ∀ k : Int32, 40 ≤ k.toInt → k.toInt ≤ 61 → v ≠ k := fun k h1 h2 e => by subst e; omega
    unfold sgC
    rw [if_neg (hn _ (by decide) (by decide)), if_neg (hn _ (by decide) (by decide)), if_neg (hn _ (by decide) (by decide)), if_neg (hn _ (by decide) (by decide)), if_neg (hn _ (by decide) (by decide)), if_neg (hn _ (by decide) (by decide)), if_neg (hn _ (by decide) (by decide)), if_neg (hn _ (by decide) (by decide))]
  rcases (by omega : (v.toInt < 40 ∨ 61 < v.toInt) ∨ v.toInt = 40 ∨ v.toInt = 41 ∨ v.toInt = 42 ∨ v.toInt = 43 ∨ v.toInt = 44 ∨ v.toInt = 45 ∨ v.toInt = 46 ∨ v.toInt = 47 ∨ v.toInt = 48 ∨ v.toInt = 49 ∨ v.toInt = 50 ∨ v.toInt = 51 ∨ v.toInt = 52 ∨ v.toInt = 53 ∨ v.toInt = 54 ∨ v.toInt = 55 ∨ v.toInt = 56 ∨ v.toInt = 57 ∨ v.toInt = 58 ∨ v.toInt = 59 ∨ v.toInt = 60 ∨ v.toInt = 61) with h | h | h | h | h | h | h | h | h | h | h | h | h | h | h | h | h | h | h | h | h | h | h
  · refine x_tableOut (pc := 1) (tgt := 128) dX6_sign_1 h rfl ?_
    refine x_bipush (pc := 128) (v := -24) dX6_sign_128 rfl ?_
    refine x_ireturn (pc := 130) dX6_sign_130 rfl rfl ?_
    rw [out h]
    exact ⟨rfl, rfl⟩
  · have := ti_of h
    subst this
    refine x_tableIn (pc := 1) (off := 103) (tgt := 104) dX6_sign_1 (by decide) (by decide) (by decide) rfl ?_
    refine x_bipush (pc := 104) (v := -17) dX6_sign_104 rfl ?_
    refine x_ireturn (pc := 106) dX6_sign_106 rfl rfl ?_
    exact ⟨congrArg (fun z => some (Value.int z)) (by decide), rfl⟩
  · have := ti_of h
    subst this
    refine x_tableIn (pc := 1) (off := 106) (tgt := 107) dX6_sign_1 (by decide) (by decide) (by decide) rfl ?_
    refine x_bipush (pc := 107) (v := -18) dX6_sign_107 rfl ?_
    refine x_ireturn (pc := 109) dX6_sign_109 rfl rfl ?_
    exact ⟨congrArg (fun z => some (Value.int z)) (by decide), rfl⟩
  · have := ti_of h
    subst this
    refine x_tableIn (pc := 1) (off := 118) (tgt := 119) dX6_sign_1 (by decide) (by decide) (by decide) rfl ?_
    refine x_bipush (pc := 119) (v := -14) dX6_sign_119 rfl ?_
    refine x_ireturn (pc := 121) dX6_sign_121 rfl rfl ?_
    exact ⟨congrArg (fun z => some (Value.int z)) (by decide), rfl⟩
  · have := ti_of h
    subst this
    refine x_tableIn (pc := 1) (off := 112) (tgt := 113) dX6_sign_1 (by decide) (by decide) (by decide) rfl ?_
    refine x_bipush (pc := 113) (v := -12) dX6_sign_113 rfl ?_
    refine x_ireturn (pc := 115) dX6_sign_115 rfl rfl ?_
    exact ⟨congrArg (fun z => some (Value.int z)) (by decide), rfl⟩
  · have := ti_of h
    subst this
    refine x_tableIn (pc := 1) (off := 127) (tgt := 128) dX6_sign_1 (by decide) (by decide) (by decide) rfl ?_
    refine x_bipush (pc := 128) (v := -24) dX6_sign_128 rfl ?_
    refine x_ireturn (pc := 130) dX6_sign_130 rfl rfl ?_
    exact ⟨congrArg (fun z => some (Value.int z)) (by decide), rfl⟩
  · have := ti_of h
    subst this
    refine x_tableIn (pc := 1) (off := 115) (tgt := 116) dX6_sign_1 (by decide) (by decide) (by decide) rfl ?_
    refine x_bipush (pc := 116) (v := -13) dX6_sign_116 rfl ?_
    refine x_ireturn (pc := 118) dX6_sign_118 rfl rfl ?_
    exact ⟨congrArg (fun z => some (Value.int z)) (by decide), rfl⟩
  · have := ti_of h
    subst this
    refine x_tableIn (pc := 1) (off := 127) (tgt := 128) dX6_sign_1 (by decide) (by decide) (by decide) rfl ?_
    refine x_bipush (pc := 128) (v := -24) dX6_sign_128 rfl ?_
    refine x_ireturn (pc := 130) dX6_sign_130 rfl rfl ?_
    exact ⟨congrArg (fun z => some (Value.int z)) (by decide), rfl⟩
  · have := ti_of h
    subst this
    refine x_tableIn (pc := 1) (off := 127) (tgt := 128) dX6_sign_1 (by decide) (by decide) (by decide) rfl ?_
    refine x_bipush (pc := 128) (v := -24) dX6_sign_128 rfl ?_
    refine x_ireturn (pc := 130) dX6_sign_130 rfl rfl ?_
    exact ⟨congrArg (fun z => some (Value.int z)) (by decide), rfl⟩
  · have := ti_of h
    subst this
    refine x_tableIn (pc := 1) (off := 127) (tgt := 128) dX6_sign_1 (by decide) (by decide) (by decide) rfl ?_
    refine x_bipush (pc := 128) (v := -24) dX6_sign_128 rfl ?_
    refine x_ireturn (pc := 130) dX6_sign_130 rfl rfl ?_
    exact ⟨congrArg (fun z => some (Value.int z)) (by decide), rfl⟩
  · have := ti_of h
    subst this
    refine x_tableIn (pc := 1) (off := 127) (tgt := 128) dX6_sign_1 (by decide) (by decide) (by decide) rfl ?_
    refine x_bipush (pc := 128) (v := -24) dX6_sign_128 rfl ?_
    refine x_ireturn (pc := 130) dX6_sign_130 rfl rfl ?_
    exact ⟨congrArg (fun z => some (Value.int z)) (by decide), rfl⟩
  · have := ti_of h
    subst this
    refine x_tableIn (pc := 1) (off := 127) (tgt := 128) dX6_sign_1 (by decide) (by decide) (by decide) rfl ?_
    refine x_bipush (pc := 128) (v := -24) dX6_sign_128 rfl ?_
    refine x_ireturn (pc := 130) dX6_sign_130 rfl rfl ?_
    exact ⟨congrArg (fun z => some (Value.int z)) (by decide), rfl⟩
  · have := ti_of h
    subst this
    refine x_tableIn (pc := 1) (off := 127) (tgt := 128) dX6_sign_1 (by decide) (by decide) (by decide) rfl ?_
    refine x_bipush (pc := 128) (v := -24) dX6_sign_128 rfl ?_
    refine x_ireturn (pc := 130) dX6_sign_130 rfl rfl ?_
    exact ⟨congrArg (fun z => some (Value.int z)) (by decide), rfl⟩
  · have := ti_of h
    subst this
    refine x_tableIn (pc := 1) (off := 127) (tgt := 128) dX6_sign_1 (by decide) (by decide) (by decide) rfl ?_
    refine x_bipush (pc := 128) (v := -24) dX6_sign_128 rfl ?_
    refine x_ireturn (pc := 130) dX6_sign_130 rfl rfl ?_
    exact ⟨congrArg (fun z => some (Value.int z)) (by decide), rfl⟩
  · have := ti_of h
    subst this
    refine x_tableIn (pc := 1) (off := 127) (tgt := 128) dX6_sign_1 (by decide) (by decide) (by decide) rfl ?_
    refine x_bipush (pc := 128) (v := -24) dX6_sign_128 rfl ?_
    refine x_ireturn (pc := 130) dX6_sign_130 rfl rfl ?_
    exact ⟨congrArg (fun z => some (Value.int z)) (by decide), rfl⟩
  · have := ti_of h
    subst this
    refine x_tableIn (pc := 1) (off := 127) (tgt := 128) dX6_sign_1 (by decide) (by decide) (by decide) rfl ?_
    refine x_bipush (pc := 128) (v := -24) dX6_sign_128 rfl ?_
    refine x_ireturn (pc := 130) dX6_sign_130 rfl rfl ?_
    exact ⟨congrArg (fun z => some (Value.int z)) (by decide), rfl⟩
  · have := ti_of h
    subst this
    refine x_tableIn (pc := 1) (off := 127) (tgt := 128) dX6_sign_1 (by decide) (by decide) (by decide) rfl ?_
    refine x_bipush (pc := 128) (v := -24) dX6_sign_128 rfl ?_
    refine x_ireturn (pc := 130) dX6_sign_130 rfl rfl ?_
    exact ⟨congrArg (fun z => some (Value.int z)) (by decide), rfl⟩
  · have := ti_of h
    subst this
    refine x_tableIn (pc := 1) (off := 127) (tgt := 128) dX6_sign_1 (by decide) (by decide) (by decide) rfl ?_
    refine x_bipush (pc := 128) (v := -24) dX6_sign_128 rfl ?_
    refine x_ireturn (pc := 130) dX6_sign_130 rfl rfl ?_
    exact ⟨congrArg (fun z => some (Value.int z)) (by decide), rfl⟩
  · have := ti_of h
    subst this
    refine x_tableIn (pc := 1) (off := 127) (tgt := 128) dX6_sign_1 (by decide) (by decide) (by decide) rfl ?_
    refine x_bipush (pc := 128) (v := -24) dX6_sign_128 rfl ?_
    refine x_ireturn (pc := 130) dX6_sign_130 rfl rfl ?_
    exact ⟨congrArg (fun z => some (Value.int z)) (by decide), rfl⟩
  · have := ti_of h
    subst this
    refine x_tableIn (pc := 1) (off := 127) (tgt := 128) dX6_sign_1 (by decide) (by decide) (by decide) rfl ?_
    refine x_bipush (pc := 128) (v := -24) dX6_sign_128 rfl ?_
    refine x_ireturn (pc := 130) dX6_sign_130 rfl rfl ?_
    exact ⟨congrArg (fun z => some (Value.int z)) (by decide), rfl⟩
  · have := ti_of h
    subst this
    refine x_tableIn (pc := 1) (off := 109) (tgt := 110) dX6_sign_1 (by decide) (by decide) (by decide) rfl ?_
    refine x_bipush (pc := 110) (v := -16) dX6_sign_110 rfl ?_
    refine x_ireturn (pc := 112) dX6_sign_112 rfl rfl ?_
    exact ⟨congrArg (fun z => some (Value.int z)) (by decide), rfl⟩
  · have := ti_of h
    subst this
    refine x_tableIn (pc := 1) (off := 121) (tgt := 122) dX6_sign_1 (by decide) (by decide) (by decide) rfl ?_
    refine x_bipush (pc := 122) (v := -10) dX6_sign_122 rfl ?_
    refine x_ireturn (pc := 124) dX6_sign_124 rfl rfl ?_
    exact ⟨congrArg (fun z => some (Value.int z)) (by decide), rfl⟩
  · have := ti_of h
    subst this
    refine x_tableIn (pc := 1) (off := 124) (tgt := 125) dX6_sign_1 (by decide) (by decide) (by decide) rfl ?_
    refine x_bipush (pc := 125) (v := -11) dX6_sign_125 rfl ?_
    refine x_ireturn (pc := 127) dX6_sign_127 rfl rfl ?_
    exact ⟨congrArg (fun z => some (Value.int z)) (by decide), rfl⟩
theorem k_fail {c : CT} (hK : KO μ b 4 6 rdL) : XM Γ zX6_fail 0 0 0 [.ref (adO b 4)] (KV μ b (rK κ c)) (rv (KV μ b (rK κ (cF c)))) := by
  refine XM.of 0 rfl (by decide) (Nat.le_of_ble_eq_true rfl) ?_
  obtain ⟨x, s, t, u, fl, l, cd⟩ := c
  refine x_aload_n (pc := 0) dX6_fail_0 rfl ?_
  refine k_getI (pc := 1) hK dX6_fail_1 fk_6_31 (Or.inl rfl) ?_
  refine x_iconst (pc := 4) (v := -1) dX6_fail_4 rfl ?_
  refine x_icmp_ne (pc := 5) (tgt := 16) dX6_fail_5 rfl (fun h_5 => ?_) (fun h_5 => ?_)
  · try rw [show (rK κ (x, s, t, u, fl, l, cd)).1 4 3 = nI s from rfl, rK_ft]
    refine x_aload_n (pc := 16) dX6_fail_16 rfl ?_
    refine x_bipush (pc := 17) (v := -24) dX6_fail_17 rfl ?_
    refine k_putI (pc := 19) hK dX6_fail_19 fk_6_25 (Or.inl rfl) (Or.inl rfl) ?_
    rw [rK_tk]
    refine x_return (pc := 22) dX6_fail_22 rfl ?_
    dsimp only [cF]
    first
      | (rw [if_pos (show fl = -1 by first | exact h_5 | exact Decidable.not_not.mp h_5)]
         exact ⟨rfl, rfl⟩)
      | (rw [if_neg (show ¬ fl = -1 by exact h_5)]
         exact ⟨rfl, rfl⟩)
  · refine x_aload_n (pc := 8) dX6_fail_8 rfl ?_
    refine x_aload_n (pc := 9) dX6_fail_9 rfl ?_
    refine k_getI (pc := 10) hK dX6_fail_10 fk_6_22 (Or.inl rfl) ?_
    refine k_putI (pc := 13) hK dX6_fail_13 fk_6_31 (Or.inl rfl) (Or.inl rfl) ?_
    try rw [show (rK κ (x, s, t, u, fl, l, cd)).1 4 3 = nI s from rfl, rK_ft]
    refine x_aload_n (pc := 16) dX6_fail_16 rfl ?_
    refine x_bipush (pc := 17) (v := -24) dX6_fail_17 rfl ?_
    refine k_putI (pc := 19) hK dX6_fail_19 fk_6_25 (Or.inl rfl) (Or.inl rfl) ?_
    rw [rK_tk]
    refine x_return (pc := 22) dX6_fail_22 rfl ?_
    dsimp only [cF]
    first
      | (rw [if_pos (show fl = -1 by first | exact h_5 | exact Decidable.not_not.mp h_5)]
         exact ⟨rfl, rfl⟩)
      | (rw [if_neg (show ¬ fl = -1 by exact h_5)]
         exact ⟨rfl, rfl⟩)
theorem k_emit {c : CT} {v : Int32} (hK : KO μ b 4 6 rdL) (hl : c.2.2.2.2.2.1 ≤ 160) : XM Γ zX6_emit 0 0 0 [.ref (adO b 4), .int v] (KV μ b (rK κ c)) (rv (KV μ b (rK κ (cE v c)))) := by
  refine XM.of 0 rfl (by decide) (Nat.le_of_ble_eq_true rfl) ?_
  obtain ⟨x, s, t, u, fl, l, cd⟩ := c
  have hl : l ≤ 160 := hl
  refine x_aload_n (pc := 0) dX6_emit_0 rfl ?_
  refine k_getI (pc := 1) hK dX6_emit_1 fk_6_37 (Or.inl rfl) ?_
  refine x_aload_n (pc := 4) dX6_emit_4 rfl ?_
  refine k_getA (pc := 5) hK dX6_emit_5 fk_6_34 (Or.inr ⟨_, rfl⟩) (by decide) ?_
  refine k_alen (pc := 8) hK dX6_emit_8 (by decide) rfl ?_
  refine x_icmp_ge (pc := 9) (tgt := 32) dX6_emit_9 rfl (fun h_9 => ?_) (fun h_9 => ?_)
  · try rw [show (rK κ (x, s, t, u, fl, l, va_up cd l v)).1 4 8 + 1 = nI (l + 1) from nI_1 l, rK_ln]
    refine x_return (pc := 32) dX6_emit_32 rfl ?_
    dsimp only [cE]
    first
      | (rw [if_pos (show l < 160 from Nat.lt_of_not_le (fun z => h_9 (nI_le (by exact z) (by omega))))]
         exact ⟨rfl, rfl⟩)
      | (rw [if_neg (show ¬ l < 160 from fun z => absurd h_9 (nI_ge z (by decide)))]
         exact ⟨rfl, rfl⟩)
  · refine x_aload_n (pc := 12) dX6_emit_12 rfl ?_
    refine k_getA (pc := 13) hK dX6_emit_13 fk_6_34 (Or.inr ⟨_, rfl⟩) (by decide) ?_
    refine x_aload_n (pc := 16) dX6_emit_16 rfl ?_
    refine k_getI (pc := 17) hK dX6_emit_17 fk_6_37 (Or.inl rfl) ?_
    refine x_iload_n (pc := 20) dX6_emit_20 rfl ?_
    refine k_iast (pc := 21) hK dX6_emit_21 ((rfl : (rK κ (x, s, t, u, fl, l, cd)).1 4 8 = nI l)) (show l < 160 from Nat.lt_of_not_le (fun z => h_9 (nI_le (by exact z) (by omega)))) (by decide) ?_
    rw [rK_cd]
    refine x_aload_n (pc := 22) dX6_emit_22 rfl ?_
    refine x_dup (pc := 23) dX6_emit_23 rfl ?_
    refine k_getI (pc := 24) hK dX6_emit_24 fk_6_37 (Or.inl rfl) ?_
    refine x_iconst (pc := 27) (v := 1) dX6_emit_27 rfl ?_
    refine x_iadd (pc := 28) dX6_emit_28 ?_
    refine k_putI (pc := 29) hK dX6_emit_29 fk_6_37 (Or.inl rfl) (Or.inl rfl) ?_
    try rw [show (rK κ (x, s, t, u, fl, l, va_up cd l v)).1 4 8 + 1 = nI (l + 1) from nI_1 l, rK_ln]
    refine x_return (pc := 32) dX6_emit_32 rfl ?_
    dsimp only [cE]
    first
      | (rw [if_pos (show l < 160 from Nat.lt_of_not_le (fun z => h_9 (nI_le (by exact z) (by omega))))]
         exact ⟨rfl, rfl⟩)
      | (rw [if_neg (show ¬ l < 160 from fun z => absurd h_9 (nI_ge z (by decide)))]
         exact ⟨rfl, rfl⟩)
theorem k_spells {x s l : Nat} {t u fl : Int32} {cd : Nat → Int32} {i : Nat} (hK : KO μ b 4 6 rdL) (hT : KTp μ b lt) (hO : cO κ σ f n) (hl : n ≤ lt) (hl2 : lt < 2 ^ 31) (hi : i < 13) (hs : s ≤ x) (hx : x ≤ n) : XM Γ zX6_spells 4 0 0 [.ref (adO b 4), .ref (sK Γ i)] (KV μ b (rK κ (x, s, t, u, fl, l, cd))) (rt (.int (bi (spP σ f n s x i))) (KV μ b (rK κ (x, s, t, u, fl, l, cd)))) := by
  refine XM.of 1 rfl (by decide) (Nat.le_of_ble_eq_true rfl) ?_
  have hn160 := hO.2.1.2.2.1
  have h37 := sLn_lt hi
  have esb : (rK κ (x, s, t, u, fl, l, cd)).1 4 2 - (rK κ (x, s, t, u, fl, l, cd)).1 4 3 = nI (x - s) := nI_sb hs
  have L : ∀ m j : Nat, j + m = sLn i → sLn i = x - s → (∀ k : Nat, k < j → sBt i k = bA σ f n (s + k)) → WA Γ zX6_spells (xrm 4 0 0) 0 0 0 0 (rt (.int (bi (spP σ f n s x i))) (KV μ b (rK κ (x, s, t, u, fl, l, cd)))) 20 [some (.ref (adO b 4)), some (.ref (sK Γ i)), some (.int (nI j))] [] (KV μ b (rK κ (x, s, t, u, fl, l, cd))) := by
    intro m
    induction m with
    | zero =>
      intro j hj he hk
      refine x_iload_n (pc := 20) dX6_spells_20 rfl ?_
      refine x_aload_n (pc := 21) dX6_spells_21 rfl ?_
      refine x_callG (pc := 22) (As := []) dX6_spells_22 mJ0_length_8abf5 lg_6_134 hi (c_length hi) rfl rfl (Nat.le_of_ble_eq_true rfl) ⟨by decide, by decide⟩ ⟨Nat.zero_le _, Nat.zero_le _⟩ (k_rt ?_)
      refine x_icmp_ge (pc := 25) (tgt := 55) dX6_spells_25 rfl (fun h_25 => ?_) (fun h_25 => absurd (by first | exact nI_le (by omega) (by omega) | exact Int32.le_refl _) h_25)
      refine x_iconst (pc := 55) (v := 1) dX6_spells_55 rfl ?_
      refine x_ireturn (pc := 56) dX6_spells_56 rfl (by first | rfl | exact bi_nz) ?_
      rw [bi_t (show spP σ f n s x i from ⟨he, fun k hk2 => hk k (by omega)⟩)]
      exact ⟨rfl, rfl⟩
    | succ m ih =>
      intro j hj he hk
      refine x_iload_n (pc := 20) dX6_spells_20 rfl ?_
      refine x_aload_n (pc := 21) dX6_spells_21 rfl ?_
      refine x_callG (pc := 22) (As := []) dX6_spells_22 mJ0_length_8abf5 lg_6_134 hi (c_length hi) rfl rfl (Nat.le_of_ble_eq_true rfl) ⟨by decide, by decide⟩ ⟨Nat.zero_le _, Nat.zero_le _⟩ (k_rt ?_)
      refine x_icmp_ge (pc := 25) (tgt := 55) dX6_spells_25 rfl (fun h_25 => absurd h_25 (nI_ge (by omega) (by omega))) (fun h_25 => ?_)
      refine x_aload_n (pc := 28) dX6_spells_28 rfl ?_
      refine x_iload_n (pc := 29) dX6_spells_29 rfl ?_
      refine x_callG (pc := 30) (As := [.int _]) dX6_spells_30 mJ0_charAt_5068e lg_6_138 hi (c_charAt hi (show j < sLn i by omega)) rfl rfl (Nat.le_of_ble_eq_true rfl) ⟨by decide, by decide⟩ ⟨Nat.zero_le _, Nat.zero_le _⟩ (k_rt ?_)
      refine x_aload_n (pc := 33) dX6_spells_33 rfl ?_
      refine k_getR (pc := 34) hK dX6_spells_34 fk_6_9 (Or.inr ⟨_, rfl⟩) (hT.2.2.2) ?_
      refine x_aload_n (pc := 37) dX6_spells_37 rfl ?_
      refine k_getI (pc := 38) hK dX6_spells_38 fk_6_22 (Or.inl rfl) ?_
      refine x_iload_n (pc := 41) dX6_spells_41 rfl ?_
      refine x_iadd (pc := 42) dX6_spells_42 ?_
      rw [show (rK κ (x, s, t, u, fl, l, cd)).1 4 3 + nI j = nI (s + j) from nI_add s j]
      refine k_tape (pc := 43) hT hO dX6_spells_43 (by omega) hl hl2 ?_
      refine x_icmp_eq (pc := 44) (tgt := 49) dX6_spells_44 rfl (fun h_44 => ?_) (fun h_44 => ?_)
      · refine x_iinc (pc := 49) (lv2 := [_, _, _]) dX6_spells_49 (by decide) rfl rfl (nI_1 _) rfl ?_
        refine x_goto (pc := 52) (tgt := 20) dX6_spells_52 rfl ?_
        refine ih (j + 1) (by omega) he (fun k hk2 => ?_)
        rcases Nat.lt_or_ge k j with q | q
        · exact hk k q
        · obtain rfl : k = j := by omega
          exact h_44
      · refine x_iconst (pc := 47) (v := 0) dX6_spells_47 rfl ?_
        refine x_ireturn (pc := 48) dX6_spells_48 rfl (by first | rfl | exact bi_nz) ?_
        rw [bi_f (show ¬ spP σ f n s x i from fun z => absurd (z.2 j (by omega)) (by exact h_44))]
        exact ⟨rfl, rfl⟩
  refine x_aload_n (pc := 0) dX6_spells_0 rfl ?_
  refine x_callG (pc := 1) (As := []) dX6_spells_1 mJ0_length_8abf5 lg_6_134 hi (c_length hi) rfl rfl (Nat.le_of_ble_eq_true rfl) ⟨by decide, by decide⟩ ⟨Nat.zero_le _, Nat.zero_le _⟩ (k_rt ?_)
  refine x_aload_n (pc := 4) dX6_spells_4 rfl ?_
  refine k_getI (pc := 5) hK dX6_spells_5 fk_6_19 (Or.inl rfl) ?_
  refine x_aload_n (pc := 8) dX6_spells_8 rfl ?_
  refine k_getI (pc := 9) hK dX6_spells_9 fk_6_22 (Or.inl rfl) ?_
  refine x_isub (pc := 12) dX6_spells_12 ?_
  rw [esb]
  refine x_icmp_eq (pc := 13) (tgt := 18) dX6_spells_13 rfl (fun h_13 => ?_) (fun h_13 => ?_)
  · refine x_iconst (pc := 18) (v := 0) dX6_spells_18 rfl ?_
    refine x_istore_n (pc := 19) (lv2 := [_, _, _]) dX6_spells_19 (by decide) rfl rfl ?_
    have e : sLn i = x - s := (nI_eq (by omega) (by omega)).mp h_13
    exact L (sLn i) 0 (by omega) e (fun k hk => absurd hk (by omega))
  · refine x_iconst (pc := 16) (v := 0) dX6_spells_16 rfl ?_
    refine x_ireturn (pc := 17) dX6_spells_17 rfl (by first | rfl | exact bi_nz) ?_
    rw [bi_f (show ¬ spP σ f n s x i from fun z => h_13 (by rw [z.1]))]
    exact ⟨rfl, rfl⟩
end M88
