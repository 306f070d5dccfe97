/-! what the reference's memory and the class's have to do with each other -/
def RK (kd pl : Nat → Nat) (n : Nat) : Prop := (∀ t, t < n → stD (kd t) (pl t) = true) ∧ ∀ i j, i < j → j < n → pl i = pl j → pl i = 0
def eqb (B : Nat) (x y : Int32) : Prop := ∃ v, v < B ∧ x = nI v ∧ y = nI v
def thB (a0 a1 a2 a3 b0 b1 b2 b3 : Int32) (in_ : Prop) : Prop := (∃ v, v < 10 ∧ a0 = nI v ∧ (in_ → b0 = nI v)) ∧ (∃ v, v < 4 ∧ a1 = nI v ∧ (in_ → b1 = nI v)) ∧ (∃ v, v < 10 ∧ a2 = nI v ∧ (in_ → b2 = nI v)) ∧ ∃ v, v < 7 ∧ a3 = nI v - 1 ∧ (in_ → b3 = nI v - 1)
def BA (σ : MS) (κ : KS) (n : Nat) : Prop := n ≤ 5 ∧ σ.1 15 = nI n ∧ κ.1 1 4 = nI n ∧ σ.1 35 = -1 ∧ κ.2 3 6 0 = 0
def BH (σ : MS) (κ : KS) : Prop := (∀ p, p < 6 → eqb 16 (σ.2.2 7 p) (κ.2 1 0 p)) ∧ (∀ g, g < 4 → eqb 4 (σ.2.2 8 g) (κ.2 1 1 g)) ∧ ∀ d, d < 7 → eqb 16 (σ.2.2 9 d) (κ.2 1 2 d)
def BT (σ : MS) (κ : KS) (kd : Nat → Nat) (n : Nat) : Prop := (∀ i, i < 5 → kd i < 6 ∧ σ.2.2 10 i = nI (kd i) ∧ κ.1 (15 + i) 0 = nI (kd i) ∧ κ.1 (15 + i) 1 = nI i ∧ thB (σ.2.2 11 i) (σ.2.2 12 i) (σ.2.2 13 i) (σ.2.2 14 i) (κ.1 (15 + i) 2) (κ.1 (15 + i) 3) (κ.1 (15 + i) 4) (κ.1 (15 + i) 5) (i < n)) ∧ RK kd (fun t => nn (σ.2.2 14 t + 1)) n
def BX (σ : MS) (κ : KS) (nt : Nat) (tn : Nat → Nat) : Prop := (∃ r, r < nt ∧ σ.1 4 = nI r ∧ κ.1 1 5 = nI r) ∧ nt ≤ 6 ∧ σ.1 3 = nI nt ∧ κ.1 0 6 = nI nt ∧ ∀ i, i < nt → ∃ m, m ≤ 160 ∧ σ.2.2 2 i = nI m ∧ (∀ j, j < m → ∃ c, c < 256 ∧ σ.2.2 1 (160 * i + j) = nI c) ∧ TR σ (160 * i) m κ (9 + i) (tn i)
def BP (σ : MS) (κ : KS) : Prop := ∃ fd, fd ≤ 160 ∧ σ.1 6 = nI fd ∧ κ.1 0 3 = nI fd ∧ ∀ i, i < fd → eqb 256 (σ.2.2 5 i) (κ.2 0 2 i)
def BSh (σ : MS) (κ : KS) : Prop := ∀ i, i < 4 → (σ.2.2 52 i = 0 ∧ κ.1 (5 + i) 0 = -1) ∨ (σ.2.2 52 i = 1 ∧ eqb 3 (σ.2.2 53 i) (κ.1 (5 + i) 0) ∧ ∃ z, z ≤ 40 ∧ σ.2.2 54 i = nI z ∧ κ.1 (5 + i) 1 = nI z ∧ ∀ j, j < z → κ.2 (5 + i) 2 j = σ.2.2 55 (40 * i + j))
def BI (σ : MS) (κ : KS) (kd : Nat → Nat) (kp : Bool) (n nt : Nat) : Prop := (kp = false ∧ σ.1 50 = -1) ∨ (kp = true ∧ ∃ k, k ≤ n ∧ σ.1 50 = nI k ∧ κ.1 2 4 = nI k ∧ (∃ r, r < nt ∧ σ.1 51 = nI r ∧ κ.1 2 5 = nI r) ∧ (∀ p, p < 6 → eqb 16 (σ.2.2 48 p) (κ.2 2 0 p)) ∧ (∀ g, g < 4 → eqb 4 (σ.2.2 48 (6 + g)) (κ.2 2 1 g)) ∧ (∀ d, d < 7 → eqb 16 (σ.2.2 48 (10 + d)) (κ.2 2 2 d)) ∧ (∀ i, i < 5 → thB (σ.2.2 49 i) (σ.2.2 49 (5 + i)) (σ.2.2 49 (10 + i)) (σ.2.2 49 (15 + i)) (κ.1 (20 + i) 2) (κ.1 (20 + i) 3) (κ.1 (20 + i) 4) (κ.1 (20 + i) 5) (i < k)) ∧ RK kd (fun t => nn (σ.2.2 49 (15 + t) + 1)) k)
def BRe (σ : MS) (κ : KS) (kd : Nat → Nat) (kp : Bool) (n nt : Nat) (tn : Nat → Nat) : Prop := BA σ κ n ∧ BH σ κ ∧ BT σ κ kd n ∧ BX σ κ nt tn ∧ BP σ κ ∧ BSh σ κ ∧ BI σ κ kd kp n nt
section M9999994
variable {σ τ : MS} {κ κ2 : KS} {kd : Nat → Nat} {kp : Bool} {n nt : Nat} {tn : Nat → Nat}
theorem TR_cg {f m o l : Nat} (hb : bA σ f m = bA τ f m) (h0 : κ2.2 o 0 = κ.2 o 0) (h1 : κ2.2 o 1 = κ.2 o 1) (h : TR σ f m κ o l) : TR τ f m κ2 o l := by
  obtain ⟨c, c1, c2, c3, c4⟩ := h
  rw [rc_cg hb, cX_cg hb] at c1 c2
  refine ⟨c, c1, c2, fun j hj => ?_, fun i hi => ?_⟩
  · rw [h0, c3 j hj, rc_cg hb, cX_cg hb]
  · rw [h1, c4 i hi, rs_cg hb]
theorem TR_ok {f m o l : Nat} (hm : m ≤ 160) (hf : f + m ≤ 960) (hb : ∀ j, j < m → ∃ c, c < 256 ∧ σ.2.2 1 (f + j) = nI c) (h : TR σ f m κ o l) : l ≠ 0 ∧ l ≤ 160 ∧ tOk κ o := by
  have hO : rdO (sB σ f (nI m)) f m := ⟨rfl, rfl, hm, hf, hb⟩
  have hbb : bA σ f m = bA (sB σ f (nI m)) f m := rfl
  obtain ⟨c, c1, c2, c3, c4⟩ := h
  have hs := rd_sim (c := c) (tk := 0) (ta := 0) (ft := 0) (tw := 0) hO
  rw [rc_cg hbb, cX_cg hbb] at c1 c2
  have hp : pbd (rdE (sB σ f (nI m)) f m (0, 0, 0, 0, 0, 0, 0)) = 0 := Decidable.byContradiction fun z => (hs.2 z).1 c1
  obtain ⟨-, g2, g3⟩ := hs.1 hp
  obtain ⟨m0, s1, s2, -⟩ := g3 0 (by decide)
  rw [c2] at g2 s2
  refine ⟨by omega, by omega, fun x hx => ⟨rs (sB σ f (nI m)) f m c x, ?_, by rw [c4 x hx, rs_cg hbb]⟩⟩
  obtain ⟨m1, t1, t2, -⟩ := g3 x hx
  rw [c2] at t2
  omega
end M9999994
