/-! both go on together: questions -/
def ps (σ s : MS) : Prop := (∀ k, pk k → s.1 k = σ.1 k) ∧ (∀ k, pa k → k ≠ 8 → k ≠ 9 → s.2.2 k = σ.2.2 k) ∧ (∀ g, g < 4 → s.2.2 8 g = σ.2.2 8 g) ∧ ∀ d, d < 7 → s.2.2 9 d = σ.2.2 9 d
theorem ps.pq {σ s : MS} (h : pq σ s) : ps σ s := ⟨h.1, fun k hk _ _ => h.2 k hk, fun g _ => by rw [h.2 8 (Or.inl (by decide))], fun d _ => by rw [h.2 9 (Or.inl (by decide))]⟩
theorem ps.pq8 {σ s : MS} (h : pq8 σ s) : ps σ s := ⟨h.1, fun k hk h8 _ => h.2.1 k hk h8, h.2.2, fun d _ => by rw [h.2.1 9 (Or.inl (by decide)) (by decide)]⟩
theorem ps.pq9 {σ s : MS} (h : pq9 σ s) : ps σ s := ⟨h.1, fun k hk _ h9 => h.2.1 k hk h9, fun g _ => by rw [h.2.1 8 (Or.inl (by decide)) (by decide)], h.2.2⟩
def JV {α : Type} (fv : α → Value) (Γ : Gm) (zc zm : Mt) (dc mc ms dm : Nat) (As : List Value) : Prop := ∀ (μ : Mem) (b : Kb) (κ : KS) (σ : MS) (kd : Nat → Nat) (kp : Bool) (n nt : Nat) (tn : Nat → Nat), CI μ b kd kp 4 nt tn → BRe σ κ kd kp n nt tn → ∃ (v : α) (C : KS → (Nat → Nat) → Bool → Nat → Nat → (Nat → Nat) → Prop) (E : MS → Prop), XM Γ zc dc mc ms (.ref (adO b 0) :: As) (KV μ b κ) (fun r M => r = some (fv v) ∧ ∃ μ2 b2 κ2 kd2 kp2 n2 nt2 tn2, M = KV μ2 b2 κ2 ∧ CI μ2 b2 kd2 kp2 4 nt2 tn2 ∧ FO μ b κ μ2 b2 κ2 ∧ adO b2 0 = adO b 0 ∧ C κ2 kd2 kp2 n2 nt2 tn2) ∧ (∀ (μ' : Mem) (a : Ma), MOK μ' a → XM Γ zm dm 0 0 (.ref a.1 :: As) (MV μ' a σ) (fun r M => r = some (fv v) ∧ ∃ σ2, M = MV μ' a σ2 ∧ E σ2)) ∧ ∀ κ2 kd2 kp2 n2 nt2 tn2 σ2, C κ2 kd2 kp2 n2 nt2 tn2 → E σ2 → BRe σ2 κ2 kd2 kp2 n2 nt2 tn2
abbrev JX (Γ : Gm) (zc zm : Mt) (dc mc ms dm : Nat) (As : List Value) : Prop := JV Value.int Γ zc zm dc mc ms dm As
section M9999996
variable {Γ : Gm} {σ s : MS} {κ κ2 : KS} {kd : Nat → Nat} {kp : Bool} {n nt : Nat} {tn : Nat → Nat}
theorem BX_fr (h : BX σ κ nt tn) (h3 : s.1 3 = σ.1 3) (h4 : s.1 4 = σ.1 4) (hs : s.2.2 1 = σ.2.2 1 ∧ s.2.2 2 = σ.2.2 2) (k15 : κ2.1 1 5 = κ.1 1 5) (k06 : κ2.1 0 6 = κ.1 0 6) (hk : ∀ i, i < 6 → κ2.2 (9 + i) 0 = κ.2 (9 + i) 0 ∧ κ2.2 (9 + i) 1 = κ.2 (9 + i) 1) : BX s κ2 nt tn := by
  obtain ⟨x0, x1, x2, x3, x4⟩ := h
  refine ⟨by rw [h4, k15]; exact x0, x1, by rw [h3]; exact x2, by rw [k06]; exact x3, fun i hi => ?_⟩
  obtain ⟨m, m1, m2, m3, m4⟩ := x4 i hi
  obtain ⟨q1, q2⟩ := hk i (by omega)
  refine ⟨m, m1, by rw [hs.2]; exact m2, by rw [hs.1]; exact m3, TR_cg ?_ q1 q2 m4⟩
  funext j
  unfold bA
  rw [hs.1]
theorem BR_sc (h : BRe σ κ kd kp n nt tn) (hs : ps σ s) (hk : kq scP κ κ2) (h60 : κ2.2 3 6 0 = 0) : BRe s κ2 kd kp n nt tn := by
  obtain ⟨⟨a1, a2, a3, a4, a5⟩, ⟨b1, b2, b3⟩, ⟨c1, c2⟩, hX, hP, hS, hI⟩ := h
  obtain ⟨p1, p2, p3, p4⟩ := hs
  have k1 : ∀ a k, a < 3 ∨ (5 ≤ a ∧ a < 9) ∨ (15 ≤ a ∧ k < 6) → κ2.1 a k = κ.1 a k ∧ κ2.2 a k = κ.2 a k := fun a k h => hk a k (by unfold scP; omega)
  have i1 : ∀ k, k < 16 ∨ k = 35 ∨ k = 50 ∨ k = 51 → s.1 k = σ.1 k := fun k h => p1 k h
  have r1 : ∀ k, k < 8 ∨ (9 < k ∧ k < 15) ∨ k = 48 ∨ k = 49 ∨ 51 < k → s.2.2 k = σ.2.2 k := fun k h => p2 k (by unfold pa; omega) (by omega) (by omega)
  refine ⟨⟨a1, by rw [i1 15 (by omega)]; exact a2, by rw [(k1 1 4 (by omega)).1]; exact a3, by rw [i1 35 (by omega)]; exact a4, h60⟩, ⟨by rw [r1 7 (by omega), (k1 1 0 (by omega)).2]; exact b1, fun g hg => by rw [p3 g hg, (k1 1 1 (by omega)).2]; exact b2 g hg, fun d hd => by rw [p4 d hd, (k1 1 2 (by omega)).2]; exact b3 d hd⟩, ⟨fun i hi => ?_, by rw [r1 14 (by omega)]; exact c2⟩, BX_fr hX (i1 3 (by omega)) (i1 4 (by omega)) ⟨r1 1 (by omega), r1 2 (by omega)⟩ (k1 1 5 (by omega)).1 (k1 0 6 (by omega)).1 (fun i hi => ⟨(hk (9 + i) 0 (by unfold scP; omega)).2, (hk (9 + i) 1 (by unfold scP; omega)).2⟩), ?_, fun i hi => ?_, ?_⟩
  · rw [r1 10 (by omega), r1 11 (by omega), r1 12 (by omega), r1 13 (by omega), r1 14 (by omega), (k1 (15 + i) 0 (by omega)).1, (k1 (15 + i) 1 (by omega)).1, (k1 (15 + i) 2 (by omega)).1, (k1 (15 + i) 3 (by omega)).1, (k1 (15 + i) 4 (by omega)).1, (k1 (15 + i) 5 (by omega)).1]
    exact c1 i hi
  · unfold BP
    rw [i1 6 (by omega), (k1 0 3 (by omega)).1, r1 5 (by omega), (k1 0 2 (by omega)).2]
    exact hP
  · rw [r1 52 (by omega), r1 53 (by omega), r1 54 (by omega), r1 55 (by omega), (k1 (5 + i) 0 (by omega)).1, (k1 (5 + i) 1 (by omega)).1, (k1 (5 + i) 2 (by omega)).2]
    exact hS i hi
  · unfold BI
    rw [i1 50 (by omega), i1 51 (by omega), r1 48 (by omega), r1 49 (by omega), (k1 2 4 (by omega)).1, (k1 2 5 (by omega)).1, (k1 2 0 (by omega)).2, (k1 2 1 (by omega)).2, (k1 2 2 (by omega)).2]
    rcases hI with hI | ⟨hI, k, g1, g2, g3, g4, g5, g6, g7, g8, g9⟩
    · exact Or.inl hI
    · refine Or.inr ⟨hI, k, g1, g2, g3, g4, g5, g6, g7, fun i hi => ?_, g9⟩
      rw [(k1 (20 + i) 2 (by omega)).1, (k1 (20 + i) 3 (by omega)).1, (k1 (20 + i) 4 (by omega)).1, (k1 (20 + i) 5 (by omega)).1]
      exact g8 i hi
/-- a question: the class's and the reference's answers alike -/
theorem JQ {α : Type} {fv : α → Value} {zc zm : Mt} {dc dm : Nat} {As : List Value} (h : ∀ (μ : Mem) (b : Kb) (κ : KS) (σ : MS) (D : PD) (kp : Bool) (n r m nt : Nat) (tn : Nat → Nat), RR σ D n r m → roomOk D n → CX μ b κ D kp n r nt tn → BRe σ κ (D 0) kp n nt tn → ∃ v : α, XM Γ zc dc 0 0 (.ref (adO b 0) :: As) (KV μ b κ) (PP μ b κ (fv v)) ∧ ∀ (μ' : Mem) (a : Ma), MOK μ' a → XM Γ zm dm 0 0 (.ref a.1 :: As) (MV μ' a σ) (fun r M => ∃ s2 : MS, r = some (fv v) ∧ M = MV μ' a s2 ∧ ps σ s2)) : JV fv Γ zc zm dc 0 0 dm As := by
  intro μ b κ σ kd kp n nt tn hI hB
  obtain ⟨D, r, m, rfl, hR, hO, -, -, hX⟩ := BR_D hB
  obtain ⟨v, h1, h2⟩ := h μ b κ σ D kp n r m nt tn hR hO (hX μ b hI) hB
  refine ⟨v, fun κ2 kd2 kp2 n2 nt2 tn2 => kd2 = D 0 ∧ kp2 = kp ∧ n2 = n ∧ nt2 = nt ∧ tn2 = tn ∧ kq scP κ κ2 ∧ κ2.2 3 6 0 = 0, ps σ, XM_post h1 (fun x M hx => ?_), fun μ' a hM => XM_post (h2 μ' a hM) (fun x M hx => ?_), ?_⟩
  · obtain ⟨μ2, κ2, rfl, rfl, e, q, h60⟩ := hx
    refine ⟨rfl, μ2, b, κ2, D 0, kp, n, nt, tn, rfl, ?_, ?_, rfl, rfl, rfl, rfl, rfl, rfl, q, h60⟩
    · rcases e with rfl | rfl
      · exact hI
      · exact (CI_t3 (κ := κ) hI).1
    · rcases e with rfl | rfl
      · exact FO_any
      · exact (CI_t3 (κ := κ) hI).2.trans FO_any
  · obtain ⟨s2, rfl, rfl, hs⟩ := hx
    exact ⟨rfl, s2, rfl, hs⟩
  · rintro κ2 kd2 kp2 n2 nt2 tn2 σ2 ⟨rfl, rfl, rfl, rfl, rfl, q, h60⟩ hs
    exact BR_sc hB hs q h60
theorem J_day (x y : Int32) : JX Γ zX11_day zX12_day 8 0 0 51 [.int x, .int y] := JQ fun μ b κ σ D kp n r m nt tn hR hO hX hB => ⟨_, k_day x y hX, fun μ' a hM => XM_post (c_day hM x y hR) (fun r M ⟨s2, h1, h2, h3⟩ => ⟨s2, h1, h2, ps.pq h3⟩)⟩
theorem J_best (x y z : Int32) : JX Γ zX11_best zX12_best 8 0 0 52 [.int x, .int y, .int z] := JQ fun μ b κ σ D kp n r m nt tn hR hO hX hB => ⟨_, k_best hO x y z hX, fun μ' a hM => XM_post (c_best hM x y z hR hO) (fun r M ⟨s2, h1, h2, h3⟩ => ⟨s2, h1, h2, ps.pq h3⟩)⟩
theorem J_once (z : Int32) : JX Γ zX11_once zX12_once 8 0 0 52 [.int z] := JQ fun μ b κ σ D kp n r m nt tn hR hO hX hB => ⟨_, k_once z hX, fun μ' a hM => XM_post (c_once hM z hR) (fun r M ⟨s2, h1, h2, h3⟩ => ⟨s2, h1, h2, ps.pq h3⟩)⟩
theorem J_week (z : Int32) : JX Γ zX11_week zX12_week 8 0 0 52 [.int z] := JQ fun μ b κ σ D kp n r m nt tn hR hO hX hB => ⟨_, k_week z hX, fun μ' a hM => XM_post (c_week hM z hR) (fun r M ⟨s2, h1, h2, h3⟩ => ⟨s2, h1, h2, ps.pq h3⟩)⟩
theorem J_dearest (z : Int32) : JX Γ zX11_dearest zX12_dearest 8 0 0 52 [.int z] := JQ fun μ b κ σ D kp n r m nt tn hR hO hX hB => ⟨_, k_dearest z hX, fun μ' a hM => XM_post (c_dearest hM z hR) (fun r M ⟨s2, h1, h2, h3⟩ => ⟨s2, h1, h2, ps.pq9 h3⟩)⟩
theorem J_give : JX Γ zX11_give zX12_give 8 0 0 52 [] := JQ fun μ b κ σ D kp n r m nt tn hR hO hX hB => ⟨_, k_give hX, fun μ' a hM => XM_post (c_give hM hR) (fun r M ⟨s2, h1, h2, h3⟩ => ⟨s2, h1, h2, ps.pq h3⟩)⟩
theorem J_seat (x y : Int32) : JX Γ zX11_seat zX12_seat 8 0 0 51 [.int x, .int y] := JQ fun μ b κ σ D kp n r m nt tn hR hO hX hB => ⟨_, k_seat x y hX, fun μ' a hM => XM_post (c_seat hM x y hR) (fun r M ⟨s2, h1, h2, h3⟩ => ⟨s2, h1, h2, ps.pq8 h3⟩)⟩
theorem J_drawn (z : Int32) : JX Γ zX11_drawn zX12_drawn 8 0 0 52 [.int z] := JQ fun μ b κ σ D kp n r m nt tn hR hO hX hB => ⟨_, k_drawn z hX, fun μ' a hM => XM_post (c_drawn hM z hR) (fun r M ⟨s2, h1, h2, h3⟩ => ⟨s2, h1, h2, ps.pq9 h3⟩)⟩
theorem J_chance (x y z : Int32) : JV Value.long Γ zX11_chance zX12_chance 8 0 0 52 [.int x, .int y, .int z] := JQ fun μ b κ σ D kp n r m nt tn hR hO hX hB => ⟨_, k_chance x y z hX, fun μ' a hM => XM_post (c_chance hM x y z hR) (fun r M ⟨s2, h1, h2, h3⟩ => ⟨s2, h1, h2, ps.pq9 h3⟩)⟩
end M9999996
