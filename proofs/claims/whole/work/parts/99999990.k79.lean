/-! both go on together: film, sheet, cell, copy -/
section M99999990
variable {Γ : Gm} {σ s : MS} {κ κ2 : KS} {kd : Nat → Nat} {kp : Bool} {n nt : Nat} {tn : Nat → Nat}
theorem BR_sh (h : BRe σ κ kd kp n nt tn) (p1 : ∀ k, pk k → s.1 k = σ.1 k) (p2 : ∀ k, pa k → k < 52 → s.2.2 k = σ.2.2 k) (hk : kq (fun a k => scP a k ∨ (5 ≤ a ∧ a < 9)) κ κ2) (h60 : κ2.2 3 6 0 = 0) (hS : BSh s κ2) : BRe s κ2 kd kp n nt tn := by
  obtain ⟨⟨a1, a2, a3, a4, a5⟩, ⟨b1, b2, b3⟩, ⟨c1, c2⟩, hX, hP, -, hI⟩ := h
  have k1 : ∀ a k, a < 3 ∨ (15 ≤ a ∧ k < 6) → κ2.1 a k = κ.1 a k ∧ κ2.2 a k = κ.2 a k := fun a k h => hk a k (by unfold scP; omega)
  have i1 : ∀ k, k < 16 ∨ k = 35 ∨ k = 50 ∨ k = 51 → s.1 k = σ.1 k := fun k h => p1 k h
  have r1 : ∀ k, k < 15 ∨ k = 48 ∨ k = 49 → s.2.2 k = σ.2.2 k := fun k h => p2 k (by unfold pa; omega) (by omega)
  refine ⟨⟨a1, by rw [i1 15 (by omega)]; exact a2, by rw [(k1 1 4 (by omega)).1]; exact a3, by rw [i1 35 (by omega)]; exact a4, h60⟩, ⟨by rw [r1 7 (by omega), (k1 1 0 (by omega)).2]; exact b1, by rw [r1 8 (by omega), (k1 1 1 (by omega)).2]; exact b2, by rw [r1 9 (by omega), (k1 1 2 (by omega)).2]; exact b3⟩, ⟨fun i hi => ?_, by rw [r1 14 (by omega)]; exact c2⟩, BX_fr hX (i1 3 (by omega)) (i1 4 (by omega)) ⟨r1 1 (by omega), r1 2 (by omega)⟩ (k1 1 5 (by omega)).1 (k1 0 6 (by omega)).1 (fun i hi => ⟨(hk (9 + i) 0 (by unfold scP; omega)).2, (hk (9 + i) 1 (by unfold scP; omega)).2⟩), ?_, hS, ?_⟩
  · rw [r1 10 (by omega), r1 11 (by omega), r1 12 (by omega), r1 13 (by omega), r1 14 (by omega), (k1 (15 + i) 0 (by omega)).1, (k1 (15 + i) 1 (by omega)).1, (k1 (15 + i) 2 (by omega)).1, (k1 (15 + i) 3 (by omega)).1, (k1 (15 + i) 4 (by omega)).1, (k1 (15 + i) 5 (by omega)).1]
    exact c1 i hi
  · unfold BP
    rw [i1 6 (by omega), (k1 0 3 (by omega)).1, r1 5 (by omega), (k1 0 2 (by omega)).2]
    exact hP
  · unfold BI
    rw [i1 50 (by omega), i1 51 (by omega), r1 48 (by omega), r1 49 (by omega), (k1 2 4 (by omega)).1, (k1 2 5 (by omega)).1, (k1 2 0 (by omega)).2, (k1 2 1 (by omega)).2, (k1 2 2 (by omega)).2]
    rcases hI with hI | ⟨hI, k, g1, g2, g3, g4, g5, g6, g7, g8, g9⟩
    · exact Or.inl hI
    · refine Or.inr ⟨hI, k, g1, g2, g3, g4, g5, g6, g7, fun i hi => ?_, g9⟩
      rw [(k1 (20 + i) 2 (by omega)).1, (k1 (20 + i) 3 (by omega)).1, (k1 (20 + i) 4 (by omega)).1, (k1 (20 + i) 5 (by omega)).1]
      exact g8 i hi
/-- one sheet anew, the others as they were -/
theorem BS_one {q : Nat} (h : BSh σ κ) (e2 : ∀ i, i ≠ q → s.2.2 52 i = σ.2.2 52 i ∧ s.2.2 53 i = σ.2.2 53 i ∧ s.2.2 54 i = σ.2.2 54 i) (e5 : ∀ j, j < 40 * q ∨ 40 * q + 40 ≤ j → s.2.2 55 j = σ.2.2 55 j) (k : ∀ i, i < 4 → i ≠ q → κ2.1 (5 + i) = κ.1 (5 + i) ∧ κ2.2 (5 + i) = κ.2 (5 + i)) (hq : (s.2.2 52 q = 0 ∧ κ2.1 (5 + q) 0 = -1) ∨ (s.2.2 52 q = 1 ∧ eqb 3 (s.2.2 53 q) (κ2.1 (5 + q) 0) ∧ ∃ z, z ≤ 40 ∧ s.2.2 54 q = nI z ∧ κ2.1 (5 + q) 1 = nI z ∧ ∀ j, j < z → κ2.2 (5 + q) 2 j = s.2.2 55 (40 * q + j))) : BSh s κ2 := fun i hi => by
  by_cases hiq : i = q
  · rw [hiq]
    exact hq
  · obtain ⟨g1, g2, g3⟩ := e2 i hiq
    obtain ⟨k1, k2⟩ := k i hi hiq
    rw [g1, g2, g3, k1, k2]
    rcases h i hi with h | ⟨h1, h2, z, z1, z2, z3, z4⟩
    · exact Or.inl h
    · exact Or.inr ⟨h1, h2, z, z1, z2, z3, fun j hj => by rw [z4 j hj, e5 (40 * i + j) (by omega)]⟩
theorem J_film (x y : Int32) : JX Γ zX11_film zX12_film 8 0 0 53 [.int x, .int y] := JW fun μ b κ σ D kp n r m nt tn hR hO hX hB => by
  refine ⟨(fmV n x y), fmC κ D n x y, fun s => if (0 ≤ x ∧ x < 4) ∧ (0 ≤ y ∧ y < 16) then FM σ n (nn x) (brR (beD D n (nn y) 5)) s else s = σ, k_film hO x y hX, fun μ' a hM => XM_post (c_film hM x y hR hO) (fun r M ⟨s2, h1, h2⟩ => ⟨s2, ?_⟩), fun κ2 s2 hC h60 hE => ?_⟩
  · rcases h2 with ⟨g1, g2, g3⟩ | ⟨g1, g2, g3, g4⟩
    · have hn : ¬ ((0 ≤ x ∧ x < 4) ∧ (0 ≤ y ∧ y < 16)) := fun z => g1 ⟨x4.mp z.1, x16.mp z.2⟩
      refine ⟨?_, h1, ?_⟩
      · rw [g2, fmV, if_neg hn]
      · show if _ then _ else _
        rw [if_neg hn]
        exact g3
    · have hn : (0 ≤ x ∧ x < 4) ∧ (0 ≤ y ∧ y < 16) := ⟨x4.mpr g1, x16.mpr g2⟩
      refine ⟨?_, h1, ?_⟩
      · rw [g3, fmV, if_pos hn]
      · show if _ then _ else _
        rw [if_pos hn]
        exact g4
  · have hn5 := hX.2.1.1.1
    by_cases hg : (0 ≤ x ∧ x < 4) ∧ (0 ≤ y ∧ y < 16)
    · unfold fmC at hC
      have hE : if (0 ≤ x ∧ x < 4) ∧ (0 ≤ y ∧ y < 16) then FM σ n (nn x) (brR (beD D n (nn y) 5)) s2 else s2 = σ := hE
      rw [if_pos hg] at hC hE
      obtain ⟨q, hq, rfl⟩ := ixD (x := x) (n := 4) hg.1 (by decide)
      rw [nn_nI (by omega)] at hC hE
      obtain ⟨q1, q2, q3, q4⟩ := hC
      obtain ⟨e1, e2, e3, e4, e5, e6⟩ := hE
      generalize brR (beD D n (nn y) 5) = R at q4 e6
      refine BR_sh hB e1 e2 (q1.mono (fun a k z => z.imp id (fun z => by omega))) h60 ?_
      refine BS_one (q := q) hB.2.2.2.2.2.1 (fun i hi => ⟨by rw [e3 i, if_neg hi], by rw [e4 i, if_neg hi], by rw [e5 i, if_neg hi]⟩) (fun j hj => (e6 j).2 (by omega)) (fun i hi hiq => ⟨funext fun k => (q1 (5 + i) k (by unfold scP; omega)).1, funext fun k => (q1 (5 + i) k (by unfold scP; omega)).2⟩) (Or.inr ⟨by rw [e3 q, if_pos rfl], ⟨0, by decide, by rw [e4 q, if_pos rfl]; rfl, q2⟩, n, by omega, by rw [e5 q, if_pos rfl], q3, fun j hj => ?_⟩)
      rw [q4 j hj, (e6 (40 * q + j)).1 ⟨by omega, by omega⟩, show 40 * q + j - 40 * q = j by omega]
    · unfold fmC at hC
      have hE : if (0 ≤ x ∧ x < 4) ∧ (0 ≤ y ∧ y < 16) then FM σ n (nn x) (brR (beD D n (nn y) 5)) s2 else s2 = σ := hE
      rw [if_neg hg] at hC hE
      rw [hE]
      exact BR_sc hB (ps.pq ⟨fun _ _ => rfl, fun _ _ => rfl⟩) hC h60
theorem lt40 : ∀ z, z < 41 → (nI z).toInt = (nI z - 1).toInt + 1 := by decide +kernel
theorem shO_of (h : BSh σ κ) : shO σ := fun i hi => by
  rcases h i hi with h | ⟨h1, ⟨k, hk, e, -⟩, z, z1, z2, -⟩
  · exact Or.inl h.1
  · refine Or.inr ⟨h1, ⟨z, z1, z2⟩, ?_⟩
    rw [e]
    rcases (by omega : k = 0 ∨ k = 1 ∨ k = 2) with rfl | rfl | rfl
    · exact Or.inl rfl
    · exact Or.inr (Or.inl rfl)
    · exact Or.inr (Or.inr rfl)
theorem hz_of (h : BSh σ κ) : ∀ i, i < 4 → κ.1 (5 + i) 0 = -1 ∨ ∃ z, z ≤ 40 ∧ κ.1 (5 + i) 1 = nI z := fun i hi => by
  rcases h i hi with h | ⟨h1, -, z, z1, z2, z3, -⟩
  · exact Or.inl h.2
  · exact Or.inr ⟨z, z1, z3⟩
theorem kn1 {k : Nat} (h : k < 3) : ¬ nI k = -1 := by
  rcases (by omega : k = 0 ∨ k = 1 ∨ k = 2) with rfl | rfl | rfl <;> decide
theorem J_cell (x i v : Int32) : JX Γ zX11_cell zX12_cell 2 0 0 3 [.int x, .int i, .int v] := JS fun μ b κ σ kd kp n nt tn hI hB => by
  have hS := hB.2.2.2.2.2.1
  have hc := k_cell (Γ := Γ) (κ := κ) hI x i v (hz_of hS)
  have hm : ∀ (μ' : Mem) (a : Ma), MOK μ' a → _ := fun μ' a hM => c_cell (Γ := Γ) (σ := σ) hM (shO_of hS) x i v
  have same : ∀ r, clR σ x i v = (r, σ) → clK κ x i v = (r, κ) → ∃ (v' : Int32) (κ2 : KS) (s : MS), XM Γ zX11_cell 2 0 0 (.ref (adO b 0) :: [.int x, .int i, .int v]) (KV μ b κ) (rt (.int v') (KV μ b κ2)) ∧ (∀ (μ' : Mem) (a : Ma), MOK μ' a → XM Γ zX12_cell 3 0 0 (.ref a.1 :: [.int x, .int i, .int v]) (MV μ' a σ) (rt (.int v') (MV μ' a s))) ∧ BRe s κ2 kd kp n nt tn := fun r e1 e2 => by
    rw [e2] at hc
    rw [e1] at hm
    exact ⟨r, κ, σ, hc, hm, hB⟩
  by_cases hx : 0 ≤ x ∧ x < 4
  · have hx3 := x4.mp hx
    obtain ⟨q, hq, rfl⟩ := ixD (x := x) (n := 4) hx (by decide)
    have u1 : clR σ (nI q) i v = if σ.2.2 52 q = 0 then (-11, σ) else if ¬ (0 ≤ i ∧ i ≤ σ.2.2 54 q - 1) then (-12, σ) else (1, tA σ 55 (40 * q + nn i) (nr (σ.2.2 53 q) v)) := by
      unfold clR
      rw [if_neg (fun z => z hx3), nn_nI (by omega)]
    have u2 : clK κ (nI q) i v = if κ.1 (5 + q) 0 = -1 then (-11, κ) else if 0 ≤ i ∧ i < κ.1 (5 + q) 1 then (1, kA κ (5 + q) 2 (nn i) (nr (κ.1 (5 + q) 0) v)) else (-12, κ) := by
      unfold clK
      rw [if_pos hx, nn_nI (by omega)]
    rcases hS q hq with ⟨g1, g2⟩ | ⟨g1, ⟨k, hk, g2, g3⟩, z, z1, z2, z3, z4⟩
    · exact same (-11) (by rw [u1, if_pos g1]) (by rw [u2, if_pos g2])
    · have n1 : ¬ σ.2.2 52 q = 0 := by rw [g1]; decide
      have n2 : ¬ κ.1 (5 + q) 0 = -1 := by
        rw [g3]
        exact kn1 hk
      have hlt : (0 ≤ i ∧ i < nI z) ↔ (0 ≤ i ∧ i ≤ nI z - 1) := and_congr_right (fun _ => i_lt _ (lt40 z (by omega)))
      rw [if_neg n1, z2, g2] at u1
      rw [if_neg n2, z3, g3] at u2
      by_cases hi : 0 ≤ i ∧ i < nI z
      · rw [if_neg (fun y => y (hlt.mp hi))] at u1
        rw [if_pos hi] at u2
        obtain ⟨j, hj, rfl⟩ := ixD (x := i) (n := z) hi (by omega)
        rw [nn_nI (by omega)] at u1 u2
        rw [u2] at hc
        rw [u1] at hm
        refine ⟨1, _, _, hc, hm, ?_⟩
        refine BR_sh hB (fun _ _ => rfl) (fun k _ hk => tA_n (by omega)) (kq.rf.A (Or.inr (by omega))) ((congrFun (kA_n (Or.inl (by omega))) 0).trans hB.1.2.2.2.2) ?_
        refine BS_one (q := q) hS (fun i hi => ⟨congrFun (tA_n (by decide)) i, congrFun (tA_n (by decide)) i, congrFun (tA_n (by decide)) i⟩) (fun y hy => up2_n (Or.inr (by omega))) (fun i hi hiq => ⟨rfl, kA_o (by omega)⟩) (Or.inr ⟨(congrFun (tA_n (by decide)) q).trans g1, ⟨k, hk, (congrFun (tA_n (by decide)) q).trans g2, g3⟩, z, z1, (congrFun (tA_n (by decide)) q).trans z2, z3, fun y hy => ?_⟩)
        show up3 κ.2 (5 + q) 2 j _ (5 + q) 2 y = up2 σ.2.2 55 (40 * q + j) _ 55 (40 * q + y)
        by_cases hyj : y = j
        · rw [hyj, up3_s, up2_s]
        · rw [up3_i hyj, up2_n (Or.inr (by omega))]
          exact z4 y hy
      · rw [if_pos (fun y => hi (hlt.mpr y))] at u1
        rw [if_neg hi] at u2
        exact same (-12) u1 u2
  · exact same (-2) (by unfold clR; rw [if_pos (fun z => hx (x4.mpr z))]) (by unfold clK; rw [if_neg hx])
end M99999990
