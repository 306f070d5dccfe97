/-! both go on together: thing, things -/
theorem x10d : ∀ X, X < 100 → nI X / 10 = nI (X / 10) ∧ nI X - nI X / 10 * 10 = nI (X % 10) := by decide +kernel
section M99999995
variable {Γ : Gm} {σ s : MS} {κ κ2 : KS} {kd kd2 : Nat → Nat} {kp : Bool} {n n2 nt : Nat} {tn : Nat → Nat}
theorem x100 {x : Int32} : (0 ≤ x ∧ x < 100) ↔ (0 ≤ x ∧ x ≤ 99) := and_congr_right (fun _ => i_lt 99 (by decide))
theorem RK_c {kd kd2 pl pl2 : Nat → Nat} {n : Nat} (h : RK kd pl n) (h1 : ∀ t, t < n → kd2 t = kd t) (h2 : ∀ t, t < n → pl2 t = pl t) : RK kd2 pl2 n := ⟨fun t ht => by rw [h1 t ht, h2 t ht]; exact h.1 t ht, fun i j hij hj e => by
  rw [h2 i (by omega), h2 j hj] at e
  rw [h2 i (by omega)]
  exact h.2 i j hij hj e⟩
theorem thC_BR (hB : BRe σ κ kd kp n nt tn) {k x g v : Int32} (h : thC κ kd n k x g v κ2 kd2 n2) : v = (thR σ k x g).1 ∧ BRe (thR σ k x g).2 κ2 kd2 kp n2 nt tn := by
  have hn := hB.1.1
  have h15 := hB.1.2.1
  have hg : ((0 ≤ k ∧ k < 6) ∧ (0 ≤ x ∧ x < 100) ∧ (0 ≤ g ∧ g < 4)) ↔ ((0 ≤ k ∧ k ≤ 5) ∧ (0 ≤ x ∧ x ≤ 99) ∧ (0 ≤ g ∧ g ≤ 3)) := and_congr x6 (and_congr x100 x4)
  rcases h with ⟨g1, rfl, rfl, rfl, rfl⟩ | ⟨g1, rfl, rfl, rfl, rfl, rfl⟩ | ⟨g1, g2, rfl, rfl, ⟨j, j1, rfl, rfl⟩, g3, g4, g5, g6, g7⟩
  · have e : thR σ k x g = (-2, σ) := if_neg (fun z => g1 (hg.mpr z))
    rw [e]
    exact ⟨rfl, hB⟩
  · have e : thR σ k x g = (-4, σ) := by
      unfold thR
      rw [if_pos (hg.mp g1), h15, if_pos (show nI 5 = 5 from rfl)]
    rw [e]
    exact ⟨rfl, hB⟩
  · obtain ⟨X, hX1, rfl⟩ := ixD (x := x) (n := 100) g1.2.1 (by decide)
    obtain ⟨G, hG1, rfl⟩ := ixD (x := g) (n := 4) g1.2.2 (by decide)
    obtain ⟨d1, d2⟩ := x10d X hX1
    have d2' : nI X - nI (X / 10) * 10 = nI (X % 10) := by rw [← d1]; exact d2
    have n5 : ¬ nI n = 5 := fun z => by
      have := congrArg nn z
      rw [nn_nI (by omega), show nn 5 = 5 from rfl] at this
      omega
    have e : thR σ (nI j) (nI X) (nI G) = (nI n, tI (tA (tA (tA (tA (tA σ 10 n (nI j)) 11 n (nI (X / 10))) 13 n (nI (X % 10))) 12 n (nI G)) 14 n (-1)) 15 (nI (n + 1))) := by
      unfold thR
      rw [if_pos (hg.mp g1), h15, if_neg n5, nn_nI (by omega), d1, d2', nI_1]
    rw [e]
    refine ⟨rfl, ?_⟩
    show BRe (tI (tA (tA (tA (tA (tA σ 10 n (nI j)) 11 n (nI (X / 10))) 13 n (nI (X % 10))) 12 n (nI G)) 14 n (-1)) 15 (nI (n + 1))) κ2 (fun t => if t = n then j else kd t) kp (n + 1) nt tn
    obtain ⟨hA, hH, hT, hX, hP, hS, hI2⟩ := hB
    obtain ⟨t0, t1, t2, t3, t4, t5⟩ := g7
    rw [d1] at t2
    rw [d1, d2'] at t4
    have i1 : ∀ c, c ≠ 15 → (tI (tA (tA (tA (tA (tA σ 10 n (nI j)) 11 n (nI (X / 10))) 13 n (nI (X % 10))) 12 n (nI G)) 14 n (-1)) 15 (nI (n + 1))).1 c = σ.1 c := fun c hc => tI_n hc
    have i15 : (tI (tA (tA (tA (tA (tA σ 10 n (nI j)) 11 n (nI (X / 10))) 13 n (nI (X % 10))) 12 n (nI G)) 14 n (-1)) 15 (nI (n + 1))).1 15 = nI (n + 1) := tI_s
    have r1 : ∀ c, c < 10 ∨ 14 < c → (tI (tA (tA (tA (tA (tA σ 10 n (nI j)) 11 n (nI (X / 10))) 13 n (nI (X % 10))) 12 n (nI G)) 14 n (-1)) 15 (nI (n + 1))).2.2 c = σ.2.2 c := fun c hc => (tA_n (by omega)).trans ((tA_n (by omega)).trans ((tA_n (by omega)).trans ((tA_n (by omega)).trans (tA_n (by omega)))))
    have ro : ∀ c t, t ≠ n → (tI (tA (tA (tA (tA (tA σ 10 n (nI j)) 11 n (nI (X / 10))) 13 n (nI (X % 10))) 12 n (nI G)) 14 n (-1)) 15 (nI (n + 1))).2.2 c t = σ.2.2 c t := fun c t ht => by
      show up2 (up2 (up2 (up2 (up2 σ.2.2 10 n _) 11 n _) 13 n _) 12 n _) 14 n _ c t = _
      rw [up2_n (Or.inr ht), up2_n (Or.inr ht), up2_n (Or.inr ht), up2_n (Or.inr ht), up2_n (Or.inr ht)]
    have rn : (tI (tA (tA (tA (tA (tA σ 10 n (nI j)) 11 n (nI (X / 10))) 13 n (nI (X % 10))) 12 n (nI G)) 14 n (-1)) 15 (nI (n + 1))).2.2 10 n = nI j ∧ (tI (tA (tA (tA (tA (tA σ 10 n (nI j)) 11 n (nI (X / 10))) 13 n (nI (X % 10))) 12 n (nI G)) 14 n (-1)) 15 (nI (n + 1))).2.2 11 n = nI (X / 10) ∧ (tI (tA (tA (tA (tA (tA σ 10 n (nI j)) 11 n (nI (X / 10))) 13 n (nI (X % 10))) 12 n (nI G)) 14 n (-1)) 15 (nI (n + 1))).2.2 12 n = nI G ∧ (tI (tA (tA (tA (tA (tA σ 10 n (nI j)) 11 n (nI (X / 10))) 13 n (nI (X % 10))) 12 n (nI G)) 14 n (-1)) 15 (nI (n + 1))).2.2 13 n = nI (X % 10) ∧ (tI (tA (tA (tA (tA (tA σ 10 n (nI j)) 11 n (nI (X / 10))) 13 n (nI (X % 10))) 12 n (nI G)) 14 n (-1)) 15 (nI (n + 1))).2.2 14 n = -1 := by
      have rd : ∀ c, (tI (tA (tA (tA (tA (tA σ 10 n (nI j)) 11 n (nI (X / 10))) 13 n (nI (X % 10))) 12 n (nI G)) 14 n (-1)) 15 (nI (n + 1))).2.2 c n = if c = 14 then -1 else if c = 12 then nI G else if c = 13 then nI (X % 10) else if c = 11 then nI (X / 10) else if c = 10 then nI j else σ.2.2 c n := fun c => by
        show up2 (up2 (up2 (up2 (up2 σ.2.2 10 n (nI j)) 11 n (nI (X / 10))) 13 n (nI (X % 10))) 12 n (nI G)) 14 n (-1) c n = _
        by_cases q1 : c = 14
        · rw [if_pos q1, q1, up2_s]
        rw [if_neg q1, up2_n (Or.inl q1)]
        by_cases q2 : c = 12
        · rw [if_pos q2, q2, up2_s]
        rw [if_neg q2, up2_n (Or.inl q2)]
        by_cases q3 : c = 13
        · rw [if_pos q3, q3, up2_s]
        rw [if_neg q3, up2_n (Or.inl q3)]
        by_cases q4 : c = 11
        · rw [if_pos q4, q4, up2_s]
        rw [if_neg q4, up2_n (Or.inl q4)]
        by_cases q5 : c = 10
        · rw [if_pos q5, q5, up2_s]
        rw [if_neg q5, up2_n (Or.inl q5)]
      exact ⟨rd 10, rd 11, rd 12, rd 13, rd 14⟩
    generalize (tI (tA (tA (tA (tA (tA σ 10 n (nI j)) 11 n (nI (X / 10))) 13 n (nI (X % 10))) 12 n (nI G)) 14 n (-1)) 15 (nI (n + 1))) = s at i1 i15 r1 ro rn
    obtain ⟨n10, n11, n12, n13, n14⟩ := rn
    have g : ∀ a, a < 25 → a ≠ 15 + n → a ≠ 1 → κ2.1 a = κ.1 a ∧ κ2.2 a = κ.2 a := g3
    have hkd : ∀ t, t < n → (if t = n then j else kd t) = kd t := fun t ht => if_neg (by omega)
    refine ⟨⟨by omega, i15, g6, (i1 35 (by decide)).trans hA.2.2.2.1, ?_⟩, BH_f hH (r1 7 (by omega)) (r1 8 (by omega)) (r1 9 (by omega)) g4, ⟨fun i hi => ?_, fun t ht => ?_, fun a b hab hb e => ?_⟩, BX_fr hX (i1 3 (by decide)) (i1 4 (by decide)) ⟨r1 1 (by omega), r1 2 (by omega)⟩ (g5 5 (by decide)) (congrFun (g 0 (by omega) (by omega) (by omega)).1 6) (fun i hi => ⟨congrFun (g (9 + i) (by omega) (by omega) (by omega)).2 0, congrFun (g (9 + i) (by omega) (by omega) (by omega)).2 1⟩), BP_f hP (i1 6 (by decide)) (r1 5 (by omega)) (congrFun (g 0 (by omega) (by omega) (by omega)).1 3) (congrFun (g 0 (by omega) (by omega) (by omega)).2 2), BS_f hS (r1 52 (by omega)) (r1 53 (by omega)) (r1 54 (by omega)) (r1 55 (by omega)) (fun i hi => ⟨(g (5 + i) (by omega) (by omega) (by omega)).1, congrFun (g (5 + i) (by omega) (by omega) (by omega)).2 2⟩), ?_⟩
    · rw [(g 3 (by omega) (by omega) (by omega)).2]
      exact hA.2.2.2.2
    · dsimp only
      by_cases hin : i = n
      · subst hin
        rw [if_pos rfl, n10, n11, n12, n13, n14, t0, t1, t2, t3, t4, t5]
        exact ⟨j1, rfl, rfl, rfl, ⟨X / 10, by omega, rfl, fun _ => rfl⟩, ⟨G, hG1, rfl, fun _ => rfl⟩, ⟨X % 10, by omega, rfl, fun _ => rfl⟩, 0, by decide, rfl, fun _ => rfl⟩
      · obtain ⟨q1, q2, q3, q4, ⟨v1, a1, b1, c1⟩, ⟨v2, a2, b2, c2⟩, ⟨v3, a3, b3, c3⟩, v4, a4, b4, c4⟩ := hT.1 i hi
        rw [if_neg hin, ro 10 i hin, ro 11 i hin, ro 12 i hin, ro 13 i hin, ro 14 i hin, (g (15 + i) (by omega) (by omega) (by omega)).1]
        exact ⟨q1, q2, q3, q4, ⟨v1, a1, b1, fun h => c1 (by omega)⟩, ⟨v2, a2, b2, fun h => c2 (by omega)⟩, ⟨v3, a3, b3, fun h => c3 (by omega)⟩, v4, a4, b4, fun h => c4 (by omega)⟩
    · show stD (if t = n then j else kd t) (nn (s.2.2 14 t + 1)) = true
      by_cases htn : t = n
      · rw [if_pos htn, htn, n14]
        rfl
      · rw [if_neg htn, ro 14 t htn]
        exact hT.2.1 t (by omega)
    · have e : nn (s.2.2 14 a + 1) = nn (s.2.2 14 b + 1) := e
      show nn (s.2.2 14 a + 1) = 0
      by_cases hbn : b = n
      · rw [e, hbn, n14]
        rfl
      · rw [ro 14 a (by omega), ro 14 b hbn] at e
        rw [ro 14 a (by omega)]
        exact hT.2.2 a b hab (by omega) e
    · have hI3 : BI σ κ (fun t => if t = n then j else kd t) kp (n + 1) nt := by
        rcases hI2 with h | ⟨h1, k0, q1, q2, q3, q4, q5, q6, q7, q8, q9⟩
        · exact Or.inl h
        · exact Or.inr ⟨h1, k0, by omega, q2, q3, q4, q5, q6, q7, q8, RK_c q9 (fun t ht => hkd t (by omega)) (fun t ht => rfl)⟩
      exact BI_f hI3 (i1 50 (by decide)) (i1 51 (by decide)) (r1 48 (by omega)) (r1 49 (by omega)) (g 2 (by omega) (by omega) (by omega)).1 (g 2 (by omega) (by omega) (by omega)).2 (fun i hi => (g (20 + i) (by omega) (by omega) (by omega)).1)
theorem J_thing (k x g : Int32) : JX Γ zX11_thing zX12_thing 5 7 62 2 [.int k, .int x, .int g] := by
  intro μ b κ σ kd kp n nt tn hI hB
  have hA := hB.1
  refine ⟨(thR σ k x g).1, fun κ2 kd2 kp2 n2 nt2 tn2 => (∃ v, thC κ kd n k x g v κ2 kd2 n2) ∧ kp2 = kp ∧ nt2 = nt ∧ tn2 = tn, fun s => s = (thR σ k x g).2, XM_post (k_thing hI hB.2.2.2.1.2.1 k x g hA.2.2.1 hA.1) (fun r M hx => ?_), fun μ' a hM => XM_post (c_thing hM k x g hA.2.1 hA.1) (fun r M hx => ?_), ?_⟩
  · obtain ⟨v, μ2, b2, κ2, kd2, n2, rfl, rfl, h1, h2, h3, h4⟩ := hx
    exact ⟨congrArg (fun z => some (Value.int z)) (thC_BR hB h4).1, μ2, b2, κ2, kd2, kp, n2, nt, tn, rfl, h1, h2, h3 0 (by decide), ⟨v, h4⟩, rfl, rfl, rfl⟩
  · obtain ⟨rfl, rfl⟩ := hx
    exact ⟨rfl, _, rfl, rfl⟩
  · rintro κ2 kd2 kp2 n2 nt2 tn2 σ2 ⟨⟨v, h⟩, rfl, rfl, rfl⟩ rfl
    exact (thC_BR hB h).2
end M99999995
