/-! the start: the strings are apart -/
theorem S_n0 : ∀ j, j < 13 → 0 < j → Cond.not (Cond.eq (tmS 0) (tmS j)) ∈ flatC nwC1 := by decide +kernel
theorem S_n1 : ∀ j, j < 13 → 1 < j → Cond.not (Cond.eq (tmS 1) (tmS j)) ∈ flatC nwC1 := by decide +kernel
theorem S_n2 : ∀ j, j < 13 → 2 < j → Cond.not (Cond.eq (tmS 2) (tmS j)) ∈ flatC nwC1 := by decide +kernel
theorem S_n3 : ∀ j, j < 13 → 3 < j → Cond.not (Cond.eq (tmS 3) (tmS j)) ∈ flatC nwC1 := by decide +kernel
theorem S_n4 : ∀ j, j < 13 → 4 < j → Cond.not (Cond.eq (tmS 4) (tmS j)) ∈ flatC nwC1 := by decide +kernel
theorem S_n5 : ∀ j, j < 13 → 5 < j → Cond.not (Cond.eq (tmS 5) (tmS j)) ∈ flatC nwC1 := by decide +kernel
theorem S_n6 : ∀ j, j < 13 → 6 < j → Cond.not (Cond.eq (tmS 6) (tmS j)) ∈ flatC nwC1 := by decide +kernel
theorem S_n7 : ∀ j, j < 13 → 7 < j → Cond.not (Cond.eq (tmS 7) (tmS j)) ∈ flatC nwC1 := by decide +kernel
theorem S_n8 : ∀ j, j < 13 → 8 < j → Cond.not (Cond.eq (tmS 8) (tmS j)) ∈ flatC nwC1 := by decide +kernel
theorem S_n9 : ∀ j, j < 13 → 9 < j → Cond.not (Cond.eq (tmS 9) (tmS j)) ∈ flatC nwC1 := by decide +kernel
theorem S_n10 : ∀ j, j < 13 → 10 < j → Cond.not (Cond.eq (tmS 10) (tmS j)) ∈ flatC nwC1 := by decide +kernel
theorem S_n11 : ∀ j, j < 13 → 11 < j → Cond.not (Cond.eq (tmS 11) (tmS j)) ∈ flatC nwC1 := by decide +kernel
theorem S_lt : ∀ i j, i < j → j < 13 → Cond.not (Cond.eq (tmS i) (tmS j)) ∈ flatC nwC1 := by
  intro i j hij hj
  rcases (by omega : i = 0 ∨ i = 1 ∨ i = 2 ∨ i = 3 ∨ i = 4 ∨ i = 5 ∨ i = 6 ∨ i = 7 ∨ i = 8 ∨ i = 9 ∨ i = 10 ∨ i = 11) with rfl | rfl | rfl | rfl | rfl | rfl | rfl | rfl | rfl | rfl | rfl | rfl
  · exact S_n0 j hj hij
  · exact S_n1 j hj hij
  · exact S_n2 j hj hij
  · exact S_n3 j hj hij
  · exact S_n4 j hj hij
  · exact S_n5 j hj hij
  · exact S_n6 j hj hij
  · exact S_n7 j hj hij
  · exact S_n8 j hj hij
  · exact S_n9 j hj hij
  · exact S_n10 j hj hij
  · exact S_n11 j hj hij
theorem S_ne (i : Nat) (hi : i < 13) (j : Nat) (hj : j < 13) (hij : i ≠ j) : Cond.not (Cond.eq (tmS i) (tmS j)) ∈ flatC nwC1 ∨ Cond.not (Cond.eq (tmS j) (tmS i)) ∈ flatC nwC1 := by
  rcases Nat.lt_or_ge i j with h | h
  · exact Or.inl (S_lt i j h hj)
  · exact Or.inr (S_lt j i (by omega) hi)
section K98
variable {s : State} {args : Array Value} {A : Nat → Prop}
theorem S_s (hts : ∀ w ∈ lw_tbl, w.before args s = true) (hg : nwC1.before args s = true) (hA : ∀ a : Nat, a < s.heap.size → ¬ A a) : ∃ adK adV : Nat → Nat, vk_S 13 sLen sByt adK adV A s s.heap ∧ ∀ i : Nat, i < 13 → (tmS i).eval args s none [] s = some (.ref (adK i)) := vk_Sof (tm := tmS) (by decide +kernel) (fun i hi => flat_of_before _ hg _ (S_ex i hi)) (fun i hi => flat_of_before _ hg _ (S_co i hi)) (fun i hi => flat_of_before _ hg _ (S_ar i hi)) (fun i hi => flat_of_before _ hg _ (S_le i hi)) (fun i hi j hj => flat_of_before _ hg _ (S_el i hi j hj)) (fun i j hi hj hij => (S_ne i hi j hj hij).imp (fun z => flat_of_before _ hg _ z) (fun z => flat_of_before _ hg _ z)) hA
end K98
