/-! the start: what the tables say of the classes -/
theorem inst_gT : ∀ ci, ci < 13 → Cond.instantiable (xC ci) (xN ci) ∈ gT
  | 0, _ => ki_0
  | 1, _ => ki_1
  | 2, _ => ki_2
  | 3, _ => ki_3
  | 4, _ => ki_4
  | 5, _ => ki_5
  | 6, _ => ki_6
  | 7, _ => ki_7
  | 8, _ => ki_8
  | 9, _ => ki_9
  | 10, _ => ki_10
  | 11, _ => ki_11
  | 12, _ => ki_12
  | n + 13, h => absurd h (by omega)
theorem K_cls {s : State} {args : Array Value} (hts : ∀ w ∈ gT, w.before args s = true) : ∃ (D : va_G), ∀ (c : Nat) (q : vw_C), vwCl[c]? = some q → u_Kn s q.1 q.2.1 q.2.2 (D.1 c) (D.2 c) := by
  have h : ∀ ci, ∃ x : ClassId × (Nat → Nat), ci < 13 → u_Kn s (xC ci) (xT ci) (xN ci) x.1 x.2 := fun ci => by
    by_cases hc : ci < 13
    · obtain ⟨cC, iS, hk⟩ := u_known (C := xC ci) (T := xT ci) (N := xN ci) (n := xN ci) hts (x_in hc) (hts _ (inst_gT ci hc))
      exact ⟨(cC, iS), fun _ => hk⟩
    · exact ⟨(0, fun _ => 0), fun z => absurd z hc⟩
  obtain ⟨f, hf⟩ := Classical.axiomOfChoice h
  refine ⟨(fun c => (f c).1, fun c => (f c).2), fun c q hq => ?_⟩
  have hc : c < 13 := (List.getElem?_eq_some_iff.mp hq).1
  rw [x_cl hc] at hq
  cases hq
  exact hf c hc
