/-! the start: arrays, links, casts -/
theorem tw {w : Cond} (i : Nat) (h : lw_tbl[i]? = some w) : w ∈ lw_tbl := List.mem_of_getElem? h
section K96
variable {s : State} {args : Array Value}
def xtyL (gc : Nat → ClassId) : List (ClassId × FieldType) := [(gc 0, .int), (gc 1, .boolean), (gc 2, .object "PutOut$Thing"), (gc 3, .object "PutOut$Text"), (gc 4, .object "PutOut$Sheet"), (gc 5, .array .int)]
theorem ty_p {ty : FieldType} (h : (Cond.arrayClass ty).before args s = true) (hr : va_RA s = va_RA s) : ∃ cA, ArrOfT s cA ty ∧ s.vm.findClass ("[" ++ ty.toString) = some cA := by
  obtain ⟨cA, kA, comp, h1, h2, h3⟩ := Cond.arrayClass_spec h
  exact ⟨cA, fun n z => ⟨fun k h => (by cases h), kA, h2, comp, h3⟩, h1⟩
theorem ty_o {C : String} (h : (Cond.arrayOver (.object C)).before args s = true) : ∃ cA, ArrOfT s cA (.object C) ∧ va_RA s cA (.object C) := by
  obtain ⟨comp, c, k, h1, h2, h3, h4, h5⟩ := Cond.arrayOver_spec h
  exact ⟨c, fun n z => ⟨fun k h => (by cases h), k, h3, comp, h4⟩, k, comp, h3, h4, h1, h5⟩
theorem AO_I (h : (Cond.arrayOver (.array .int)).before args s = true) : AOI s := arrayOverA_spec h
theorem ty_a (h : AOI s) : ∃ cA, ArrOfT s cA (.array .int) ∧ va_RA s cA (.array .int) := by
  obtain ⟨comp, c, k, h1, h2, h3, h4, h5⟩ := h
  exact ⟨c, fun n z => ⟨fun k h => (by cases h), k, h3, comp, h4⟩, h5⟩
theorem AO_k (hts : ∀ w ∈ lw_tbl, w.before args s = true) : ∀ k : Nat, va_AO (xRC k) s
  | 0 => va_AO.of (hts _ (tw 106 (by decide +kernel)))
  | 1 => va_AO.of (hts _ (tw 243 (by decide +kernel)))
  | k + 2 => va_AO.of (A := args) (hts (.arrayOver (.object "PutOut$Sheet")) (tw 245 (by decide +kernel)))
theorem K_tys (hts : ∀ w ∈ lw_tbl, w.before args s = true) : ∃ gc : Nat → ClassId, ∀ (k : Nat) (q : ClassId × FieldType), (xtyL gc)[k]? = some q → ArrOfT s q.1 q.2 ∧ va_RA s q.1 q.2 := by
  obtain ⟨c0, a0, b0⟩ := ty_p (ty := .int) (hts _ (tw 174 (by decide +kernel))) rfl
  obtain ⟨c1, a1, b1⟩ := ty_p (ty := .boolean) (hts _ (tw 1315 (by decide +kernel))) rfl
  obtain ⟨c2, h2⟩ := ty_o (C := "PutOut$Thing") (hts _ (tw 106 (by decide +kernel)))
  obtain ⟨c3, h3⟩ := ty_o (C := "PutOut$Text") (hts _ (tw 243 (by decide +kernel)))
  obtain ⟨c4, h4⟩ := ty_o (C := "PutOut$Sheet") (hts _ (tw 245 (by decide +kernel)))
  obtain ⟨c5, h5⟩ := ty_a (AO_I (hts _ (tw 254 (by decide +kernel))))
  refine ⟨fun k => if k = 0 then c0 else if k = 1 then c1 else if k = 2 then c2 else if k = 3 then c3 else if k = 4 then c4 else c5, fun k q hq => ?_⟩
  match k, hq with
  | 0, hq => cases hq; exact ⟨a0, b0⟩
  | 1, hq => cases hq; exact ⟨a1, b1⟩
  | 2, hq => cases hq; exact h2
  | 3, hq => cases hq; exact h3
  | 4, hq => cases hq; exact h4
  | 5, hq => cases hq; exact h5
  | k + 6, hq => simp [xtyL] at hq
theorem nest_s (hts : ∀ w ∈ lw_tbl, w.before args s = true) : ∀ x ∈ nestL, va_Nw (.methodLinkNest x.1 x.2.1 x.2.2 "PutOut") s := by
  have h : ∀ x ∈ nestL, Cond.methodLinkNest x.1 x.2.1 x.2.2 "PutOut" ∈ lw_tbl := List.forall_mem_cons.mpr ⟨tw 207 (by decide +kernel), List.forall_mem_cons.mpr ⟨tw 248 (by decide +kernel), List.forall_mem_cons.mpr ⟨tw 296 (by decide +kernel), List.forall_mem_cons.mpr ⟨tw 535 (by decide +kernel), List.forall_mem_cons.mpr ⟨tw 546 (by decide +kernel), List.forall_mem_cons.mpr ⟨tw 752 (by decide +kernel), List.forall_mem_cons.mpr ⟨tw 770 (by decide +kernel), List.forall_mem_cons.mpr ⟨tw 1022 (by decide +kernel), fun _ h => absurd h List.not_mem_nil⟩⟩⟩⟩⟩⟩⟩⟩
  exact fun x hx => va_Nw.of rfl (hts _ (h x hx))
theorem cast_s (hts : ∀ w ∈ lw_tbl, w.before args s = true) : ∀ x ∈ castY, va_Nw (.castable x.1 x.2) s := by
  have h : ∀ x ∈ castY, Cond.castable x.1 x.2 ∈ lw_tbl := List.forall_mem_cons.mpr ⟨tw 1624 (by decide +kernel), List.forall_mem_cons.mpr ⟨tw 1625 (by decide +kernel), List.forall_mem_cons.mpr ⟨tw 1626 (by decide +kernel), List.forall_mem_cons.mpr ⟨tw 1627 (by decide +kernel), List.forall_mem_cons.mpr ⟨tw 1628 (by decide +kernel), List.forall_mem_cons.mpr ⟨tw 1629 (by decide +kernel), List.forall_mem_cons.mpr ⟨tw 1630 (by decide +kernel), List.forall_mem_cons.mpr ⟨tw 471 (by decide +kernel), fun _ h => absurd h List.not_mem_nil⟩⟩⟩⟩⟩⟩⟩⟩
  exact fun x hx => va_Nw.of rfl (hts _ (h x hx))
end K96
