/-! a row of rows of ints, made at once -/
/-- the outer row, its first i rows made -/
def mrC (cA : ClassId) (N h i : Nat) : Cell := arrV cA N (fun j => va_rf (if j < i then some (h + 1 + j) else none))
def mrD (cI : ClassId) (K : Nat) : Cell := arrV cI K (fun _ => .int 0)
def mrS (T : State) (cA cI : ClassId) (N K : Nat) : Nat → State
  | 0 => T.pushCell (mrC cA N T.heap.size 0)
  | i + 1 => ((mrS T cA cI N K i).pushCell (mrD cI K)).setCell T.heap.size (mrC cA N T.heap.size (i + 1))
theorem mrC_s (cA : ClassId) (N h i : Nat) : (mrC cA N h i).setSlot i (.ref (h + 1 + i)) = mrC cA N h (i + 1) := by
  unfold mrC
  rw [arrV_store]
  refine congrArg (arrV cA N) (funext fun j => ?_)
  show (if j = i then Value.ref (h + 1 + i) else va_rf (if j < i then some (h + 1 + j) else none)) = va_rf (if j < i + 1 then some (h + 1 + j) else none)
  by_cases hj : j = i
  · rw [if_pos hj, if_pos (by omega), hj]
    rfl
  · rw [if_neg hj]
    by_cases h2 : j < i
    · rw [if_pos h2, if_pos (by omega)]
    · rw [if_neg h2, if_neg (by omega)]
theorem mrS_all (T : State) (cA cI : ClassId) (N K : Nat) : ∀ i, (mrS T cA cI N K i).heap.size = T.heap.size + 1 + i ∧ (mrS T cA cI N K i).heap[T.heap.size]? = some (mrC cA N T.heap.size i) ∧ (mrS T cA cI N K i).vm = T.vm ∧ (mrS T cA cI N K i).slotsUsed = T.slotsUsed + N + i * K ∧ (∀ a : Nat, a < T.heap.size → (mrS T cA cI N K i).heap[a]? = T.heap[a]?) ∧ ∀ j, j < i → (mrS T cA cI N K i).heap[T.heap.size + 1 + j]? = some (mrD cI K) := by
  intro i
  induction i with
  | zero =>
    refine ⟨by simp [mrS], by simp [mrS], rfl, ?_, fun a ha => State.heap_pushCell_of_lt _ _ ha, fun j hj => absurd hj (Nat.not_lt_zero j)⟩
    simp [mrS, mrC, arrV_size]
  | succ i ih =>
    obtain ⟨h1, h2, h3, h4, h5, h6⟩ := ih
    have hold : ∀ a : Nat, a < T.heap.size + 1 + i → ((mrS T cA cI N K i).pushCell (mrD cI K)).heap[a]? = (mrS T cA cI N K i).heap[a]? := fun a ha => State.heap_pushCell_of_lt _ _ (by rw [h1]; exact ha)
    refine ⟨?_, ?_, ?_, ?_, fun a ha => ?_, fun j hj => ?_⟩
    · show (State.setCell _ _ _).heap.size = _
      rw [size_setCell, size_pushCell, h1]
      omega
    · exact State.heap_setCell_self ((hold _ (by omega)).trans h2)
    · simp [mrS, h3]
    · simp [mrS, h4, mrD, arrV_size, Nat.succ_mul]
      omega
    · show (State.setCell _ _ _).heap[a]? = _
      rw [State.heap_setCell_other (Nat.ne_of_gt ha), hold a (by omega)]
      exact h5 a ha
    · show (State.setCell _ _ _).heap[T.heap.size + 1 + j]? = _
      rw [State.heap_setCell_other (show T.heap.size ≠ T.heap.size + 1 + j by omega)]
      rcases Nat.lt_or_ge j i with hlt | hge
      · rw [hold _ (by omega)]
        exact h6 j hlt
      · obtain rfl : j = i := by omega
        rw [← h1]
        exact State.heap_pushCell_size _ _
theorem mrS_top (T : State) (f : JFrame) (cA cI : ClassId) (N K : Nat) : ∀ i, mrS (T.setTop f) cA cI N K i = (mrS T cA cI N K i).setTop f := by
  intro i
  induction i with
  | zero => rfl
  | succ i ih => simp only [mrS, ih, State.heap_setTop, State.pushCell_setTop, State.setCell_setTop]
section M9998
variable {p : Program} {l : Launch} {e : Env} {R : Room} {s : State} {m : MethodId} {args : Array Value} {below : List Frame} {meth : Method} {c : Code} {T : State} {locs : List Loc} {cells slots : Nat}
theorem mn_st (X : Stand p l e R s m args below meth c T locs cells slots) (cA cI : ClassId) (N K : Nat) : ∀ i, Stand p l e R s m args below meth c (mrS T cA cI N K i) (locs ++ (List.range i).map (fun j => (⟨T.heap.size, j⟩ : Loc))) (cells + 1 + i) (slots + N + i * K) := by
  intro i
  induction i with
  | zero =>
    have h := X.pushed (mrC cA N T.heap.size 0)
    rw [show (mrC cA N T.heap.size 0).slots.size = N from arrV_size _ _ _] at h
    simpa [mrS] using h
  | succ i ih =>
    obtain ⟨h1, h2, -, -, -, -⟩ := mrS_all T cA cI N K i
    have hlt : T.heap.size < (mrS T cA cI N K i).heap.size := by
      rw [h1]
      omega
    have hc : ((mrS T cA cI N K i).pushCell (mrD cI K)).heap[T.heap.size]? = some (mrC cA N T.heap.size i) := (State.heap_pushCell_of_lt _ _ hlt).trans h2
    have h := (ih.pushed (mrD cI K)).stored hc i (.ref (T.heap.size + 1 + i))
    rw [mrC_s, show (mrD cI K).slots.size = K from arrV_size _ _ _, List.append_assoc] at h
    rw [List.range_succ, List.map_append, show slots + N + (i + 1) * K = slots + N + i * K + K by rw [Nat.succ_mul]; omega]
    exact h
variable {E : CtlPost} {d : Bool} {acts : List Action}
theorem mn_na {a comp : ClassId} {k : Class} {ty : FieldType} {len : Nat} {v : Value} (hk : T.vm.classes[a]? = some k) (hkd : k.kind = .array comp ty) (hl : ¬ len > e.platform.arrayLengthLimit) (hb : ¬ len * componentBytes ty > e.platform.maxHeapBytes) (hf : fits ty v = true) (hdf : v.isDefault = true) {Q : Addr → Pre} (h1 : T.heap.size < e.platform.maxCells) (h2 : T.slotsUsed + len ≤ e.platform.maxSlots) (hq : Q T.heap.size d acts (T.pushCell (arrV a len (fun _ => v)))) : wp (Jvm.newArray a len v) Q E e d acts T := by
  have hfit : ∀ (i : Nat) (x : Value), (Array.replicate len v)[i]? = some x → T.fitsSlot a .none i x = true := fun i x hx => by
    rw [Array.getElem?_replicate] at hx
    split at hx
    · cases hx
      simp [State.fitsSlot, State.slotType?, hk, hkd, hf]
    · cases hx
  have hact : allocActs (Array.replicate len v) T.heap.size acts = acts := by
    unfold allocActs
    rw [if_pos]
    rw [Array.all_replicate]
    split
    · rfl
    · exact hdf
  rw [← arrV_new] at hq
  simp only [Jvm.newArray, Jvm.arrayFits, wp_bind', W.ask, W.ite, hl, if_false, wp_pure', W.theClass, hk, hkd, hb, W.alloc, W.stop, Option.some.injEq, exists_eq_left', Array.size_replicate, hact]
  rw [if_neg (by omega)]
  exact ⟨h1, h2, hfit, hq⟩
theorem mn_make {cA cI cc : ClassId} {kA kI : Class} {n k : Int32} {N K : Nat} (hn : n.toNatClampNeg = N) (hk : k.toNatClampNeg = K) (hn0 : ¬ n < 0) (hk0 : ¬ k < 0) (hA : T.vm.classes[cA]? = some kA) (hAk : kA.kind = .array cI (.array .int)) (hI : T.vm.classes[cI]? = some kI) (hIk : kI.kind = .array cc .int)
    (hl : ¬ N > e.platform.arrayLengthLimit) (hl2 : ¬ K > e.platform.arrayLengthLimit) (hb : ¬ N * componentBytes (.array .int) > e.platform.maxHeapBytes) (hb2 : ¬ K * componentBytes .int > e.platform.maxHeapBytes) (h1 : T.heap.size + 1 + N ≤ e.platform.maxCells) (h2 : T.slotsUsed + N + N * K ≤ e.platform.maxSlots) {Q : Addr → Pre} (hq : ∀ d' acts', Q T.heap.size d' acts' (mrS T cA cI N K N)) : wp (multianewarray.make cA [n, k]) Q E e d acts T := by
  subst hn
  subst hk
  rw [multianewarray.make]
  simp only [wp_bind', W.ite, hn0, if_false, wp_pure', W.theClass, hA, hAk, Option.some.injEq, exists_eq_left']
  refine mn_na hA hAk hl hb rfl rfl (by omega) (by omega) ?_
  have hnone : ([k].find? (· < 0)) = none := by simp [hk0]
  simp only [hnone]
  rw [ite_self, wp_bind', Std.Legacy.Range.forIn_eq_forIn_range', show ([:n.toNatClampNeg] : Std.Legacy.Range).size = n.toNatClampNeg by simp [Std.Legacy.Range.size]]
  show wp (forIn (List.range' 0 n.toNatClampNeg 1) PUnit.unit _) _ E e d acts _
  have h0 : T.pushCell (arrV cA n.toNatClampNeg (fun _ => .null)) = mrS T cA cI n.toNatClampNeg k.toNatClampNeg 0 := by
    show _ = T.pushCell (mrC cA n.toNatClampNeg T.heap.size 0)
    unfold mrC
    refine congrArg (fun f => T.pushCell (arrV cA n.toNatClampNeg f)) (funext fun j => ?_)
    rw [if_neg (Nat.not_lt_zero j)]
    rfl
  rw [h0]
  refine wp_forIn_inv (fun rest s' => ∃ i, i + rest.length = n.toNatClampNeg ∧ rest = List.range' i rest.length ∧ s' = mrS T cA cI n.toNatClampNeg k.toNatClampNeg i) _ _ ⟨0, by simp, by simp, rfl⟩ ?_ ?_
  · rintro x rest s' d' acts' Q' ⟨i, hi, hr, rfl⟩ hnext
    rw [List.length_cons] at hi hr
    rw [List.range'_succ] at hr
    obtain ⟨rfl, hr2⟩ := List.cons.inj hr
    obtain ⟨f1, f2, f3, f4, -, -⟩ := mrS_all T cA cI n.toNatClampNeg k.toNatClampNeg x
    have hmul : (x + 1) * k.toNatClampNeg ≤ n.toNatClampNeg * k.toNatClampNeg := Nat.mul_le_mul_right _ (by omega)
    rw [Nat.succ_mul] at hmul
    have hI' : (mrS T cA cI n.toNatClampNeg k.toNatClampNeg x).vm.classes[cI]? = some kI := by rw [f3]; exact hI
    simp only [wp_bind']
    rw [multianewarray.make]
    simp only [wp_bind', W.ite, hk0, if_false, wp_pure', W.theClass, hI', hIk, Option.some.injEq, exists_eq_left']
    refine mn_na hI' hIk hl2 hb2 rfl rfl (by rw [f1]; omega) (by rw [f4]; omega) ?_
    have hlt : T.heap.size < (mrS T cA cI n.toNatClampNeg k.toNatClampNeg x).heap.size := by
      rw [f1]
      omega
    have hc : ((mrS T cA cI n.toNatClampNeg k.toNatClampNeg x).pushCell (mrD cI k.toNatClampNeg)).heap[T.heap.size]? = some (mrC cA n.toNatClampNeg T.heap.size x) := (State.heap_pushCell_of_lt _ _ hlt).trans f2
    simp only [wp_bind', W.writeLoc, wp_pure']
    refine ⟨mrC cA n.toNatClampNeg T.heap.size x, hc, fun h => (by cases h), ?_, ?_, hnext _ _ _ ⟨x + 1, by omega, hr2, ?_⟩⟩
    · rw [show (mrC cA n.toNatClampNeg T.heap.size x).slots.size = n.toNatClampNeg from arrV_size _ _ _]
      omega
    · show State.fitsSlot _ cA .none x _ = true
      simp [State.fitsSlot, State.slotType?, f3, hA, hAk, fits]
    · rw [f1, mrC_s]
      rfl
  · rintro s' d' acts' ⟨i, hi, -, rfl⟩
    simp only [wp_pure']
    rw [List.length_nil, Nat.add_zero] at hi
    rw [hi]
    exact hq _ _
end M9998
