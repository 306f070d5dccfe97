/-! the row of the instruction that makes a row of rows of ints -/
/-- the memory with the outer row at q and i of its rows -/
def nwR (μ : Mem) (q : Nat) (r : Nat → Nat) (N K : Nat) : Nat → Mem
  | 0 => nw μ q 7 N
  | i + 1 => sX (nw (nwR μ q r N K i) (r i) 2 K) q i (some (r i))
section M9999
variable {Γ : Gm} {M : Mt} {R : Room} {mc ms cl sl : Nat} {Q : Option Value → Mem → Prop} {pc : Nat} {lv : List (Option Value)} {st : List Value} {μ : Mem}
theorem nwR_all {q : Nat} {r : Nat → Nat} {N K : Nat} (hq : ∀ i, i < N → r i ≠ q) (hr : ∀ i j, i < N → j < N → r i = r j → i = j) : ∀ i, i ≤ N → mT (nwR μ q r N K i) q = (7, N) ∧ (∀ j, mX (nwR μ q r N K i) q j = if j < i then some (r j) else none) ∧ (∀ j, j < i → mT (nwR μ q r N K i) (r j) = (2, K) ∧ ∀ k, mA (nwR μ q r N K i) (r j) k = 0) ∧ ∀ a, a ≠ q → (∀ j, j < i → r j ≠ a) → same μ (nwR μ q r N K i) a := by
  intro i
  induction i with
  | zero => exact fun _ => ⟨nw_T, fun j => (congrFun (va_up_s (f := mX μ) (k := q) (v := fun _ => none)) j).trans (if_neg (Nat.not_lt_zero j)).symm, fun j hj => absurd hj (Nat.not_lt_zero j), fun a ha _ => same_nw ha⟩
  | succ i ih =>
    intro hi
    obtain ⟨h1, h2, h3, h4⟩ := ih (by omega)
    have n1 : q ≠ r i := fun z => hq i hi z.symm
    have s1 : ∀ a, a ≠ r i → a ≠ q → same (nwR μ q r N K i) (nwR μ q r N K (i + 1)) a := fun a a1 a2 => (same_nw a1).trans (same_sX a2)
    refine ⟨(nw_Tn n1).trans h1, fun j => ?_, fun j hj => ?_, fun a a1 a2 => (h4 a a1 (fun j hj => a2 j (by omega))).trans (s1 a (fun z => a2 i (by omega) z.symm) a1)⟩
    · show up2 (mX (nw (nwR μ q r N K i) (r i) 2 K)) q i (some (r i)) q j = _
      by_cases hj : j = i
      · rw [hj, up2_s, if_pos (by omega)]
      · rw [up2_n (Or.inr hj)]
        refine (congrFun (va_up_n n1) j).trans ((h2 j).trans ?_)
        by_cases hlt : j < i
        · rw [if_pos hlt, if_pos (by omega)]
        · rw [if_neg hlt, if_neg (by omega)]
    · rcases Nat.lt_or_ge j i with hlt | hge
      · have s2 := s1 (r j) (fun z => by have := hr j i (by omega) hi z; omega) (hq j (by omega))
        obtain ⟨g1, g2⟩ := h3 j hlt
        exact ⟨s2.1.trans g1, fun k => (congrFun s2.2.2.2.2.1 k).trans (g2 k)⟩
      · obtain rfl : j = i := by omega
        have s2 : same (nw (nwR μ q r N K j) (r j) 2 K) (nwR μ q r N K (j + 1)) (r j) := same_sX (hq j hi)
        refine ⟨s2.1.trans nw_T, fun k => (congrFun s2.2.2.2.2.1 k).trans ?_⟩
        show va_up (mA (nwR μ q r N K j)) (r j) (fun _ => 0) (r j) k = 0
        rw [va_up_s]
theorem XP_cell {H H1 : Heap} {t n : Nat} {c0 : ClassId} {a0 : vp_A} (hP : XP Γ μ H) (hB : gB Γ ≤ H.size) (e1 : H1[H.size]? = some (vp_cell c0 a0)) (ho : ∀ a : Nat, a < H.size → H1[a]? = H[a]?) (ht : t ≠ 0) (he : xcell (gC Γ) (nw μ H.size t n) H.size = .inl (c0, a0)) : (mT μ H.size).1 = 0 ∧ XP Γ (nw μ H.size t n) H1 := by
  obtain ⟨L, hPL, hD, hL⟩ := hP
  refine XP_push hL ht he ((hPL.kept (fun k x hx => ho x.1 ((hPL k x hx).lt))).app (fun k x hx => ?_)) (hD.push hPL rfl hB)
  have hz : k < 1 := (List.getElem?_eq_some_iff.mp hx).1
  rw [show k = 0 by omega] at hx
  cases hx
  exact e1
theorem XP_ref {H H1 : Heap} {q k n i v : Nat} (hP : XP Γ μ H) (hT : mT μ q = (k + 4, n)) (e1 : H1[q]? = some (vp_cell (gC Γ (k + 2)) (n, .inr (.inr (.inr (.inr (va_up (mX μ q) i (some v)))))))) (ho : ∀ a : Nat, a ≠ q → H1[a]? = H[a]?) : XP Γ (sX μ q i (some v)) H1 := by
  obtain ⟨L, hPL, hD, hL⟩ := hP
  have hq : q ∈ L := (hL q).mpr (by rw [hT]; exact fun h => by cases h)
  obtain ⟨z, hz0⟩ := va_pl_get (X := []) (f := xcell (gC Γ) μ) hq
  have hz := hz0
  rw [xcell_x hT] at hz
  refine XP_set (μ' := sX μ q i (some v)) (e := .inl (gC Γ (k + 2), n, .inr (.inr (.inr (.inr (va_up (mX μ q) i (some v))))))) hD hL hq hz0 rfl ?_ (fun a ha => xcell_ne rfl rfl rfl rfl rfl (up2_row ha)) (hPL.set hD hz e1 ho) (hD.set hz)
  rw [xcell_x (show mT (sX μ q i (some v)) q = (k + 4, n) from hT)]
  show (Sum.inl (gC Γ (k + 2), n, .inr (.inr (.inr (.inr (up2 (mX μ) q i (some v) q))))) : va_E) = _
  rw [up2_va]
theorem XP_rows {T : State} {N K : Nat} (hP : XP Γ μ T.heap) (hB : gB Γ ≤ T.heap.size) : ∀ i, i ≤ N → XP Γ (nwR μ T.heap.size (fun j => T.heap.size + 1 + j) N K i) (mrS T (gC Γ 5) (gC Γ 0) N K i).heap ∧ (∀ j, j < i → (mT μ (T.heap.size + 1 + j)).1 = 0) ∧ (mT μ T.heap.size).1 = 0 := by
  intro i
  induction i with
  | zero =>
    intro _
    obtain ⟨-, f2, -, -, f5, -⟩ := mrS_all T (gC Γ 5) (gC Γ 0) N K 0
    obtain ⟨g1, g2⟩ := XP_cell (t := 7) (n := N) (c0 := gC Γ 5) (a0 := (N, .inr (.inr (.inr (.inr (fun _ => none)))))) hP hB f2 f5 (by decide) (by
      rw [xcell_x (k := 3) nw_T]
      show (Sum.inl (gC Γ 5, N, Sum.inr (Sum.inr (Sum.inr (Sum.inr (va_up (mX μ) T.heap.size (fun _ => none) T.heap.size))))) : va_E) = _
      rw [va_up_s])
    exact ⟨g2, fun j hj => absurd hj (Nat.not_lt_zero j), g1⟩
  | succ i ih =>
    intro hi
    obtain ⟨h1, h2, h3⟩ := ih (by omega)
    obtain ⟨a1, a2, a3, a4⟩ := nwR_all (μ := μ) (q := T.heap.size) (r := fun j => T.heap.size + 1 + j) (N := N) (K := K) (fun i _ z => by have z : T.heap.size + 1 + i = T.heap.size := z; omega) (fun i j _ _ z => by have z : T.heap.size + 1 + i = T.heap.size + 1 + j := z; omega) i (by omega)
    obtain ⟨f1, f2, -, -, f5, -⟩ := mrS_all T (gC Γ 5) (gC Γ 0) N K i
    obtain ⟨-, e2, -, -, e5, e6⟩ := mrS_all T (gC Γ 5) (gC Γ 0) N K (i + 1)
    generalize hU : mrS T (gC Γ 5) (gC Γ 0) N K i = U at *
    have hsz : U.heap.size = T.heap.size + 1 + i := f1
    have hold : ∀ a : Nat, a < U.heap.size → (U.pushCell (mrD (gC Γ 0) K)).heap[a]? = U.heap[a]? := fun a ha => State.heap_pushCell_of_lt _ _ ha
    obtain ⟨g1, g2⟩ := XP_cell (H1 := (U.pushCell (mrD (gC Γ 0) K)).heap) (t := 2) (n := K) (c0 := gC Γ 0) (a0 := (K, .inl (fun _ => 0))) h1 (by rw [hsz]; omega) (State.heap_pushCell_size _ _) hold (by decide) (by
      rw [xcell_i nw_T]
      show (Sum.inl (gC Γ 0, K, Sum.inl (va_up (mA _) U.heap.size (fun _ => 0) U.heap.size)) : va_E) = _
      rw [va_up_s])
    rw [hsz] at g1 g2
    have n1 : T.heap.size ≠ T.heap.size + 1 + i := by omega
    refine ⟨?_, fun j hj => ?_, h3⟩
    · have hm : mrS T (gC Γ 5) (gC Γ 0) N K (i + 1) = (U.pushCell (mrD (gC Γ 0) K)).setCell T.heap.size (mrC (gC Γ 5) N T.heap.size (i + 1)) := by
        rw [← hU]
        rfl
      rw [hm]
      refine XP_ref (k := 3) (n := N) g2 ((nw_Tn n1).trans a1) ?_ (fun a ha => State.heap_setCell_other (Ne.symm ha))
      have hc : (U.pushCell (mrD (gC Γ 0) K)).heap[T.heap.size]? = some (mrC (gC Γ 5) N T.heap.size i) := (hold _ (by omega)).trans f2
      rw [State.heap_setCell_self hc]
      show some (vp_cell (gC Γ 5) (N, .inr (.inr (.inr (.inr (fun j => if j < i + 1 then some (T.heap.size + 1 + j) else none)))))) = _
      refine congrArg (fun f => some (vp_cell (gC Γ 5) (N, .inr (.inr (.inr (.inr f)))))) (funext fun j => ?_)
      have hj : mX (nw (nwR μ T.heap.size (fun j => T.heap.size + 1 + j) N K i) (T.heap.size + 1 + i) 2 K) T.heap.size j = if j < i then some (T.heap.size + 1 + j) else none := (congrFun (va_up_n n1) j).trans (a2 j)
      by_cases e : j = i
      · rw [e, va_up_s, if_pos (by omega)]
      · rw [va_up_n e, hj]
        by_cases hlt : j < i
        · rw [if_pos hlt, if_pos (by omega)]
        · rw [if_neg hlt, if_neg (by omega)]
    · rcases Nat.lt_or_ge j i with hlt | hge
      · exact h2 j hlt
      · obtain rfl : j = i := by omega
        rw [← a4 (T.heap.size + 1 + j) (by omega) (fun k hk z => by have z : T.heap.size + 1 + k = T.heap.size + 1 + j := z; omega) |>.1]
        exact g1
theorem x_mna {idx N K : Nat} {n k : Int32} (d : decode M.2.1 pc = .ok (.multianewarray idx 2, 4)) (hw : Cond.classLink M.1.cls idx "[[I" ∈ gT) (hn : n = nI N) (hk : k = nI K) (hN : N ≤ 1000) (hK1 : K ≤ 1000) (hcs : cl + (1 + N) ≤ R.cells ∧ sl + (N + N * K) ≤ R.slots) (kk : ∀ (q : Nat) (r : Nat → Nat), (mT μ q).1 = 0 → (∀ i, i < N → (mT μ (r i)).1 = 0 ∧ r i ≠ q) → (∀ i j, i < N → j < N → r i = r j → i = j) → WA Γ M R mc ms (cl + 1 + N) (sl + N + N * K) Q (pc + 4) lv (.ref q :: st) (nwR μ q r N K N)) : WA Γ M R mc ms cl sl Q pc lv (.int k :: .int n :: st) μ := by
  intro p e s m args below meth c Qf H locs ls F hS hP hl hE T hT X
  obtain ⟨hx, hb, -, -, -, -, hown, hts, hK, hB, hSE⟩ := id F
  have hpl : e.platform.magicAccessors = ({} : Platform).magicAccessors := by rw [X.admits.platform]
  obtain ⟨c0, hc0, hcl⟩ := Cond.classLink_spec hown (hts _ hw) e.platform hpl
  obtain ⟨comp, cA, kA, g1, -, g3, g4, g5⟩ := hSE.2.2.2.2.2.2.2.2.1
  obtain ⟨cI, kI, cc, i1, i2, i3⟩ := Cond.arrayClass_spec (hts _ ka_int)
  have es : "[" ++ (FieldType.array .int).toString = "[[I" := by decide +kernel
  rw [es] at g5
  have q5 : s.vm.findClass ("[" ++ (FieldType.array .int).toString) = some (gC Γ 5) := (hK.2 5 (gC Γ 5, .array .int) rfl).2
  rw [es] at q5
  have q0 : s.vm.findClass ("[" ++ FieldType.int.toString) = some (gC Γ 0) := (hK.2 0 (gC Γ 0, .int) rfl).2
  obtain rfl : cA = gC Γ 5 := Option.some.inj (g5.symm.trans q5)
  obtain rfl : c0 = gC Γ 5 := Option.some.inj (hc0.symm.trans q5)
  obtain rfl : cI = gC Γ 0 := Option.some.inj (i1.symm.trans q0)
  obtain rfl : comp = gC Γ 0 := Option.some.inj (g1.symm.trans q0)
  obtain ⟨hg1, hwarm, hready⟩ := State.classEntry (e := e) X.warmed hcl
  generalize T.vm.noted m.cls idx (.cls (gC Γ 5)) = vm1 at hg1 hwarm hready
  obtain ⟨kA1, y1, y2⟩ := hwarm.alike.2.2 _ _ g3
  obtain ⟨kI1, z1, z2⟩ := hwarm.alike.2.2 _ _ i2
  have X1 := X.noted hwarm
  have XN := mn_st X1 (gC Γ 5) (gC Γ 0) N K N
  have XD := XN.dropFresh (fun x hx => by
    obtain ⟨j, -, rfl⟩ := List.mem_map.mp hx
    exact X.heapGrown)
  obtain ⟨hr1, hr2⟩ := X.roomAbove hcs.1 hcs.2
  have hnp : ¬ n < 0 := by
    rw [hn]
    exact nI_pos (by omega)
  have hkp : ¬ k < 0 := by
    rw [hk]
    exact nI_pos (by omega)
  have hnc : n.toNatClampNeg = N := by
    rw [hn]
    exact nI_clamp (by omega)
  have hkc : k.toNatClampNeg = K := by
    rw [hk]
    exact nI_clamp (by omega)
  have hl1 : ¬ N > e.platform.arrayLengthLimit := by
    rw [Launch.admits_arrayLengthLimit X.admits]
    omega
  have hl2 : ¬ K > e.platform.arrayLengthLimit := by
    rw [Launch.admits_arrayLengthLimit X.admits]
    omega
  have hb1 : ¬ N * componentBytes (.array .int) > e.platform.maxHeapBytes := by
    rw [Launch.admits_maxHeapBytes X.admits]
    show ¬ N * 4 > 536870912
    omega
  have hb2 : ¬ K * componentBytes .int > e.platform.maxHeapBytes := by
    rw [Launch.admits_maxHeapBytes X.admits]
    show ¬ K * 4 > 536870912
    omega
  have hTh : (T.setVm vm1).heap = H := hT
  have hBH : gB Γ ≤ (T.setVm vm1).heap.size := by
    rw [hTh]
    exact Nat.le_trans hB hS.1
  obtain ⟨w1, w2, w3⟩ := XP_rows (Γ := Γ) (μ := μ) (T := T.setVm vm1) (N := N) (K := K) (by rw [hTh]; exact hP) hBH N (Nat.le_refl N)
  obtain ⟨m1, -, -, -, m5, -⟩ := mrS_all (T.setVm vm1) (gC Γ 5) (gC Γ 0) N K N
  have hS2 : va_S (gA Γ) s.heap (mrS (T.setVm vm1) (gC Γ 5) (gC Γ 0) N K N).heap locs := by
    refine ⟨?_, fun q h1 h2 => ?_, hS.2.2⟩
    · rw [m1, hTh]
      have := hS.1
      omega
    · rw [m5 q (by rw [hTh]; exact Nat.lt_of_lt_of_le h1 hS.1), hTh]
      exact hS.2.1 q h1 h2
  obtain ⟨t, t1, t2⟩ := kk (T.setVm vm1).heap.size (fun j => (T.setVm vm1).heap.size + 1 + j) w3 (fun i hi => ⟨w2 i hi, by omega⟩) (fun i j _ _ z => by have z : (T.setVm vm1).heap.size + 1 + i = (T.setVm vm1).heap.size + 1 + j := z; omega) p e s m args below meth c Qf _ locs ls F hS2 w1 hl hE _ rfl XD
  refine ⟨t, ?_, t2⟩
  have hdc : decode c.code pc = .ok (.multianewarray idx 2, 4) := by
    rw [hb]
    exact d
  have XF := XN.here.top
  jvm_step X.here [hx, F0, hdc]
  simp only [multianewarray.sem, wp_bind', W.resolveClassAt_links (State.method?_setTop (F0 m pc ls (.int k :: .int n :: st)) X.here.top) hg1]
  rw [W.popN, if_neg (by decide)]
  refine ⟨F0 m pc ls (.int k :: .int n :: st), State.topJava?_setTop' (s := T.setVm vm1) _ X.here.top, [.int n, .int k], st, rfl, rfl, ?_⟩
  simp only [List.mapM_cons, List.mapM_nil, wp_bind', wp_pure']
  have hheap : (T.setVm vm1).heap = T.heap := rfl
  refine mn_make (kA := kA1) (kI := kI1) (cc := cc) (cI := gC Γ 0) hnc hkc hnp hkp y1 (by rw [y2]; exact g4) z1 (by rw [z2]; exact i3) hl1 hl2 hb1 hb2 (by show T.heap.size + 1 + N ≤ _; omega) (by show T.slotsUsed + N + N * K ≤ _; omega) (fun d' acts' => ?_)
  have eS : (((T.setTop (F0 m pc ls (.int k :: .int n :: st))).setVm vm1).setTop { F0 m pc ls (.int k :: .int n :: st) with stack := st }) = (T.setVm vm1).setTop { F0 m pc ls (.int k :: .int n :: st) with stack := st } := by
    show ((T.setVm vm1).setTop _).setTop _ = _
    rw [State.setTop_setTop]
  rw [eS, mrS_top]
  simp only [wp_bind', W.mark, W.pushRef, State.topJava?_setTop' _ XF, Option.some.injEq, exists_eq_left', State.setTop_setTop, State.heap_setTop]
  intro acts
  simp [jvm, XF]
  exact t1
end M9999
