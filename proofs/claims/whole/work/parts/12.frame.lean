/-! typed memory: the kind of each address (0: none; 1: an object, its number of class; 2: ints, how many; 3: booleans; 4 and on: references), int fields, long fields, reference fields, numbers of arrays, references of arrays -/
abbrev Mem : Type := (Nat → Nat × Nat) × (Nat → Nat → Int32) × (Nat → Nat → Int64) × (Nat → Nat → Option Nat) × (Nat → Nat → Int32) × (Nat → Nat → Option Nat)
def mT (μ : Mem) : Nat → Nat × Nat := μ.1
def mI (μ : Mem) : Nat → Nat → Int32 := μ.2.1
def mJ (μ : Mem) : Nat → Nat → Int64 := μ.2.2.1
def mR (μ : Mem) : Nat → Nat → Option Nat := μ.2.2.2.1
def mA (μ : Mem) : Nat → Nat → Int32 := μ.2.2.2.2.1
def mX (μ : Mem) : Nat → Nat → Option Nat := μ.2.2.2.2.2
def up2 {α : Type} (f : Nat → Nat → α) (q k : Nat) (v : α) : Nat → Nat → α := fun a b => if a = q ∧ b = k then v else f a b
theorem up2_s {α : Type} {f : Nat → Nat → α} {q k : Nat} {v : α} : up2 f q k v q k = v := by simp [up2]
theorem up2_n {α : Type} {f : Nat → Nat → α} {q k a b : Nat} {v : α} (h : a ≠ q ∨ b ≠ k) : up2 f q k v a b = f a b := by
  unfold up2
  rw [if_neg]
  rintro ⟨h1, h2⟩
  rcases h with h | h
  · exact h h1
  · exact h h2
def sI (μ : Mem) (q k : Nat) (v : Int32) : Mem := (μ.1, up2 μ.2.1 q k v, μ.2.2)
def sJ (μ : Mem) (q k : Nat) (v : Int64) : Mem := (μ.1, μ.2.1, up2 μ.2.2.1 q k v, μ.2.2.2)
def sR (μ : Mem) (q k : Nat) (v : Option Nat) : Mem := (μ.1, μ.2.1, μ.2.2.1, up2 μ.2.2.2.1 q k v, μ.2.2.2.2)
def sA (μ : Mem) (q k : Nat) (v : Int32) : Mem := (μ.1, μ.2.1, μ.2.2.1, μ.2.2.2.1, up2 μ.2.2.2.2.1 q k v, μ.2.2.2.2.2)
def sX (μ : Mem) (q k : Nat) (v : Option Nat) : Mem := (μ.1, μ.2.1, μ.2.2.1, μ.2.2.2.1, μ.2.2.2.2.1, up2 μ.2.2.2.2.2 q k v)
/-- what a field holds, by its type -/
def xv (μ : Mem) (q k : Nat) (ty : FieldType) : Value := match ty with
  | .long => .long (mJ μ q k)
  | .object _ => va_rf (mR μ q k)
  | .array _ => va_rf (mR μ q k)
  | _ => .int (mI μ q k)
def xfs (μ : Mem) (q ci : Nat) : List Value := (List.range (xN ci)).map (fun k => xv μ q k (xty ci k))
def xcell (ca : Nat → ClassId) (μ : Mem) (q : Nat) : va_E := match (mT μ q).1 with
  | 0 => .inr (99, [])
  | 1 => .inr ((mT μ q).2, xfs μ q (mT μ q).2)
  | 2 => .inl (ca 0, (mT μ q).2, .inl (mA μ q))
  | 3 => .inl (ca 1, (mT μ q).2, .inl (mA μ q))
  | k + 4 => .inl (ca (k + 2), (mT μ q).2, .inr (.inr (.inr (.inr (mX μ q)))))
theorem xcell_o {ca : Nat → ClassId} {μ : Mem} {q ci : Nat} (h : mT μ q = (1, ci)) : xcell ca μ q = .inr (ci, xfs μ q ci) := by unfold xcell; rw [h]
theorem xcell_i {ca : Nat → ClassId} {μ : Mem} {q n : Nat} (h : mT μ q = (2, n)) : xcell ca μ q = .inl (ca 0, n, .inl (mA μ q)) := by unfold xcell; rw [h]
theorem xcell_z {ca : Nat → ClassId} {μ : Mem} {q n : Nat} (h : mT μ q = (3, n)) : xcell ca μ q = .inl (ca 1, n, .inl (mA μ q)) := by unfold xcell; rw [h]
theorem xcell_x {ca : Nat → ClassId} {μ : Mem} {q n k : Nat} (h : mT μ q = (k + 4, n)) : xcell ca μ q = .inl (ca (k + 2), n, .inr (.inr (.inr (.inr (mX μ q))))) := by unfold xcell; rw [h]
/-- the launch, the classes' numbers, the array classes, the first free address, the strings -/
abbrev Gm : Type := Launch × va_G × (Nat → ClassId) × Nat × (Nat → Nat) × (Nat → Nat)
def gL (Γ : Gm) : Launch := Γ.1
def gD (Γ : Gm) : va_G := Γ.2.1
def gC (Γ : Gm) : Nat → ClassId := Γ.2.2.1
def gB (Γ : Gm) : Nat := Γ.2.2.2.1
def gA (Γ : Gm) : Nat → Prop := fun q => gB Γ ≤ q
def XP (Γ : Gm) (μ : Mem) (H : Heap) : Prop := ∃ L : List Nat, va_P (gD Γ) vwCl (va_pl L (xcell (gC Γ) μ)) H ∧ va_D (gA Γ) (va_pl L (xcell (gC Γ) μ)) ∧ ∀ q, q ∈ L ↔ (mT μ q).1 ≠ 0
def xtys (Γ : Gm) : List (ClassId × FieldType) := [(gC Γ 0, .int), (gC Γ 1, .boolean), (gC Γ 2, .object "PutOut$Thing"), (gC Γ 3, .object "PutOut$Text"), (gC Γ 4, .object "PutOut$Sheet"), (gC Γ 5, .array .int)]
/-- the strings of the class, by their numbers: whose pool, entry, text, length, bytes -/
def sOwn : Nat → String := fun i => if i = 0 then "PutOut" else "PutOut$Reader"
def sIdx : Nat → Nat := fun i => [57, 106, 112, 114, 116, 118, 120, 122, 124, 126, 128, 130, 132].getD i 0
def sTx : Nat → String := fun i => ["moves 1 ; ugly 9 - look ; minds 20 ;", "moves", "ugly", "minds", "or", "and", "not", "thing", "place", "giver", "guests", "look", "number"].getD i ""
def sLen : List Nat := [36, 5, 4, 5, 2, 3, 3, 5, 5, 5, 6, 4, 6]
def sByt : List (List Int32) := [[109, 111, 118, 101, 115, 32, 49, 32, 59, 32, 117, 103, 108, 121, 32, 57, 32, 45, 32, 108, 111, 111, 107, 32, 59, 32, 109, 105, 110, 100, 115, 32, 50, 48, 32, 59], [109, 111, 118, 101, 115], [117, 103, 108, 121], [109, 105, 110, 100, 115], [111, 114], [97, 110, 100], [110, 111, 116], [116, 104, 105, 110, 103], [112, 108, 97, 99, 101], [103, 105, 118, 101, 114], [103, 117, 101, 115, 116, 115], [108, 111, 111, 107], [110, 117, 109, 98, 101, 114]]
/-- links of nest mates; what arrays of references are of; which casts go and which don't -/
def nestL : List (String × Nat × MethodName) := [("PutOut", 29, ⟨"PutOut$Reader", "<init>", "()V"⟩), ("PutOut", 51, ⟨"PutOut$Planner", "<init>", "()V"⟩), ("PutOut", 56, ⟨"PutOut$Sheet", "<init>", "()V"⟩), ("PutOut$House", 43, ⟨"PutOut", "isBelow", "(II)Z"⟩), ("PutOut$Thing", 52, ⟨"PutOut", "isBelow", "(II)Z"⟩), ("PutOut$Planner", 77, ⟨"PutOut", "viewersOf", "(I[I)I"⟩), ("PutOut$Thing", 79, ⟨"PutOut", "hasBit", "(II)Z"⟩), ("PutOut$Planner", 84, ⟨"PutOut", "isBelow", "(II)Z"⟩)]
def xRC : Nat → String := fun k => match k with
  | 0 => "PutOut$Thing"
  | 1 => "PutOut$Text"
  | _ => "PutOut$Sheet"
def castY : List (String × String) := [("PutOut$Portrait", "PutOut$Picture"), ("PutOut$Vase", "PutOut$Clock"), ("PutOut$Picture", "PutOut$Thing"), ("PutOut$Clock", "PutOut$Thing"), ("PutOut$Portrait", "PutOut$Thing"), ("PutOut$Vase", "PutOut$Thing"), ("PutOut$Broken", "PutOut$Thing"), ("[I", "java/lang/Cloneable")]
def castN : List (String × String) := [("PutOut$Thing", "PutOut$Picture"), ("PutOut$Clock", "PutOut$Picture"), ("PutOut$Vase", "PutOut$Picture"), ("PutOut$Broken", "PutOut$Picture"), ("PutOut$Thing", "PutOut$Clock"), ("PutOut$Picture", "PutOut$Clock"), ("PutOut$Portrait", "PutOut$Clock"), ("PutOut$Broken", "PutOut$Clock"), ("PutOut$Thing", "PutOut$Portrait"), ("PutOut$Picture", "PutOut$Portrait"), ("PutOut$Clock", "PutOut$Portrait"), ("PutOut$Vase", "PutOut$Portrait"), ("PutOut$Broken", "PutOut$Portrait"), ("PutOut$Thing", "PutOut$Vase"), ("PutOut$Picture", "PutOut$Vase"), ("PutOut$Clock", "PutOut$Vase"), ("PutOut$Portrait", "PutOut$Vase"), ("PutOut$Broken", "PutOut$Vase"), ("PutOut$Thing", "PutOut$Broken"), ("PutOut$Picture", "PutOut$Broken"), ("PutOut$Clock", "PutOut$Broken"), ("PutOut$Portrait", "PutOut$Broken"), ("PutOut$Vase", "PutOut$Broken")]
/-- a private method that things of all kinds run; the class of rows of rows of ints -/
def pvT : MethodName := ⟨"PutOut$Thing", "offenceTo", "(I)I"⟩
theorem pv_moved {u U : State} (hvm : u.vm.Alike U.vm) (h : u.PrivateAt pvT) : U.PrivateAt pvT := fun mk meth h1 h2 => by
  refine h mk meth ?_ ?_
  · rw [← State.methodNamed?_setVm hvm pvT]
    exact h1
  · rw [← hvm.method?]
    exact h2
def AOI (U : State) : Prop := ∃ comp c k, U.vm.findClass (FieldType.array .int).toString = some comp ∧ (U.vm.classes.findIdx? fun (x : Class) => match x.kind with | .array component _ => component == comp | _ => false) = some c ∧ U.vm.classes[c]? = some k ∧ k.kind = .array comp (.array .int) ∧ U.vm.findClass ("[" ++ (FieldType.array .int).toString) = some c
theorem AOI.moved {u U : State} (hvm : u.vm.Alike U.vm) (h : AOI u) : AOI U := by
  obtain ⟨comp, c, k, g1, g2, g3, g4, g5⟩ := h
  obtain ⟨k2, e2, e3⟩ := hvm.2.2 _ _ g3
  refine ⟨comp, c, k2, (hvm.findClass _ _).trans g1, ?_, e2, by rw [e3]; exact g4, (hvm.findClass _ _).trans g5⟩
  have q := va_idx_bare u.vm comp
  have q2 := va_idx_bare U.vm comp
  have q3 := congrArg (fun v : Vm => v.classes.findIdx? (fun (x : Class) => match x.kind with | .array component _ => component == comp | _ => false)) hvm.bare_eq
  first
    | exact (q2.symm.trans (q3.trans q)).trans g2
    | exact (q2.symm.trans (q3.symm.trans q)).trans g2
def SE (Γ : Gm) (U : State) (H : Heap) : Prop := vk_S 13 sLen sByt Γ.2.2.2.2.1 Γ.2.2.2.2.2 (gA Γ) U H ∧ (∀ i : Nat, i < 13 → vk_R (sOwn i) (sIdx i) (sTx i) (Γ.2.2.2.2.1 i) U) ∧ va_Z "java/lang/String" "COMPACT_STRINGS" "Z" (.int 1) (gA Γ) U H ∧ (∀ x ∈ nestL, va_Nw (.methodLinkNest x.1 x.2.1 x.2.2 "PutOut") U) ∧ (∀ k : Nat, va_AO (xRC k) U) ∧ (∀ x ∈ castY, va_Nw (.castable x.1 x.2) U) ∧ (∀ x ∈ castN, va_Nc x.1 x.2 U) ∧ U.PrivateAt pvT ∧ AOI U ∧ va_Zq "jdk/internal/util/Preconditions" "SIOOBE_FORMATTER" "Ljava/util/function/BiFunction;" (gA Γ) U H
/-- a method: its name, its bytes, how many locals, what it answers -/
abbrev Mt : Type := MethodName × ByteArray × Nat × Option FieldType
def XF (Γ : Gm) (M : Mt) (p : Program) (s : State) (m : MethodId) (args : Array Value) (meth : Method) (c : Code) : Prop :=
  p.tables.exec = Jvm.exec ∧ c.code = M.2.1 ∧ c.maxLocals = M.2.2.1 ∧ meth.sig.returnType = M.2.2.2 ∧ meth.locks = false ∧ meth.name = M.1.name ∧ s.vm.findClass M.1.cls = some m.cls ∧ (∀ w ∈ gT, w.before args s = true) ∧ va_K (gD Γ) vwCl (xtys Γ) s ∧ gB Γ ≤ s.heap.size ∧ SE Γ s s.heap
/-- the locals by their slots -/
def xl (ls : Array Slot) (nL : Nat) (lv : List (Option Value)) : Prop := ls.size = nL ∧ lv_wf ls ∧ ∀ (j : Nat) (v : Value), lv[j]? = some (some v) → ls[j]? = some (.val v)
/-- what an end of the method asks -/
def XRet (Γ : Gm) (M : Mt) (R : Room) (p : Program) (e : Env) (s : State) (m : MethodId) (args : Array Value) (below : List Frame) (meth : Method) (c : Code) (H : Heap) (locs : List Loc) (mc ms : Nat) (Qf : State → Prop) (r : Option Value) : Prop :=
  ∀ (pc : Nat) (ls : Array Slot), match r with
    | none => M.2.2.2 = none → decode M.2.1 pc = .ok (.return_, 1) → W p (gL Γ) e R s m args below meth c H locs mc ms Qf (F0 m pc ls [])
    | some (.int v) => (∃ ty, M.2.2.2 = some ty ∧ narrow ty (.int v) = .int v) → decode M.2.1 pc = .ok (.ireturn, 1) → W p (gL Γ) e R s m args below meth c H locs mc ms Qf (F0 m pc ls [.int v])
    | some (.long v) => M.2.2.2 = some .long → decode M.2.1 pc = .ok (.lreturn, 1) → W p (gL Γ) e R s m args below meth c H locs mc ms Qf (F0 m pc ls [.long v])
    | some (.ref v) => (∃ t, M.2.2.2 = some t ∧ ((∃ n, t = .object n) ∨ ∃ u, t = .array u)) → decode M.2.1 pc = .ok (.areturn, 1) → W p (gL Γ) e R s m args below meth c H locs mc ms Qf (F0 m pc ls [.ref v])
    | _ => True
def WA (Γ : Gm) (M : Mt) (R : Room) (mc ms cl sl : Nat) (Q : Option Value → Mem → Prop) (pc : Nat) (lv : List (Option Value)) (st : List Value) (μ : Mem) : Prop :=
  ∀ (p : Program) (e : Env) (s : State) (m : MethodId) (args : Array Value) (below : List Frame) (meth : Method) (c : Code) (Qf : State → Prop) (H : Heap) (locs : List Loc) (ls : Array Slot),
    XF Γ M p s m args meth c → va_S (gA Γ) s.heap H locs → XP Γ μ H → xl ls M.2.2.1 lv →
    (∀ (r : Option Value) (μ' : Mem) (H' : Heap) (locs' : List Loc), Q r μ' → XP Γ μ' H' → va_S (gA Γ) s.heap H' locs' → XRet Γ M R p e s m args below meth c H' locs' mc ms Qf r) →
    W p (gL Γ) e R s m args below meth c H locs cl sl Qf (F0 m pc ls st)
def XQ (Γ : Gm) (Q : Option Value → Mem → Prop) : Array Value → State → Outcome → State → Prop := fun _ st o t => (∃ (r : Option Value) (μ' : Mem), o = .returned r ∧ Q r μ' ∧ XP Γ μ' t.heap) ∧ va_F (gA Γ) st t
def xB (Γ : Gm) (μ : Mem) (U : State) : Prop := XP Γ μ U.heap ∧ va_K (gD Γ) vwCl (xtys Γ) U ∧ gB Γ ≤ U.heap.size ∧ SE Γ U U.heap
abbrev xrm (d mc ms : Nat) : Room := { frames := d, cells := mc, slots := ms, locals := 64 * d }
abbrev xws (M : Mt) : List Cond := Cond.code M.1 M.2.1 M.2.2.1 M.2.2.2 :: gT
/-- a method's contract: from the memory μ, with these arguments, it answers and leaves a memory so that Q; it makes at most mc cells of ms slots, its calls stand at most d deep -/
def XM (Γ : Gm) (M : Mt) (d mc ms : Nat) (As : List Value) (μ : Mem) (Q : Option Value → Mem → Prop) : Prop :=
  Met (gL Γ) M.1 (xws M) (xrm d mc ms) (va_Pc As (xB Γ μ)) (XQ Γ Q) mc ms (gA Γ)
theorem SE_calling {Γ : Gm} {U : State} {g : JFrame} {mk : MethodId} {a : Array Value} (h : SE Γ U U.heap) : SE Γ (U.calling g mk a) (U.calling g mk a).heap :=
  ⟨vk_S.moved (u := U) (U := U.calling g mk a) (Vm.Alike.refl U.vm) h.1, fun i hi => vk_R.same (u := U) rfl (h.2.1 i hi), va_Z.moved (u := U) (U := U.calling g mk a) (Vm.Alike.refl U.vm) h.2.2.1, fun x hx => va_Nw.same (u := U) rfl rfl (h.2.2.2.1 x hx), fun k => va_AO.moved (u := U) (U := U.calling g mk a) (Vm.Alike.refl U.vm) (h.2.2.2.2.1 k), fun x hx => va_Nw.same (u := U) rfl rfl (h.2.2.2.2.2.1 x hx), fun x hx => va_Nc.moved (u := U) (U := U.calling g mk a) (Vm.Alike.refl U.vm) (h.2.2.2.2.2.2.1 x hx), pv_moved (u := U) (U := U.calling g mk a) (Vm.Alike.refl U.vm) h.2.2.2.2.2.2.2.1, AOI.moved (u := U) (U := U.calling g mk a) (Vm.Alike.refl U.vm) h.2.2.2.2.2.2.2.2.1, va_Zq.moved (u := U) (U := U.calling g mk a) (Vm.Alike.refl U.vm) h.2.2.2.2.2.2.2.2.2⟩
theorem xB_blind {Γ : Gm} {μ : Mem} {As : List Value} : FrameBlind (va_Pc As (xB Γ μ)) := fun a U g mk q => by
  obtain ⟨q0, qP, qK, qB, qS⟩ := q
  exact ⟨q0, qP, va_K.moved (u := U) (U := U.calling g mk a) (Vm.Alike.refl U.vm) qK, qB, SE_calling qS⟩
theorem xB_at {Γ : Gm} {M : Mt} {μ : Mem} {p : Program} {s U : State} {m : MethodId} {args : Array Value} {meth : Method} {c : Code} {H : Heap} {locs : List Loc} (F : XF Γ M p s m args meth c) (hS : va_S (gA Γ) s.heap H locs) (hP : XP Γ μ H) (hU : U.heap = H) (hW : s.WarmedH U.vm) : xB Γ μ U := by
  obtain ⟨-, -, -, -, -, -, -, -, hK, hB, hE⟩ := F
  refine ⟨by rw [hU]; exact hP, va_K.moved hW.alike hK, by rw [hU]; exact Nat.le_trans hB hS.1, ?_, fun i hi => vk_R.warm hW (hE.2.1 i hi), ?_, fun x hx => va_Nw.warmM hW (hE.2.2.2.1 x hx), fun k => va_AO.moved hW.alike (hE.2.2.2.2.1 k), fun x hx => va_Nw.warmC hW (hE.2.2.2.2.2.1 x hx), fun x hx => va_Nc.moved hW.alike (hE.2.2.2.2.2.2.1 x hx), pv_moved hW.alike hE.2.2.2.2.2.2.2.1, AOI.moved hW.alike hE.2.2.2.2.2.2.2.2.1, ?_⟩
  · rw [hU]
    exact (vk_S.kept hE.1 hS.2.1).moved hW.alike
  · rw [hU]
    exact (va_Z.kept hE.2.2.1 hS.2.1).moved hW.alike
  · rw [hU]
    exact (va_Zq.kept hE.2.2.2.2.2.2.2.2.2 hS.2.1).moved hW.alike
theorem xl_entry (As : List Value) {n : Nat} (h : (lg_sl As).length ≤ n) {lv : List (Option Value)} (hl : ∀ (j : Nat) (v : Value), lv[j]? = some (some v) → (j, v) ∈ lv_args 0 As) : xl ((lg_sl As ++ List.replicate (n - (lg_sl As).length) Slot.unset).toArray) n lv :=
  ⟨(lv_entry As h).1, (lv_entry As h).2.1, fun j v hj => (lv_entry As h).2.2 (j, v) (hl j v hj)⟩
/-- the locals at a method's start -/
def xlv : List Value → List (Option Value)
  | [] => []
  | v :: vs => if v.category = 2 then some v :: none :: xlv vs else some v :: xlv vs
theorem xlv_args : ∀ (vs : List Value) (i j : Nat) (v : Value), (xlv vs)[j]? = some (some v) → (i + j, v) ∈ lv_args i vs
  | [], _, _, _, h => by simp [xlv] at h
  | u :: us, i, j, v, h => by
    by_cases hc : u.category = 2
    · simp only [xlv, if_pos hc] at h
      rw [lv_args, if_pos hc]
      match j, h with
      | 0, h => simp at h; subst h; exact List.mem_cons_self
      | 1, h => simp at h
      | j + 2, h =>
        have h2 := xlv_args us (i + 2) j v (by simpa using h)
        rw [show i + (j + 2) = i + 2 + j by omega]
        exact List.mem_cons_of_mem _ h2
    · simp only [xlv, if_neg hc] at h
      rw [lv_args, if_neg hc]
      match j, h with
      | 0, h => simp at h; subst h; exact List.mem_cons_self
      | j + 1, h =>
        have h2 := xlv_args us (i + 1) j v (by simpa using h)
        rw [show i + (j + 1) = i + 1 + j by omega]
        exact List.mem_cons_of_mem _ h2
theorem xl_pad {ls : Array Slot} {nL : Nat} {lv : List (Option Value)} (h : xl ls nL lv) (k : Nat) : xl ls nL (lv ++ List.replicate k none) := by
  refine ⟨h.1, h.2.1, fun j v hj => h.2.2 j v ?_⟩
  by_cases hlt : j < lv.length
  · rwa [List.getElem?_append_left hlt] at hj
  · rw [List.getElem?_append_right (by omega), List.getElem?_replicate] at hj
    split at hj <;> simp at hj
theorem narrow_i (v : Int32) : narrow .int (.int v) = .int v := rfl
/-- a contract out of the walk of the body -/
theorem XM.of {Γ : Gm} {M : Mt} {d mc ms : Nat} {As : List Value} {μ : Mem} {Q : Option Value → Mem → Prop} (k : Nat) {lv : List (Option Value)} (hlv : xlv As ++ List.replicate k none = lv) (hy : plainName M.1.cls = true) (hn : (lg_sl As).length ≤ M.2.2.1)
    (h : WA Γ M (xrm d mc ms) mc ms 0 0 Q 0 lv [] μ) : XM Γ M d mc ms As μ Q := by
  refine Met.ofW (cc := M.2.1) (maxL := M.2.2.1) (ret := M.2.2.2) hy rfl ?_
  intro p e s m args below meth c s₁ B hml hv
  obtain ⟨rfl, hP, hK, hB, hE⟩ := hv
  have hts := atoms_spec (ws := xws M) B.pre
  rw [lg_entry_eq]
  have F : XF Γ M p s m As.toArray meth c := ⟨B.exec, B.bytes, hml, B.returns, B.notSynchronized, (name_of_methodNamed B.named B.method).1, findClass_of_methodNamed B.named, fun w hw => hts w (List.mem_cons_of_mem _ hw), hK, hB, hE⟩
  refine h p e s m As.toArray below meth c _ s.heap [] _ F va_S.rf hP (by rw [← hlv]; exact xl_pad (xl_entry As hn (fun j v hj => by have := xlv_args As 0 j v hj; rwa [Nat.zero_add] at this)) k) ?_
  intro r μ' H' locs' hQ hP' hS' pc ls
  have hq : ∀ t : State, t.heap = H' → s.WarmedH t.vm → XQ Γ Q As.toArray s (.returned r) t := fun t ht hW => ⟨⟨r, μ', rfl, hQ, by rw [ht]; exact hP'⟩, by rw [ht]; exact hS'.1, fun q h1 h2 => by rw [ht]; exact hS'.2.1 q h1 h2⟩
  obtain ⟨hx, hb, -, hr, hlocks, -⟩ := F
  match r, hq with
  | none, hq => exact fun h1 hd => W.vret hx hb (by rw [hr]; exact h1) hq hS'.2.2 hd hlocks
  | some (.int v), hq => exact fun ⟨ty, h1, h2⟩ hd => W.zret hx hb (by rw [hr]; exact h1) h2 hq hS'.2.2 hd hlocks
  | some (.long v), hq => exact fun h1 hd => W.lret hx hb (by rw [hr]; exact h1) hq hS'.2.2 hd hlocks
  | some (.ref v), hq => exact fun ⟨t, h1, h2⟩ hd => W.aret hx hb (by rw [hr]; exact h1) h2 (Or.inr ⟨v, rfl⟩) hq hS'.2.2 hd hlocks
  | some (.null), hq => trivial
  | some (.float _), hq => trivial
  | some (.double _), hq => trivial
  | some (.retAddr _), hq => trivial
