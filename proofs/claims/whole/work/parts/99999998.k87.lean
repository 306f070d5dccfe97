/-! the law: the walk of one start -/
def WL (SC : State → Prop) (Γ : Gm) (M : Mt) (R : Room) (mc ms cl sl : Nat) (Q : Option Value → Mem → Prop) (pc : Nat) (lv : List (Option Value)) (st : List Value) (μ : Mem) : Prop :=
  ∀ (p : Program) (e : Env) (s : State) (m : MethodId) (args : Array Value) (below : List Frame) (meth : Method) (c : Code) (Qf : State → Prop) (H : Heap) (locs : List Loc) (ls : Array Slot),
    SC s → XF Γ M p s m args meth c → va_S (gA Γ) s.heap H locs → XP Γ μ H → xl ls M.2.2.1 lv →
    (∀ (r : Option Value) (μ' : Mem) (H' : Heap) (locs' : List Loc), Q r μ' → XP Γ μ' H' → va_S (gA Γ) s.heap H' locs' → XRet Γ M R p e s m args below meth c H' locs' mc ms Qf r) →
    W p (gL Γ) e R s m args below meth c H locs cl sl Qf (F0 m pc ls st)
section LW
variable {SC : State → Prop} {Γ : Gm} {M M1 : Mt} {R : Room} {mc ms cl sl : Nat} {Q Q1 : Option Value → Mem → Prop} {pc : Nat} {lv lv2 : List (Option Value)} {st st0 : List Value} {μ : Mem}
theorem y_lcmp {a b : Int64} (d : decode M.2.1 pc = .ok (.lcmp, 1)) (k : WL SC Γ M R mc ms cl sl Q (pc + 1) lv (.int (lg_cmp a b) :: st) μ) : WL SC Γ M R mc ms cl sl Q pc lv (.long b :: .long a :: st) μ := fun p e s m args below meth c Qf H locs ls hc F hS hP hl hE => W.lcmp F.1 F.2.1 d (k p e s m args below meth c Qf H locs ls hc F hS hP hl hE)
theorem y_if_eq {a : Int32} {off : Int} {tgt : Nat} (d : decode M.2.1 pc = .ok (.ifCond .eq off, 3)) (ht : (pc : Int) + off = (tgt : Int)) (k1 : a = 0 → WL SC Γ M R mc ms cl sl Q tgt lv st μ) (k2 : ¬ a = 0 → WL SC Γ M R mc ms cl sl Q (pc + 3) lv st μ) : WL SC Γ M R mc ms cl sl Q pc lv (.int a :: st) μ := fun p e s m args below meth c Qf H locs ls hc F hS hP hl hE => lv_if_eq F.1 F.2.1 d ht (fun h => k1 h p e s m args below meth c Qf H locs ls hc F hS hP hl hE) (fun h => k2 h p e s m args below meth c Qf H locs ls hc F hS hP hl hE)
theorem y_iadd {a b : Int32} (d : decode M.2.1 pc = .ok (.iadd, 1))  (k : WL SC Γ M R mc ms cl sl Q (pc + 1) lv (.int (a + b) :: st) μ) : WL SC Γ M R mc ms cl sl Q pc lv (.int b :: .int a :: st) μ := fun p e s m args below meth c Qf H locs ls hc F hS hP hl hE => lv_iadd F.1 F.2.1 d  (k p e s m args below meth c Qf H locs ls hc F hS hP hl hE)
theorem y_isub {a b : Int32} (d : decode M.2.1 pc = .ok (.isub, 1))  (k : WL SC Γ M R mc ms cl sl Q (pc + 1) lv (.int (a - b) :: st) μ) : WL SC Γ M R mc ms cl sl Q pc lv (.int b :: .int a :: st) μ := fun p e s m args below meth c Qf H locs ls hc F hS hP hl hE => lv_isub F.1 F.2.1 d  (k p e s m args below meth c Qf H locs ls hc F hS hP hl hE)
theorem y_iand {a b : Int32} (d : decode M.2.1 pc = .ok (.iand, 1))  (k : WL SC Γ M R mc ms cl sl Q (pc + 1) lv (.int (a &&& b) :: st) μ) : WL SC Γ M R mc ms cl sl Q pc lv (.int b :: .int a :: st) μ := fun p e s m args below meth c Qf H locs ls hc F hS hP hl hE => lv_iand F.1 F.2.1 d  (k p e s m args below meth c Qf H locs ls hc F hS hP hl hE)
theorem y_iconst {n : Int} {v : Int32} (d : decode M.2.1 pc = .ok (.iconst n, 1)) (h : Int32.ofInt n = v) (k : WL SC Γ M R mc ms cl sl Q (pc + 1) lv (.int v :: st) μ) : WL SC Γ M R mc ms cl sl Q pc lv (st) μ := fun p e s m args below meth c Qf H locs ls hc F hS hP hl hE => lv_iconst F.1 F.2.1 d h (k p e s m args below meth c Qf H locs ls hc F hS hP hl hE)
theorem y_bipush {n : Int} {v : Int32} (d : decode M.2.1 pc = .ok (.bipush n, 2)) (h : (Int8.ofInt n).toInt32 = v) (k : WL SC Γ M R mc ms cl sl Q (pc + 2) lv (.int v :: st) μ) : WL SC Γ M R mc ms cl sl Q pc lv (st) μ := fun p e s m args below meth c Qf H locs ls hc F hS hP hl hE => lv_bipush F.1 F.2.1 d h (k p e s m args below meth c Qf H locs ls hc F hS hP hl hE)
theorem y_dup {v : Value} (d : decode M.2.1 pc = .ok (.dup, 1)) (h : v.category = 1) (k : WL SC Γ M R mc ms cl sl Q (pc + 1) lv (v :: v :: st) μ) : WL SC Γ M R mc ms cl sl Q pc lv (v :: st) μ := fun p e s m args below meth c Qf H locs ls hc F hS hP hl hE => lv_dup F.1 F.2.1 d h (k p e s m args below meth c Qf H locs ls hc F hS hP hl hE)
theorem y_iload_n {n : Fin 4} {x : Int32} (d : decode M.2.1 pc = .ok (.iload_n n, 1)) (h : lv[(n : Nat)]? = some (some (.int x))) (k : WL SC Γ M R mc ms cl sl Q (pc + 1) lv (.int x :: st) μ) : WL SC Γ M R mc ms cl sl Q pc lv st μ := fun p e s m args below meth c Qf H locs ls hc F hS hP hl hE => lv_iload_n F.1 F.2.1 d rfl (hl.2.2 _ _ h) (k p e s m args below meth c Qf H locs ls hc F hS hP hl hE)
theorem y_aload_n {n : Fin 4} {x : Nat} (d : decode M.2.1 pc = .ok (.aload_n n, 1)) (h : lv[(n : Nat)]? = some (some (.ref x))) (k : WL SC Γ M R mc ms cl sl Q (pc + 1) lv (.ref x :: st) μ) : WL SC Γ M R mc ms cl sl Q pc lv st μ := fun p e s m args below meth c Qf H locs ls hc F hS hP hl hE => lv_aload_n F.1 F.2.1 d rfl (hl.2.2 _ _ h) (k p e s m args below meth c Qf H locs ls hc F hS hP hl hE)
theorem y_istore_n {n : Fin 4} {x : Int32} (d : decode M.2.1 pc = .ok (.istore_n n, 1)) (hn : (n : Nat) < M.2.2.1) (hk : xok lv n = true) (h : lv.set (n : Nat) (some (.int x)) = lv2) (k : WL SC Γ M R mc ms cl sl Q (pc + 1) lv2 st μ) : WL SC Γ M R mc ms cl sl Q pc lv (.int x :: st) μ := fun p e s m args below meth c Qf H locs ls hc F hS hP hl hE => lv_istore_n F.1 F.2.1 d rfl (xl_has hl) hn rfl (fun ls2 h2 => k p e s m args below meth c Qf H locs ls2 hc F hS hP (by rw [← h]; exact xl_st1 hk h2) hE)
theorem y_astore_n {n : Fin 4} {x : Nat} (d : decode M.2.1 pc = .ok (.astore_n n, 1)) (hn : (n : Nat) < M.2.2.1) (hk : xok lv n = true) (h : lv.set (n : Nat) (some (.ref x)) = lv2) (k : WL SC Γ M R mc ms cl sl Q (pc + 1) lv2 st μ) : WL SC Γ M R mc ms cl sl Q pc lv (.ref x :: st) μ := fun p e s m args below meth c Qf H locs ls hc F hS hP hl hE => lv_astore_n F.1 F.2.1 d rfl (xl_has hl) hn rfl (fun ls2 h2 => k p e s m args below meth c Qf H locs ls2 hc F hS hP (by rw [← h]; exact xl_st1 hk h2) hE)
theorem y_iinc {i : Nat} {n : Int} {x v : Int32} (d : decode M.2.1 pc = .ok (.iinc i n, 3)) (hn : i < M.2.2.1) (hk : xok lv i = true) (hx : lv[i]? = some (some (.int x))) (hv : x + Int32.ofInt n = v) (h : lv.set i (some (.int v)) = lv2) (k : WL SC Γ M R mc ms cl sl Q (pc + 3) lv2 st μ) : WL SC Γ M R mc ms cl sl Q pc lv st μ := fun p e s m args below meth c Qf H locs ls hc F hS hP hl hE => by
  obtain ⟨q, hq⟩ := xls_at hx
  exact lv_iinc F.1 F.2.1 d (xl_has hl) hq hv hn rfl (fun ls2 h2 => k p e s m args below meth c Qf H locs ls2 hc F hS hP (by rw [← h]; exact xl_st1 hk h2) hE)
theorem y_icmp_eq {a b : Int32} {off : Int} {tgt : Nat} (d : decode M.2.1 pc = .ok (.if_icmp .eq off, 3)) (ht : (pc : Int) + off = (tgt : Int)) (k1 : a = b → WL SC Γ M R mc ms cl sl Q tgt lv st μ) (k2 : ¬ a = b → WL SC Γ M R mc ms cl sl Q (pc + 3) lv st μ) : WL SC Γ M R mc ms cl sl Q pc lv (.int b :: .int a :: st) μ := fun p e s m args below meth c Qf H locs ls hc F hS hP hl hE => lv_icmp_eq F.1 F.2.1 d ht (fun h => k1 h p e s m args below meth c Qf H locs ls hc F hS hP hl hE) (fun h => k2 h p e s m args below meth c Qf H locs ls hc F hS hP hl hE)
theorem y_icmp_gt {a b : Int32} {off : Int} {tgt : Nat} (d : decode M.2.1 pc = .ok (.if_icmp .gt off, 3)) (ht : (pc : Int) + off = (tgt : Int)) (k1 : b < a → WL SC Γ M R mc ms cl sl Q tgt lv st μ) (k2 : ¬ b < a → WL SC Γ M R mc ms cl sl Q (pc + 3) lv st μ) : WL SC Γ M R mc ms cl sl Q pc lv (.int b :: .int a :: st) μ := fun p e s m args below meth c Qf H locs ls hc F hS hP hl hE => lv_icmp_gt F.1 F.2.1 d ht (fun h => k1 h p e s m args below meth c Qf H locs ls hc F hS hP hl hE) (fun h => k2 h p e s m args below meth c Qf H locs ls hc F hS hP hl hE)
theorem y_goto {off : Int} {tgt : Nat} (d : decode M.2.1 pc = .ok (.goto off, 3)) (ht : (pc : Int) + off = (tgt : Int)) (k : WL SC Γ M R mc ms cl sl Q tgt lv st μ) : WL SC Γ M R mc ms cl sl Q pc lv st μ := fun p e s m args below meth c Qf H locs ls hc F hS hP hl hE => lv_goto F.1 F.2.1 d ht (k p e s m args below meth c Qf H locs ls hc F hS hP hl hE)
theorem y_tableOut {dflt lo hi : Int} {offs : Array Int} {len : Nat} {x : Int32} {tgt : Nat} (d : decode M.2.1 pc = .ok (.tableswitch dflt lo hi offs, len)) (h : x.toInt < lo ∨ hi < x.toInt) (ht : (pc : Int) + dflt = (tgt : Int)) (k : WL SC Γ M R mc ms cl sl Q tgt lv st μ) : WL SC Γ M R mc ms cl sl Q pc lv (.int x :: st) μ := fun p e s m args below meth c Qf H locs ls hc F hS hP hl hE => lv_tableOut F.1 F.2.1 d h ht (k p e s m args below meth c Qf H locs ls hc F hS hP hl hE)
theorem y_tableIn {dflt lo hi : Int} {offs : Array Int} {len : Nat} {x : Int32} {off : Int} {tgt : Nat} (d : decode M.2.1 pc = .ok (.tableswitch dflt lo hi offs, len)) (h1 : ¬ x.toInt < lo) (h2 : ¬ hi < x.toInt) (ho : offs[(x.toInt - lo).toNat]? = some off) (ht : (pc : Int) + off = (tgt : Int)) (k : WL SC Γ M R mc ms cl sl Q tgt lv st μ) : WL SC Γ M R mc ms cl sl Q pc lv (.int x :: st) μ := fun p e s m args below meth c Qf H locs ls hc F hS hP hl hE => lv_tableIn F.1 F.2.1 d h1 h2 ho ht (k p e s m args below meth c Qf H locs ls hc F hS hP hl hE)
theorem y_ireturn {v : Int32} {ty : FieldType} (d : decode M.2.1 pc = .ok (.ireturn, 1)) (hr : M.2.2.2 = some ty) (hn : narrow ty (.int v) = .int v) (h : Q (some (.int v)) μ) : WL SC Γ M R mc ms mc ms Q pc lv [.int v] μ := fun p e s m args below meth c Qf H locs ls hc F hS hP hl hE => hE _ _ _ _ h hP hS pc ls ⟨ty, hr, hn⟩ d
theorem y_widen {k n : Nat} (h1 : cl ≤ k) (h2 : sl ≤ n) (kk : WL SC Γ M R mc ms k n Q pc lv st μ) : WL SC Γ M R mc ms cl sl Q pc lv st μ := fun p e s m args below meth c Qf H locs ls hc F hS hP hl hE => W.widen h1 h2 (kk p e s m args below meth c Qf H locs ls hc F hS hP hl hE)
theorem y_go {p : Program} {e : Env} {s : State} {m : MethodId} {args : Array Value} {below : List Frame} {meth : Method} {c : Code} {Qf : State → Prop} {H : Heap} {locs : List Loc} {ls : Array Slot} {a : Array Value} {mc1 ms1 : Nat}
    (hc : SC s) (F : XF Γ M p s m args meth c) (hS : va_S (gA Γ) s.heap H locs) (hl : xl ls M.2.2.1 lv) (hE : ∀ (r : Option Value) (μ' : Mem) (H' : Heap) (locs' : List Loc), Q r μ' → XP Γ μ' H' → va_S (gA Γ) s.heap H' locs' → XRet Γ M R p e s m args below meth c H' locs' mc ms Qf r)
    (hr : va_Run p (gL Γ) e R s m args below meth c H locs cl sl mc1 ms1 (F0 m pc ls st0) st (XQ Γ Q1 a) (gA Γ))
    (kk : ∀ r μ', Q1 r μ' → WL SC Γ M R mc ms (cl + mc1) (sl + ms1) Q (pc + 3) lv (r.toList ++ st) μ') : W p (gL Γ) e R s m args below meth c H locs cl sl Qf (F0 m pc ls st0) := by
  intro T hT X
  obtain ⟨v, st₀, t, T', L, h0, X', hL, e1, e2, ⟨⟨r, μ', hv, hq, hP1⟩, hz, hk⟩, stp⟩ := hr T hT X
  cases hv
  rw [h0] at hz hk
  obtain ⟨t2, a1, b1⟩ := kk v μ' hq p e s m args below meth c Qf T'.heap (locs ++ L) ls hc F ⟨Nat.le_trans hS.1 (by rw [e1]; exact hz), fun q h1 h2 => by rw [e1, hk q (Nat.lt_of_lt_of_le h1 hS.1) h2]; exact hS.2.1 q h1 h2, fun q hq2 => by
      rcases List.mem_append.mp hq2 with h | h
      · exact hS.2.2 q h
      · exact hL q h⟩ (by rw [e1]; exact hP1) hl hE T' rfl X'
  exact ⟨t2, stp t2 a1, b1⟩
theorem y_callV {idx d1 mc1 ms1 n q ci : Nat} {As : List Value} (d : decode M.2.1 pc = .ok (.invokevirtual idx, 3)) (hk : MK M1 n) (hl0 : LKV M.1.cls idx ci M1.1) (hT : mT μ q = (1, ci)) (hM : XM Γ M1 d1 mc1 ms1 (.ref q :: As) μ Q1) (hn : As.length = n) (hst : st0 = As.reverse ++ .ref q :: st) (hw : (st.map fun v => v.category).sum ≤ 8) (hR : d1 + 1 ≤ R.frames ∧ 64 * (d1 + 1) ≤ R.locals) (hcs : cl + mc1 ≤ R.cells ∧ sl + ms1 ≤ R.slots)
    (kk : ∀ r μ', Q1 r μ' → WL SC Γ M R mc ms (cl + mc1) (sl + ms1) Q (pc + 3) lv (r.toList ++ st) μ') : WL SC Γ M R mc ms cl sl Q pc lv st0 μ := by
  intro p e s m args below meth c Qf H locs ls hc F hS hP hl hE
  obtain ⟨hx, hb, hml, -, -, -, hown, hts, hK, -, -⟩ := id F
  obtain ⟨hci, hlk, hin, hsel⟩ := hl0
  refine y_go hc F hS hl hE (va_runV (Ts := gT) (own := M.1.cls) (C := xC ci) (As := As) (cc := M.2.1) (nL := M.2.2.1) ⟨hx, hb, hml, hown, hts⟩ hM ⟨callB_of n hts (good_ws hk) rfl rfl rfl (hts _ hk.2.1) (hts _ hlk) hk.2.2.1 (x_room hk hR), hts _ hin, hts _ hsel⟩ ⟨xB_blind, x_recv hK hP hci hT, fun U hU hW => ⟨rfl, xB_at F hS hP hU hW⟩⟩ rfl hn hl.1 hst (lv_room hw) d hcs) kk
theorem y_callI {idx d1 mc1 ms1 n q : Nat} {As : List Value} (d : decode M.2.1 pc = .ok (.invokespecial idx, 3)) (hk : MK M1 n) (hrt : M1.2.2.2 = none) (hl0 : LKI M.1.cls idx M1.1) (hM : XM Γ M1 d1 mc1 ms1 (.ref q :: As) μ Q1) (hn : As.length = n) (hst : st0 = As.reverse ++ .ref q :: st) (hw : (st.map fun v => v.category).sum ≤ 8) (hR : d1 + 1 ≤ R.frames ∧ 64 * (d1 + 1) ≤ R.locals) (hcs : cl + mc1 ≤ R.cells ∧ sl + ms1 ≤ R.slots)
    (kk : ∀ r μ', Q1 r μ' → WL SC Γ M R mc ms (cl + mc1) (sl + ms1) Q (pc + 3) lv (r.toList ++ st) μ') : WL SC Γ M R mc ms cl sl Q pc lv st0 μ := by
  intro p e s m args below meth c Qf H locs ls hc F hS hP hl hE
  obtain ⟨hx, hb, hml, -, -, -, hown, hts, hK, -, -⟩ := id F
  obtain ⟨hlk, hnm, hin⟩ := hl0
  refine y_go hc F hS hl hE (va_runI (Ts := gT) (own := M.1.cls) (As := As) (bytes := M1.2.1) (maxL := M1.2.2.1) (cc := M.2.1) (nL := M.2.2.1) ⟨hx, hb, hml, hown, hts⟩ hM ⟨callB_of n hts (good_ws hk) (by rw [xws, hrt]) rfl rfl (hts _ hk.2.1) (hts _ hlk) hk.2.2.1 (x_room hk hR), hnm, hts _ hin⟩ ⟨xB_blind, fun U hU hW => ⟨rfl, xB_at F hS hP hU hW⟩⟩ rfl hn hl.1 hst (lv_room hw) d hcs) kk
theorem y_new {ci idx : Nat} (d : decode M.2.1 pc = .ok (.new idx, 3)) (hci : ci < 13) (hw : Cond.classLink M.1.cls idx (xC ci) ∈ gT) (hw2 : Cond.instantiable (xC ci) (xN ci) ∈ gT) (hw3 : Cond.initialized (xC ci) ∈ gT) (hcs : cl + 1 ≤ R.cells ∧ sl + xN ci ≤ R.slots) (kk : ∀ q, (mT μ q).1 = 0 → WL SC Γ M R mc ms (cl + 1) (sl + xN ci) Q (pc + 3) lv (.ref q :: st) (nw μ q 1 ci)) : WL SC Γ M R mc ms cl sl Q pc lv st μ := by
  intro p e s m args below meth c Qf H locs ls hc F hS hP hl hE
  obtain ⟨hx, hb, -, -, -, -, hown, hts, hK, hB, -⟩ := id F
  obtain ⟨L, hPL, hD, hL⟩ := id hP
  refine va_new (fs := (List.range (xN ci)).map (fun k => defaultValue (xty ci k))) hx hb hts (x_in hci) (xty ci) (x_tyok hci) hown (hts _ hw) (hts _ hw2) (hts _ hw3) hK hPL hD hS (fun q hq => Nat.le_trans hB hq) (x_cl hci) (fun j hj => ?_) hcs.1 hcs.2 d (fun q H1 hP1 hD1 hS1 => ?_)
  · unfold vp_V
    rw [List.getD_eq_getElem?_getD, List.getElem?_map, List.getElem?_range hj]
    rfl
  · obtain ⟨g1, g2⟩ := XP_push (t := 1) (n := ci) hL (by decide) (by
      rw [xcell_o nw_T]
      congr 2
      unfold xfs
      refine List.map_congr_left (fun k hk => ?_)
      rw [dflt_ok hci k (List.mem_range.mp hk)]
      have e1 : mI (nw μ q 1 ci) q k = 0 := by show va_up (mI μ) q (fun _ => 0) q k = 0; rw [va_up_s]
      have e2 : mJ (nw μ q 1 ci) q k = 0 := by show va_up (mJ μ) q (fun _ => 0) q k = 0; rw [va_up_s]
      have e3 : mR (nw μ q 1 ci) q k = none := by show va_up (mR μ) q (fun _ => none) q k = none; rw [va_up_s]
      unfold xv
      cases xty ci k <;> simp [e1, e2, e3, va_rf]) hP1 hD1
    exact kk q g1 p e s m args below meth c Qf H1 locs ls hc F hS1 g2 hl hE
/-- the script: a row of ints that nobody writes -/
def scS (b L : Nat) (xs : Nat → Int32) (g : Nat) : State → Prop := fun s => va_X b L xs s s.heap ∧ b < s.heap.size ∧ b < g
theorem y_slen {b L : Nat} {xs : Nat → Int32} (d : decode M.2.1 pc = .ok (.arraylength, 1)) (kk : WL (scS b L xs (gB Γ)) Γ M R mc ms cl sl Q (pc + 1) lv (.int (nI L) :: st) μ) : WL (scS b L xs (gB Γ)) Γ M R mc ms cl sl Q pc lv (.ref b :: st) μ := by
  intro p e s m args below meth c Qf H locs ls hc F hS hP hl hE
  exact va_slen F.1 F.2.1 hc.1 hc.2.1 (show ¬ gB Γ ≤ b from Nat.not_le.mpr hc.2.2) hS d (kk p e s m args below meth c Qf H locs ls hc F hS hP hl hE)
theorem y_sld {b L i : Nat} {xs : Nat → Int32} {j : Int32} (d : decode M.2.1 pc = .ok (.iaload, 1)) (hj : j = nI i) (hi : i < L) (hL : L < 2 ^ 31) (kk : WL (scS b L xs (gB Γ)) Γ M R mc ms cl sl Q (pc + 1) lv (.int (xs i) :: st) μ) : WL (scS b L xs (gB Γ)) Γ M R mc ms cl sl Q pc lv (.int j :: .ref b :: st) μ := by
  intro p e s m args below meth c Qf H locs ls hc F hS hP hl hE
  obtain ⟨g1, g2⟩ := vpin hj hi hL
  refine va_sld F.1 F.2.1 hc.1 hc.2.1 (show ¬ gB Γ ≤ b from Nat.not_le.mpr hc.2.2) hS g1 d ?_
  rw [g2]
  exact kk p e s m args below meth c Qf H locs ls hc F hS hP hl hE
end LW
