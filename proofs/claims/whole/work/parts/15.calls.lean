section XCL
variable {Γ : Gm} {M M1 : Mt} {R : Room} {mc ms cl sl : Nat} {Q Q1 : Option Value → Mem → Prop} {pc : Nat} {lv lv2 : List (Option Value)} {st st0 : List Value} {μ : Mem}
/-- what the tables say of a method that is called -/
def MK (M1 : Mt) (n : Nat) : Prop := Cond.code M1.1 M1.2.1 M1.2.2.1 M1.2.2.2 ∈ gT ∧ Cond.initialized M1.1.cls ∈ gT ∧ (M1.1.cls ≠ "java/lang/invoke/MethodHandle" ∧ M1.1.cls ≠ "java/lang/invoke/VarHandle" ∧ (parseMethodDescriptor M1.1.desc).map (fun d => d.parameters.length) = some n) ∧ M1.2.2.1 ≤ 45
theorem good_ws {M1 : Mt} {n : Nat} (h : MK M1 n) : GoodIn gT (xws M1) := fun w hw => by
  rcases List.mem_cons.mp hw with rfl | h2
  · exact ⟨h.1, gt_good h.1⟩
  · exact ⟨h2, gt_good h2⟩
theorem x_room {M1 : Mt} {n d1 mc1 ms1 : Nat} (h : MK M1 n) (hR : d1 + 1 ≤ R.frames ∧ 64 * (d1 + 1) ≤ R.locals) : (xrm d1 mc1 ms1).frames + 1 ≤ R.frames ∧ 8 + (M1.2.2.1 + 11) + (xrm d1 mc1 ms1).locals ≤ R.locals := by
  have := h.2.2.2
  exact ⟨hR.1, by show 8 + (M1.2.2.1 + 11) + 64 * d1 ≤ R.locals; omega⟩
/-- behind a call -/
theorem x_go {p : Program} {e : Env} {s : State} {m : MethodId} {args : Array Value} {below : List Frame} {meth : Method} {c : Code} {Qf : State → Prop} {H : Heap} {locs : List Loc} {ls : Array Slot} {a : Array Value} {mc1 ms1 : Nat}
    (F : XF Γ M p s m args meth c) (hS : va_S (gA Γ) s.heap H locs) (hl : xl ls M.2.2.1 lv) (hE : ∀ (r : Option Value) (μ' : Mem) (H' : Heap) (locs' : List Loc), Q r μ' → XP Γ μ' H' → va_S (gA Γ) s.heap H' locs' → XRet Γ M R p e s m args below meth c H' locs' mc ms Qf r)
    (hr : va_Run p (gL Γ) e R s m args below meth c H locs cl sl mc1 ms1 (F0 m pc ls st0) st (XQ Γ Q1 a) (gA Γ))
    (kk : ∀ r μ', Q1 r μ' → WA Γ M R mc ms (cl + mc1) (sl + ms1) Q (pc + 3) lv (r.toList ++ st) μ') : W p (gL Γ) e R s m args below meth c H locs cl sl Qf (F0 m pc ls st0) := by
  intro T hT X
  obtain ⟨v, st₀, t, T', L, h0, X', hL, e1, e2, ⟨⟨r, μ', hv, hq, hP1⟩, hz, hk⟩, stp⟩ := hr T hT X
  cases hv
  rw [h0] at hz hk
  obtain ⟨t2, a1, b1⟩ := kk v μ' hq p e s m args below meth c Qf T'.heap (locs ++ L) ls F ⟨Nat.le_trans hS.1 (by rw [e1]; exact hz), fun q h1 h2 => by rw [e1, hk q (Nat.lt_of_lt_of_le h1 hS.1) h2]; exact hS.2.1 q h1 h2, fun q hq2 => by
      rcases List.mem_append.mp hq2 with h | h
      · exact hS.2.2 q h
      · exact hL q h⟩ (by rw [e1]; exact hP1) hl hE T' rfl X'
  exact ⟨t2, stp t2 a1, b1⟩
/-- a static method, by a link of the class's own kind -/
def LKS (own : String) (idx : Nat) (y : MethodName) : Prop := Cond.methodLink own idx y ∈ gT ∧ Cond.static y ∈ gT
theorem x_callS {idx d1 mc1 ms1 n : Nat} {As : List Value} (d : decode M.2.1 pc = .ok (.invokestatic idx, 3)) (hk : MK M1 n) (hl0 : LKS M.1.cls idx M1.1) (hM : XM Γ M1 d1 mc1 ms1 As μ Q1) (hn : As.length = n) (hst : st0 = As.reverse ++ st) (hw : (st.map fun v => v.category).sum ≤ 8) (hR : d1 + 1 ≤ R.frames ∧ 64 * (d1 + 1) ≤ R.locals) (hcs : cl + mc1 ≤ R.cells ∧ sl + ms1 ≤ R.slots)
    (kk : ∀ r μ', Q1 r μ' → WA Γ M R mc ms (cl + mc1) (sl + ms1) Q (pc + 3) lv (r.toList ++ st) μ') : WA Γ M R mc ms cl sl Q pc lv st0 μ := by
  intro p e s m args below meth c Qf H locs ls F hS hP hl hE
  obtain ⟨hx, hb, hml, -, -, -, hown, hts, hK, -, -⟩ := id F
  refine x_go F hS hl hE (va_runS (Ts := gT) (own := M.1.cls) (As := As) (cc := M.2.1) (nL := M.2.2.1) ⟨hx, hb, hml, hown, hts⟩ hM ⟨callB_of n hts (good_ws hk) rfl rfl rfl (hts _ hk.2.1) (hts _ hl0.1) hk.2.2.1 (x_room hk hR), hts _ hl0.2⟩ ⟨xB_blind, fun U hU hW => ⟨rfl, xB_at F hS hP hU hW⟩⟩ rfl hn hl.1 hst (lv_room hw) d hcs) kk
/-- a static method of a nest mate -/
def LKSN (own : String) (idx : Nat) (y : MethodName) : Prop := (own, idx, y) ∈ nestL ∧ Cond.static y ∈ gT
theorem x_callSN {idx d1 mc1 ms1 n : Nat} {As : List Value} (d : decode M.2.1 pc = .ok (.invokestatic idx, 3)) (hk : MK M1 n) (hl0 : LKSN M.1.cls idx M1.1) (hM : XM Γ M1 d1 mc1 ms1 As μ Q1) (hn : As.length = n) (hst : st0 = As.reverse ++ st) (hw : (st.map fun v => v.category).sum ≤ 8) (hR : d1 + 1 ≤ R.frames ∧ 64 * (d1 + 1) ≤ R.locals) (hcs : cl + mc1 ≤ R.cells ∧ sl + ms1 ≤ R.slots)
    (kk : ∀ r μ', Q1 r μ' → WA Γ M R mc ms (cl + mc1) (sl + ms1) Q (pc + 3) lv (r.toList ++ st) μ') : WA Γ M R mc ms cl sl Q pc lv st0 μ := by
  intro p e s m args below meth c Qf H locs ls F hS hP hl hE
  obtain ⟨hx, hb, hml, -, -, -, hown, hts, hK, -, -⟩ := id F
  obtain ⟨hlk, hstt⟩ := hl0
  have hN := F.2.2.2.2.2.2.2.2.2.2.2.2.2.1 _ hlk
  refine x_go F hS hl hE (va_runSN (Ts := gT) (own := M.1.cls) (host := "PutOut") (As := As) (cc := M.2.1) (nL := M.2.2.1) ⟨hx, hb, hml, hown, hts⟩ hM ⟨va_cnB n hts (good_ws hk) rfl rfl rfl hN (hts _ hk.2.1) hk.2.2.1 (x_room hk hR), hts _ hstt, trivial⟩ ⟨xB_blind, fun U hU hW => ⟨rfl, xB_at F hS hP hU hW⟩⟩ rfl hn hl.1 hst (lv_room hw) d hcs) kk
theorem x_recv {s : State} {H : Heap} {q ci : Nat} (hK : va_K (gD Γ) vwCl (xtys Γ) s) (hP : XP Γ μ H) (hci : ci < 13) (hT : mT μ q = (1, ci)) : ∃ cell : Cell, H[q]? = some cell ∧ cell.vm.isStatics = false ∧ s.vm.findClass (xC ci) = some cell.cls := by
  obtain ⟨L, hPL, hD, hL⟩ := id hP
  have hq : q ∈ L := (hL q).mpr (by rw [hT]; exact fun h => by cases h)
  obtain ⟨z, hz⟩ := va_pl_get (X := []) (f := xcell (gC Γ) μ) hq
  rw [xcell_o hT] at hz
  exact va_recv hK hPL (x_cl hci) hz
/-- a method of the receiver's own class -/
def LKV (own : String) (idx ci : Nat) (y : MethodName) : Prop := ci < 13 ∧ Cond.methodLink own idx y ∈ gT ∧ Cond.instanceMethod y ∈ gT ∧ Cond.selects (xC ci) y y ∈ gT
theorem x_callV {idx d1 mc1 ms1 n q ci : Nat} {As : List Value} (d : decode M.2.1 pc = .ok (.invokevirtual idx, 3)) (hk : MK M1 n) (hl0 : LKV M.1.cls idx ci M1.1) (hT : mT μ q = (1, ci)) (hM : XM Γ M1 d1 mc1 ms1 (.ref q :: As) μ Q1) (hn : As.length = n) (hst : st0 = As.reverse ++ .ref q :: st) (hw : (st.map fun v => v.category).sum ≤ 8) (hR : d1 + 1 ≤ R.frames ∧ 64 * (d1 + 1) ≤ R.locals) (hcs : cl + mc1 ≤ R.cells ∧ sl + ms1 ≤ R.slots)
    (kk : ∀ r μ', Q1 r μ' → WA Γ M R mc ms (cl + mc1) (sl + ms1) Q (pc + 3) lv (r.toList ++ st) μ') : WA Γ M R mc ms cl sl Q pc lv st0 μ := by
  intro p e s m args below meth c Qf H locs ls F hS hP hl hE
  obtain ⟨hx, hb, hml, -, -, -, hown, hts, hK, -, -⟩ := id F
  obtain ⟨hci, hlk, hin, hsel⟩ := hl0
  refine x_go F hS hl hE (va_runV (Ts := gT) (own := M.1.cls) (C := xC ci) (As := As) (cc := M.2.1) (nL := M.2.2.1) ⟨hx, hb, hml, hown, hts⟩ hM ⟨callB_of n hts (good_ws hk) rfl rfl rfl (hts _ hk.2.1) (hts _ hlk) hk.2.2.1 (x_room hk hR), hts _ hin, hts _ hsel⟩ ⟨xB_blind, x_recv hK hP hci hT, fun U hU hW => ⟨rfl, xB_at F hS hP hU hW⟩⟩ rfl hn hl.1 hst (lv_room hw) d hcs) kk
/-- a method that is named in one class and chosen by the receiver's -/
def LKU (own : String) (idx ci : Nat) (x y : MethodName) : Prop := ci < 13 ∧ Cond.methodLink own idx x ∈ gT ∧ Cond.sameMethod x.cls x.cls x.name x.desc ∈ gT ∧ Cond.instanceMethod x ∈ gT ∧ (∃ b k t, Cond.code x b k t ∈ gT) ∧ Cond.selects (xC ci) x y ∈ gT ∧ Cond.instanceMethod y ∈ gT ∧ (x.cls ≠ "java/lang/invoke/MethodHandle" ∧ x.cls ≠ "java/lang/invoke/VarHandle") ∧ x.desc = y.desc
theorem x_callU {idx d1 mc1 ms1 n q ci : Nat} {As : List Value} {x : MethodName} (d : decode M.2.1 pc = .ok (.invokevirtual idx, 3)) (hk : MK M1 n) (hl0 : LKU M.1.cls idx ci x M1.1) (hT : mT μ q = (1, ci)) (hM : XM Γ M1 d1 mc1 ms1 (.ref q :: As) μ Q1) (hn : As.length = n) (hst : st0 = As.reverse ++ .ref q :: st) (hw : (st.map fun v => v.category).sum ≤ 8) (hR : d1 + 1 ≤ R.frames ∧ 64 * (d1 + 1) ≤ R.locals) (hcs : cl + mc1 ≤ R.cells ∧ sl + ms1 ≤ R.slots)
    (kk : ∀ r μ', Q1 r μ' → WA Γ M R mc ms (cl + mc1) (sl + ms1) Q (pc + 3) lv (r.toList ++ st) μ') : WA Γ M R mc ms cl sl Q pc lv st0 μ := by
  intro p e s m args below meth c Qf H locs ls F hS hP hl hE
  obtain ⟨hx, hb, hml, -, -, -, hown, hts, hK, -, -⟩ := id F
  obtain ⟨hci, hlk, hsm, hix, ⟨b0, k0, t0, hcx⟩, hsel, hiy, hmh, hde⟩ := hl0
  have hcode : Cond.code M1.1 M1.2.1 M1.2.2.1 M1.2.2.2 ∈ xws M1 := List.mem_cons_self
  have hR2 := x_room (mc1 := mc1) (ms1 := ms1) hk hR
  refine x_go F hS hl hE (va_runU (Ts := gT) (own := M.1.cls) (C := xC ci) (owner := x.cls) (x := x) (As := As) (n := n) (bytes := M1.2.1) (maxL := M1.2.2.1) (ret := M1.2.2.2) (cc := M.2.1) (nL := M.2.2.1) ⟨hx, hb, hml, hown, hts⟩ hM ⟨⟨rfl, rfl, hR2.1, hR2.2, pay_in hts (good_ws hk), hcode⟩, hts _ hk.1, hts _ hk.2.1, hmh, fun sig h => ?_, hts _ hlk, hts _ hsm, va_Decl.of (hts _ hix) (hts _ hcx), hts _ hsel, hts _ hiy⟩ ⟨xB_blind, x_recv hK hP hci hT, fun U hU hW => ⟨rfl, xB_at F hS hP hU hW⟩⟩ rfl hn hl.1 hst (lv_room hw) d hcs) kk
  have h2 := hk.2.2.1.2.2
  rw [← hde, h] at h2
  exact (Option.some.inj h2).symm
/-- a constructor -/
def LKI (own : String) (idx : Nat) (y : MethodName) : Prop := Cond.methodLink own idx y ∈ gT ∧ y.name = "<init>" ∧ Cond.instanceMethod y ∈ gT
theorem x_callI {idx d1 mc1 ms1 n q : Nat} {As : List Value} (d : decode M.2.1 pc = .ok (.invokespecial idx, 3)) (hk : MK M1 n) (hrt : M1.2.2.2 = none) (hl0 : LKI M.1.cls idx M1.1) (hM : XM Γ M1 d1 mc1 ms1 (.ref q :: As) μ Q1) (hn : As.length = n) (hst : st0 = As.reverse ++ .ref q :: st) (hw : (st.map fun v => v.category).sum ≤ 8) (hR : d1 + 1 ≤ R.frames ∧ 64 * (d1 + 1) ≤ R.locals) (hcs : cl + mc1 ≤ R.cells ∧ sl + ms1 ≤ R.slots)
    (kk : ∀ r μ', Q1 r μ' → WA Γ M R mc ms (cl + mc1) (sl + ms1) Q (pc + 3) lv (r.toList ++ st) μ') : WA Γ M R mc ms cl sl Q pc lv st0 μ := by
  intro p e s m args below meth c Qf H locs ls F hS hP hl hE
  obtain ⟨hx, hb, hml, -, -, -, hown, hts, hK, -, -⟩ := id F
  obtain ⟨hlk, hnm, hin⟩ := hl0
  refine x_go F hS hl hE (va_runI (Ts := gT) (own := M.1.cls) (As := As) (bytes := M1.2.1) (maxL := M1.2.2.1) (cc := M.2.1) (nL := M.2.2.1) ⟨hx, hb, hml, hown, hts⟩ hM ⟨callB_of n hts (good_ws hk) (by rw [xws, hrt]) rfl rfl (hts _ hk.2.1) (hts _ hlk) hk.2.2.1 (x_room hk hR), hnm, hts _ hin⟩ ⟨xB_blind, fun U hU hW => ⟨rfl, xB_at F hS hP hU hW⟩⟩ rfl hn hl.1 hst (lv_room hw) d hcs) kk
/-- a constructor of a nest mate -/
def LKIN (own : String) (idx : Nat) (y : MethodName) : Prop := (own, idx, y) ∈ nestL ∧ y.name = "<init>" ∧ Cond.instanceMethod y ∈ gT
theorem x_callIN {idx d1 mc1 ms1 n q : Nat} {As : List Value} (d : decode M.2.1 pc = .ok (.invokespecial idx, 3)) (hk : MK M1 n) (hrt : M1.2.2.2 = none) (hl0 : LKIN M.1.cls idx M1.1) (hM : XM Γ M1 d1 mc1 ms1 (.ref q :: As) μ Q1) (hn : As.length = n) (hst : st0 = As.reverse ++ .ref q :: st) (hw : (st.map fun v => v.category).sum ≤ 8) (hR : d1 + 1 ≤ R.frames ∧ 64 * (d1 + 1) ≤ R.locals) (hcs : cl + mc1 ≤ R.cells ∧ sl + ms1 ≤ R.slots)
    (kk : ∀ r μ', Q1 r μ' → WA Γ M R mc ms (cl + mc1) (sl + ms1) Q (pc + 3) lv (r.toList ++ st) μ') : WA Γ M R mc ms cl sl Q pc lv st0 μ := by
  intro p e s m args below meth c Qf H locs ls F hS hP hl hE
  obtain ⟨hx, hb, hml, -, -, -, hown, hts, hK, -, -⟩ := id F
  obtain ⟨hlk, hnm, hin⟩ := hl0
  have hN := F.2.2.2.2.2.2.2.2.2.2.2.2.2.1 _ hlk
  refine x_go F hS hl hE (va_runIN (Ts := gT) (own := M.1.cls) (host := "PutOut") (As := As) (bytes := M1.2.1) (maxL := M1.2.2.1) (cc := M.2.1) (nL := M.2.2.1) ⟨hx, hb, hml, hown, hts⟩ hM ⟨va_cnB n hts (good_ws hk) (by rw [xws, hrt]) rfl rfl hN (hts _ hk.2.1) hk.2.2.1 (x_room hk hR), hnm, hts _ hin⟩ ⟨xB_blind, fun U hU hW => ⟨rfl, xB_at F hS hP hU hW⟩⟩ rfl hn hl.1 hst (lv_room hw) d hcs) kk
/-- Object's constructor -/
theorem x_objInit {idx q : Nat} (d : decode M.2.1 pc = .ok (.invokespecial idx, 3)) (hlk : Cond.methodLink M.1.cls idx Lib.objectInit ∈ gT) (hin : Cond.instanceMethod Lib.objectInit ∈ gT) (hcd : Cond.code Lib.objectInit ⟨#[0xb1]⟩ 1 none ∈ gT) (hR : 1 ≤ R.frames ∧ 64 ≤ R.locals) (hw : (st.map fun v => v.category).sum ≤ 8) (kk : WA Γ M R mc ms cl sl Q (pc + 3) lv st μ) : WA Γ M R mc ms cl sl Q pc lv (.ref q :: st) μ := by
  intro p e s m args below meth c Qf H locs ls F hS hP hl hE
  obtain ⟨hx, hb, hml, -, -, -, hown, hts, hK, -, -⟩ := id F
  exact W.objInit hx hb hown (hts _ hlk) (hts _ hin) (hts _ hcd) rfl (by show ls.size = _; rw [hml]; exact hl.1) rfl d hR.1 (by have := lv_room (m := m) (pc := pc) (ls := ls) (rest := .ref q :: st) hw; omega) (kk p e s m args below meth c Qf H locs ls F hS hP hl hE)
/-- a method of the class above, called by super -/
def LKSU (own : String) (idx : Nat) (y : MethodName) : Prop := Cond.methodLink own idx y ∈ gT ∧ Cond.sameMethod y.cls y.cls y.name y.desc ∈ gT ∧ Cond.superclass own y.cls ∈ gT ∧ Cond.instanceMethod y ∈ gT ∧ y.name ≠ "<init>"
theorem x_callSU {idx d1 mc1 ms1 n q ci : Nat} {As : List Value} (d : decode M.2.1 pc = .ok (.invokespecial idx, 3)) (hk : MK M1 n) (hl0 : LKSU M.1.cls idx M1.1) (hci : ci < 13) (hT : mT μ q = (1, ci)) (hM : XM Γ M1 d1 mc1 ms1 (.ref q :: As) μ Q1) (hn : As.length = n) (hst : st0 = As.reverse ++ .ref q :: st) (hw : (st.map fun v => v.category).sum ≤ 8) (hR : d1 + 1 ≤ R.frames ∧ 64 * (d1 + 1) ≤ R.locals) (hcs : cl + mc1 ≤ R.cells ∧ sl + ms1 ≤ R.slots)
    (kk : ∀ r μ', Q1 r μ' → WA Γ M R mc ms (cl + mc1) (sl + ms1) Q (pc + 3) lv (r.toList ++ st) μ') : WA Γ M R mc ms cl sl Q pc lv st0 μ := by
  intro p e s m args below meth c Qf H locs ls F hS hP hl hE
  obtain ⟨hx, hb, hml, -, -, -, hown, hts, hK, -, -⟩ := id F
  obtain ⟨hlk, hsm, hsc, hin, hnm⟩ := hl0
  have hcode : Cond.code M1.1 M1.2.1 M1.2.2.1 M1.2.2.2 ∈ xws M1 := List.mem_cons_self
  have hR2 := x_room (mc1 := mc1) (ms1 := ms1) hk hR
  refine x_go F hS hl hE (va_runSU (Ts := gT) (own := M.1.cls) (C := xC ci) (As := As) (n := n) (bytes := M1.2.1) (maxL := M1.2.2.1) (ret := M1.2.2.2) (cc := M.2.1) (nL := M.2.2.1) (hK.1 ci _ (x_cl hci)).2 ⟨hx, hb, hml, hown, hts⟩ hM ⟨⟨rfl, rfl, hR2.1, hR2.2, pay_in hts (good_ws hk), hcode⟩, hts _ hlk, hts _ hsm, hts _ hsc, hts _ hin, hts _ hk.2.1, hts _ hk.1, hnm, fun sig h => ?_⟩ ⟨xB_blind, x_recv hK hP hci hT, fun U hU hW => ⟨rfl, xB_at F hS hP hU hW⟩⟩ rfl hn hl.1 hst (lv_room hw) d hcs) kk
  have h2 := hk.2.2.1.2.2
  rw [h] at h2
  exact (Option.some.inj h2).symm
end XCL
