/-! rows for calls by super of what is declared two classes above, and of a private method on a thing of any kind -/
section M73
variable {Γ : Gm} {M M1 : Mt} {R : Room} {mc ms cl sl : Nat} {Q Q1 : Option Value → Mem → Prop} {pc : Nat} {lv : List (Option Value)} {st st0 : List Value} {μ : Mem}
def LKSO (own : String) (idx : Nat) (x y : MethodName) : Prop := Cond.methodLink own idx x ∈ gT ∧ Cond.sameMethod x.cls y.cls x.name x.desc ∈ gT ∧ Cond.superclass own x.cls ∈ gT ∧ Cond.superclass x.cls y.cls ∈ gT ∧ Cond.instanceMethod y ∈ gT ∧ x.name ≠ "<init>" ∧ y = ⟨y.cls, x.name, x.desc⟩
theorem x_callSO {idx d1 mc1 ms1 n q ci : Nat} {As : List Value} {x : MethodName} (d : decode M.2.1 pc = .ok (.invokespecial idx, 3)) (hk : MK M1 n) (hl0 : LKSO M.1.cls idx x M1.1) (hci : ci < 13) (hT : mT μ q = (1, ci)) (hM : XM Γ M1 d1 mc1 ms1 (.ref q :: As) μ Q1) (hn : As.length = n) (hst : st0 = As.reverse ++ .ref q :: st) (hw : (st.map fun v => v.category).sum ≤ 8) (hR : d1 + 1 ≤ R.frames ∧ 64 * (d1 + 1) ≤ R.locals) (hcs : cl + mc1 ≤ R.cells ∧ sl + ms1 ≤ R.slots)
    (kk : ∀ r μ', Q1 r μ' → WA Γ M R mc ms (cl + mc1) (sl + ms1) Q (pc + 3) lv (r.toList ++ st) μ') : WA Γ M R mc ms cl sl Q pc lv st0 μ := by
  intro p e s m args below meth c Qf H locs ls F hS hP hl hE
  obtain ⟨hx, hb, hml, -, -, -, hown, hts, hK, -, -⟩ := id F
  obtain ⟨hlk, hsm, hs1, hs2, hin, hnm, hy⟩ := hl0
  have hcode : Cond.code M1.1 M1.2.1 M1.2.2.1 M1.2.2.2 ∈ xws M1 := List.mem_cons_self
  have hR2 := x_room (mc1 := mc1) (ms1 := ms1) hk hR
  refine x_go F hS hl hE (a := (Value.ref q :: As).toArray) (mc1 := mc1) (ms1 := ms1) ?_ kk
  obtain ⟨cellB, hcB, hoB, hclB⟩ := x_recv hK hP hci hT
  obtain ⟨hfc, kB, hkB, -⟩ := (hK.1 ci _ (x_cl hci)).2
  have hcc : cellB.cls = _ := Option.some.inj (hclB.symm.trans hfc)
  rw [← hcc] at hkB
  intro T hT0 X
  have hB : Back (gL Γ) R p e below s args M1.1 3 8 (PreOf R mc1 ms1 (va_Pc (.ref q :: As) (xB Γ μ))) (PostOf (XQ Γ Q1) mc1 ms1 (gA Γ)) := back_of (bytes := M1.2.1) (maxL := M1.2.2.1) (ret := M1.2.2.2) hM xB_blind rfl rfl hR2.1 hR2.2 (pay_in hts (good_ws hk)) hcode (fun a' U hW => word_at hW (Or.inl (by first | rfl | simp [Cond.onTables, Cond.keeps, Cond.steady])) (hts _ hk.2.1))
  obtain ⟨mk, methM, hnamed, hmethM, hstM, habM⟩ := Cond.instanceMethod_spec (hts _ hin)
  obtain ⟨methM', cM, hmethM', -, -, -, -, -, -, hsigM⟩ := Cond.code_spec hnamed (hts _ hk.1)
  cases hmethM.symm.trans hmethM'
  obtain ⟨ps, dk, kp, hps, hdk, hkp, hsuper, -, -, hnid⟩ := Cond.superclass_spec hown (hts _ hs1)
  obtain ⟨ps2, dk2, kp2, hps2, hdk2, hkp2, hsuper2, -, -, -⟩ := Cond.superclass_spec hps (hts _ hs2)
  have hpm : ps2 = mk.cls := Option.some.inj (hps2.symm.trans (findClass_of_methodNamed hnamed))
  have hsub : s.vm.isSubclass ps mk.cls = true := by
    have hsz : 0 < s.vm.classes.size := by
      have := (Array.getElem?_eq_some_iff.mp hdk2).1
      omega
    obtain ⟨z, hz⟩ : ∃ z, s.vm.classes.size = z + 1 := ⟨s.vm.classes.size - 1, by omega⟩
    rw [← hpm]
    simp [Vm.isSubclass, hz, Vm.isSubclassAux, hdk2, hsuper2]
  have hn2 : s.methodNamed? ⟨M1.1.cls, x.name, x.desc⟩ = some mk := by rw [← hy]; exact hnamed
  have hlen : As.length = methM.sig.parameters.length := by
    have h2 := hk.2.2.1.2.2
    rw [hsigM] at h2
    rw [hn]
    exact (Option.some.inj h2).symm
  obtain ⟨vm₁, X₁, hstep₁⟩ := X.invokespecialUp hx hown (hts _ hlk) (hts _ hsm) hn2 hmethM hstM habM hnm hdk hnid hps hsuper hsub (a := q) (cell := cellB) (by rw [hT0]; exact hcB)
    (fun z h => by rw [h] at hoB; cases hoB) hkB (g := F0 m pc ls st0) rfl (argsL := As) (rest := st) hlen hst (by rw [hb]; exact d)
  obtain ⟨v, ⟨U', l2, c2, s2⟩, X', ⟨g', mk', t, L, e1, e2, hq, h1, hL, h2, h3⟩, hsteps⟩ := hB m meth c ⟨T.setVm vm₁, locs, cl, sl⟩ { F0 m pc ls st0 with stack := st } (.invokespecial idx) mk (Value.ref q :: As).toArray X₁ rfl (hl.1.trans hml.symm) (by rw [hb]; exact d) (by show 2 * 0 + (st.map fun v => v.category).sum ≤ 8; omega) (X₁.named hnamed) ⟨hcs.1, hcs.2, rfl, xB_at F hS hP hT0 X₁.warmed⟩
  dsimp only [Pt.U, Pt.locs, Pt.cells, Pt.slots] at X' e1 e2 h1 h2 h3 hsteps
  subst h1; subst h2; subst h3
  exact ⟨v, (T.setVm vm₁).calling g' mk' (Value.ref q :: As).toArray, t, U', L, hT0, X', hL, e1, e2, hq, fun target h => hstep₁ _ (by rw [doInvoke_state]; exact hsteps.trans h)⟩
theorem sel_priv {C : String} {cc : ClassId} {y : MethodName} {s : State} {args : Array Value} {n : Nat} (hC : s.vm.findClass C = some cc) (hy : y.cls ≠ "java/lang/invoke/MethodHandle" ∧ y.cls ≠ "java/lang/invoke/VarHandle")
    (hins : (Cond.instantiable y.cls n).before args s = true) (hpriv : s.PrivateAt y) (hinst : (Cond.instanceMethod y).before args s = true) : (Cond.selects C y y).before args s = true := by
  obtain ⟨c, k, hc, hk, -, hniab, -, -⟩ := Cond.instantiable_spec hins
  have hni : k.isInterface = false := (Bool.or_eq_false_iff.mp hniab).1
  obtain ⟨mk, methM, hnamed, hmethM, -, -⟩ := Cond.instanceMethod_spec hinst
  have hfound : s.methodFound? y.cls y.name y.desc = some mk := State.methodFound?_of_named hnamed hy
  have hcls : mk.cls = c := Option.some.inj ((findClass_of_methodNamed hnamed).symm.trans hc)
  have hsel : selectMethod {} s.vm cc mk = .method mk := selectMethod_private hmethM (hpriv mk methM hnamed hmethM)
  simp only [Cond.before, Cond.holds, Cond.value, hC, hfound, hnamed, hsel, hcls, hk]
  simp; exact hni
theorem x_callP {idx d1 mc1 ms1 n q ci k : Nat} {As : List Value} (d : decode M.2.1 pc = .ok (.invokevirtual idx, 3)) (hk : MK M1 n) (hl0 : Cond.methodLink M.1.cls idx M1.1 ∈ gT ∧ Cond.sameMethod M1.1.cls M1.1.cls M1.1.name M1.1.desc ∈ gT ∧ Cond.instanceMethod M1.1 ∈ gT ∧ Cond.instantiable M1.1.cls k ∈ gT ∧ M1.1 = pvT) (hci : ci < 13) (hT : mT μ q = (1, ci)) (hM : XM Γ M1 d1 mc1 ms1 (.ref q :: As) μ Q1) (hn : As.length = n) (hst : st0 = As.reverse ++ .ref q :: st) (hw : (st.map fun v => v.category).sum ≤ 8) (hR : d1 + 1 ≤ R.frames ∧ 64 * (d1 + 1) ≤ R.locals) (hcs : cl + mc1 ≤ R.cells ∧ sl + ms1 ≤ R.slots)
    (kk : ∀ r μ', Q1 r μ' → WA Γ M R mc ms (cl + mc1) (sl + ms1) Q (pc + 3) lv (r.toList ++ st) μ') : WA Γ M R mc ms cl sl Q pc lv st0 μ := by
  intro p e s m args below meth c Qf H locs ls F hS hP hl hE
  obtain ⟨hx, hb, hml, -, -, -, hown, hts, hK, -, hSE⟩ := id F
  obtain ⟨hlk, hsm, hin, hins, hpv⟩ := hl0
  have hcode : Cond.code M1.1 M1.2.1 M1.2.2.1 M1.2.2.2 ∈ xws M1 := List.mem_cons_self
  have hR2 := x_room (mc1 := mc1) (ms1 := ms1) hk hR
  obtain ⟨cellB, hcB, hoB, hclB⟩ := x_recv hK hP hci hT
  have hsel : (Cond.selects (xC ci) M1.1 M1.1).before args s = true := sel_priv hclB ⟨hk.2.2.1.1, hk.2.2.1.2.1⟩ (hts _ hins) (by rw [hpv]; exact hSE.2.2.2.2.2.2.2.1) (hts _ hin)
  refine x_go F hS hl hE (va_runU (Ts := gT) (own := M.1.cls) (C := xC ci) (owner := M1.1.cls) (x := M1.1) (As := As) (n := n) (bytes := M1.2.1) (maxL := M1.2.2.1) (ret := M1.2.2.2) (cc := M.2.1) (nL := M.2.2.1) ⟨hx, hb, hml, hown, hts⟩ hM ⟨⟨rfl, rfl, hR2.1, hR2.2, pay_in hts (good_ws hk), hcode⟩, hts _ hk.1, hts _ hk.2.1, ⟨hk.2.2.1.1, hk.2.2.1.2.1⟩, fun sig h => ?_, hts _ hlk, hts _ hsm, va_Decl.of (hts _ hin) (hts _ hk.1), hsel, hts _ hin⟩ ⟨xB_blind, ⟨cellB, hcB, hoB, hclB⟩, fun U hU hW => ⟨rfl, xB_at F hS hP hU hW⟩⟩ rfl hn hl.1 hst (lv_room hw) d hcs) kk
  have h2 := hk.2.2.1.2.2
  rw [h] at h2
  exact (Option.some.inj h2).symm
end M73
