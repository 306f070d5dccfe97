section XNW
variable {Γ : Gm} {M M1 : Mt} {R : Room} {mc ms cl sl : Nat} {Q Q1 : Option Value → Mem → Prop} {pc : Nat} {lv lv2 : List (Option Value)} {st st0 : List Value} {μ : Mem}
/-- a new cell at q -/
def nw (μ : Mem) (q t n : Nat) : Mem := (va_up μ.1 q (t, n), va_up μ.2.1 q (fun _ => 0), va_up μ.2.2.1 q (fun _ => 0), va_up μ.2.2.2.1 q (fun _ => none), va_up μ.2.2.2.2.1 q (fun _ => 0), va_up μ.2.2.2.2.2 q (fun _ => none))
theorem va_up_s {α : Type} {f : Nat → α} {k : Nat} {v : α} : va_up f k v k = v := by simp [va_up]
theorem va_up_n {α : Type} {f : Nat → α} {k j : Nat} {v : α} (h : j ≠ k) : va_up f k v j = f j := by simp [va_up, h]
theorem nw_T {μ : Mem} {q t n : Nat} : mT (nw μ q t n) q = (t, n) := va_up_s
theorem nw_Tn {μ : Mem} {q t n a : Nat} (h : a ≠ q) : mT (nw μ q t n) a = mT μ a := va_up_n h
theorem XP_push {H1 : Heap} {L : List Nat} {q t n : Nat} {e : va_E} (hL : ∀ q, q ∈ L ↔ (mT μ q).1 ≠ 0) (ht : t ≠ 0) (he : xcell (gC Γ) (nw μ q t n) q = e)
    (hP1 : va_P (gD Γ) vwCl (va_pl L (xcell (gC Γ) μ) ++ [(q, e)]) H1) (hD1 : va_D (gA Γ) (va_pl L (xcell (gC Γ) μ) ++ [(q, e)])) : (mT μ q).1 = 0 ∧ XP Γ (nw μ q t n) H1 := by
  have hq : q ∉ L := va_pl_fresh2 (X := []) hD1
  rw [va_pl_push hq] at hP1 hD1
  have h2 : va_pl (L ++ [q]) (va_up (xcell (gC Γ) μ) q e) = va_pl (L ++ [q]) (xcell (gC Γ) (nw μ q t n)) := va_pl_congr (fun a => by
    by_cases ha : a = q
    · rw [ha, va_up_s, he]
    · rw [va_up_n ha]
      exact (xcell_ne (μ := μ) (μ' := nw μ q t n) (va_up_n ha) (va_up_n ha) (va_up_n ha) (va_up_n ha) (va_up_n ha) (va_up_n ha)).symm)
  rw [h2] at hP1 hD1
  refine ⟨?_, L ++ [q], hP1, hD1, fun a => ?_⟩
  · rcases Nat.eq_zero_or_pos (mT μ q).1 with h | h
    · exact h
    · exact absurd ((hL q).mpr (by omega)) hq
  · rw [List.mem_append]
    by_cases ha : a = q
    · subst ha
      rw [nw_T]
      simp [ht]
    · rw [nw_Tn ha, ← hL a]
      simp [ha]
theorem x_newI {N : Nat} {n : Int32} (d : decode M.2.1 pc = .ok (.newarray .int, 2)) (hw : Cond.arrayClass .int ∈ gT) (hn : n = nI N) (hN : N ≤ 100000) (hcs : cl + 1 ≤ R.cells ∧ sl + N ≤ R.slots) (kk : ∀ q, (mT μ q).1 = 0 → WA Γ M R mc ms (cl + 1) (sl + N) Q (pc + 2) lv (.ref q :: st) (nw μ q 2 N)) : WA Γ M R mc ms cl sl Q pc lv (.int n :: st) μ := by
  intro p e s m args below meth c Qf H locs ls F hS hP hl hE
  obtain ⟨hx, hb, -, -, -, -, -, hts, hK, hB, -⟩ := id F
  obtain ⟨L, hPL, hD, hL⟩ := id hP
  refine va_newa (atype := .int) (ty := .int) (a0 := (N, .inl (fun _ => 0))) hx hb (hts _ hw) rfl hK hPL hD hS (fun q hq => Nat.le_trans hB hq) (fun cA => rfl) (by rw [hn]; exact nI_pos (by omega)) (by rw [hn]; exact nI_clamp (by omega)) (by show N * 4 ≤ _; omega) hcs.1 hcs.2 d (fun q cA H1 hK1 hP1 hD1 hS1 => ?_)
  have h1 : s.vm.findClass ("[" ++ FieldType.int.toString) = some cA := (hK1.2 6 (cA, .int) rfl).2
  have h2 : s.vm.findClass ("[" ++ FieldType.int.toString) = some (gC Γ 0) := (hK.2 0 (gC Γ 0, .int) rfl).2
  have h3 : cA = gC Γ 0 := Option.some.inj (h1.symm.trans h2)
  subst h3
  obtain ⟨g1, g2⟩ := XP_push (t := 2) (n := N) hL (by decide) (by rw [xcell_i nw_T]; show (Sum.inl (gC Γ 0, N, Sum.inl (va_up (mA μ) q (fun _ => 0) q)) : va_E) = _; rw [va_up_s]) hP1 hD1
  exact kk q g1 p e s m args below meth c Qf H1 locs ls F hS1 g2 hl hE
theorem x_newZ {N : Nat} {n : Int32} (d : decode M.2.1 pc = .ok (.newarray .boolean, 2)) (hw : Cond.arrayClass .boolean ∈ gT) (hn : n = nI N) (hN : N ≤ 100000) (hcs : cl + 1 ≤ R.cells ∧ sl + N ≤ R.slots) (kk : ∀ q, (mT μ q).1 = 0 → WA Γ M R mc ms (cl + 1) (sl + N) Q (pc + 2) lv (.ref q :: st) (nw μ q 3 N)) : WA Γ M R mc ms cl sl Q pc lv (.int n :: st) μ := by
  intro p e s m args below meth c Qf H locs ls F hS hP hl hE
  obtain ⟨hx, hb, -, -, -, -, -, hts, hK, hB, -⟩ := id F
  obtain ⟨L, hPL, hD, hL⟩ := id hP
  refine va_newa (atype := .boolean) (ty := .boolean) (a0 := (N, .inl (fun _ => 0))) hx hb (hts _ hw) rfl hK hPL hD hS (fun q hq => Nat.le_trans hB hq) (fun cA => rfl) (by rw [hn]; exact nI_pos (by omega)) (by rw [hn]; exact nI_clamp (by omega)) (by show N * 1 ≤ _; omega) hcs.1 hcs.2 d (fun q cA H1 hK1 hP1 hD1 hS1 => ?_)
  have h1 : s.vm.findClass ("[" ++ FieldType.boolean.toString) = some cA := (hK1.2 6 (cA, .boolean) rfl).2
  have h2 : s.vm.findClass ("[" ++ FieldType.boolean.toString) = some (gC Γ 1) := (hK.2 1 (gC Γ 1, .boolean) rfl).2
  have h3 : cA = gC Γ 1 := Option.some.inj (h1.symm.trans h2)
  subst h3
  obtain ⟨g1, g2⟩ := XP_push (t := 3) (n := N) hL (by decide) (by rw [xcell_z nw_T]; show (Sum.inl (gC Γ 1, N, Sum.inl (va_up (mA μ) q (fun _ => 0) q)) : va_E) = _; rw [va_up_s]) hP1 hD1
  exact kk q g1 p e s m args below meth c Qf H1 locs ls F hS1 g2 hl hE
theorem x_RA {s : State} (hK : va_K (gD Γ) vwCl (xtys Γ) s) : ∀ (k : Nat), k < 3 → va_RA s (gC Γ (k + 2)) (.object (xRC k))
  | 0, _ => (hK.2 2 (gC Γ 2, .object "PutOut$Thing") rfl).2
  | 1, _ => (hK.2 3 (gC Γ 3, .object "PutOut$Text") rfl).2
  | 2, _ => (hK.2 4 (gC Γ 4, .object "PutOut$Sheet") rfl).2
theorem x_newX {N idx k : Nat} {n : Int32} (hk3 : k < 3) (d : decode M.2.1 pc = .ok (.anewarray idx, 3)) (hw : Cond.classLink M.1.cls idx (xRC k) ∈ gT) (hn : n = nI N) (hN : N ≤ 100000) (hcs : cl + 1 ≤ R.cells ∧ sl + N ≤ R.slots) (kk : ∀ q, (mT μ q).1 = 0 → WA Γ M R mc ms (cl + 1) (sl + N) Q (pc + 3) lv (.ref q :: st) (nw μ q (k + 4) N)) : WA Γ M R mc ms cl sl Q pc lv (.int n :: st) μ := by
  intro p e s m args below meth c Qf H locs ls F hS hP hl hE
  obtain ⟨hx, hb, -, -, -, -, hown, hts, hK, hB, -⟩ := id F
  obtain ⟨L, hPL, hD, hL⟩ := id hP
  refine va_newq (C := xRC k) (N' := N) hx hb hown (hts _ hw) (F.2.2.2.2.2.2.2.2.2.2.2.2.2.2.1 k) hK hPL hD hS (fun q hq => Nat.le_trans hB hq) (by rw [hn]; exact nI_pos (by omega)) (by rw [hn]; exact nI_clamp (by omega)) (by omega) hcs.1 hcs.2 d (fun q cA H1 hK1 hP1 hD1 hS1 => ?_)
  have h1 : va_RA s cA (.object (xRC k)) := (hK1.2 6 (cA, .object (xRC k)) rfl).2
  have h2 : va_RA s (gC Γ (k + 2)) (.object (xRC k)) := x_RA hK k hk3
  obtain ⟨-, -, -, -, -, e1⟩ := h1
  obtain ⟨-, -, -, -, -, e2⟩ := h2
  have h3 : cA = gC Γ (k + 2) := Option.some.inj (e1.symm.trans e2)
  subst h3
  obtain ⟨g1, g2⟩ := XP_push (t := k + 4) (n := N) hL (by omega) (by rw [xcell_x nw_T]; show (Sum.inl (gC Γ (k + 2), N, Sum.inr (Sum.inr (Sum.inr (Sum.inr (va_up (mX μ) q (fun _ => none) q))))) : va_E) = _; rw [va_up_s]) hP1 hD1
  exact kk q g1 p e s m args below meth c Qf H1 locs ls F hS1 g2 hl hE
theorem dflt_ok : ∀ {ci : Nat}, ci < 13 → ∀ j, j < xN ci → defaultValue (xty ci j) = (match xty ci j with
  | .long => .long 0
  | .object _ => .null
  | .array _ => .null
  | _ => .int 0) := by decide +kernel
theorem x_new {ci idx : Nat} (d : decode M.2.1 pc = .ok (.new idx, 3)) (hci : ci < 13) (hw : Cond.classLink M.1.cls idx (xC ci) ∈ gT) (hw2 : Cond.instantiable (xC ci) (xN ci) ∈ gT) (hw3 : Cond.initialized (xC ci) ∈ gT) (hcs : cl + 1 ≤ R.cells ∧ sl + xN ci ≤ R.slots) (kk : ∀ q, (mT μ q).1 = 0 → WA Γ M R mc ms (cl + 1) (sl + xN ci) Q (pc + 3) lv (.ref q :: st) (nw μ q 1 ci)) : WA Γ M R mc ms cl sl Q pc lv st μ := by
  intro p e s m args below meth c Qf H locs ls F hS hP hl hE
  obtain ⟨hx, hb, -, -, -, -, hown, hts, hK, hB, -⟩ := id F
  obtain ⟨L, hPL, hD, hL⟩ := id hP
  refine va_new (fs := (List.range (xN ci)).map (fun k => defaultValue (xty ci k))) hx hb hts (x_in hci) (xty ci) (x_tyok hci) hown (hts _ hw) (hts _ hw2) (hts _ hw3) hK hPL hD hS (fun q hq => Nat.le_trans hB hq) (x_cl hci) (fun j hj => ?_) hcs.1 hcs.2 d (fun q H1 hP1 hD1 hS1 => ?_)
  · unfold vp_V
    rw [List.getD_eq_getElem?_getD, List.getElem?_map, List.getElem?_range hj]
    rfl
  · obtain ⟨g1, g2⟩ := XP_push (t := 1) (n := ci) hL (by decide) (by
      rw [xcell_o nw_T]
      congr 2
      unfold xfs
      refine List.map_congr_left (fun k hk => ?_)
      rw [dflt_ok hci k (List.mem_range.mp hk)]
      have e1 : mI (nw μ q 1 ci) q k = 0 := by show va_up (mI μ) q (fun _ => 0) q k = 0; rw [va_up_s]
      have e2 : mJ (nw μ q 1 ci) q k = 0 := by show va_up (mJ μ) q (fun _ => 0) q k = 0; rw [va_up_s]
      have e3 : mR (nw μ q 1 ci) q k = none := by show va_up (mR μ) q (fun _ => none) q k = none; rw [va_up_s]
      unfold xv
      cases xty ci k <;> simp [e1, e2, e3, va_rf]) hP1 hD1
    exact kk q g1 p e s m args below meth c Qf H1 locs ls F hS1 g2 hl hE
/-- System.arraycopy over ints -/
def cpA (μ : Mem) (a b i j n : Nat) : Mem := (μ.1, μ.2.1, μ.2.2.1, μ.2.2.2.1, va_up μ.2.2.2.2.1 b (va_cpy (μ.2.2.2.2.1 a) (μ.2.2.2.2.1 b) i j n), μ.2.2.2.2.2)
theorem x_copy {idx a b na nb i j n : Nat} {iv jv nv : Int32} (d : decode M.2.1 pc = .ok (.invokestatic idx, 3)) (hw : Cond.methodLink M.1.cls idx arraycopyName ∈ gT) (hw1 : Cond.native arraycopyName ∈ gT) (hw2 : Cond.static arraycopyName ∈ gT) (hw3 : Cond.initialized "java/lang/System" ∈ gT) (hTa : mT μ a = (2, na)) (hTb : mT μ b = (2, nb)) (hi : iv = nI i) (hj : jv = nI j) (hn : nv = nI n) (h4 : i + n ≤ na) (h5 : j + n ≤ nb) (hna : na < 2 ^ 31) (hnb : nb < 2 ^ 31) (hR : 1 ≤ R.frames ∧ 64 ≤ R.locals) (hws : (st.map fun v => v.category).sum ≤ 8)
    (kk : WA Γ M R mc ms cl sl Q (pc + 3) lv st (cpA μ a b i j n)) : WA Γ M R mc ms cl sl Q pc lv (.int nv :: .int jv :: .ref b :: .int iv :: .ref a :: st) μ := by
  intro p e s m args below meth c Qf H locs ls F hS hP hl hE
  obtain ⟨hx, hb, hml, -, -, -, hown, hts, hK, hB, -⟩ := id F
  obtain ⟨L, hPL, hD, hL⟩ := id hP
  have hqa : a ∈ L := (hL a).mpr (by rw [hTa]; exact fun h => by cases h)
  have hqb : b ∈ L := (hL b).mpr (by rw [hTb]; exact fun h => by cases h)
  obtain ⟨za, hza⟩ := va_pl_get (X := []) (f := xcell (gC Γ) μ) hqa
  obtain ⟨zb, hzb0⟩ := va_pl_get (X := []) (f := xcell (gC Γ) μ) hqb
  have hzb := hzb0
  rw [xcell_i hTa] at hza
  rw [xcell_i hTb] at hzb
  subst hi; subst hj; subst hn
  have ci : (nI i).toNatClampNeg = i := nI_clamp (by omega)
  have cj : (nI j).toNatClampNeg = j := nI_clamp (by omega)
  have cn : (nI n).toNatClampNeg = n := nI_clamp (by omega)
  refine va_copyi (sp := nI i) (dp := nI j) (n := nI n) (rest := st) hx hb (by rw [hml, hl.1]) hown (hts _ hw) (hts _ hw1) (hts _ hw2) (hts _ hw3) hK hPL hD hS za zb 0 0 hza hzb rfl rfl rfl (nI_pos (by omega)) (nI_pos (by omega)) (nI_pos (by omega)) (by rw [ci, cn]; exact h4) (by rw [cj, cn]; exact h5) (fun _ _ => rfl) hR.1 (Nat.le_trans (Nat.add_le_add hws (show nativeFrameWords "java/lang/System" "arraycopy" 5 + 11 ≤ 56 by decide)) hR.2) d (fun H1 locs1 hP1 hD1 hS1 => ?_)
  rw [ci, cj, cn] at hP1 hD1
  refine kk p e s m args below meth c Qf H1 locs1 ls F hS1 (XP_set (μ' := cpA μ a b i j n) hD hL hqb hzb0 rfl ?_ (fun z hz => xcell_ne rfl rfl rfl rfl (va_up_n hz) rfl) hP1 hD1) hl hE
  rw [xcell_i (show mT (cpA μ a b i j n) b = (2, nb) from hTb)]
  show (Sum.inl (gC Γ 0, nb, Sum.inl (va_up (mA μ) b (va_cpy (mA μ a) (mA μ b) i j n) b)) : va_E) = _
  rw [va_up_s]
end XNW
