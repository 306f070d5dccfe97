section XHP
variable {Γ : Gm} {M : Mt} {R : Room} {mc ms cl sl : Nat} {Q : Option Value → Mem → Prop} {pc : Nat} {lv lv2 : List (Option Value)} {st : List Value} {μ : Mem}
/-- a field's place in the pool of whose code runs -/
def FK (own : String) (idx ci k : Nat) : Prop := ci < 13 ∧ k < xN ci ∧ ∃ ref : String, Cond.fieldLink own idx ref (xT ci k).2.1 (xT ci k).2.2.1 ∈ gT ∧ (ref = (xT ci k).1 ∨ Cond.sameField ref (xT ci k).1 (xT ci k).2.1 (xT ci k).2.2.1 ∈ gT)
theorem xfs_at {μ : Mem} {q ci k : Nat} (h : k < xN ci) : (xfs μ q ci)[k]? = some (xv μ q k (xty ci k)) := by
  unfold xfs
  rw [List.getElem?_map, List.getElem?_range h]
  rfl
theorem xfs_len {μ : Mem} {q ci : Nat} : (xfs μ q ci).length = xN ci := by simp [xfs]
theorem FK_same {own : String} {idx ci k : Nat} {args : Array Value} {s : State} (hts : ∀ w ∈ gT, w.before args s = true) {ref : String} (h : ref = (xT ci k).1 ∨ Cond.sameField ref (xT ci k).1 (xT ci k).2.1 (xT ci k).2.2.1 ∈ gT) : ∀ x, s.fieldFound? (xT ci k).1 (xT ci k).2.1 (xT ci k).2.2.1 = some x → s.fieldFound? ref (xT ci k).2.1 (xT ci k).2.2.1 = some x := by
  intro x hx
  rcases h with h | h
  · rw [h]; exact hx
  · exact u_same (hts _ h) x hx
theorem x_getv {q idx ci k : Nat} {v : Value} (d : decode M.2.1 pc = .ok (.getfield idx, 3)) (f : FK M.1.cls idx ci k) (hT : mT μ q = (1, ci)) (hv : xv μ q k (xty ci k) = v) (kk : WA Γ M R mc ms cl sl Q (pc + 3) lv (v :: st) μ) : WA Γ M R mc ms cl sl Q pc lv (.ref q :: st) μ := by
  intro p e s m args below meth c Qf H locs ls F hS hP hl hE
  obtain ⟨hx, hb, -, -, -, -, hown, hts, hK, -, -⟩ := id F
  obtain ⟨L, hPL, hD, hL⟩ := id hP
  obtain ⟨hci, hk, ref, hlk, hsm⟩ := f
  have hq : q ∈ L := (hL q).mpr (by rw [hT]; exact fun h => by cases h)
  obtain ⟨i, hi⟩ := va_pl_get (X := []) (f := xcell (gC Γ) μ) hq
  rw [xcell_o hT] at hi
  exact va_get hx hb hts (x_in hci) hown hK hPL i hi (x_cl hci) k hk (hts _ hlk) (FK_same (own := M.1.cls) (idx := idx) hts hsm) (by rw [xfs_at hk, hv]) d (kk p e s m args below meth c Qf H locs ls F hS hP hl hE)
theorem x_getI {q idx ci k : Nat} (d : decode M.2.1 pc = .ok (.getfield idx, 3)) (f : FK M.1.cls idx ci k) (hT : mT μ q = (1, ci)) (hv : xty ci k = .int ∨ xty ci k = .boolean) (kk : WA Γ M R mc ms cl sl Q (pc + 3) lv (.int (mI μ q k) :: st) μ) : WA Γ M R mc ms cl sl Q pc lv (.ref q :: st) μ :=
  x_getv d f hT (by rcases hv with h | h <;> rw [h] <;> rfl) kk
theorem x_getJ {q idx ci k : Nat} (d : decode M.2.1 pc = .ok (.getfield idx, 3)) (f : FK M.1.cls idx ci k) (hT : mT μ q = (1, ci)) (hv : xty ci k = .long) (kk : WA Γ M R mc ms cl sl Q (pc + 3) lv (.long (mJ μ q k) :: st) μ) : WA Γ M R mc ms cl sl Q pc lv (.ref q :: st) μ :=
  x_getv d f hT (by rw [hv]; rfl) kk
/-- is it a type of references -/
def isR (t : FieldType) : Prop := (∃ n, t = .object n) ∨ ∃ u, t = .array u
theorem x_getR {q idx ci k a : Nat} (d : decode M.2.1 pc = .ok (.getfield idx, 3)) (f : FK M.1.cls idx ci k) (hT : mT μ q = (1, ci)) (hv : isR (xty ci k)) (ha : mR μ q k = some a) (kk : WA Γ M R mc ms cl sl Q (pc + 3) lv (.ref a :: st) μ) : WA Γ M R mc ms cl sl Q pc lv (.ref q :: st) μ :=
  x_getv d f hT (by rcases hv with ⟨n, h⟩ | ⟨u, h⟩ <;> rw [h] <;> show va_rf (mR μ q k) = _ <;> rw [ha] <;> rfl) kk
theorem x_getN {q idx ci k : Nat} (d : decode M.2.1 pc = .ok (.getfield idx, 3)) (f : FK M.1.cls idx ci k) (hT : mT μ q = (1, ci)) (hv : isR (xty ci k)) (ha : mR μ q k = none) (kk : WA Γ M R mc ms cl sl Q (pc + 3) lv (.null :: st) μ) : WA Γ M R mc ms cl sl Q pc lv (.ref q :: st) μ :=
  x_getv d f hT (by rcases hv with ⟨n, h⟩ | ⟨u, h⟩ <;> rw [h] <;> show va_rf (mR μ q k) = _ <;> rw [ha] <;> rfl) kk
/-- a store into the memory, seen by the pool's cells -/
theorem XP_set {μ' : Mem} {H1 : Heap} {L : List Nat} {q i : Nat} {e : va_E} (hD : va_D (gA Γ) (va_pl L (xcell (gC Γ) μ))) (hL : ∀ q, q ∈ L ↔ (mT μ q).1 ≠ 0) (hq : q ∈ L) (hi : ([] ++ va_pl L (xcell (gC Γ) μ))[i]? = some (q, xcell (gC Γ) μ q)) (hT : mT μ' = mT μ) (he : xcell (gC Γ) μ' q = e) (ho : ∀ a, a ≠ q → xcell (gC Γ) μ' a = xcell (gC Γ) μ a)
    (hP1 : va_P (gD Γ) vwCl ((va_pl L (xcell (gC Γ) μ)).set i (q, e)) H1) (hD1 : va_D (gA Γ) ((va_pl L (xcell (gC Γ) μ)).set i (q, e))) : XP Γ μ' H1 := by
  have h1 := va_pl_set (X := []) (e := e) hD hq hi
  have h2 : va_pl L (va_up (xcell (gC Γ) μ) q e) = va_pl L (xcell (gC Γ) μ') := va_pl_congr (fun a => by
    unfold va_up
    by_cases ha : a = q
    · rw [if_pos ha, ha, he]
    · rw [if_neg ha, ho a ha])
  have h3 : (va_pl L (xcell (gC Γ) μ)).set i (q, e) = va_pl L (xcell (gC Γ) μ') := h1.trans h2
  rw [h3] at hP1 hD1
  exact ⟨L, hP1, hD1, fun a => by rw [hT]; exact hL a⟩
theorem xv_ne {μ μ' : Mem} {a k : Nat} {t : FieldType} (h1 : mI μ' a k = mI μ a k) (h2 : mJ μ' a k = mJ μ a k) (h3 : mR μ' a k = mR μ a k) : xv μ' a k t = xv μ a k t := by
  unfold xv
  split <;> simp [h1, h2, h3]
theorem xcell_ne {ca : Nat → ClassId} {μ μ' : Mem} {a : Nat} (h0 : mT μ' a = mT μ a) (h1 : mI μ' a = mI μ a) (h2 : mJ μ' a = mJ μ a) (h3 : mR μ' a = mR μ a) (h4 : mA μ' a = mA μ a) (h5 : mX μ' a = mX μ a) : xcell ca μ' a = xcell ca μ a := by
  unfold xcell
  have h6 : ∀ ci, xfs μ' a ci = xfs μ a ci := fun ci => by
    unfold xfs
    exact List.map_congr_left (fun k _ => xv_ne (by rw [h1]) (by rw [h2]) (by rw [h3]))
  rw [h0, h4, h5]
  simp [h6]
theorem up2_row {α : Type} {f : Nat → Nat → α} {q k a : Nat} {v : α} (h : a ≠ q) : up2 f q k v a = f a := funext fun b => up2_n (Or.inl h)
theorem xfs_set {μ μ' : Mem} {q ci k : Nat} {v : Value} (hk : k < xN ci) (hv : xv μ' q k (xty ci k) = v) (ho : ∀ j, j ≠ k → xv μ' q j (xty ci j) = xv μ q j (xty ci j)) : xfs μ' q ci = (xfs μ q ci).set k v := by
  apply List.ext_getElem?
  intro j
  rw [List.getElem?_set]
  by_cases hj : k = j
  · subst hj
    rw [if_pos rfl, if_pos (by rw [xfs_len]; exact hk), xfs_at hk, hv]
  · rw [if_neg hj]
    by_cases hjn : j < xN ci
    · rw [xfs_at hjn, xfs_at hjn, ho j (fun e => hj e.symm)]
    · rw [List.getElem?_eq_none (by rw [xfs_len]; omega), List.getElem?_eq_none (by rw [xfs_len]; omega)]
theorem x_putv {q idx ci k : Nat} {v : Value} {μ' : Mem} (d : decode M.2.1 pc = .ok (.putfield idx, 3)) (f : FK M.1.cls idx ci k) (hfin : (xT ci k).2.2.2 = false ∨ ((xT ci k).2.2.2 = true ∧ M.1.name = "<init>" ∧ (xT ci k).1 = M.1.cls)) (hT : mT μ q = (1, ci)) (hn : narrow (xty ci k) v = v) (hfit : fits (xty ci k) v = true)
    (hT' : mT μ' = mT μ) (hv : xv μ' q k (xty ci k) = v) (ho : ∀ j, j ≠ k → xv μ' q j (xty ci j) = xv μ q j (xty ci j)) (hoo : ∀ a, a ≠ q → xcell (gC Γ) μ' a = xcell (gC Γ) μ a)
    (kk : WA Γ M R mc ms cl sl Q (pc + 3) lv st μ') : WA Γ M R mc ms cl sl Q pc lv (v :: .ref q :: st) μ := by
  intro p e s m args below meth c Qf H locs ls F hS hP hl hE
  obtain ⟨hx, hb, -, -, -, hname, hown, hts, hK, -, -⟩ := id F
  obtain ⟨L, hPL, hD, hL⟩ := id hP
  obtain ⟨hci, hk, ref, hlk, hsm⟩ := f
  have hq : q ∈ L := (hL q).mpr (by rw [hT]; exact fun h => by cases h)
  obtain ⟨i, hi0⟩ := va_pl_get (X := []) (f := xcell (gC Γ) μ) hq
  have hi := hi0
  rw [xcell_o hT] at hi
  have hd := x_tyok hci k hk
  have hc2 : xcell (gC Γ) μ' q = .inr (ci, (xfs μ q ci).set k v) := by rw [xcell_o (by rw [hT']; exact hT), xfs_set hk hv ho]
  rcases hfin with hfin | ⟨hfin, hini, hdecl⟩
  · exact va_put hx hb hts (x_in hci) (xty ci) (x_tyok hci) (x_nm hci) hown hK hPL hD hS i hi (x_cl hci) k hk (hts _ hlk) (FK_same (own := M.1.cls) (idx := idx) hts hsm) hfin hd hn hfit (by rw [xfs_len]; exact hk) d (fun H1 locs1 hP1 hD1 hS1 =>
      kk p e s m args below meth c Qf H1 locs1 ls F hS1 (XP_set hD hL hq hi0 hT' hc2 hoo hP1 hD1) hl hE)
  · exact va_putF hx hb hts (x_in hci) (xty ci) (x_tyok hci) (x_nm hci) hown hK hPL hD hS i hi (x_cl hci) k hk (hts _ hlk) (FK_same (own := M.1.cls) (idx := idx) hts hsm) hfin (by rw [hname]; exact hini) hdecl hd hn hfit (by rw [xfs_len]; exact hk) d (fun H1 locs1 hP1 hD1 hS1 =>
      kk p e s m args below meth c Qf H1 locs1 ls F hS1 (XP_set hD hL hq hi0 hT' hc2 hoo hP1 hD1) hl hE)
theorem x_putI {q idx ci k : Nat} {v : Int32} (d : decode M.2.1 pc = .ok (.putfield idx, 3)) (f : FK M.1.cls idx ci k) (hfin : (xT ci k).2.2.2 = false ∨ ((xT ci k).2.2.2 = true ∧ M.1.name = "<init>" ∧ (xT ci k).1 = M.1.cls)) (hT : mT μ q = (1, ci)) (hty : xty ci k = .int ∨ (xty ci k = .boolean ∧ (v = 0 ∨ v = 1)))
    (kk : WA Γ M R mc ms cl sl Q (pc + 3) lv st (sI μ q k v)) : WA Γ M R mc ms cl sl Q pc lv (.int v :: .ref q :: st) μ := by
  refine x_putv (μ' := sI μ q k v) d f hfin hT ?_ ?_ rfl ?_ ?_ ?_ kk
  · rcases hty with h | ⟨h, rfl | rfl⟩ <;> rw [h] <;> rfl
  · rcases hty with h | ⟨h, rfl | rfl⟩ <;> rw [h] <;> rfl
  · rcases hty with h | ⟨h, -⟩ <;> rw [h] <;> show Value.int (up2 (mI μ) q k v q k) = _ <;> rw [up2_s]
  · exact fun j hj => xv_ne (up2_n (Or.inr hj)) rfl rfl
  · exact fun a ha => xcell_ne rfl (up2_row ha) rfl rfl rfl rfl
theorem x_putJ {q idx ci k : Nat} {v : Int64} (d : decode M.2.1 pc = .ok (.putfield idx, 3)) (f : FK M.1.cls idx ci k) (hfin : (xT ci k).2.2.2 = false) (hT : mT μ q = (1, ci)) (hty : xty ci k = .long)
    (kk : WA Γ M R mc ms cl sl Q (pc + 3) lv st (sJ μ q k v)) : WA Γ M R mc ms cl sl Q pc lv (.long v :: .ref q :: st) μ := by
  refine x_putv (μ' := sJ μ q k v) d f (Or.inl hfin) hT ?_ ?_ rfl ?_ ?_ ?_ kk
  · rw [hty]; rfl
  · rw [hty]; rfl
  · rw [hty]; show Value.long (up2 (mJ μ) q k v q k) = _; rw [up2_s]
  · exact fun j hj => xv_ne rfl (up2_n (Or.inr hj)) rfl
  · exact fun a ha => xcell_ne rfl rfl (up2_row ha) rfl rfl rfl
theorem x_putR {q idx ci k a : Nat} (d : decode M.2.1 pc = .ok (.putfield idx, 3)) (f : FK M.1.cls idx ci k) (hfin : (xT ci k).2.2.2 = false ∨ ((xT ci k).2.2.2 = true ∧ M.1.name = "<init>" ∧ (xT ci k).1 = M.1.cls)) (hT : mT μ q = (1, ci)) (hty : isR (xty ci k))
    (kk : WA Γ M R mc ms cl sl Q (pc + 3) lv st (sR μ q k (some a))) : WA Γ M R mc ms cl sl Q pc lv (.ref a :: .ref q :: st) μ := by
  refine x_putv (μ' := sR μ q k (some a)) d f hfin hT ?_ ?_ rfl ?_ ?_ ?_ kk
  · rcases hty with ⟨n, h⟩ | ⟨u, h⟩ <;> rw [h] <;> rfl
  · rcases hty with ⟨n, h⟩ | ⟨u, h⟩ <;> rw [h] <;> rfl
  · rcases hty with ⟨n, h⟩ | ⟨u, h⟩ <;> rw [h] <;> show va_rf (up2 (mR μ) q k (some a) q k) = _ <;> rw [up2_s] <;> rfl
  · exact fun j hj => xv_ne rfl rfl (up2_n (Or.inr hj))
  · exact fun b hb => xcell_ne rfl rfl rfl (up2_row hb) rfl rfl
theorem x_putN {q idx ci k : Nat} (d : decode M.2.1 pc = .ok (.putfield idx, 3)) (f : FK M.1.cls idx ci k) (hfin : (xT ci k).2.2.2 = false ∨ ((xT ci k).2.2.2 = true ∧ M.1.name = "<init>" ∧ (xT ci k).1 = M.1.cls)) (hT : mT μ q = (1, ci)) (hty : isR (xty ci k))
    (kk : WA Γ M R mc ms cl sl Q (pc + 3) lv st (sR μ q k none)) : WA Γ M R mc ms cl sl Q pc lv (.null :: .ref q :: st) μ := by
  refine x_putv (μ' := sR μ q k none) d f hfin hT ?_ ?_ rfl ?_ ?_ ?_ kk
  · rcases hty with ⟨n, h⟩ | ⟨u, h⟩ <;> rw [h] <;> rfl
  · rcases hty with ⟨n, h⟩ | ⟨u, h⟩ <;> rw [h] <;> rfl
  · rcases hty with ⟨n, h⟩ | ⟨u, h⟩ <;> rw [h] <;> show va_rf (up2 (mR μ) q k none q k) = _ <;> rw [up2_s] <;> rfl
  · exact fun j hj => xv_ne rfl rfl (up2_n (Or.inr hj))
  · exact fun b hb => xcell_ne rfl rfl rfl (up2_row hb) rfl rfl
/-! arrays -/
theorem vpin {j : Int32} {i n : Nat} (hj : j = nI i) (hi : i < n) (hn : n < 2 ^ 31) : vp_in j n ∧ j.toNatClampNeg = i := by
  subst hj
  exact ⟨vp_in_nI hi hn, nI_clamp (by omega)⟩
theorem x_iald {q n i : Nat} {j : Int32} (d : decode M.2.1 pc = .ok (.iaload, 1)) (hT : mT μ q = (2, n)) (hj : j = nI i) (hi : i < n) (hn : n < 2 ^ 31) (kk : WA Γ M R mc ms cl sl Q (pc + 1) lv (.int (mA μ q i) :: st) μ) : WA Γ M R mc ms cl sl Q pc lv (.int j :: .ref q :: st) μ := by
  intro p e s m args below meth c Qf H locs ls F hS hP hl hE
  obtain ⟨hx, hb, -, -, -, -, -, -, hK, -, -⟩ := id F
  obtain ⟨L, hPL, hD, hL⟩ := id hP
  have hq : q ∈ L := (hL q).mpr (by rw [hT]; exact fun h => by cases h)
  obtain ⟨z, hz⟩ := va_pl_get (X := []) (f := xcell (gC Γ) μ) hq
  rw [xcell_i hT] at hz
  obtain ⟨h1, h2⟩ := vpin hj hi hn
  exact va_iald hx hb hK hPL z 0 hz rfl h1 d (by rw [h2]; exact kk p e s m args below meth c Qf H locs ls F hS hP hl hE)
theorem x_zald {q n i : Nat} {j : Int32} (d : decode M.2.1 pc = .ok (.baload, 1)) (hT : mT μ q = (3, n)) (hj : j = nI i) (hi : i < n) (hn : n < 2 ^ 31) (kk : WA Γ M R mc ms cl sl Q (pc + 1) lv (.int (mA μ q i) :: st) μ) : WA Γ M R mc ms cl sl Q pc lv (.int j :: .ref q :: st) μ := by
  intro p e s m args below meth c Qf H locs ls F hS hP hl hE
  obtain ⟨hx, hb, -, -, -, -, -, -, hK, -, -⟩ := id F
  obtain ⟨L, hPL, hD, hL⟩ := id hP
  have hq : q ∈ L := (hL q).mpr (by rw [hT]; exact fun h => by cases h)
  obtain ⟨z, hz⟩ := va_pl_get (X := []) (f := xcell (gC Γ) μ) hq
  rw [xcell_z hT] at hz
  obtain ⟨h1, h2⟩ := vpin hj hi hn
  exact va_zald hx hb hK hPL z 1 hz rfl h1 d (by rw [h2]; exact kk p e s m args below meth c Qf H locs ls F hS hP hl hE)
theorem upd_up2 {f : Nat → Nat → Int32} {q i : Nat} {v : Int32} : up2 f q i v q = upd (f q) i v := by
  funext b
  by_cases h : b = i
  · simp [up2, upd, h]
  · simp [up2, upd, h]
theorem x_iast {q n i : Nat} {j v : Int32} (d : decode M.2.1 pc = .ok (.iastore, 1)) (hT : mT μ q = (2, n)) (hj : j = nI i) (hi : i < n) (hn : n < 2 ^ 31) (kk : WA Γ M R mc ms cl sl Q (pc + 1) lv st (sA μ q i v)) : WA Γ M R mc ms cl sl Q pc lv (.int v :: .int j :: .ref q :: st) μ := by
  intro p e s m args below meth c Qf H locs ls F hS hP hl hE
  obtain ⟨hx, hb, -, -, -, -, -, -, hK, -, -⟩ := id F
  obtain ⟨L, hPL, hD, hL⟩ := id hP
  have hq : q ∈ L := (hL q).mpr (by rw [hT]; exact fun h => by cases h)
  obtain ⟨z, hz0⟩ := va_pl_get (X := []) (f := xcell (gC Γ) μ) hq
  have hz := hz0
  rw [xcell_i hT] at hz
  obtain ⟨h1, h2⟩ := vpin hj hi hn
  refine va_iast hx hb hK hPL hD hS z 0 hz rfl h1 d (fun H1 locs1 hP1 hD1 hS1 => ?_)
  rw [h2] at hP1 hD1
  refine kk p e s m args below meth c Qf H1 locs1 ls F hS1 (XP_set (μ' := sA μ q i v) hD hL hq hz0 rfl ?_ (fun a ha => xcell_ne rfl rfl rfl rfl (up2_row ha) rfl) hP1 hD1) hl hE
  rw [xcell_i (show mT (sA μ q i v) q = (2, n) from hT)]
  show (Sum.inl (gC Γ 0, n, Sum.inl (up2 (mA μ) q i v q)) : va_E) = _
  rw [upd_up2]
theorem x_zast {q n i : Nat} {j v : Int32} (d : decode M.2.1 pc = .ok (.bastore, 1)) (hT : mT μ q = (3, n)) (hj : j = nI i) (hi : i < n) (hn : n < 2 ^ 31) (hv : v = 0 ∨ v = 1) (kk : WA Γ M R mc ms cl sl Q (pc + 1) lv st (sA μ q i v)) : WA Γ M R mc ms cl sl Q pc lv (.int v :: .int j :: .ref q :: st) μ := by
  intro p e s m args below meth c Qf H locs ls F hS hP hl hE
  obtain ⟨hx, hb, -, -, -, -, -, -, hK, -, -⟩ := id F
  obtain ⟨L, hPL, hD, hL⟩ := id hP
  have hq : q ∈ L := (hL q).mpr (by rw [hT]; exact fun h => by cases h)
  obtain ⟨z, hz0⟩ := va_pl_get (X := []) (f := xcell (gC Γ) μ) hq
  have hz := hz0
  rw [xcell_z hT] at hz
  obtain ⟨h1, h2⟩ := vpin hj hi hn
  refine va_zast hx hb hK hPL hD hS z 1 hz rfl h1 d (fun H1 locs1 hP1 hD1 hS1 => ?_)
  rw [h2, show vp_nar .boolean v = v by rcases hv with rfl | rfl <;> rfl] at hP1 hD1
  refine kk p e s m args below meth c Qf H1 locs1 ls F hS1 (XP_set (μ' := sA μ q i v) hD hL hq hz0 rfl ?_ (fun a ha => xcell_ne rfl rfl rfl rfl (up2_row ha) rfl) hP1 hD1) hl hE
  rw [xcell_z (show mT (sA μ q i v) q = (3, n) from hT)]
  show (Sum.inl (gC Γ 1, n, Sum.inl (up2 (mA μ) q i v q)) : va_E) = _
  rw [upd_up2]
theorem x_alen {q n t : Nat} {v : Int32} (d : decode M.2.1 pc = .ok (.arraylength, 1)) (hT : mT μ q = (t, n)) (ht : t = 2 ∨ t = 3 ∨ t = 4 ∨ t = 5 ∨ t = 6) (hv : nI n = v) (kk : WA Γ M R mc ms cl sl Q (pc + 1) lv (.int v :: st) μ) : WA Γ M R mc ms cl sl Q pc lv (.ref q :: st) μ := by
  intro p e s m args below meth c Qf H locs ls F hS hP hl hE
  obtain ⟨hx, hb, -, -, -, -, -, -, hK, -, -⟩ := id F
  obtain ⟨L, hPL, hD, hL⟩ := id hP
  have hq : q ∈ L := (hL q).mpr (by rw [hT]; rcases ht with h | h | h | h | h <;> rw [h] <;> exact fun h => by cases h)
  obtain ⟨z, hz⟩ := va_pl_get (X := []) (f := xcell (gC Γ) μ) hq
  have k2 := kk p e s m args below meth c Qf H locs ls F hS hP hl hE
  rcases ht with rfl | rfl | rfl | rfl | rfl
  · rw [xcell_i hT] at hz
    exact va_alen hx hb hK hPL z 0 hz rfl hv d k2
  · rw [xcell_z hT] at hz
    exact va_alen hx hb hK hPL z 1 hz rfl hv d k2
  · rw [xcell_x (k := 0) hT] at hz
    exact va_alen hx hb hK hPL z 2 hz rfl hv d k2
  · rw [xcell_x (k := 1) hT] at hz
    exact va_alen hx hb hK hPL z 3 hz rfl hv d k2
  · rw [xcell_x (k := 2) hT] at hz
    exact va_alen hx hb hK hPL z 4 hz rfl hv d k2
theorem x_aald {q n i t a : Nat} {j : Int32} (d : decode M.2.1 pc = .ok (.aaload, 1)) (hT : mT μ q = (t, n)) (ht : t = 4 ∨ t = 5 ∨ t = 6) (hj : j = nI i) (hi : i < n) (hn : n < 2 ^ 31) (ha : mX μ q i = some a) (kk : WA Γ M R mc ms cl sl Q (pc + 1) lv (.ref a :: st) μ) : WA Γ M R mc ms cl sl Q pc lv (.int j :: .ref q :: st) μ := by
  intro p e s m args below meth c Qf H locs ls F hS hP hl hE
  obtain ⟨hx, hb, -, -, -, -, -, -, hK, -, -⟩ := id F
  obtain ⟨L, hPL, hD, hL⟩ := id hP
  have hq : q ∈ L := (hL q).mpr (by rw [hT]; rcases ht with h | h | h <;> rw [h] <;> exact fun h => by cases h)
  obtain ⟨z, hz⟩ := va_pl_get (X := []) (f := xcell (gC Γ) μ) hq
  have k2 := kk p e s m args below meth c Qf H locs ls F hS hP hl hE
  obtain ⟨h1, h2⟩ := vpin hj hi hn
  rcases ht with rfl | rfl | rfl
  · rw [xcell_x (k := 0) hT] at hz
    exact va_aldq hx hb hK hPL z 2 hz rfl h1 d (by rw [h2, ha]; exact k2)
  · rw [xcell_x (k := 1) hT] at hz
    exact va_aldq hx hb hK hPL z 3 hz rfl h1 d (by rw [h2, ha]; exact k2)
  · rw [xcell_x (k := 2) hT] at hz
    exact va_aldq hx hb hK hPL z 4 hz rfl h1 d (by rw [h2, ha]; exact k2)
end XHP
