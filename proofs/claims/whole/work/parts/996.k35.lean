/-! a row of ints is copied -/
section M996
variable {Γ : Gm} {M : Mt} {R : Room} {mc ms cl sl : Nat} {Q : Option Value → Mem → Prop} {pc : Nat} {lv : List (Option Value)} {st : List Value} {μ : Mem}
/-- a new row of ints at q: f -/
def nwC (μ : Mem) (q n : Nat) (f : Nat → Int32) : Mem := (va_up μ.1 q (2, n), va_up μ.2.1 q (fun _ => 0), va_up μ.2.2.1 q (fun _ => 0), va_up μ.2.2.2.1 q (fun _ => none), va_up μ.2.2.2.2.1 q f, va_up μ.2.2.2.2.2 q (fun _ => none))
theorem nwC_T {q n : Nat} {f : Nat → Int32} : mT (nwC μ q n f) q = (2, n) := va_up_s
theorem nwC_A {q n : Nat} {f : Nat → Int32} : mA (nwC μ q n f) q = f := va_up_s
theorem XP_pushC {H1 : Heap} {L : List Nat} {q n : Nat} {f : Nat → Int32} {e : va_E} (hL : ∀ q, q ∈ L ↔ (mT μ q).1 ≠ 0) (he : xcell (gC Γ) (nwC μ q n f) q = e)
    (hP1 : va_P (gD Γ) vwCl (va_pl L (xcell (gC Γ) μ) ++ [(q, e)]) H1) (hD1 : va_D (gA Γ) (va_pl L (xcell (gC Γ) μ) ++ [(q, e)])) : (mT μ q).1 = 0 ∧ XP Γ (nwC μ q n f) H1 := by
  have hq : q ∉ L := va_pl_fresh2 (X := []) hD1
  rw [va_pl_push hq] at hP1 hD1
  have h2 : va_pl (L ++ [q]) (va_up (xcell (gC Γ) μ) q e) = va_pl (L ++ [q]) (xcell (gC Γ) (nwC μ q n f)) := va_pl_congr (fun a => by
    by_cases ha : a = q
    · rw [ha, va_up_s, he]
    · rw [va_up_n ha]
      exact (xcell_ne (μ := μ) (μ' := nwC μ q n f) (va_up_n ha) (va_up_n ha) (va_up_n ha) (va_up_n ha) (va_up_n ha) (va_up_n ha)).symm)
  rw [h2] at hP1 hD1
  refine ⟨?_, L ++ [q], hP1, hD1, fun a => ?_⟩
  · rcases Nat.eq_zero_or_pos (mT μ q).1 with h | h
    · exact h
    · exact absurd ((hL q).mpr (by omega)) hq
  · rw [List.mem_append]
    by_cases ha : a = q
    · subst ha
      rw [nwC_T]
      simp
    · rw [show mT (nwC μ q n f) a = mT μ a from va_up_n ha, ← hL a]
      simp [ha]
theorem wc_same : Cond.sameMethod "[I" "java/lang/Object" "clone" "()Ljava/lang/Object;" ∈ gT := gt_of 467 (by decide +kernel) rfl
theorem wc_nat : Cond.native ⟨"java/lang/Object", "clone", "()Ljava/lang/Object;"⟩ ∈ gT := gt_of 468 (by decide +kernel) rfl
theorem wc_inst : Cond.instanceMethod ⟨"java/lang/Object", "clone", "()Ljava/lang/Object;"⟩ ∈ gT := gt_of 469 (by decide +kernel) rfl
theorem wc_sel : Cond.selects "[I" ⟨"[I", "clone", "()Ljava/lang/Object;"⟩ ⟨"java/lang/Object", "clone", "()Ljava/lang/Object;"⟩ ∈ gT := gt_of 470 (by decide +kernel) rfl
theorem lw_J7_316 : Cond.methodLink "java/util/Arrays" 316 ⟨"[I", "clone", "()Ljava/lang/Object;"⟩ ∈ gT := gt_of 466 (by decide +kernel) rfl
theorem lw_J7_304 : Cond.methodLink "java/util/Arrays" 304 Lib.Math.min.name ∈ gT := gt_of 473 (by decide +kernel) rfl
theorem lw_J7_150 : Cond.methodLink "java/util/Arrays" 150 arraycopyName ∈ gT := gt_of 476 (by decide +kernel) rfl
theorem kl_J7_317 : Cond.classLink "java/util/Arrays" 317 "[I" ∈ gT := gt_of 472 (by decide +kernel) rfl
theorem x_clone {idx q N : Nat} (d : decode M.2.1 pc = .ok (.invokevirtual idx, 3)) (hw : Cond.methodLink M.1.cls idx ⟨"[I", "clone", "()Ljava/lang/Object;"⟩ ∈ gT) (hT : mT μ q = (2, N)) (hR : 1 ≤ R.frames ∧ 64 ≤ R.locals) (hws : (st.map fun v => v.category).sum ≤ 8) (hcs : cl + 1 ≤ R.cells ∧ sl + N ≤ R.slots) (kk : ∀ q2, (mT μ q2).1 = 0 → WA Γ M R mc ms (cl + 1) (sl + N) Q (pc + 3) lv (.ref q2 :: st) (nwC μ q2 N (mA μ q))) : WA Γ M R mc ms cl sl Q pc lv (.ref q :: st) μ := by
  intro p e s m args below meth c Qf H locs ls F hS hP hl hE
  obtain ⟨hx, hb, hml, -, -, -, hown, hts, hK, hB, hSE⟩ := id F
  obtain ⟨L, hPL, hD, hL⟩ := id hP
  have hqa : q ∈ L := (hL q).mpr (by rw [hT]; exact fun h => by cases h)
  obtain ⟨za, hza⟩ := va_pl_get (X := []) (f := xcell (gC Γ) μ) hqa
  rw [xcell_i hT] at hza
  refine va_clone (x := (N, .inl (mA μ q))) (ty := .int) hx hb (by rw [hml, hl.1]) hown (hts _ hw) (hts _ wc_same) (hts _ wc_nat) (hts _ wc_inst) (hts _ wc_sel) (hSE.2.2.2.2.2.1 ("[I", "java/lang/Cloneable") (by decide)) hK hPL hD hS (fun y hy => Nat.le_trans hB hy) za 0 hza rfl (va_nm_int (hK.2 0 (gC Γ 0, .int) rfl).2) (va_fit (F := fun j => .int (mA μ q j)) (fun i _ => rfl)) hR.1 (by omega) hcs.1 hcs.2 d (fun q2 H1 hK1 hP1 hD1 hS1 => ?_)
  obtain ⟨g1, g2⟩ := XP_pushC (n := N) (f := mA μ q) hL (by rw [xcell_i nwC_T, nwC_A]) hP1 hD1
  exact kk q2 g1 p e s m args below meth c Qf H1 locs ls F hS1 g2 hl hE
theorem x_castI {idx q N : Nat} (d : decode M.2.1 pc = .ok (.checkcast idx, 3)) (hw : Cond.classLink M.1.cls idx "[I" ∈ gT) (hT : mT μ q = (2, N)) (kk : WA Γ M R mc ms cl sl Q (pc + 3) lv (.ref q :: st) μ) : WA Γ M R mc ms cl sl Q pc lv (.ref q :: st) μ := by
  intro p e s m args below meth c Qf H locs ls F hS hP hl hE
  obtain ⟨hx, hb, hml, -, -, -, hown, hts, hK, hB, hSE⟩ := id F
  obtain ⟨L, hPL, hD, hL⟩ := id hP
  have hqa : q ∈ L := (hL q).mpr (by rw [hT]; exact fun h => by cases h)
  obtain ⟨za, hza⟩ := va_pl_get (X := []) (f := xcell (gC Γ) μ) hqa
  rw [xcell_i hT] at hza
  exact va_castA hx hb hown (hts _ hw) hPL za hza (va_nm_int (hK.2 0 (gC Γ 0, .int) rfl).2) d (kk p e s m args below meth c Qf H locs ls F hS hP hl hE)
theorem c_copyOf {q na N : Nat} (hT : mT μ q = (2, na)) (hN : N ≤ na) (hna : na < 2 ^ 31) (hN2 : N ≤ 100000) : XM Γ zJ7_copyOf_59c91 1 1 N [.ref q, .int (nI N)] μ (fun r μ2 => ∃ (q2 : Nat) (f : Nat → Int32), r = some (.ref q2) ∧ (mT μ q2).1 = 0 ∧ (∀ k, k < N → f k = mA μ q k) ∧ μ2 = nwC μ q2 N f) := by
  refine XM.of 1 rfl (by decide) (Nat.le_of_ble_eq_true rfl) ?_
  refine x_iload_n (pc := 0) dJ7_copyOf_59c91_0 rfl ?_
  refine x_aload_n (pc := 1) dJ7_copyOf_59c91_1 rfl ?_
  refine x_alen (pc := 2) dJ7_copyOf_59c91_2 hT (Or.inl rfl) rfl ?_
  refine x_icmp_ne (pc := 3) (tgt := 14) dJ7_copyOf_59c91_3 rfl (fun h_3 => ?_) (fun h_3 => ?_)
  · have hlt : N < na := by
      rcases Nat.lt_or_ge N na with z | z
      · exact z
      · exact absurd (by rw [show N = na by omega]) h_3
    refine x_iload_n (pc := 14) dJ7_copyOf_59c91_14 rfl ?_
    refine x_newI (pc := 15) (N := N) dJ7_copyOf_59c91_15 ka_int rfl hN2 ⟨by show 0 + 1 ≤ 1; omega, by show 0 + N ≤ N; omega⟩ (fun q2 hq2 => ?_)
    have hne : q ≠ q2 := fun z => by rw [← z, hT] at hq2; cases hq2
    refine x_astore_n (pc := 17) (lv2 := [_, _, _]) dJ7_copyOf_59c91_17 (by decide) rfl rfl ?_
    refine x_aload_n (pc := 18) dJ7_copyOf_59c91_18 rfl ?_
    refine x_iconst (pc := 19) (v := 0) dJ7_copyOf_59c91_19 rfl ?_
    refine x_aload_n (pc := 20) dJ7_copyOf_59c91_20 rfl ?_
    refine x_iconst (pc := 21) (v := 0) dJ7_copyOf_59c91_21 rfl ?_
    refine x_aload_n (pc := 22) dJ7_copyOf_59c91_22 rfl ?_
    refine x_alen (pc := 23) dJ7_copyOf_59c91_23 (show mT (nw μ q2 2 N) q = (2, na) from (nw_Tn hne).trans hT) (Or.inl rfl) rfl ?_
    refine x_iload_n (pc := 24) dJ7_copyOf_59c91_24 rfl ?_
    refine x_mmin (pc := 25) dJ7_copyOf_59c91_25 lw_J7_304 (Nat.le_of_ble_eq_true rfl) ⟨Nat.le_refl 1, Nat.le_refl 64⟩ ⟨by show 0 + 1 ≤ 1; omega, by show 0 + N ≤ N; omega⟩ ?_
    rw [if_pos (nI_lt hlt hna)]
    refine x_copy (pc := 28) (i := 0) (j := 0) (n := N) dJ7_copyOf_59c91_28 lw_J7_150 wa_nat wa_st w_System ((nw_Tn hne).trans hT) nw_T rfl rfl rfl (by omega) (by omega) hna (by omega) ⟨Nat.le_refl 1, Nat.le_refl 64⟩ (by decide) ?_
    refine x_aload_n (pc := 31) dJ7_copyOf_59c91_31 rfl ?_
    have e1 : cpA (nw μ q2 2 N) q q2 0 0 N = nwC μ q2 N (va_cpy (mA μ q) (fun _ => 0) 0 0 N) := by
      unfold cpA nw nwC
      refine congrArg (Prod.mk _) (congrArg (Prod.mk _) (congrArg (Prod.mk _) (congrArg (Prod.mk _) (congrArg (fun z => (z, _)) ?_))))
      funext a
      show va_up (va_up μ.2.2.2.2.1 q2 (fun _ => 0)) q2 (va_cpy (va_up μ.2.2.2.2.1 q2 (fun _ => 0) q) (va_up μ.2.2.2.2.1 q2 (fun _ => 0) q2) 0 0 N) a = va_up μ.2.2.2.2.1 q2 (va_cpy (mA μ q) (fun _ => 0) 0 0 N) a
      rw [va_up_s, va_up_n hne]
      by_cases ha : a = q2
      · rw [ha, va_up_s, va_up_s]
        rfl
      · rw [va_up_n ha, va_up_n ha, va_up_n ha]
    rw [e1]
    rw [Nat.zero_add N]
    refine x_areturn (pc := 32) dJ7_copyOf_59c91_32 (t := .array .int) rfl (Or.inr ⟨.int, rfl⟩) ?_
    refine ⟨q2, _, rfl, hq2, fun k hk => ?_, rfl⟩
    unfold va_cpy
    rw [if_pos (by omega)]
    congr 1
    omega
  · have e : N = na := by
      exact (nI_eq (by omega) hna).mp (by first | exact h_3 | exact Decidable.not_not.mp h_3)
    subst e
    refine x_aload_n (pc := 6) dJ7_copyOf_59c91_6 rfl ?_
    refine x_clone (pc := 7) dJ7_copyOf_59c91_7 lw_J7_316 hT ⟨Nat.le_refl 1, Nat.le_refl 64⟩ (by decide) ⟨by show 0 + 1 ≤ 1; omega, by show 0 + N ≤ N; omega⟩ (fun q2 hq2 => ?_)
    refine x_castI (pc := 10) dJ7_copyOf_59c91_10 kl_J7_317 nwC_T ?_
    rw [Nat.zero_add N]
    refine x_areturn (pc := 13) dJ7_copyOf_59c91_13 (t := .array .int) rfl (Or.inr ⟨.int, rfl⟩) ?_
    exact ⟨q2, _, rfl, hq2, fun k hk => rfl, rfl⟩
end M996
