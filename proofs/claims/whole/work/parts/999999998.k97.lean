/-! the start: what the statement gives -/
section K97
variable {s : State} {args : Array Value} {A : Nat → Prop}
abbrev nwC1 : Cond := Jvm.Cond.and given_1 narrow_1
theorem priv_s (hts : ∀ w ∈ lw_tbl, w.before args s = true) : s.PrivateAt pvT := Cond.privateMethod_at (hts _ (tw 767 (by decide +kernel)))
theorem castN_in : ∀ x ∈ castN, Cond.not (.castable x.1 x.2) ∈ flatC nwC1 := by decide +kernel
theorem castN_s (hg : nwC1.before args s = true) : ∀ x ∈ castN, va_Nc x.1 x.2 s := fun x hx => va_Nc.of (flat_of_before _ hg _ (castN_in x hx))
theorem Zq_s (hts : ∀ w ∈ lw_tbl, w.before args s = true) (hg : nwC1.before args s = true) (hA : ∀ a : Nat, a < s.heap.size → ¬ A a) : va_Zq "jdk/internal/util/Preconditions" "SIOOBE_FORMATTER" "Ljava/util/function/BiFunction;" A s s.heap := va_Zqof (hts _ (tw 339 (by decide +kernel))) (hts _ (tw 79 (by decide +kernel))) (flat_of_before _ hg _ (by decide +kernel)) hA
abbrev tmS : Nat → Term := fun i => .string (sOwn i) (sIdx i)
theorem S_ex : ∀ i, i < 13 → Cond.exactly (tmS i) "java/lang/String" ∈ flatC nwC1 := by decide +kernel
theorem S_co : ∀ i, i < 13 → Cond.eq (.field (tmS i) "java/lang/String" "coder" "B") (.int 0) ∈ flatC nwC1 := by decide +kernel
theorem S_ar : ∀ i, i < 13 → Cond.arrayOf (.field (tmS i) "java/lang/String" "value" "[B") .byte ∈ flatC nwC1 := by decide +kernel
theorem S_le : ∀ i, i < 13 → Cond.eq (.length (.field (tmS i) "java/lang/String" "value" "[B")) (.int (Int32.ofNat (sLen.getD i 0))) ∈ flatC nwC1 := by decide +kernel
theorem S_el : ∀ i, i < 13 → ∀ j, j < sLen.getD i 0 → Cond.eq (.elem (.field (tmS i) "java/lang/String" "value" "[B") (.int (Int32.ofNat j))) (.int ((sByt.getD i []).getD j 0)) ∈ flatC nwC1 := by decide +kernel
theorem S_rf : ∀ i, i < 13 → Cond.stringRef (sOwn i) (sIdx i) (sTx i) ∈ lw_tbl := by
  intro i hi
  rcases (by omega : i = 0 ∨ i = 1 ∨ i = 2 ∨ i = 3 ∨ i = 4 ∨ i = 5 ∨ i = 6 ∨ i = 7 ∨ i = 8 ∨ i = 9 ∨ i = 10 ∨ i = 11 ∨ i = 12) with rfl | rfl | rfl | rfl | rfl | rfl | rfl | rfl | rfl | rfl | rfl | rfl | rfl
  · exact tw 313 (by decide +kernel)
  · exact tw 381 (by decide +kernel)
  · exact tw 388 (by decide +kernel)
  · exact tw 389 (by decide +kernel)
  · exact tw 390 (by decide +kernel)
  · exact tw 391 (by decide +kernel)
  · exact tw 392 (by decide +kernel)
  · exact tw 397 (by decide +kernel)
  · exact tw 398 (by decide +kernel)
  · exact tw 399 (by decide +kernel)
  · exact tw 400 (by decide +kernel)
  · exact tw 401 (by decide +kernel)
  · exact tw 402 (by decide +kernel)
end K97
