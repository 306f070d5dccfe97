theorem whole_start {p : Program} {e : Env} {s : State} {m : MethodId} {below : List Frame} {meth : Method} {c : Code} (l : Launch) (hflags : l.flags = flags0) {b L : Nat} {xs : Nat → Int32} (hL : L ≤ 3072) (C0 : lw_At p s m meth c b L xs) : W p l e room_1 s m #[Value.ref b] below meth c s.heap [] 0 0 (lw_Z below #[Value.ref b] s) (entryFrame m ([Value.ref b] : List Value).toArray 4) := by
  obtain ⟨hx, hb, hr, hml, hown, hts, hX, hbl, hlocks, hgv⟩ := id C0
  have hg : nwC1.before #[Value.ref b] s = true := hgv
  have htg : ∀ w ∈ gT, w.before #[Value.ref b] s = true := fun w hw => hts w (gt_sub hw)
  obtain ⟨D, hD⟩ := K_cls htg
  obtain ⟨gc, hgc⟩ := K_tys hts
  have hA : ∀ a : Nat, a < s.heap.size → ¬ (fun q : Nat => s.heap.size ≤ q) a := fun a ha => Nat.not_le.mpr ha
  obtain ⟨adK, adV, hS, hE⟩ := S_s hts hg hA
  have hcs : (Term.static "java/lang/String" "COMPACT_STRINGS" "Z").eval #[Value.ref b] s none [] s = some (.int 1) := va_eqv (u := .int 1) (flat_of_before _ hg _ (by decide +kernel)) rfl
  refine LZ (Γ := (l, D, gc, s.heap.size, adK, adV)) hL rfl ⟨hx, hb, hml, hr, hlocks, rfl, hown, htg, ⟨hD, hgc⟩, Nat.le_refl _, hS, fun i hi => vk_R.of (hts _ (S_rf i hi)) (hE i hi), va_Zof (hts _ (tw 323 (by decide +kernel))) (hts _ (tw 77 (by decide +kernel))) hcs hA, nest_s hts, AO_k hts, cast_s hts, castN_s hg, priv_s hts, AO_I (hts _ (tw 254 (by decide +kernel))), Zq_s hts hg hA⟩ hX hbl XP_0
