/-! an object into a row of objects -/
section M9993
variable {Γ : Gm} {M : Mt} {R : Room} {mc ms cl sl : Nat} {Q : Option Value → Mem → Prop} {pc : Nat} {lv : List (Option Value)} {st : List Value} {μ : Mem}
theorem up2_va {α : Type} {f : Nat → Nat → α} {q i : Nat} {v : α} : up2 f q i v q = va_up (f q) i v := by
  funext j
  unfold up2 va_up
  by_cases hj : j = i <;> simp [hj]
theorem xtys_k {k : Nat} (hk : k < 3) : (xtys Γ)[k + 2]? = some (gC Γ (k + 2), .object (xRC k)) := by
  rcases (by omega : k = 0 ∨ k = 1 ∨ k = 2) with rfl | rfl | rfl <;> rfl
theorem x_aast {q n i k v ci : Nat} {j : Int32} (d : decode M.2.1 pc = .ok (.aastore, 1)) (hk : k < 3) (hT : mT μ q = (k + 4, n)) (hv : mT μ v = (1, ci)) (hci : ci < 13) (hcast : xC ci = xRC k ∨ (xC ci, xRC k) ∈ castY) (hj : j = nI i) (hi : i < n) (hn : n < 2 ^ 31) (kk : WA Γ M R mc ms cl sl Q (pc + 1) lv st (sX μ q i (some v))) : WA Γ M R mc ms cl sl Q pc lv (.ref v :: .int j :: .ref q :: st) μ := by
  intro p e s m args below meth c Qf H locs ls F hS hP hl hE
  obtain ⟨hx, hb, -, -, -, -, -, -, hK, -, hSE⟩ := id F
  obtain ⟨L, hPL, hD, hL⟩ := id hP
  have hq : q ∈ L := (hL q).mpr (by rw [hT]; exact fun h => by cases h)
  have hvL : v ∈ L := (hL v).mpr (by rw [hv]; exact fun h => by cases h)
  obtain ⟨z, hz0⟩ := va_pl_get (X := []) (f := xcell (gC Γ) μ) hq
  have hz := hz0
  rw [xcell_x hT] at hz
  obtain ⟨zv, hzv⟩ := va_pl_get (X := []) (f := xcell (gC Γ) μ) hvL
  rw [xcell_o hv] at hzv
  obtain ⟨h1, h2⟩ := vpin hj hi hn
  have fin : ∀ (H1 : Heap) (locs1 : List Loc), va_P (gD Γ) vwCl ((va_pl L (xcell (gC Γ) μ)).set z (q, .inl (gC Γ (k + 2), n, .inr (.inr (.inr (.inr (va_up (mX μ q) j.toNatClampNeg (some v)))))))) H1 → va_D (gA Γ) ((va_pl L (xcell (gC Γ) μ)).set z (q, .inl (gC Γ (k + 2), n, .inr (.inr (.inr (.inr (va_up (mX μ q) j.toNatClampNeg (some v)))))))) → va_S (gA Γ) s.heap H1 locs1 → W p (gL Γ) e R s m args below meth c H1 locs1 cl sl Qf (F0 m (pc + 1) ls st) := by
    intro H1 locs1 hP1 hD1 hS1
    rw [h2] at hP1 hD1
    refine kk p e s m args below meth c Qf H1 locs1 ls F hS1 (XP_set (μ' := sX μ q i (some v)) hD hL hq hz0 rfl ?_ (fun a ha => xcell_ne rfl rfl rfl rfl rfl (up2_row ha)) hP1 hD1) hl hE
    rw [xcell_x (show mT (sX μ q i (some v)) q = (k + 4, n) from hT)]
    show (Sum.inl (gC Γ (k + 2), n, .inr (.inr (.inr (.inr (up2 (mX μ) q i (some v) q))))) : va_E) = _
    rw [up2_va]
  rcases hcast with h | h
  · exact va_astq hx hb hK hPL hD hS z (k + 2) zv ci hz (by rw [xtys_k hk, ← h]) hzv (x_cl hci) h1 d fin
  · exact va_astqO (E := xRC k) hx hb hK hPL hD hS z (k + 2) zv ci hz (xtys_k hk) (hSE.2.2.2.2.2.1 (xC ci, xRC k) h) hzv (x_cl hci) h1 d fin
end M9993
