/-! a text that the class read says what the reference's text says -/
def cD (σ : MS) (f n : Nat) (c : CT) : CT := cX σ f n (-23) (cPt σ f n 41 (-19 - nI 2) (cPt σ f n 41 (-19 - nI 1) (cPt σ f n 41 (-19 - nI 0) (cA σ f n (c00 c)))))
/-- the class's text o (tn codes) is what it read from the letters that the reference has from f on -/
def TR (σ : MS) (f n : Nat) (κ : KS) (o tn : Nat) : Prop := ∃ c : CT, (cX σ f n (-23) (rc σ f n c 3)).2.2.2.2.1 = -1 ∧ (cX σ f n (-23) (rc σ f n c 3)).2.2.2.2.2.1 = tn ∧ (∀ j, j < tn → κ.2 o 0 j = (cX σ f n (-23) (rc σ f n c 3)).2.2.2.2.2.2 j) ∧ ∀ i, i < 3 → κ.2 o 1 i = nI (rs σ f n c i)
section M992
variable {σ τ : MS} {f g n : Nat}
theorem cD_rc (c : CT) : cX σ f n (-23) (rc σ f n c 3) = cD σ f n c := by
  unfold cD rc rc rc rc
  rw [NN_eq]
theorem tRn_cg {e cd ce : Nat → Int32} : ∀ (k i : Nat) (S : List Int32), (∀ j, i ≤ j → j < i + k → cd j = ce j) → tRn e cd k i S = tRn e ce k i S
  | 0, _, _, _ => rfl
  | k + 1, i, S, h => by
    rw [tRn, tRn, h i (Nat.le_refl i) (by omega)]
    split
    · rfl
    · exact tRn_cg k (i + 1) _ (fun j h1 h2 => h j (by omega) (by omega))
/-- the letters of one text, whatever the names -/
theorem bA_sE {s : MS} {r : Nat} {a1 a2 a3 a4 a5 a6 : Int32} (h : s.2.2 1 = σ.2.2 1) (m : Nat) : bA (sB (sE s a1 a2 a3 a4 a5 a6) r (nI m)) r m = bA σ r m := by
  funext i
  unfold bA
  show (if i < m then s.2.2 1 (r + i) else -1) = _
  rw [h]
theorem rlO_in {r : Nat} (h : rlO σ r n) : n ≤ 160 ∧ 160 * r + n ≤ 960 := by
  obtain ⟨-, h1, -, h2, -⟩ := h
  omega
theorem rlO_rd {s : MS} {r : Nat} {a1 a2 a3 a4 a5 a6 : Int32} (hr : rlO σ r n) (h : s.2.2 1 = σ.2.2 1) : rdO (sB (sE s a1 a2 a3 a4 a5 a6) (160 * r) (nI n)) (160 * r) n :=
  ⟨rfl, rfl, (rlO_in hr).1, (rlO_in hr).2, fun i hi => by
    show ∃ c, c < 256 ∧ s.2.2 1 (160 * r + i) = nI c
    rw [h]
    exact hr.2.2.2.2 i hi⟩
/-- a text that was read without fault has none, whatever the names -/
theorem rdE_cg {c : CT} {tk ta ft : Nat} {tw : Int64} (hO : rdO τ g n) (h : bA σ f n = bA τ g n) (hf : (cX σ f n (-23) (rc σ f n c 3)).2.2.2.2.1 = -1) : pbd (rdE τ g n (0, tk, ta, tw, 0, 0, ft)) = 0 := by
  rw [rc_cg h, cX_cg h] at hf
  exact Decidable.byContradiction (fun z => ((rd_sim hO).2 z).1 hf)
theorem tR_says {κ : KS} {r o tn t i part : Nat} {pl gs : Int32} {s : MS} {tk ta ft : Nat} (hr : rlO σ r n) (hT : TR σ (160 * r) n κ o tn) (hp : part < 3) (hs : s.2.2 1 = σ.2.2 1) (h1 : κ.1 t 1 = nI i) (h2 : κ.1 t 2 = σ.2.2 11 i) (h3 : κ.1 t 3 = σ.2.2 12 i) (h4 : κ.1 t 4 = σ.2.2 13 i) : tVal κ o tn t part pl gs = wit (rdV (sB (sE s (nI i) pl (σ.2.2 12 i) gs (σ.2.2 13 i) (σ.2.2 11 i)) (160 * r) (nI n)) (160 * r) n (0, tk, ta, s.2.1, 0, 0, ft) (nI part)) 0 99 := by
  obtain ⟨c, c1, c2, c3, c4⟩ := hT
  have hO := rlO_rd (a1 := nI i) (a2 := pl) (a3 := σ.2.2 12 i) (a4 := gs) (a5 := σ.2.2 13 i) (a6 := σ.2.2 11 i) hr hs
  have hb := (bA_sE (σ := σ) (r := 160 * r) (a1 := nI i) (a2 := pl) (a3 := σ.2.2 12 i) (a4 := gs) (a5 := σ.2.2 13 i) (a6 := σ.2.2 11 i) hs n).symm
  have hE := rdE_cg (tk := tk) (ta := ta) (ft := ft) (tw := s.2.1) hO hb c1
  have S := rd_sim (c := c) (tk := tk) (ta := ta) (ft := ft) (tw := s.2.1) hO
  obtain ⟨-, s2, s3⟩ := S.1 hE
  have s3 := s3 part hp
  rw [← rc_cg hb, ← cX_cg hb, ← rs_cg hb] at s3
  rw [← rc_cg hb, ← cX_cg hb] at s2
  have hle : rs σ (160 * r) n c part < tn := by
    obtain ⟨m, m1, m2, -⟩ := s3
    omega
  have run := s3.run
  rw [c2] at run
  have en : tEn κ t pl gs = eN (sB (sE s (nI i) pl (σ.2.2 12 i) gs (σ.2.2 13 i) (σ.2.2 11 i)) (160 * r) (nI n)) := by
    funext j
    show (if j = 0 then κ.1 t 1 else if j = 1 then pl else if j = 2 then κ.1 t 3 else if j = 3 then gs else if j = 4 then κ.1 t 4 else κ.1 t 2) = (if j = 0 then nI i else if j = 1 then pl else if j = 2 then σ.2.2 12 i else if j = 3 then gs else if j = 4 then σ.2.2 13 i else σ.2.2 11 i)
    rw [h1, h2, h3, h4]
  unfold tVal
  rw [c4 part hp, nn_nI (by omega), en, tRn_cg (cd := κ.2 o 0) _ _ [] (fun j j1 j2 => c3 j (by omega)), run]
  rfl
theorem TR_SV {κ : KS} {r o tn t i part : Nat} {pl gs : Int32} (hr : rlO σ r n) (hT : TR σ (160 * r) n κ o tn) (hp : part < 3) (h1 : κ.1 t 1 = nI i) (h2 : κ.1 t 2 = σ.2.2 11 i) (h3 : κ.1 t 3 = σ.2.2 12 i) (h4 : κ.1 t 4 = σ.2.2 13 i) : SV σ r n (nI part) i pl gs (tVal κ o tn t part pl gs) :=
  ⟨σ, 0, 0, 0, rfl, tR_says hr hT hp rfl h1 h2 h3 h4⟩
theorem TV_of {κ : KS} {r o tn t i N : Nat} {D : PD} (hr : rlO σ r n) (hT : TR σ (160 * r) n κ o tn) (hi : i < N) (hD : TD σ r n D N) (h1 : κ.1 t 1 = nI i) (h2 : κ.1 t 2 = σ.2.2 11 i) (h3 : κ.1 t 3 = σ.2.2 12 i) (h4 : κ.1 t 4 = σ.2.2 13 i) : TV κ o tn t D i := by
  obtain ⟨d1, d2⟩ := hD i hi
  refine ⟨fun s hs => ⟨(d1 s hs).1 _ (TR_SV (part := 0) hr hT (by decide) h1 h2 h3 h4), fun hs0 => ?_⟩, ?_, fun c hc => d2 c hc _ (TR_SV (part := 2) hr hT (by decide) h1 h2 h3 h4)⟩
  · have e := (d1 s hs).2
    rw [if_neg hs0] at e
    exact e _ (TR_SV (part := 1) hr hT (by decide) h1 h2 h3 h4)
  · have e := (d1 0 (by decide)).2
    rw [if_pos rfl] at e
    exact e
end M992
