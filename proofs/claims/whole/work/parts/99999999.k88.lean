/-! both in one memory -/
def AP (μ : Mem) (b : Kb) (a : Ma) : Prop := (25 ≤ ivO b a.1 ∧ 25 ≤ (ivR b a.1).1) ∧ ∀ q, a.2.2 q < 56 → (mT μ q).1 ≠ 0 ∧ 25 ≤ ivO b q ∧ 25 ≤ (ivR b q).1
/-- the class at x0 and the reference at a, alike -/
def LJ (M : Mem) (x0 : Nat) (a : Ma) : Prop := ∃ (μ : Mem) (σ : MS) (b : Kb) (κ : KS) (kd : Nat → Nat) (kp : Bool) (n nt : Nat) (tn : Nat → Nat), M = KV (MV μ a σ) b κ ∧ CI μ b kd kp 4 nt tn ∧ MOK μ a ∧ AP μ b a ∧ BRe σ κ kd kp n nt tn ∧ adO b 0 = x0
section M99999999
variable {Γ : Gm} {M : Mem} {x0 : Nat} {a : Ma} {μ μ2 : Mem} {b b2 : Kb} {κ κ2 : KS} {σ : MS}
theorem KM (h : AP μ b a) : KV (MV μ2 a σ) b κ = MV (KV μ2 b κ) a σ := by
  obtain ⟨⟨h1, h2⟩, h3⟩ := h
  have e1 : (fun q k => if ivO b q < 25 then κ.1 (ivO b q) k else (if q = a.1 then σ.1 k else mI μ2 q k)) = (fun q k => if q = a.1 then σ.1 k else (if ivO b q < 25 then κ.1 (ivO b q) k else mI μ2 q k)) := by
    funext q k
    by_cases hq : q = a.1
    · rw [if_pos hq, if_pos hq, if_neg (by rw [hq]; omega)]
    · rw [if_neg hq, if_neg hq]
  have e2 : (fun q i => if (ivR b q).1 < 25 then κ.2 (ivR b q).1 (ivR b q).2 i else (if a.2.2 q < 56 then σ.2.2 (a.2.2 q) i else mA μ2 q i)) = (fun q i => if a.2.2 q < 56 then σ.2.2 (a.2.2 q) i else (if (ivR b q).1 < 25 then κ.2 (ivR b q).1 (ivR b q).2 i else mA μ2 q i)) := by
    funext q i
    by_cases hq : a.2.2 q < 56
    · rw [if_pos hq, if_pos hq, if_neg (by have := (h3 q hq).2.2; omega)]
    · rw [if_neg hq, if_neg hq]
  show (μ2.1, (fun q k => if ivO b q < 25 then κ.1 (ivO b q) k else (if q = a.1 then σ.1 k else mI μ2 q k)), (fun q k => if q = a.1 ∧ k = 27 then σ.2.1 else mJ μ2 q k), μ2.2.2.2.1, (fun q i => if (ivR b q).1 < 25 then κ.2 (ivR b q).1 (ivR b q).2 i else (if a.2.2 q < 56 then σ.2.2 (a.2.2 q) i else mA μ2 q i)), μ2.2.2.2.2.2) = _
  rw [e1, e2]
  rfl
theorem MV_id (h1 : mI μ a.1 = σ.1) (h2 : mJ μ a.1 27 = σ.2.1) (h3 : ∀ q, a.2.2 q < 56 → mA μ q = σ.2.2 (a.2.2 q)) : MV μ a σ = μ := by
  have e1 : (fun q k => if q = a.1 then σ.1 k else mI μ q k) = μ.2.1 := by
    funext q k
    by_cases hq : q = a.1
    · rw [if_pos hq, hq, ← h1]
      rfl
    · rw [if_neg hq]
      rfl
  have e2 : (fun q k => if q = a.1 ∧ k = 27 then σ.2.1 else mJ μ q k) = μ.2.2.1 := by
    funext q k
    by_cases hq : q = a.1 ∧ k = 27
    · rw [if_pos hq, hq.1, hq.2, ← h2]
      rfl
    · rw [if_neg hq]
      rfl
  have e3 : (fun q i => if a.2.2 q < 56 then σ.2.2 (a.2.2 q) i else mA μ q i) = μ.2.2.2.2.1 := by
    funext q i
    by_cases hq : a.2.2 q < 56
    · rw [if_pos hq, ← h3 q hq]
      rfl
    · rw [if_neg hq]
      rfl
  unfold MV
  rw [e1, e2, e3]
/-- after a call of the class the reference is as it was -/
theorem FO_ref (hM : MOK μ a) (hA : AP μ b a) (h : FO (MV μ a σ) b κ μ2 b2 κ2) : KV μ2 b2 κ2 = KV (MV μ2 a σ) b2 κ2 ∧ MOK μ2 a ∧ AP μ2 b2 a := by
  have hA0 := hA
  obtain ⟨⟨h1, h2⟩, h3⟩ := hA
  have ha : (mT (MV μ a σ) a.1).1 ≠ 0 := by
    show (mT μ a.1).1 ≠ 0
    rw [hM.1]
    decide
  obtain ⟨s1, s2, s3⟩ := h a.1 ha h1 h2
  have hq : ∀ q, a.2.2 q < 56 → same (KV (MV μ a σ) b κ) (KV μ2 b2 κ2) q ∧ 25 ≤ ivO b2 q ∧ 25 ≤ (ivR b2 q).1 := fun q hq => h q (h3 q hq).1 (h3 q hq).2.1 (h3 q hq).2.2
  have hA2 : AP μ2 b2 a := ⟨⟨s2, s3⟩, fun q hq' => ⟨by
    have e : mT μ2 q = mT μ q := (hq q hq').1.1
    rw [e]
    exact (h3 q hq').1, (hq q hq').2⟩⟩
  refine ⟨?_, ?_, hA2⟩
  · rw [KM (μ2 := μ2) (σ := σ) (κ := κ2) hA2]
    refine (MV_id ?_ ?_ (fun q hq' => ?_)).symm
    · refine s1.2.1.trans ?_
      rw [KM hA0]
      show (fun k => if a.1 = a.1 then σ.1 k else _) = σ.1
      funext k
      rw [if_pos rfl]
    · refine (congrFun s1.2.2.1 27).trans ?_
      show (if a.1 = a.1 ∧ 27 = 27 then σ.2.1 else _) = σ.2.1
      rw [if_pos ⟨rfl, rfl⟩]
    · refine (hq q hq').1.2.2.2.2.1.trans ?_
      rw [KM hA0]
      show (fun i => if a.2.2 q < 56 then σ.2.2 (a.2.2 q) i else _) = σ.2.2 (a.2.2 q)
      funext i
      rw [if_pos hq']
  · obtain ⟨m1, m2, m3, m4⟩ := hM
    have eT : ∀ k, k < 56 → a.2.2 (a.2.1 k) = k → mT μ2 (a.2.1 k) = mT μ (a.2.1 k) := fun k hk e => (hq (a.2.1 k) (by rw [e]; exact hk)).1.1
    have eR : ∀ k, mR μ2 a.1 k = mR μ a.1 k := fun k => congrFun s1.2.2.2.1 k
    have e0 : mT μ2 a.1 = mT μ a.1 := s1.1
    refine ⟨e0.trans m1, fun k hk => ?_, ?_, m4⟩
    · obtain ⟨g1, g2, g3⟩ := m2 k hk
      have hk56 : k < 56 := by
        rcases Nat.lt_or_ge k 56 with q | q
        · exact q
        · exact absurd (by unfold mLen; split <;> first | omega | rfl) hk
      exact ⟨(eR k).trans g1, (eT k hk56 g3).trans g2, g3⟩
    · obtain ⟨g1, g2, g3⟩ := m3
      exact ⟨(eR 52).trans g1, (eT 52 (by decide) g3).trans g2, g3⟩
/-- a call of both -/
theorem J_call {α : Type} {fv : α → Value} {zc zm : Mt} {dc mc ms dm : Nat} {As : List Value} (hJ : JV fv Γ zc zm dc mc ms dm As) (h : LJ M x0 a) : mT M x0 = (1, 11) ∧ ∃ (v : α) (Mid : Mem → Prop), XM Γ zc dc mc ms (.ref x0 :: As) M (fun r M2 => r = some (fv v) ∧ Mid M2) ∧ ∀ M2, Mid M2 → mT M2 a.1 = (1, 12) ∧ XM Γ zm dm 0 0 (.ref a.1 :: As) M2 (fun r M3 => r = some (fv v) ∧ LJ M3 x0 a) := by
  obtain ⟨μ, σ, b, κ, kd, kp, n, nt, tn, rfl, hI, hM, hA, hB, rfl⟩ := h
  obtain ⟨v, C, E, h1, h2, h3⟩ := hJ (MV μ a σ) b κ σ kd kp n nt tn hI hB
  refine ⟨hI.2.1.1.2.2.1, v, fun M2 => ∃ μ2 b2 κ2 kd2 kp2 n2 nt2 tn2, M2 = KV μ2 b2 κ2 ∧ CI μ2 b2 kd2 kp2 4 nt2 tn2 ∧ FO (MV μ a σ) b κ μ2 b2 κ2 ∧ adO b2 0 = adO b 0 ∧ C κ2 kd2 kp2 n2 nt2 tn2, h1, fun M2 hM2 => ?_⟩
  obtain ⟨μ2, b2, κ2, kd2, kp2, n2, nt2, tn2, rfl, g1, g2, g3, g4⟩ := hM2
  obtain ⟨f1, f2, f3⟩ := FO_ref hM hA g2
  refine ⟨f2.1, ?_⟩
  rw [f1, KM f3]
  have hm : MOK (KV μ2 b2 κ2) a := f2
  refine XM_post (h2 (KV μ2 b2 κ2) a hm) (fun r M3 hx => ?_)
  obtain ⟨rfl, s2, rfl, hE⟩ := hx
  refine ⟨rfl, μ2, s2, b2, κ2, kd2, kp2, n2, nt2, tn2, (KM f3).symm, g1, f2, f3, h3 _ _ _ _ _ _ _ g4 hE, g3⟩
end M99999999
