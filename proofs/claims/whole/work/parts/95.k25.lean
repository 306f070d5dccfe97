/-! the two readers side by side: what was read runs to what it says -/
def eN (σ : MS) : Nat → Int32 := fun j => if j = 0 then σ.1 16 else if j = 1 then σ.1 17 else if j = 2 then σ.1 18 else if j = 3 then σ.1 19 else if j = 4 then σ.1 20 else σ.1 21
/-- the code from c0 on says v -/
def SG (e : Nat → Int32) (c0 c : CT) (v : Int32) : Prop := c0.2.2.2.2.2.1 < c.2.2.2.2.2.1 ∧ (∀ i, c0.2.2.2.2.2.1 ≤ i → i < c.2.2.2.2.2.1 → ¬ c.2.2.2.2.2.2 i = -16) ∧ ∀ S, rnC e c.2.2.2.2.2.2 (c.2.2.2.2.2.1 - c0.2.2.2.2.2.1) c0.2.2.2.2.2.1 S = v :: S
def ZR (σ : MS) (f n op : Nat) (c0 : CT) (v : Int32) (p : PT) (c : CT) : Prop := okp n p ∧ pop p = op ∧ RC σ f n p c ∧ mnC c0 c ∧ (pbd p = 0 → c0.2.2.2.2.2.1 ≤ c0.2.1 ∧ SG (eN σ) c0 c v ∧ c.2.2.2.2.2.1 + c0.2.1 ≤ c.2.1 + c0.2.2.2.2.2.1)
section M95
variable {σ : MS} {f n : Nat}
theorem cE_lt {c : CT} {k : Int32} (h : c.2.2.2.2.2.1 < 160) : cE k c = (c.1, c.2.1, c.2.2.1, c.2.2.2.1, c.2.2.2.2.1, c.2.2.2.2.2.1 + 1, va_up c.2.2.2.2.2.2 c.2.2.2.2.2.1 k) := if_pos h
theorem SG_one {e : Nat → Int32} {c : CT} {k v : Int32} (h : c.2.2.2.2.2.1 < 160) (hk : ¬ k = -16) (ht : ∀ S, tSt e k S = v :: S) : SG e c (cE k c) v := by
  rw [cE_lt h]
  refine ⟨Nat.lt_succ_self _, fun i h1 h2 => ?_, fun S => ?_⟩
  · have h2 : i < c.2.2.2.2.2.1 + 1 := h2
    obtain rfl : i = c.2.2.2.2.2.1 := by omega
    show ¬ va_up _ _ _ _ = _
    unfold va_up
    rw [if_pos rfl]
    exact hk
  · show rnC e _ (c.2.2.2.2.2.1 + 1 - c.2.2.2.2.2.1) _ S = _
    rw [Nat.add_sub_cancel_left]
    show tSt e (va_up c.2.2.2.2.2.2 c.2.2.2.2.2.1 k c.2.2.2.2.2.1) S = _
    unfold va_up
    rw [if_pos rfl]
    exact ht S
/-- one more instruction -/
theorem SG_more {e : Nat → Int32} {c0 c : CT} {k v : Int32} (hl : c0.2.2.2.2.2.1 ≤ c.2.2.2.2.2.1) (h : c.2.2.2.2.2.1 < 160) (hk : ¬ k = -16) (hn : ∀ i, c0.2.2.2.2.2.1 ≤ i → i < c.2.2.2.2.2.1 → ¬ c.2.2.2.2.2.2 i = -16) (ht : ∀ S, tSt e k (rnC e c.2.2.2.2.2.2 (c.2.2.2.2.2.1 - c0.2.2.2.2.2.1) c0.2.2.2.2.2.1 S) = v :: S) : SG e c0 (cE k c) v := by
  rw [cE_lt h]
  refine ⟨Nat.lt_succ_of_le hl, fun i h1 h2 => ?_, fun S => ?_⟩
  · have h2 : i < c.2.2.2.2.2.1 + 1 := h2
    show ¬ va_up _ _ _ _ = _
    unfold va_up
    by_cases hi : i = c.2.2.2.2.2.1
    · rw [if_pos hi]
      exact hk
    · rw [if_neg hi]
      exact hn i h1 (by omega)
  · show rnC e _ (c.2.2.2.2.2.1 + 1 - c0.2.2.2.2.2.1) _ S = _
    rw [show c.2.2.2.2.2.1 + 1 - c0.2.2.2.2.2.1 = (c.2.2.2.2.2.1 - c0.2.2.2.2.2.1) + 1 by omega, rnC_add, show c0.2.2.2.2.2.1 + (c.2.2.2.2.2.1 - c0.2.2.2.2.2.1) = c.2.2.2.2.2.1 by omega]
    rw [rnC_cg e (va_up c.2.2.2.2.2.2 c.2.2.2.2.2.1 k) c.2.2.2.2.2.2 _ _ S (fun j h1 h2 => by unfold va_up; rw [if_neg (by omega)])]
    show tSt e (va_up c.2.2.2.2.2.2 c.2.2.2.2.2.1 k c.2.2.2.2.2.1) _ = _
    rw [show va_up c.2.2.2.2.2.2 c.2.2.2.2.2.1 k c.2.2.2.2.2.1 = k by unfold va_up; rw [if_pos rfl]]
    exact ht S
theorem SG_un {e : Nat → Int32} {c0 c : CT} {k u v : Int32} (hs : SG e c0 c v) (h : c.2.2.2.2.2.1 < 160) (hk : ¬ k = -16) (ht : ∀ S, tSt e k (v :: S) = u :: S) : SG e c0 (cE k c) u :=
  SG_more (Nat.le_of_lt hs.1) h hk hs.2.1 (fun S => by rw [hs.2.2 S]; exact ht S)
theorem SG_lc {e : Nat → Int32} {c0 c d0 d : CT} {v : Int32} (h : SG e c0 c v) (h0 : d0.2.2.2.2.2 = c0.2.2.2.2.2) (h1 : d.2.2.2.2.2 = c.2.2.2.2.2) : SG e d0 d v := by
  unfold SG at h ⊢
  rw [h0, h1]
  exact h
theorem SG_bin {e : Nat → Int32} {c0 c c1 d : CT} {k u v w : Int32} (hs : SG e c0 c v) (h1 : c1.2.2.2.2.2 = c.2.2.2.2.2) (hd : SG e c1 d w) (hm : mnC c1 d) (h : d.2.2.2.2.2.1 < 160) (hk : ¬ k = -16) (ht : ∀ S, tSt e k (w :: v :: S) = u :: S) : SG e c0 (cE k d) u := by
  have hd2 : SG e c d w := SG_lc hd h1.symm rfl
  have hm2 : mnC c d := by
    unfold mnC at hm ⊢
    rw [h1] at hm
    exact hm
  obtain ⟨a1, a2, a3⟩ := hs
  obtain ⟨b1, b2, b3⟩ := hd2
  refine SG_more (by omega) h hk (fun i g1 g2 => ?_) (fun S => ?_)
  · rcases Nat.lt_or_ge i c.2.2.2.2.2.1 with q | q
    · rw [hm2.2 i q]
      exact a2 i g1 q
    · exact b2 i q g2
  · rw [show d.2.2.2.2.2.1 - c0.2.2.2.2.2.1 = (c.2.2.2.2.2.1 - c0.2.2.2.2.2.1) + (d.2.2.2.2.2.1 - c.2.2.2.2.2.1) by omega, rnC_add, show c0.2.2.2.2.2.1 + (c.2.2.2.2.2.1 - c0.2.2.2.2.2.1) = c.2.2.2.2.2.1 by omega]
    rw [rnC_cg e d.2.2.2.2.2.2 c.2.2.2.2.2.2 _ _ S (fun j g1 g2 => hm2.2 j (by omega)), a3 S, b3 (v :: S)]
    exact ht S
/-- on to the next token, where one is at hand -/
theorem RC_adv {p : PT} {c : CT} (hO : rdO σ f n) (hk : okp n p) (h : RC σ f n p c) (hb : pbd p = 0) (h4 : p.2.1 ≠ 4) (h0 : p.2.1 ≠ 0) : RC σ f n (pN σ f n p) (cA σ f n c) ∧ okp n (pN σ f n p) ∧ pop (pN σ f n p) = pop p ∧ pbd (pN σ f n p) = 0 ∧ c.2.1 + 1 ≤ (cA σ f n c).2.1 ∧ (cA σ f n c).2.2.2.2.2 = c.2.2.2.2.2 ∧ (cA σ f n c).2.1 ≤ n ∧ p.2.2.1 + 1 ≤ (pN σ f n p).2.2.1 := by
  have k := pN_ok hO hk
  have r := RC_N hO hk h hb h4
  have hb2 : pbd (pN σ f n p) = 0 := hb
  have e1 := (h.1 hb).2.1
  have e2 := (r.1 hb2).2.1
  have g := hk.2.2.2.2.2.1 h4 h0
  refine ⟨r, k.1, k.2.2.2.1, hb2, ?_, cA_lc, ?_, ?_⟩
  · rw [e1, e2]
    omega
  · rw [e2]
    exact k.1.2.2.1
  · omega
theorem ZR_start {op : Nat} {c0 c : CT} {v : Int32} {p : PT} (h : ZR σ f n op c0 v p c) (hb : pbd p = 0) : c.2.2.2.2.2.1 ≤ c.2.1 ∧ 1 ≤ p.2.2.1 := by
  obtain ⟨-, -, hr, -, h5⟩ := h
  obtain ⟨a1, a2, a3⟩ := h5 hb
  have e1 := (hr.1 hb).2.1
  have a4 := a2.1
  omega
/-- two and what joins them -/
theorem ZR_bin {op : Nat} {c0 c c2 : CT} {v w u k : Int32} {p p2 : PT} (hO : rdO σ f n) (h : ZR σ f n op c0 v p c) (hb : pbd p = 0) (h4 : p.2.1 ≠ 4) (h0 : p.2.1 ≠ 0) (h2 : ZR σ f n op (cA σ f n c) w p2 c2) (hk : ¬ k = -16) (ht : ∀ S, tSt (eN σ) k (w :: v :: S) = u :: S) : ZR σ f n op c0 u p2 (cE k c2) := by
  obtain ⟨a1, a2, a3, a4, a5⟩ := h
  obtain ⟨b1, b2, b3, b4, b5⟩ := h2
  obtain ⟨d1, d2, d3, d4, d5, d6, d7, -⟩ := RC_adv hO a1 a3 hb h4 h0
  obtain ⟨e1, e2, e3⟩ := a5 hb
  have hn := hO.2.2.1
  refine ⟨b1, b2, RC_E b3, ((a4.trans mnC_A).trans b4).trans mnC_E, fun hb2 => ?_⟩
  obtain ⟨g1, g2, g3⟩ := b5 hb2
  have q1 := (b3.1 hb2).2.1
  have q2 : p2.2.2.1 ≤ n := b1.2.2.1
  have q3 : (cA σ f n c).2.2.2.2.2.1 = c.2.2.2.2.2.1 := congrArg Prod.fst d6
  have q4 : c2.2.2.2.2.2.1 < 160 := by omega
  refine ⟨e1, SG_bin e2 d6 g2 b4 q4 hk ht, ?_⟩
  rw [cE_lt q4]
  show c2.2.2.2.2.2.1 + 1 + c0.2.1 ≤ c2.2.1 + c0.2.2.2.2.2.1
  omega
theorem lp_ZR {op : Nat} {c0 : CT} {sR : Int32 → PT → Option (Int32 × PT)} {sC : CT → Option CT} (Hs : ∀ v p c, ZR σ f n op c0 v p c → (sR v p = none ∧ sC c = none) ∨ ∃ r d, sR v p = some r ∧ sC c = some d ∧ ZR σ f n op c0 r.1 r.2 d ∧ p.2.2.1 + 1 ≤ r.2.2.2.1 ∧ pbd p = 0) : ∀ (K K2 : Nat) (v : Int32) (p : PT) (c : CT), ZR σ f n op c0 v p c → (pbd p = 0 → n < p.2.2.1 + K ∧ n < p.2.2.1 + K2) → ZR σ f n op c0 (lpz sR K v p).1 (lpz sR K v p).2 (clp sC K2 c)
  | K, K2, v, p, c, h, hK => by
    rcases Hs v p c h with ⟨h1, h2⟩ | ⟨r, d, h1, h2, h3, h4, h5⟩
    · have e1 : lpz sR K v p = (v, p) := by
        cases K with
        | zero => rfl
        | succ K => rw [lpz, h1]
      have e2 : clp sC K2 c = c := by
        cases K2 with
        | zero => rfl
        | succ K => rw [clp, h2]
      rw [e1, e2]
      exact h
    · have q := hK h5
      have q2 : p.2.2.1 ≤ n := h.1.2.2.1
      match K, K2, q with
      | 0, _, q => omega
      | _ + 1, 0, q => omega
      | K + 1, K2 + 1, q =>
        have e1 : lpz sR (K + 1) v p = lpz sR K r.1 r.2 := by rw [lpz, h1]
        have e2 : clp sC (K2 + 1) c = clp sC K2 d := by rw [clp, h2]
        rw [e1, e2]
        exact lp_ZR Hs K K2 r.1 r.2 d h3 (fun _ => by omega)
theorem lp_ZR2 {op : Nat} {c0 : CT} {sR : Int32 → PT → Option (Int32 × PT)} {sC : CT → Option CT} (hO : rdO σ f n) (Hs : ∀ v p c, ZR σ f n op c0 v p c → (sR v p = none ∧ sC c = none) ∨ ∃ r d, sR v p = some r ∧ sC c = some d ∧ ZR σ f n op c0 r.1 r.2 d ∧ p.2.2.1 + 1 ≤ r.2.2.2.1 ∧ pbd p = 0) (v : Int32) (p : PT) (c : CT) (h : ZR σ f n op c0 v p c) : ZR σ f n op c0 (lpz sR 200 v p).1 (lpz sR 200 v p).2 (clp sC 160 c) :=
  lp_ZR Hs 200 160 v p c h (fun hb => by
    have := (ZR_start h hb).2
    have := hO.2.2.1
    omega)
end M95
