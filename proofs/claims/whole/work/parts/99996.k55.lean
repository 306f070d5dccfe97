/-! the class: a new PutOut, its first text -/
def thP (o : Nat) : Nat → Nat → Prop := fun a _ => a = o
section M99996
variable {Γ : Gm} {μ μ2 M : Mem} {b b2 : Kb} {κ κ2 : KS} {q0 o f t n j q : Nat} {kd : Nat → Nat} {kp : Bool} {ns nt : Nat} {tn tn2 : Nat → Nat} {Q : Option Value → Mem → Prop}
theorem CI_t4 (h : CI μ b kd kp ns nt tn) : CI (thR4 μ b) b kd kp ns nt tn := by
  obtain ⟨h1, ⟨c1, c2, c3, c4, c5, c6, c7⟩, ⟨r5, r7⟩, hh, hk, ⟨p1, p2⟩, h4, hs, ht⟩ := h
  obtain ⟨e, -, kf⟩ := EV_sR (κ := κE) (k := 0) (v := some (adR b 0 2)) h4.2.2.2.1 h1 (by decide)
  have hR : ∀ k, mR (thR4 μ b) (adO b 0) k = mR μ (adO b 0) k := fun k => by
    have h := mR_EV (k := k) e (by decide) c1
    exact h
  have hK : ∀ x ci len, x ≠ 4 → KO μ b x ci len → KO (thR4 μ b) b x ci len := fun x ci len hx h => KO_EV e h1.1 hx h
  refine ⟨kf, ⟨hK 0 _ _ (by decide) c1, ?_, ?_, ?_, ?_, ?_, ?_⟩, ⟨r5, r7⟩, HS_EV e h1.1 (by decide) (fun t _ => by show ¬ 15 + t = 4; omega) hh, fun z => HS_EV e h1.1 (by decide) (fun t _ => by show ¬ 20 + t = 4; omega) (hk z), ⟨hK 3 _ _ (by decide) p1, KLo_EV e h1.1 (by decide) p1 p2⟩, KO_t4 h4 h4 (Or.inr rfl), fun i hi => ⟨(hs i hi).1, hK _ _ _ (by omega) (hs i hi).2⟩, fun i hi => ⟨(ht i hi).1, hK _ _ _ (by omega) (ht i hi).2⟩⟩
  · rw [hR]; exact c2
  · rw [hR]; exact c3
  · rw [hR]; exact c4
  · rw [hR]; exact c5
  · rw [hR]; exact c6
  · rw [hR]; exact c7
/-- what a reading leaves of the class's memory -/
noncomputable def rdK (κ : KS) (σ : MS) (f n : Nat) (c : CT) : KS := (rdA σ f n NN κ c).1
theorem rdK_kq {σ : MS} {f n : Nat} {c d : CT} : kq (thP 4) κ (rK (rdK κ σ f n c) d) ∧ ∀ i, i < 3 → (rK (rdK κ σ f n c) d).2 4 9 i = nI (rs σ f n c i) := by
  have e : rdK κ σ f n c = (kA (kA (kA (kI κ 4 1 (nI n)) 4 9 0 (nI (rs σ f n c 0))) 4 9 1 (nI (rs σ f n c 1))) 4 9 2 (nI (rs σ f n c 2))) := congrArg Prod.fst (rc_rd κ c)
  refine ⟨fun a k h => ?_, fun i hi => ?_⟩
  · have h : ¬ a = 4 := h
    have q : kq (thP 4) κ (rdK κ σ f n c) := by
      rw [e]
      exact ((((kq.rf (P := thP 4) (κ := κ)).I rfl).A rfl).A rfl).A rfl
    obtain ⟨q1, q2⟩ := q a k h
    refine ⟨Eq.trans ?_ q1, Eq.trans ?_ q2⟩
    · show (if a = 4 then _ else (rdK κ σ f n c).1 a k) = _
      rw [if_neg h]
    · show (if a = 4 ∧ k = 7 then _ else (rdK κ σ f n c).2 a k) = _
      rw [if_neg (fun z => h z.1)]
  · show (if (4 : Nat) = 4 ∧ (9 : Nat) = 7 then d.2.2.2.2.2.2 else (rdK κ σ f n c).2 4 9) i = _
    rw [if_neg (by decide), e, kA_r, kA_r, kA_r]
    rcases (by omega : i = 0 ∨ i = 1 ∨ i = 2) with rfl | rfl | rfl
    · rw [va_up_n (by decide), va_up_n (by decide), va_up_s]
    · rw [va_up_n (by decide), va_up_s]
    · rw [va_up_s]
theorem k_readK {σ : MS} {c : CT} (h4 : KO μ b 4 6 rdL) (h0 : KO μ b 0 11 pL) (hO : rdO σ f n) (hB : ∀ i, i < n → κ.2 0 2 i = σ.2.2 1 (f + i)) (hc : κ = rK κ c) : XM Γ zX6_read 91 0 0 [.ref (adO b 4), .ref (adR b 0 2), .int (nI n)] (KV μ b κ) (rt (.int (cX σ f n (-23) (rc σ f n c 3)).2.2.2.2.1) (KV (thR4 μ b) b (rK (rdK κ σ f n c) (cX σ f n (-23) (rc σ f n c 3))))) := by
  have hN : NN = 41 := NN_eq
  obtain ⟨-, g2, g3⟩ := h0.2.2.2.2 2 (by decide)
  have h := k_read (Γ := Γ) (c := c) (N := NN) h4 ⟨g2, g3⟩ hO hB hO.2.2.1 (by decide) (Nat.le_of_eq hN.symm)
  rw [← hc] at h
  have hd : 2 * NN + 9 = 91 := by rw [hN]
  rw [hd] at h
  exact h
end M99996
