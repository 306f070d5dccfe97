/-! the class: what was read becomes a text -/
section M998
variable {Γ : Gm} {μ : Mem} {b : Kb} {κ : KS}
theorem k_made {c : CT} (h4 : KO μ b 4 6 rdL) (hl : c.2.2.2.2.2.1 ≤ 160) : XM Γ zX6_made 3 4 (4 + (c.2.2.2.2.2.1 + 3 + c.2.2.2.2.2.1)) [.ref (adO b 4)] (KV μ b (rK κ c)) (fun r μ2 => ∃ q0 : Nat, r = some (.ref q0) ∧ (mT μ q0).1 = 0 ∧ TXN (nw (KV μ b (rK κ c)) q0 1 8) μ2 q0 c.2.2.2.2.2.1 c.2.2.2.2.2.2 (κ.2 4 9)) := by
  obtain ⟨x, s, t, u, fl, l, cd⟩ := c
  have hl : l ≤ 160 := hl
  refine XM.of 0 rfl (by decide) (Nat.le_of_ble_eq_true rfl) ?_
  refine x_new (pc := 0) (ci := 8) dX6_made_0 (by decide) kl_6_56 ki_8 kn_8 ⟨by show 0 + 1 ≤ 4; decide, by show 0 + 4 ≤ 4 + (l + 3 + l); omega⟩ (fun q0 hq0 => ?_)
  have n0 : adO b 4 ≠ q0 := fun z => by
    have e : mT (KV μ b (rK κ (x, s, t, u, fl, l, cd))) (adO b 4) = (1, 6) := h4.2.2.1
    rw [← z, e] at hq0
    cases hq0
  obtain ⟨c1, c2, c3⟩ := h4.2.2.2.2 7 (by decide)
  obtain ⟨s1, s2, s3⟩ := h4.2.2.2.2 9 (by decide)
  have n7 : adR b 4 7 ≠ q0 := fun z => by
    have e : mT (KV μ b (rK κ (x, s, t, u, fl, l, cd))) (adR b 4 7) = (2, rdL 7) := c2
    rw [← z, e] at hq0
    cases hq0
  have n9 : adR b 4 9 ≠ q0 := fun z => by
    have e : mT (KV μ b (rK κ (x, s, t, u, fl, l, cd))) (adR b 4 9) = (2, rdL 9) := s2
    rw [← z, e] at hq0
    cases hq0
  have T4 : mT (nw (KV μ b (rK κ (x, s, t, u, fl, l, cd))) q0 1 8) (adO b 4) = (1, 6) := (nw_Tn n0).trans h4.2.2.1
  have e8 : mI (nw (KV μ b (rK κ (x, s, t, u, fl, l, cd))) q0 1 8) (adO b 4) 8 = nI l := (congrFun (va_up_n n0) 8).trans (KV_mI (κ := rK κ (x, s, t, u, fl, l, cd)) h4.2.2.2.1 (by decide))
  have eA : ∀ k, mA (nw (KV μ b (rK κ (x, s, t, u, fl, l, cd))) q0 1 8) (adR b 4 7) k = cd k := fun k => (congrFun (va_up_n n7) k).trans (KV_mA (κ := rK κ (x, s, t, u, fl, l, cd)) c3 (by decide))
  have eB : ∀ k, mA (nw (KV μ b (rK κ (x, s, t, u, fl, l, cd))) q0 1 8) (adR b 4 9) k = κ.2 4 9 k := fun k => (congrFun (va_up_n n9) k).trans (KV_mA (κ := rK κ (x, s, t, u, fl, l, cd)) s3 (by decide))
  refine x_dup (pc := 3) dX6_made_3 rfl ?_
  refine x_aload_n (pc := 4) dX6_made_4 rfl ?_
  refine x_getR (pc := 5) (a := adR b 4 7) dX6_made_5 fk_6_34 T4 (Or.inr ⟨_, rfl⟩) ((congrFun (va_up_n n0) 7).trans c1) ?_
  refine x_aload_n (pc := 8) dX6_made_8 rfl ?_
  refine x_getI (pc := 9) dX6_made_9 fk_6_37 T4 (Or.inl rfl) ?_
  rw [e8]
  refine x_aload_n (pc := 12) dX6_made_12 rfl ?_
  refine x_getR (pc := 13) (a := adR b 4 9) dX6_made_13 fk_6_40 T4 (Or.inr ⟨_, rfl⟩) ((congrFun (va_up_n n0) 9).trans s1) ?_
  refine x_callI (pc := 16) (As := [.ref _, .int _, .ref _]) dX6_made_16 mX8_init rfl lk_6_58 (c_txInit (n := l) (na := 160) nw_T ((nw_Tn n7).trans c2) ((nw_Tn n9).trans s2) hl (by decide)) rfl rfl (Nat.le_of_ble_eq_true rfl) ⟨by show 2 + 1 ≤ 3; decide, by show 64 * (2 + 1) ≤ 64 * 3; decide⟩ ⟨by show 0 + 1 + 3 ≤ 4; decide, by show 0 + 4 + (l + 3 + l) ≤ 4 + (l + 3 + l); omega⟩ (fun r μ2 hr => ?_)
  obtain ⟨rfl, hX⟩ := hr
  rw [show (0 : Nat) + xN 8 + (l + 3 + l) = 4 + (l + 3 + l) by show 0 + 4 + (l + 3 + l) = _; omega]
  refine x_areturn (pc := 19) (v := q0) (t := .object "PutOut$Text") dX6_made_19 rfl (Or.inl ⟨_, rfl⟩) ?_
  refine ⟨q0, rfl, hq0, ?_⟩
  obtain ⟨q1, q2, q3, a1, a2, a3, a4, a5, a6, a7, a8, a9, a10, a11⟩ := hX
  exact ⟨q1, q2, q3, a1, a2, a3, a4, a5, a6, a7, a8, fun k hk => (a9 k hk).trans (eA k), fun k hk => (a10 k hk).trans (eB k), a11⟩
end M998
