/-! the class: the rule, and how each question begins: the planner starts -/
def CX (μ : Mem) (b : Kb) (κ : KS) (D : PD) (kp : Bool) (n r nt : Nat) (tn : Nat → Nat) : Prop := CI μ b (D 0) kp 4 nt tn ∧ HC κ D n ∧ okG D n ∧ (r < nt ∧ nt ≤ 6 ∧ κ.1 1 5 = nI r) ∧ (∀ t, t < n → TV κ (9 + r) (tn r) (15 + t) D t) ∧ (tn r ≠ 0 ∧ tn r < 2 ^ 31 ∧ tOk κ (9 + r)) ∧ κ.2 3 6 0 = 0
section M99998
variable {Γ : Gm} {M : Mt} {R : Room} {mc ms cl sl : Nat} {Q : Option Value → Mem → Prop} {pc : Nat} {lv : List (Option Value)} {μ : Mem} {b : Kb} {κ : KS} {D : PD} {kp : Bool} {n r ns nt : Nat} {kd tn : Nat → Nat}
theorem CI_t3 (h : CI μ b kd kp ns nt tn) : CI (thR3 μ b) b kd kp ns nt tn ∧ FO μ b κ (thR3 μ b) b κ := by
  obtain ⟨h1, ⟨c1, c2, c3, c4, c5, c6, c7⟩, ⟨r5, r7⟩, hh, hk, ⟨p1, p2⟩, h4, hs, ht⟩ := h
  obtain ⟨e, fo, kf⟩ := EV_sR (κ := κ) (k := 0) (v := some (adR b 1 3)) p1.2.2.2.1 h1 (by decide)
  have hR : ∀ k, mR (thR3 μ b) (adO b 0) k = mR μ (adO b 0) k := fun k => by
    have h := mR_EV (k := k) e (by decide) c1
    exact h
  have hK : ∀ x ci len, x ≠ 3 → KO μ b x ci len → KO (thR3 μ b) b x ci len := fun x ci len hx h => KO_EV e h1.1 hx h
  refine ⟨⟨kf, ⟨hK 0 _ _ (by decide) c1, ?_, ?_, ?_, ?_, ?_, ?_⟩, ⟨r5, r7⟩, HS_EV e h1.1 (by decide) (fun t _ => by show ¬ 15 + t = 3; omega) hh, fun z => HS_EV e h1.1 (by decide) (fun t _ => by show ¬ 20 + t = 3; omega) (hk z), ⟨KO_th p1 p1 (Or.inr rfl), KL_th p2.1, p2.2⟩, hK _ _ _ (by decide) h4, fun i hi => ⟨(hs i hi).1, hK _ _ _ (by omega) (hs i hi).2⟩, fun i hi => ⟨(ht i hi).1, hK _ _ _ (by omega) (ht i hi).2⟩⟩, fo⟩
  · rw [hR]; exact c2
  · rw [hR]; exact c3
  · rw [hR]; exact c4
  · rw [hR]; exact c5
  · rw [hR]; exact c6
  · rw [hR]; exact c7
theorem k_rule (hC : CI μ b kd kp ns nt tn) (hr : r < nt) (hnt : nt ≤ 6) (h5 : κ.1 1 5 = nI r) : XM Γ zX11_rule 0 0 0 [.ref (adO b 0)] (KV μ b κ) (rt (.ref (adO b (9 + r))) (KV μ b κ)) := by
  obtain ⟨h1, ⟨c1, c2, c3, c4, c5, c6, c7⟩, ⟨r5, r7⟩, hh, hk, ⟨p1, p2⟩, h4, hs, ht⟩ := hC
  refine XM.of 0 rfl (by decide) (Nat.le_of_ble_eq_true rfl) ?_
  refine x_aload_n (pc := 0) dX11_rule_0 rfl ?_
  refine k_getR (pc := 1) c1 dX11_rule_1 fk_11_36 (Or.inr ⟨_, rfl⟩) c5 ?_
  refine x_aload_n (pc := 4) dX11_rule_4 rfl ?_
  refine k_getR (pc := 5) c1 dX11_rule_5 fk_11_10 (Or.inl ⟨_, rfl⟩) c2 ?_
  refine k_getI (pc := 8) hh.1 dX11_rule_8 fk_11_146 (Or.inl rfl) ?_
  rw [h5]
  refine x_aald (pc := 11) dX11_rule_11 r5.2.1 (Or.inr (Or.inl rfl)) rfl (show r < 6 by omega) (by decide) (ht r hr).1 ?_
  refine x_areturn (pc := 12) dX11_rule_12 rfl (Or.inl ⟨_, rfl⟩) ?_
  exact ⟨rfl, rfl⟩
theorem x_start (hC : CX μ b κ D kp n r nt tn) (hcls : M.1.cls = RX11) (d0 : decode M.2.1 pc = .ok (.aload_n 0, 1)) (d1 : decode M.2.1 (pc + 1) = .ok (.getfield 52, 3)) (d4 : decode M.2.1 (pc + 4) = .ok (.aload_n 0, 1)) (d5 : decode M.2.1 (pc + 5) = .ok (.getfield 10, 3)) (d8 : decode M.2.1 (pc + 8) = .ok (.aload_n 0, 1)) (d9 : decode M.2.1 (pc + 9) = .ok (.invokevirtual 123, 3)) (d12 : decode M.2.1 (pc + 12) = .ok (.invokevirtual 148, 3)) (hlv : lv[0]? = some (some (.ref (adO b 0)))) (hR : 8 ≤ R.frames ∧ 512 ≤ R.locals) (hcs : cl ≤ R.cells ∧ sl ≤ R.slots) (kk : ∀ κ2, SD κ κ2 D n (9 + r) → KP (thR3 μ b) b (D 0) → CI (thR3 μ b) b (D 0) kp 4 nt tn → WA Γ M R mc ms cl sl Q (pc + 15) lv [] (KV (thR3 μ b) b κ2)) : WA Γ M R mc ms cl sl Q pc lv [] (KV μ b κ) := by
  obtain ⟨hI, hH, hG, ⟨g1, g2, g3⟩, hV, ⟨t1, t2, t3⟩, h60⟩ := hC
  have hI' := hI
  obtain ⟨h1, ⟨c1, c2, c3, c4, c5, c6, c7⟩, ⟨r5, r7⟩, hh, hk, ⟨p1, p2⟩, h4, hs, ht⟩ := hI'
  have hKX : KX μ b (D 0) := hh.2.2.2
  have hst := k_start (Γ := Γ) p1 hKX p2.1 hh.1 hh.2.2.1 (ht r g1).2 ⟨by omega, by omega⟩ t1 t2 t3 hH hG hV h60
  refine x_aload_n d0 hlv ?_
  refine k_getR c1 d1 (by rw [hcls]; exact fk_11_52) (Or.inl ⟨_, rfl⟩) c4 ?_
  refine x_aload_n (pc := pc + 1 + 3) d4 hlv ?_
  refine k_getR (pc := pc + 1 + 3 + 1) c1 d5 (by rw [hcls]; exact fk_11_10) (Or.inl ⟨_, rfl⟩) c2 ?_
  refine x_aload_n (pc := pc + 1 + 3 + 1 + 3) d8 hlv ?_
  refine x_callV (pc := pc + 1 + 3 + 1 + 3 + 1) (As := []) d9 mX11_rule (by rw [hcls]; exact lk_11_123) c1.2.2.1 (k_rule hI g1 g2 g3) rfl rfl (Nat.le_of_ble_eq_true rfl) ⟨by omega, by omega⟩ ⟨by omega, by omega⟩ (k_rt ?_)
  refine x_callV (pc := pc + 1 + 3 + 1 + 3 + 1 + 3) (As := [.ref _, .ref _]) d12 mX4_start (by rw [hcls]; exact lk_11_148) p1.2.2.1 hst rfl rfl (Nat.le_of_ble_eq_true rfl) ⟨by omega, by omega⟩ ⟨by omega, by omega⟩ (fun x μ2 hx => ?_)
  obtain ⟨κ2, rfl, rfl, hS⟩ := hx
  exact kk κ2 hS (KP_th p1 hKX p2.1) (CI_t3 (κ := κ) hI).1
end M99998
