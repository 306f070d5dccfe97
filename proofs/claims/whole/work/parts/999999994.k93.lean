/-! the law: from its start -/
def μE : Mem := (fun _ => (0, 0), fun _ _ => 0, fun _ _ => 0, fun _ _ => none, fun _ _ => 0, fun _ _ => none)
section LS
variable {Γ : Gm} {bS L : Nat} {xs : Nat → Int32} {nm : String}
theorem LW0 (hL : L ≤ 3072) : WL (scS bS L xs (gB Γ)) Γ (lawM nm) room_1 600000 7302250 0 0 lawQ 0 [some (.ref bS), none, none, none] [] μE := by
  refine y_new (pc := 0) (ci := 11) dL_law_0 (by decide) kl_L_7 ki_11 kn_11 ⟨Nat.le_of_ble_eq_true rfl, Nat.le_of_ble_eq_true rfl⟩ (fun q0 hq0 => ?_)
  refine y_dup (pc := 3) dL_law_3 rfl ?_
  refine y_callI (pc := 4) (As := []) dL_law_4 mX11_init rfl lk_L_9 k_poInit rfl rfl (Nat.le_of_ble_eq_true rfl) ⟨by decide, by decide⟩ ⟨Nat.le_of_ble_eq_true rfl, Nat.le_of_ble_eq_true rfl⟩ ?_
  rintro r M1 ⟨rfl, μ, b, κ, rfl, hC, rfl, hv⟩
  refine y_astore_n (pc := 7) (lv2 := [some (.ref bS), some (.ref (adO b 0)), none, none]) dL_law_7 (show 1 < 4 by decide) rfl rfl ?_
  refine y_new (pc := 8) (ci := 12) dL_law_8 (by decide) kl_L_10 ki_12 kn_12 ⟨Nat.le_of_ble_eq_true rfl, Nat.le_of_ble_eq_true rfl⟩ (fun q1 hq1 => ?_)
  refine y_dup (pc := 11) dL_law_11 rfl ?_
  refine y_callI (pc := 12) (As := []) dL_law_12 mX12_init rfl lk_L_12 (c_mInit AI_new) rfl rfl (Nat.le_of_ble_eq_true rfl) ⟨by decide, by decide⟩ ⟨Nat.le_of_ble_eq_true rfl, Nat.le_of_ble_eq_true rfl⟩ ?_
  rintro r M2 ⟨rfl, A, hM, hE, hf, hs⟩
  obtain ⟨a, ha, -, hJ⟩ := LJ_0 (a0 := aOf q1 A) hC hv hq1 rfl hM hE hf hs
  refine y_astore_n (pc := 15) (lv2 := [some (.ref bS), some (.ref (adO b 0)), some (.ref q1), none]) dL_law_15 (show 2 < 4 by decide) rfl rfl ?_
  refine y_iconst (pc := 16) (v := nI 0) dL_law_16 rfl ?_
  refine y_istore_n (pc := 17) (lv2 := lvL bS (adO b 0) a.1 (6 * 0)) dL_law_17 (show 3 < 4 by decide) rfl (by rw [ha]; rfl) ?_
  exact LL hL 513 0 _ _ M2 rfl (by omega) hJ (Nat.le_of_ble_eq_true rfl) (Nat.le_of_ble_eq_true rfl)
end LS
