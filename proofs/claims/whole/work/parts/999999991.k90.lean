/-! the law: its loop -/
theorem ix32 (x : Int32) : ∃ j, j < 32 ∧ x &&& 31 = nI j := by
  refine ⟨(x &&& 31).toUInt32.toNat, ?_, ?_⟩
  · have : (x &&& 31).toUInt32.toNat = x.toUInt32.toNat &&& 31 := rfl
    rw [this]
    exact Nat.lt_of_le_of_lt Nat.and_le_right (by decide)
  · have key : ∀ y : Int32, y = Int32.ofNat y.toUInt32.toNat := fun y => by
      rcases y with ⟨⟨bv⟩⟩
      show (⟨⟨bv⟩⟩ : Int32) = ⟨⟨BitVec.ofNat 32 bv.toNat⟩⟩
      rw [BitVec.ofNat_toNat, BitVec.setWidth_eq]
    exact key (x &&& 31)
section LL
variable {Γ : Gm} {x0 bS L : Nat} {xs : Nat → Int32} {a : Ma} {nm : String}
theorem LTab {M : Mem} {i cl sl : Nat} (hi : i + 6 ≤ L) (hL : L ≤ 3072) (h : LJ M x0 a) (hcl : cl + 64 ≤ 600000) (hsl : sl + 4000 ≤ 7302250) (k : ∀ M2, LJ M2 x0 a → WL (scS bS L xs (gB Γ)) Γ (lawM nm) room_1 600000 7302250 (cl + 64) (sl + 4000) lawQ 998 (lvL bS x0 a.1 i) [] M2) : WL (scS bS L xs (gB Γ)) Γ (lawM nm) room_1 600000 7302250 cl sl lawQ 33 (lvL bS x0 a.1 i) [.int (xs i &&& 31)] M := by
  obtain ⟨j, hj, e⟩ := ix32 (xs i)
  rw [e]
  have dflt : 27 ≤ j → WL (scS bS L xs (gB Γ)) Γ (lawM nm) room_1 600000 7302250 cl sl lawQ 33 (lvL bS x0 a.1 i) [.int (nI j)] M := fun h27 => by
    refine y_tableOut (pc := 33) (tgt := 998) dL_law_33 (Or.inr ?_) rfl (y_widen (by omega) (by omega) (k M h))
    rw [nI_toInt (by omega)]
    omega
  rcases (by omega : 27 ≤ j ∨ j = 0 ∨ j = 1 ∨ j = 2 ∨ j = 3 ∨ j = 4 ∨ j = 5 ∨ j = 6 ∨ j = 7 ∨ j = 8 ∨ j = 9 ∨ j = 10 ∨ j = 11 ∨ j = 12 ∨ j = 13 ∨ j = 14 ∨ j = 15 ∨ j = 16 ∨ j = 17 ∨ j = 18 ∨ j = 19 ∨ j = 20 ∨ j = 21 ∨ j = 22 ∨ j = 23 ∨ j = 24 ∨ j = 25 ∨ j = 26) with h27 | rfl | rfl | rfl | rfl | rfl | rfl | rfl | rfl | rfl | rfl | rfl | rfl | rfl | rfl | rfl | rfl | rfl | rfl | rfl | rfl | rfl | rfl | rfl | rfl | rfl | rfl | rfl
  · exact dflt h27
  · exact y_tableIn (pc := 33) (tgt := 156) dL_law_33 (by decide) (by decide) rfl rfl (LC_set hi hL h hcl hsl k)
  · exact y_tableIn (pc := 33) (tgt := 199) dL_law_33 (by decide) (by decide) rfl rfl (LC_thing hi hL h hcl hsl k)
  · exact y_tableIn (pc := 33) (tgt := 242) dL_law_33 (by decide) (by decide) rfl rfl (LC_put hi hL h hcl hsl k)
  · exact y_tableIn (pc := 33) (tgt := 275) dL_law_33 (by decide) (by decide) rfl rfl (LC_told hi hL h hcl hsl k)
  · exact y_tableIn (pc := 33) (tgt := 308) dL_law_33 (by decide) (by decide) rfl rfl (LC_feed hi hL h hcl hsl k)
  · exact y_tableIn (pc := 33) (tgt := 331) dL_law_33 (by decide) (by decide) rfl rfl (LC_text hi hL h hcl hsl k)
  · exact y_tableIn (pc := 33) (tgt := 344) dL_law_33 (by decide) (by decide) rfl rfl (LC_force hi hL h hcl hsl k)
  · exact y_tableIn (pc := 33) (tgt := 367) dL_law_33 (by decide) (by decide) rfl rfl (LC_day hi hL h hcl hsl k)
  · exact y_tableIn (pc := 33) (tgt := 400) dL_law_33 (by decide) (by decide) rfl rfl (LC_best hi hL h hcl hsl k)
  · exact y_tableIn (pc := 33) (tgt := 443) dL_law_33 (by decide) (by decide) rfl rfl (LC_tidy hi hL h hcl hsl k)
  · exact y_tableIn (pc := 33) (tgt := 466) dL_law_33 (by decide) (by decide) rfl rfl (LC_once hi hL h hcl hsl k)
  · exact y_tableIn (pc := 33) (tgt := 489) dL_law_33 (by decide) (by decide) rfl rfl (LC_week hi hL h hcl hsl k)
  · exact y_tableIn (pc := 33) (tgt := 512) dL_law_33 (by decide) (by decide) rfl rfl (LC_dearest hi hL h hcl hsl k)
  · exact y_tableIn (pc := 33) (tgt := 535) dL_law_33 (by decide) (by decide) rfl rfl (LC_give hi hL h hcl hsl k)
  · exact y_tableIn (pc := 33) (tgt := 548) dL_law_33 (by decide) (by decide) rfl rfl (LC_seat hi hL h hcl hsl k)
  · exact y_tableIn (pc := 33) (tgt := 581) dL_law_33 (by decide) (by decide) rfl rfl (LC_seen hi hL h hcl hsl k)
  · exact y_tableIn (pc := 33) (tgt := 614) dL_law_33 (by decide) (by decide) rfl rfl (LC_film hi hL h hcl hsl k)
  · exact y_tableIn (pc := 33) (tgt := 647) dL_law_33 (by decide) (by decide) rfl rfl (LC_drawn hi hL h hcl hsl k)
  · exact y_tableIn (pc := 33) (tgt := 670) dL_law_33 (by decide) (by decide) rfl rfl (LC_chance hi hL h hcl hsl k)
  · exact y_tableIn (pc := 33) (tgt := 714) dL_law_33 (by decide) (by decide) rfl rfl (LC_image hi hL h hcl hsl k)
  · exact y_tableIn (pc := 33) (tgt := 727) dL_law_33 (by decide) (by decide) rfl rfl (LC_back hi hL h hcl hsl k)
  · exact y_tableIn (pc := 33) (tgt := 740) dL_law_33 (by decide) (by decide) rfl rfl (LC_count hi hL h hcl hsl k)
  · exact y_tableIn (pc := 33) (tgt := 763) dL_law_33 (by decide) (by decide) rfl rfl (LC_sheet hi hL h hcl hsl k)
  · exact y_tableIn (pc := 33) (tgt := 806) dL_law_33 (by decide) (by decide) rfl rfl (LC_cell hi hL h hcl hsl k)
  · exact y_tableIn (pc := 33) (tgt := 849) dL_law_33 (by decide) (by decide) rfl rfl (LC_copy hi hL h hcl hsl k)
  · exact y_tableIn (pc := 33) (tgt := 912) dL_law_33 (by decide) (by decide) rfl rfl (LC_things hi hL h hcl hsl k)
  · exact y_tableIn (pc := 33) (tgt := 965) dL_law_33 (by decide) (by decide) rfl rfl (LC_taken hi hL h hcl hsl k)
theorem LL (hL : L ≤ 3072) : ∀ (m t : Nat) (cl sl : Nat) (M : Mem), t + m = 513 → 6 * t ≤ L + 5 → LJ M x0 a → cl ≤ 10000 + 64 * t → sl ≤ 1000000 + 4000 * t → WL (scS bS L xs (gB Γ)) Γ (lawM nm) room_1 600000 7302250 cl sl lawQ 18 (lvL bS x0 a.1 (6 * t)) [] M
  | 0, t, cl, sl, M, hm, ht, h, hcl, hsl => absurd ht (by omega)
  | m + 1, t, cl, sl, M, hm, ht, h, hcl, hsl => by
    refine y_iload_n (pc := 18) dL_law_18 rfl ?_
    refine y_aload_n (pc := 19) dL_law_19 rfl ?_
    refine y_slen (pc := 20) dL_law_20 ?_
    refine y_bipush (pc := 21) (v := 6) dL_law_21 rfl ?_
    refine y_isub (pc := 23) dL_law_23 ?_
    refine y_icmp_gt (pc := 24) (tgt := 1004) dL_law_24 rfl (fun _ => ?_) (fun hle => ?_)
    · refine y_iconst (pc := 1004) (v := 1) dL_law_1004 rfl ?_
      refine y_widen (k := 600000) (n := 7302250) (by omega) (by omega) ?_
      exact y_ireturn (pc := 1005) dL_law_1005 (show ret = some .boolean from rfl) rfl rfl
    · have hi : 6 * t + 6 ≤ L := sbI (x := L) (n := 6) (i := 6 * t) (by omega) (by decide) (by omega) hle
      refine y_aload_n (pc := 27) dL_law_27 rfl ?_
      refine y_iload_n (pc := 28) dL_law_28 rfl ?_
      refine y_sld (pc := 29) (i := 6 * t) dL_law_29 rfl (by omega) (by omega) ?_
      refine y_bipush (pc := 30) (v := 31) dL_law_30 rfl ?_
      refine y_iand (pc := 32) dL_law_32 ?_
      refine LTab hi hL h (by omega) (by omega) (fun M2 h2 => ?_)
      refine y_iinc (pc := 998) (lv2 := lvL bS x0 a.1 (6 * (t + 1))) (v := nI (6 * (t + 1))) dL_law_998 (show 3 < 4 by decide) rfl rfl (nI_add (6 * t) 6) rfl ?_
      refine y_goto (pc := 1001) (tgt := 18) dL_law_1001 rfl ?_
      exact LL hL m (t + 1) _ _ M2 (by omega) (by omega) h2 (by omega) (by omega)
end LL
