/-! the reference: rooms are gone through -/
def f_br : Nat → MS → MS := fun j s => tA s 37 j (s.2.2 36 j)
def gst (G : Nat → Int32 → Int32 → Int32 → MS → MS) (t : Nat) (tk sm mv : Int32) (k : Nat) (s : MS) : MS :=
  if nI k - 1 = -1 ∨ ((tk >>> ((nI k - 1) &&& 31)) &&& 1 = 0 ∧ ¬ stI (s.2.2 10 t) (nI k - 1) = 0) then
    (if nI k - 1 = s.2.2 41 t then G (t + 1) (if nI k - 1 = -1 then tk else tk ||| ((1 : Int32) <<< ((nI k - 1) &&& 31))) (sm + s.2.2 34 (7 * t + k) + 0) mv (tA s 36 t (nI k - 1))
     else if s.1 40 ≤ mv then s
     else G (t + 1) (if nI k - 1 = -1 then tk else tk ||| ((1 : Int32) <<< ((nI k - 1) &&& 31))) (sm + s.2.2 34 (7 * t + k) + (if s.1 42 = 0 then 0 else s.2.2 32 (7 * t + k))) (mv + 1) (tA s 36 t (nI k - 1)))
  else s
def gt : Nat → Nat → Int32 → Int32 → Int32 → MS → MS
  | 0, _, _, _, _, s => s
  | N + 1, t, tk, sm, mv, s => if nI t = s.1 15 then (if s.1 39 = 0 ∨ sm < s.1 38 then it f_br (nn (s.1 15)) (tI (tI s 39 1) 38 sm) else s)
    else if nI t = s.1 35 then gt N (t + 1) tk sm mv (tA s 36 t (-1))
    else it (gst (gt N) t tk sm mv) 7 s
/-- what going through keeps -/
def gq (s s' : MS) : Prop := (∀ k, k ≠ 38 → k ≠ 39 → s'.1 k = s.1 k) ∧ s'.2.1 = s.2.1 ∧ ∀ k, k ≠ 36 → k ≠ 37 → s'.2.2 k = s.2.2 k
theorem gq.rf {s : MS} : gq s s := ⟨fun _ _ _ => rfl, rfl, fun _ _ _ => rfl⟩
theorem gq.trans {s s' s'' : MS} (h : gq s s') (h2 : gq s' s'') : gq s s'' := ⟨fun k h1 h3 => (h2.1 k h1 h3).trans (h.1 k h1 h3), h2.2.1.trans h.2.1, fun k h1 h3 => (h2.2.2 k h1 h3).trans (h.2.2 k h1 h3)⟩
theorem gq.tA {s : MS} {k0 i : Nat} {v : Int32} (hk : k0 = 36 ∨ k0 = 37) : gq s (tA s k0 i v) := ⟨fun _ _ _ => rfl, rfl, fun k h1 h2 => tA_n (by rcases hk with rfl | rfl <;> assumption)⟩
theorem gq_it {f : Nat → MS → MS} (hf : ∀ j s, gq s (f j s)) : ∀ (n : Nat) (s : MS), gq s (it f n s)
  | 0, _ => gq.rf
  | n + 1, s => (gq_it hf n s).trans (hf n _)
theorem gq_br (n : Nat) (s : MS) (x : Int32) : gq s (it f_br n (tI (tI s 39 1) 38 x)) := by
  have h : gq s (tI (tI s 39 1) 38 x) := ⟨fun k h1 h2 => by
    show va_up (va_up s.1 39 1) 38 x k = s.1 k
    rw [va_up_n h1, va_up_n h2], rfl, fun _ _ _ => rfl⟩
  exact h.trans (gq_it (fun j s => gq.tA (Or.inr rfl)) n _)
theorem gq_gt : ∀ (N t : Nat) (tk sm mv : Int32) (s : MS), gq s (gt N t tk sm mv s)
  | 0, _, _, _, _, _ => gq.rf
  | N + 1, t, tk, sm, mv, s => by
    rw [gt]
    split
    · split
      · exact gq_br _ s sm
      · exact gq.rf
    · split
      · exact (gq.tA (Or.inl rfl)).trans (gq_gt N _ _ _ _ _)
      · refine gq_it (fun k s => ?_) 7 s
        unfold gst
        split
        · split
          · exact (gq.tA (Or.inl rfl)).trans (gq_gt N _ _ _ _ _)
          · split
            · exact gq.rf
            · exact (gq.tA (Or.inl rfl)).trans (gq_gt N _ _ _ _ _)
        · exact gq.rf
theorem gq_gst (N t : Nat) (tk sm mv : Int32) (k : Nat) (s : MS) : gq s (gst (gt N) t tk sm mv k s) := by
  unfold gst
  split
  · split
    · exact (gq.tA (Or.inl rfl)).trans (gq_gt N _ _ _ _ _)
    · split
      · exact gq.rf
      · exact (gq.tA (Or.inl rfl)).trans (gq_gt N _ _ _ _ _)
  · exact gq.rf
section M46
variable {Γ : Gm} {μ : Mem} {a : Ma} {σ : MS}
theorem s_goes (hM : MOK μ a) {n : Nat} (hn : n ≤ 5) (N : Nat) (c : ∀ (t : Nat) (tk sm mv : Int32) (s : MS), t ≤ n → n - t < N → s.1 15 = nI n → XM Γ zX12_goesThrough (N + 2) 0 0 [.ref a.1, .int (nI t), .int tk, .int sm, .int mv] (MV μ a s) (rv (MV μ a (gt N t tk sm mv s)))) : ∀ (t : Nat) (tk sm mv : Int32) (s : MS), t ≤ n → n - t < (N + 1) → s.1 15 = nI n → XM Γ zX12_goesThrough (N + 1 + 2) 0 0 [.ref a.1, .int (nI t), .int tk, .int sm, .int mv] (MV μ a s) (rv (MV μ a (gt (N + 1) t tk sm mv s))) := by
  intro t tk sm mv s ht hN h15
  refine XM.of 4 rfl (by decide) (Nat.le_of_ble_eq_true rfl) ?_
  have Lb : ∀ (m j : Nat), j + m = n → WA Γ zX12_goesThrough (xrm (N + 3) 0 0) 0 0 0 0 (rv (MV μ a (it f_br n (tI (tI s 39 1) 38 sm)))) 36 [some (.ref a.1), some (.int (nI t)), some (.int tk), some (.int sm), some (.int mv), some (.int (nI j)), none, none, none] [] (MV μ a (it f_br j (tI (tI s 39 1) 38 sm))) := by
    intro m
    induction m with
    | zero =>
      intro j hj
      obtain rfl : j = n := by omega
      have e15 : (it f_br j (tI (tI s 39 1) 38 sm)).1 15 = nI j := ((gq_br j s sm).1 15 (by decide) (by decide)).trans h15
      refine x_iload (pc := 36) dX12_goesThrough_36 rfl ?_
      refine x_aload_n (pc := 38) dX12_goesThrough_38 rfl ?_
      refine m_getI (pc := 39) hM dX12_goesThrough_39 fk_12_106 (Or.inl rfl) ?_
      refine x_icmp_ge (pc := 42) (tgt := 65) dX12_goesThrough_42 rfl (fun h_42 => ?_) (fun h_42 => absurd (by rw [e15]; exact Int32.le_refl _) h_42)
      refine x_return (pc := 65) dX12_goesThrough_65 rfl ?_
      exact ⟨rfl, rfl⟩
    | succ m ih =>
      intro j hj
      have e15 : (it f_br j (tI (tI s 39 1) 38 sm)).1 15 = nI n := ((gq_br j s sm).1 15 (by decide) (by decide)).trans h15
      refine x_iload (pc := 36) dX12_goesThrough_36 rfl ?_
      refine x_aload_n (pc := 38) dX12_goesThrough_38 rfl ?_
      refine m_getI (pc := 39) hM dX12_goesThrough_39 fk_12_106 (Or.inl rfl) ?_
      refine x_icmp_ge (pc := 42) (tgt := 65) dX12_goesThrough_42 rfl (fun h_42 => absurd h_42 (by rw [e15]; exact lit_le (n := n) j (by omega) (by omega))) (fun h_42 => ?_)
      refine x_aload_n (pc := 45) dX12_goesThrough_45 rfl ?_
      refine m_getR (pc := 46) hM dX12_goesThrough_46 fk_12_65 (Or.inr ⟨_, rfl⟩) (Or.inl (by decide)) ?_
      refine x_iload (pc := 49) dX12_goesThrough_49 rfl ?_
      refine x_aload_n (pc := 51) dX12_goesThrough_51 rfl ?_
      refine m_getR (pc := 52) hM dX12_goesThrough_52 fk_12_62 (Or.inr ⟨_, rfl⟩) (Or.inl (by decide)) ?_
      refine x_iload (pc := 55) dX12_goesThrough_55 rfl ?_
      refine m_iald (pc := 57) hM dX12_goesThrough_57 (rfl) (by show j < 5; omega) ?_
      refine m_iast (pc := 58) hM dX12_goesThrough_58 (rfl) (by show j < 5; omega) ?_
      refine x_iinc (pc := 59) (lv2 := [_, _, _, _, _, _, _, _, _]) dX12_goesThrough_59 (by decide) rfl rfl (nI_1 _) rfl ?_
      refine x_goto (pc := 62) (tgt := 36) dX12_goesThrough_62 rfl ?_
      exact ih (j + 1) (by omega)
  have L : ¬ nI t = nI n → ∀ (m k : Nat) (z6 z7 z8 : Option Value), k + m = 7 → WA Γ zX12_goesThrough (xrm (N + 3) 0 0) 0 0 0 0 (rv (MV μ a (it (gst (gt N) t tk sm mv) 7 s))) 96 [some (.ref a.1), some (.int (nI t)), some (.int tk), some (.int sm), some (.int mv), some (.int (nI k)), z6, z7, z8] [] (MV μ a (it (gst (gt N) t tk sm mv) k s)) := by
    intro hne m
    have htn : t < n := by
      rcases Nat.lt_or_ge t n with q | q
      · exact q
      · exact absurd (by rw [show t = n by omega]) hne
    induction m with
    | zero =>
      intro k z6 z7 z8 hk
      obtain rfl : k = 7 := by omega
      refine x_iload (pc := 96) dX12_goesThrough_96 rfl ?_
      refine x_bipush (pc := 98) (v := 7) dX12_goesThrough_98 rfl ?_
      refine x_icmp_ge (pc := 100) (tgt := 272) dX12_goesThrough_100 rfl (fun h_100 => ?_) (fun h_100 => absurd (by decide) h_100)
      refine x_return (pc := 272) dX12_goesThrough_272 rfl ?_
      exact ⟨rfl, rfl⟩
    | succ m ih =>
      intro k z6 z7 z8 hk
      have hq : gq s (it (gst (gt N) t tk sm mv) k s) := gq_it (gq_gst N t tk sm mv) k s
      have eS : it (gst (gt N) t tk sm mv) (k + 1) s = gst (gt N) t tk sm mv k (it (gst (gt N) t tk sm mv) k s) := rfl
      have IH := fun z6 z7 z8 => ih (k + 1) z6 z7 z8 (by omega)
      rw [eS] at IH
      generalize it (gst (gt N) t tk sm mv) k s = u at hq IH ⊢
      have u15 : u.1 15 = nI n := (hq.1 15 (by decide) (by decide)).trans h15
      by_cases hpl : (nI k - 1 : Int32) = -1
      · refine x_iload (pc := 96) dX12_goesThrough_96 rfl ?_
        refine x_bipush (pc := 98) (v := 7) dX12_goesThrough_98 rfl ?_
        refine x_icmp_ge (pc := 100) (tgt := 272) dX12_goesThrough_100 rfl (fun h_100 => absurd h_100 (lit_le (n := 7) k (by omega) (by omega))) (fun h_100 => ?_)
        refine x_iload (pc := 103) dX12_goesThrough_103 rfl ?_
        refine x_iconst (pc := 105) (v := 1) dX12_goesThrough_105 rfl ?_
        refine x_isub (pc := 106) dX12_goesThrough_106 ?_
        refine x_istore (pc := 107) (lv2 := [_, _, _, _, _, _, _, _, _]) dX12_goesThrough_107 (by decide) rfl rfl ?_
        refine x_iload (pc := 109) dX12_goesThrough_109 rfl ?_
        refine x_aload_n (pc := 111) dX12_goesThrough_111 rfl ?_
        refine m_getR (pc := 112) hM dX12_goesThrough_112 fk_12_68 (Or.inr ⟨_, rfl⟩) (Or.inl (by decide)) ?_
        refine x_iload_n (pc := 115) dX12_goesThrough_115 rfl ?_
        refine m_iald (pc := 116) hM dX12_goesThrough_116 (rfl) (by show t < 5; omega) ?_
        refine x_icmp_eq (pc := 117) (tgt := 124) dX12_goesThrough_117 rfl (fun h_117 => ?_) (fun h_117 => ?_)
        · refine x_iconst (pc := 124) (v := 0) dX12_goesThrough_124 rfl ?_
          refine x_istore (pc := 125) (lv2 := [_, _, _, _, _, _, _, _, _]) dX12_goesThrough_125 (by decide) rfl rfl ?_
          refine x_iload (pc := 127) dX12_goesThrough_127 rfl ?_
          refine x_iconst (pc := 129) (v := -1) dX12_goesThrough_129 rfl ?_
          refine x_icmp_eq (pc := 130) (tgt := 152) dX12_goesThrough_130 rfl (fun h_130 => ?_) (fun h_130 => absurd (hpl) h_130)
          refine x_iconst (pc := 152) (v := 1) dX12_goesThrough_152 rfl ?_
          refine x_goto (pc := 153) (tgt := 157) dX12_goesThrough_153 rfl ?_
          refine x_istore (pc := 157) (lv2 := [_, _, _, _, _, _, _, _, _]) dX12_goesThrough_157 (by decide) rfl rfl ?_
          refine x_iload (pc := 159) dX12_goesThrough_159 rfl ?_
          refine x_if_eq (pc := 161) (tgt := 266) dX12_goesThrough_161 rfl (fun h_161 => absurd h_161 (by decide)) (fun h_161 => ?_)
          refine x_iload (pc := 164) dX12_goesThrough_164 rfl ?_
          refine x_if_eq (pc := 166) (tgt := 178) dX12_goesThrough_166 rfl (fun h_166 => ?_) (fun h_166 => absurd (by decide) h_166)
          refine x_aload_n (pc := 178) dX12_goesThrough_178 rfl ?_
          refine m_getR (pc := 179) hM dX12_goesThrough_179 fk_12_62 (Or.inr ⟨_, rfl⟩) (Or.inl (by decide)) ?_
          refine x_iload_n (pc := 182) dX12_goesThrough_182 rfl ?_
          refine x_iload (pc := 183) dX12_goesThrough_183 rfl ?_
          refine m_iast (pc := 185) hM dX12_goesThrough_185 (rfl) (by show t < 5; omega) ?_
          refine x_aload_n (pc := 186) dX12_goesThrough_186 rfl ?_
          refine x_iload_n (pc := 187) dX12_goesThrough_187 rfl ?_
          refine x_iconst (pc := 188) (v := 1) dX12_goesThrough_188 rfl ?_
          refine x_iadd (pc := 189) dX12_goesThrough_189 ?_
          rw [nI_1]
          refine x_iload (pc := 190) dX12_goesThrough_190 rfl ?_
          refine x_iconst (pc := 192) (v := -1) dX12_goesThrough_192 rfl ?_
          refine x_icmp_ne (pc := 193) (tgt := 200) dX12_goesThrough_193 rfl (fun h_193 => absurd (hpl) h_193) (fun h_193 => ?_)
          refine x_iload_n (pc := 196) dX12_goesThrough_196 rfl ?_
          refine x_goto (pc := 197) (tgt := 206) dX12_goesThrough_197 rfl ?_
          refine x_iload_n (pc := 206) dX12_goesThrough_206 rfl ?_
          refine x_aload_n (pc := 207) dX12_goesThrough_207 rfl ?_
          refine m_getR (pc := 208) hM dX12_goesThrough_208 fk_12_56 (Or.inr ⟨_, rfl⟩) (Or.inl (by decide)) ?_
          refine x_bipush (pc := 211) (v := 7) dX12_goesThrough_211 rfl ?_
          refine x_iload_n (pc := 213) dX12_goesThrough_213 rfl ?_
          refine x_imul (pc := 214) dX12_goesThrough_214 ?_
          refine x_iload (pc := 215) dX12_goesThrough_215 rfl ?_
          refine x_iadd (pc := 217) dX12_goesThrough_217 ?_
          refine m_iald (pc := 218) hM dX12_goesThrough_218 (i7 t k) (by show 7 * t + k < 35; omega) ?_
          refine x_iadd (pc := 219) dX12_goesThrough_219 ?_
          refine x_iload (pc := 220) dX12_goesThrough_220 rfl ?_
          refine x_if_eq (pc := 222) (tgt := 247) dX12_goesThrough_222 rfl (fun h_222 => ?_) (fun h_222 => absurd (by decide) h_222)
          refine x_iconst (pc := 247) (v := 0) dX12_goesThrough_247 rfl ?_
          refine x_iadd (pc := 248) dX12_goesThrough_248 ?_
          refine x_iload (pc := 249) dX12_goesThrough_249 rfl ?_
          refine x_if_eq (pc := 251) (tgt := 261) dX12_goesThrough_251 rfl (fun h_251 => ?_) (fun h_251 => absurd (by decide) h_251)
          refine x_iload (pc := 261) dX12_goesThrough_261 rfl ?_
          refine x_callV (pc := 263) (As := [.int _, .int _, .int _, .int _]) dX12_goesThrough_263 mX12_goesThrough lk_12_291 hM.1 (c (t + 1) _ _ _ _ (by omega) (by omega) u15) rfl rfl (Nat.le_of_ble_eq_true rfl) ⟨by show _ ≤ N + 3; omega, by show _ ≤ 64 * (N + 3); omega⟩ ⟨Nat.zero_le _, Nat.zero_le _⟩ (k_rv ?_)
          refine x_iinc (pc := 266) (lv2 := [_, _, _, _, _, _, _, _, _]) dX12_goesThrough_266 (by decide) rfl rfl (nI_1 _) rfl ?_
          refine x_goto (pc := 269) (tgt := 96) dX12_goesThrough_269 rfl ?_
          unfold gst at IH
          first
            | rw [if_neg (by rintro (z | z); exact h_130 z; exact h_139 z.1)] at IH
            | rw [if_neg (by rintro (z | z); exact h_130 z; exact z.2 h_149)] at IH
            | (rw [if_pos (by first | exact Or.inl (by first | exact h_130 | exact Decidable.not_not.mp h_130) | exact Or.inr ⟨by first | exact h_139 | exact Decidable.not_not.mp h_139, h_149⟩)] at IH
               first
                 | rw [if_pos (by first | exact h_117 | exact Decidable.not_not.mp h_117)] at IH
                 | rw [if_neg (by exact h_117), if_pos (by exact h_175)] at IH
                 | (rw [if_neg (by exact h_117), if_neg (by exact h_175)] at IH
                    first
                      | rw [if_pos (show u.1 42 = 0 by first | exact h_229 | exact Decidable.not_not.mp h_229)] at IH
                      | rw [if_neg (show ¬ u.1 42 = 0 by exact h_229)] at IH))
          (try rw [if_pos hpl] at IH)
          (try rw [if_neg hpl] at IH)
          exact IH _ _ _
        · refine x_iconst (pc := 120) (v := 1) dX12_goesThrough_120 rfl ?_
          refine x_goto (pc := 121) (tgt := 125) dX12_goesThrough_121 rfl ?_
          refine x_istore (pc := 125) (lv2 := [_, _, _, _, _, _, _, _, _]) dX12_goesThrough_125 (by decide) rfl rfl ?_
          refine x_iload (pc := 127) dX12_goesThrough_127 rfl ?_
          refine x_iconst (pc := 129) (v := -1) dX12_goesThrough_129 rfl ?_
          refine x_icmp_eq (pc := 130) (tgt := 152) dX12_goesThrough_130 rfl (fun h_130 => ?_) (fun h_130 => absurd (hpl) h_130)
          refine x_iconst (pc := 152) (v := 1) dX12_goesThrough_152 rfl ?_
          refine x_goto (pc := 153) (tgt := 157) dX12_goesThrough_153 rfl ?_
          refine x_istore (pc := 157) (lv2 := [_, _, _, _, _, _, _, _, _]) dX12_goesThrough_157 (by decide) rfl rfl ?_
          refine x_iload (pc := 159) dX12_goesThrough_159 rfl ?_
          refine x_if_eq (pc := 161) (tgt := 266) dX12_goesThrough_161 rfl (fun h_161 => absurd h_161 (by decide)) (fun h_161 => ?_)
          refine x_iload (pc := 164) dX12_goesThrough_164 rfl ?_
          refine x_if_eq (pc := 166) (tgt := 178) dX12_goesThrough_166 rfl (fun h_166 => absurd h_166 (by decide)) (fun h_166 => ?_)
          refine x_iload (pc := 169) dX12_goesThrough_169 rfl ?_
          refine x_aload_n (pc := 171) dX12_goesThrough_171 rfl ?_
          refine m_getI (pc := 172) hM dX12_goesThrough_172 fk_12_295 (Or.inl rfl) ?_
          refine x_icmp_ge (pc := 175) (tgt := 266) dX12_goesThrough_175 rfl (fun h_175 => ?_) (fun h_175 => ?_)
          · refine x_iinc (pc := 266) (lv2 := [_, _, _, _, _, _, _, _, _]) dX12_goesThrough_266 (by decide) rfl rfl (nI_1 _) rfl ?_
            refine x_goto (pc := 269) (tgt := 96) dX12_goesThrough_269 rfl ?_
            unfold gst at IH
            first
              | rw [if_neg (by rintro (z | z); exact h_130 z; exact h_139 z.1)] at IH
              | rw [if_neg (by rintro (z | z); exact h_130 z; exact z.2 h_149)] at IH
              | (rw [if_pos (by first | exact Or.inl (by first | exact h_130 | exact Decidable.not_not.mp h_130) | exact Or.inr ⟨by first | exact h_139 | exact Decidable.not_not.mp h_139, h_149⟩)] at IH
                 first
                   | rw [if_pos (by first | exact h_117 | exact Decidable.not_not.mp h_117)] at IH
                   | rw [if_neg (by exact h_117), if_pos (by exact h_175)] at IH
                   | (rw [if_neg (by exact h_117), if_neg (by exact h_175)] at IH
                      first
                        | rw [if_pos (show u.1 42 = 0 by first | exact h_229 | exact Decidable.not_not.mp h_229)] at IH
                        | rw [if_neg (show ¬ u.1 42 = 0 by exact h_229)] at IH))
            (try rw [if_pos hpl] at IH)
            (try rw [if_neg hpl] at IH)
            exact IH _ _ _
          · refine x_aload_n (pc := 178) dX12_goesThrough_178 rfl ?_
            refine m_getR (pc := 179) hM dX12_goesThrough_179 fk_12_62 (Or.inr ⟨_, rfl⟩) (Or.inl (by decide)) ?_
            refine x_iload_n (pc := 182) dX12_goesThrough_182 rfl ?_
            refine x_iload (pc := 183) dX12_goesThrough_183 rfl ?_
            refine m_iast (pc := 185) hM dX12_goesThrough_185 (rfl) (by show t < 5; omega) ?_
            refine x_aload_n (pc := 186) dX12_goesThrough_186 rfl ?_
            refine x_iload_n (pc := 187) dX12_goesThrough_187 rfl ?_
            refine x_iconst (pc := 188) (v := 1) dX12_goesThrough_188 rfl ?_
            refine x_iadd (pc := 189) dX12_goesThrough_189 ?_
            rw [nI_1]
            refine x_iload (pc := 190) dX12_goesThrough_190 rfl ?_
            refine x_iconst (pc := 192) (v := -1) dX12_goesThrough_192 rfl ?_
            refine x_icmp_ne (pc := 193) (tgt := 200) dX12_goesThrough_193 rfl (fun h_193 => absurd (hpl) h_193) (fun h_193 => ?_)
            refine x_iload_n (pc := 196) dX12_goesThrough_196 rfl ?_
            refine x_goto (pc := 197) (tgt := 206) dX12_goesThrough_197 rfl ?_
            refine x_iload_n (pc := 206) dX12_goesThrough_206 rfl ?_
            refine x_aload_n (pc := 207) dX12_goesThrough_207 rfl ?_
            refine m_getR (pc := 208) hM dX12_goesThrough_208 fk_12_56 (Or.inr ⟨_, rfl⟩) (Or.inl (by decide)) ?_
            refine x_bipush (pc := 211) (v := 7) dX12_goesThrough_211 rfl ?_
            refine x_iload_n (pc := 213) dX12_goesThrough_213 rfl ?_
            refine x_imul (pc := 214) dX12_goesThrough_214 ?_
            refine x_iload (pc := 215) dX12_goesThrough_215 rfl ?_
            refine x_iadd (pc := 217) dX12_goesThrough_217 ?_
            refine m_iald (pc := 218) hM dX12_goesThrough_218 (i7 t k) (by show 7 * t + k < 35; omega) ?_
            refine x_iadd (pc := 219) dX12_goesThrough_219 ?_
            refine x_iload (pc := 220) dX12_goesThrough_220 rfl ?_
            refine x_if_eq (pc := 222) (tgt := 247) dX12_goesThrough_222 rfl (fun h_222 => absurd h_222 (by decide)) (fun h_222 => ?_)
            refine x_aload_n (pc := 225) dX12_goesThrough_225 rfl ?_
            refine m_getI (pc := 226) hM dX12_goesThrough_226 fk_12_298 (Or.inr rfl) ?_
            refine x_if_eq (pc := 229) (tgt := 247) dX12_goesThrough_229 rfl (fun h_229 => ?_) (fun h_229 => ?_)
            · refine x_iconst (pc := 247) (v := 0) dX12_goesThrough_247 rfl ?_
              refine x_iadd (pc := 248) dX12_goesThrough_248 ?_
              refine x_iload (pc := 249) dX12_goesThrough_249 rfl ?_
              refine x_if_eq (pc := 251) (tgt := 261) dX12_goesThrough_251 rfl (fun h_251 => absurd h_251 (by decide)) (fun h_251 => ?_)
              refine x_iload (pc := 254) dX12_goesThrough_254 rfl ?_
              refine x_iconst (pc := 256) (v := 1) dX12_goesThrough_256 rfl ?_
              refine x_iadd (pc := 257) dX12_goesThrough_257 ?_
              refine x_goto (pc := 258) (tgt := 263) dX12_goesThrough_258 rfl ?_
              refine x_callV (pc := 263) (As := [.int _, .int _, .int _, .int _]) dX12_goesThrough_263 mX12_goesThrough lk_12_291 hM.1 (c (t + 1) _ _ _ _ (by omega) (by omega) u15) rfl rfl (Nat.le_of_ble_eq_true rfl) ⟨by show _ ≤ N + 3; omega, by show _ ≤ 64 * (N + 3); omega⟩ ⟨Nat.zero_le _, Nat.zero_le _⟩ (k_rv ?_)
              refine x_iinc (pc := 266) (lv2 := [_, _, _, _, _, _, _, _, _]) dX12_goesThrough_266 (by decide) rfl rfl (nI_1 _) rfl ?_
              refine x_goto (pc := 269) (tgt := 96) dX12_goesThrough_269 rfl ?_
              unfold gst at IH
              first
                | rw [if_neg (by rintro (z | z); exact h_130 z; exact h_139 z.1)] at IH
                | rw [if_neg (by rintro (z | z); exact h_130 z; exact z.2 h_149)] at IH
                | (rw [if_pos (by first | exact Or.inl (by first | exact h_130 | exact Decidable.not_not.mp h_130) | exact Or.inr ⟨by first | exact h_139 | exact Decidable.not_not.mp h_139, h_149⟩)] at IH
                   first
                     | rw [if_pos (by first | exact h_117 | exact Decidable.not_not.mp h_117)] at IH
                     | rw [if_neg (by exact h_117), if_pos (by exact h_175)] at IH
                     | (rw [if_neg (by exact h_117), if_neg (by exact h_175)] at IH
                        first
                          | rw [if_pos (show u.1 42 = 0 by first | exact h_229 | exact Decidable.not_not.mp h_229)] at IH
                          | rw [if_neg (show ¬ u.1 42 = 0 by exact h_229)] at IH))
              (try rw [if_pos hpl] at IH)
              (try rw [if_neg hpl] at IH)
              exact IH _ _ _
            · refine x_aload_n (pc := 232) dX12_goesThrough_232 rfl ?_
              refine m_getR (pc := 233) hM dX12_goesThrough_233 fk_12_50 (Or.inr ⟨_, rfl⟩) (Or.inl (by decide)) ?_
              refine x_bipush (pc := 236) (v := 7) dX12_goesThrough_236 rfl ?_
              refine x_iload_n (pc := 238) dX12_goesThrough_238 rfl ?_
              refine x_imul (pc := 239) dX12_goesThrough_239 ?_
              refine x_iload (pc := 240) dX12_goesThrough_240 rfl ?_
              refine x_iadd (pc := 242) dX12_goesThrough_242 ?_
              refine m_iald (pc := 243) hM dX12_goesThrough_243 (i7 t k) (by show 7 * t + k < 35; omega) ?_
              refine x_goto (pc := 244) (tgt := 248) dX12_goesThrough_244 rfl ?_
              refine x_iadd (pc := 248) dX12_goesThrough_248 ?_
              refine x_iload (pc := 249) dX12_goesThrough_249 rfl ?_
              refine x_if_eq (pc := 251) (tgt := 261) dX12_goesThrough_251 rfl (fun h_251 => absurd h_251 (by decide)) (fun h_251 => ?_)
              refine x_iload (pc := 254) dX12_goesThrough_254 rfl ?_
              refine x_iconst (pc := 256) (v := 1) dX12_goesThrough_256 rfl ?_
              refine x_iadd (pc := 257) dX12_goesThrough_257 ?_
              refine x_goto (pc := 258) (tgt := 263) dX12_goesThrough_258 rfl ?_
              refine x_callV (pc := 263) (As := [.int _, .int _, .int _, .int _]) dX12_goesThrough_263 mX12_goesThrough lk_12_291 hM.1 (c (t + 1) _ _ _ _ (by omega) (by omega) u15) rfl rfl (Nat.le_of_ble_eq_true rfl) ⟨by show _ ≤ N + 3; omega, by show _ ≤ 64 * (N + 3); omega⟩ ⟨Nat.zero_le _, Nat.zero_le _⟩ (k_rv ?_)
              refine x_iinc (pc := 266) (lv2 := [_, _, _, _, _, _, _, _, _]) dX12_goesThrough_266 (by decide) rfl rfl (nI_1 _) rfl ?_
              refine x_goto (pc := 269) (tgt := 96) dX12_goesThrough_269 rfl ?_
              unfold gst at IH
              first
                | rw [if_neg (by rintro (z | z); exact h_130 z; exact h_139 z.1)] at IH
                | rw [if_neg (by rintro (z | z); exact h_130 z; exact z.2 h_149)] at IH
                | (rw [if_pos (by first | exact Or.inl (by first | exact h_130 | exact Decidable.not_not.mp h_130) | exact Or.inr ⟨by first | exact h_139 | exact Decidable.not_not.mp h_139, h_149⟩)] at IH
                   first
                     | rw [if_pos (by first | exact h_117 | exact Decidable.not_not.mp h_117)] at IH
                     | rw [if_neg (by exact h_117), if_pos (by exact h_175)] at IH
                     | (rw [if_neg (by exact h_117), if_neg (by exact h_175)] at IH
                        first
                          | rw [if_pos (show u.1 42 = 0 by first | exact h_229 | exact Decidable.not_not.mp h_229)] at IH
                          | rw [if_neg (show ¬ u.1 42 = 0 by exact h_229)] at IH))
              (try rw [if_pos hpl] at IH)
              (try rw [if_neg hpl] at IH)
              exact IH _ _ _
      · refine x_iload (pc := 96) dX12_goesThrough_96 rfl ?_
        refine x_bipush (pc := 98) (v := 7) dX12_goesThrough_98 rfl ?_
        refine x_icmp_ge (pc := 100) (tgt := 272) dX12_goesThrough_100 rfl (fun h_100 => absurd h_100 (lit_le (n := 7) k (by omega) (by omega))) (fun h_100 => ?_)
        refine x_iload (pc := 103) dX12_goesThrough_103 rfl ?_
        refine x_iconst (pc := 105) (v := 1) dX12_goesThrough_105 rfl ?_
        refine x_isub (pc := 106) dX12_goesThrough_106 ?_
        refine x_istore (pc := 107) (lv2 := [_, _, _, _, _, _, _, _, _]) dX12_goesThrough_107 (by decide) rfl rfl ?_
        refine x_iload (pc := 109) dX12_goesThrough_109 rfl ?_
        refine x_aload_n (pc := 111) dX12_goesThrough_111 rfl ?_
        refine m_getR (pc := 112) hM dX12_goesThrough_112 fk_12_68 (Or.inr ⟨_, rfl⟩) (Or.inl (by decide)) ?_
        refine x_iload_n (pc := 115) dX12_goesThrough_115 rfl ?_
        refine m_iald (pc := 116) hM dX12_goesThrough_116 (rfl) (by show t < 5; omega) ?_
        refine x_icmp_eq (pc := 117) (tgt := 124) dX12_goesThrough_117 rfl (fun h_117 => ?_) (fun h_117 => ?_)
        · refine x_iconst (pc := 124) (v := 0) dX12_goesThrough_124 rfl ?_
          refine x_istore (pc := 125) (lv2 := [_, _, _, _, _, _, _, _, _]) dX12_goesThrough_125 (by decide) rfl rfl ?_
          refine x_iload (pc := 127) dX12_goesThrough_127 rfl ?_
          refine x_iconst (pc := 129) (v := -1) dX12_goesThrough_129 rfl ?_
          refine x_icmp_eq (pc := 130) (tgt := 152) dX12_goesThrough_130 rfl (fun h_130 => absurd h_130 (hpl)) (fun h_130 => ?_)
          refine x_iload_n (pc := 133) dX12_goesThrough_133 rfl ?_
          refine x_iload (pc := 134) dX12_goesThrough_134 rfl ?_
          refine x_ishr (pc := 136) dX12_goesThrough_136 ?_
          refine x_iconst (pc := 137) (v := 1) dX12_goesThrough_137 rfl ?_
          refine x_iand (pc := 138) dX12_goesThrough_138 ?_
          refine x_if_ne (pc := 139) (tgt := 156) dX12_goesThrough_139 rfl (fun h_139 => ?_) (fun h_139 => ?_)
          · refine x_iconst (pc := 156) (v := 0) dX12_goesThrough_156 rfl ?_
            refine x_istore (pc := 157) (lv2 := [_, _, _, _, _, _, _, _, _]) dX12_goesThrough_157 (by decide) rfl rfl ?_
            refine x_iload (pc := 159) dX12_goesThrough_159 rfl ?_
            refine x_if_eq (pc := 161) (tgt := 266) dX12_goesThrough_161 rfl (fun h_161 => ?_) (fun h_161 => absurd (by decide) h_161)
            refine x_iinc (pc := 266) (lv2 := [_, _, _, _, _, _, _, _, _]) dX12_goesThrough_266 (by decide) rfl rfl (nI_1 _) rfl ?_
            refine x_goto (pc := 269) (tgt := 96) dX12_goesThrough_269 rfl ?_
            unfold gst at IH
            first
              | rw [if_neg (by rintro (z | z); exact h_130 z; exact h_139 z.1)] at IH
              | rw [if_neg (by rintro (z | z); exact h_130 z; exact z.2 h_149)] at IH
              | (rw [if_pos (by first | exact Or.inl (by first | exact h_130 | exact Decidable.not_not.mp h_130) | exact Or.inr ⟨by first | exact h_139 | exact Decidable.not_not.mp h_139, h_149⟩)] at IH
                 first
                   | rw [if_pos (by first | exact h_117 | exact Decidable.not_not.mp h_117)] at IH
                   | rw [if_neg (by exact h_117), if_pos (by exact h_175)] at IH
                   | (rw [if_neg (by exact h_117), if_neg (by exact h_175)] at IH
                      first
                        | rw [if_pos (show u.1 42 = 0 by first | exact h_229 | exact Decidable.not_not.mp h_229)] at IH
                        | rw [if_neg (show ¬ u.1 42 = 0 by exact h_229)] at IH))
            (try rw [if_pos hpl] at IH)
            (try rw [if_neg hpl] at IH)
            exact IH _ _ _
          · refine x_aload_n (pc := 142) dX12_goesThrough_142 rfl ?_
            refine x_iload_n (pc := 143) dX12_goesThrough_143 rfl ?_
            refine x_iload (pc := 144) dX12_goesThrough_144 rfl ?_
            refine x_callV (pc := 146) (As := [.int _, .int _]) dX12_goesThrough_146 mX12_stands lk_12_130 hM.1 (c_stands hM _ rfl (by omega)) rfl rfl (Nat.le_of_ble_eq_true rfl) ⟨by show _ ≤ N + 3; omega, by show _ ≤ 64 * (N + 3); omega⟩ ⟨Nat.zero_le _, Nat.zero_le _⟩ (k_rt ?_)
            refine x_if_eq (pc := 149) (tgt := 156) dX12_goesThrough_149 rfl (fun h_149 => ?_) (fun h_149 => ?_)
            · refine x_iconst (pc := 156) (v := 0) dX12_goesThrough_156 rfl ?_
              refine x_istore (pc := 157) (lv2 := [_, _, _, _, _, _, _, _, _]) dX12_goesThrough_157 (by decide) rfl rfl ?_
              refine x_iload (pc := 159) dX12_goesThrough_159 rfl ?_
              refine x_if_eq (pc := 161) (tgt := 266) dX12_goesThrough_161 rfl (fun h_161 => ?_) (fun h_161 => absurd (by decide) h_161)
              refine x_iinc (pc := 266) (lv2 := [_, _, _, _, _, _, _, _, _]) dX12_goesThrough_266 (by decide) rfl rfl (nI_1 _) rfl ?_
              refine x_goto (pc := 269) (tgt := 96) dX12_goesThrough_269 rfl ?_
              unfold gst at IH
              first
                | rw [if_neg (by rintro (z | z); exact h_130 z; exact h_139 z.1)] at IH
                | rw [if_neg (by rintro (z | z); exact h_130 z; exact z.2 h_149)] at IH
                | (rw [if_pos (by first | exact Or.inl (by first | exact h_130 | exact Decidable.not_not.mp h_130) | exact Or.inr ⟨by first | exact h_139 | exact Decidable.not_not.mp h_139, h_149⟩)] at IH
                   first
                     | rw [if_pos (by first | exact h_117 | exact Decidable.not_not.mp h_117)] at IH
                     | rw [if_neg (by exact h_117), if_pos (by exact h_175)] at IH
                     | (rw [if_neg (by exact h_117), if_neg (by exact h_175)] at IH
                        first
                          | rw [if_pos (show u.1 42 = 0 by first | exact h_229 | exact Decidable.not_not.mp h_229)] at IH
                          | rw [if_neg (show ¬ u.1 42 = 0 by exact h_229)] at IH))
              (try rw [if_pos hpl] at IH)
              (try rw [if_neg hpl] at IH)
              exact IH _ _ _
            · refine x_iconst (pc := 152) (v := 1) dX12_goesThrough_152 rfl ?_
              refine x_goto (pc := 153) (tgt := 157) dX12_goesThrough_153 rfl ?_
              refine x_istore (pc := 157) (lv2 := [_, _, _, _, _, _, _, _, _]) dX12_goesThrough_157 (by decide) rfl rfl ?_
              refine x_iload (pc := 159) dX12_goesThrough_159 rfl ?_
              refine x_if_eq (pc := 161) (tgt := 266) dX12_goesThrough_161 rfl (fun h_161 => absurd h_161 (by decide)) (fun h_161 => ?_)
              refine x_iload (pc := 164) dX12_goesThrough_164 rfl ?_
              refine x_if_eq (pc := 166) (tgt := 178) dX12_goesThrough_166 rfl (fun h_166 => ?_) (fun h_166 => absurd (by decide) h_166)
              refine x_aload_n (pc := 178) dX12_goesThrough_178 rfl ?_
              refine m_getR (pc := 179) hM dX12_goesThrough_179 fk_12_62 (Or.inr ⟨_, rfl⟩) (Or.inl (by decide)) ?_
              refine x_iload_n (pc := 182) dX12_goesThrough_182 rfl ?_
              refine x_iload (pc := 183) dX12_goesThrough_183 rfl ?_
              refine m_iast (pc := 185) hM dX12_goesThrough_185 (rfl) (by show t < 5; omega) ?_
              refine x_aload_n (pc := 186) dX12_goesThrough_186 rfl ?_
              refine x_iload_n (pc := 187) dX12_goesThrough_187 rfl ?_
              refine x_iconst (pc := 188) (v := 1) dX12_goesThrough_188 rfl ?_
              refine x_iadd (pc := 189) dX12_goesThrough_189 ?_
              rw [nI_1]
              refine x_iload (pc := 190) dX12_goesThrough_190 rfl ?_
              refine x_iconst (pc := 192) (v := -1) dX12_goesThrough_192 rfl ?_
              refine x_icmp_ne (pc := 193) (tgt := 200) dX12_goesThrough_193 rfl (fun h_193 => ?_) (fun h_193 => absurd h_193 (hpl))
              refine x_iload_n (pc := 200) dX12_goesThrough_200 rfl ?_
              refine x_iconst (pc := 201) (v := 1) dX12_goesThrough_201 rfl ?_
              refine x_iload (pc := 202) dX12_goesThrough_202 rfl ?_
              refine x_ishl (pc := 204) dX12_goesThrough_204 ?_
              refine x_ior (pc := 205) dX12_goesThrough_205 ?_
              refine x_iload_n (pc := 206) dX12_goesThrough_206 rfl ?_
              refine x_aload_n (pc := 207) dX12_goesThrough_207 rfl ?_
              refine m_getR (pc := 208) hM dX12_goesThrough_208 fk_12_56 (Or.inr ⟨_, rfl⟩) (Or.inl (by decide)) ?_
              refine x_bipush (pc := 211) (v := 7) dX12_goesThrough_211 rfl ?_
              refine x_iload_n (pc := 213) dX12_goesThrough_213 rfl ?_
              refine x_imul (pc := 214) dX12_goesThrough_214 ?_
              refine x_iload (pc := 215) dX12_goesThrough_215 rfl ?_
              refine x_iadd (pc := 217) dX12_goesThrough_217 ?_
              refine m_iald (pc := 218) hM dX12_goesThrough_218 (i7 t k) (by show 7 * t + k < 35; omega) ?_
              refine x_iadd (pc := 219) dX12_goesThrough_219 ?_
              refine x_iload (pc := 220) dX12_goesThrough_220 rfl ?_
              refine x_if_eq (pc := 222) (tgt := 247) dX12_goesThrough_222 rfl (fun h_222 => ?_) (fun h_222 => absurd (by decide) h_222)
              refine x_iconst (pc := 247) (v := 0) dX12_goesThrough_247 rfl ?_
              refine x_iadd (pc := 248) dX12_goesThrough_248 ?_
              refine x_iload (pc := 249) dX12_goesThrough_249 rfl ?_
              refine x_if_eq (pc := 251) (tgt := 261) dX12_goesThrough_251 rfl (fun h_251 => ?_) (fun h_251 => absurd (by decide) h_251)
              refine x_iload (pc := 261) dX12_goesThrough_261 rfl ?_
              refine x_callV (pc := 263) (As := [.int _, .int _, .int _, .int _]) dX12_goesThrough_263 mX12_goesThrough lk_12_291 hM.1 (c (t + 1) _ _ _ _ (by omega) (by omega) u15) rfl rfl (Nat.le_of_ble_eq_true rfl) ⟨by show _ ≤ N + 3; omega, by show _ ≤ 64 * (N + 3); omega⟩ ⟨Nat.zero_le _, Nat.zero_le _⟩ (k_rv ?_)
              refine x_iinc (pc := 266) (lv2 := [_, _, _, _, _, _, _, _, _]) dX12_goesThrough_266 (by decide) rfl rfl (nI_1 _) rfl ?_
              refine x_goto (pc := 269) (tgt := 96) dX12_goesThrough_269 rfl ?_
              unfold gst at IH
              first
                | rw [if_neg (by rintro (z | z); exact h_130 z; exact h_139 z.1)] at IH
                | rw [if_neg (by rintro (z | z); exact h_130 z; exact z.2 h_149)] at IH
                | (rw [if_pos (by first | exact Or.inl (by first | exact h_130 | exact Decidable.not_not.mp h_130) | exact Or.inr ⟨by first | exact h_139 | exact Decidable.not_not.mp h_139, h_149⟩)] at IH
                   first
                     | rw [if_pos (by first | exact h_117 | exact Decidable.not_not.mp h_117)] at IH
                     | rw [if_neg (by exact h_117), if_pos (by exact h_175)] at IH
                     | (rw [if_neg (by exact h_117), if_neg (by exact h_175)] at IH
                        first
                          | rw [if_pos (show u.1 42 = 0 by first | exact h_229 | exact Decidable.not_not.mp h_229)] at IH
                          | rw [if_neg (show ¬ u.1 42 = 0 by exact h_229)] at IH))
              (try rw [if_pos hpl] at IH)
              (try rw [if_neg hpl] at IH)
              exact IH _ _ _
        · refine x_iconst (pc := 120) (v := 1) dX12_goesThrough_120 rfl ?_
          refine x_goto (pc := 121) (tgt := 125) dX12_goesThrough_121 rfl ?_
          refine x_istore (pc := 125) (lv2 := [_, _, _, _, _, _, _, _, _]) dX12_goesThrough_125 (by decide) rfl rfl ?_
          refine x_iload (pc := 127) dX12_goesThrough_127 rfl ?_
          refine x_iconst (pc := 129) (v := -1) dX12_goesThrough_129 rfl ?_
          refine x_icmp_eq (pc := 130) (tgt := 152) dX12_goesThrough_130 rfl (fun h_130 => absurd h_130 (hpl)) (fun h_130 => ?_)
          refine x_iload_n (pc := 133) dX12_goesThrough_133 rfl ?_
          refine x_iload (pc := 134) dX12_goesThrough_134 rfl ?_
          refine x_ishr (pc := 136) dX12_goesThrough_136 ?_
          refine x_iconst (pc := 137) (v := 1) dX12_goesThrough_137 rfl ?_
          refine x_iand (pc := 138) dX12_goesThrough_138 ?_
          refine x_if_ne (pc := 139) (tgt := 156) dX12_goesThrough_139 rfl (fun h_139 => ?_) (fun h_139 => ?_)
          · refine x_iconst (pc := 156) (v := 0) dX12_goesThrough_156 rfl ?_
            refine x_istore (pc := 157) (lv2 := [_, _, _, _, _, _, _, _, _]) dX12_goesThrough_157 (by decide) rfl rfl ?_
            refine x_iload (pc := 159) dX12_goesThrough_159 rfl ?_
            refine x_if_eq (pc := 161) (tgt := 266) dX12_goesThrough_161 rfl (fun h_161 => ?_) (fun h_161 => absurd (by decide) h_161)
            refine x_iinc (pc := 266) (lv2 := [_, _, _, _, _, _, _, _, _]) dX12_goesThrough_266 (by decide) rfl rfl (nI_1 _) rfl ?_
            refine x_goto (pc := 269) (tgt := 96) dX12_goesThrough_269 rfl ?_
            unfold gst at IH
            first
              | rw [if_neg (by rintro (z | z); exact h_130 z; exact h_139 z.1)] at IH
              | rw [if_neg (by rintro (z | z); exact h_130 z; exact z.2 h_149)] at IH
              | (rw [if_pos (by first | exact Or.inl (by first | exact h_130 | exact Decidable.not_not.mp h_130) | exact Or.inr ⟨by first | exact h_139 | exact Decidable.not_not.mp h_139, h_149⟩)] at IH
                 first
                   | rw [if_pos (by first | exact h_117 | exact Decidable.not_not.mp h_117)] at IH
                   | rw [if_neg (by exact h_117), if_pos (by exact h_175)] at IH
                   | (rw [if_neg (by exact h_117), if_neg (by exact h_175)] at IH
                      first
                        | rw [if_pos (show u.1 42 = 0 by first | exact h_229 | exact Decidable.not_not.mp h_229)] at IH
                        | rw [if_neg (show ¬ u.1 42 = 0 by exact h_229)] at IH))
            (try rw [if_pos hpl] at IH)
            (try rw [if_neg hpl] at IH)
            exact IH _ _ _
          · refine x_aload_n (pc := 142) dX12_goesThrough_142 rfl ?_
            refine x_iload_n (pc := 143) dX12_goesThrough_143 rfl ?_
            refine x_iload (pc := 144) dX12_goesThrough_144 rfl ?_
            refine x_callV (pc := 146) (As := [.int _, .int _]) dX12_goesThrough_146 mX12_stands lk_12_130 hM.1 (c_stands hM _ rfl (by omega)) rfl rfl (Nat.le_of_ble_eq_true rfl) ⟨by show _ ≤ N + 3; omega, by show _ ≤ 64 * (N + 3); omega⟩ ⟨Nat.zero_le _, Nat.zero_le _⟩ (k_rt ?_)
            refine x_if_eq (pc := 149) (tgt := 156) dX12_goesThrough_149 rfl (fun h_149 => ?_) (fun h_149 => ?_)
            · refine x_iconst (pc := 156) (v := 0) dX12_goesThrough_156 rfl ?_
              refine x_istore (pc := 157) (lv2 := [_, _, _, _, _, _, _, _, _]) dX12_goesThrough_157 (by decide) rfl rfl ?_
              refine x_iload (pc := 159) dX12_goesThrough_159 rfl ?_
              refine x_if_eq (pc := 161) (tgt := 266) dX12_goesThrough_161 rfl (fun h_161 => ?_) (fun h_161 => absurd (by decide) h_161)
              refine x_iinc (pc := 266) (lv2 := [_, _, _, _, _, _, _, _, _]) dX12_goesThrough_266 (by decide) rfl rfl (nI_1 _) rfl ?_
              refine x_goto (pc := 269) (tgt := 96) dX12_goesThrough_269 rfl ?_
              unfold gst at IH
              first
                | rw [if_neg (by rintro (z | z); exact h_130 z; exact h_139 z.1)] at IH
                | rw [if_neg (by rintro (z | z); exact h_130 z; exact z.2 h_149)] at IH
                | (rw [if_pos (by first | exact Or.inl (by first | exact h_130 | exact Decidable.not_not.mp h_130) | exact Or.inr ⟨by first | exact h_139 | exact Decidable.not_not.mp h_139, h_149⟩)] at IH
                   first
                     | rw [if_pos (by first | exact h_117 | exact Decidable.not_not.mp h_117)] at IH
                     | rw [if_neg (by exact h_117), if_pos (by exact h_175)] at IH
                     | (rw [if_neg (by exact h_117), if_neg (by exact h_175)] at IH
                        first
                          | rw [if_pos (show u.1 42 = 0 by first | exact h_229 | exact Decidable.not_not.mp h_229)] at IH
                          | rw [if_neg (show ¬ u.1 42 = 0 by exact h_229)] at IH))
              (try rw [if_pos hpl] at IH)
              (try rw [if_neg hpl] at IH)
              exact IH _ _ _
            · refine x_iconst (pc := 152) (v := 1) dX12_goesThrough_152 rfl ?_
              refine x_goto (pc := 153) (tgt := 157) dX12_goesThrough_153 rfl ?_
              refine x_istore (pc := 157) (lv2 := [_, _, _, _, _, _, _, _, _]) dX12_goesThrough_157 (by decide) rfl rfl ?_
              refine x_iload (pc := 159) dX12_goesThrough_159 rfl ?_
              refine x_if_eq (pc := 161) (tgt := 266) dX12_goesThrough_161 rfl (fun h_161 => absurd h_161 (by decide)) (fun h_161 => ?_)
              refine x_iload (pc := 164) dX12_goesThrough_164 rfl ?_
              refine x_if_eq (pc := 166) (tgt := 178) dX12_goesThrough_166 rfl (fun h_166 => absurd h_166 (by decide)) (fun h_166 => ?_)
              refine x_iload (pc := 169) dX12_goesThrough_169 rfl ?_
              refine x_aload_n (pc := 171) dX12_goesThrough_171 rfl ?_
              refine m_getI (pc := 172) hM dX12_goesThrough_172 fk_12_295 (Or.inl rfl) ?_
              refine x_icmp_ge (pc := 175) (tgt := 266) dX12_goesThrough_175 rfl (fun h_175 => ?_) (fun h_175 => ?_)
              · refine x_iinc (pc := 266) (lv2 := [_, _, _, _, _, _, _, _, _]) dX12_goesThrough_266 (by decide) rfl rfl (nI_1 _) rfl ?_
                refine x_goto (pc := 269) (tgt := 96) dX12_goesThrough_269 rfl ?_
                unfold gst at IH
                first
                  | rw [if_neg (by rintro (z | z); exact h_130 z; exact h_139 z.1)] at IH
                  | rw [if_neg (by rintro (z | z); exact h_130 z; exact z.2 h_149)] at IH
                  | (rw [if_pos (by first | exact Or.inl (by first | exact h_130 | exact Decidable.not_not.mp h_130) | exact Or.inr ⟨by first | exact h_139 | exact Decidable.not_not.mp h_139, h_149⟩)] at IH
                     first
                       | rw [if_pos (by first | exact h_117 | exact Decidable.not_not.mp h_117)] at IH
                       | rw [if_neg (by exact h_117), if_pos (by exact h_175)] at IH
                       | (rw [if_neg (by exact h_117), if_neg (by exact h_175)] at IH
                          first
                            | rw [if_pos (show u.1 42 = 0 by first | exact h_229 | exact Decidable.not_not.mp h_229)] at IH
                            | rw [if_neg (show ¬ u.1 42 = 0 by exact h_229)] at IH))
                (try rw [if_pos hpl] at IH)
                (try rw [if_neg hpl] at IH)
                exact IH _ _ _
              · refine x_aload_n (pc := 178) dX12_goesThrough_178 rfl ?_
                refine m_getR (pc := 179) hM dX12_goesThrough_179 fk_12_62 (Or.inr ⟨_, rfl⟩) (Or.inl (by decide)) ?_
                refine x_iload_n (pc := 182) dX12_goesThrough_182 rfl ?_
                refine x_iload (pc := 183) dX12_goesThrough_183 rfl ?_
                refine m_iast (pc := 185) hM dX12_goesThrough_185 (rfl) (by show t < 5; omega) ?_
                refine x_aload_n (pc := 186) dX12_goesThrough_186 rfl ?_
                refine x_iload_n (pc := 187) dX12_goesThrough_187 rfl ?_
                refine x_iconst (pc := 188) (v := 1) dX12_goesThrough_188 rfl ?_
                refine x_iadd (pc := 189) dX12_goesThrough_189 ?_
                rw [nI_1]
                refine x_iload (pc := 190) dX12_goesThrough_190 rfl ?_
                refine x_iconst (pc := 192) (v := -1) dX12_goesThrough_192 rfl ?_
                refine x_icmp_ne (pc := 193) (tgt := 200) dX12_goesThrough_193 rfl (fun h_193 => ?_) (fun h_193 => absurd h_193 (hpl))
                refine x_iload_n (pc := 200) dX12_goesThrough_200 rfl ?_
                refine x_iconst (pc := 201) (v := 1) dX12_goesThrough_201 rfl ?_
                refine x_iload (pc := 202) dX12_goesThrough_202 rfl ?_
                refine x_ishl (pc := 204) dX12_goesThrough_204 ?_
                refine x_ior (pc := 205) dX12_goesThrough_205 ?_
                refine x_iload_n (pc := 206) dX12_goesThrough_206 rfl ?_
                refine x_aload_n (pc := 207) dX12_goesThrough_207 rfl ?_
                refine m_getR (pc := 208) hM dX12_goesThrough_208 fk_12_56 (Or.inr ⟨_, rfl⟩) (Or.inl (by decide)) ?_
                refine x_bipush (pc := 211) (v := 7) dX12_goesThrough_211 rfl ?_
                refine x_iload_n (pc := 213) dX12_goesThrough_213 rfl ?_
                refine x_imul (pc := 214) dX12_goesThrough_214 ?_
                refine x_iload (pc := 215) dX12_goesThrough_215 rfl ?_
                refine x_iadd (pc := 217) dX12_goesThrough_217 ?_
                refine m_iald (pc := 218) hM dX12_goesThrough_218 (i7 t k) (by show 7 * t + k < 35; omega) ?_
                refine x_iadd (pc := 219) dX12_goesThrough_219 ?_
                refine x_iload (pc := 220) dX12_goesThrough_220 rfl ?_
                refine x_if_eq (pc := 222) (tgt := 247) dX12_goesThrough_222 rfl (fun h_222 => absurd h_222 (by decide)) (fun h_222 => ?_)
                refine x_aload_n (pc := 225) dX12_goesThrough_225 rfl ?_
                refine m_getI (pc := 226) hM dX12_goesThrough_226 fk_12_298 (Or.inr rfl) ?_
                refine x_if_eq (pc := 229) (tgt := 247) dX12_goesThrough_229 rfl (fun h_229 => ?_) (fun h_229 => ?_)
                · refine x_iconst (pc := 247) (v := 0) dX12_goesThrough_247 rfl ?_
                  refine x_iadd (pc := 248) dX12_goesThrough_248 ?_
                  refine x_iload (pc := 249) dX12_goesThrough_249 rfl ?_
                  refine x_if_eq (pc := 251) (tgt := 261) dX12_goesThrough_251 rfl (fun h_251 => absurd h_251 (by decide)) (fun h_251 => ?_)
                  refine x_iload (pc := 254) dX12_goesThrough_254 rfl ?_
                  refine x_iconst (pc := 256) (v := 1) dX12_goesThrough_256 rfl ?_
                  refine x_iadd (pc := 257) dX12_goesThrough_257 ?_
                  refine x_goto (pc := 258) (tgt := 263) dX12_goesThrough_258 rfl ?_
                  refine x_callV (pc := 263) (As := [.int _, .int _, .int _, .int _]) dX12_goesThrough_263 mX12_goesThrough lk_12_291 hM.1 (c (t + 1) _ _ _ _ (by omega) (by omega) u15) rfl rfl (Nat.le_of_ble_eq_true rfl) ⟨by show _ ≤ N + 3; omega, by show _ ≤ 64 * (N + 3); omega⟩ ⟨Nat.zero_le _, Nat.zero_le _⟩ (k_rv ?_)
                  refine x_iinc (pc := 266) (lv2 := [_, _, _, _, _, _, _, _, _]) dX12_goesThrough_266 (by decide) rfl rfl (nI_1 _) rfl ?_
                  refine x_goto (pc := 269) (tgt := 96) dX12_goesThrough_269 rfl ?_
                  unfold gst at IH
                  first
                    | rw [if_neg (by rintro (z | z); exact h_130 z; exact h_139 z.1)] at IH
                    | rw [if_neg (by rintro (z | z); exact h_130 z; exact z.2 h_149)] at IH
                    | (rw [if_pos (by first | exact Or.inl (by first | exact h_130 | exact Decidable.not_not.mp h_130) | exact Or.inr ⟨by first | exact h_139 | exact Decidable.not_not.mp h_139, h_149⟩)] at IH
                       first
                         | rw [if_pos (by first | exact h_117 | exact Decidable.not_not.mp h_117)] at IH
                         | rw [if_neg (by exact h_117), if_pos (by exact h_175)] at IH
                         | (rw [if_neg (by exact h_117), if_neg (by exact h_175)] at IH
                            first
                              | rw [if_pos (show u.1 42 = 0 by first | exact h_229 | exact Decidable.not_not.mp h_229)] at IH
                              | rw [if_neg (show ¬ u.1 42 = 0 by exact h_229)] at IH))
                  (try rw [if_pos hpl] at IH)
                  (try rw [if_neg hpl] at IH)
                  exact IH _ _ _
                · refine x_aload_n (pc := 232) dX12_goesThrough_232 rfl ?_
                  refine m_getR (pc := 233) hM dX12_goesThrough_233 fk_12_50 (Or.inr ⟨_, rfl⟩) (Or.inl (by decide)) ?_
                  refine x_bipush (pc := 236) (v := 7) dX12_goesThrough_236 rfl ?_
                  refine x_iload_n (pc := 238) dX12_goesThrough_238 rfl ?_
                  refine x_imul (pc := 239) dX12_goesThrough_239 ?_
                  refine x_iload (pc := 240) dX12_goesThrough_240 rfl ?_
                  refine x_iadd (pc := 242) dX12_goesThrough_242 ?_
                  refine m_iald (pc := 243) hM dX12_goesThrough_243 (i7 t k) (by show 7 * t + k < 35; omega) ?_
                  refine x_goto (pc := 244) (tgt := 248) dX12_goesThrough_244 rfl ?_
                  refine x_iadd (pc := 248) dX12_goesThrough_248 ?_
                  refine x_iload (pc := 249) dX12_goesThrough_249 rfl ?_
                  refine x_if_eq (pc := 251) (tgt := 261) dX12_goesThrough_251 rfl (fun h_251 => absurd h_251 (by decide)) (fun h_251 => ?_)
                  refine x_iload (pc := 254) dX12_goesThrough_254 rfl ?_
                  refine x_iconst (pc := 256) (v := 1) dX12_goesThrough_256 rfl ?_
                  refine x_iadd (pc := 257) dX12_goesThrough_257 ?_
                  refine x_goto (pc := 258) (tgt := 263) dX12_goesThrough_258 rfl ?_
                  refine x_callV (pc := 263) (As := [.int _, .int _, .int _, .int _]) dX12_goesThrough_263 mX12_goesThrough lk_12_291 hM.1 (c (t + 1) _ _ _ _ (by omega) (by omega) u15) rfl rfl (Nat.le_of_ble_eq_true rfl) ⟨by show _ ≤ N + 3; omega, by show _ ≤ 64 * (N + 3); omega⟩ ⟨Nat.zero_le _, Nat.zero_le _⟩ (k_rv ?_)
                  refine x_iinc (pc := 266) (lv2 := [_, _, _, _, _, _, _, _, _]) dX12_goesThrough_266 (by decide) rfl rfl (nI_1 _) rfl ?_
                  refine x_goto (pc := 269) (tgt := 96) dX12_goesThrough_269 rfl ?_
                  unfold gst at IH
                  first
                    | rw [if_neg (by rintro (z | z); exact h_130 z; exact h_139 z.1)] at IH
                    | rw [if_neg (by rintro (z | z); exact h_130 z; exact z.2 h_149)] at IH
                    | (rw [if_pos (by first | exact Or.inl (by first | exact h_130 | exact Decidable.not_not.mp h_130) | exact Or.inr ⟨by first | exact h_139 | exact Decidable.not_not.mp h_139, h_149⟩)] at IH
                       first
                         | rw [if_pos (by first | exact h_117 | exact Decidable.not_not.mp h_117)] at IH
                         | rw [if_neg (by exact h_117), if_pos (by exact h_175)] at IH
                         | (rw [if_neg (by exact h_117), if_neg (by exact h_175)] at IH
                            first
                              | rw [if_pos (show u.1 42 = 0 by first | exact h_229 | exact Decidable.not_not.mp h_229)] at IH
                              | rw [if_neg (show ¬ u.1 42 = 0 by exact h_229)] at IH))
                  (try rw [if_pos hpl] at IH)
                  (try rw [if_neg hpl] at IH)
                  exact IH _ _ _
  rw [gt]
  refine x_iload_n (pc := 0) dX12_goesThrough_0 rfl ?_
  refine x_aload_n (pc := 1) dX12_goesThrough_1 rfl ?_
  refine m_getI (pc := 2) hM dX12_goesThrough_2 fk_12_106 (Or.inl rfl) ?_
  have e15 := h15
  refine x_icmp_ne (pc := 5) (tgt := 66) dX12_goesThrough_5 rfl (fun h_5 => ?_) (fun h_5 => ?_)
  · refine x_iload_n (pc := 66) dX12_goesThrough_66 rfl ?_
    refine x_aload_n (pc := 67) dX12_goesThrough_67 rfl ?_
    refine m_getI (pc := 68) hM dX12_goesThrough_68 fk_12_59 (Or.inl rfl) ?_
    refine x_icmp_ne (pc := 71) (tgt := 93) dX12_goesThrough_71 rfl (fun h_71 => ?_) (fun h_71 => ?_)
    · refine x_iconst (pc := 93) (v := 0) dX12_goesThrough_93 rfl ?_
      refine x_istore (pc := 94) (lv2 := [_, _, _, _, _, _, _, _, _]) dX12_goesThrough_94 (by decide) rfl rfl ?_
      rw [if_neg h_5, if_neg h_71]
      exact L (by rw [← h15]; exact h_5) 7 0 _ _ _ (by omega)
    · refine x_aload_n (pc := 74) dX12_goesThrough_74 rfl ?_
      refine m_getR (pc := 75) hM dX12_goesThrough_75 fk_12_62 (Or.inr ⟨_, rfl⟩) (Or.inl (by decide)) ?_
      refine x_iload_n (pc := 78) dX12_goesThrough_78 rfl ?_
      refine x_iconst (pc := 79) (v := -1) dX12_goesThrough_79 rfl ?_
      refine m_iast (pc := 80) hM dX12_goesThrough_80 (rfl) (by show t < 5; have : ¬ t = n := fun z => h_5 (by rw [z, h15]); omega) ?_
      refine x_aload_n (pc := 81) dX12_goesThrough_81 rfl ?_
      refine x_iload_n (pc := 82) dX12_goesThrough_82 rfl ?_
      refine x_iconst (pc := 83) (v := 1) dX12_goesThrough_83 rfl ?_
      refine x_iadd (pc := 84) dX12_goesThrough_84 ?_
      rw [nI_1]
      refine x_iload_n (pc := 85) dX12_goesThrough_85 rfl ?_
      refine x_iload_n (pc := 86) dX12_goesThrough_86 rfl ?_
      refine x_iload (pc := 87) dX12_goesThrough_87 rfl ?_
      refine x_callV (pc := 89) (As := [.int _, .int _, .int _, .int _]) dX12_goesThrough_89 mX12_goesThrough lk_12_291 hM.1 (c (t + 1) _ _ _ _ (by have : ¬ t = n := fun z => h_5 (by rw [z, h15]); omega) (by have : ¬ t = n := fun z => h_5 (by rw [z, h15]); omega) h15) rfl rfl (Nat.le_of_ble_eq_true rfl) ⟨by show _ ≤ N + 3; omega, by show _ ≤ 64 * (N + 3); omega⟩ ⟨Nat.zero_le _, Nat.zero_le _⟩ (k_rv ?_)
      refine x_return (pc := 92) dX12_goesThrough_92 rfl ?_
      rw [if_neg h_5, if_pos (by first | exact h_71 | exact Decidable.not_not.mp h_71)]
      exact ⟨rfl, rfl⟩
  · refine x_aload_n (pc := 8) dX12_goesThrough_8 rfl ?_
    refine m_getI (pc := 9) hM dX12_goesThrough_9 fk_12_282 (Or.inr rfl) ?_
    refine x_if_eq (pc := 12) (tgt := 23) dX12_goesThrough_12 rfl (fun h_12 => ?_) (fun h_12 => ?_)
    · refine x_aload_n (pc := 23) dX12_goesThrough_23 rfl ?_
      refine x_iconst (pc := 24) (v := 1) dX12_goesThrough_24 rfl ?_
      refine m_putI (pc := 25) hM dX12_goesThrough_25 fk_12_282 rfl (Or.inr ⟨rfl, by first | exact Or.inl rfl | exact Or.inr rfl⟩) ?_
      refine x_aload_n (pc := 28) dX12_goesThrough_28 rfl ?_
      refine x_iload_n (pc := 29) dX12_goesThrough_29 rfl ?_
      refine m_putI (pc := 30) hM dX12_goesThrough_30 fk_12_288 rfl (Or.inl rfl) ?_
      refine x_iconst (pc := 33) (v := 0) dX12_goesThrough_33 rfl ?_
      refine x_istore (pc := 34) (lv2 := [_, _, _, _, _, _, _, _, _]) dX12_goesThrough_34 (by decide) rfl rfl ?_
      rw [if_pos (by first | exact h_5 | exact Decidable.not_not.mp h_5), if_pos (by first | exact Or.inl h_12 | exact Or.inr (Int32.not_le.mp h_20)), h15, nn_nI (by omega)]
      exact Lb n 0 (by omega)
    · refine x_iload_n (pc := 15) dX12_goesThrough_15 rfl ?_
      refine x_aload_n (pc := 16) dX12_goesThrough_16 rfl ?_
      refine m_getI (pc := 17) hM dX12_goesThrough_17 fk_12_288 (Or.inl rfl) ?_
      refine x_icmp_ge (pc := 20) (tgt := 65) dX12_goesThrough_20 rfl (fun h_20 => ?_) (fun h_20 => ?_)
      · refine x_return (pc := 65) dX12_goesThrough_65 rfl ?_
        rw [if_pos (by first | exact h_5 | exact Decidable.not_not.mp h_5), if_neg (by rintro (z | z); exact h_12 z; exact absurd z (Int32.not_lt.mpr h_20))]
        exact ⟨rfl, rfl⟩
      · refine x_aload_n (pc := 23) dX12_goesThrough_23 rfl ?_
        refine x_iconst (pc := 24) (v := 1) dX12_goesThrough_24 rfl ?_
        refine m_putI (pc := 25) hM dX12_goesThrough_25 fk_12_282 rfl (Or.inr ⟨rfl, by first | exact Or.inl rfl | exact Or.inr rfl⟩) ?_
        refine x_aload_n (pc := 28) dX12_goesThrough_28 rfl ?_
        refine x_iload_n (pc := 29) dX12_goesThrough_29 rfl ?_
        refine m_putI (pc := 30) hM dX12_goesThrough_30 fk_12_288 rfl (Or.inl rfl) ?_
        refine x_iconst (pc := 33) (v := 0) dX12_goesThrough_33 rfl ?_
        refine x_istore (pc := 34) (lv2 := [_, _, _, _, _, _, _, _, _]) dX12_goesThrough_34 (by decide) rfl rfl ?_
        rw [if_pos (by first | exact h_5 | exact Decidable.not_not.mp h_5), if_pos (by first | exact Or.inl h_12 | exact Or.inr (Int32.not_le.mp h_20)), h15, nn_nI (by omega)]
        exact Lb n 0 (by omega)
theorem c_goes (hM : MOK μ a) {n : Nat} (hn : n ≤ 5) : ∀ N : Nat, ∀ (t : Nat) (tk sm mv : Int32) (s : MS), t ≤ n → n - t < N → s.1 15 = nI n → XM Γ zX12_goesThrough (N + 2) 0 0 [.ref a.1, .int (nI t), .int tk, .int sm, .int mv] (MV μ a s) (rv (MV μ a (gt N t tk sm mv s)))
  | 0 => fun _ _ _ _ _ _ h => absurd h (by omega)
  | N + 1 => s_goes hM hn N (c_goes hM hn N)
end M46
