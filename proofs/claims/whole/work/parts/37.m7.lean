/-! the reference's reader: the next token -/
section M37
variable {Γ : Gm} {μ : Mem} {a : Ma} {σ : MS}
def skB (σ : MS) (f n : Nat) : Nat → Nat → Nat
  | 0, h => h
  | m + 1, h => if bA σ f n h = 32 ∨ bA σ f n h = 10 then skB σ f n m (h + 1) else h
def weB (σ : MS) (f n : Nat) : Nat → Nat → Nat
  | 0, h => h
  | m + 1, h => if 97 ≤ bA σ f n h ∧ bA σ f n h ≤ 122 then weB σ f n m (h + 1) else h
def dgB (σ : MS) (f n : Nat) : Nat → Nat → Nat → Int64 → Nat × Nat × Int64
  | 0, h, c, v => (h, c, v)
  | m + 1, h, c, v => if 48 ≤ bA σ f n h ∧ bA σ f n h ≤ 57 then dgB σ f n m (h + 1) (c + 1) (if 4 ≤ c then v else 10 * v + (bA σ f n h).toInt64 - 48) else (h, c, v)
def sgn (c : Int32) : Prop := c = 40 ∨ c = 41 ∨ c = 59 ∨ c = 43 ∨ c = 45 ∨ c = 42 ∨ c = 60 ∨ c = 61
def sgnB (c : Int32) : Bool := decide (c = 40 ∨ c = 41 ∨ c = 59 ∨ c = 43 ∨ c = 45 ∨ c = 42 ∨ c = 60 ∨ c = 61)
def nxs (σ : MS) (f n s : Nat) (tw : Int64) : Nat × Nat × Nat × Int64 := if bA σ f n s < 0 then (s, 0, n, tw) else if 97 ≤ bA σ f n s ∧ bA σ f n s ≤ 122 then (weB σ f n (n - s) s, 1, s, tw) else if 48 ≤ bA σ f n s ∧ bA σ f n s ≤ 57 then ((dgB σ f n (n - s) s 0 0).1, (if (dgB σ f n (n - s) s 0 0).2.1 ≤ 4 then 2 else 4), s, (dgB σ f n (n - s) s 0 0).2.2) else if sgnB (bA σ f n s) = true then (s + 1, 3, s, (bA σ f n s).toInt64) else (s, 4, s, tw)
def nx (σ : MS) (f n h : Nat) (tw : Int64) : Nat × Nat × Nat × Int64 := nxs σ f n (skB σ f n (n - h) h) tw
theorem bA_end {σ : MS} {f n i : Nat} (h : n ≤ i) : bA σ f n i = -1 := if_neg (by omega)
theorem bA_in {σ : MS} {f n i : Nat} (hO : rdO σ f n) (h : ¬ bA σ f n i = -1) : i < n ∧ 0 ≤ bA σ f n i := by
  rcases Nat.lt_or_ge i n with q | q
  · refine ⟨q, ?_⟩
    obtain ⟨c, hc, e⟩ := hO.2.2.2.2 i q
    rw [bA, if_pos q, e]
    exact nI_pos' (by omega)
  · exact absurd (bA_end q) h
theorem c_next (hM : MOK μ a) {h tk ta op bd ft f n : Nat} {tw : Int64} (hO : rdO σ f n) (hh : h ≤ n) : XM Γ zX12_next 2 0 0 [.ref a.1] (MV μ a (PS σ h tk ta tw op bd ft)) (rv (MV μ a (PS σ (nx σ f n h tw).1 (nx σ f n h tw).2.1 (nx σ f n h tw).2.2.1 (nx σ f n h tw).2.2.2 op bd ft))) := by
  refine XM.of 2 rfl (by decide) (Nat.le_of_ble_eq_true rfl) ?_
  have Lw : ∀ (m x e s : Nat), x + m = n → weB σ f n m x = e → WA Γ zX12_next (xrm 2 0 0) 0 0 0 0 (rv (MV μ a (PS σ e 1 s tw op bd ft))) 100 [some (.ref a.1), some (.int (bA σ f n s)), none] [] (MV μ a (PS σ x 1 s tw op bd ft)) := by
    intro m
    induction m with
    | zero =>
      intro x e s hx he
      have he : x = e := he
      subst he
      refine x_aload_n (pc := 100) dX12_next_100 rfl ?_
      refine x_aload_n (pc := 101) dX12_next_101 rfl ?_
      refine m_getIv (pc := 102) (v := nI x) hM dX12_next_102 fk_12_154 (Or.inl rfl) (rfl) ?_
      refine x_callV (pc := 105) (As := [.int _]) dX12_next_105 mX12_byteAt lk_12_157 hM.1 (c_byteAt hM hO (by have := hO.2.2.1; omega)) rfl rfl (Nat.le_of_ble_eq_true rfl) ⟨by decide, by decide⟩ ⟨Nat.zero_le _, Nat.zero_le _⟩ (k_rt ?_)
      refine x_i2l (pc := 108) dX12_next_108 ?_
      refine x_ldc2 (pc := 109) dX12_next_109 kc_12_167 ?_
      refine x_ldc2 (pc := 112) dX12_next_112 kc_12_169 ?_
      refine x_callS (pc := 115) (As := [.long _, .long _, .long _]) dX12_next_115 mX12_in lk_12_109 (c_inI 97 122) rfl rfl (Nat.le_of_ble_eq_true rfl) ⟨by decide, by decide⟩ ⟨Nat.zero_le _, Nat.zero_le _⟩ (k_rt ?_)
      refine x_if_eq (pc := 118) (tgt := 321) dX12_next_118 rfl (fun h_118 => ?_) (fun h_118 => absurd (bi_f (by rw [bA_end (show n ≤ x by omega)]; decide)) h_118)
      refine x_return (pc := 321) dX12_next_321 rfl ?_
      exact ⟨rfl, rfl⟩
    | succ m ih =>
      intro x e s hx he
      rw [weB] at he
      refine x_aload_n (pc := 100) dX12_next_100 rfl ?_
      refine x_aload_n (pc := 101) dX12_next_101 rfl ?_
      refine m_getIv (pc := 102) (v := nI x) hM dX12_next_102 fk_12_154 (Or.inl rfl) (rfl) ?_
      refine x_callV (pc := 105) (As := [.int _]) dX12_next_105 mX12_byteAt lk_12_157 hM.1 (c_byteAt hM hO (by have := hO.2.2.1; omega)) rfl rfl (Nat.le_of_ble_eq_true rfl) ⟨by decide, by decide⟩ ⟨Nat.zero_le _, Nat.zero_le _⟩ (k_rt ?_)
      refine x_i2l (pc := 108) dX12_next_108 ?_
      refine x_ldc2 (pc := 109) dX12_next_109 kc_12_167 ?_
      refine x_ldc2 (pc := 112) dX12_next_112 kc_12_169 ?_
      refine x_callS (pc := 115) (As := [.long _, .long _, .long _]) dX12_next_115 mX12_in lk_12_109 (c_inI 97 122) rfl rfl (Nat.le_of_ble_eq_true rfl) ⟨by decide, by decide⟩ ⟨Nat.zero_le _, Nat.zero_le _⟩ (k_rt ?_)
      refine x_if_eq (pc := 118) (tgt := 321) dX12_next_118 rfl (fun h_118 => ?_) (fun h_118 => ?_)
      · refine x_return (pc := 321) dX12_next_321 rfl ?_
        rw [if_neg (bi_0.mp h_118)] at he
        rw [← he]
        exact ⟨rfl, rfl⟩
      · refine x_aload_n (pc := 121) dX12_next_121 rfl ?_
        refine x_dup (pc := 122) dX12_next_122 rfl ?_
        refine m_getIv (pc := 123) (v := nI x) hM dX12_next_123 fk_12_154 (Or.inl rfl) (rfl) ?_
        refine x_iconst (pc := 126) (v := 1) dX12_next_126 rfl ?_
        refine x_iadd (pc := 127) dX12_next_127 ?_
        rw [nI_1]
        refine m_putI (pc := 128) hM dX12_next_128 fk_12_154 rfl (Or.inl rfl) ?_
        rw [PS_h]
        refine x_goto (pc := 131) (tgt := 100) dX12_next_131 rfl ?_
        rw [if_pos (bi_n0 h_118)] at he
        exact ih (x + 1) e s (by omega) he
  have Ld : ∀ (m x c s : Nat) (v : Int64) (e : Nat × Nat × Int64), x + m = n → c ≤ x → dgB σ f n m x c v = e → WA Γ zX12_next (xrm 2 0 0) 0 0 0 0 (rv (MV μ a (PS σ e.1 (if e.2.1 ≤ 4 then 2 else 4) s e.2.2 op bd ft))) 160 [some (.ref a.1), some (.int (bA σ f n s)), some (.int (nI c))] [] (MV μ a (PS σ x 2 s v op bd ft)) := by
    intro m
    have hn160 := hO.2.2.1
    induction m with
    | zero =>
      intro x c s v e hx hc he
      have he : (x, c, v) = e := he
      subst he
      refine x_aload_n (pc := 160) dX12_next_160 rfl ?_
      refine x_aload_n (pc := 161) dX12_next_161 rfl ?_
      refine m_getIv (pc := 162) (v := nI x) hM dX12_next_162 fk_12_154 (Or.inl rfl) (rfl) ?_
      refine x_callV (pc := 165) (As := [.int _]) dX12_next_165 mX12_byteAt lk_12_157 hM.1 (c_byteAt hM hO (by omega)) rfl rfl (Nat.le_of_ble_eq_true rfl) ⟨by decide, by decide⟩ ⟨Nat.zero_le _, Nat.zero_le _⟩ (k_rt ?_)
      refine x_i2l (pc := 168) dX12_next_168 ?_
      refine x_ldc2 (pc := 169) dX12_next_169 kc_12_171 ?_
      refine x_ldc2 (pc := 172) dX12_next_172 kc_12_173 ?_
      refine x_callS (pc := 175) (As := [.long _, .long _, .long _]) dX12_next_175 mX12_in lk_12_109 (c_inI 48 57) rfl rfl (Nat.le_of_ble_eq_true rfl) ⟨by decide, by decide⟩ ⟨Nat.zero_le _, Nat.zero_le _⟩ (k_rt ?_)
      refine x_if_eq (pc := 178) (tgt := 235) dX12_next_178 rfl (fun h_178 => ?_) (fun h_178 => absurd (bi_f (by rw [bA_end (show n ≤ x by omega)]; decide)) h_178)
      refine x_aload_n (pc := 235) dX12_next_235 rfl ?_
      refine x_iload_n (pc := 236) dX12_next_236 rfl ?_
      refine x_iconst (pc := 237) (v := 4) dX12_next_237 rfl ?_
      refine x_icmp_le (pc := 238) (tgt := 245) dX12_next_238 rfl (fun h_238 => ?_) (fun h_238 => ?_)
      · refine x_iconst (pc := 245) (v := 2) dX12_next_245 rfl ?_
        refine m_putI (pc := 246) hM dX12_next_246 fk_12_164 rfl (Or.inl rfl) ?_
        first | rw [show (4 : Int32) = nI 4 from rfl, PS_tk] | rw [show (2 : Int32) = nI 2 from rfl, PS_tk]
        refine x_goto (pc := 249) (tgt := 321) dX12_next_249 rfl ?_
        refine x_return (pc := 321) dX12_next_321 rfl ?_
        first
          | (have q : c ≤ 4 := (nI_leI (b := 4) (by omega) (by omega)).mp (by exact h_238)
             rw [if_pos q]
             exact ⟨rfl, rfl⟩)
          | (have q : ¬ c ≤ 4 := fun q => h_238 (nI_le (b := 4) q (by omega))
             rw [if_neg q]
             exact ⟨rfl, rfl⟩)
      · refine x_iconst (pc := 241) (v := 4) dX12_next_241 rfl ?_
        refine x_goto (pc := 242) (tgt := 246) dX12_next_242 rfl ?_
        refine m_putI (pc := 246) hM dX12_next_246 fk_12_164 rfl (Or.inl rfl) ?_
        first | rw [show (4 : Int32) = nI 4 from rfl, PS_tk] | rw [show (2 : Int32) = nI 2 from rfl, PS_tk]
        refine x_goto (pc := 249) (tgt := 321) dX12_next_249 rfl ?_
        refine x_return (pc := 321) dX12_next_321 rfl ?_
        first
          | (have q : c ≤ 4 := (nI_leI (b := 4) (by omega) (by omega)).mp (by exact h_238)
             rw [if_pos q]
             exact ⟨rfl, rfl⟩)
          | (have q : ¬ c ≤ 4 := fun q => h_238 (nI_le (b := 4) q (by omega))
             rw [if_neg q]
             exact ⟨rfl, rfl⟩)
    | succ m ih =>
      intro x c s v e hx hc he
      rw [dgB] at he
      refine x_aload_n (pc := 160) dX12_next_160 rfl ?_
      refine x_aload_n (pc := 161) dX12_next_161 rfl ?_
      refine m_getIv (pc := 162) (v := nI x) hM dX12_next_162 fk_12_154 (Or.inl rfl) (rfl) ?_
      refine x_callV (pc := 165) (As := [.int _]) dX12_next_165 mX12_byteAt lk_12_157 hM.1 (c_byteAt hM hO (by omega)) rfl rfl (Nat.le_of_ble_eq_true rfl) ⟨by decide, by decide⟩ ⟨Nat.zero_le _, Nat.zero_le _⟩ (k_rt ?_)
      refine x_i2l (pc := 168) dX12_next_168 ?_
      refine x_ldc2 (pc := 169) dX12_next_169 kc_12_171 ?_
      refine x_ldc2 (pc := 172) dX12_next_172 kc_12_173 ?_
      refine x_callS (pc := 175) (As := [.long _, .long _, .long _]) dX12_next_175 mX12_in lk_12_109 (c_inI 48 57) rfl rfl (Nat.le_of_ble_eq_true rfl) ⟨by decide, by decide⟩ ⟨Nat.zero_le _, Nat.zero_le _⟩ (k_rt ?_)
      refine x_if_eq (pc := 178) (tgt := 235) dX12_next_178 rfl (fun h_178 => ?_) (fun h_178 => ?_)
      · refine x_aload_n (pc := 235) dX12_next_235 rfl ?_
        refine x_iload_n (pc := 236) dX12_next_236 rfl ?_
        refine x_iconst (pc := 237) (v := 4) dX12_next_237 rfl ?_
        refine x_icmp_le (pc := 238) (tgt := 245) dX12_next_238 rfl (fun h_238 => ?_) (fun h_238 => ?_)
        · refine x_iconst (pc := 245) (v := 2) dX12_next_245 rfl ?_
          refine m_putI (pc := 246) hM dX12_next_246 fk_12_164 rfl (Or.inl rfl) ?_
          first | rw [show (4 : Int32) = nI 4 from rfl, PS_tk] | rw [show (2 : Int32) = nI 2 from rfl, PS_tk]
          refine x_goto (pc := 249) (tgt := 321) dX12_next_249 rfl ?_
          refine x_return (pc := 321) dX12_next_321 rfl ?_
          rw [if_neg (bi_0.mp h_178)] at he
          subst he
          first
            | (have q : c ≤ 4 := (nI_leI (b := 4) (by omega) (by omega)).mp (by exact h_238)
               rw [if_pos q]
               exact ⟨rfl, rfl⟩)
            | (have q : ¬ c ≤ 4 := fun q => h_238 (nI_le (b := 4) q (by omega))
               rw [if_neg q]
               exact ⟨rfl, rfl⟩)
        · refine x_iconst (pc := 241) (v := 4) dX12_next_241 rfl ?_
          refine x_goto (pc := 242) (tgt := 246) dX12_next_242 rfl ?_
          refine m_putI (pc := 246) hM dX12_next_246 fk_12_164 rfl (Or.inl rfl) ?_
          first | rw [show (4 : Int32) = nI 4 from rfl, PS_tk] | rw [show (2 : Int32) = nI 2 from rfl, PS_tk]
          refine x_goto (pc := 249) (tgt := 321) dX12_next_249 rfl ?_
          refine x_return (pc := 321) dX12_next_321 rfl ?_
          rw [if_neg (bi_0.mp h_178)] at he
          subst he
          first
            | (have q : c ≤ 4 := (nI_leI (b := 4) (by omega) (by omega)).mp (by exact h_238)
               rw [if_pos q]
               exact ⟨rfl, rfl⟩)
            | (have q : ¬ c ≤ 4 := fun q => h_238 (nI_le (b := 4) q (by omega))
               rw [if_neg q]
               exact ⟨rfl, rfl⟩)
      · refine x_aload_n (pc := 181) dX12_next_181 rfl ?_
        refine x_iload_n (pc := 182) dX12_next_182 rfl ?_
        refine x_iconst (pc := 183) (v := 4) dX12_next_183 rfl ?_
        refine x_icmp_ge (pc := 184) (tgt := 212) dX12_next_184 rfl (fun h_184 => ?_) (fun h_184 => ?_)
        · refine x_aload_n (pc := 212) dX12_next_212 rfl ?_
          refine m_getJ (pc := 213) hM dX12_next_213 fk_12_175 ?_
          refine m_putJ (pc := 216) hM dX12_next_216 fk_12_175 ?_
          rw [PS_tw]
          refine x_iinc (pc := 219) (lv2 := [_, _, _]) dX12_next_219 (by decide) rfl rfl (nI_1 _) rfl ?_
          refine x_aload_n (pc := 222) dX12_next_222 rfl ?_
          refine x_dup (pc := 223) dX12_next_223 rfl ?_
          refine m_getIv (pc := 224) (v := nI x) hM dX12_next_224 fk_12_154 (Or.inl rfl) (rfl) ?_
          refine x_iconst (pc := 227) (v := 1) dX12_next_227 rfl ?_
          refine x_iadd (pc := 228) dX12_next_228 ?_
          rw [nI_1]
          refine m_putI (pc := 229) hM dX12_next_229 fk_12_154 rfl (Or.inl rfl) ?_
          rw [PS_h]
          refine x_goto (pc := 232) (tgt := 160) dX12_next_232 rfl ?_
          rw [if_pos (bi_n0 h_178)] at he
          first
            | (rw [if_pos (show 4 ≤ c from (nI_leI (a := 4) (by omega) (by omega)).mp (by exact h_184))] at he
               exact ih (x + 1) (c + 1) s _ e (by omega) (by omega) he)
            | (rw [if_neg (show ¬ 4 ≤ c from fun q => h_184 (nI_le (a := 4) q (by omega)))] at he
               exact ih (x + 1) (c + 1) s _ e (by omega) (by omega) he)
        · refine x_ldc2 (pc := 187) dX12_next_187 kc_12_179 ?_
          refine x_aload_n (pc := 190) dX12_next_190 rfl ?_
          refine m_getJ (pc := 191) hM dX12_next_191 fk_12_175 ?_
          refine x_lmul (pc := 194) dX12_next_194 ?_
          refine x_aload_n (pc := 195) dX12_next_195 rfl ?_
          refine x_aload_n (pc := 196) dX12_next_196 rfl ?_
          refine m_getIv (pc := 197) (v := nI x) hM dX12_next_197 fk_12_154 (Or.inl rfl) (rfl) ?_
          refine x_callV (pc := 200) (As := [.int _]) dX12_next_200 mX12_byteAt lk_12_157 hM.1 (c_byteAt hM hO (by omega)) rfl rfl (Nat.le_of_ble_eq_true rfl) ⟨by decide, by decide⟩ ⟨Nat.zero_le _, Nat.zero_le _⟩ (k_rt ?_)
          refine x_i2l (pc := 203) dX12_next_203 ?_
          refine x_ladd (pc := 204) dX12_next_204 ?_
          refine x_ldc2 (pc := 205) dX12_next_205 kc_12_171 ?_
          refine x_lsub (pc := 208) dX12_next_208 ?_
          refine x_goto (pc := 209) (tgt := 216) dX12_next_209 rfl ?_
          refine m_putJ (pc := 216) hM dX12_next_216 fk_12_175 ?_
          rw [PS_tw]
          refine x_iinc (pc := 219) (lv2 := [_, _, _]) dX12_next_219 (by decide) rfl rfl (nI_1 _) rfl ?_
          refine x_aload_n (pc := 222) dX12_next_222 rfl ?_
          refine x_dup (pc := 223) dX12_next_223 rfl ?_
          refine m_getIv (pc := 224) (v := nI x) hM dX12_next_224 fk_12_154 (Or.inl rfl) (rfl) ?_
          refine x_iconst (pc := 227) (v := 1) dX12_next_227 rfl ?_
          refine x_iadd (pc := 228) dX12_next_228 ?_
          rw [nI_1]
          refine m_putI (pc := 229) hM dX12_next_229 fk_12_154 rfl (Or.inl rfl) ?_
          rw [PS_h]
          refine x_goto (pc := 232) (tgt := 160) dX12_next_232 rfl ?_
          rw [if_pos (bi_n0 h_178)] at he
          first
            | (rw [if_pos (show 4 ≤ c from (nI_leI (a := 4) (by omega) (by omega)).mp (by exact h_184))] at he
               exact ih (x + 1) (c + 1) s _ e (by omega) (by omega) he)
            | (rw [if_neg (show ¬ 4 ≤ c from fun q => h_184 (nI_le (a := 4) q (by omega)))] at he
               exact ih (x + 1) (c + 1) s _ e (by omega) (by omega) he)
  have c39 : ∀ s : Nat, s ≤ n → WA Γ zX12_next (xrm 2 0 0) 0 0 0 0 (rv (MV μ a (PS σ (nxs σ f n s tw).1 (nxs σ f n s tw).2.1 (nxs σ f n s tw).2.2.1 (nxs σ f n s tw).2.2.2 op bd ft))) 39 [some (.ref a.1), none, none] [] (MV μ a (PS σ s tk ta tw op bd ft)) := by
    intro s hs
    have hn160 := hO.2.2.1
    refine x_aload_n (pc := 39) dX12_next_39 rfl ?_
    refine x_aload_n (pc := 40) dX12_next_40 rfl ?_
    refine m_getIv (pc := 41) (v := nI s) hM dX12_next_41 fk_12_154 (Or.inl rfl) (rfl) ?_
    refine m_putI (pc := 44) hM dX12_next_44 fk_12_161 rfl (Or.inl rfl) ?_
    rw [PS_ta]
    refine x_aload_n (pc := 47) dX12_next_47 rfl ?_
    refine x_aload_n (pc := 48) dX12_next_48 rfl ?_
    refine m_getIv (pc := 49) (v := nI s) hM dX12_next_49 fk_12_154 (Or.inl rfl) (rfl) ?_
    refine x_callV (pc := 52) (As := [.int _]) dX12_next_52 mX12_byteAt lk_12_157 hM.1 (c_byteAt hM hO (by omega)) rfl rfl (Nat.le_of_ble_eq_true rfl) ⟨by decide, by decide⟩ ⟨Nat.zero_le _, Nat.zero_le _⟩ (k_rt ?_)
    refine x_istore_n (pc := 55) (lv2 := [_, _, _]) dX12_next_55 (by decide) rfl rfl ?_
    refine x_aload_n (pc := 56) dX12_next_56 rfl ?_
    refine x_iconst (pc := 57) (v := 4) dX12_next_57 rfl ?_
    refine m_putI (pc := 58) hM dX12_next_58 fk_12_164 rfl (Or.inl rfl) ?_
    rw [show (4 : Int32) = nI 4 from rfl, PS_tk]
    refine x_iload_n (pc := 61) dX12_next_61 rfl ?_
    refine x_if_ge (pc := 62) (tgt := 81) dX12_next_62 rfl (fun h_62 => ?_) (fun h_62 => ?_)
    · refine x_iload_n (pc := 81) dX12_next_81 rfl ?_
      refine x_i2l (pc := 82) dX12_next_82 ?_
      refine x_ldc2 (pc := 83) dX12_next_83 kc_12_167 ?_
      refine x_ldc2 (pc := 86) dX12_next_86 kc_12_169 ?_
      refine x_callS (pc := 89) (As := [.long _, .long _, .long _]) dX12_next_89 mX12_in lk_12_109 (c_inI 97 122) rfl rfl (Nat.le_of_ble_eq_true rfl) ⟨by decide, by decide⟩ ⟨Nat.zero_le _, Nat.zero_le _⟩ (k_rt ?_)
      refine x_if_eq (pc := 92) (tgt := 134) dX12_next_92 rfl (fun h_92 => ?_) (fun h_92 => ?_)
      · refine x_iload_n (pc := 134) dX12_next_134 rfl ?_
        refine x_i2l (pc := 135) dX12_next_135 ?_
        refine x_ldc2 (pc := 136) dX12_next_136 kc_12_171 ?_
        refine x_ldc2 (pc := 139) dX12_next_139 kc_12_173 ?_
        refine x_callS (pc := 142) (As := [.long _, .long _, .long _]) dX12_next_142 mX12_in lk_12_109 (c_inI 48 57) rfl rfl (Nat.le_of_ble_eq_true rfl) ⟨by decide, by decide⟩ ⟨Nat.zero_le _, Nat.zero_le _⟩ (k_rt ?_)
        refine x_if_eq (pc := 145) (tgt := 252) dX12_next_145 rfl (fun h_145 => ?_) (fun h_145 => ?_)
        · refine x_iload_n (pc := 252) dX12_next_252 rfl ?_
          refine x_bipush (pc := 253) (v := 40) dX12_next_253 rfl ?_
          refine x_icmp_eq (pc := 255) (tgt := 300) dX12_next_255 rfl (fun h_255 => ?_) (fun h_255 => ?_)
          · refine x_aload_n (pc := 300) dX12_next_300 rfl ?_
            refine x_iconst (pc := 301) (v := 3) dX12_next_301 rfl ?_
            refine m_putI (pc := 302) hM dX12_next_302 fk_12_164 rfl (Or.inl rfl) ?_
            rw [show (3 : Int32) = nI 3 from rfl, PS_tk]
            refine x_aload_n (pc := 305) dX12_next_305 rfl ?_
            refine x_iload_n (pc := 306) dX12_next_306 rfl ?_
            refine x_i2l (pc := 307) dX12_next_307 ?_
            refine m_putJ (pc := 308) hM dX12_next_308 fk_12_175 ?_
            rw [PS_tw]
            refine x_aload_n (pc := 311) dX12_next_311 rfl ?_
            refine x_dup (pc := 312) dX12_next_312 rfl ?_
            refine m_getIv (pc := 313) (v := nI s) hM dX12_next_313 fk_12_154 (Or.inl rfl) (rfl) ?_
            refine x_iconst (pc := 316) (v := 1) dX12_next_316 rfl ?_
            refine x_iadd (pc := 317) dX12_next_317 ?_
            rw [nI_1]
            refine m_putI (pc := 318) hM dX12_next_318 fk_12_154 rfl (Or.inl rfl) ?_
            rw [PS_h]
            refine x_return (pc := 321) dX12_next_321 rfl ?_
            first
              | (have e : nxs σ f n s tw = (s, 0, n, tw) := by rw [nxs, if_pos (by exact Int32.not_le.mp h_62)]
                 rw [e]
                 exact ⟨rfl, rfl⟩)
              | (have e : nxs σ f n s tw = (s, 4, s, tw) := by
                   rw [nxs, if_neg (fun z => absurd h_62 (Int32.not_le.mpr z)), if_neg (bi_0.mp h_92), if_neg (bi_0.mp h_145), if_neg (by simp [sgnB, h_255, h_261, h_267, h_273, h_279, h_285, h_291, h_297])]
                 rw [e]
                 exact ⟨rfl, rfl⟩)
              | (have e : nxs σ f n s tw = (s + 1, 3, s, (bA σ f n s).toInt64) := by
                   rw [nxs, if_neg (fun z => absurd h_62 (Int32.not_le.mpr z)), if_neg (bi_0.mp h_92), if_neg (bi_0.mp h_145), if_pos (by simp [sgnB, *])]
                 rw [e]
                 exact ⟨rfl, rfl⟩)
          · refine x_iload_n (pc := 258) dX12_next_258 rfl ?_
            refine x_bipush (pc := 259) (v := 41) dX12_next_259 rfl ?_
            refine x_icmp_eq (pc := 261) (tgt := 300) dX12_next_261 rfl (fun h_261 => ?_) (fun h_261 => ?_)
            · refine x_aload_n (pc := 300) dX12_next_300 rfl ?_
              refine x_iconst (pc := 301) (v := 3) dX12_next_301 rfl ?_
              refine m_putI (pc := 302) hM dX12_next_302 fk_12_164 rfl (Or.inl rfl) ?_
              rw [show (3 : Int32) = nI 3 from rfl, PS_tk]
              refine x_aload_n (pc := 305) dX12_next_305 rfl ?_
              refine x_iload_n (pc := 306) dX12_next_306 rfl ?_
              refine x_i2l (pc := 307) dX12_next_307 ?_
              refine m_putJ (pc := 308) hM dX12_next_308 fk_12_175 ?_
              rw [PS_tw]
              refine x_aload_n (pc := 311) dX12_next_311 rfl ?_
              refine x_dup (pc := 312) dX12_next_312 rfl ?_
              refine m_getIv (pc := 313) (v := nI s) hM dX12_next_313 fk_12_154 (Or.inl rfl) (rfl) ?_
              refine x_iconst (pc := 316) (v := 1) dX12_next_316 rfl ?_
              refine x_iadd (pc := 317) dX12_next_317 ?_
              rw [nI_1]
              refine m_putI (pc := 318) hM dX12_next_318 fk_12_154 rfl (Or.inl rfl) ?_
              rw [PS_h]
              refine x_return (pc := 321) dX12_next_321 rfl ?_
              first
                | (have e : nxs σ f n s tw = (s, 0, n, tw) := by rw [nxs, if_pos (by exact Int32.not_le.mp h_62)]
                   rw [e]
                   exact ⟨rfl, rfl⟩)
                | (have e : nxs σ f n s tw = (s, 4, s, tw) := by
                     rw [nxs, if_neg (fun z => absurd h_62 (Int32.not_le.mpr z)), if_neg (bi_0.mp h_92), if_neg (bi_0.mp h_145), if_neg (by simp [sgnB, h_255, h_261, h_267, h_273, h_279, h_285, h_291, h_297])]
                   rw [e]
                   exact ⟨rfl, rfl⟩)
                | (have e : nxs σ f n s tw = (s + 1, 3, s, (bA σ f n s).toInt64) := by
                     rw [nxs, if_neg (fun z => absurd h_62 (Int32.not_le.mpr z)), if_neg (bi_0.mp h_92), if_neg (bi_0.mp h_145), if_pos (by simp [sgnB, *])]
                   rw [e]
                   exact ⟨rfl, rfl⟩)
            · refine x_iload_n (pc := 264) dX12_next_264 rfl ?_
              refine x_bipush (pc := 265) (v := 59) dX12_next_265 rfl ?_
              refine x_icmp_eq (pc := 267) (tgt := 300) dX12_next_267 rfl (fun h_267 => ?_) (fun h_267 => ?_)
              · refine x_aload_n (pc := 300) dX12_next_300 rfl ?_
                refine x_iconst (pc := 301) (v := 3) dX12_next_301 rfl ?_
                refine m_putI (pc := 302) hM dX12_next_302 fk_12_164 rfl (Or.inl rfl) ?_
                rw [show (3 : Int32) = nI 3 from rfl, PS_tk]
                refine x_aload_n (pc := 305) dX12_next_305 rfl ?_
                refine x_iload_n (pc := 306) dX12_next_306 rfl ?_
                refine x_i2l (pc := 307) dX12_next_307 ?_
                refine m_putJ (pc := 308) hM dX12_next_308 fk_12_175 ?_
                rw [PS_tw]
                refine x_aload_n (pc := 311) dX12_next_311 rfl ?_
                refine x_dup (pc := 312) dX12_next_312 rfl ?_
                refine m_getIv (pc := 313) (v := nI s) hM dX12_next_313 fk_12_154 (Or.inl rfl) (rfl) ?_
                refine x_iconst (pc := 316) (v := 1) dX12_next_316 rfl ?_
                refine x_iadd (pc := 317) dX12_next_317 ?_
                rw [nI_1]
                refine m_putI (pc := 318) hM dX12_next_318 fk_12_154 rfl (Or.inl rfl) ?_
                rw [PS_h]
                refine x_return (pc := 321) dX12_next_321 rfl ?_
                first
                  | (have e : nxs σ f n s tw = (s, 0, n, tw) := by rw [nxs, if_pos (by exact Int32.not_le.mp h_62)]
                     rw [e]
                     exact ⟨rfl, rfl⟩)
                  | (have e : nxs σ f n s tw = (s, 4, s, tw) := by
                       rw [nxs, if_neg (fun z => absurd h_62 (Int32.not_le.mpr z)), if_neg (bi_0.mp h_92), if_neg (bi_0.mp h_145), if_neg (by simp [sgnB, h_255, h_261, h_267, h_273, h_279, h_285, h_291, h_297])]
                     rw [e]
                     exact ⟨rfl, rfl⟩)
                  | (have e : nxs σ f n s tw = (s + 1, 3, s, (bA σ f n s).toInt64) := by
                       rw [nxs, if_neg (fun z => absurd h_62 (Int32.not_le.mpr z)), if_neg (bi_0.mp h_92), if_neg (bi_0.mp h_145), if_pos (by simp [sgnB, *])]
                     rw [e]
                     exact ⟨rfl, rfl⟩)
              · refine x_iload_n (pc := 270) dX12_next_270 rfl ?_
                refine x_bipush (pc := 271) (v := 43) dX12_next_271 rfl ?_
                refine x_icmp_eq (pc := 273) (tgt := 300) dX12_next_273 rfl (fun h_273 => ?_) (fun h_273 => ?_)
                · refine x_aload_n (pc := 300) dX12_next_300 rfl ?_
                  refine x_iconst (pc := 301) (v := 3) dX12_next_301 rfl ?_
                  refine m_putI (pc := 302) hM dX12_next_302 fk_12_164 rfl (Or.inl rfl) ?_
                  rw [show (3 : Int32) = nI 3 from rfl, PS_tk]
                  refine x_aload_n (pc := 305) dX12_next_305 rfl ?_
                  refine x_iload_n (pc := 306) dX12_next_306 rfl ?_
                  refine x_i2l (pc := 307) dX12_next_307 ?_
                  refine m_putJ (pc := 308) hM dX12_next_308 fk_12_175 ?_
                  rw [PS_tw]
                  refine x_aload_n (pc := 311) dX12_next_311 rfl ?_
                  refine x_dup (pc := 312) dX12_next_312 rfl ?_
                  refine m_getIv (pc := 313) (v := nI s) hM dX12_next_313 fk_12_154 (Or.inl rfl) (rfl) ?_
                  refine x_iconst (pc := 316) (v := 1) dX12_next_316 rfl ?_
                  refine x_iadd (pc := 317) dX12_next_317 ?_
                  rw [nI_1]
                  refine m_putI (pc := 318) hM dX12_next_318 fk_12_154 rfl (Or.inl rfl) ?_
                  rw [PS_h]
                  refine x_return (pc := 321) dX12_next_321 rfl ?_
                  first
                    | (have e : nxs σ f n s tw = (s, 0, n, tw) := by rw [nxs, if_pos (by exact Int32.not_le.mp h_62)]
                       rw [e]
                       exact ⟨rfl, rfl⟩)
                    | (have e : nxs σ f n s tw = (s, 4, s, tw) := by
                         rw [nxs, if_neg (fun z => absurd h_62 (Int32.not_le.mpr z)), if_neg (bi_0.mp h_92), if_neg (bi_0.mp h_145), if_neg (by simp [sgnB, h_255, h_261, h_267, h_273, h_279, h_285, h_291, h_297])]
                       rw [e]
                       exact ⟨rfl, rfl⟩)
                    | (have e : nxs σ f n s tw = (s + 1, 3, s, (bA σ f n s).toInt64) := by
                         rw [nxs, if_neg (fun z => absurd h_62 (Int32.not_le.mpr z)), if_neg (bi_0.mp h_92), if_neg (bi_0.mp h_145), if_pos (by simp [sgnB, *])]
                       rw [e]
                       exact ⟨rfl, rfl⟩)
                · refine x_iload_n (pc := 276) dX12_next_276 rfl ?_
                  refine x_bipush (pc := 277) (v := 45) dX12_next_277 rfl ?_
                  refine x_icmp_eq (pc := 279) (tgt := 300) dX12_next_279 rfl (fun h_279 => ?_) (fun h_279 => ?_)
                  · refine x_aload_n (pc := 300) dX12_next_300 rfl ?_
                    refine x_iconst (pc := 301) (v := 3) dX12_next_301 rfl ?_
                    refine m_putI (pc := 302) hM dX12_next_302 fk_12_164 rfl (Or.inl rfl) ?_
                    rw [show (3 : Int32) = nI 3 from rfl, PS_tk]
                    refine x_aload_n (pc := 305) dX12_next_305 rfl ?_
                    refine x_iload_n (pc := 306) dX12_next_306 rfl ?_
                    refine x_i2l (pc := 307) dX12_next_307 ?_
                    refine m_putJ (pc := 308) hM dX12_next_308 fk_12_175 ?_
                    rw [PS_tw]
                    refine x_aload_n (pc := 311) dX12_next_311 rfl ?_
                    refine x_dup (pc := 312) dX12_next_312 rfl ?_
                    refine m_getIv (pc := 313) (v := nI s) hM dX12_next_313 fk_12_154 (Or.inl rfl) (rfl) ?_
                    refine x_iconst (pc := 316) (v := 1) dX12_next_316 rfl ?_
                    refine x_iadd (pc := 317) dX12_next_317 ?_
                    rw [nI_1]
                    refine m_putI (pc := 318) hM dX12_next_318 fk_12_154 rfl (Or.inl rfl) ?_
                    rw [PS_h]
                    refine x_return (pc := 321) dX12_next_321 rfl ?_
                    first
                      | (have e : nxs σ f n s tw = (s, 0, n, tw) := by rw [nxs, if_pos (by exact Int32.not_le.mp h_62)]
                         rw [e]
                         exact ⟨rfl, rfl⟩)
                      | (have e : nxs σ f n s tw = (s, 4, s, tw) := by
                           rw [nxs, if_neg (fun z => absurd h_62 (Int32.not_le.mpr z)), if_neg (bi_0.mp h_92), if_neg (bi_0.mp h_145), if_neg (by simp [sgnB, h_255, h_261, h_267, h_273, h_279, h_285, h_291, h_297])]
                         rw [e]
                         exact ⟨rfl, rfl⟩)
                      | (have e : nxs σ f n s tw = (s + 1, 3, s, (bA σ f n s).toInt64) := by
                           rw [nxs, if_neg (fun z => absurd h_62 (Int32.not_le.mpr z)), if_neg (bi_0.mp h_92), if_neg (bi_0.mp h_145), if_pos (by simp [sgnB, *])]
                         rw [e]
                         exact ⟨rfl, rfl⟩)
                  · refine x_iload_n (pc := 282) dX12_next_282 rfl ?_
                    refine x_bipush (pc := 283) (v := 42) dX12_next_283 rfl ?_
                    refine x_icmp_eq (pc := 285) (tgt := 300) dX12_next_285 rfl (fun h_285 => ?_) (fun h_285 => ?_)
                    · refine x_aload_n (pc := 300) dX12_next_300 rfl ?_
                      refine x_iconst (pc := 301) (v := 3) dX12_next_301 rfl ?_
                      refine m_putI (pc := 302) hM dX12_next_302 fk_12_164 rfl (Or.inl rfl) ?_
                      rw [show (3 : Int32) = nI 3 from rfl, PS_tk]
                      refine x_aload_n (pc := 305) dX12_next_305 rfl ?_
                      refine x_iload_n (pc := 306) dX12_next_306 rfl ?_
                      refine x_i2l (pc := 307) dX12_next_307 ?_
                      refine m_putJ (pc := 308) hM dX12_next_308 fk_12_175 ?_
                      rw [PS_tw]
                      refine x_aload_n (pc := 311) dX12_next_311 rfl ?_
                      refine x_dup (pc := 312) dX12_next_312 rfl ?_
                      refine m_getIv (pc := 313) (v := nI s) hM dX12_next_313 fk_12_154 (Or.inl rfl) (rfl) ?_
                      refine x_iconst (pc := 316) (v := 1) dX12_next_316 rfl ?_
                      refine x_iadd (pc := 317) dX12_next_317 ?_
                      rw [nI_1]
                      refine m_putI (pc := 318) hM dX12_next_318 fk_12_154 rfl (Or.inl rfl) ?_
                      rw [PS_h]
                      refine x_return (pc := 321) dX12_next_321 rfl ?_
                      first
                        | (have e : nxs σ f n s tw = (s, 0, n, tw) := by rw [nxs, if_pos (by exact Int32.not_le.mp h_62)]
                           rw [e]
                           exact ⟨rfl, rfl⟩)
                        | (have e : nxs σ f n s tw = (s, 4, s, tw) := by
                             rw [nxs, if_neg (fun z => absurd h_62 (Int32.not_le.mpr z)), if_neg (bi_0.mp h_92), if_neg (bi_0.mp h_145), if_neg (by simp [sgnB, h_255, h_261, h_267, h_273, h_279, h_285, h_291, h_297])]
                           rw [e]
                           exact ⟨rfl, rfl⟩)
                        | (have e : nxs σ f n s tw = (s + 1, 3, s, (bA σ f n s).toInt64) := by
                             rw [nxs, if_neg (fun z => absurd h_62 (Int32.not_le.mpr z)), if_neg (bi_0.mp h_92), if_neg (bi_0.mp h_145), if_pos (by simp [sgnB, *])]
                           rw [e]
                           exact ⟨rfl, rfl⟩)
                    · refine x_iload_n (pc := 288) dX12_next_288 rfl ?_
                      refine x_bipush (pc := 289) (v := 60) dX12_next_289 rfl ?_
                      refine x_icmp_eq (pc := 291) (tgt := 300) dX12_next_291 rfl (fun h_291 => ?_) (fun h_291 => ?_)
                      · refine x_aload_n (pc := 300) dX12_next_300 rfl ?_
                        refine x_iconst (pc := 301) (v := 3) dX12_next_301 rfl ?_
                        refine m_putI (pc := 302) hM dX12_next_302 fk_12_164 rfl (Or.inl rfl) ?_
                        rw [show (3 : Int32) = nI 3 from rfl, PS_tk]
                        refine x_aload_n (pc := 305) dX12_next_305 rfl ?_
                        refine x_iload_n (pc := 306) dX12_next_306 rfl ?_
                        refine x_i2l (pc := 307) dX12_next_307 ?_
                        refine m_putJ (pc := 308) hM dX12_next_308 fk_12_175 ?_
                        rw [PS_tw]
                        refine x_aload_n (pc := 311) dX12_next_311 rfl ?_
                        refine x_dup (pc := 312) dX12_next_312 rfl ?_
                        refine m_getIv (pc := 313) (v := nI s) hM dX12_next_313 fk_12_154 (Or.inl rfl) (rfl) ?_
                        refine x_iconst (pc := 316) (v := 1) dX12_next_316 rfl ?_
                        refine x_iadd (pc := 317) dX12_next_317 ?_
                        rw [nI_1]
                        refine m_putI (pc := 318) hM dX12_next_318 fk_12_154 rfl (Or.inl rfl) ?_
                        rw [PS_h]
                        refine x_return (pc := 321) dX12_next_321 rfl ?_
                        first
                          | (have e : nxs σ f n s tw = (s, 0, n, tw) := by rw [nxs, if_pos (by exact Int32.not_le.mp h_62)]
                             rw [e]
                             exact ⟨rfl, rfl⟩)
                          | (have e : nxs σ f n s tw = (s, 4, s, tw) := by
                               rw [nxs, if_neg (fun z => absurd h_62 (Int32.not_le.mpr z)), if_neg (bi_0.mp h_92), if_neg (bi_0.mp h_145), if_neg (by simp [sgnB, h_255, h_261, h_267, h_273, h_279, h_285, h_291, h_297])]
                             rw [e]
                             exact ⟨rfl, rfl⟩)
                          | (have e : nxs σ f n s tw = (s + 1, 3, s, (bA σ f n s).toInt64) := by
                               rw [nxs, if_neg (fun z => absurd h_62 (Int32.not_le.mpr z)), if_neg (bi_0.mp h_92), if_neg (bi_0.mp h_145), if_pos (by simp [sgnB, *])]
                             rw [e]
                             exact ⟨rfl, rfl⟩)
                      · refine x_iload_n (pc := 294) dX12_next_294 rfl ?_
                        refine x_bipush (pc := 295) (v := 61) dX12_next_295 rfl ?_
                        refine x_icmp_ne (pc := 297) (tgt := 321) dX12_next_297 rfl (fun h_297 => ?_) (fun h_297 => ?_)
                        · refine x_return (pc := 321) dX12_next_321 rfl ?_
                          first
                            | (have e : nxs σ f n s tw = (s, 0, n, tw) := by rw [nxs, if_pos (by exact Int32.not_le.mp h_62)]
                               rw [e]
                               exact ⟨rfl, rfl⟩)
                            | (have e : nxs σ f n s tw = (s, 4, s, tw) := by
                                 rw [nxs, if_neg (fun z => absurd h_62 (Int32.not_le.mpr z)), if_neg (bi_0.mp h_92), if_neg (bi_0.mp h_145), if_neg (by simp [sgnB, h_255, h_261, h_267, h_273, h_279, h_285, h_291, h_297])]
                               rw [e]
                               exact ⟨rfl, rfl⟩)
                            | (have e : nxs σ f n s tw = (s + 1, 3, s, (bA σ f n s).toInt64) := by
                                 rw [nxs, if_neg (fun z => absurd h_62 (Int32.not_le.mpr z)), if_neg (bi_0.mp h_92), if_neg (bi_0.mp h_145), if_pos (by simp [sgnB, *])]
                               rw [e]
                               exact ⟨rfl, rfl⟩)
                        · refine x_aload_n (pc := 300) dX12_next_300 rfl ?_
                          refine x_iconst (pc := 301) (v := 3) dX12_next_301 rfl ?_
                          refine m_putI (pc := 302) hM dX12_next_302 fk_12_164 rfl (Or.inl rfl) ?_
                          rw [show (3 : Int32) = nI 3 from rfl, PS_tk]
                          refine x_aload_n (pc := 305) dX12_next_305 rfl ?_
                          refine x_iload_n (pc := 306) dX12_next_306 rfl ?_
                          refine x_i2l (pc := 307) dX12_next_307 ?_
                          refine m_putJ (pc := 308) hM dX12_next_308 fk_12_175 ?_
                          rw [PS_tw]
                          refine x_aload_n (pc := 311) dX12_next_311 rfl ?_
                          refine x_dup (pc := 312) dX12_next_312 rfl ?_
                          refine m_getIv (pc := 313) (v := nI s) hM dX12_next_313 fk_12_154 (Or.inl rfl) (rfl) ?_
                          refine x_iconst (pc := 316) (v := 1) dX12_next_316 rfl ?_
                          refine x_iadd (pc := 317) dX12_next_317 ?_
                          rw [nI_1]
                          refine m_putI (pc := 318) hM dX12_next_318 fk_12_154 rfl (Or.inl rfl) ?_
                          rw [PS_h]
                          refine x_return (pc := 321) dX12_next_321 rfl ?_
                          first
                            | (have e : nxs σ f n s tw = (s, 0, n, tw) := by rw [nxs, if_pos (by exact Int32.not_le.mp h_62)]
                               rw [e]
                               exact ⟨rfl, rfl⟩)
                            | (have e : nxs σ f n s tw = (s, 4, s, tw) := by
                                 rw [nxs, if_neg (fun z => absurd h_62 (Int32.not_le.mpr z)), if_neg (bi_0.mp h_92), if_neg (bi_0.mp h_145), if_neg (by simp [sgnB, h_255, h_261, h_267, h_273, h_279, h_285, h_291, h_297])]
                               rw [e]
                               exact ⟨rfl, rfl⟩)
                            | (have e : nxs σ f n s tw = (s + 1, 3, s, (bA σ f n s).toInt64) := by
                                 rw [nxs, if_neg (fun z => absurd h_62 (Int32.not_le.mpr z)), if_neg (bi_0.mp h_92), if_neg (bi_0.mp h_145), if_pos (by simp [sgnB, *])]
                               rw [e]
                               exact ⟨rfl, rfl⟩)
        · refine x_aload_n (pc := 148) dX12_next_148 rfl ?_
          refine x_iconst (pc := 149) (v := 2) dX12_next_149 rfl ?_
          refine m_putI (pc := 150) hM dX12_next_150 fk_12_164 rfl (Or.inl rfl) ?_
          rw [show (2 : Int32) = nI 2 from rfl, PS_tk]
          refine x_aload_n (pc := 153) dX12_next_153 rfl ?_
          refine x_lconst (pc := 154) (v := 0) dX12_next_154 rfl ?_
          refine m_putJ (pc := 155) hM dX12_next_155 fk_12_175 ?_
          rw [PS_tw]
          refine x_iconst (pc := 158) (v := 0) dX12_next_158 rfl ?_
          refine x_istore_n (pc := 159) (lv2 := [_, _, _]) dX12_next_159 (by decide) rfl rfl ?_
          have e : nxs σ f n s tw = ((dgB σ f n (n - s) s 0 0).1, (if (dgB σ f n (n - s) s 0 0).2.1 ≤ 4 then 2 else 4), s, (dgB σ f n (n - s) s 0 0).2.2) := by
            rw [nxs, if_neg (fun z => absurd h_62 (Int32.not_le.mpr z)), if_neg (bi_0.mp h_92), if_pos (bi_n0 h_145)]
          rw [e]
          exact Ld (n - s) s 0 s 0 _ (by omega) (by omega) rfl
      · refine x_aload_n (pc := 95) dX12_next_95 rfl ?_
        refine x_iconst (pc := 96) (v := 1) dX12_next_96 rfl ?_
        refine m_putI (pc := 97) hM dX12_next_97 fk_12_164 rfl (Or.inl rfl) ?_
        rw [show (1 : Int32) = nI 1 from rfl, PS_tk]
        have e : nxs σ f n s tw = (weB σ f n (n - s) s, 1, s, tw) := by
          rw [nxs, if_neg (fun z => absurd h_62 (Int32.not_le.mpr z)), if_pos (bi_n0 h_92)]
        rw [e]
        exact Lw (n - s) s _ s (by omega) rfl
    · refine x_aload_n (pc := 65) dX12_next_65 rfl ?_
      refine x_iconst (pc := 66) (v := 0) dX12_next_66 rfl ?_
      refine m_putI (pc := 67) hM dX12_next_67 fk_12_164 rfl (Or.inl rfl) ?_
      rw [show (0 : Int32) = nI 0 from rfl, PS_tk]
      refine x_aload_n (pc := 70) dX12_next_70 rfl ?_
      refine x_aload_n (pc := 71) dX12_next_71 rfl ?_
      refine m_getIv (pc := 72) (v := nI n) hM dX12_next_72 fk_12_148 (Or.inl rfl) (hO.2.1) ?_
      refine m_putI (pc := 75) hM dX12_next_75 fk_12_161 rfl (Or.inl rfl) ?_
      rw [PS_ta]
      refine x_goto (pc := 78) (tgt := 321) dX12_next_78 rfl ?_
      refine x_return (pc := 321) dX12_next_321 rfl ?_
      first
        | (have e : nxs σ f n s tw = (s, 0, n, tw) := by rw [nxs, if_pos (by exact Int32.not_le.mp h_62)]
           rw [e]
           exact ⟨rfl, rfl⟩)
        | (have e : nxs σ f n s tw = (s, 4, s, tw) := by
             rw [nxs, if_neg (fun z => absurd h_62 (Int32.not_le.mpr z)), if_neg (bi_0.mp h_92), if_neg (bi_0.mp h_145), if_neg (by simp [sgnB, h_255, h_261, h_267, h_273, h_279, h_285, h_291, h_297])]
           rw [e]
           exact ⟨rfl, rfl⟩)
        | (have e : nxs σ f n s tw = (s + 1, 3, s, (bA σ f n s).toInt64) := by
             rw [nxs, if_neg (fun z => absurd h_62 (Int32.not_le.mpr z)), if_neg (bi_0.mp h_92), if_neg (bi_0.mp h_145), if_pos (by simp [sgnB, *])]
           rw [e]
           exact ⟨rfl, rfl⟩)
  have L0 : ∀ (m x s : Nat), x + m = n → skB σ f n m x = s → WA Γ zX12_next (xrm 2 0 0) 0 0 0 0 (rv (MV μ a (PS σ (nxs σ f n s tw).1 (nxs σ f n s tw).2.1 (nxs σ f n s tw).2.2.1 (nxs σ f n s tw).2.2.2 op bd ft))) 0 [some (.ref a.1), none, none] [] (MV μ a (PS σ x tk ta tw op bd ft)) := by
    intro m
    have hn160 := hO.2.2.1
    induction m with
    | zero =>
      intro x s hx hs
      have hs : x = s := hs
      subst hs
      refine x_aload_n (pc := 0) dX12_next_0 rfl ?_
      refine x_aload_n (pc := 1) dX12_next_1 rfl ?_
      refine m_getIv (pc := 2) (v := nI x) hM dX12_next_2 fk_12_154 (Or.inl rfl) (rfl) ?_
      refine x_callV (pc := 5) (As := [.int _]) dX12_next_5 mX12_byteAt lk_12_157 hM.1 (c_byteAt hM hO (by omega)) rfl rfl (Nat.le_of_ble_eq_true rfl) ⟨by decide, by decide⟩ ⟨Nat.zero_le _, Nat.zero_le _⟩ (k_rt ?_)
      refine x_bipush (pc := 8) (v := 32) dX12_next_8 rfl ?_
      refine x_icmp_eq (pc := 10) (tgt := 26) dX12_next_10 rfl (fun h_10 => absurd h_10 (by rw [bA_end (show n ≤ x by omega)]; decide)) (fun h_10 => ?_)
      refine x_aload_n (pc := 13) dX12_next_13 rfl ?_
      refine x_aload_n (pc := 14) dX12_next_14 rfl ?_
      refine m_getIv (pc := 15) (v := nI x) hM dX12_next_15 fk_12_154 (Or.inl rfl) (rfl) ?_
      refine x_callV (pc := 18) (As := [.int _]) dX12_next_18 mX12_byteAt lk_12_157 hM.1 (c_byteAt hM hO (by omega)) rfl rfl (Nat.le_of_ble_eq_true rfl) ⟨by decide, by decide⟩ ⟨Nat.zero_le _, Nat.zero_le _⟩ (k_rt ?_)
      refine x_bipush (pc := 21) (v := 10) dX12_next_21 rfl ?_
      refine x_icmp_ne (pc := 23) (tgt := 39) dX12_next_23 rfl (fun h_23 => ?_) (fun h_23 => absurd h_23 (by rw [bA_end (show n ≤ x by omega)]; decide))
      exact c39 x (by omega)
    | succ m ih =>
      intro x s hx hs
      rw [skB] at hs
      refine x_aload_n (pc := 0) dX12_next_0 rfl ?_
      refine x_aload_n (pc := 1) dX12_next_1 rfl ?_
      refine m_getIv (pc := 2) (v := nI x) hM dX12_next_2 fk_12_154 (Or.inl rfl) (rfl) ?_
      refine x_callV (pc := 5) (As := [.int _]) dX12_next_5 mX12_byteAt lk_12_157 hM.1 (c_byteAt hM hO (by omega)) rfl rfl (Nat.le_of_ble_eq_true rfl) ⟨by decide, by decide⟩ ⟨Nat.zero_le _, Nat.zero_le _⟩ (k_rt ?_)
      refine x_bipush (pc := 8) (v := 32) dX12_next_8 rfl ?_
      refine x_icmp_eq (pc := 10) (tgt := 26) dX12_next_10 rfl (fun h_10 => ?_) (fun h_10 => ?_)
      · refine x_aload_n (pc := 26) dX12_next_26 rfl ?_
        refine x_dup (pc := 27) dX12_next_27 rfl ?_
        refine m_getIv (pc := 28) (v := nI x) hM dX12_next_28 fk_12_154 (Or.inl rfl) (rfl) ?_
        refine x_iconst (pc := 31) (v := 1) dX12_next_31 rfl ?_
        refine x_iadd (pc := 32) dX12_next_32 ?_
        rw [nI_1]
        refine m_putI (pc := 33) hM dX12_next_33 fk_12_154 rfl (Or.inl rfl) ?_
        rw [PS_h]
        refine x_goto (pc := 36) (tgt := 0) dX12_next_36 rfl ?_
        rw [if_pos (by first | exact Or.inl h_10 | exact Or.inr h_23)] at hs
        exact ih (x + 1) s (by omega) hs
      · refine x_aload_n (pc := 13) dX12_next_13 rfl ?_
        refine x_aload_n (pc := 14) dX12_next_14 rfl ?_
        refine m_getIv (pc := 15) (v := nI x) hM dX12_next_15 fk_12_154 (Or.inl rfl) (rfl) ?_
        refine x_callV (pc := 18) (As := [.int _]) dX12_next_18 mX12_byteAt lk_12_157 hM.1 (c_byteAt hM hO (by omega)) rfl rfl (Nat.le_of_ble_eq_true rfl) ⟨by decide, by decide⟩ ⟨Nat.zero_le _, Nat.zero_le _⟩ (k_rt ?_)
        refine x_bipush (pc := 21) (v := 10) dX12_next_21 rfl ?_
        refine x_icmp_ne (pc := 23) (tgt := 39) dX12_next_23 rfl (fun h_23 => ?_) (fun h_23 => ?_)
        · rw [if_neg (by rintro (z | z); exact h_10 z; exact h_23 z)] at hs
          subst hs
          exact c39 x (by omega)
        · refine x_aload_n (pc := 26) dX12_next_26 rfl ?_
          refine x_dup (pc := 27) dX12_next_27 rfl ?_
          refine m_getIv (pc := 28) (v := nI x) hM dX12_next_28 fk_12_154 (Or.inl rfl) (rfl) ?_
          refine x_iconst (pc := 31) (v := 1) dX12_next_31 rfl ?_
          refine x_iadd (pc := 32) dX12_next_32 ?_
          rw [nI_1]
          refine m_putI (pc := 33) hM dX12_next_33 fk_12_154 rfl (Or.inl rfl) ?_
          rw [PS_h]
          refine x_goto (pc := 36) (tgt := 0) dX12_next_36 rfl ?_
          rw [if_pos (by first | exact Or.inl h_10 | exact Or.inr h_23)] at hs
          exact ih (x + 1) s (by omega) hs
  exact L0 (n - h) h _ (by omega) rfl
end M37
