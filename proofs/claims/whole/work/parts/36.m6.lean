/-! the reference's reader: its state, and the words that it reads -/
section M36
variable {Γ : Gm} {μ : Mem} {a : Ma} {σ : MS}
theorem m_getIv {M : Mt} {R : Room} {mc ms cl sl : Nat} {Q : Option Value → Mem → Prop} {pc : Nat} {lv : List (Option Value)} {st : List Value} {idx k : Nat} {v : Int32} (hM : MOK μ a) (d : decode M.2.1 pc = .ok (.getfield idx, 3)) (f : FK M.1.cls idx 12 k) (hv : xty 12 k = .int ∨ xty 12 k = .boolean) (he : σ.1 k = v) (kk : WA Γ M R mc ms cl sl Q (pc + 3) lv (.int v :: st) (MV μ a σ)) : WA Γ M R mc ms cl sl Q pc lv (.ref a.1 :: st) (MV μ a σ) := by
  subst he
  exact m_getI hM d f hv kk
/-- where it is, the token at hand, where that begins, its worth, how many are open, whether there is a fault, where -/
def PS (σ : MS) (h tk ta : Nat) (tw : Int64) (op bd ft : Nat) : MS := (fun k => if k = 24 then nI h else if k = 25 then nI tk else if k = 26 then nI ta else if k = 28 then nI op else if k = 29 then nI bd else if k = 30 then nI ft else σ.1 k, tw, σ.2.2)
section
variable {h tk ta op bd ft v : Nat} {tw tv : Int64}
theorem PS_h : tI (PS σ h tk ta tw op bd ft) 24 (nI v) = PS σ v tk ta tw op bd ft := by
  unfold PS tI
  refine congrArg (fun z => (z, _)) (funext fun k => ?_)
  by_cases hk : k = 24 <;> simp [va_up, hk]
theorem PS_tk : tI (PS σ h tk ta tw op bd ft) 25 (nI v) = PS σ h v ta tw op bd ft := by
  unfold PS tI
  refine congrArg (fun z => (z, _)) (funext fun k => ?_)
  by_cases hk : k = 25 <;> simp [va_up, hk]
theorem PS_ta : tI (PS σ h tk ta tw op bd ft) 26 (nI v) = PS σ h tk v tw op bd ft := by
  unfold PS tI
  refine congrArg (fun z => (z, _)) (funext fun k => ?_)
  by_cases hk : k = 26 <;> simp [va_up, hk]
theorem PS_op : tI (PS σ h tk ta tw op bd ft) 28 (nI v) = PS σ h tk ta tw v bd ft := by
  unfold PS tI
  refine congrArg (fun z => (z, _)) (funext fun k => ?_)
  by_cases hk : k = 28 <;> simp [va_up, hk]
theorem PS_bd : tI (PS σ h tk ta tw op bd ft) 29 (nI v) = PS σ h tk ta tw op v ft := by
  unfold PS tI
  refine congrArg (fun z => (z, _)) (funext fun k => ?_)
  by_cases hk : k = 29 <;> simp [va_up, hk]
theorem PS_ft : tI (PS σ h tk ta tw op bd ft) 30 (nI v) = PS σ h tk ta tw op bd v := by
  unfold PS tI
  refine congrArg (fun z => (z, _)) (funext fun k => ?_)
  by_cases hk : k = 30 <;> simp [va_up, hk]
theorem PS_tw : tJ (PS σ h tk ta tw op bd ft) tv = PS σ h tk ta tv op bd ft := rfl
end
/-- the text that is read: where it begins, its size -/
def rdO (σ : MS) (f n : Nat) : Prop := σ.1 22 = nI f ∧ σ.1 23 = nI n ∧ n ≤ 160 ∧ f + n ≤ 960 ∧ ∀ i, i < n → ∃ c, c < 256 ∧ σ.2.2 1 (f + i) = nI c
def bA (σ : MS) (f n i : Nat) : Int32 := if i < n then σ.2.2 1 (f + i) else -1
theorem c_byteAt (hM : MOK μ a) {h tk ta op bd ft f n : Nat} {tw : Int64} (hO : rdO σ f n) {i : Nat} (hi : i < 2 ^ 31) : XM Γ zX12_byteAt 1 0 0 [.ref a.1, .int (nI i)] (MV μ a (PS σ h tk ta tw op bd ft)) (rt (.int (bA σ f n i)) (MV μ a (PS σ h tk ta tw op bd ft))) := by
  refine XM.of 0 rfl (by decide) (Nat.le_of_ble_eq_true rfl) ?_
  refine x_iload_n (pc := 0) dX12_byteAt_0 rfl ?_
  refine x_aload_n (pc := 1) dX12_byteAt_1 rfl ?_
  refine m_getIv (pc := 2) (v := nI n) hM dX12_byteAt_2 fk_12_148 (Or.inl rfl) (hO.2.1) ?_
  skip
  refine x_icmp_ge (pc := 5) (tgt := 22) dX12_byteAt_5 rfl (fun h_5 => ?_) (fun h_5 => ?_)
  · refine x_iconst (pc := 22) (v := -1) dX12_byteAt_22 rfl ?_
    refine x_ireturn (pc := 23) dX12_byteAt_23 rfl rfl ?_
    rw [bA]
    first
      | rw [if_pos hlt]; exact ⟨rfl, rfl⟩
      | rw [if_neg (fun q => absurd h_5 (nI_ge q (by have := hO.2.2.1; omega)))]; exact ⟨rfl, rfl⟩
  · have hlt : i < n := by
      rcases Nat.lt_or_ge i n with q | q
      · exact q
      · exact absurd (nI_le q (by omega)) h_5
    refine x_aload_n (pc := 8) dX12_byteAt_8 rfl ?_
    refine m_getR (pc := 9) hM dX12_byteAt_9 fk_12_13 (Or.inr ⟨_, rfl⟩) (Or.inl (by decide)) ?_
    refine x_aload_n (pc := 12) dX12_byteAt_12 rfl ?_
    refine m_getIv (pc := 13) (v := nI f) hM dX12_byteAt_13 fk_12_151 (Or.inl rfl) (hO.1) ?_
    refine x_iload_n (pc := 16) dX12_byteAt_16 rfl ?_
    refine x_iadd (pc := 17) dX12_byteAt_17 ?_
    refine m_iald (pc := 18) hM dX12_byteAt_18 (nI_add f i) (by show f + i < 960; have := hO.2.2.2.1; omega) ?_
    refine x_goto (pc := 19) (tgt := 23) dX12_byteAt_19 rfl ?_
    refine x_ireturn (pc := 23) dX12_byteAt_23 rfl rfl ?_
    rw [bA]
    first
      | rw [if_pos hlt]; exact ⟨rfl, rfl⟩
      | rw [if_neg (fun q => absurd h_5 (nI_ge q (by have := hO.2.2.1; omega)))]; exact ⟨rfl, rfl⟩
def flB (bd : Nat) : Nat := if bd = 0 then 1 else bd
def flF (bd ta ft : Nat) : Nat := if bd = 0 then ta else ft
theorem nI_1lit : (1 : Int32) = nI 1 := rfl
theorem c_fail (hM : MOK μ a) {h tk ta op bd ft : Nat} {tw : Int64} (hb : bd < 2) : XM Γ zX12_fail 1 0 0 [.ref a.1] (MV μ a (PS σ h tk ta tw op bd ft)) (rv (MV μ a (PS σ h tk ta tw op (flB bd) (flF bd ta ft)))) := by
  refine XM.of 0 rfl (by decide) (Nat.le_of_ble_eq_true rfl) ?_
  refine x_aload_n (pc := 0) dX12_fail_0 rfl ?_
  refine m_getIv (pc := 1) (v := nI bd) hM dX12_fail_1 fk_12_181 (Or.inr rfl) (rfl) ?_
  refine x_if_ne (pc := 4) (tgt := 20) dX12_fail_4 rfl (fun h_4 => ?_) (fun h_4 => ?_)
  · refine x_return (pc := 20) dX12_fail_20 rfl ?_
    first
      | (have e : bd = 0 := (nI_eq (by omega) (by omega)).mp (by first | exact h_4 | exact Decidable.not_not.mp h_4)
         subst e
         exact ⟨rfl, rfl⟩)
      | (have e : ¬ bd = 0 := fun z => h_4 (by rw [z]; rfl)
         rw [flB, flF, if_neg e, if_neg e]
         exact ⟨rfl, rfl⟩)
  · refine x_aload_n (pc := 7) dX12_fail_7 rfl ?_
    refine x_iconst (pc := 8) (v := 1) dX12_fail_8 rfl ?_
    refine m_putI (pc := 9) hM dX12_fail_9 fk_12_181 rfl (Or.inr ⟨rfl, Or.inr rfl⟩) ?_
    rw [nI_1lit, PS_bd]
    refine x_aload_n (pc := 12) dX12_fail_12 rfl ?_
    refine x_aload_n (pc := 13) dX12_fail_13 rfl ?_
    refine m_getIv (pc := 14) (v := nI ta) hM dX12_fail_14 fk_12_161 (Or.inl rfl) (rfl) ?_
    refine m_putI (pc := 17) hM dX12_fail_17 fk_12_185 rfl (Or.inl rfl) ?_
    rw [PS_ft]
    refine x_return (pc := 20) dX12_fail_20 rfl ?_
    first
      | (have e : bd = 0 := (nI_eq (by omega) (by omega)).mp (by first | exact h_4 | exact Decidable.not_not.mp h_4)
         subst e
         exact ⟨rfl, rfl⟩)
      | (have e : ¬ bd = 0 := fun z => h_4 (by rw [z]; rfl)
         rw [flB, flF, if_neg e, if_neg e]
         exact ⟨rfl, rfl⟩)
def isS (tk bd : Nat) (tw : Int64) (c : Int32) : Prop := bd = 0 ∧ tk = 3 ∧ tw = c.toInt64
def isSi (tk bd : Nat) (tw : Int64) (c : Int32) : Int32 := if bd = 0 ∧ tk = 3 ∧ tw = c.toInt64 then 1 else 0
theorem c_isSign (hM : MOK μ a) {h tk ta op bd ft : Nat} {tw : Int64} (hb : bd < 2) (ht : tk < 5) (c : Int32) : XM Γ zX12_isSign 1 0 0 [.ref a.1, .int c] (MV μ a (PS σ h tk ta tw op bd ft)) (rt (.int (isSi tk bd tw c)) (MV μ a (PS σ h tk ta tw op bd ft))) := by
  refine XM.of 0 rfl (by decide) (Nat.le_of_ble_eq_true rfl) ?_
  refine x_aload_n (pc := 0) dX12_isSign_0 rfl ?_
  refine m_getIv (pc := 1) (v := nI bd) hM dX12_isSign_1 fk_12_181 (Or.inr rfl) (rfl) ?_
  refine x_if_ne (pc := 4) (tgt := 29) dX12_isSign_4 rfl (fun h_4 => ?_) (fun h_4 => ?_)
  · refine x_iconst (pc := 29) (v := 0) dX12_isSign_29 rfl ?_
    refine x_ireturn (pc := 30) dX12_isSign_30 rfl (by first | rfl | exact bi_nz) ?_
    refine ⟨?_, rfl⟩
    congr 2
    unfold isSi
    first
      | rw [if_pos ⟨(nI_eq (by omega) (by omega)).mp (by first | exact h_4 | exact Decidable.not_not.mp h_4), (nI_eq (b := 3) (by omega) (by omega)).mp (by first | exact h_12 | exact Decidable.not_not.mp h_12), (lg_cmp_eq _ _).mp (by first | exact h_22 | exact Decidable.not_not.mp h_22)⟩]
      | rw [if_neg (by exact fun q => h_4 (by rw [q.1]; rfl))]
      | rw [if_neg (by exact fun q => h_12 (by rw [q.2.1]; rfl))]
      | rw [if_neg (by exact fun q => h_22 ((lg_cmp_eq _ _).mpr q.2.2))]
  · refine x_aload_n (pc := 7) dX12_isSign_7 rfl ?_
    refine m_getIv (pc := 8) (v := nI tk) hM dX12_isSign_8 fk_12_164 (Or.inl rfl) (rfl) ?_
    refine x_iconst (pc := 11) (v := 3) dX12_isSign_11 rfl ?_
    refine x_icmp_ne (pc := 12) (tgt := 29) dX12_isSign_12 rfl (fun h_12 => ?_) (fun h_12 => ?_)
    · refine x_iconst (pc := 29) (v := 0) dX12_isSign_29 rfl ?_
      refine x_ireturn (pc := 30) dX12_isSign_30 rfl (by first | rfl | exact bi_nz) ?_
      refine ⟨?_, rfl⟩
      congr 2
      unfold isSi
      first
        | rw [if_pos ⟨(nI_eq (by omega) (by omega)).mp (by first | exact h_4 | exact Decidable.not_not.mp h_4), (nI_eq (b := 3) (by omega) (by omega)).mp (by first | exact h_12 | exact Decidable.not_not.mp h_12), (lg_cmp_eq _ _).mp (by first | exact h_22 | exact Decidable.not_not.mp h_22)⟩]
        | rw [if_neg (by exact fun q => h_4 (by rw [q.1]; rfl))]
        | rw [if_neg (by exact fun q => h_12 (by rw [q.2.1]; rfl))]
        | rw [if_neg (by exact fun q => h_22 ((lg_cmp_eq _ _).mpr q.2.2))]
    · refine x_aload_n (pc := 15) dX12_isSign_15 rfl ?_
      refine m_getJ (pc := 16) hM dX12_isSign_16 fk_12_175 ?_
      refine x_iload_n (pc := 19) dX12_isSign_19 rfl ?_
      refine x_i2l (pc := 20) dX12_isSign_20 ?_
      refine x_lcmp (pc := 21) dX12_isSign_21 ?_
      refine x_if_ne (pc := 22) (tgt := 29) dX12_isSign_22 rfl (fun h_22 => ?_) (fun h_22 => ?_)
      · refine x_iconst (pc := 29) (v := 0) dX12_isSign_29 rfl ?_
        refine x_ireturn (pc := 30) dX12_isSign_30 rfl (by first | rfl | exact bi_nz) ?_
        refine ⟨?_, rfl⟩
        congr 2
        unfold isSi
        first
          | rw [if_pos ⟨(nI_eq (by omega) (by omega)).mp (by first | exact h_4 | exact Decidable.not_not.mp h_4), (nI_eq (b := 3) (by omega) (by omega)).mp (by first | exact h_12 | exact Decidable.not_not.mp h_12), (lg_cmp_eq _ _).mp (by first | exact h_22 | exact Decidable.not_not.mp h_22)⟩]
          | rw [if_neg (by exact fun q => h_4 (by rw [q.1]; rfl))]
          | rw [if_neg (by exact fun q => h_12 (by rw [q.2.1]; rfl))]
          | rw [if_neg (by exact fun q => h_22 ((lg_cmp_eq _ _).mpr q.2.2))]
      · refine x_iconst (pc := 25) (v := 1) dX12_isSign_25 rfl ?_
        refine x_goto (pc := 26) (tgt := 30) dX12_isSign_26 rfl ?_
        refine x_ireturn (pc := 30) dX12_isSign_30 rfl (by first | rfl | exact bi_nz) ?_
        refine ⟨?_, rfl⟩
        congr 2
        unfold isSi
        first
          | rw [if_pos ⟨(nI_eq (by omega) (by omega)).mp (by first | exact h_4 | exact Decidable.not_not.mp h_4), (nI_eq (b := 3) (by omega) (by omega)).mp (by first | exact h_12 | exact Decidable.not_not.mp h_12), (lg_cmp_eq _ _).mp (by first | exact h_22 | exact Decidable.not_not.mp h_22)⟩]
          | rw [if_neg (by exact fun q => h_4 (by rw [q.1]; rfl))]
          | rw [if_neg (by exact fun q => h_12 (by rw [q.2.1]; rfl))]
          | rw [if_neg (by exact fun q => h_22 ((lg_cmp_eq _ _).mpr q.2.2))]
def ltr (σ : MS) (f n h ta i : Nat) (c : Int32) : Int32 := if ta + i < h then (if bA σ f n (ta + i) = c then 1 else 0) else (if c = 0 then 1 else 0)
theorem c_isLetter (hM : MOK μ a) {h tk ta op bd ft f n : Nat} {tw : Int64} (hO : rdO σ f n) {i : Nat} (hh : h < 1000) (ht : ta < 1000) (hi : i < 1000) (c : Int32) : XM Γ zX12_isLetter 2 0 0 [.ref a.1, .int (nI i), .int c] (MV μ a (PS σ h tk ta tw op bd ft)) (rt (.int (ltr σ f n h ta i c)) (MV μ a (PS σ h tk ta tw op bd ft))) := by
  refine XM.of 0 rfl (by decide) (Nat.le_of_ble_eq_true rfl) ?_
  refine x_aload_n (pc := 0) dX12_isLetter_0 rfl ?_
  refine m_getIv (pc := 1) (v := nI ta) hM dX12_isLetter_1 fk_12_161 (Or.inl rfl) (rfl) ?_
  refine x_iload_n (pc := 4) dX12_isLetter_4 rfl ?_
  refine x_iadd (pc := 5) dX12_isLetter_5 ?_
  rw [nI_add]
  refine x_aload_n (pc := 6) dX12_isLetter_6 rfl ?_
  refine m_getIv (pc := 7) (v := nI h) hM dX12_isLetter_7 fk_12_154 (Or.inl rfl) (rfl) ?_
  refine x_icmp_ge (pc := 10) (tgt := 35) dX12_isLetter_10 rfl (fun h_10 => ?_) (fun h_10 => ?_)
  · refine x_iload_n (pc := 35) dX12_isLetter_35 rfl ?_
    refine x_if_ne (pc := 36) (tgt := 43) dX12_isLetter_36 rfl (fun h_36 => ?_) (fun h_36 => ?_)
    · refine x_iconst (pc := 43) (v := 0) dX12_isLetter_43 rfl ?_
      refine x_ireturn (pc := 44) dX12_isLetter_44 rfl (by first | rfl | exact bi_nz) ?_
      refine ⟨?_, rfl⟩
      congr 2
      unfold ltr
      first
        | rw [if_pos (show ta + i < h by rcases Nat.lt_or_ge (ta + i) h with q | q; exact q; exact absurd (nI_le q (by omega)) h_10)]
          first
            | rw [if_pos (by first | exact h_24 | exact Decidable.not_not.mp h_24)]
            | rw [if_neg h_24]
        | rw [if_neg (fun q => absurd h_10 (nI_ge q (by omega)))]
          first
            | rw [if_pos (by first | exact h_36 | exact Decidable.not_not.mp h_36)]
            | rw [if_neg h_36]
    · refine x_iconst (pc := 39) (v := 1) dX12_isLetter_39 rfl ?_
      refine x_goto (pc := 40) (tgt := 44) dX12_isLetter_40 rfl ?_
      refine x_ireturn (pc := 44) dX12_isLetter_44 rfl (by first | rfl | exact bi_nz) ?_
      refine ⟨?_, rfl⟩
      congr 2
      unfold ltr
      first
        | rw [if_pos (show ta + i < h by rcases Nat.lt_or_ge (ta + i) h with q | q; exact q; exact absurd (nI_le q (by omega)) h_10)]
          first
            | rw [if_pos (by first | exact h_24 | exact Decidable.not_not.mp h_24)]
            | rw [if_neg h_24]
        | rw [if_neg (fun q => absurd h_10 (nI_ge q (by omega)))]
          first
            | rw [if_pos (by first | exact h_36 | exact Decidable.not_not.mp h_36)]
            | rw [if_neg h_36]
  · refine x_aload_n (pc := 13) dX12_isLetter_13 rfl ?_
    refine x_aload_n (pc := 14) dX12_isLetter_14 rfl ?_
    refine m_getIv (pc := 15) (v := nI ta) hM dX12_isLetter_15 fk_12_161 (Or.inl rfl) (rfl) ?_
    refine x_iload_n (pc := 18) dX12_isLetter_18 rfl ?_
    refine x_iadd (pc := 19) dX12_isLetter_19 ?_
    rw [nI_add]
    refine x_callV (pc := 20) (As := [.int _]) dX12_isLetter_20 mX12_byteAt lk_12_157 hM.1 (c_byteAt hM hO (by omega)) rfl rfl (Nat.le_of_ble_eq_true rfl) ⟨by decide, by decide⟩ ⟨Nat.zero_le _, Nat.zero_le _⟩ (k_rt ?_)
    refine x_iload_n (pc := 23) dX12_isLetter_23 rfl ?_
    refine x_icmp_ne (pc := 24) (tgt := 31) dX12_isLetter_24 rfl (fun h_24 => ?_) (fun h_24 => ?_)
    · refine x_iconst (pc := 31) (v := 0) dX12_isLetter_31 rfl ?_
      refine x_goto (pc := 32) (tgt := 44) dX12_isLetter_32 rfl ?_
      refine x_ireturn (pc := 44) dX12_isLetter_44 rfl (by first | rfl | exact bi_nz) ?_
      refine ⟨?_, rfl⟩
      congr 2
      unfold ltr
      first
        | rw [if_pos (show ta + i < h by rcases Nat.lt_or_ge (ta + i) h with q | q; exact q; exact absurd (nI_le q (by omega)) h_10)]
          first
            | rw [if_pos (by first | exact h_24 | exact Decidable.not_not.mp h_24)]
            | rw [if_neg h_24]
        | rw [if_neg (fun q => absurd h_10 (nI_ge q (by omega)))]
          first
            | rw [if_pos (by first | exact h_36 | exact Decidable.not_not.mp h_36)]
            | rw [if_neg h_36]
    · refine x_iconst (pc := 27) (v := 1) dX12_isLetter_27 rfl ?_
      refine x_goto (pc := 28) (tgt := 44) dX12_isLetter_28 rfl ?_
      refine x_ireturn (pc := 44) dX12_isLetter_44 rfl (by first | rfl | exact bi_nz) ?_
      refine ⟨?_, rfl⟩
      congr 2
      unfold ltr
      first
        | rw [if_pos (show ta + i < h by rcases Nat.lt_or_ge (ta + i) h with q | q; exact q; exact absurd (nI_le q (by omega)) h_10)]
          first
            | rw [if_pos (by first | exact h_24 | exact Decidable.not_not.mp h_24)]
            | rw [if_neg h_24]
        | rw [if_neg (fun q => absurd h_10 (nI_ge q (by omega)))]
          first
            | rw [if_pos (by first | exact h_36 | exact Decidable.not_not.mp h_36)]
            | rw [if_neg h_36]
theorem ltr_b (σ : MS) (f n h ta i : Nat) (c : Int32) : ltr σ f n h ta i c = 0 ∨ ltr σ f n h ta i c = 1 := by
  unfold ltr
  repeat' split
  all_goals simp
def isWi (σ : MS) (f n h tk ta bd : Nat) (c0 c1 c2 c3 c4 c5 c6 c7 : Int32) : Int32 := if bd = 0 ∧ tk = 1 ∧ h ≤ ta + 8 ∧ ltr σ f n h ta 0 c0 = 1 ∧ ltr σ f n h ta 1 c1 = 1 ∧ ltr σ f n h ta 2 c2 = 1 ∧ ltr σ f n h ta 3 c3 = 1 ∧ ltr σ f n h ta 4 c4 = 1 ∧ ltr σ f n h ta 5 c5 = 1 ∧ ltr σ f n h ta 6 c6 = 1 ∧ ltr σ f n h ta 7 c7 = 1 then 1 else 0
theorem n01 {x : Int32} (h : x = 0) : ¬ x = 1 := by rw [h]; decide
theorem c_isWord (hM : MOK μ a) {h tk ta op bd ft f n : Nat} {tw : Int64} (hO : rdO σ f n) (hb : bd < 2) (htk : tk < 5) (hh : h < 1000) (ht : ta < 1000) (c0 c1 c2 c3 c4 c5 c6 c7 : Int32) : XM Γ zX12_isWord 3 0 0 [.ref a.1, .int c0, .int c1, .int c2, .int c3, .int c4, .int c5, .int c6, .int c7] (MV μ a (PS σ h tk ta tw op bd ft)) (rt (.int (isWi σ f n h tk ta bd c0 c1 c2 c3 c4 c5 c6 c7)) (MV μ a (PS σ h tk ta tw op bd ft))) := by
  refine XM.of 0 rfl (by decide) (Nat.le_of_ble_eq_true rfl) ?_
  refine x_aload_n (pc := 0) dX12_isWord_0 rfl ?_
  refine m_getIv (pc := 1) (v := nI bd) hM dX12_isWord_1 fk_12_181 (Or.inr rfl) (rfl) ?_
  refine x_if_ne (pc := 4) (tgt := 112) dX12_isWord_4 rfl (fun h_4 => ?_) (fun h_4 => ?_)
  · refine x_iconst (pc := 112) (v := 0) dX12_isWord_112 rfl ?_
    refine x_ireturn (pc := 113) dX12_isWord_113 rfl (by first | rfl | exact bi_nz) ?_
    refine ⟨?_, rfl⟩
    congr 2
    unfold isWi
    first
      | rw [if_pos ⟨(nI_eq (by omega) (by omega)).mp (by first | exact h_4 | exact Decidable.not_not.mp h_4), (nI_eq (b := 1) (by omega) (by omega)).mp (by first | exact h_12 | exact Decidable.not_not.mp h_12), (nI_leI (by omega) (by omega)).mp (by exact Int32.not_lt.mp h_26), (by exact (ltr_b _ _ _ _ _ _ _).resolve_left h_35), (by exact (ltr_b _ _ _ _ _ _ _).resolve_left h_44), (by exact (ltr_b _ _ _ _ _ _ _).resolve_left h_53), (by exact (ltr_b _ _ _ _ _ _ _).resolve_left h_63), (by exact (ltr_b _ _ _ _ _ _ _).resolve_left h_73), (by exact (ltr_b _ _ _ _ _ _ _).resolve_left h_83), (by exact (ltr_b _ _ _ _ _ _ _).resolve_left h_94), (by exact (ltr_b _ _ _ _ _ _ _).resolve_left h_105)⟩]
      | rw [if_neg (by exact fun q => h_4 (by rw [q.1]; rfl))]
      | rw [if_neg (by exact fun q => h_12 (by rw [q.2.1]; rfl))]
      | rw [if_neg (by exact fun q => absurd h_26 (Int32.not_lt.mpr (nI_le q.2.2.1 (by omega))))]
      | rw [if_neg (by exact fun q => n01 h_35 q.2.2.2.1)]
      | rw [if_neg (by exact fun q => n01 h_44 q.2.2.2.2.1)]
      | rw [if_neg (by exact fun q => n01 h_53 q.2.2.2.2.2.1)]
      | rw [if_neg (by exact fun q => n01 h_63 q.2.2.2.2.2.2.1)]
      | rw [if_neg (by exact fun q => n01 h_73 q.2.2.2.2.2.2.2.1)]
      | rw [if_neg (by exact fun q => n01 h_83 q.2.2.2.2.2.2.2.2.1)]
      | rw [if_neg (by exact fun q => n01 h_94 q.2.2.2.2.2.2.2.2.2.1)]
      | rw [if_neg (by exact fun q => n01 h_105 q.2.2.2.2.2.2.2.2.2.2)]
  · refine x_aload_n (pc := 7) dX12_isWord_7 rfl ?_
    refine m_getIv (pc := 8) (v := nI tk) hM dX12_isWord_8 fk_12_164 (Or.inl rfl) (rfl) ?_
    refine x_iconst (pc := 11) (v := 1) dX12_isWord_11 rfl ?_
    refine x_icmp_ne (pc := 12) (tgt := 112) dX12_isWord_12 rfl (fun h_12 => ?_) (fun h_12 => ?_)
    · refine x_iconst (pc := 112) (v := 0) dX12_isWord_112 rfl ?_
      refine x_ireturn (pc := 113) dX12_isWord_113 rfl (by first | rfl | exact bi_nz) ?_
      refine ⟨?_, rfl⟩
      congr 2
      unfold isWi
      first
        | rw [if_pos ⟨(nI_eq (by omega) (by omega)).mp (by first | exact h_4 | exact Decidable.not_not.mp h_4), (nI_eq (b := 1) (by omega) (by omega)).mp (by first | exact h_12 | exact Decidable.not_not.mp h_12), (nI_leI (by omega) (by omega)).mp (by exact Int32.not_lt.mp h_26), (by exact (ltr_b _ _ _ _ _ _ _).resolve_left h_35), (by exact (ltr_b _ _ _ _ _ _ _).resolve_left h_44), (by exact (ltr_b _ _ _ _ _ _ _).resolve_left h_53), (by exact (ltr_b _ _ _ _ _ _ _).resolve_left h_63), (by exact (ltr_b _ _ _ _ _ _ _).resolve_left h_73), (by exact (ltr_b _ _ _ _ _ _ _).resolve_left h_83), (by exact (ltr_b _ _ _ _ _ _ _).resolve_left h_94), (by exact (ltr_b _ _ _ _ _ _ _).resolve_left h_105)⟩]
        | rw [if_neg (by exact fun q => h_4 (by rw [q.1]; rfl))]
        | rw [if_neg (by exact fun q => h_12 (by rw [q.2.1]; rfl))]
        | rw [if_neg (by exact fun q => absurd h_26 (Int32.not_lt.mpr (nI_le q.2.2.1 (by omega))))]
        | rw [if_neg (by exact fun q => n01 h_35 q.2.2.2.1)]
        | rw [if_neg (by exact fun q => n01 h_44 q.2.2.2.2.1)]
        | rw [if_neg (by exact fun q => n01 h_53 q.2.2.2.2.2.1)]
        | rw [if_neg (by exact fun q => n01 h_63 q.2.2.2.2.2.2.1)]
        | rw [if_neg (by exact fun q => n01 h_73 q.2.2.2.2.2.2.2.1)]
        | rw [if_neg (by exact fun q => n01 h_83 q.2.2.2.2.2.2.2.2.1)]
        | rw [if_neg (by exact fun q => n01 h_94 q.2.2.2.2.2.2.2.2.2.1)]
        | rw [if_neg (by exact fun q => n01 h_105 q.2.2.2.2.2.2.2.2.2.2)]
    · refine x_aload_n (pc := 15) dX12_isWord_15 rfl ?_
      refine m_getIv (pc := 16) (v := nI h) hM dX12_isWord_16 fk_12_154 (Or.inl rfl) (rfl) ?_
      refine x_aload_n (pc := 19) dX12_isWord_19 rfl ?_
      refine m_getIv (pc := 20) (v := nI ta) hM dX12_isWord_20 fk_12_161 (Or.inl rfl) (rfl) ?_
      refine x_bipush (pc := 23) (v := 8) dX12_isWord_23 rfl ?_
      refine x_iadd (pc := 25) dX12_isWord_25 ?_
      rw [show (8 : Int32) = nI 8 from rfl, nI_add]
      refine x_icmp_gt (pc := 26) (tgt := 112) dX12_isWord_26 rfl (fun h_26 => ?_) (fun h_26 => ?_)
      · refine x_iconst (pc := 112) (v := 0) dX12_isWord_112 rfl ?_
        refine x_ireturn (pc := 113) dX12_isWord_113 rfl (by first | rfl | exact bi_nz) ?_
        refine ⟨?_, rfl⟩
        congr 2
        unfold isWi
        first
          | rw [if_pos ⟨(nI_eq (by omega) (by omega)).mp (by first | exact h_4 | exact Decidable.not_not.mp h_4), (nI_eq (b := 1) (by omega) (by omega)).mp (by first | exact h_12 | exact Decidable.not_not.mp h_12), (nI_leI (by omega) (by omega)).mp (by exact Int32.not_lt.mp h_26), (by exact (ltr_b _ _ _ _ _ _ _).resolve_left h_35), (by exact (ltr_b _ _ _ _ _ _ _).resolve_left h_44), (by exact (ltr_b _ _ _ _ _ _ _).resolve_left h_53), (by exact (ltr_b _ _ _ _ _ _ _).resolve_left h_63), (by exact (ltr_b _ _ _ _ _ _ _).resolve_left h_73), (by exact (ltr_b _ _ _ _ _ _ _).resolve_left h_83), (by exact (ltr_b _ _ _ _ _ _ _).resolve_left h_94), (by exact (ltr_b _ _ _ _ _ _ _).resolve_left h_105)⟩]
          | rw [if_neg (by exact fun q => h_4 (by rw [q.1]; rfl))]
          | rw [if_neg (by exact fun q => h_12 (by rw [q.2.1]; rfl))]
          | rw [if_neg (by exact fun q => absurd h_26 (Int32.not_lt.mpr (nI_le q.2.2.1 (by omega))))]
          | rw [if_neg (by exact fun q => n01 h_35 q.2.2.2.1)]
          | rw [if_neg (by exact fun q => n01 h_44 q.2.2.2.2.1)]
          | rw [if_neg (by exact fun q => n01 h_53 q.2.2.2.2.2.1)]
          | rw [if_neg (by exact fun q => n01 h_63 q.2.2.2.2.2.2.1)]
          | rw [if_neg (by exact fun q => n01 h_73 q.2.2.2.2.2.2.2.1)]
          | rw [if_neg (by exact fun q => n01 h_83 q.2.2.2.2.2.2.2.2.1)]
          | rw [if_neg (by exact fun q => n01 h_94 q.2.2.2.2.2.2.2.2.2.1)]
          | rw [if_neg (by exact fun q => n01 h_105 q.2.2.2.2.2.2.2.2.2.2)]
      · refine x_aload_n (pc := 29) dX12_isWord_29 rfl ?_
        refine x_iconst (pc := 30) (v := 0) dX12_isWord_30 rfl ?_
        refine x_iload_n (pc := 31) dX12_isWord_31 rfl ?_
        refine x_callV (pc := 32) (As := [.int _, .int _]) dX12_isWord_32 mX12_isLetter lk_12_188 hM.1 (c_isLetter (i := 0) hM hO hh ht (by omega) _) rfl rfl (Nat.le_of_ble_eq_true rfl) ⟨by decide, by decide⟩ ⟨Nat.zero_le _, Nat.zero_le _⟩ (k_rt ?_)
        refine x_if_eq (pc := 35) (tgt := 112) dX12_isWord_35 rfl (fun h_35 => ?_) (fun h_35 => ?_)
        · refine x_iconst (pc := 112) (v := 0) dX12_isWord_112 rfl ?_
          refine x_ireturn (pc := 113) dX12_isWord_113 rfl (by first | rfl | exact bi_nz) ?_
          refine ⟨?_, rfl⟩
          congr 2
          unfold isWi
          first
            | rw [if_pos ⟨(nI_eq (by omega) (by omega)).mp (by first | exact h_4 | exact Decidable.not_not.mp h_4), (nI_eq (b := 1) (by omega) (by omega)).mp (by first | exact h_12 | exact Decidable.not_not.mp h_12), (nI_leI (by omega) (by omega)).mp (by exact Int32.not_lt.mp h_26), (by exact (ltr_b _ _ _ _ _ _ _).resolve_left h_35), (by exact (ltr_b _ _ _ _ _ _ _).resolve_left h_44), (by exact (ltr_b _ _ _ _ _ _ _).resolve_left h_53), (by exact (ltr_b _ _ _ _ _ _ _).resolve_left h_63), (by exact (ltr_b _ _ _ _ _ _ _).resolve_left h_73), (by exact (ltr_b _ _ _ _ _ _ _).resolve_left h_83), (by exact (ltr_b _ _ _ _ _ _ _).resolve_left h_94), (by exact (ltr_b _ _ _ _ _ _ _).resolve_left h_105)⟩]
            | rw [if_neg (by exact fun q => h_4 (by rw [q.1]; rfl))]
            | rw [if_neg (by exact fun q => h_12 (by rw [q.2.1]; rfl))]
            | rw [if_neg (by exact fun q => absurd h_26 (Int32.not_lt.mpr (nI_le q.2.2.1 (by omega))))]
            | rw [if_neg (by exact fun q => n01 h_35 q.2.2.2.1)]
            | rw [if_neg (by exact fun q => n01 h_44 q.2.2.2.2.1)]
            | rw [if_neg (by exact fun q => n01 h_53 q.2.2.2.2.2.1)]
            | rw [if_neg (by exact fun q => n01 h_63 q.2.2.2.2.2.2.1)]
            | rw [if_neg (by exact fun q => n01 h_73 q.2.2.2.2.2.2.2.1)]
            | rw [if_neg (by exact fun q => n01 h_83 q.2.2.2.2.2.2.2.2.1)]
            | rw [if_neg (by exact fun q => n01 h_94 q.2.2.2.2.2.2.2.2.2.1)]
            | rw [if_neg (by exact fun q => n01 h_105 q.2.2.2.2.2.2.2.2.2.2)]
        · refine x_aload_n (pc := 38) dX12_isWord_38 rfl ?_
          refine x_iconst (pc := 39) (v := 1) dX12_isWord_39 rfl ?_
          refine x_iload_n (pc := 40) dX12_isWord_40 rfl ?_
          refine x_callV (pc := 41) (As := [.int _, .int _]) dX12_isWord_41 mX12_isLetter lk_12_188 hM.1 (c_isLetter (i := 1) hM hO hh ht (by omega) _) rfl rfl (Nat.le_of_ble_eq_true rfl) ⟨by decide, by decide⟩ ⟨Nat.zero_le _, Nat.zero_le _⟩ (k_rt ?_)
          refine x_if_eq (pc := 44) (tgt := 112) dX12_isWord_44 rfl (fun h_44 => ?_) (fun h_44 => ?_)
          · refine x_iconst (pc := 112) (v := 0) dX12_isWord_112 rfl ?_
            refine x_ireturn (pc := 113) dX12_isWord_113 rfl (by first | rfl | exact bi_nz) ?_
            refine ⟨?_, rfl⟩
            congr 2
            unfold isWi
            first
              | rw [if_pos ⟨(nI_eq (by omega) (by omega)).mp (by first | exact h_4 | exact Decidable.not_not.mp h_4), (nI_eq (b := 1) (by omega) (by omega)).mp (by first | exact h_12 | exact Decidable.not_not.mp h_12), (nI_leI (by omega) (by omega)).mp (by exact Int32.not_lt.mp h_26), (by exact (ltr_b _ _ _ _ _ _ _).resolve_left h_35), (by exact (ltr_b _ _ _ _ _ _ _).resolve_left h_44), (by exact (ltr_b _ _ _ _ _ _ _).resolve_left h_53), (by exact (ltr_b _ _ _ _ _ _ _).resolve_left h_63), (by exact (ltr_b _ _ _ _ _ _ _).resolve_left h_73), (by exact (ltr_b _ _ _ _ _ _ _).resolve_left h_83), (by exact (ltr_b _ _ _ _ _ _ _).resolve_left h_94), (by exact (ltr_b _ _ _ _ _ _ _).resolve_left h_105)⟩]
              | rw [if_neg (by exact fun q => h_4 (by rw [q.1]; rfl))]
              | rw [if_neg (by exact fun q => h_12 (by rw [q.2.1]; rfl))]
              | rw [if_neg (by exact fun q => absurd h_26 (Int32.not_lt.mpr (nI_le q.2.2.1 (by omega))))]
              | rw [if_neg (by exact fun q => n01 h_35 q.2.2.2.1)]
              | rw [if_neg (by exact fun q => n01 h_44 q.2.2.2.2.1)]
              | rw [if_neg (by exact fun q => n01 h_53 q.2.2.2.2.2.1)]
              | rw [if_neg (by exact fun q => n01 h_63 q.2.2.2.2.2.2.1)]
              | rw [if_neg (by exact fun q => n01 h_73 q.2.2.2.2.2.2.2.1)]
              | rw [if_neg (by exact fun q => n01 h_83 q.2.2.2.2.2.2.2.2.1)]
              | rw [if_neg (by exact fun q => n01 h_94 q.2.2.2.2.2.2.2.2.2.1)]
              | rw [if_neg (by exact fun q => n01 h_105 q.2.2.2.2.2.2.2.2.2.2)]
          · refine x_aload_n (pc := 47) dX12_isWord_47 rfl ?_
            refine x_iconst (pc := 48) (v := 2) dX12_isWord_48 rfl ?_
            refine x_iload_n (pc := 49) dX12_isWord_49 rfl ?_
            refine x_callV (pc := 50) (As := [.int _, .int _]) dX12_isWord_50 mX12_isLetter lk_12_188 hM.1 (c_isLetter (i := 2) hM hO hh ht (by omega) _) rfl rfl (Nat.le_of_ble_eq_true rfl) ⟨by decide, by decide⟩ ⟨Nat.zero_le _, Nat.zero_le _⟩ (k_rt ?_)
            refine x_if_eq (pc := 53) (tgt := 112) dX12_isWord_53 rfl (fun h_53 => ?_) (fun h_53 => ?_)
            · refine x_iconst (pc := 112) (v := 0) dX12_isWord_112 rfl ?_
              refine x_ireturn (pc := 113) dX12_isWord_113 rfl (by first | rfl | exact bi_nz) ?_
              refine ⟨?_, rfl⟩
              congr 2
              unfold isWi
              first
                | rw [if_pos ⟨(nI_eq (by omega) (by omega)).mp (by first | exact h_4 | exact Decidable.not_not.mp h_4), (nI_eq (b := 1) (by omega) (by omega)).mp (by first | exact h_12 | exact Decidable.not_not.mp h_12), (nI_leI (by omega) (by omega)).mp (by exact Int32.not_lt.mp h_26), (by exact (ltr_b _ _ _ _ _ _ _).resolve_left h_35), (by exact (ltr_b _ _ _ _ _ _ _).resolve_left h_44), (by exact (ltr_b _ _ _ _ _ _ _).resolve_left h_53), (by exact (ltr_b _ _ _ _ _ _ _).resolve_left h_63), (by exact (ltr_b _ _ _ _ _ _ _).resolve_left h_73), (by exact (ltr_b _ _ _ _ _ _ _).resolve_left h_83), (by exact (ltr_b _ _ _ _ _ _ _).resolve_left h_94), (by exact (ltr_b _ _ _ _ _ _ _).resolve_left h_105)⟩]
                | rw [if_neg (by exact fun q => h_4 (by rw [q.1]; rfl))]
                | rw [if_neg (by exact fun q => h_12 (by rw [q.2.1]; rfl))]
                | rw [if_neg (by exact fun q => absurd h_26 (Int32.not_lt.mpr (nI_le q.2.2.1 (by omega))))]
                | rw [if_neg (by exact fun q => n01 h_35 q.2.2.2.1)]
                | rw [if_neg (by exact fun q => n01 h_44 q.2.2.2.2.1)]
                | rw [if_neg (by exact fun q => n01 h_53 q.2.2.2.2.2.1)]
                | rw [if_neg (by exact fun q => n01 h_63 q.2.2.2.2.2.2.1)]
                | rw [if_neg (by exact fun q => n01 h_73 q.2.2.2.2.2.2.2.1)]
                | rw [if_neg (by exact fun q => n01 h_83 q.2.2.2.2.2.2.2.2.1)]
                | rw [if_neg (by exact fun q => n01 h_94 q.2.2.2.2.2.2.2.2.2.1)]
                | rw [if_neg (by exact fun q => n01 h_105 q.2.2.2.2.2.2.2.2.2.2)]
            · refine x_aload_n (pc := 56) dX12_isWord_56 rfl ?_
              refine x_iconst (pc := 57) (v := 3) dX12_isWord_57 rfl ?_
              refine x_iload (pc := 58) dX12_isWord_58 rfl ?_
              refine x_callV (pc := 60) (As := [.int _, .int _]) dX12_isWord_60 mX12_isLetter lk_12_188 hM.1 (c_isLetter (i := 3) hM hO hh ht (by omega) _) rfl rfl (Nat.le_of_ble_eq_true rfl) ⟨by decide, by decide⟩ ⟨Nat.zero_le _, Nat.zero_le _⟩ (k_rt ?_)
              refine x_if_eq (pc := 63) (tgt := 112) dX12_isWord_63 rfl (fun h_63 => ?_) (fun h_63 => ?_)
              · refine x_iconst (pc := 112) (v := 0) dX12_isWord_112 rfl ?_
                refine x_ireturn (pc := 113) dX12_isWord_113 rfl (by first | rfl | exact bi_nz) ?_
                refine ⟨?_, rfl⟩
                congr 2
                unfold isWi
                first
                  | rw [if_pos ⟨(nI_eq (by omega) (by omega)).mp (by first | exact h_4 | exact Decidable.not_not.mp h_4), (nI_eq (b := 1) (by omega) (by omega)).mp (by first | exact h_12 | exact Decidable.not_not.mp h_12), (nI_leI (by omega) (by omega)).mp (by exact Int32.not_lt.mp h_26), (by exact (ltr_b _ _ _ _ _ _ _).resolve_left h_35), (by exact (ltr_b _ _ _ _ _ _ _).resolve_left h_44), (by exact (ltr_b _ _ _ _ _ _ _).resolve_left h_53), (by exact (ltr_b _ _ _ _ _ _ _).resolve_left h_63), (by exact (ltr_b _ _ _ _ _ _ _).resolve_left h_73), (by exact (ltr_b _ _ _ _ _ _ _).resolve_left h_83), (by exact (ltr_b _ _ _ _ _ _ _).resolve_left h_94), (by exact (ltr_b _ _ _ _ _ _ _).resolve_left h_105)⟩]
                  | rw [if_neg (by exact fun q => h_4 (by rw [q.1]; rfl))]
                  | rw [if_neg (by exact fun q => h_12 (by rw [q.2.1]; rfl))]
                  | rw [if_neg (by exact fun q => absurd h_26 (Int32.not_lt.mpr (nI_le q.2.2.1 (by omega))))]
                  | rw [if_neg (by exact fun q => n01 h_35 q.2.2.2.1)]
                  | rw [if_neg (by exact fun q => n01 h_44 q.2.2.2.2.1)]
                  | rw [if_neg (by exact fun q => n01 h_53 q.2.2.2.2.2.1)]
                  | rw [if_neg (by exact fun q => n01 h_63 q.2.2.2.2.2.2.1)]
                  | rw [if_neg (by exact fun q => n01 h_73 q.2.2.2.2.2.2.2.1)]
                  | rw [if_neg (by exact fun q => n01 h_83 q.2.2.2.2.2.2.2.2.1)]
                  | rw [if_neg (by exact fun q => n01 h_94 q.2.2.2.2.2.2.2.2.2.1)]
                  | rw [if_neg (by exact fun q => n01 h_105 q.2.2.2.2.2.2.2.2.2.2)]
              · refine x_aload_n (pc := 66) dX12_isWord_66 rfl ?_
                refine x_iconst (pc := 67) (v := 4) dX12_isWord_67 rfl ?_
                refine x_iload (pc := 68) dX12_isWord_68 rfl ?_
                refine x_callV (pc := 70) (As := [.int _, .int _]) dX12_isWord_70 mX12_isLetter lk_12_188 hM.1 (c_isLetter (i := 4) hM hO hh ht (by omega) _) rfl rfl (Nat.le_of_ble_eq_true rfl) ⟨by decide, by decide⟩ ⟨Nat.zero_le _, Nat.zero_le _⟩ (k_rt ?_)
                refine x_if_eq (pc := 73) (tgt := 112) dX12_isWord_73 rfl (fun h_73 => ?_) (fun h_73 => ?_)
                · refine x_iconst (pc := 112) (v := 0) dX12_isWord_112 rfl ?_
                  refine x_ireturn (pc := 113) dX12_isWord_113 rfl (by first | rfl | exact bi_nz) ?_
                  refine ⟨?_, rfl⟩
                  congr 2
                  unfold isWi
                  first
                    | rw [if_pos ⟨(nI_eq (by omega) (by omega)).mp (by first | exact h_4 | exact Decidable.not_not.mp h_4), (nI_eq (b := 1) (by omega) (by omega)).mp (by first | exact h_12 | exact Decidable.not_not.mp h_12), (nI_leI (by omega) (by omega)).mp (by exact Int32.not_lt.mp h_26), (by exact (ltr_b _ _ _ _ _ _ _).resolve_left h_35), (by exact (ltr_b _ _ _ _ _ _ _).resolve_left h_44), (by exact (ltr_b _ _ _ _ _ _ _).resolve_left h_53), (by exact (ltr_b _ _ _ _ _ _ _).resolve_left h_63), (by exact (ltr_b _ _ _ _ _ _ _).resolve_left h_73), (by exact (ltr_b _ _ _ _ _ _ _).resolve_left h_83), (by exact (ltr_b _ _ _ _ _ _ _).resolve_left h_94), (by exact (ltr_b _ _ _ _ _ _ _).resolve_left h_105)⟩]
                    | rw [if_neg (by exact fun q => h_4 (by rw [q.1]; rfl))]
                    | rw [if_neg (by exact fun q => h_12 (by rw [q.2.1]; rfl))]
                    | rw [if_neg (by exact fun q => absurd h_26 (Int32.not_lt.mpr (nI_le q.2.2.1 (by omega))))]
                    | rw [if_neg (by exact fun q => n01 h_35 q.2.2.2.1)]
                    | rw [if_neg (by exact fun q => n01 h_44 q.2.2.2.2.1)]
                    | rw [if_neg (by exact fun q => n01 h_53 q.2.2.2.2.2.1)]
                    | rw [if_neg (by exact fun q => n01 h_63 q.2.2.2.2.2.2.1)]
                    | rw [if_neg (by exact fun q => n01 h_73 q.2.2.2.2.2.2.2.1)]
                    | rw [if_neg (by exact fun q => n01 h_83 q.2.2.2.2.2.2.2.2.1)]
                    | rw [if_neg (by exact fun q => n01 h_94 q.2.2.2.2.2.2.2.2.2.1)]
                    | rw [if_neg (by exact fun q => n01 h_105 q.2.2.2.2.2.2.2.2.2.2)]
                · refine x_aload_n (pc := 76) dX12_isWord_76 rfl ?_
                  refine x_iconst (pc := 77) (v := 5) dX12_isWord_77 rfl ?_
                  refine x_iload (pc := 78) dX12_isWord_78 rfl ?_
                  refine x_callV (pc := 80) (As := [.int _, .int _]) dX12_isWord_80 mX12_isLetter lk_12_188 hM.1 (c_isLetter (i := 5) hM hO hh ht (by omega) _) rfl rfl (Nat.le_of_ble_eq_true rfl) ⟨by decide, by decide⟩ ⟨Nat.zero_le _, Nat.zero_le _⟩ (k_rt ?_)
                  refine x_if_eq (pc := 83) (tgt := 112) dX12_isWord_83 rfl (fun h_83 => ?_) (fun h_83 => ?_)
                  · refine x_iconst (pc := 112) (v := 0) dX12_isWord_112 rfl ?_
                    refine x_ireturn (pc := 113) dX12_isWord_113 rfl (by first | rfl | exact bi_nz) ?_
                    refine ⟨?_, rfl⟩
                    congr 2
                    unfold isWi
                    first
                      | rw [if_pos ⟨(nI_eq (by omega) (by omega)).mp (by first | exact h_4 | exact Decidable.not_not.mp h_4), (nI_eq (b := 1) (by omega) (by omega)).mp (by first | exact h_12 | exact Decidable.not_not.mp h_12), (nI_leI (by omega) (by omega)).mp (by exact Int32.not_lt.mp h_26), (by exact (ltr_b _ _ _ _ _ _ _).resolve_left h_35), (by exact (ltr_b _ _ _ _ _ _ _).resolve_left h_44), (by exact (ltr_b _ _ _ _ _ _ _).resolve_left h_53), (by exact (ltr_b _ _ _ _ _ _ _).resolve_left h_63), (by exact (ltr_b _ _ _ _ _ _ _).resolve_left h_73), (by exact (ltr_b _ _ _ _ _ _ _).resolve_left h_83), (by exact (ltr_b _ _ _ _ _ _ _).resolve_left h_94), (by exact (ltr_b _ _ _ _ _ _ _).resolve_left h_105)⟩]
                      | rw [if_neg (by exact fun q => h_4 (by rw [q.1]; rfl))]
                      | rw [if_neg (by exact fun q => h_12 (by rw [q.2.1]; rfl))]
                      | rw [if_neg (by exact fun q => absurd h_26 (Int32.not_lt.mpr (nI_le q.2.2.1 (by omega))))]
                      | rw [if_neg (by exact fun q => n01 h_35 q.2.2.2.1)]
                      | rw [if_neg (by exact fun q => n01 h_44 q.2.2.2.2.1)]
                      | rw [if_neg (by exact fun q => n01 h_53 q.2.2.2.2.2.1)]
                      | rw [if_neg (by exact fun q => n01 h_63 q.2.2.2.2.2.2.1)]
                      | rw [if_neg (by exact fun q => n01 h_73 q.2.2.2.2.2.2.2.1)]
                      | rw [if_neg (by exact fun q => n01 h_83 q.2.2.2.2.2.2.2.2.1)]
                      | rw [if_neg (by exact fun q => n01 h_94 q.2.2.2.2.2.2.2.2.2.1)]
                      | rw [if_neg (by exact fun q => n01 h_105 q.2.2.2.2.2.2.2.2.2.2)]
                  · refine x_aload_n (pc := 86) dX12_isWord_86 rfl ?_
                    refine x_bipush (pc := 87) (v := 6) dX12_isWord_87 rfl ?_
                    refine x_iload (pc := 89) dX12_isWord_89 rfl ?_
                    refine x_callV (pc := 91) (As := [.int _, .int _]) dX12_isWord_91 mX12_isLetter lk_12_188 hM.1 (c_isLetter (i := 6) hM hO hh ht (by omega) _) rfl rfl (Nat.le_of_ble_eq_true rfl) ⟨by decide, by decide⟩ ⟨Nat.zero_le _, Nat.zero_le _⟩ (k_rt ?_)
                    refine x_if_eq (pc := 94) (tgt := 112) dX12_isWord_94 rfl (fun h_94 => ?_) (fun h_94 => ?_)
                    · refine x_iconst (pc := 112) (v := 0) dX12_isWord_112 rfl ?_
                      refine x_ireturn (pc := 113) dX12_isWord_113 rfl (by first | rfl | exact bi_nz) ?_
                      refine ⟨?_, rfl⟩
                      congr 2
                      unfold isWi
                      first
                        | rw [if_pos ⟨(nI_eq (by omega) (by omega)).mp (by first | exact h_4 | exact Decidable.not_not.mp h_4), (nI_eq (b := 1) (by omega) (by omega)).mp (by first | exact h_12 | exact Decidable.not_not.mp h_12), (nI_leI (by omega) (by omega)).mp (by exact Int32.not_lt.mp h_26), (by exact (ltr_b _ _ _ _ _ _ _).resolve_left h_35), (by exact (ltr_b _ _ _ _ _ _ _).resolve_left h_44), (by exact (ltr_b _ _ _ _ _ _ _).resolve_left h_53), (by exact (ltr_b _ _ _ _ _ _ _).resolve_left h_63), (by exact (ltr_b _ _ _ _ _ _ _).resolve_left h_73), (by exact (ltr_b _ _ _ _ _ _ _).resolve_left h_83), (by exact (ltr_b _ _ _ _ _ _ _).resolve_left h_94), (by exact (ltr_b _ _ _ _ _ _ _).resolve_left h_105)⟩]
                        | rw [if_neg (by exact fun q => h_4 (by rw [q.1]; rfl))]
                        | rw [if_neg (by exact fun q => h_12 (by rw [q.2.1]; rfl))]
                        | rw [if_neg (by exact fun q => absurd h_26 (Int32.not_lt.mpr (nI_le q.2.2.1 (by omega))))]
                        | rw [if_neg (by exact fun q => n01 h_35 q.2.2.2.1)]
                        | rw [if_neg (by exact fun q => n01 h_44 q.2.2.2.2.1)]
                        | rw [if_neg (by exact fun q => n01 h_53 q.2.2.2.2.2.1)]
                        | rw [if_neg (by exact fun q => n01 h_63 q.2.2.2.2.2.2.1)]
                        | rw [if_neg (by exact fun q => n01 h_73 q.2.2.2.2.2.2.2.1)]
                        | rw [if_neg (by exact fun q => n01 h_83 q.2.2.2.2.2.2.2.2.1)]
                        | rw [if_neg (by exact fun q => n01 h_94 q.2.2.2.2.2.2.2.2.2.1)]
                        | rw [if_neg (by exact fun q => n01 h_105 q.2.2.2.2.2.2.2.2.2.2)]
                    · refine x_aload_n (pc := 97) dX12_isWord_97 rfl ?_
                      refine x_bipush (pc := 98) (v := 7) dX12_isWord_98 rfl ?_
                      refine x_iload (pc := 100) dX12_isWord_100 rfl ?_
                      refine x_callV (pc := 102) (As := [.int _, .int _]) dX12_isWord_102 mX12_isLetter lk_12_188 hM.1 (c_isLetter (i := 7) hM hO hh ht (by omega) _) rfl rfl (Nat.le_of_ble_eq_true rfl) ⟨by decide, by decide⟩ ⟨Nat.zero_le _, Nat.zero_le _⟩ (k_rt ?_)
                      refine x_if_eq (pc := 105) (tgt := 112) dX12_isWord_105 rfl (fun h_105 => ?_) (fun h_105 => ?_)
                      · refine x_iconst (pc := 112) (v := 0) dX12_isWord_112 rfl ?_
                        refine x_ireturn (pc := 113) dX12_isWord_113 rfl (by first | rfl | exact bi_nz) ?_
                        refine ⟨?_, rfl⟩
                        congr 2
                        unfold isWi
                        first
                          | rw [if_pos ⟨(nI_eq (by omega) (by omega)).mp (by first | exact h_4 | exact Decidable.not_not.mp h_4), (nI_eq (b := 1) (by omega) (by omega)).mp (by first | exact h_12 | exact Decidable.not_not.mp h_12), (nI_leI (by omega) (by omega)).mp (by exact Int32.not_lt.mp h_26), (by exact (ltr_b _ _ _ _ _ _ _).resolve_left h_35), (by exact (ltr_b _ _ _ _ _ _ _).resolve_left h_44), (by exact (ltr_b _ _ _ _ _ _ _).resolve_left h_53), (by exact (ltr_b _ _ _ _ _ _ _).resolve_left h_63), (by exact (ltr_b _ _ _ _ _ _ _).resolve_left h_73), (by exact (ltr_b _ _ _ _ _ _ _).resolve_left h_83), (by exact (ltr_b _ _ _ _ _ _ _).resolve_left h_94), (by exact (ltr_b _ _ _ _ _ _ _).resolve_left h_105)⟩]
                          | rw [if_neg (by exact fun q => h_4 (by rw [q.1]; rfl))]
                          | rw [if_neg (by exact fun q => h_12 (by rw [q.2.1]; rfl))]
                          | rw [if_neg (by exact fun q => absurd h_26 (Int32.not_lt.mpr (nI_le q.2.2.1 (by omega))))]
                          | rw [if_neg (by exact fun q => n01 h_35 q.2.2.2.1)]
                          | rw [if_neg (by exact fun q => n01 h_44 q.2.2.2.2.1)]
                          | rw [if_neg (by exact fun q => n01 h_53 q.2.2.2.2.2.1)]
                          | rw [if_neg (by exact fun q => n01 h_63 q.2.2.2.2.2.2.1)]
                          | rw [if_neg (by exact fun q => n01 h_73 q.2.2.2.2.2.2.2.1)]
                          | rw [if_neg (by exact fun q => n01 h_83 q.2.2.2.2.2.2.2.2.1)]
                          | rw [if_neg (by exact fun q => n01 h_94 q.2.2.2.2.2.2.2.2.2.1)]
                          | rw [if_neg (by exact fun q => n01 h_105 q.2.2.2.2.2.2.2.2.2.2)]
                      · refine x_iconst (pc := 108) (v := 1) dX12_isWord_108 rfl ?_
                        refine x_goto (pc := 109) (tgt := 113) dX12_isWord_109 rfl ?_
                        refine x_ireturn (pc := 113) dX12_isWord_113 rfl (by first | rfl | exact bi_nz) ?_
                        refine ⟨?_, rfl⟩
                        congr 2
                        unfold isWi
                        first
                          | rw [if_pos ⟨(nI_eq (by omega) (by omega)).mp (by first | exact h_4 | exact Decidable.not_not.mp h_4), (nI_eq (b := 1) (by omega) (by omega)).mp (by first | exact h_12 | exact Decidable.not_not.mp h_12), (nI_leI (by omega) (by omega)).mp (by exact Int32.not_lt.mp h_26), (by exact (ltr_b _ _ _ _ _ _ _).resolve_left h_35), (by exact (ltr_b _ _ _ _ _ _ _).resolve_left h_44), (by exact (ltr_b _ _ _ _ _ _ _).resolve_left h_53), (by exact (ltr_b _ _ _ _ _ _ _).resolve_left h_63), (by exact (ltr_b _ _ _ _ _ _ _).resolve_left h_73), (by exact (ltr_b _ _ _ _ _ _ _).resolve_left h_83), (by exact (ltr_b _ _ _ _ _ _ _).resolve_left h_94), (by exact (ltr_b _ _ _ _ _ _ _).resolve_left h_105)⟩]
                          | rw [if_neg (by exact fun q => h_4 (by rw [q.1]; rfl))]
                          | rw [if_neg (by exact fun q => h_12 (by rw [q.2.1]; rfl))]
                          | rw [if_neg (by exact fun q => absurd h_26 (Int32.not_lt.mpr (nI_le q.2.2.1 (by omega))))]
                          | rw [if_neg (by exact fun q => n01 h_35 q.2.2.2.1)]
                          | rw [if_neg (by exact fun q => n01 h_44 q.2.2.2.2.1)]
                          | rw [if_neg (by exact fun q => n01 h_53 q.2.2.2.2.2.1)]
                          | rw [if_neg (by exact fun q => n01 h_63 q.2.2.2.2.2.2.1)]
                          | rw [if_neg (by exact fun q => n01 h_73 q.2.2.2.2.2.2.2.1)]
                          | rw [if_neg (by exact fun q => n01 h_83 q.2.2.2.2.2.2.2.2.1)]
                          | rw [if_neg (by exact fun q => n01 h_94 q.2.2.2.2.2.2.2.2.2.1)]
                          | rw [if_neg (by exact fun q => n01 h_105 q.2.2.2.2.2.2.2.2.2.2)]
end M36
