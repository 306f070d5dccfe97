/-! the reference: what needs no memory -/
def bi (p : Prop) [Decidable p] : Int32 := if p then 1 else 0
theorem bi_t {p : Prop} [Decidable p] (h : p) : bi p = 1 := if_pos h
theorem bi_f {p : Prop} [Decidable p] (h : ¬ p) : bi p = 0 := if_neg h
section M30
variable {Γ : Gm} {μ : Mem} {a : Ma} {σ : MS}
theorem c_in (v lo hi : Int64) : XM Γ zX12_in 1 0 0 [.long v, .long lo, .long hi] μ (rt (.int (bi (lo ≤ v ∧ v ≤ hi))) μ) := by
  refine XM.of 0 rfl (by decide) (by decide) ?_
  refine x_lload_n (pc := 0) dX12_in_0 rfl ?_
  refine x_lload_n (pc := 1) dX12_in_1 rfl ?_
  refine x_lcmp (pc := 2) dX12_in_2 ?_
  refine x_if_lt (pc := 3) (tgt := 17) dX12_in_3 rfl (fun h_3 => ?_) (fun h_3 => ?_)
  · refine x_iconst (pc := 17) (v := 0) dX12_in_17 rfl ?_
    refine x_ireturn (pc := 18) dX12_in_18 rfl rfl ?_
    exact ⟨by
      rw [lg_cmp_lt] at h_3
      try rw [lg_cmp_gt] at h_10
      first
        | rw [bi_f (fun h => absurd h_3 (Int64.not_lt.mpr h.1))]
        | rw [bi_f (fun h => absurd h_10 (Int64.not_lt.mpr h.2))]
        | rw [bi_t ⟨Int64.not_lt.mp h_3, Int64.not_lt.mp h_10⟩], rfl⟩
  · refine x_lload_n (pc := 6) dX12_in_6 rfl ?_
    refine x_lload (pc := 7) dX12_in_7 rfl ?_
    refine x_lcmp (pc := 9) dX12_in_9 ?_
    refine x_if_gt (pc := 10) (tgt := 17) dX12_in_10 rfl (fun h_10 => ?_) (fun h_10 => ?_)
    · refine x_iconst (pc := 17) (v := 0) dX12_in_17 rfl ?_
      refine x_ireturn (pc := 18) dX12_in_18 rfl rfl ?_
      exact ⟨by
        rw [lg_cmp_lt] at h_3
        try rw [lg_cmp_gt] at h_10
        first
          | rw [bi_f (fun h => absurd h_3 (Int64.not_lt.mpr h.1))]
          | rw [bi_f (fun h => absurd h_10 (Int64.not_lt.mpr h.2))]
          | rw [bi_t ⟨Int64.not_lt.mp h_3, Int64.not_lt.mp h_10⟩], rfl⟩
    · refine x_iconst (pc := 13) (v := 1) dX12_in_13 rfl ?_
      refine x_goto (pc := 14) (tgt := 18) dX12_in_14 rfl ?_
      refine x_ireturn (pc := 18) dX12_in_18 rfl rfl ?_
      exact ⟨by
        rw [lg_cmp_lt] at h_3
        try rw [lg_cmp_gt] at h_10
        first
          | rw [bi_f (fun h => absurd h_3 (Int64.not_lt.mpr h.1))]
          | rw [bi_f (fun h => absurd h_10 (Int64.not_lt.mpr h.2))]
          | rw [bi_t ⟨Int64.not_lt.mp h_3, Int64.not_lt.mp h_10⟩], rfl⟩
def wit (v lo hi : Int32) : Int32 := if v < lo then lo else if hi < v then hi else v
theorem c_within (v lo hi : Int32) : XM Γ zX12_within 1 0 0 [.int v, .int lo, .int hi] μ (rt (.int (wit v lo hi)) μ) := by
  refine XM.of 0 rfl (by decide) (by decide) ?_
  refine x_iload_n (pc := 0) dX12_within_0 rfl ?_
  refine x_iload_n (pc := 1) dX12_within_1 rfl ?_
  refine x_icmp_ge (pc := 2) (tgt := 9) dX12_within_2 rfl (fun h_2 => ?_) (fun h_2 => ?_)
  · refine x_iload_n (pc := 9) dX12_within_9 rfl ?_
    refine x_iload_n (pc := 10) dX12_within_10 rfl ?_
    refine x_icmp_le (pc := 11) (tgt := 18) dX12_within_11 rfl (fun h_11 => ?_) (fun h_11 => ?_)
    · refine x_iload_n (pc := 18) dX12_within_18 rfl ?_
      refine x_ireturn (pc := 19) dX12_within_19 rfl rfl ?_
      exact ⟨by
        first
          | rw [wit, if_pos (Int32.not_le.mp h_2)]
          | rw [wit, if_neg (Int32.not_lt.mpr h_2), if_neg (Int32.not_lt.mpr h_11)]
          | rw [wit, if_neg (Int32.not_lt.mpr h_2), if_pos (Int32.not_le.mp h_11)], rfl⟩
    · refine x_iload_n (pc := 14) dX12_within_14 rfl ?_
      refine x_goto (pc := 15) (tgt := 19) dX12_within_15 rfl ?_
      refine x_ireturn (pc := 19) dX12_within_19 rfl rfl ?_
      exact ⟨by
        first
          | rw [wit, if_pos (Int32.not_le.mp h_2)]
          | rw [wit, if_neg (Int32.not_lt.mpr h_2), if_neg (Int32.not_lt.mpr h_11)]
          | rw [wit, if_neg (Int32.not_lt.mpr h_2), if_pos (Int32.not_le.mp h_11)], rfl⟩
  · refine x_iload_n (pc := 5) dX12_within_5 rfl ?_
    refine x_goto (pc := 6) (tgt := 19) dX12_within_6 rfl ?_
    refine x_ireturn (pc := 19) dX12_within_19 rfl rfl ?_
    exact ⟨by
      first
        | rw [wit, if_pos (Int32.not_le.mp h_2)]
        | rw [wit, if_neg (Int32.not_lt.mpr h_2), if_neg (Int32.not_lt.mpr h_11)]
        | rw [wit, if_neg (Int32.not_lt.mpr h_2), if_pos (Int32.not_le.mp h_11)], rfl⟩
end M30
