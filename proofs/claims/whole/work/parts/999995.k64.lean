/-! bits of a set of sets: the class's count and lowest are the reference's -/
theorem ppN_c {n : Nat} (h : n < 65536) : ppN n = ctN n 16 := by
  have e : ∀ k a, n = 256 * (k + a) + n % 256 → a = n / 256 - k := fun k a _ => by omega
  have hu : n % 256 < 256 := Nat.mod_lt _ (by decide)
  have hn : ∀ k, k ≤ n / 256 → n = 256 * (k + (n / 256 - k)) + n % 256 := fun k hk => by omega
  rcases (by omega : n / 256 / 16 = 0 ∨ n / 256 / 16 = 1 ∨ n / 256 / 16 = 2 ∨ n / 256 / 16 = 3 ∨ n / 256 / 16 = 4 ∨ n / 256 / 16 = 5 ∨ n / 256 / 16 = 6 ∨ n / 256 / 16 = 7 ∨ n / 256 / 16 = 8 ∨ n / 256 / 16 = 9 ∨ n / 256 / 16 = 10 ∨ n / 256 / 16 = 11 ∨ n / 256 / 16 = 12 ∨ n / 256 / 16 = 13 ∨ n / 256 / 16 = 14 ∨ n / 256 / 16 = 15) with q | q | q | q | q | q | q | q | q | q | q | q | q | q | q | q
  · rw [hn 0 (by omega)]; exact ppN_0 _ (by omega) _ hu
  · rw [hn 16 (by omega)]; exact ppN_1 _ (by omega) _ hu
  · rw [hn 32 (by omega)]; exact ppN_2 _ (by omega) _ hu
  · rw [hn 48 (by omega)]; exact ppN_3 _ (by omega) _ hu
  · rw [hn 64 (by omega)]; exact ppN_4 _ (by omega) _ hu
  · rw [hn 80 (by omega)]; exact ppN_5 _ (by omega) _ hu
  · rw [hn 96 (by omega)]; exact ppN_6 _ (by omega) _ hu
  · rw [hn 112 (by omega)]; exact ppN_7 _ (by omega) _ hu
  · rw [hn 128 (by omega)]; exact ppN_8 _ (by omega) _ hu
  · rw [hn 144 (by omega)]; exact ppN_9 _ (by omega) _ hu
  · rw [hn 160 (by omega)]; exact ppN_10 _ (by omega) _ hu
  · rw [hn 176 (by omega)]; exact ppN_11 _ (by omega) _ hu
  · rw [hn 192 (by omega)]; exact ppN_12 _ (by omega) _ hu
  · rw [hn 208 (by omega)]; exact ppN_13 _ (by omega) _ hu
  · rw [hn 224 (by omega)]; exact ppN_14 _ (by omega) _ hu
  · rw [hn 240 (by omega)]; exact ppN_15 _ (by omega) _ hu
theorem nI_an (a c : Nat) : nI a &&& nI c = nI (a &&& c) := by
  refine Int32.toBitVec_inj.mp ?_
  show BitVec.ofNat 32 a &&& BitVec.ofNat 32 c = BitVec.ofNat 32 (a &&& c)
  refine BitVec.eq_of_toNat_eq ?_
  rw [BitVec.toNat_and, BitVec.toNat_ofNat, BitVec.toNat_ofNat, BitVec.toNat_ofNat]
  exact (Nat.and_mod_two_pow).symm
theorem sh9_N {m : Nat} (hm : m < 2 ^ 32) (K : Int32) (k : Nat) (hk : ((K.toUInt32 &&& Int32.toUInt32 31).toBitVec % 32).toNat = k) : sh9 (nI m) K = nI (m / 2 ^ k) := pk_ushrN hm K k hk
theorem pcI_N {n : Nat} (h : n < 65536) : pcI (nI n) = nI (ppN n) := by
  have l1 : (n / 2 &&& 1431655765) ≤ n / 2 := Nat.and_le_left
  have e1 : pc1 (nI n) = nI (n - (n / 2 &&& 1431655765)) := by
    unfold pc1
    rw [sh9_N (by omega) 1 1 (by decide), show (1431655765 : Int32) = nI 1431655765 from rfl, nI_an]
    exact pk_sub (b := n / 2 &&& 1431655765) (by omega)
  have l2 : ((n - (n / 2 &&& 1431655765)) &&& 858993459) ≤ n - (n / 2 &&& 1431655765) := Nat.and_le_left
  have l3 : ((n - (n / 2 &&& 1431655765)) / 4 &&& 858993459) ≤ (n - (n / 2 &&& 1431655765)) / 4 := Nat.and_le_left
  have e2 : pc2 (nI (n - (n / 2 &&& 1431655765))) = nI (((n - (n / 2 &&& 1431655765)) &&& 858993459) + ((n - (n / 2 &&& 1431655765)) / 4 &&& 858993459)) := by
    unfold pc2
    rw [sh9_N (by omega) 2 2 (by decide), show (858993459 : Int32) = nI 858993459 from rfl, nI_an, nI_an]
    exact nI_add _ _
  unfold pcI ppN
  rw [e1, e2]
  dsimp only
  generalize hb : ((n - (n / 2 &&& 1431655765)) &&& 858993459) + ((n - (n / 2 &&& 1431655765)) / 4 &&& 858993459) = b
  have hb2 : b < 2 ^ 20 := by omega
  have e3 : pc3 (nI b) = nI ((b + b / 16) &&& 252645135) := by
    unfold pc3
    rw [sh9_N (by omega) 4 4 (by decide), show (252645135 : Int32) = nI 252645135 from rfl]
    show (nI b + nI (b / 16)) &&& _ = _
    rw [nI_add, nI_an]
  have l4 : ((b + b / 16) &&& 252645135) ≤ b + b / 16 := Nat.and_le_left
  rw [e3]
  generalize (b + b / 16) &&& 252645135 = c at l4
  have e4 : pc4 (nI c) = nI (c + c / 256) := by
    unfold pc4
    rw [sh9_N (by omega) 8 8 (by decide)]
    exact nI_add _ _
  rw [e4]
  have e5 : pc5 (nI (c + c / 256)) = nI ((c + c / 256) + (c + c / 256) / 65536) := by
    unfold pc5
    rw [sh9_N (by omega) 16 16 (by decide)]
    exact nI_add _ _
  rw [e5, show (63 : Int32) = nI 63 from rfl, nI_an]
theorem hbI_N {n i : Nat} (h : n < 65536) (hi : i < 16) : (hbI (nI n) (nI i) = 0 ↔ n.testBit i = false) := by
  have e : (nI n >>> (nI i &&& 31)) &&& 1 = nI (n / 2 ^ i % 2) := by
    rw [pk_shrN (by omega) (nI i &&& 31) i (by
      rcases (by omega : i = 0 ∨ i = 1 ∨ i = 2 ∨ i = 3 ∨ i = 4 ∨ i = 5 ∨ i = 6 ∨ i = 7 ∨ i = 8 ∨ i = 9 ∨ i = 10 ∨ i = 11 ∨ i = 12 ∨ i = 13 ∨ i = 14 ∨ i = 15) with rfl | rfl | rfl | rfl | rfl | rfl | rfl | rfl | rfl | rfl | rfl | rfl | rfl | rfl | rfl | rfl <;> decide)]
    have hd : n / 2 ^ i ≤ n := Nat.div_le_self _ _
    exact pk_andN (by omega) 1 (by decide)
  unfold hbI
  rw [bi_0, e, Decidable.not_not, Nat.testBit_eq_decide_div_mod_eq]
  rcases Nat.mod_two_eq_zero_or_one (n / 2 ^ i) with q | q
  · rw [q]
    exact ⟨fun _ => by decide, fun _ => rfl⟩
  · rw [q]
    exact ⟨fun z => absurd z (by decide), fun z => absurd z (by decide)⟩
theorem ex_bits (D : PD) (n : Nat) (sp : Nat → Nat) : ∀ G, exS D n sp G < 2 ^ G ∧ ∀ i, (exS D n sp G).testBit i = (decide (i < G) && exP D n sp i)
  | 0 => ⟨by show (0 : Nat) < 1; decide, fun i => by show (0 : Nat).testBit i = _; simp⟩
  | G + 1 => by
    obtain ⟨h1, h2⟩ := ex_bits D n sp G
    rw [exS]
    refine ⟨Nat.or_lt_two_pow (Nat.lt_of_lt_of_le h1 (Nat.pow_le_pow_right (by decide) (by omega))) ?_, fun i => ?_⟩
    · split
      · rw [Nat.shiftLeft_eq, Nat.one_mul]
        exact Nat.pow_lt_pow_right (by decide) (by omega)
      · rw [Nat.zero_shiftLeft]
        exact Nat.two_pow_pos _
    · rw [Nat.testBit_or, h2 i]
      by_cases hp : exP D n sp G = true
      · rw [if_pos hp, Nat.shiftLeft_eq, Nat.one_mul, Nat.testBit_two_pow]
        by_cases hi : i = G
        · subst hi
          simp [hp]
        · by_cases hlt : i < G
          · simp [hlt, show i < G + 1 by omega, show ¬ G = i by omega]
          · simp [hlt, show ¬ i < G + 1 by omega, show ¬ G = i by omega]
      · rw [if_neg hp, Nat.zero_shiftLeft]
        by_cases hi : i = G
        · subst hi
          simp [hp]
        · by_cases hlt : i < G
          · simp [hlt, show i < G + 1 by omega]
          · simp [hlt, show ¬ i < G + 1 by omega]
theorem ex_cnt (D : PD) (n : Nat) (sp : Nat → Nat) : ctN (exS D n sp 16) 16 = exC D n sp 16 := by
  have h : ∀ i, i ≤ 16 → ctN (exS D n sp 16) i = exC D n sp i := by
    intro i
    induction i with
    | zero => exact fun _ => rfl
    | succ i ih =>
      intro hi
      rw [ctN, exC, ih (by omega), (ex_bits D n sp 16).2 i]
      simp [show i < 16 by omega]
  exact h 16 (Nat.le_refl _)
theorem ex_low (D : PD) (n : Nat) (sp : Nat → Nat) : ∀ G, (∀ i, i < G → exP D n sp i = false) → exF D n sp G = 0
  | 0, _ => rfl
  | G + 1, h => by
    rw [exF, ex_low D n sp G (fun i hi => h i (by omega)), h G (by omega), if_neg (by simp)]
theorem ex_fst (D : PD) (n : Nat) (sp : Nat → Nat) {i : Nat} (h1 : exP D n sp i = true) (h2 : ∀ j, j < i → exP D n sp j = false) : ∀ m, exF D n sp (i + 1 + m) = i + 1
  | 0 => by
    show (if exF D n sp i = 0 ∧ exP D n sp i = true then i + 1 else exF D n sp i) = i + 1
    rw [if_pos ⟨ex_low D n sp i h2, h1⟩]
  | m + 1 => by
    show (if exF D n sp (i + 1 + m) = 0 ∧ exP D n sp (i + 1 + m) = true then i + 1 + m + 1 else exF D n sp (i + 1 + m)) = i + 1
    rw [ex_fst D n sp h1 h2 m, if_neg (by omega)]
