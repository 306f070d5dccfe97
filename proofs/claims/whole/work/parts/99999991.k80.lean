/-! both go on together: sheet, copy -/
theorem it_sh (d : Nat) (s : MS) : ∀ m, (it (f_sh d) m s).1 = s.1 ∧ (∀ k, k ≠ 55 → (it (f_sh d) m s).2.2 k = s.2.2 k) ∧ ∀ j, (it (f_sh d) m s).2.2 55 j = if d ≤ j ∧ j < d + m then 0 else s.2.2 55 j
  | 0 => ⟨rfl, fun _ _ => rfl, fun j => by rw [if_neg (by omega)]; rfl⟩
  | m + 1 => by
    obtain ⟨h1, h2, h3⟩ := it_sh d s m
    refine ⟨h1, fun k hk => (tA_n hk).trans (h2 k hk), fun j => ?_⟩
    show up2 (it (f_sh d) m s).2.2 55 (d + m) 0 55 j = _
    by_cases hj : j = d + m
    · rw [hj, up2_s, if_pos (by omega)]
    · rw [up2_n (Or.inr hj), h3 j]
      by_cases h : d ≤ j ∧ j < d + m
      · rw [if_pos h, if_pos (by omega)]
      · rw [if_neg h, if_neg (by omega)]
theorem it_cy (d c n : Nat) (up : Bool) (s : MS) (hu : (up = true ∧ c ≤ d) ∨ (up = false ∧ (d ≤ c ∨ c + n ≤ d))) : ∀ m, m ≤ n → (it (f_cy d c n up) m s).1 = s.1 ∧ (∀ k, k ≠ 55 → (it (f_cy d c n up) m s).2.2 k = s.2.2 k) ∧ ∀ j, (it (f_cy d c n up) m s).2.2 55 j = if (up = true ∧ d + (n - m) ≤ j ∧ j < d + n) ∨ (up = false ∧ d ≤ j ∧ j < d + m) then s.2.2 55 (c + (j - d)) else s.2.2 55 j
  | 0, _ => ⟨rfl, fun _ _ => rfl, fun j => by rw [if_neg (by omega)]; rfl⟩
  | m + 1, hm => by
    obtain ⟨h1, h2, h3⟩ := it_cy d c n up s hu m (by omega)
    refine ⟨h1, fun k hk => (tA_n hk).trans (h2 k hk), fun j => ?_⟩
    show up2 (it (f_cy d c n up) m s).2.2 55 (d + (if up then n - 1 - m else m)) ((it (f_cy d c n up) m s).2.2 55 (c + (if up then n - 1 - m else m))) 55 j = _
    rcases hu with ⟨rfl, hu⟩ | ⟨rfl, hu⟩
    · have tp : ∀ {A B : Prop}, A → (true = true ∧ A) ∨ (true = false ∧ B) := fun h => Or.inl ⟨rfl, h⟩
      have tg : ∀ {A B : Prop}, ¬ A → ¬ ((true = true ∧ A) ∨ (true = false ∧ B)) := fun h z => z.elim (fun z => h z.2) (fun z => absurd z.1 (by decide))
      rw [if_pos rfl]
      by_cases hj : j = d + (n - 1 - m)
      · rw [hj, up2_s, h3, if_neg (tg (by omega)), if_pos (tp (by omega)), show d + (n - 1 - m) - d = n - 1 - m by omega]
      · rw [up2_n (Or.inr hj), h3 j]
        by_cases h : d + (n - m) ≤ j ∧ j < d + n
        · rw [if_pos (tp h), if_pos (tp (by omega))]
        · rw [if_neg (tg h), if_neg (tg (by omega))]
    · have tp : ∀ {A B : Prop}, B → (false = true ∧ A) ∨ (false = false ∧ B) := fun h => Or.inr ⟨rfl, h⟩
      have tg : ∀ {A B : Prop}, ¬ B → ¬ ((false = true ∧ A) ∨ (false = false ∧ B)) := fun h z => z.elim (fun z => absurd z.1 (by decide)) (fun z => h z.2)
      rw [if_neg (by decide)]
      by_cases hj : j = d + m
      · rw [hj, up2_s, h3, if_neg (tg (by omega)), if_pos (tp (by omega)), show d + m - d = m by omega]
      · rw [up2_n (Or.inr hj), h3 j]
        by_cases h : d ≤ j ∧ j < d + m
        · rw [if_pos (tp h), if_pos (tp (by omega))]
        · rw [if_neg (tg h), if_neg (tg (by omega))]
section M99999991
variable {Γ : Gm} {σ s : MS} {κ κ2 : KS} {kd : Nat → Nat} {kp : Bool} {n nt : Nat} {tn : Nat → Nat}
theorem km {k : Int32} : (-1 ≤ k ∧ k ≤ 2) ↔ (k = -1 ∨ (0 ≤ k ∧ k < 3)) := by
  rw [← Int32.toInt_inj, Int32.le_iff_toInt_le, Int32.le_iff_toInt_le, Int32.le_iff_toInt_le, Int32.lt_iff_toInt_lt, show (-1 : Int32).toInt = -1 from rfl, show (2 : Int32).toInt = 2 from rfl, show (0 : Int32).toInt = 0 from rfl, show (3 : Int32).toInt = 3 from rfl]
  omega
theorem J_sheet (x k v : Int32) : JX Γ zX11_sheet zX12_sheet 3 0 0 3 [.int x, .int k, .int v] := JS fun μ b κ σ kd kp n nt tn hI hB => by
  have hS := hB.2.2.2.2.2.1
  have hc := k_sheet (Γ := Γ) (κ := κ) hI x k v
  have hm : ∀ (μ' : Mem) (a : Ma), MOK μ' a → _ := fun μ' a hM => c_sheet (Γ := Γ) (σ := σ) hM x k v
  have same : ∀ r, shR σ x k v = (r, σ) → shK κ x k v = (r, κ) → ∃ (v' : Int32) (κ2 : KS) (s : MS), XM Γ zX11_sheet 3 0 0 (.ref (adO b 0) :: [.int x, .int k, .int v]) (KV μ b κ) (rt (.int v') (KV μ b κ2)) ∧ (∀ (μ' : Mem) (a : Ma), MOK μ' a → XM Γ zX12_sheet 3 0 0 (.ref a.1 :: [.int x, .int k, .int v]) (MV μ' a σ) (rt (.int v') (MV μ' a s))) ∧ BRe s κ2 kd kp n nt tn := fun r e1 e2 => by
    rw [e2] at hc
    rw [e1] at hm
    exact ⟨r, κ, σ, hc, hm, hB⟩
  have kql : ∀ q, q < 4 → ∀ k' v', kq (fun a k => scP a k ∨ (5 ≤ a ∧ a < 9)) κ (beK κ (5 + q) k' v') := fun q hq k' v' => ((kq.rf.I (Or.inr (by omega))).I (Or.inr (by omega))).S (Or.inr (by omega))
  have oth : ∀ q k' v', ∀ i, i < 4 → i ≠ q → (beK κ (5 + q) k' v').1 (5 + i) = κ.1 (5 + i) ∧ (beK κ (5 + q) k' v').2 (5 + i) = κ.2 (5 + i) := fun q k' v' i _ hiq => ⟨(kI_o (by omega)).trans (kI_o (by omega)), kS_o (by omega)⟩
  by_cases hx : 0 ≤ x ∧ x < 4
  · have hx3 := x4.mp hx
    by_cases hk : k = -1 ∨ (0 ≤ k ∧ k < 3)
    · obtain ⟨q, hq, rfl⟩ := ixD (x := x) (n := 4) hx (by decide)
      have u2 : shK κ (nI q) k v = if k = -1 then (1, beK κ (5 + q) (-1) 0) else if v ≤ 40 then (if 0 ≤ v then (1, beK κ (5 + q) k v) else (-14, κ)) else (-2, κ) := by
        unfold shK
        rw [if_pos ⟨hx, hk⟩, nn_nI (by omega)]
      have sB : ∀ k' v', (shB σ (nI q) k' v').1 = σ.1 ∧ (∀ j, j < 52 ∨ j = 55 → (shB σ (nI q) k' v').2.2 j = σ.2.2 j) ∧ (∀ i, i ≠ q → (shB σ (nI q) k' v').2.2 52 i = σ.2.2 52 i ∧ (shB σ (nI q) k' v').2.2 53 i = σ.2.2 53 i ∧ (shB σ (nI q) k' v').2.2 54 i = σ.2.2 54 i) ∧ (shB σ (nI q) k' v').2.2 52 q = (if 0 ≤ k' then 1 else 0) ∧ (shB σ (nI q) k' v').2.2 53 q = k' ∧ (shB σ (nI q) k' v').2.2 54 q = v' := fun k' v' => by
        have hb : shB σ (nI q) k' v' = tA (tA (tA σ 52 q (if 0 ≤ k' then 1 else 0)) 53 q k') 54 q v' := by
          unfold shB
          rw [nn_nI (by omega)]
        rw [hb]
        have a2 : (tA (tA (tA σ 52 q (if 0 ≤ k' then 1 else 0)) 53 q k') 54 q v').2.2 52 = (tA σ 52 q (if 0 ≤ k' then 1 else 0)).2.2 52 := (tA_n (by decide)).trans (tA_n (by decide))
        have a3 : (tA (tA (tA σ 52 q (if 0 ≤ k' then 1 else 0)) 53 q k') 54 q v').2.2 53 = (tA (tA σ 52 q (if 0 ≤ k' then 1 else 0)) 53 q k').2.2 53 := tA_n (by decide)
        refine ⟨rfl, fun j hj => (tA_n (by omega)).trans ((tA_n (by omega)).trans (tA_n (by omega))), fun i hi => ⟨?_, ?_, ?_⟩, ?_, ?_, up2_s⟩
        · rw [a2]
          exact up2_n (Or.inr hi)
        · rw [a3]
          exact (up2_n (Or.inr hi)).trans (congrFun (tA_n (by decide)) i)
        · exact (up2_n (Or.inr hi)).trans ((congrFun (tA_n (by decide)) i).trans (congrFun (tA_n (by decide)) i))
        · rw [a2]
          exact up2_s
        · rw [a3]
          exact up2_s
      by_cases h1 : k = -1
      · subst h1
        have u1 : shR σ (nI q) (-1) v = (1, shB σ (nI q) (-1) v) := by
          unfold shR
          rw [if_neg (fun z => z.elim (fun z => z hx3) (fun z => z.elim (fun z => z (by decide)) (fun z => absurd z.1 (by decide)))), if_neg (fun z => absurd z.1 (by decide)), if_neg (by decide)]
        rw [if_pos rfl] at u2
        rw [u2] at hc
        rw [u1] at hm
        obtain ⟨p1, p2, p3, p4, p5, p6⟩ := sB (-1) v
        rw [if_neg (by decide)] at p4
        refine ⟨1, _, _, hc, hm, BR_sh hB (fun k _ => congrFun p1 k) (fun k _ hk => p2 k (by omega)) (kql q hq _ _) ((congrFun (kS_n (Or.inl (by omega))) 0).trans hB.1.2.2.2.2) (BS_one (q := q) hS p3 (fun j _ => congrFun (p2 55 (by omega)) j) (oth q _ _) (Or.inl ⟨p4, ?_⟩))⟩
        exact (kI_n (Or.inr (by decide))).trans kI_s
      · have hk3 := hk.resolve_left h1
        rw [if_neg h1] at u2
        by_cases hv : v ≤ 40
        · rw [if_pos hv] at u2
          by_cases h0 : 0 ≤ v
          · rw [if_pos h0] at u2
            have u1 : shR σ (nI q) k v = (1, it (f_sh (40 * q)) (nn v) (shB σ (nI q) k v)) := by
              unfold shR
              rw [if_neg (fun z => z.elim (fun z => z hx3) (fun z => z.elim (fun z => z (km.mpr hk)) (fun z => absurd hv (Int32.not_le.mpr z.2)))), if_neg (fun z => absurd h0 (Int32.not_le.mpr z.2)), if_pos hk3.1, nn_nI (by omega)]
            obtain ⟨z, hz, rfl⟩ := ixB (x := v) (c := 40) (n := 40) rfl ⟨h0, hv⟩ (by decide)
            obtain ⟨kk, hkk, rfl⟩ := ixD (x := k) (n := 3) hk3 (by decide)
            rw [nn_nI (by omega)] at u1
            rw [u2] at hc
            rw [u1] at hm
            obtain ⟨p1, p2, p3, p4, p5, p6⟩ := sB (nI kk) (nI z)
            rw [if_pos hk3.1] at p4
            obtain ⟨w1, w2, w3⟩ := it_sh (40 * q) (shB σ (nI q) (nI kk) (nI z)) z
            refine ⟨1, _, _, hc, hm, BR_sh hB (fun k _ => (congrFun w1 k).trans (congrFun p1 k)) (fun k _ hk => (w2 k (by omega)).trans (p2 k (by omega))) (kql q hq _ _) ((congrFun (kS_n (Or.inl (by omega))) 0).trans hB.1.2.2.2.2) (BS_one (q := q) hS (fun i hi => ?_) (fun j hj => ?_) (oth q _ _) (Or.inr ⟨?_, ⟨kk, hkk, ?_, (kI_n (Or.inr (by decide))).trans kI_s⟩, z, hz, ?_, kI_s, fun j hj => ?_⟩))⟩
            · rw [w2 52 (by decide), w2 53 (by decide), w2 54 (by decide)]
              exact p3 i hi
            · rw [w3 j, if_neg (by omega)]
              exact congrFun (p2 55 (by omega)) j
            · rw [w2 52 (by decide)]
              exact p4
            · rw [w2 53 (by decide)]
              exact p5
            · rw [w2 54 (by decide)]
              exact p6
            · rw [w3 (40 * q + j), if_pos (by omega)]
              refine (congrFun kS_s j).trans ?_
              show (if j < 40 then (0 : Int32) else _) = 0
              rw [if_pos (by omega)]
          · rw [if_neg h0] at u2
            refine same (-14) ?_ u2
            unfold shR
            rw [if_neg (fun z => z.elim (fun z => z hx3) (fun z => z.elim (fun z => z (km.mpr hk)) (fun z => absurd hv (Int32.not_le.mpr z.2)))), if_pos ⟨hk3.1, Int32.not_le.mp h0⟩]
        · rw [if_neg hv] at u2
          refine same (-2) ?_ u2
          unfold shR
          rw [if_pos (Or.inr (Or.inr ⟨hk3.1, Int32.not_le.mp hv⟩))]
    · exact same (-2) (by unfold shR; rw [if_pos (Or.inr (Or.inl (fun z => hk (km.mp z))))]) (by unfold shK; rw [if_neg (fun z => hk z.2)])
  · exact same (-2) (by unfold shR; rw [if_pos (Or.inl (fun z => hx (x4.mpr z)))]) (by unfold shK; rw [if_neg (fun z => hx z.1)])
theorem J_copy (x i y j v : Int32) : JX Γ zX11_copy zX12_copy 2 0 0 3 [.int x, .int i, .int y, .int j, .int v] := by
  intro μ b κ σ kd kp n nt tn hI hB
  have hS := hB.2.2.2.2.2.1
  have hm : ∀ (μ' : Mem) (a : Ma), MOK μ' a → _ := fun μ' a hM => c_copy (Γ := Γ) (σ := σ) hM (shO_of hS) x i y j v
  have hc := k_copyC (Γ := Γ) (κ := κ) hI x i y j v (hz_of hS)
  suffices h : ∀ w κ2, cyK κ x i y j v w κ2 → w = (cyR σ x i y j v).1 ∧ BRe (cyR σ x i y j v).2 κ2 kd kp n nt tn by
    refine ⟨(cyR σ x i y j v).1, fun κ3 kd2 kp2 n2 nt2 tn2 => (∃ w, cyK κ x i y j v w κ3) ∧ kd2 = kd ∧ kp2 = kp ∧ n2 = n ∧ nt2 = nt ∧ tn2 = tn, fun s2 => s2 = (cyR σ x i y j v).2, XM_post hc (fun r M hx => ?_), fun μ' a hM => XM_post (hm μ' a hM) (fun r M hx => ?_), ?_⟩
    · obtain ⟨w, κ2, rfl, rfl, hk⟩ := hx
      exact ⟨congrArg (fun z => some (Value.int z)) (h w κ2 hk).1, μ, b, κ2, kd, kp, n, nt, tn, rfl, hI, FO_any, rfl, ⟨w, hk⟩, rfl, rfl, rfl, rfl, rfl⟩
    · obtain ⟨rfl, rfl⟩ := hx
      exact ⟨rfl, _, rfl, rfl⟩
    · rintro κ3 kd2 kp2 n2 nt2 tn2 σ2 ⟨⟨w, hk⟩, rfl, rfl, rfl, rfl, rfl⟩ rfl
      exact (h w κ3 hk).2
  intro w κ2 hk
  have same : ∀ r, cyR σ x i y j v = (r, σ) → w = r → κ2 = κ → w = (cyR σ x i y j v).1 ∧ BRe (cyR σ x i y j v).2 κ2 kd kp n nt tn := fun r e1 e2 e3 => by
    rw [e1, e2, e3]
    exact ⟨rfl, hB⟩
  by_cases hx : (0 ≤ x ∧ x < 4) ∧ (0 ≤ y ∧ y < 4)
  · have hx3 := x4.mp hx.1
    have hy3 := x4.mp hx.2
    obtain ⟨p, hp, rfl⟩ := ixD (x := x) (n := 4) hx.1 (by decide)
    obtain ⟨q, hq, rfl⟩ := ixD (x := y) (n := 4) hx.2 (by decide)
    unfold cyK at hk
    rw [if_pos hx, nn_nI (by omega), nn_nI (by omega)] at hk
    have u1 : cyR σ (nI p) i (nI q) j v = if σ.2.2 52 p = 0 ∨ σ.2.2 52 q = 0 then (-11, σ) else if ¬ σ.2.2 53 p = σ.2.2 53 q then (-13, σ) else if v < 0 ∨ i < 0 ∨ j < 0 ∨ σ.2.2 54 p - v < i ∨ σ.2.2 54 q - v < j then (-12, σ) else (v, it (f_cy (40 * q + nn j) (40 * p + nn i) (nn v) (decide (nI p = nI q ∧ i < j))) (nn v) σ) := by
      unfold cyR
      rw [if_neg (fun z => z.elim (fun z => z hx3) (fun z => z hy3)), nn_nI (by omega), nn_nI (by omega)]
    have n52 : ∀ q, q < 4 → (σ.2.2 52 q = 0 ↔ κ.1 (5 + q) 0 = -1) := fun q hq => by
      rcases hS q hq with ⟨g1, g2⟩ | ⟨g1, ⟨k, hk, -, g3⟩, -⟩
      · rw [g1, g2]
        simp
      · rw [g1, g3]
        exact ⟨fun z => absurd z (by decide), fun z => absurd z (kn1 hk)⟩
    by_cases hd : κ.1 (5 + p) 0 = -1 ∨ κ.1 (5 + q) 0 = -1
    · rw [if_pos hd] at hk
      exact same (-11) (by rw [u1, if_pos (hd.imp (n52 p hp).mpr (n52 q hq).mpr)]) hk.1 hk.2
    · rw [if_neg hd] at hk
      rw [if_neg (fun z => hd (z.imp (n52 p hp).mp (n52 q hq).mp))] at u1
      rcases hS p hp with ⟨-, g2⟩ | ⟨a1, ⟨ka, -, a2, a3⟩, za, za1, za2, za3, za4⟩
      · exact absurd (Or.inl g2) hd
      rcases hS q hq with ⟨-, g2⟩ | ⟨b1, ⟨kb, hkb, b2, b3⟩, zb, zb1, zb2, zb3, zb4⟩
      · exact absurd (Or.inr g2) hd
      rw [a2, b2, za2, zb2] at u1
      rw [a3, b3] at hk
      by_cases he : nI ka = nI kb
      · rw [if_pos he] at hk
        rw [if_neg (fun z => z he)] at u1
        have hld : (hldK κ (5 + p) i v ∧ hldK κ (5 + q) j v) ↔ ¬ (v < 0 ∨ i < 0 ∨ j < 0 ∨ nI za - v < i ∨ nI zb - v < j) := by
          unfold hldK
          rw [za3, zb3]
          constructor
          · rintro ⟨⟨h1, h2, h3, h4⟩, -, h6, h7, h8⟩ z
            rcases z with z | z | z | z | z
            · exact absurd h1 (Int32.not_le.mpr z)
            · exact absurd h3 (Int32.not_le.mpr z)
            · exact absurd h7 (Int32.not_le.mpr z)
            · exact absurd h4 (Int32.not_le.mpr z)
            · exact absurd h8 (Int32.not_le.mpr z)
          · intro z
            have v0 : 0 ≤ v := Int32.not_lt.mp (fun y => z (Or.inl y))
            have i0 : 0 ≤ i := Int32.not_lt.mp (fun y => z (Or.inr (Or.inl y)))
            have j0 : 0 ≤ j := Int32.not_lt.mp (fun y => z (Or.inr (Or.inr (Or.inl y))))
            have s1 : ¬ nI za - v < i := fun y => z (Or.inr (Or.inr (Or.inr (Or.inl y))))
            have s2 : ¬ nI zb - v < j := fun y => z (Or.inr (Or.inr (Or.inr (Or.inr y))))
            obtain ⟨V, hV, rfl⟩ := nI_of (Int32.not_lt.mpr v0)
            obtain ⟨I, hI3, rfl⟩ := nI_of (Int32.not_lt.mpr i0)
            obtain ⟨J, hJ3, rfl⟩ := nI_of (Int32.not_lt.mpr j0)
            have c1 := sbI (by omega) (by omega) (by omega) s1
            have c2 := sbI (by omega) (by omega) (by omega) s2
            exact ⟨⟨v0, Int32.not_lt.mp (fun y => absurd ((nI_ltI (by omega) (by omega)).mp y) (by omega)), i0, Int32.not_lt.mp s1⟩, v0, Int32.not_lt.mp (fun y => absurd ((nI_ltI (by omega) (by omega)).mp y) (by omega)), j0, Int32.not_lt.mp s2⟩
        by_cases hl : hldK κ (5 + p) i v ∧ hldK κ (5 + q) j v
        · have hk2 : w = v ∧ κ2 = kS κ (5 + q) 2 (va_cpy (κ.2 (5 + p) 2) (κ.2 (5 + q) 2) (nn i) (nn j) (nn v)) := by
            rcases hk with hk | hk
            · exact hk.2.2
            · exact absurd hl hk.1
          rw [if_neg (hld.mp hl)] at u1
          have hz := hld.mp hl
          obtain ⟨V, hV, rfl⟩ := nI_of (Int32.not_lt.mpr hl.1.1)
          obtain ⟨I, hI3, rfl⟩ := nI_of (Int32.not_lt.mpr hl.1.2.2.1)
          obtain ⟨J, hJ3, rfl⟩ := nI_of (Int32.not_lt.mpr hl.2.2.2.1)
          have c1 := sbI (by omega) (by omega) (by omega) (fun y => hz (Or.inr (Or.inr (Or.inr (Or.inl y)))))
          have c2 := sbI (by omega) (by omega) (by omega) (fun y => hz (Or.inr (Or.inr (Or.inr (Or.inr y)))))
          rw [nn_nI (by omega), nn_nI (by omega), nn_nI (by omega)] at u1 hk2
          obtain ⟨rfl, rfl⟩ := hk2
          have hup : (decide (nI p = nI q ∧ nI I < nI J) = true ∧ 40 * p + I ≤ 40 * q + J) ∨ (decide (nI p = nI q ∧ nI I < nI J) = false ∧ (40 * q + J ≤ 40 * p + I ∨ 40 * p + I + V ≤ 40 * q + J)) := by
            by_cases hu : nI p = nI q ∧ nI I < nI J
            · have e1 := congrArg nn hu.1
              rw [nn_nI (by omega), nn_nI (by omega)] at e1
              have e2 := (nI_ltI (by omega) (by omega)).mp hu.2
              exact Or.inl ⟨decide_eq_true hu, by omega⟩
            · refine Or.inr ⟨decide_eq_false hu, ?_⟩
              by_cases e1 : p = q
              · subst e1
                have : ¬ I < J := fun y => hu ⟨rfl, (nI_ltI (by omega) (by omega)).mpr y⟩
                omega
              · omega
          generalize decide (nI p = nI q ∧ nI I < nI J) = up at u1 hup
          obtain ⟨w1, w2, w3⟩ := it_cy (40 * q + J) (40 * p + I) V up σ hup V (Nat.le_refl V)
          rw [u1]
          refine ⟨rfl, BR_sh hB (fun k _ => congrFun w1 k) (fun k _ hk => w2 k (by omega)) (kq.rf.S (Or.inr (by omega))) ((congrFun (kS_n (Or.inl (by omega))) 0).trans hB.1.2.2.2.2) (BS_one (q := q) hS (fun i hi => ?_) (fun m hm => ?_) (fun i hi hiq => ⟨rfl, kS_o (by omega)⟩) (Or.inr ⟨?_, ⟨kb, hkb, ?_, b3⟩, zb, zb1, ?_, zb3, fun m hm => ?_⟩))⟩
          · show (it (f_cy (40 * q + J) (40 * p + I) V up) V σ).2.2 52 i = _ ∧ (it (f_cy (40 * q + J) (40 * p + I) V up) V σ).2.2 53 i = _ ∧ (it (f_cy (40 * q + J) (40 * p + I) V up) V σ).2.2 54 i = _
            rw [w2 52 (by decide), w2 53 (by decide), w2 54 (by decide)]
            exact ⟨rfl, rfl, rfl⟩
          · show (it (f_cy (40 * q + J) (40 * p + I) V up) V σ).2.2 55 m = _
            rw [w3 m, if_neg (by omega)]
          · exact (congrFun (w2 52 (by decide)) q).trans b1
          · exact (congrFun (w2 53 (by decide)) q).trans b2
          · exact (congrFun (w2 54 (by decide)) q).trans zb2
          · refine (congrFun kS_s m).trans ?_
            show va_cpy (κ.2 (5 + p) 2) (κ.2 (5 + q) 2) I J V m = (it (f_cy (40 * q + J) (40 * p + I) V up) V σ).2.2 55 (40 * q + m)
            rw [w3 (40 * q + m)]
            unfold va_cpy
            by_cases hr : J ≤ m ∧ m < J + V
            · rw [if_pos hr, if_pos (by cases up <;> simp <;> omega), za4 (I + (m - J)) (by omega), show 40 * p + I + (40 * q + m - (40 * q + J)) = 40 * p + (I + (m - J)) by omega]
            · rw [if_neg hr, if_neg (by cases up <;> simp <;> omega)]
              exact zb4 m hm
        · rw [if_pos (Decidable.byContradiction fun z => hl (hld.mpr z))] at u1
          rcases hk with hk | hk
          · exact absurd ⟨hk.1, hk.2.1⟩ hl
          · exact same (-12) u1 hk.2.1 hk.2.2
      · rw [if_neg he] at hk
        rw [if_pos he] at u1
        exact same (-13) u1 hk.1 hk.2
  · unfold cyK at hk
    rw [if_neg hx] at hk
    refine same (-2) ?_ hk.1 hk.2
    unfold cyR
    rw [if_pos (Decidable.byContradiction fun z => hx ⟨x4.mpr (Decidable.byContradiction fun y => z (Or.inl y)), x4.mpr (Decidable.byContradiction fun y => z (Or.inr y))⟩)]
end M99999991
