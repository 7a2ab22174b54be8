/-! ===== pairs: kinds, areas ===== -/
theorem kq_even : ∀ n : Nat, n < 41 → (Int32.ofNat n - Int32.ofNat n / 2 * 2).toInt = 0 → n % 2 = 0 := by decide +kernel
theorem kq_inc2 (x : Int32) (h : x.toInt ≤ 1000000) : (x + Int32.ofInt 2).toInt = x.toInt + 2 := by
  have := kw_rng x
  rw [kw_addI, show (Int32.ofInt 2).toInt = 2 from rfl]
  omega
theorem kr_pairs {x m : kw_S} (hX : kw_I bX x) (hL : kr_L x m) (hW : kr_W x m) (i a : Int32) : (∃ f : Int32, 1 ≤ f.toInt ∧ f.toInt ≤ 5 ∧ f_X7_pairsRefusal_0 x i a = f_X4_refuse_8 x f ∧ f_X8_askedPulls_0 m i a = f_X8_meet_0 m f) ∨ (f_X7_pairsRefusal_0 x i a = (-1, x) ∧ f_X8_askedPulls_0 m i a = (-1, m)) ∨ (f_X7_pairsRefusal_0 x i a = (0, x) ∧ f_X8_askedPulls_0 m i a = (0, m) ∧ (0 ≤ i.toInt ∧ i.toInt < (x.1 17 5).toInt) ∧ 0 ≤ a.toInt ∧ a.toInt < 6 ∧ 0 ≤ (x.1 13 a.toNatClampNeg).toInt ∧ (x.1 13 a.toNatClampNeg).toInt ≤ 20 ∧ m.1 2 a.toNatClampNeg = x.1 13 a.toNatClampNeg ∧ (x.1 13 a.toNatClampNeg).toNatClampNeg % 2 = 0) := by
  have l2 := hL.2.1
  have hb : ∀ j : Nat, -1 ≤ (x.1 13 j).toInt ∧ (x.1 13 j).toInt ≤ 40 := fun j => hX 13 j
  have h10 : ¬ (1 : Int32).toInt = 0 := by decide
  have h00 : (0 : Int32).toInt = 0 := rfl
  have hm1 : (-1 : Int32).toInt < 0 := by decide
  have q20 : (20 : Int32).toInt = 20 := rfl
  have q6 : (6 : Int32).toInt = 6 := rfl
  rw [f_X7_pairsRefusal_0_u, f_X8_askedPulls_0_u, ← kt_isLine hL]
  simp only [kf_lx, kf_bx, kp_has1, kp_miss1, kp_size1, kp_askedRow]
  by_cases hi0 : (f_X1_hasLine_17 x i).toInt = 0
  · simp only [if_pos hi0, if_pos hm1]
    exact Or.inr (Or.inl ⟨trivial, trivial⟩)
  · have hi := kd_lineIn i hi0
    simp only [if_neg hi0]
    by_cases ha : 0 ≤ a.toInt ∧ a.toInt < 6
    · have ha5 : 0 ≤ a.toInt ∧ a.toInt ≤ 5 := by omega
      have ca := kw_clampI ha.1
      have hba := hb a.toNatClampNeg
      simp only [if_pos ha, if_pos ha5, if_neg h10]
      rcases hW.1 a.toNatClampNeg (by omega) with ⟨g1, g2⟩ | ⟨g1, g2⟩
      · simp only [if_neg (show ¬ (0 ≤ a.toInt ∧ a.toInt < 6 ∧ 0 ≤ (x.1 13 a.toNatClampNeg).toInt) by omega), if_neg h10, if_pos g2, kp_meet1]
        rw [if_pos (by decide)]
        exact Or.inl ⟨1, by decide, by decide, rfl, rfl⟩
      · have g4 : ¬ (x.1 13 a.toNatClampNeg).toInt < 0 := by omega
        simp only [if_pos (show 0 ≤ a.toInt ∧ a.toInt < 6 ∧ 0 ≤ (x.1 13 a.toNatClampNeg).toInt by omega), if_pos h00, if_neg g4, ← g1]
        rw [if_neg (show ¬ (0 : Int32).toInt < 0 by decide)]
        by_cases hp : (x.1 13 a.toNatClampNeg - x.1 13 a.toNatClampNeg / 2 * 2).toInt = 0
        · simp only [if_pos hp]
          have cs := kw_clampI g2
          have he := kq_even (x.1 13 a.toNatClampNeg).toNatClampNeg (by omega) (by rw [kd_ofNat _ g2]; exact hp)
          by_cases hs : (20 : Int32).toInt < (x.1 13 a.toNatClampNeg).toInt
          · simp only [if_pos hs]
            exact Or.inl ⟨5, by decide, by decide, rfl, rfl⟩
          · simp only [if_neg hs]
            have L : ∀ (n n' : Nat) (k : Int32), 0 ≤ k.toInt → k.toInt ≤ 40 → ((x.1 13 a.toNatClampNeg).toInt - k.toInt).toNat < n → ((x.1 13 a.toNatClampNeg).toInt - k.toInt).toNat < n' → (l_X7_pairsRefusal_0_80 i a (x.1 13 a.toNatClampNeg) x n k = f_X4_refuse_8 x 3 ∧ l_X8_askedPulls_0_55 i a 0 m n' k = f_X8_meet_0 m 3) ∨ (l_X7_pairsRefusal_0_80 i a (x.1 13 a.toNatClampNeg) x n k = (0, x) ∧ l_X8_askedPulls_0_55 i a 0 m n' k = (0, m)) := by
              intro n
              induction n with
              | zero => intro n' k _ _ h _; exact absurd h (Nat.not_lt_zero _)
              | succ n ih =>
                intro n' k k0 k1 f1 f2
                cases n' with
                | zero => exact absurd f2 (Nat.not_lt_zero _)
                | succ n' =>
                  rw [l_X7_pairsRefusal_0_80_s, l_X8_askedPulls_0_55_s, ← g1]
                  simp only [kf_lx, kf_bx, kp_in]
                  by_cases hk : k.toInt < (x.1 13 a.toNatClampNeg).toInt
                  · have z := kq_inc2 k (by omega)
                    obtain ⟨v1, v2⟩ := kq_val hb hW a k ha.1 ha.2 k0 hk
                    rw [if_pos hk, if_pos hk, v1, v2]
                    by_cases hv : (0 : Int32).toInt ≤ (x.1 (29 + a.toNatClampNeg) k.toNatClampNeg).toInt ∧ (x.1 (29 + a.toNatClampNeg) k.toNatClampNeg).toInt ≤ (6 : Int32).toInt
                    · have hv' : 0 ≤ (x.1 (29 + a.toNatClampNeg) k.toNatClampNeg).toInt ∧ (x.1 (29 + a.toNatClampNeg) k.toNatClampNeg).toInt ≤ 6 := hv
                      simp only [if_pos hv]
                      rw [if_neg (show ¬ (x.1 (29 + a.toNatClampNeg) k.toNatClampNeg).toInt < 0 by omega), if_neg (show ¬ (6 : Int32).toInt < (x.1 (29 + a.toNatClampNeg) k.toNatClampNeg).toInt by omega), if_neg h10]
                      exact ih n' _ (by omega) (by omega) (by omega) (by omega)
                    · have hv' : ¬ (0 ≤ (x.1 (29 + a.toNatClampNeg) k.toNatClampNeg).toInt ∧ (x.1 (29 + a.toNatClampNeg) k.toNatClampNeg).toInt ≤ 6) := hv
                      simp only [if_neg hv]
                      rw [if_pos h00]
                      by_cases h1 : (x.1 (29 + a.toNatClampNeg) k.toNatClampNeg).toInt < 0
                      · rw [if_pos h1]
                        exact Or.inl ⟨rfl, rfl⟩
                      · rw [if_neg h1, if_pos (show (6 : Int32).toInt < (x.1 (29 + a.toNatClampNeg) k.toNatClampNeg).toInt by omega)]
                        exact Or.inl ⟨rfl, rfl⟩
                  · rw [if_neg hk, if_neg hk]
                    exact Or.inr ⟨rfl, rfl⟩
            rcases L (((x.1 13 a.toNatClampNeg).toInt - (0 : Int32).toInt).toNat + 1) ((41 - (0 : Int32).toInt).toNat + 1) 0 (by decide) (by decide) (by omega) (by rw [kp_q0]; omega) with ⟨p1, p2⟩ | ⟨p1, p2⟩
            · exact Or.inl ⟨3, by decide, by decide, p1, p2⟩
            · exact Or.inr (Or.inr ⟨p1, p2, hi, ha.1, ha.2, g2, by omega, (by first | exact g1.symm | trivial), he⟩)
        · simp only [if_neg hp]
          exact Or.inl ⟨5, by decide, by decide, rfl, rfl⟩
    · have ha5 : ¬ (0 ≤ a.toInt ∧ a.toInt ≤ 5) := by omega
      simp only [if_neg ha, if_neg ha5, if_pos h00]
      rw [if_pos hm1]
      exact Or.inr (Or.inl ⟨trivial, rfl⟩)
theorem kq_pulled {x m : kw_S} (hb : ∀ j : Nat, -1 ≤ (x.1 13 j).toInt ∧ (x.1 13 j).toInt ≤ 40) (hW : kr_W x m) (a : Int32) (a0 : 0 ≤ a.toInt) (a6 : a.toInt < 6) (n0 : 0 ≤ (x.1 13 a.toNatClampNeg).toInt) (n20 : (x.1 13 a.toNatClampNeg).toInt ≤ 20) (g : m.1 2 a.toNatClampNeg = x.1 13 a.toNatClampNeg) (he : (x.1 13 a.toNatClampNeg).toNatClampNeg % 2 = 0) (kind area : Int32) : f_X7_pulledSo_0 x a kind area = f_X8_pullsSo_0 m kind area a := by
  have cs := kw_clampI n0
  have Z : ∀ (n : Nat) (k : Int32), 0 ≤ k.toInt → k.toInt ≤ 40 → ((x.1 13 a.toNatClampNeg).toInt - k.toInt).toNat < n → l_X8_pullsSo_0_6 kind area a m n 0 k = 0 := by
    intro n
    induction n with
    | zero => intro k _ _ h; exact absurd h (Nat.not_lt_zero _)
    | succ n ih =>
      intro k k0 k1 f1
      rw [l_X8_pullsSo_0_6_s, g]
      simp only [kf_lx]
      by_cases hk : k.toInt < (x.1 13 a.toNatClampNeg).toInt
      · have z := kq_inc2 k (by omega)
        rw [if_pos hk, if_pos (show (0 : Int32).toInt = 0 from rfl)]
        exact ih _ (by omega) (by omega) (by omega)
      · rw [if_neg hk]
  have L : ∀ (n n' : Nat) (k : Int32), 0 ≤ k.toInt → k.toInt ≤ 40 → k.toNatClampNeg % 2 = 0 → ((x.1 13 a.toNatClampNeg).toInt - k.toInt).toNat < n → ((x.1 13 a.toNatClampNeg).toInt - k.toInt).toNat < n' → l_X7_pulledSo_0_3 a kind area x n k = l_X8_pullsSo_0_6 kind area a m n' 1 k := by
    intro n
    induction n with
    | zero => intro n' k _ _ _ h _; exact absurd h (Nat.not_lt_zero _)
    | succ n ih =>
      intro n' k k0 k1 k2 f1 f2
      cases n' with
      | zero => exact absurd f2 (Nat.not_lt_zero _)
      | succ n' =>
        have ck := kw_clampI k0
        have z1 := kp_add1 k (by omega)
        rw [l_X7_pulledSo_0_3_s, l_X8_pullsSo_0_6_s, g, kp_size1, if_pos ⟨a0, a6⟩]
        simp only [kf_lx]
        by_cases hk : k.toInt < (x.1 13 a.toNatClampNeg).toInt
        · have hk1 : (k + 1).toInt < (x.1 13 a.toNatClampNeg).toInt := by omega
          have z := kq_inc2 k (by omega)
          have c2 := kw_clampI (x := k + Int32.ofInt 2) (by omega)
          obtain ⟨v1, v2⟩ := kq_val hb hW a k a0 a6 k0 hk
          obtain ⟨w1, w2⟩ := kq_val hb hW a (k + 1) a0 a6 (by omega) hk1
          rw [if_pos hk1, if_pos hk, if_neg (show ¬ (1 : Int32).toInt = 0 by decide), v1, v2, w1, w2, kt_pull x m]
          by_cases hp : (f_X8_pullBy m kind area (x.1 (29 + a.toNatClampNeg) k.toNatClampNeg)).toInt = (x.1 (29 + a.toNatClampNeg) (k + 1).toNatClampNeg).toInt
          · rw [if_pos hp, if_pos hp]
            exact ih n' _ (by omega) (by omega) (by omega) (by omega) (by omega)
          · rw [if_neg hp, if_neg hp, Z n' _ (by omega) (by omega) (by omega)]
        · rw [if_neg (show ¬ (k + 1).toInt < (x.1 13 a.toNatClampNeg).toInt by omega), if_neg hk]
  rw [f_X7_pulledSo_0_u, f_X8_pullsSo_0_u]
  exact L _ _ _ (by decide) (by decide) (by decide) (by rw [kp_q0]; omega) (by rw [kp_q0]; omega)
theorem kr_kinds {x m s t : kw_S} {r q : Int32} (hX : kw_I bX x) (hL : kr_L x m) (hW : kr_W x m) (i a : Int32) (e1 : (r, s) = f_X7_kinds_0 x i a) (e2 : (q, t) = f_X8_kinds_0 m i a) : r = q ∧ kq x m s t := by
  have hb : ∀ j : Nat, -1 ≤ (x.1 13 j).toInt ∧ (x.1 13 j).toInt ≤ 40 := fun j => hX 13 j
  rw [f_X7_kinds_0_u] at e1
  rw [f_X8_kinds_0_u] at e2
  simp only [kf_bx] at e1 e2
  rcases kr_pairs hX hL hW i a with ⟨f, f1, f5, p1, p2⟩ | ⟨p1, p2⟩ | ⟨p1, p2, hi, a0, a6, n0, n20, g, he⟩
  · rw [p1, if_neg (by rw [kp_refuse1]; decide)] at e1
    rw [p2, if_pos (by rw [kp_meet1]; decide)] at e2
    obtain ⟨r1, s1⟩ := Prod.mk.inj e1
    obtain ⟨r2, s2⟩ := Prod.mk.inj e2
    rw [r1, s1, r2, s2]
    exact ⟨(kp_refuse1 _ _).trans (kp_meet1 _ _).symm, kq.no x m f f1 f5⟩
  · rw [p1] at e1
    rw [p2] at e2
    dsimp only at e1 e2
    rw [if_neg (show ¬ (-1 : Int32).toInt = 0 by decide)] at e1
    rw [if_pos (show (-1 : Int32).toInt < 0 by decide)] at e2
    obtain ⟨r1, s1⟩ := Prod.mk.inj e1
    obtain ⟨r2, s2⟩ := Prod.mk.inj e2
    rw [r1, s1, r2, s2]
    exact ⟨rfl, kq.rf⟩
  · rw [p1] at e1
    rw [p2] at e2
    dsimp only at e1 e2
    rw [if_pos (show (0 : Int32).toInt = 0 from rfl)] at e1
    rw [if_neg (show ¬ (0 : Int32).toInt < 0 by decide)] at e2
    have ci := kw_clampI hi.1
    have l2 := hL.2.1
    obtain ⟨g1, -, g3, -⟩ := hL.2.2.2 i.toNatClampNeg (by omega)
    have q6 : (6 : Int32).toInt = 6 := rfl
    have q5 : (5 : Int32).toInt = 5 := rfl
    have q9 : (9 : Int32).toInt = 9 := rfl
    have L : ∀ (n n' : Nat) (u k : Int32), 0 ≤ k.toInt → k.toInt ≤ 6 → (6 - k.toInt).toNat < n → (6 - k.toInt).toNat < n' → ∃ z : Int32, l_X7_kinds_0_19 i a 0 x n u k = (z, x) ∧ l_X8_kinds_0_19 i a 0 m n' u k = (z, m) := by
      intro n
      induction n with
      | zero => intro n' u k _ _ h _; exact absurd h (Nat.not_lt_zero _)
      | succ n ih =>
        intro n' u k k0 k1 f1 f2
        cases n' with
        | zero => exact absurd f2 (Nat.not_lt_zero _)
        | succ n' =>
          rw [l_X7_kinds_0_19_s, l_X8_kinds_0_19_s, ← g3]
          simp only [kf_lx]
          rw [kq_pulled hb hW a a0 a6 n0 n20 g he]
          by_cases hk : k.toInt < 6
          · have z := kp_inc k (by omega)
            rw [if_pos (show k.toInt < (6 : Int32).toInt from hk), if_neg (show ¬ (5 : Int32).toInt < k.toInt by omega)]
            by_cases hp : (f_X8_pullsSo_0 m k (x.1 46 i.toNatClampNeg) a).toInt = 0
            · rw [if_pos hp, if_pos hp, Int32.or_zero]
              exact ih n' _ _ (by omega) (by omega) (by omega) (by omega)
            · rw [if_neg hp, if_neg hp]
              exact ih n' _ _ (by omega) (by omega) (by omega) (by omega)
          · rw [if_neg (show ¬ k.toInt < (6 : Int32).toInt from hk), if_pos (show (5 : Int32).toInt < k.toInt by omega)]
            exact ⟨_, rfl, rfl⟩
    obtain ⟨z, z1, z2⟩ := L ((7 - (0 : Int32).toInt).toNat + 1) ((7 - (0 : Int32).toInt).toNat + 1) 0 0 (by decide) (by decide) (by decide) (by decide)
    rw [z1] at e1
    rw [z2] at e2
    obtain ⟨r1, s1⟩ := Prod.mk.inj e1
    obtain ⟨r2, s2⟩ := Prod.mk.inj e2
    rw [r1, s1, r2, s2]
    exact ⟨rfl, kq.rf⟩
theorem kr_areas {x m s t : kw_S} {r q : Int32} (hX : kw_I bX x) (hL : kr_L x m) (hW : kr_W x m) (i a : Int32) (e1 : (r, s) = f_X7_areas_0 x i a) (e2 : (q, t) = f_X8_areas_0 m i a) : r = q ∧ kq x m s t := by
  have hb : ∀ j : Nat, -1 ≤ (x.1 13 j).toInt ∧ (x.1 13 j).toInt ≤ 40 := fun j => hX 13 j
  rw [f_X7_areas_0_u] at e1
  rw [f_X8_areas_0_u] at e2
  simp only [kf_bx] at e1 e2
  rcases kr_pairs hX hL hW i a with ⟨f, f1, f5, p1, p2⟩ | ⟨p1, p2⟩ | ⟨p1, p2, hi, a0, a6, n0, n20, g, he⟩
  · rw [p1, if_neg (by rw [kp_refuse1]; decide)] at e1
    rw [p2, if_pos (by rw [kp_meet1]; decide)] at e2
    obtain ⟨r1, s1⟩ := Prod.mk.inj e1
    obtain ⟨r2, s2⟩ := Prod.mk.inj e2
    rw [r1, s1, r2, s2]
    exact ⟨(kp_refuse1 _ _).trans (kp_meet1 _ _).symm, kq.no x m f f1 f5⟩
  · rw [p1] at e1
    rw [p2] at e2
    dsimp only at e1 e2
    rw [if_neg (show ¬ (-1 : Int32).toInt = 0 by decide)] at e1
    rw [if_pos (show (-1 : Int32).toInt < 0 by decide)] at e2
    obtain ⟨r1, s1⟩ := Prod.mk.inj e1
    obtain ⟨r2, s2⟩ := Prod.mk.inj e2
    rw [r1, s1, r2, s2]
    exact ⟨rfl, kq.rf⟩
  · rw [p1] at e1
    rw [p2] at e2
    dsimp only at e1 e2
    rw [if_pos (show (0 : Int32).toInt = 0 from rfl)] at e1
    rw [if_neg (show ¬ (0 : Int32).toInt < 0 by decide)] at e2
    have ci := kw_clampI hi.1
    have l2 := hL.2.1
    obtain ⟨g1, -, g3, -⟩ := hL.2.2.2 i.toNatClampNeg (by omega)
    have q6 : (6 : Int32).toInt = 6 := rfl
    have q5 : (5 : Int32).toInt = 5 := rfl
    have q9 : (9 : Int32).toInt = 9 := rfl
    have L : ∀ (n n' : Nat) (u k : Int32), 0 ≤ k.toInt → k.toInt ≤ 10 → (10 - k.toInt).toNat < n → (10 - k.toInt).toNat < n' → ∃ z : Int32, l_X7_areas_0_19 i a 0 x n u k = (z, x) ∧ l_X8_areas_0_19 i a 0 m n' u k = (z, m) := by
      intro n
      induction n with
      | zero => intro n' u k _ _ h _; exact absurd h (Nat.not_lt_zero _)
      | succ n ih =>
        intro n' u k k0 k1 f1 f2
        cases n' with
        | zero => exact absurd f2 (Nat.not_lt_zero _)
        | succ n' =>
          rw [l_X7_areas_0_19_s, l_X8_areas_0_19_s, ← g1]
          simp only [kf_lx]
          rw [kq_pulled hb hW a a0 a6 n0 n20 g he]
          by_cases hk : k.toInt < 10
          · have z := kp_inc k (by omega)
            rw [if_neg (show ¬ (9 : Int32).toInt < k.toInt by omega), if_neg (show ¬ (9 : Int32).toInt < k.toInt by omega)]
            by_cases hp : (f_X8_pullsSo_0 m (x.1 44 i.toNatClampNeg) k a).toInt = 0
            · rw [if_pos hp, if_pos hp, Int32.or_zero]
              exact ih n' _ _ (by omega) (by omega) (by omega) (by omega)
            · rw [if_neg hp, if_neg hp]
              exact ih n' _ _ (by omega) (by omega) (by omega) (by omega)
          · rw [if_pos (show (9 : Int32).toInt < k.toInt by omega), if_pos (show (9 : Int32).toInt < k.toInt by omega)]
            exact ⟨_, rfl, rfl⟩
    obtain ⟨z, z1, z2⟩ := L ((10 - (1 : Int32).toInt).toNat + 1) ((11 - (1 : Int32).toInt).toNat + 1) 0 1 (by decide) (by decide) (by decide) (by decide)
    rw [z1] at e1
    rw [z2] at e2
    obtain ⟨r1, s1⟩ := Prod.mk.inj e1
    obtain ⟨r2, s2⟩ := Prod.mk.inj e2
    rw [r1, s1, r2, s2]
    exact ⟨rfl, kq.rf⟩
