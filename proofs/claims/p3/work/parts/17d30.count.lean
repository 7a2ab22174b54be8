/-! ===== count, a line's traits ===== -/
theorem kt_trait {x m : kw_S} (hL : kr_L x m) (hD : kr_D x m) (i w : Int32) (i0 : 0 ≤ i.toInt) (i1 : i.toInt < (x.1 17 5).toInt) : f_X5_trait_4 x i w = f_X8_lineOf_0 m i w := by
  have ci := kw_clampI i0
  obtain ⟨g1, g2, g3, g4, -⟩ := hL.2.2.2 i.toNatClampNeg (by omega)
  rw [f_X5_trait_4_u, f_X8_lineOf_0_u, f_X1_hasLine_17_u, if_neg (show ¬ i.toInt < 0 by omega), if_pos i1]
  simp only [kf_lx]
  rw [if_neg (show ¬ (1 : Int32).toInt = 0 by decide), g1, g2, g3, g4]
  by_cases h0 : w.toInt = 0
  · rw [if_pos h0, if_pos h0]
  rw [if_neg h0, if_neg h0]
  by_cases h1 : w.toInt = 1
  · rw [if_pos h1, if_pos h1]
  rw [if_neg h1, if_neg h1]
  by_cases h2 : w.toInt = 2
  · rw [if_pos h2, if_pos h2]
  rw [if_neg h2, if_neg h2]
  by_cases h3 : w.toInt = 3
  · rw [if_pos h3, if_pos h3]
  rw [if_neg h3, if_neg h3]
  by_cases h4 : w.toInt = 4
  · rw [if_pos h4, if_pos h4, kd_isHung hD, kp_has8]
    apply Int32.toInt_inj.mp
    rcases kp_bit01 (m.1 0 25) i with b | b
    · simp only [if_neg (show ¬ ((m.1 0 25 >>> (i &&& 31)) &&& 1).toInt = 1 by omega)]
      rw [if_pos (show (0 : Int32).toInt = 0 from rfl), b]
      rfl
    · simp only [if_pos b]
      rw [if_neg (show ¬ (1 : Int32).toInt = 0 by decide), b]
      rfl
  rw [if_neg h4, if_neg h4]
  by_cases h5 : w.toInt = 5
  · rw [if_pos h5, if_pos h5]
    exact (hD.2.2.2.2.1.2.2.2.2 i.toNatClampNeg (by omega)).symm
  rw [if_neg h5, if_neg h5, kd_windNow hL hD, kt_pullOf hL i _ i0 i1]
theorem kt_allWet {x m : kw_S} (hL : kr_L x m) (hD : kr_D x m) : f_X5_allWet_4 x = f_X8_wetOfAll_0 m := by
  have l2 := hL.2.1
  have L : ∀ (n n' : Nat) (a i : Int32), 0 ≤ i.toInt → i.toInt ≤ 6 → (6 - i.toInt).toNat < n → (6 - i.toInt).toNat < n' → l_X5_allWet_4_4 x n a i = l_X8_wetOfAll_0_4 m n' a i := by
    intro n
    induction n with
    | zero => intro n' a i _ _ h _; exact absurd h (Nat.not_lt_zero _)
    | succ n ih =>
      intro n' a i i0 i1 h1 h2
      cases n' with
      | zero => exact absurd h2 (Nat.not_lt_zero _)
      | succ n' =>
        have ci := kw_clampI i0
        rw [l_X5_allWet_4_4_s, l_X8_wetOfAll_0_4_s, ← hL.1]
        simp only [kf_lx]
        by_cases hi : i.toInt < (x.1 17 5).toInt
        · have z := kp_inc i (by omega)
          have ew : m.1 14 i.toNatClampNeg = x.1 19 i.toNatClampNeg := hD.2.2.2.2.1.2.2.2.2 i.toNatClampNeg (by omega)
          rw [if_pos hi, if_pos hi, ew]
          exact ih n' _ _ (by omega) (by omega) (by omega) (by omega)
        · rw [if_neg hi, if_neg hi]
  rw [f_X5_allWet_4_u, f_X8_wetOfAll_0_u]
  exact L _ _ _ _ (by decide) (by decide) (by decide) (by decide)
theorem kt_howMany {x m : kw_S} (hL : kr_L x m) (k : Int32) (k0 : 1 ≤ k.toInt) (k1 : k.toInt ≤ 5) : f_X1_howManyAre_17 x k = f_X8_howMany_0 m k := by
  have l2 := hL.2.1
  have L : ∀ (n n' : Nat) (a i : Int32), 0 ≤ i.toInt → i.toInt ≤ 6 → (6 - i.toInt).toNat < n → (6 - i.toInt).toNat < n' → l_X1_howManyAre_17_4 k x n a i = l_X8_howMany_0_4 k m n' a i := by
    intro n
    induction n with
    | zero => intro n' a i _ _ h _; exact absurd h (Nat.not_lt_zero _)
    | succ n ih =>
      intro n' a i i0 i1 h1 h2
      cases n' with
      | zero => exact absurd h2 (Nat.not_lt_zero _)
      | succ n' =>
        have ci := kw_clampI i0
        rw [l_X1_howManyAre_17_4_s, l_X8_howMany_0_4_s, ← hL.1]
        simp only [kf_lx]
        by_cases hi : i.toInt < (x.1 17 5).toInt
        · have z := kp_inc i (by omega)
          obtain ⟨g1, -, -, -, b1, -⟩ := hL.2.2.2 i.toNatClampNeg (by omega)
          rw [if_pos hi, if_pos hi, kd_isA x m _ k b1.1 b1.2 k0 k1, g1]
          by_cases hq : (f_X8_isA m (m.1 8 i.toNatClampNeg) k).toInt = 0
          · rw [if_pos hq, if_pos hq, Int32.add_zero]
            exact ih n' _ _ (by omega) (by omega) (by omega) (by omega)
          · rw [if_neg hq, if_neg hq]
            exact ih n' _ _ (by omega) (by omega) (by omega) (by omega)
        · rw [if_neg hi, if_neg hi]
  rw [f_X1_howManyAre_17_u, f_X8_howMany_0_u]
  exact L _ _ _ _ (by decide) (by decide) (by decide) (by decide)
theorem kt_there7 {x m : kw_S} (hW : kr_W x m) (w : Int32) (hw : w.toInt = 7) : f_X3_howMany_1 x = f_X8_there_0 m w := by
  have p7 : w.toInt = (7 : Int32).toInt := hw
  have p8 : ¬ w.toInt = (8 : Int32).toInt := by rw [hw]; decide
  have p9 : ¬ w.toInt = (9 : Int32).toInt := by rw [hw]; decide
  have Z : ∀ (n' : Nat) (a i : Int32), 6 ≤ i.toInt → i.toInt ≤ 6 → (6 - i.toInt).toNat < n' → l_X8_there_0_4 w m n' a i = a := by
    intro n'
    induction n' with
    | zero => intro a i _ _ h; exact absurd h (Nat.not_lt_zero _)
    | succ n' ih =>
      intro a i i0 i1 h2
      rw [l_X8_there_0_4_s]
      simp only [kf_lx, if_pos p7, if_neg p8, if_neg p9]
      by_cases hi : i.toInt < 6
      · have z := kp_inc i (by omega)
        omega
      · rw [if_neg (show ¬ i.toInt < (6 : Int32).toInt from hi)]
  have L : ∀ (n n' : Nat) (a i : Int32), 0 ≤ i.toInt → i.toInt ≤ 6 → (6 - i.toInt).toNat < n → (6 - i.toInt).toNat < n' → l_X3_howMany_1_4 x n a i = l_X8_there_0_4 w m n' a i := by
    intro n
    induction n with
    | zero => intro n' a i _ _ h _; exact absurd h (Nat.not_lt_zero _)
    | succ n ih =>
      intro n' a i i0 i1 h1 h2
      by_cases hi : i.toInt < 6
      · cases n' with
        | zero => exact absurd h2 (Nat.not_lt_zero _)
        | succ n' =>
          have ci := kw_clampI i0
          have z := kp_inc i (by omega)
          rw [l_X3_howMany_1_4_s, l_X8_there_0_4_s]
          simp only [kf_lx, if_pos p7, if_neg p8, if_neg p9]
          rw [if_pos (show i.toInt < (6 : Int32).toInt from hi), if_pos (show i.toInt < (6 : Int32).toInt by rw [show (6 : Int32).toInt = 6 from rfl]; omega)]
          rcases hW.1 i.toNatClampNeg (by omega) with ⟨b1, b2⟩ | ⟨b1, b2⟩
          · rw [if_pos b1, if_pos b2, Int32.add_zero]
            exact ih n' _ _ (by omega) (by omega) (by omega) (by omega)
          · rw [if_neg (show ¬ (x.1 13 i.toNatClampNeg).toInt < 0 by omega), if_neg (show ¬ (m.1 2 i.toNatClampNeg).toInt < 0 by rw [← b1]; omega)]
            exact ih n' _ _ (by omega) (by omega) (by omega) (by omega)
      · rw [l_X3_howMany_1_4_s, if_neg (show ¬ i.toInt < (6 : Int32).toInt from hi), Z n' a i (by omega) (by omega) h2]
  rw [f_X3_howMany_1_u, f_X8_there_0_u]
  exact L _ _ _ _ (by decide) (by decide) (by decide) (by decide)
theorem kt_there8 {x m : kw_S} (hT : kr_T x m) (w : Int32) (hw : w.toInt = 8) : f_X3_howMany_2 x = f_X8_there_0 m w := by
  have p7 : ¬ w.toInt = (7 : Int32).toInt := by rw [hw]; decide
  have p8 : w.toInt = (8 : Int32).toInt := hw
  have p9 : ¬ w.toInt = (9 : Int32).toInt := by rw [hw]; decide
  have Z : ∀ (n' : Nat) (a i : Int32), 4 ≤ i.toInt → i.toInt ≤ 6 → (6 - i.toInt).toNat < n' → l_X8_there_0_4 w m n' a i = a := by
    intro n'
    induction n' with
    | zero => intro a i _ _ h; exact absurd h (Nat.not_lt_zero _)
    | succ n' ih =>
      intro a i i0 i1 h2
      rw [l_X8_there_0_4_s]
      simp only [kf_lx, if_neg p7, if_pos p8, if_neg p9]
      by_cases hi : i.toInt < 6
      · have z := kp_inc i (by omega)
        rw [if_pos (show i.toInt < (6 : Int32).toInt from hi), if_neg (show ¬ i.toInt < (4 : Int32).toInt by rw [show (4 : Int32).toInt = 4 from rfl]; omega), Int32.add_zero]
        exact ih _ _ (by omega) (by omega) (by omega)
      · rw [if_neg (show ¬ i.toInt < (6 : Int32).toInt from hi)]
  have L : ∀ (n n' : Nat) (a i : Int32), 0 ≤ i.toInt → i.toInt ≤ 4 → (4 - i.toInt).toNat < n → (6 - i.toInt).toNat < n' → l_X3_howMany_2_4 x n a i = l_X8_there_0_4 w m n' a i := by
    intro n
    induction n with
    | zero => intro n' a i _ _ h _; exact absurd h (Nat.not_lt_zero _)
    | succ n ih =>
      intro n' a i i0 i1 h1 h2
      by_cases hi : i.toInt < 4
      · cases n' with
        | zero => exact absurd h2 (Nat.not_lt_zero _)
        | succ n' =>
          have ci := kw_clampI i0
          have z := kp_inc i (by omega)
          rw [l_X3_howMany_2_4_s, l_X8_there_0_4_s]
          simp only [kf_lx, if_neg p7, if_pos p8, if_neg p9]
          rw [if_pos (show i.toInt < (4 : Int32).toInt from hi), if_pos (show i.toInt < (6 : Int32).toInt by rw [show (6 : Int32).toInt = 6 from rfl]; omega), if_pos (show i.toInt < (4 : Int32).toInt from hi)]
          rcases hT.1 i.toNatClampNeg (by omega) with ⟨b1, b2⟩ | ⟨b1, b2⟩
          · rw [if_pos b1, if_pos b2, Int32.add_zero]
            exact ih n' _ _ (by omega) (by omega) (by omega) (by omega)
          · rw [if_neg (show ¬ (x.1 15 i.toNatClampNeg).toInt < 0 by omega), if_neg (show ¬ (m.1 5 i.toNatClampNeg).toInt < 0 by rw [← b1]; omega)]
            exact ih n' _ _ (by omega) (by omega) (by omega) (by omega)
      · rw [l_X3_howMany_2_4_s, if_neg (show ¬ i.toInt < (4 : Int32).toInt from hi), Z n' a i (by omega) (by omega) h2]
  rw [f_X3_howMany_2_u, f_X8_there_0_u]
  exact L _ _ _ _ (by decide) (by decide) (by decide) (by decide)
theorem kt_there9 {x m : kw_S} (hD : kr_D x m) (w : Int32) (hw : w.toInt = 9) : f_X3_howMany_5 x = f_X8_there_0 m w := by
  have p7 : ¬ w.toInt = (7 : Int32).toInt := by rw [hw]; decide
  have p8 : ¬ w.toInt = (8 : Int32).toInt := by rw [hw]; decide
  have p9 : w.toInt = (9 : Int32).toInt := hw
  have Z : ∀ (n' : Nat) (a i : Int32), 3 ≤ i.toInt → i.toInt ≤ 6 → (6 - i.toInt).toNat < n' → l_X8_there_0_4 w m n' a i = a := by
    intro n'
    induction n' with
    | zero => intro a i _ _ h; exact absurd h (Nat.not_lt_zero _)
    | succ n' ih =>
      intro a i i0 i1 h2
      rw [l_X8_there_0_4_s]
      simp only [kf_lx, if_neg p7, if_neg p8, if_pos p9]
      by_cases hi : i.toInt < 6
      · have z := kp_inc i (by omega)
        rw [if_pos (show i.toInt < (6 : Int32).toInt from hi), if_neg (show ¬ i.toInt < (3 : Int32).toInt by rw [show (3 : Int32).toInt = 3 from rfl]; omega), Int32.add_zero]
        exact ih _ _ (by omega) (by omega) (by omega)
      · rw [if_neg (show ¬ i.toInt < (6 : Int32).toInt from hi)]
  have L : ∀ (n n' : Nat) (a i : Int32), 0 ≤ i.toInt → i.toInt ≤ 3 → (3 - i.toInt).toNat < n → (6 - i.toInt).toNat < n' → l_X3_howMany_5_4 x n a i = l_X8_there_0_4 w m n' a i := by
    intro n
    induction n with
    | zero => intro n' a i _ _ h _; exact absurd h (Nat.not_lt_zero _)
    | succ n ih =>
      intro n' a i i0 i1 h1 h2
      by_cases hi : i.toInt < 3
      · cases n' with
        | zero => exact absurd h2 (Nat.not_lt_zero _)
        | succ n' =>
          have ci := kw_clampI i0
          have z := kp_inc i (by omega)
          rw [l_X3_howMany_5_4_s, l_X8_there_0_4_s]
          simp only [kf_lx, if_neg p7, if_neg p8, if_pos p9]
          rw [if_pos (show i.toInt < (3 : Int32).toInt from hi), if_pos (show i.toInt < (6 : Int32).toInt by rw [show (6 : Int32).toInt = 6 from rfl]; omega), if_pos (show i.toInt < (3 : Int32).toInt from hi)]
          rcases hD.2.2.2.2.2.2 i.toNatClampNeg (by omega) with ⟨b1, b2⟩ | ⟨b2, b1, -⟩
          · rw [if_pos b1, b2, if_neg (show ¬ (0 : Int32).toInt = (1 : Int32).toInt by decide), Int32.add_zero]
            exact ih n' _ _ (by omega) (by omega) (by omega) (by omega)
          · rw [if_neg (show ¬ (x.1 21 i.toNatClampNeg).toInt < 0 by omega), b2, if_pos rfl]
            exact ih n' _ _ (by omega) (by omega) (by omega) (by omega)
      · rw [l_X3_howMany_5_4_s, if_neg (show ¬ i.toInt < (3 : Int32).toInt from hi), Z n' a i (by omega) (by omega) h2]
  rw [f_X3_howMany_5_u, f_X8_there_0_u]
  exact L _ _ _ _ (by decide) (by decide) (by decide) (by decide)
theorem kt_count {x m : kw_S} (hT : kr_T x m) (hL : kr_L x m) (hD : kr_D x m) (hW : kr_W x m) (w : Int32) (w0 : 0 ≤ w.toInt) (w9 : w.toInt ≤ 9) : f_X7_count_0 x w = f_X8_tells_0 m w := by
  rw [f_X7_count_0_u, f_X8_tells_0_u]
  simp only [kf_lx]
  have hc := hD.2.2.2.2.1
  by_cases h0 : w.toInt = 0
  · rw [if_pos h0, if_pos h0]; exact hL.1
  rw [if_neg h0, if_neg h0]
  by_cases h1 : w.toInt = 1
  · rw [if_pos h1, if_pos h1]; exact hc.1.symm
  rw [if_neg h1, if_neg h1]
  by_cases h2 : w.toInt = 2
  · rw [if_pos h2, if_pos h2]; exact hD.1
  rw [if_neg h2, if_neg h2]
  by_cases h3 : w.toInt = 3
  · have n2 := (kd_now hL hD).2.1
    rw [if_pos h3, if_pos h3, show m.1 0 25 = x.1 4 4 from hc.2.2.2.1]; exact kd_bits _ _ _ n2.1 n2.2
  rw [if_neg h3, if_neg h3]
  by_cases h4 : w.toInt = 4
  · rw [if_pos h4, if_pos h4]; exact kt_allWet hL hD
  rw [if_neg h4, if_neg h4]
  by_cases h5 : w.toInt = 5
  · rw [if_pos h5, if_pos h5]; exact kt_howMany hL 1 (by decide) (by decide)
  rw [if_neg h5, if_neg h5]
  by_cases h6 : w.toInt = 6
  · rw [if_pos h6, if_pos h6]; exact kt_howMany hL 4 (by decide) (by decide)
  rw [if_neg h6, if_neg h6]
  by_cases h7 : w.toInt = 7
  · rw [if_pos h7]; exact kt_there7 hW w h7
  rw [if_neg h7]
  by_cases h8 : w.toInt = 8
  · rw [if_pos h8]; exact kt_there8 hT w h8
  rw [if_neg h8, if_pos (show w.toInt = 9 by omega)]
  exact kt_there9 hD w (by omega)
theorem kr_count {x m : kw_S} {r q : Int32} (hT : kr_T x m) (hL : kr_L x m) (hD : kr_D x m) (hW : kr_W x m) (w : Int32) (e1 : r = f_X7_count_0 x w) (e2 : q = f_X8_count_0 m w) : r = q := by
  rw [e1, e2, f_X8_count_0_u]
  simp only [kf_lx, kp_in]
  by_cases h : (0 : Int32).toInt ≤ w.toInt ∧ w.toInt ≤ (9 : Int32).toInt
  · have h' : 0 ≤ w.toInt ∧ w.toInt ≤ 9 := h
    simp only [if_pos h]
    rw [if_neg (show ¬ (1 : Int32).toInt = 0 by decide)]
    exact kt_count hT hL hD hW w h'.1 h'.2
  · have h' : ¬ (0 ≤ w.toInt ∧ w.toInt ≤ 9) := h
    simp only [if_neg h]
    rw [if_pos (show (0 : Int32).toInt = 0 from rfl), f_X7_count_0_u]
    rw [if_neg (show ¬ w.toInt = 0 by omega), if_neg (show ¬ w.toInt = 1 by omega), if_neg (show ¬ w.toInt = 2 by omega), if_neg (show ¬ w.toInt = 3 by omega), if_neg (show ¬ w.toInt = 4 by omega), if_neg (show ¬ w.toInt = 5 by omega), if_neg (show ¬ w.toInt = 6 by omega), if_neg (show ¬ w.toInt = 7 by omega), if_neg (show ¬ w.toInt = 8 by omega), if_neg (show ¬ w.toInt = 9 by omega)]
