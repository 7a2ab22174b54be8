section
/-! ===== count, a line's traits ===== -/
theorem kt_trait {x m : kw_S} (hL : kr_L x m) (hD : kr_D x m) (i w : Int32) (i0 : 0 ≤ i.toInt) (i1 : i.toInt < (x.1 17 5).toInt) : f_X5_trait_4 x i w = f_X8_lineOf_0 m i w := by
  have ci := kw_clampI i0
  obtain ⟨g1, g2, g3, g4, -⟩ := hL.2.2.2 i.toNatClampNeg (by omega)
  rw [f_X5_trait_4_u, f_X8_lineOf_0_u, f_X1_hasLine_17_u, if_neg (show ¬ i.toInt < 0 by omega), if_pos i1]
  simp only [kf_lx]
  rw [if_neg (show ¬ (1 : Int32).toInt = 0 by decide), g1, g2, g3, g4]
  by_cases h0 : w.toInt = 0
  · rw [if_pos h0, if_pos h0]
  rw [if_neg h0, if_neg h0]
  by_cases h1 : w.toInt = 1
  · rw [if_pos h1, if_pos h1]
  rw [if_neg h1, if_neg h1]
  by_cases h2 : w.toInt = 2
  · rw [if_pos h2, if_pos h2]
  rw [if_neg h2, if_neg h2]
  by_cases h3 : w.toInt = 3
  · rw [if_pos h3, if_pos h3]
  rw [if_neg h3, if_neg h3]
  by_cases h4 : w.toInt = 4
  · rw [if_pos h4, if_pos h4, kd_isHung hD, kp_has8]
    apply Int32.toInt_inj.mp
    rcases kp_bit01 (m.1 0 25) i with b | b
    · simp only [if_neg (show ¬ ((m.1 0 25 >>> (i &&& 31)) &&& 1).toInt = 1 by omega)]
      rw [if_pos (show (0 : Int32).toInt = 0 from rfl), b]
      rfl
    · simp only [if_pos b]
      rw [if_neg (show ¬ (1 : Int32).toInt = 0 by decide), b]
      rfl
  rw [if_neg h4, if_neg h4]
  by_cases h5 : w.toInt = 5
  · rw [if_pos h5, if_pos h5]
    exact (hD.2.2.2.2.1.2.2.2.2 i.toNatClampNeg (by omega)).symm
  rw [if_neg h5, if_neg h5, kd_windNow hL hD, kt_pullOf hL i _ i0 i1]
theorem kt_allWet {x m : kw_S} (hL : kr_L x m) (hD : kr_D x m) : f_X5_allWet_4 x = f_X8_wetOfAll_0 m := by
  have l2 := hL.2.1
  have L : ∀ (n n' : Nat) (a i : Int32), 0 ≤ i.toInt → i.toInt ≤ 6 → (6 - i.toInt).toNat < n → (6 - i.toInt).toNat < n' → l_X5_allWet_4_4 x n a i = l_X8_wetOfAll_0_4 m n' a i := by
    intro n
    induction n with
    | zero => intro n' a i _ _ h _; exact absurd h (Nat.not_lt_zero _)
    | succ n ih =>
      intro n' a i i0 i1 h1 h2
      cases n' with
      | zero => exact absurd h2 (Nat.not_lt_zero _)
      | succ n' =>
        have ci := kw_clampI i0
        rw [l_X5_allWet_4_4_s, l_X8_wetOfAll_0_4_s, ← hL.1]
        simp only [kf_lx]
        by_cases hi : i.toInt < (x.1 17 5).toInt
        · have z := kp_inc i (by omega)
          have ew : m.1 14 i.toNatClampNeg = x.1 19 i.toNatClampNeg := hD.2.2.2.2.1.2.2.2.2 i.toNatClampNeg (by omega)
          rw [if_pos hi, if_pos hi, ew]
          exact ih n' _ _ (by omega) (by omega) (by omega) (by omega)
        · rw [if_neg hi, if_neg hi]
  rw [f_X5_allWet_4_u, f_X8_wetOfAll_0_u]
  exact L _ _ _ _ (by decide) (by decide) (by decide) (by decide)
theorem kt_howMany {x m : kw_S} (hL : kr_L x m) (k : Int32) (k0 : 1 ≤ k.toInt) (k1 : k.toInt ≤ 5) : f_X1_howManyAre_17 x k = f_X8_howMany_0 m k := by
  have l2 := hL.2.1
  have L : ∀ (n n' : Nat) (a i : Int32), 0 ≤ i.toInt → i.toInt ≤ 6 → (6 - i.toInt).toNat < n → (6 - i.toInt).toNat < n' → l_X1_howManyAre_17_4 k x n a i = l_X8_howMany_0_4 k m n' a i := by
    intro n
    induction n with
    | zero => intro n' a i _ _ h _; exact absurd h (Nat.not_lt_zero _)
    | succ n ih =>
      intro n' a i i0 i1 h1 h2
      cases n' with
      | zero => exact absurd h2 (Nat.not_lt_zero _)
      | succ n' =>
        have ci := kw_clampI i0
        rw [l_X1_howManyAre_17_4_s, l_X8_howMany_0_4_s, ← hL.1]
        simp only [kf_lx]
        by_cases hi : i.toInt < (x.1 17 5).toInt
        · have z := kp_inc i (by omega)
          obtain ⟨g1, -, -, -, b1, -⟩ := hL.2.2.2 i.toNatClampNeg (by omega)
          rw [if_pos hi, if_pos hi, kd_isA x m _ k b1.1 b1.2 k0 k1, g1]
          by_cases hq : (f_X8_isA m (m.1 8 i.toNatClampNeg) k).toInt = 0
          · rw [if_pos hq, if_pos hq, Int32.add_zero]
            exact ih n' _ _ (by omega) (by omega) (by omega) (by omega)
          · rw [if_neg hq, if_neg hq]
            exact ih n' _ _ (by omega) (by omega) (by omega) (by omega)
        · rw [if_neg hi, if_neg hi]
  rw [f_X1_howManyAre_17_u, f_X8_howMany_0_u]
  exact L _ _ _ _ (by decide) (by decide) (by decide) (by decide)
theorem kt_there7 {x m : kw_S} (hW : kr_W x m) (w : Int32) (hw : w.toInt = 7) : f_X3_howMany_1 x = f_X8_there_0 m w := by
  have p7 : w.toInt = (7 : Int32).toInt := hw
  have p8 : ¬ w.toInt = (8 : Int32).toInt := by rw [hw]; decide
  have p9 : ¬ w.toInt = (9 : Int32).toInt := by rw [hw]; decide
  have Z : ∀ (n' : Nat) (a i : Int32), 6 ≤ i.toInt → i.toInt ≤ 6 → (6 - i.toInt).toNat < n' → l_X8_there_0_4 w m n' a i = a := by
    intro n'
    induction n' with
    | zero => intro a i _ _ h; exact absurd h (Nat.not_lt_zero _)
    | succ n' ih =>
      intro a i i0 i1 h2
      rw [l_X8_there_0_4_s]
      simp only [kf_lx, if_pos p7, if_neg p8, if_neg p9]
      by_cases hi : i.toInt < 6
      · have z := kp_inc i (by omega)
        omega
      · rw [if_neg (show ¬ i.toInt < (6 : Int32).toInt from hi)]
  have L : ∀ (n n' : Nat) (a i : Int32), 0 ≤ i.toInt → i.toInt ≤ 6 → (6 - i.toInt).toNat < n → (6 - i.toInt).toNat < n' → l_X3_howMany_1_4 x n a i = l_X8_there_0_4 w m n' a i := by
    intro n
    induction n with
    | zero => intro n' a i _ _ h _; exact absurd h (Nat.not_lt_zero _)
    | succ n ih =>
      intro n' a i i0 i1 h1 h2
      by_cases hi : i.toInt < 6
      · cases n' with
        | zero => exact absurd h2 (Nat.not_lt_zero _)
        | succ n' =>
          have ci := kw_clampI i0
          have z := kp_inc i (by omega)
          rw [l_X3_howMany_1_4_s, l_X8_there_0_4_s]
          simp only [kf_lx, if_pos p7, if_neg p8, if_neg p9]
          rw [if_pos (show i.toInt < (6 : Int32).toInt from hi), if_pos (show i.toInt < (6 : Int32).toInt by rw [show (6 : Int32).toInt = 6 from rfl]; omega)]
          rcases hW.1 i.toNatClampNeg (by omega) with ⟨b1, b2⟩ | ⟨b1, b2⟩
          · rw [if_pos b1, if_pos b2, Int32.add_zero]
            exact ih n' _ _ (by omega) (by omega) (by omega) (by omega)
          · rw [if_neg (show ¬ (x.1 13 i.toNatClampNeg).toInt < 0 by omega), if_neg (show ¬ (m.1 2 i.toNatClampNeg).toInt < 0 by rw [← b1]; omega)]
            exact ih n' _ _ (by omega) (by omega) (by omega) (by omega)
      · rw [l_X3_howMany_1_4_s, if_neg (show ¬ i.toInt < (6 : Int32).toInt from hi), Z n' a i (by omega) (by omega) h2]
  rw [f_X3_howMany_1_u, f_X8_there_0_u]
  exact L _ _ _ _ (by decide) (by decide) (by decide) (by decide)
theorem kt_there8 {x m : kw_S} (hT : kr_T x m) (w : Int32) (hw : w.toInt = 8) : f_X3_howMany_2 x = f_X8_there_0 m w := by
  have p7 : ¬ w.toInt = (7 : Int32).toInt := by rw [hw]; decide
  have p8 : w.toInt = (8 : Int32).toInt := hw
  have p9 : ¬ w.toInt = (9 : Int32).toInt := by rw [hw]; decide
  have Z : ∀ (n' : Nat) (a i : Int32), 4 ≤ i.toInt → i.toInt ≤ 6 → (6 - i.toInt).toNat < n' → l_X8_there_0_4 w m n' a i = a := by
    intro n'
    induction n' with
    | zero => intro a i _ _ h; exact absurd h (Nat.not_lt_zero _)
    | succ n' ih =>
      intro a i i0 i1 h2
      rw [l_X8_there_0_4_s]
      simp only [kf_lx, if_neg p7, if_pos p8, if_neg p9]
      by_cases hi : i.toInt < 6
      · have z := kp_inc i (by omega)
        rw [if_pos (show i.toInt < (6 : Int32).toInt from hi), if_neg (show ¬ i.toInt < (4 : Int32).toInt by rw [show (4 : Int32).toInt = 4 from rfl]; omega), Int32.add_zero]
        exact ih _ _ (by omega) (by omega) (by omega)
      · rw [if_neg (show ¬ i.toInt < (6 : Int32).toInt from hi)]
  have L : ∀ (n n' : Nat) (a i : Int32), 0 ≤ i.toInt → i.toInt ≤ 4 → (4 - i.toInt).toNat < n → (6 - i.toInt).toNat < n' → l_X3_howMany_2_4 x n a i = l_X8_there_0_4 w m n' a i := by
    intro n
    induction n with
    | zero => intro n' a i _ _ h _; exact absurd h (Nat.not_lt_zero _)
    | succ n ih =>
      intro n' a i i0 i1 h1 h2
      by_cases hi : i.toInt < 4
      · cases n' with
        | zero => exact absurd h2 (Nat.not_lt_zero _)
        | succ n' =>
          have ci := kw_clampI i0
          have z := kp_inc i (by omega)
          rw [l_X3_howMany_2_4_s, l_X8_there_0_4_s]
          simp only [kf_lx, if_neg p7, if_pos p8, if_neg p9]
          rw [if_pos (show i.toInt < (4 : Int32).toInt from hi), if_pos (show i.toInt < (6 : Int32).toInt by rw [show (6 : Int32).toInt = 6 from rfl]; omega), if_pos (show i.toInt < (4 : Int32).toInt from hi)]
          rcases hT.1 i.toNatClampNeg (by omega) with ⟨b1, b2⟩ | ⟨b1, b2⟩
          · rw [if_pos b1, if_pos b2, Int32.add_zero]
            exact ih n' _ _ (by omega) (by omega) (by omega) (by omega)
          · rw [if_neg (show ¬ (x.1 15 i.toNatClampNeg).toInt < 0 by omega), if_neg (show ¬ (m.1 5 i.toNatClampNeg).toInt < 0 by rw [← b1]; omega)]
            exact ih n' _ _ (by omega) (by omega) (by omega) (by omega)
      · rw [l_X3_howMany_2_4_s, if_neg (show ¬ i.toInt < (4 : Int32).toInt from hi), Z n' a i (by omega) (by omega) h2]
  rw [f_X3_howMany_2_u, f_X8_there_0_u]
  exact L _ _ _ _ (by decide) (by decide) (by decide) (by decide)
theorem kt_there9 {x m : kw_S} (hD : kr_D x m) (w : Int32) (hw : w.toInt = 9) : f_X3_howMany_5 x = f_X8_there_0 m w := by
  have p7 : ¬ w.toInt = (7 : Int32).toInt := by rw [hw]; decide
  have p8 : ¬ w.toInt = (8 : Int32).toInt := by rw [hw]; decide
  have p9 : w.toInt = (9 : Int32).toInt := hw
  have Z : ∀ (n' : Nat) (a i : Int32), 3 ≤ i.toInt → i.toInt ≤ 6 → (6 - i.toInt).toNat < n' → l_X8_there_0_4 w m n' a i = a := by
    intro n'
    induction n' with
    | zero => intro a i _ _ h; exact absurd h (Nat.not_lt_zero _)
    | succ n' ih =>
      intro a i i0 i1 h2
      rw [l_X8_there_0_4_s]
      simp only [kf_lx, if_neg p7, if_neg p8, if_pos p9]
      by_cases hi : i.toInt < 6
      · have z := kp_inc i (by omega)
        rw [if_pos (show i.toInt < (6 : Int32).toInt from hi), if_neg (show ¬ i.toInt < (3 : Int32).toInt by rw [show (3 : Int32).toInt = 3 from rfl]; omega), Int32.add_zero]
        exact ih _ _ (by omega) (by omega) (by omega)
      · rw [if_neg (show ¬ i.toInt < (6 : Int32).toInt from hi)]
  have L : ∀ (n n' : Nat) (a i : Int32), 0 ≤ i.toInt → i.toInt ≤ 3 → (3 - i.toInt).toNat < n → (6 - i.toInt).toNat < n' → l_X3_howMany_5_4 x n a i = l_X8_there_0_4 w m n' a i := by
    intro n
    induction n with
    | zero => intro n' a i _ _ h _; exact absurd h (Nat.not_lt_zero _)
    | succ n ih =>
      intro n' a i i0 i1 h1 h2
      by_cases hi : i.toInt < 3
      · cases n' with
        | zero => exact absurd h2 (Nat.not_lt_zero _)
        | succ n' =>
          have ci := kw_clampI i0
          have z := kp_inc i (by omega)
          rw [l_X3_howMany_5_4_s, l_X8_there_0_4_s]
          simp only [kf_lx, if_neg p7, if_neg p8, if_pos p9]
          rw [if_pos (show i.toInt < (3 : Int32).toInt from hi), if_pos (show i.toInt < (6 : Int32).toInt by rw [show (6 : Int32).toInt = 6 from rfl]; omega), if_pos (show i.toInt < (3 : Int32).toInt from hi)]
          rcases hD.2.2.2.2.2.2 i.toNatClampNeg (by omega) with ⟨b1, b2⟩ | ⟨b2, b1, -⟩
          · rw [if_pos b1, b2, if_neg (show ¬ (0 : Int32).toInt = (1 : Int32).toInt by decide), Int32.add_zero]
            exact ih n' _ _ (by omega) (by omega) (by omega) (by omega)
          · rw [if_neg (show ¬ (x.1 21 i.toNatClampNeg).toInt < 0 by omega), b2, if_pos rfl]
            exact ih n' _ _ (by omega) (by omega) (by omega) (by omega)
      · rw [l_X3_howMany_5_4_s, if_neg (show ¬ i.toInt < (3 : Int32).toInt from hi), Z n' a i (by omega) (by omega) h2]
  rw [f_X3_howMany_5_u, f_X8_there_0_u]
  exact L _ _ _ _ (by decide) (by decide) (by decide) (by decide)
theorem kt_count {x m : kw_S} (hT : kr_T x m) (hL : kr_L x m) (hD : kr_D x m) (hW : kr_W x m) (w : Int32) (w0 : 0 ≤ w.toInt) (w9 : w.toInt ≤ 9) : f_X7_count_0 x w = f_X8_tells_0 m w := by
  rw [f_X7_count_0_u, f_X8_tells_0_u]
  simp only [kf_lx]
  have hc := hD.2.2.2.2.1
  by_cases h0 : w.toInt = 0
  · rw [if_pos h0, if_pos h0]; exact hL.1
  rw [if_neg h0, if_neg h0]
  by_cases h1 : w.toInt = 1
  · rw [if_pos h1, if_pos h1]; exact hc.1.symm
  rw [if_neg h1, if_neg h1]
  by_cases h2 : w.toInt = 2
  · rw [if_pos h2, if_pos h2]; exact hD.1
  rw [if_neg h2, if_neg h2]
  by_cases h3 : w.toInt = 3
  · have n2 := (kd_now hL hD).2.1
    rw [if_pos h3, if_pos h3, show m.1 0 25 = x.1 4 4 from hc.2.2.2.1]; exact kd_bits _ _ _ n2.1 n2.2
  rw [if_neg h3, if_neg h3]
  by_cases h4 : w.toInt = 4
  · rw [if_pos h4, if_pos h4]; exact kt_allWet hL hD
  rw [if_neg h4, if_neg h4]
  by_cases h5 : w.toInt = 5
  · rw [if_pos h5, if_pos h5]; exact kt_howMany hL 1 (by decide) (by decide)
  rw [if_neg h5, if_neg h5]
  by_cases h6 : w.toInt = 6
  · rw [if_pos h6, if_pos h6]; exact kt_howMany hL 4 (by decide) (by decide)
  rw [if_neg h6, if_neg h6]
  by_cases h7 : w.toInt = 7
  · rw [if_pos h7]; exact kt_there7 hW w h7
  rw [if_neg h7]
  by_cases h8 : w.toInt = 8
  · rw [if_pos h8]; exact kt_there8 hT w h8
  rw [if_neg h8, if_pos (show w.toInt = 9 by omega)]
  exact kt_there9 hD w (by omega)
theorem kr_count {x m : kw_S} {r q : Int32} (hT : kr_T x m) (hL : kr_L x m) (hD : kr_D x m) (hW : kr_W x m) (w : Int32) (e1 : r = f_X7_count_0 x w) (e2 : q = f_X8_count_0 m w) : r = q := by
  rw [e1, e2, f_X8_count_0_u]
  simp only [kf_lx, kp_in]
  by_cases h : (0 : Int32).toInt ≤ w.toInt ∧ w.toInt ≤ (9 : Int32).toInt
  · have h' : 0 ≤ w.toInt ∧ w.toInt ≤ 9 := h
    simp only [if_pos h]
    rw [if_neg (show ¬ (1 : Int32).toInt = 0 by decide)]
    exact kt_count hT hL hD hW w h'.1 h'.2
  · have h' : ¬ (0 ≤ w.toInt ∧ w.toInt ≤ 9) := h
    simp only [if_neg h]
    rw [if_pos (show (0 : Int32).toInt = 0 from rfl), f_X7_count_0_u]
    rw [if_neg (show ¬ w.toInt = 0 by omega), if_neg (show ¬ w.toInt = 1 by omega), if_neg (show ¬ w.toInt = 2 by omega), if_neg (show ¬ w.toInt = 3 by omega), if_neg (show ¬ w.toInt = 4 by omega), if_neg (show ¬ w.toInt = 5 by omega), if_neg (show ¬ w.toInt = 6 by omega), if_neg (show ¬ w.toInt = 7 by omega), if_neg (show ¬ w.toInt = 8 by omega), if_neg (show ¬ w.toInt = 9 by omega)]
end
section
/-! ===== digest ===== -/
theorem kq_ulul (m : kw_S) (h h' : Int64) : kw_ul (kw_ul m 0 36 h) 0 36 h' = kw_ul m 0 36 h' := by
  refine kp_ext (fun _ _ => rfl) (fun a j => ?_)
  rw [kp_ul2, kp_ul2, kp_ul2]
  by_cases e : a = 0 ∧ j = 36
  · rw [if_pos e, if_pos e]
  · rw [if_neg e, if_neg e, if_neg e]
theorem kq_mix (m : kw_S) (h : Int64) (v : Int32) : f_X8_mix_0 (kw_ul m 0 36 h) v = kw_ul m 0 36 (31 * h + v.toInt64) := by
  rw [f_X8_mix_0_u]
  simp only [kf_lx]
  rw [kp_ul2, if_pos ⟨rfl, rfl⟩, kq_ulul]
theorem kq_fold2a {x m : kw_S} (h : kr_T x m) (hX : kw_I bX x) (a : Int64) (c : Int32) (c0 : 0 ≤ c.toInt) (c1 : c.toInt < 4) (k5 : Int64 → Int32 → Int64) (kk : Int32 → kw_S → Int64 × kw_S) (G : Int64 → Int64 × kw_S) (hk : ∀ g : Int64, kk (c + Int32.ofInt 1) (kw_ul m 0 36 g) = G (k5 g (c + Int32.ofInt 1))) : ∀ (n n' : Nat) (g : Int64) (j : Int32), 0 ≤ j.toInt → j.toInt ≤ 60 → (60 - j.toInt).toNat < n → (60 - j.toInt).toNat < n' → l_X8_digest_0_131 kk c n' j (kw_ul m 0 36 g) = G (l_X3_fold_2_33 k5 a c x n g j) := by
  have cc := kw_clampI c0
  have bb : -1 ≤ (x.1 15 c.toNatClampNeg).toInt ∧ (x.1 15 c.toNatClampNeg).toInt ≤ 60 := hX 15 c.toNatClampNeg
  intro n
  induction n with
  | zero => intro n' g j _ _ f _; exact absurd f (Nat.not_lt_zero _)
  | succ n ih =>
    intro n' g j j0 j1 f1 f2
    cases n' with
    | zero => exact absurd f2 (Nat.not_lt_zero _)
    | succ n' =>
      have cj := kw_clampI j0
      rw [l_X8_digest_0_131_s, l_X3_fold_2_33_s]
      simp only [kf_lx]
      rw [show (kw_ul m 0 36 g).1 5 c.toNatClampNeg = m.1 5 c.toNatClampNeg from rfl]
      rcases h.1 c.toNatClampNeg (by omega) with ⟨g1, g2⟩ | ⟨g1, g2⟩
      · rw [if_neg (show ¬ j.toInt < (m.1 5 c.toNatClampNeg).toInt by omega), if_neg (show ¬ j.toInt < (x.1 15 c.toNatClampNeg).toInt by omega)]
        exact hk g
      · rw [← g1]
        by_cases hj : j.toInt < (x.1 15 c.toNatClampNeg).toInt
        · have z := kp_inc j (by omega)
          have e := kp_row2 c c0 c1 (fun b => l_X3_fold_2_33 k5 a c x n (31 * g + (x.1 b j.toNatClampNeg).toInt64) (j + Int32.ofInt 1)) 0
          rw [if_pos hj, if_pos hj, e]
          have ev : (kw_ul m 0 36 g).1 6 ((60 : Int32) * c + j).toNatClampNeg = x.1 (35 + c.toNatClampNeg) j.toNatClampNeg := by
            rw [kp_idx 60 60 c j rfl (by decide) c0 (by omega) j0 (by omega), h.2 c.toNatClampNeg j.toNatClampNeg (by omega) (by omega)]
            rfl
          rw [ev, kq_mix]
          exact ih n' _ _ (by omega) (by omega) (by omega) (by omega)
        · rw [if_neg hj, if_neg hj]
          exact hk g
theorem kq_fold2 {x m : kw_S} (h : kr_T x m) (hX : kw_I bX x) (a : Int64) (G : Int64 → Int64 × kw_S) (hG : ∀ g : Int64, ((kw_ul m 0 36 g).2 0 36, kw_ul m 0 36 g) = G g) : ∀ (n n' : Nat) (g : Int64) (c : Int32), 0 ≤ c.toInt → c.toInt ≤ 4 → (4 - c.toInt).toNat < n → (4 - c.toInt).toNat < n' → l_X8_digest_0_101 n' c (kw_ul m 0 36 g) = G (l_X3_fold_2_5 a x n g c) := by
  intro n
  induction n with
  | zero => intro n' g c _ _ f _; exact absurd f (Nat.not_lt_zero _)
  | succ n ih =>
    intro n' g c c0 c1 f1 f2
    cases n' with
    | zero => exact absurd f2 (Nat.not_lt_zero _)
    | succ n' =>
      have cc := kw_clampI c0
      rw [l_X8_digest_0_101_s, l_X3_fold_2_5_s]
      simp only [kf_lx]
      by_cases hc : c.toInt < 4
      · have z := kp_inc c (by omega)
        have bb : -1 ≤ (x.1 15 c.toNatClampNeg).toInt ∧ (x.1 15 c.toNatClampNeg).toInt ≤ 60 := hX 15 c.toNatClampNeg
        have A := kq_fold2a h hX a c c0 hc (l_X3_fold_2_5 a x n) (l_X8_digest_0_101 n') G (fun g => ih n' g _ (by omega) (by omega) (by omega) (by omega)) ((61 - (0 : Int32).toInt).toNat + 1) ((61 - (0 : Int32).toInt).toNat + 1)
        rw [if_pos (show c.toInt < (4 : Int32).toInt from hc), if_pos (show c.toInt < (4 : Int32).toInt from hc), show (kw_ul m 0 36 g).1 5 c.toNatClampNeg = m.1 5 c.toNatClampNeg from rfl, kq_mix, kq_mix]
        rcases h.1 c.toNatClampNeg (by omega) with ⟨g1, g2⟩ | ⟨g1, g2⟩
        · have e : x.1 15 c.toNatClampNeg = -1 := Int32.toInt_inj.mp (by rw [show (-1 : Int32).toInt = -1 from rfl]; omega)
          rw [if_pos g2, A _ 0 (by decide) (by decide) (by decide) (by decide), e]
        · rw [← g1, if_neg (show ¬ (x.1 15 c.toNatClampNeg).toInt < 0 by omega), A _ 0 (by decide) (by decide) (by decide) (by decide)]
      · rw [if_neg (show ¬ c.toInt < (4 : Int32).toInt from hc), if_neg (show ¬ c.toInt < (4 : Int32).toInt from hc)]
        exact hG g
theorem kq_fold1a {x m : kw_S} (h : kr_W x m) (hX : kw_I bX x) (a : Int64) (c : Int32) (c0 : 0 ≤ c.toInt) (c1 : c.toInt < 6) (k5 : Int64 → Int32 → Int64) (kk : Int32 → kw_S → Int64 × kw_S) (G : Int64 → Int64 × kw_S) (hk : ∀ g : Int64, kk (c + Int32.ofInt 1) (kw_ul m 0 36 g) = G (k5 g (c + Int32.ofInt 1))) : ∀ (n n' : Nat) (g : Int64) (j : Int32), 0 ≤ j.toInt → j.toInt ≤ 40 → (40 - j.toInt).toNat < n → (40 - j.toInt).toNat < n' → l_X8_digest_0_67 kk c n' j (kw_ul m 0 36 g) = G (l_X3_fold_1_33 k5 a c x n g j) := by
  have cc := kw_clampI c0
  have bb : -1 ≤ (x.1 13 c.toNatClampNeg).toInt ∧ (x.1 13 c.toNatClampNeg).toInt ≤ 40 := hX 13 c.toNatClampNeg
  intro n
  induction n with
  | zero => intro n' g j _ _ f _; exact absurd f (Nat.not_lt_zero _)
  | succ n ih =>
    intro n' g j j0 j1 f1 f2
    cases n' with
    | zero => exact absurd f2 (Nat.not_lt_zero _)
    | succ n' =>
      have cj := kw_clampI j0
      rw [l_X8_digest_0_67_s, l_X3_fold_1_33_s]
      simp only [kf_lx]
      rw [show (kw_ul m 0 36 g).1 2 c.toNatClampNeg = m.1 2 c.toNatClampNeg from rfl]
      rcases h.1 c.toNatClampNeg (by omega) with ⟨g1, g2⟩ | ⟨g1, g2⟩
      · rw [if_neg (show ¬ j.toInt < (m.1 2 c.toNatClampNeg).toInt by omega), if_neg (show ¬ j.toInt < (x.1 13 c.toNatClampNeg).toInt by omega)]
        exact hk g
      · rw [← g1]
        by_cases hj : j.toInt < (x.1 13 c.toNatClampNeg).toInt
        · have z := kp_inc j (by omega)
          have e := kp_row1 c c0 c1 (fun b => l_X3_fold_1_33 k5 a c x n (31 * g + (x.1 b j.toNatClampNeg).toInt64) (j + Int32.ofInt 1)) 0
          rw [if_pos hj, if_pos hj, e]
          have ev : f_X8_rowAt_0 (kw_ul m 0 36 g) c j = x.1 (29 + c.toNatClampNeg) j.toNatClampNeg := by
            rw [kp_rowAt _ c j c0 (by omega) j0 (by omega), h.2 c.toNatClampNeg j.toNatClampNeg (by omega) (by omega)]
            rfl
          rw [ev, kq_mix]
          exact ih n' _ _ (by omega) (by omega) (by omega) (by omega)
        · rw [if_neg hj, if_neg hj]
          exact hk g
theorem kq_fold1 {x m : kw_S} (h : kr_W x m) (hX : kw_I bX x) (a : Int64) (G : Int64 → Int64 × kw_S) (hG : ∀ g : Int64, l_X8_digest_0_101 ((5 - (0 : Int32).toInt).toNat + 1) (0 : Int32) (kw_ul m 0 36 g) = G g) : ∀ (n n' : Nat) (g : Int64) (c : Int32), 0 ≤ c.toInt → c.toInt ≤ 6 → (6 - c.toInt).toNat < n → (6 - c.toInt).toNat < n' → l_X8_digest_0_36 n' c (kw_ul m 0 36 g) = G (l_X3_fold_1_5 a x n g c) := by
  intro n
  induction n with
  | zero => intro n' g c _ _ f _; exact absurd f (Nat.not_lt_zero _)
  | succ n ih =>
    intro n' g c c0 c1 f1 f2
    cases n' with
    | zero => exact absurd f2 (Nat.not_lt_zero _)
    | succ n' =>
      have cc := kw_clampI c0
      rw [l_X8_digest_0_36_s, l_X3_fold_1_5_s]
      simp only [kf_lx]
      by_cases hc : c.toInt < 6
      · have z := kp_inc c (by omega)
        have bb : -1 ≤ (x.1 13 c.toNatClampNeg).toInt ∧ (x.1 13 c.toNatClampNeg).toInt ≤ 40 := hX 13 c.toNatClampNeg
        have A := kq_fold1a h hX a c c0 hc (l_X3_fold_1_5 a x n) (l_X8_digest_0_36 n') G (fun g => ih n' g _ (by omega) (by omega) (by omega) (by omega)) ((61 - (0 : Int32).toInt).toNat + 1) ((41 - (0 : Int32).toInt).toNat + 1)
        rw [if_pos (show c.toInt < (6 : Int32).toInt from hc), if_pos (show c.toInt < (6 : Int32).toInt from hc), show (kw_ul m 0 36 g).1 2 c.toNatClampNeg = m.1 2 c.toNatClampNeg from rfl, kq_mix, kq_mix]
        rcases h.1 c.toNatClampNeg (by omega) with ⟨g1, g2⟩ | ⟨g1, g2⟩
        · have e : x.1 13 c.toNatClampNeg = -1 := Int32.toInt_inj.mp (by rw [show (-1 : Int32).toInt = -1 from rfl]; omega)
          rw [if_pos g2, A _ 0 (by decide) (by decide) (by decide) (by decide), e]
        · rw [← g1, if_neg (show ¬ (x.1 13 c.toNatClampNeg).toInt < 0 by omega), A _ 0 (by decide) (by decide) (by decide) (by decide)]
      · rw [if_neg (show ¬ c.toInt < (6 : Int32).toInt from hc), if_neg (show ¬ c.toInt < (6 : Int32).toInt from hc)]
        exact hG g
theorem kq_kept {x m : kw_S} (hX : kw_I bX x) (hD : kr_D x m) : ∀ (n n' : Nat) (g : Int64) (k : Int32), 0 ≤ k.toInt → k.toInt ≤ 3 → (3 - k.toInt).toNat < n → (3 - k.toInt).toNat < n' → ∃ g' : Int64, l_X8_mixTown_0_58 n' k (kw_ul m 0 36 g) = kw_ul m 0 36 g' ∧ l_X7_digest_0_119 x n g k = f_X3_fold_2 x (f_X3_fold_1 x g') := by
  intro n
  induction n with
  | zero => intro n' g k _ _ f _; exact absurd f (Nat.not_lt_zero _)
  | succ n ih =>
    intro n' g k k0 k1 f1 f2
    cases n' with
    | zero => exact absurd f2 (Nat.not_lt_zero _)
    | succ n' =>
      have ck := kw_clampI k0
      rw [l_X8_mixTown_0_58_s, l_X7_digest_0_119_s]
      simp only [kf_lx]
      by_cases hk : k.toInt < 3
      · have z := kp_inc k (by omega)
        have bb : -1 ≤ (x.1 21 k.toNatClampNeg).toInt ∧ (x.1 21 k.toNatClampNeg).toInt ≤ 40 := hX 21 k.toNatClampNeg
        rw [if_pos (show k.toInt < (3 : Int32).toInt from hk), if_pos (show k.toInt < (3 : Int32).toInt from hk), kp_size5, if_pos (show 0 ≤ k.toInt ∧ k.toInt < 3 from ⟨k0, hk⟩), show (kw_ul m 0 36 g).1 16 k.toNatClampNeg = m.1 16 k.toNatClampNeg from rfl, kq_mix, kq_mix]
        rcases hD.2.2.2.2.2.2 k.toNatClampNeg (by omega) with ⟨b1, b2⟩ | ⟨b1, b2, b3, -⟩
        · have e : x.1 21 k.toNatClampNeg = -1 := Int32.toInt_inj.mp (by rw [show (-1 : Int32).toInt = -1 from rfl]; omega)
          rw [b2, if_neg (show ¬ (0 : Int32).toInt = (1 : Int32).toInt by decide), e]
          exact ih n' _ _ (by omega) (by omega) (by omega) (by omega)
        · have ei : ((411 : Int32) * k + 410).toNatClampNeg = 411 * k.toNatClampNeg + 410 := kp_idx 411 411 k 410 rfl (by decide) k0 (by omega) (by decide) (by decide)
          have ev : (kw_ul m 0 36 g).1 17 ((411 : Int32) * k + 410).toNatClampNeg = x.1 21 k.toNatClampNeg := by rw [ei]; exact b3
          rw [b1, if_pos rfl, ev]
          exact ih n' _ _ (by omega) (by omega) (by omega) (by omega)
      · rw [if_neg (show ¬ k.toInt < (3 : Int32).toInt from hk), if_neg (show ¬ k.toInt < (3 : Int32).toInt from hk)]
        exact ⟨g, rfl, rfl⟩
theorem kq_traits {x m : kw_S} (hL : kr_L x m) (hD : kr_D x m) (i : Int32) (i0 : 0 ≤ i.toInt) (i1 : i.toInt < (x.1 17 5).toInt) (k63 : Int64 → Int32 → Int64) (k18 : Int32 → kw_S → kw_S) (hk : ∀ g : Int64, ∃ g' : Int64, k18 (i + Int32.ofInt 1) (kw_ul m 0 36 g) = kw_ul m 0 36 g' ∧ k63 g (i + Int32.ofInt 1) = f_X3_fold_2 x (f_X3_fold_1 x g')) : ∀ (n n' : Nat) (g : Int64) (w : Int32), 0 ≤ w.toInt → w.toInt ≤ 7 → (7 - w.toInt).toNat < n → (7 - w.toInt).toNat < n' → ∃ g' : Int64, l_X8_mixTown_0_28 k18 i n' w (kw_ul m 0 36 g) = kw_ul m 0 36 g' ∧ l_X7_digest_0_80 k63 i x n g w = f_X3_fold_2 x (f_X3_fold_1 x g') := by
  have q6 : (6 : Int32).toInt = 6 := rfl
  intro n
  induction n with
  | zero => intro n' g w _ _ f _; exact absurd f (Nat.not_lt_zero _)
  | succ n ih =>
    intro n' g w w0 w1 f1 f2
    cases n' with
    | zero => exact absurd f2 (Nat.not_lt_zero _)
    | succ n' =>
      rw [l_X8_mixTown_0_28_s, l_X7_digest_0_80_s]
      simp only [kf_lx]
      by_cases hw : w.toInt < 7
      · have z := kp_inc w (by omega)
        have hL' : kr_L x (kw_ul m 0 36 g) := hL
        have hD' : kr_D x (kw_ul m 0 36 g) := hD
        rw [if_neg (show ¬ (6 : Int32).toInt < w.toInt by omega), if_neg (show ¬ (6 : Int32).toInt < w.toInt by omega), ← kt_trait hL' hD' i w i0 i1, kq_mix]
        exact ih n' _ _ (by omega) (by omega) (by omega) (by omega)
      · rw [if_pos (show (6 : Int32).toInt < w.toInt by omega), if_pos (show (6 : Int32).toInt < w.toInt by omega)]
        exact hk g
theorem kq_lines {x m : kw_S} (hX : kw_I bX x) (hL : kr_L x m) (hD : kr_D x m) : ∀ (n n' : Nat) (g : Int64) (i : Int32), 0 ≤ i.toInt → i.toInt ≤ (x.1 17 5).toInt → (6 - i.toInt).toNat < n → (6 - i.toInt).toNat < n' → ∃ g' : Int64, l_X8_mixTown_0_18 n' i (kw_ul m 0 36 g) = kw_ul m 0 36 g' ∧ l_X7_digest_0_63 x n g i = f_X3_fold_2 x (f_X3_fold_1 x g') := by
  have l2 := hL.2.1
  intro n
  induction n with
  | zero => intro n' g i _ _ f _; exact absurd f (Nat.not_lt_zero _)
  | succ n ih =>
    intro n' g i i0 i1 f1 f2
    cases n' with
    | zero => exact absurd f2 (Nat.not_lt_zero _)
    | succ n' =>
      rw [l_X8_mixTown_0_18_s, l_X7_digest_0_63_s, show (kw_ul m 0 36 g).1 0 10 = x.1 17 5 from hL.1.symm]
      by_cases hi : i.toInt < (x.1 17 5).toInt
      · have z := kp_inc i (by omega)
        rw [if_pos hi, if_pos hi]
        exact kq_traits hL hD i i0 hi _ _ (fun g => ih n' g _ (by omega) (by omega) (by omega) (by omega)) _ _ g 0 (by decide) (by decide) (by decide) (by decide)
      · rw [if_neg hi, if_neg hi]
        exact kq_kept hX hD _ _ g 0 (by decide) (by decide) (by decide) (by decide)
theorem kq_counts {x m : kw_S} (hX : kw_I bX x) (hT : kr_T x m) (hL : kr_L x m) (hD : kr_D x m) (hW : kr_W x m) : ∀ (n n' : Nat) (g : Int64) (w : Int32), 0 ≤ w.toInt → w.toInt ≤ 10 → (10 - w.toInt).toNat < n → (10 - w.toInt).toNat < n' → (l_X8_digest_0_9 n' w (kw_ul m 0 36 g)).1 = l_X7_digest_0_6 x n g w := by
  have q9 : (9 : Int32).toInt = 9 := rfl
  have l2 := hL.2.1
  intro n
  induction n with
  | zero => intro n' g w _ _ f _; exact absurd f (Nat.not_lt_zero _)
  | succ n ih =>
    intro n' g w w0 w1 f1 f2
    cases n' with
    | zero => exact absurd f2 (Nat.not_lt_zero _)
    | succ n' =>
      rw [l_X8_digest_0_9_s, l_X7_digest_0_6_s]
      simp only [kf_lx]
      by_cases hw : w.toInt < 10
      · have z := kp_inc w (by omega)
        have hT' : kr_T x (kw_ul m 0 36 g) := hT
        have hL' : kr_L x (kw_ul m 0 36 g) := hL
        have hD' : kr_D x (kw_ul m 0 36 g) := hD
        have hW' : kr_W x (kw_ul m 0 36 g) := hW
        rw [if_neg (show ¬ (9 : Int32).toInt < w.toInt by omega), if_neg (show ¬ (9 : Int32).toInt < w.toInt by omega), ← kt_count hT' hL' hD' hW' w w0 (by omega), kq_mix]
        exact ih n' _ _ (by omega) (by omega) (by omega) (by omega)
      · rw [if_pos (show (9 : Int32).toInt < w.toInt by omega), if_pos (show (9 : Int32).toInt < w.toInt by omega), f_X8_mixTown_0_u]
        simp only [kf_lx]
        rw [show (kw_ul m 0 36 g).1 0 23 = x.1 4 6 from hD.2.2.2.2.1.2.1, kq_mix, show ∀ v : Int64, (kw_ul m 0 36 v).1 0 24 = x.1 4 7 from fun _ => hD.2.2.2.2.1.2.2.1, kq_mix]
        obtain ⟨g', a1, a2⟩ := kq_lines hX hL hD ((7 - (0 : Int32).toInt).toNat + 1) ((7 - (0 : Int32).toInt).toNat + 1) (31 * (31 * g + (x.1 4 6).toInt64) + (x.1 4 7).toInt64) 0 (by decide) (by rw [kp_q0]; exact l2.1) (by decide) (by decide)
        rw [a1, a2, f_X3_fold_2_u, f_X3_fold_1_u]
        have A2 := fun g : Int64 => kq_fold2 hT hX (l_X3_fold_1_5 g' x ((10 - (0 : Int32).toInt).toNat + 1) g' 0) (fun g => (g, kw_ul m 0 36 g)) (fun g => by rw [kp_ul2, if_pos ⟨rfl, rfl⟩]) ((10 - (0 : Int32).toInt).toNat + 1) ((5 - (0 : Int32).toInt).toNat + 1) g 0 (by decide) (by decide) (by decide) (by decide)
        have A1 := kq_fold1 hW hX g' (fun g => l_X8_digest_0_101 ((5 - (0 : Int32).toInt).toNat + 1) 0 (kw_ul m 0 36 g)) (fun g => rfl) ((10 - (0 : Int32).toInt).toNat + 1) ((7 - (0 : Int32).toInt).toNat + 1) g' 0 (by decide) (by decide) (by decide) (by decide)
        rw [A1]
        show (l_X8_digest_0_101 ((5 - (0 : Int32).toInt).toNat + 1) 0 (kw_ul m 0 36 (l_X3_fold_1_5 g' x ((10 - (0 : Int32).toInt).toNat + 1) g' 0))).1 = _
        rw [A2]
theorem kr_digest {x m t : kw_S} {r q : Int64} (hX : kw_I bX x) (hT : kr_T x m) (hL : kr_L x m) (hD : kr_D x m) (hW : kr_W x m) (e1 : r = f_X7_digest_0 x) (e2 : (q, t) = f_X8_digest_0 m) : r = q := by
  rw [f_X7_digest_0_u] at e1
  rw [f_X8_digest_0_u] at e2
  have h := kq_counts hX hT hL hD hW ((11 - (0 : Int32).toInt).toNat + 1) ((11 - (0 : Int32).toInt).toNat + 1) 17 0 (by decide) (by decide) (by decide) (by decide)
  rw [← e2, ← e1] at h
  exact h.symm
end
section
/-! ===== shares in lowest terms: Euclid's steps on both sides ===== -/
def kq_E : Nat → Int64 → Int64 → Option Int64
  | 0, a, b => if b.toInt = 0 then some a else none
  | t + 1, a, b => if b.toInt = 0 then some a else kq_E t b (a - a / b * b)
theorem kq_E0 (a b : Int64) : kq_E 0 a b = if b.toInt = 0 then some a else none := rfl
theorem kq_ES (t : Nat) (a b : Int64) : kq_E (t + 1) a b = if b.toInt = 0 then some a else kq_E t b (a - a / b * b) := rfl
theorem kq_E1 : ∀ (t : Nat) (a b d : Int64), kq_E t a b = some d → kq_E (t + 1) a b = some d
  | 0, a, b, d, h => by
    rw [kq_E0] at h
    rw [kq_ES]
    by_cases e : b.toInt = 0
    · rw [if_pos e] at h ⊢; exact h
    · rw [if_neg e] at h; cases h
  | t + 1, a, b, d, h => by
    rw [kq_ES] at h
    rw [kq_ES]
    by_cases e : b.toInt = 0
    · rw [if_pos e] at h ⊢; exact h
    · rw [if_neg e] at h ⊢; exact kq_E1 t _ _ d h
theorem kq_Ele {t : Nat} {a b d : Int64} (h : kq_E t a b = some d) : ∀ t' : Nat, t ≤ t' → kq_E t' a b = some d := by
  intro t'
  induction t' with
  | zero => intro ht; rw [show t = 0 by omega] at h; exact h
  | succ n ih =>
    intro ht
    by_cases e : t = n + 1
    · rw [← e]; exact h
    · exact kq_E1 n a b d (ih (by omega))
theorem kq_rem (a b : Int64) (A B : Nat) (ha : a.toInt = A) (hb : b.toInt = B) : (a - a / b * b).toInt = ((A % B : Nat) : Int) := by
  rw [kw_lremE, ha, hb]
  rfl
theorem kq_Egcd : ∀ (t : Nat) (a b d : Int64) (A B : Nat), a.toInt = A → b.toInt = B → kq_E t a b = some d → d.toInt = ((Nat.gcd A B : Nat) : Int)
  | 0, a, b, d, A, B, ha, hb, h => by
    rw [kq_E0] at h
    by_cases e : b.toInt = 0
    · rw [if_pos e] at h
      cases h
      rw [show B = 0 by omega, Nat.gcd_zero_right]; exact ha
    · rw [if_neg e] at h; cases h
  | t + 1, a, b, d, A, B, ha, hb, h => by
    rw [kq_ES] at h
    by_cases e : b.toInt = 0
    · rw [if_pos e] at h
      cases h
      rw [show B = 0 by omega, Nat.gcd_zero_right]; exact ha
    · rw [if_neg e] at h
      have ih := kq_Egcd t b (a - a / b * b) d B (A % B) hb (kq_rem a b A B ha hb) h
      rw [ih, Nat.gcd_comm A B, Nat.gcd_rec B A, Nat.gcd_comm (A % B) B]
theorem kq_Eend : ∀ (s : Nat) (a b : Int64) (A B : Nat), a.toInt = A → b.toInt = B → B < 2 ^ s → ∃ d : Int64, kq_E (2 * s + 1) a b = some d
  | 0, a, b, A, B, ha, hb, h => by
    have hB : B = 0 := by rw [Nat.pow_zero] at h; omega
    refine ⟨a, ?_⟩
    rw [show 2 * 0 + 1 = 0 + 1 from rfl, kq_ES, if_pos (by omega)]
  | s + 1, a, b, A, B, ha, hb, h => by
    rw [show 2 * (s + 1) + 1 = (2 * s + 1) + 1 + 1 by omega, kq_ES]
    by_cases e : b.toInt = 0
    · exact ⟨a, by rw [if_pos e]⟩
    · have hr := kq_rem a b A B ha hb
      have B0 : 0 < B := by omega
      have r1 : A % B < B := Nat.mod_lt A B0
      rw [if_neg e, kq_ES]
      by_cases e2 : (a - a / b * b).toInt = 0
      · exact ⟨b, by rw [if_pos e2]⟩
      · rw [if_neg e2]
        have r0 : 0 < A % B := by omega
        have q1 := Nat.div_add_mod B (A % B)
        have q2 := Nat.mod_lt B r0
        have q3 : 0 < B / (A % B) := Nat.div_pos (by omega) r0
        have q4 : A % B ≤ A % B * (B / (A % B)) := Nat.le_mul_of_pos_right _ q3
        have p2 : 2 ^ (s + 1) = 2 * 2 ^ s := by rw [Nat.pow_succ]; omega
        exact kq_Eend s _ _ (A % B) (B % (A % B)) hr (kq_rem b _ B (A % B) hb hr) (by omega)
theorem kq_Eend2 : ∀ (n : Nat) (a b : Int64) (A B : Nat), a.toInt = A → b.toInt = B → B ≤ n → ∃ d : Int64, kq_E n a b = some d
  | 0, a, b, A, B, ha, hb, h => ⟨a, by rw [kq_E0, if_pos (by omega)]⟩
  | n + 1, a, b, A, B, ha, hb, h => by
    rw [kq_ES]
    by_cases e : b.toInt = 0
    · exact ⟨a, by rw [if_pos e]⟩
    · have r1 : A % B < B := Nat.mod_lt A (by omega)
      rw [if_neg e]
      exact kq_Eend2 n _ _ B (A % B) hb (kq_rem a b A B ha hb) (by omega)
theorem kq_EX (a0 a2 : Int64) (S : kw_S) : ∀ (t n : Nat) (a b d : Int64) (k : Int32), kq_E t a b = some d → t < n → 0 ≤ k.toInt → k.toInt + t ≤ 100 → l_X4_commonDivisor_9 a0 a2 S n a b k = d := by
  have q100 : (100 : Int32).toInt = 100 := rfl
  have z0 : (0 : Int64).toInt = 0 := rfl
  intro t
  induction t with
  | zero =>
    intro n a b d k h hn k0 k1
    cases n with
    | zero => exact absurd hn (Nat.not_lt_zero _)
    | succ n =>
      rw [kq_E0] at h
      have lc := (kw_lcmpI b 0).2.2
      by_cases e : b.toInt = 0
      · rw [if_pos e] at h
        cases h
        rw [l_X4_commonDivisor_9_s]
        simp only [kf_lx]
        rw [if_pos (lc.mpr (by rw [e, z0]))]
        by_cases hk : k.toInt < (100 : Int32).toInt
        · rw [if_pos hk]
        · rw [if_neg hk]
      · rw [if_neg e] at h; cases h
  | succ t ih =>
    intro n a b d k h hn k0 k1
    cases n with
    | zero => exact absurd hn (Nat.not_lt_zero _)
    | succ n =>
      rw [kq_ES] at h
      have lc := (kw_lcmpI b 0).2.2
      rw [l_X4_commonDivisor_9_s]
      simp only [kf_lx]
      rw [if_pos (show k.toInt < (100 : Int32).toInt by omega)]
      by_cases e : b.toInt = 0
      · rw [if_pos e] at h
        cases h
        rw [if_pos (lc.mpr (by rw [e, z0]))]
      · rw [if_neg e] at h
        have z := kp_inc k (by omega)
        rw [if_neg (fun q => e (by have := lc.mp q; rw [z0] at this; exact this))]
        exact ih n _ _ d _ h (by omega) (by omega) (by omega)
theorem kq_EM (up low : Int64) (S : kw_S) : ∀ (t n : Nat) (a b d : Int64), kq_E t a b = some d → t < n → l_X8_part_0_17 up low S n a b = (1, kw_ul (kw_ul S 0 3 (up / d)) 0 4 (low / d)) := by
  have z0 : (0 : Int64).toInt = 0 := rfl
  intro t
  induction t with
  | zero =>
    intro n a b d h hn
    cases n with
    | zero => exact absurd hn (Nat.not_lt_zero _)
    | succ n =>
      rw [kq_E0] at h
      have lc := (kw_lcmpI b 0).2.2
      by_cases e : b.toInt = 0
      · rw [if_pos e] at h
        cases h
        rw [l_X8_part_0_17_s]
        simp only [kf_lx]
        rw [if_pos (lc.mpr (by rw [e, z0]))]
      · rw [if_neg e] at h; cases h
  | succ t ih =>
    intro n a b d h hn
    cases n with
    | zero => exact absurd hn (Nat.not_lt_zero _)
    | succ n =>
      rw [kq_ES] at h
      have lc := (kw_lcmpI b 0).2.2
      rw [l_X8_part_0_17_s]
      simp only [kf_lx]
      by_cases e : b.toInt = 0
      · rw [if_pos e] at h
        cases h
        rw [if_pos (lc.mpr (by rw [e, z0]))]
      · rw [if_neg e] at h
        rw [if_neg (fun q => e (by have := lc.mp q; rw [z0] at this; exact this))]
        exact ih n _ _ d h (by omega)
theorem kq_negL (a : Int64) (h : -4611686018427387904 ≤ a.toInt) (h1 : a.toInt ≤ 4611686018427387904) : (-a).toInt = -a.toInt := by
  rw [Int64.toInt_neg, kw_bmL]; omega
theorem kq_red (u d : Int64) (g : Nat) (w : Int) (hd : d.toInt = (g : Int)) (g0 : 0 < g) (hu : u.toInt = (g : Int) * w) (b0 : -4611686018427387904 ≤ u.toInt) (b1 : u.toInt ≤ 4611686018427387904) : (u / d).toInt = w := by
  have hg : (g : Int) ≠ 0 := by omega
  have e : u.toInt.tdiv d.toInt = w := by rw [hu, hd, Int.mul_tdiv_cancel_left w hg]
  have n1 : u.toInt.natAbs = g * w.natAbs := by rw [hu, Int.natAbs_mul, Int.natAbs_natCast]
  have n2 : w.natAbs ≤ g * w.natAbs := Nat.le_mul_of_pos_left _ g0
  rw [Int64.toInt_div, e, kw_bmL]
  omega
theorem kq_oneX (x : kw_S) (u v : Int64) (U : Int) (V k : Nat) (w : Int) (z : Nat) (hw : U = ((Nat.gcd U.natAbs V : Nat) : Int) * w) (hz : V = Nat.gcd U.natAbs V * z) (hu : u.toInt = (k : Int) * U) (hv : v.toInt = ((k * V : Nat) : Int)) (k0 : 0 < k) (V0 : 0 < V) (b0 : -4611686018427387904 ≤ u.toInt) (b1 : u.toInt ≤ 4611686018427387904) (bv : k * V < 2 ^ 40) : ∃ a b : Int64, a.toInt = w ∧ b.toInt = (z : Int) ∧ f_X4_tellShare_8 x u v = kw_ul (kw_ul x 8 3 a) 8 4 b := by
  have ea : (if 0 < u then u else -u).toInt = ((k * U.natAbs : Nat) : Int) := by
    have en : u.toInt.natAbs = k * U.natAbs := by rw [hu, Int.natAbs_mul, Int.natAbs_natCast]
    by_cases h : 0 < u
    · have h' : 0 < u.toInt := Int64.lt_iff_toInt_lt.mp h
      rw [if_pos h]; omega
    · have h' : ¬ 0 < u.toInt := fun q => h (Int64.lt_iff_toInt_lt.mpr q)
      rw [if_neg h, kq_negL u b0 b1]; omega
  obtain ⟨d, hd⟩ := kq_Eend 40 _ v _ _ ea hv bv
  have gd := kq_Egcd _ _ _ d _ _ ea hv hd
  rw [Nat.gcd_mul_left] at gd
  have cd := kq_EX (if 0 < u then u else -u) v x 81 ((101 - (0 : Int32).toInt).toNat + 1) _ _ d 0 hd (by decide) (by decide) (by decide)
  have G0 : 0 < Nat.gcd U.natAbs V := Nat.gcd_pos_of_pos_right _ V0
  have kg : 0 < k * Nat.gcd U.natAbs V := Nat.mul_pos k0 G0
  generalize hG : Nat.gcd U.natAbs V = G at *
  have lc := (kw_lcmpI d 1).1
  have o1 : (1 : Int64).toInt = 1 := rfl
  rw [f_X4_tellShare_8_u]
  simp only [kf_lx]
  rw [f_X4_commonDivisor_u, cd, if_neg (fun q => absurd (lc.mp q) (by rw [gd, o1]; omega))]
  refine ⟨u / d, v / d, kq_red u d (k * G) w gd kg ?_ b0 b1, ?_, rfl⟩
  · rw [hu, hw, Int.natCast_mul, Int.mul_assoc]
  · refine kq_red v d (k * G) z gd kg ?_ (by omega) (by omega)
    rw [hv, hz, ← Int.natCast_mul, Nat.mul_assoc]
theorem kq_oneM (m : kw_S) (u v : Int64) (U : Int) (V k : Nat) (w : Int) (z : Nat) (hw : U = ((Nat.gcd U.natAbs V : Nat) : Int) * w) (hz : V = Nat.gcd U.natAbs V * z) (hu : u.toInt = (k : Int) * U) (hv : v.toInt = ((k * V : Nat) : Int)) (k0 : 0 < k) (V0 : 0 < V) (b0 : -4611686018427387904 ≤ u.toInt) (b1 : u.toInt ≤ 4611686018427387904) (bv : k * V < 2 ^ 40) : ∃ a b : Int64, a.toInt = w ∧ b.toInt = (z : Int) ∧ f_X8_part_0 m u v = (1, kw_ul (kw_ul m 0 3 a) 0 4 b) := by
  have z0 : (0 : Int64).toInt = 0 := rfl
  have lc := (kw_lcmpI u 0).1
  rw [z0] at lc
  have en : u.toInt.natAbs = k * U.natAbs := by rw [hu, Int.natAbs_mul, Int.natAbs_natCast]
  have P : ∀ y : Int64, y.toInt = ((k * U.natAbs : Nat) : Int) → ∃ a b : Int64, a.toInt = w ∧ b.toInt = (z : Int) ∧ l_X8_part_0_17 u v m (((if 0 ≤ v.toInt then v.toInt else -v.toInt)).toNat + 1) y v = (1, kw_ul (kw_ul m 0 3 a) 0 4 b) := by
    intro y ea
    obtain ⟨d, hd⟩ := kq_Eend2 (k * V) y v _ _ ea hv (Nat.le_refl _)
    have gd := kq_Egcd _ _ _ d _ _ ea hv hd
    rw [Nat.gcd_mul_left] at gd
    have cd := kq_EM u v m (k * V) (((if 0 ≤ v.toInt then v.toInt else -v.toInt)).toNat + 1) y v d hd (by rw [if_pos (by omega)]; omega)
    have G0 : 0 < Nat.gcd U.natAbs V := Nat.gcd_pos_of_pos_right _ V0
    have kg : 0 < k * Nat.gcd U.natAbs V := Nat.mul_pos k0 G0
    generalize hG : Nat.gcd U.natAbs V = G at *
    refine ⟨u / d, v / d, kq_red u d (k * G) w gd kg ?_ b0 b1, ?_, cd⟩
    · rw [hu, hw, Int.natCast_mul, Int.mul_assoc]
    · refine kq_red v d (k * G) z gd kg ?_ (by omega) (by omega)
      rw [hv, hz, ← Int.natCast_mul, Nat.mul_assoc]
  rw [f_X8_part_0_u]
  simp only [kf_lx]
  by_cases h : (lg_cmp u 0).toInt < 0
  · rw [if_pos h]
    exact P _ (by rw [kq_negL u b0 b1]; have := lc.mp h; omega)
  · rw [if_neg h]
    exact P _ (by have : ¬ u.toInt < 0 := fun q => h (lc.mpr q); omega)
/-- the same share, told alike -/
theorem kq_share (x m : kw_S) (u v u' v' : Int64) (U : Int) (V k k' : Nat) (hu : u.toInt = (k : Int) * U) (hv : v.toInt = ((k * V : Nat) : Int)) (hu' : u'.toInt = (k' : Int) * U) (hv' : v'.toInt = ((k' * V : Nat) : Int)) (k0 : 0 < k) (k0' : 0 < k') (V0 : 0 < V) (b0 : -4611686018427387904 ≤ u.toInt) (b1 : u.toInt ≤ 4611686018427387904) (bv : k * V < 2 ^ 40) (b0' : -4611686018427387904 ≤ u'.toInt) (b1' : u'.toInt ≤ 4611686018427387904) (bv' : k' * V < 2 ^ 40) : (f_X8_part_0 m u' v').1 = 1 ∧ kq x m (f_X4_tellShare_8 x u v) (f_X8_part_0 m u' v').2 := by
  obtain ⟨w, hw⟩ : ∃ w : Int, U = ((Nat.gcd U.natAbs V : Nat) : Int) * w := by
    obtain ⟨c, hc⟩ := Nat.gcd_dvd_left U.natAbs V
    by_cases h : 0 ≤ U
    · refine ⟨(c : Int), ?_⟩
      rw [← Int.natCast_mul, ← hc]; omega
    · refine ⟨-(c : Int), ?_⟩
      rw [Int.mul_neg, ← Int.natCast_mul, ← hc]; omega
  obtain ⟨z, hz⟩ := Nat.gcd_dvd_right U.natAbs V
  obtain ⟨a, b, a1, a2, a3⟩ := kq_oneX x u v U V k w z hw hz hu hv k0 V0 b0 b1 bv
  obtain ⟨c, d, c1, c2, c3⟩ := kq_oneM m u' v' U V k' w z hw hz hu' hv' k0' V0 b0' b1' bv'
  have e1 : a = c := Int64.toInt_inj.mp (a1.trans c1.symm)
  have e2 : b = d := Int64.toInt_inj.mp (a2.trans c2.symm)
  rw [a3, c3, e1, e2]
  exact ⟨rfl, kq_ul c d⟩
end
section
/-! ===== gusts: what is foreseen, weights, odds ===== -/
noncomputable def kq_C (x m : kw_S) (a k : Nat) : Int32 := f_X8_milesBy_0 m (x.1 (29 + a) k) (f_X8_windAt_0 m (m.1 0 22 + Int32.ofNat k))
noncomputable def kq_G (x m : kw_S) (a k : Nat) : Int32 := f_X8_milesBy_0 m (x.1 (29 + a) k) (f_X8_windAt_0 m (m.1 0 22 + Int32.ofNat k) + 1)
theorem kq_CGb {x m : kw_S} (hL : kr_L x m) (hD : kr_D x m) (a k : Nat) (hk : k < 10) (hv : 0 ≤ (x.1 (29 + a) k).toInt ∧ (x.1 (29 + a) k).toInt ≤ 63) : (-180 ≤ (kq_C x m a k).toInt ∧ (kq_C x m a k).toInt ≤ 180) ∧ (-180 ≤ (kq_G x m a k).toInt ∧ (kq_G x m a k).toInt ≤ 180) := by
  have n1 := (kd_now hL hD).1
  have e := kz_ofNatI k (by omega)
  have wb : 0 ≤ (f_X8_windAt_0 m (m.1 0 22 + Int32.ofNat k)).toInt ∧ (f_X8_windAt_0 m (m.1 0 22 + Int32.ofNat k)).toInt ≤ 5 := by
    rw [← kd_windAhead hL hD (Int32.ofNat k) (by omega) (by omega), f_X5_windAhead_4_u]
    simp only [kf_lx]
    exact kh_wind hL _ (by rw [kw_addI, e]; omega)
  unfold kq_C kq_G
  generalize f_X8_windAt_0 m (m.1 0 22 + Int32.ofNat k) = w at *
  have z := kp_add1 w (by omega)
  rw [← kt_miles hL, ← kt_miles hL]
  exact ⟨kg_mb hL w wb.1 (by omega) _ hv.1 hv.2, kg_mb hL (w + 1) (by omega) (by omega) _ hv.1 hv.2⟩
theorem kq_fore {x m : kw_S} (hb : ∀ j : Nat, -1 ≤ (x.1 13 j).toInt ∧ (x.1 13 j).toInt ≤ 40) (hL : kr_L x m) (hD : kr_D x m) (a : Int32) (a0 : 0 ≤ a.toInt) (a6 : a.toInt < 6) (n0 : 0 ≤ (x.1 13 a.toNatClampNeg).toInt) (n6 : (x.1 13 a.toNatClampNeg).toInt ≤ 6) : kw_F [10, 11] x (f_X7_foresee_0 x a) ∧ ∀ k : Nat, (k : Int) < (x.1 13 a.toNatClampNeg).toInt → (f_X7_foresee_0 x a).1 10 k = kq_C x m a.toNatClampNeg k ∧ (f_X7_foresee_0 x a).1 11 k = kq_G x m a.toNatClampNeg k := by
  have ca := kw_clampI a0
  have L : ∀ (n : Nat) (y : Int32) (S : kw_S), 0 ≤ y.toInt → y.toInt ≤ (x.1 13 a.toNatClampNeg).toInt → (7 - y.toInt).toNat < n → kw_F [10, 11] x S → (∀ k : Nat, (k : Int) < y.toInt → S.1 10 k = kq_C x m a.toNatClampNeg k ∧ S.1 11 k = kq_G x m a.toNatClampNeg k) → kw_F [10, 11] x (l_X7_foresee_0_2 a n y S) ∧ ∀ k : Nat, (k : Int) < (x.1 13 a.toNatClampNeg).toInt → (l_X7_foresee_0_2 a n y S).1 10 k = kq_C x m a.toNatClampNeg k ∧ (l_X7_foresee_0_2 a n y S).1 11 k = kq_G x m a.toNatClampNeg k := by
    intro n
    induction n with
    | zero => intro y S _ _ h; exact absurd h (Nat.not_lt_zero _)
    | succ n ih =>
      intro y S y0 y1 hf F hk
      have cy := kw_clampI y0
      have f13 : S.1 13 = x.1 13 := (F 13 (by decide)).1
      have lay : kd_lay x S := kd_lay.of F (by decide)
      rw [l_X7_foresee_0_2_s, kp_size1, if_pos ⟨a0, a6⟩, f13]
      simp only [kf_lx]
      by_cases hy : y.toInt < (x.1 13 a.toNatClampNeg).toInt
      · have z := kp_inc y (by omega)
        have c1 := kw_clampI (x := y + Int32.ofInt 1) (by omega)
        have ev : f_X3_valueAt_1 S a y = x.1 (29 + a.toNatClampNeg) y.toNatClampNeg := by
          rw [kp_value1 S (by rw [f13]; exact hb), f13, if_pos ⟨a0, a6, y0, hy⟩, (F (29 + a.toNatClampNeg) (by simp; omega)).1]
        have ewS : ∀ S' : kw_S, kw_F [10, 11] x S' → f_X5_windAhead_4 S' y = f_X8_windAt_0 m (m.1 0 22 + Int32.ofNat y.toNatClampNeg) := fun S' F' => by
          rw [kd_ofNat y y0, ← kd_windAhead hL hD y y0 (by omega), f_X5_windAhead_4_u, f_X5_windAhead_4_u]
          simp only [kf_lx]
          rw [(kd_lay.of F' (by decide)).windAt, (F' 4 (by decide)).1]
        have emS : ∀ (S' : kw_S) (s w : Int32), kw_F [10, 11] x S' → f_X1_milesOf_17 S' s w = f_X8_milesBy_0 m s w := fun S' s w F' => by
          rw [(kd_lay.of F' (by decide)).miles, kt_miles hL]
        rw [if_pos hy, if_pos (show y.toInt < (6 : Int32).toInt by rw [show (6 : Int32).toInt = 6 from rfl]; omega), ev, ewS S F, emS S _ _ F]
        have F1 : ∀ v : Int32, kw_F [10, 11] x (kw_ui S 10 y.toNatClampNeg v) := fun v => kw_F_ui F (by decide)
        rw [ewS _ (F1 _), emS _ _ _ (F1 _)]
        refine ih _ _ (by omega) (by omega) (by omega) (kw_F_ui (F1 _) (by decide)) (fun k hk2 => ?_)
        rw [kq_off _ 11 _ _ 10 (by decide), kq_at, kq_at, kq_off _ 10 _ _ 11 (by decide)]
        by_cases e : k = y.toNatClampNeg
        · rw [if_pos e, if_pos e, e]
          exact ⟨rfl, rfl⟩
        · rw [if_neg e, if_neg e]
          exact hk k (by omega)
      · rw [if_neg hy]
        exact ⟨F, fun k hk2 => hk k (by omega)⟩
  rw [f_X7_foresee_0_u]
  exact L _ _ _ (by decide) (by rw [kp_q0]; exact n0) (by decide) kw_F.rf (fun k hk => by rw [kp_q0] at hk; omega)
theorem kq_gm {x m S : kw_S} (hb : ∀ j : Nat, -1 ≤ (x.1 13 j).toInt ∧ (x.1 13 j).toInt ≤ 40) (hW : kr_W x m) (hD : kr_D x m) (a : Int32) (a0 : 0 ≤ a.toInt) (a6 : a.toInt < 6) (n0 : 0 ≤ (x.1 13 a.toNatClampNeg).toInt) (n6 : (x.1 13 a.toNatClampNeg).toInt ≤ 6) (g : m.1 2 a.toNatClampNeg = x.1 13 a.toNatClampNeg) (F : kw_F [10, 11] x S) (hS : ∀ k : Nat, (k : Int) < (x.1 13 a.toNatClampNeg).toInt → S.1 10 k = kq_C x m a.toNatClampNeg k ∧ S.1 11 k = kq_G x m a.toNatClampNeg k) (u : Int32) : f_X7_milesByGusts_0 S (x.1 13 a.toNatClampNeg) u = f_X8_gustMiles_0 m a u := by
  have L : ∀ (n n' : Nat) (c y : Int32), 0 ≤ y.toInt → y.toInt ≤ (x.1 13 a.toNatClampNeg).toInt → ((x.1 13 a.toNatClampNeg).toInt - y.toInt).toNat < n → ((x.1 13 a.toNatClampNeg).toInt - y.toInt).toNat < n' → l_X7_milesByGusts_0_11 (x.1 13 a.toNatClampNeg) u S n c y = l_X8_gustMiles_0_8 a u m n' c y := by
    intro n
    induction n with
    | zero => intro n' c y _ _ h _; exact absurd h (Nat.not_lt_zero _)
    | succ n ih =>
      intro n' c y y0 y1 f1 f2
      cases n' with
      | zero => exact absurd f2 (Nat.not_lt_zero _)
      | succ n' =>
        have cy := kw_clampI y0
        rw [l_X7_milesByGusts_0_11_s, l_X8_gustMiles_0_8_s, g]
        simp only [kf_lx]
        by_cases hy : y.toInt < (x.1 13 a.toNatClampNeg).toInt
        · have z := kp_inc y (by omega)
          have v2 := (kq_val hb hW a y a0 a6 y0 hy).2
          obtain ⟨s1, s2⟩ := hS y.toNatClampNeg (by omega)
          rw [if_pos hy, if_pos hy, v2]
          have b01 := kp_bit01 u y
          by_cases e : ((u >>> (y &&& 31)) &&& 1).toInt = 1
          · have e1 : (u >>> (y &&& 31)) &&& 1 = 1 := Int32.toInt_inj.mp e
            rw [if_pos (show ((u >>> (y &&& 31)) &&& 1).toInt = (1 : Int32).toInt from e), e1, s2]
            unfold kq_G
            rw [kd_ofNat y y0]
            exact ih n' _ _ (by omega) (by omega) (by omega) (by omega)
          · have e0 : (u >>> (y &&& 31)) &&& 1 = 0 := Int32.toInt_inj.mp (show ((u >>> (y &&& 31)) &&& 1).toInt = 0 by omega)
            rw [if_neg (show ¬ ((u >>> (y &&& 31)) &&& 1).toInt = (1 : Int32).toInt from e), e0, s1, Int32.add_zero]
            unfold kq_C
            rw [kd_ofNat y y0]
            exact ih n' _ _ (by omega) (by omega) (by omega) (by omega)
        · rw [if_neg hy, if_neg hy]
  rw [f_X7_milesByGusts_0_u, f_X8_gustMiles_0_u, (F 4 (by decide)).1, show m.1 0 23 = x.1 4 6 from hD.2.2.2.2.1.2.1]
  exact L _ _ _ _ (by decide) (by rw [kp_q0]; exact n0) (by omega) (by rw [kp_q0]; omega)
/-! weights -/
def kq_wt (P Q : Int64) (g : Nat) : Nat → Int64
  | 0 => 1
  | k + 1 => kq_wt P Q g k * (if g.testBit k = true then P else Q)
def kq_pw (v : Int64) : Nat → Int64
  | 0 => 1
  | n + 1 => kq_pw v n * v
def kq_cnt (g : Nat) : Nat → Nat
  | 0 => 0
  | k + 1 => kq_cnt g k + (if g.testBit k = true then 1 else 0)
theorem kq_wtS (P Q : Int64) (g k : Nat) : kq_wt P Q g (k + 1) = kq_wt P Q g k * (if g.testBit k = true then P else Q) := rfl
theorem kq_pwS (v : Int64) (n : Nat) : kq_pw v (n + 1) = kq_pw v n * v := rfl
theorem kq_cntS (g k : Nat) : kq_cnt g (k + 1) = kq_cnt g k + (if g.testBit k = true then 1 else 0) := rfl
theorem kq_wtpw (P Q : Int64) (g : Nat) : ∀ k : Nat, kq_cnt g k ≤ k ∧ kq_wt P Q g k = kq_pw P (kq_cnt g k) * kq_pw Q (k - kq_cnt g k)
  | 0 => ⟨Nat.le_refl 0, by show (1 : Int64) = 1 * 1; rw [Int64.mul_one]⟩
  | k + 1 => by
    obtain ⟨h1, h2⟩ := kq_wtpw P Q g k
    rw [kq_wtS, kq_cntS, h2]
    by_cases e : g.testBit k = true
    · rw [if_pos e, if_pos e, show k + 1 - (kq_cnt g k + 1) = k - kq_cnt g k by omega, kq_pwS]
      refine ⟨by omega, ?_⟩
      rw [Int64.mul_assoc, Int64.mul_comm (kq_pw Q (k - kq_cnt g k)) P, ← Int64.mul_assoc]
    · rw [if_neg e, if_neg e, Nat.add_zero, show k + 1 - kq_cnt g k = (k - kq_cnt g k) + 1 by omega, kq_pwS]
      refine ⟨by omega, ?_⟩
      rw [Int64.mul_assoc]
theorem kq_cnt6 : ∀ g : Nat, g < 64 → (f_X8_bits kz0 (Int32.ofNat g)).toInt = ((kq_cnt g 6 : Nat) : Int) := by decide +kernel
theorem kq_cntn : ∀ g : Nat, g < 64 → ∀ n : Nat, n < 7 → g < 2 ^ n → kq_cnt g 6 = kq_cnt g n := by decide +kernel
theorem kq_pw12 : ∀ n : Nat, n < 7 → (kq_pw 12 n).toInt = ((12 ^ n : Nat) : Int) := by decide +kernel
theorem kq_power (S : kw_S) (v : Int64) (n : Int32) (n0 : 0 ≤ n.toInt) (n1 : n.toInt ≤ 100) : f_X8_power S v n = kq_pw v n.toNatClampNeg ∧ f_X8_powerv12 S v n = kq_pw v n.toNatClampNeg := by
  have cn := kw_clampI n0
  have L : ∀ (f : Nat) (c : Int64) (y : Int32), 0 ≤ y.toInt → y.toInt ≤ n.toInt → (n.toInt - y.toInt).toNat < f → c = kq_pw v y.toNatClampNeg → l_X8_power_5 v n S f c y = kq_pw v n.toNatClampNeg ∧ l_X8_powerv12_5 v n S f c y = kq_pw v n.toNatClampNeg := by
    intro f
    induction f with
    | zero => intro c y _ _ h; exact absurd h (Nat.not_lt_zero _)
    | succ f ih =>
      intro c y y0 y1 hf hc
      have cy := kw_clampI y0
      rw [l_X8_power_5_s, l_X8_powerv12_5_s]
      simp only [kf_lx]
      by_cases hy : y.toInt < n.toInt
      · have z := kp_inc y (by omega)
        have c1 := kw_clampI (x := y + Int32.ofInt 1) (by omega)
        rw [if_pos hy, if_pos hy]
        exact ih _ _ (by omega) (by omega) (by omega) (by rw [show (y + Int32.ofInt 1).toNatClampNeg = y.toNatClampNeg + 1 by omega, kq_pwS, hc])
      · rw [if_neg hy, if_neg hy, hc, show y.toNatClampNeg = n.toNatClampNeg by omega]
        exact ⟨rfl, rfl⟩
  rw [f_X8_power_u, f_X8_powerv12_u]
  exact L _ _ _ (by decide) (by rw [kp_q0]; exact n0) (by omega) rfl
theorem kq_wX (S : kw_S) (h u p : Int32) (h0 : 0 ≤ h.toInt) (h6 : h.toInt ≤ 6) (u0 : 0 ≤ u.toInt) (u63 : u.toInt ≤ 63) : f_X7_weightOfGusts S h u p = kq_wt p.toInt64 (12 - p).toInt64 u.toNatClampNeg h.toNatClampNeg := by
  have ch := kw_clampI h0
  have L : ∀ (f : Nat) (c : Int64) (y : Int32), 0 ≤ y.toInt → y.toInt ≤ h.toInt → (h.toInt - y.toInt).toNat < f → c = kq_wt p.toInt64 (12 - p).toInt64 u.toNatClampNeg y.toNatClampNeg → l_X7_weightOfGusts_5 h u p S f c y = kq_wt p.toInt64 (12 - p).toInt64 u.toNatClampNeg h.toNatClampNeg := by
    intro f
    induction f with
    | zero => intro c y _ _ h; exact absurd h (Nat.not_lt_zero _)
    | succ f ih =>
      intro c y y0 y1 hf hc
      have cy := kw_clampI y0
      rw [l_X7_weightOfGusts_5_s]
      simp only [kf_lx]
      by_cases hy : y.toInt < h.toInt
      · have z := kp_inc y (by omega)
        have c1 := kw_clampI (x := y + Int32.ofInt 1) (by omega)
        have en : (y + Int32.ofInt 1).toNatClampNeg = y.toNatClampNeg + 1 := by omega
        have bt := kc_bit u y u0 u63 y0 (by omega)
        rw [if_pos hy]
        by_cases e : u.toNatClampNeg.testBit y.toNatClampNeg = true
        · rw [if_pos e] at bt
          rw [if_pos (show ((u >>> (y &&& 31)) &&& 1).toInt = (1 : Int32).toInt from bt)]
          exact ih _ _ (by omega) (by omega) (by omega) (by rw [en, kq_wtS, if_pos e, hc])
        · rw [if_neg e] at bt
          rw [if_neg (show ¬ ((u >>> (y &&& 31)) &&& 1).toInt = (1 : Int32).toInt by rw [bt]; decide)]
          exact ih _ _ (by omega) (by omega) (by omega) (by rw [en, kq_wtS, if_neg e, hc])
      · rw [if_neg hy, hc, show y.toNatClampNeg = h.toNatClampNeg by omega]
  rw [f_X7_weightOfGusts_u]
  exact L _ _ _ (by decide) (by rw [kp_q0]; exact h0) (by omega) rfl
theorem kq_wM (S : kw_S) (h u p : Int32) (h0 : 0 ≤ h.toInt) (h6 : h.toInt ≤ 6) (u0 : 0 ≤ u.toInt) (u1 : u.toInt < (2 ^ h.toNatClampNeg : Nat)) : f_X8_weightOf_0 S u h p = kq_wt p.toInt64 (12 - p).toInt64 u.toNatClampNeg h.toNatClampNeg := by
  have ch := kw_clampI h0
  have cu := kw_clampI u0
  have pw := kc_pow h.toNatClampNeg (by omega)
  obtain ⟨w1, w2⟩ := kq_wtpw p.toInt64 (12 - p).toInt64 u.toNatClampNeg h.toNatClampNeg
  have c6 := kq_cnt6 u.toNatClampNeg (by omega)
  have cn := kq_cntn u.toNatClampNeg (by omega) h.toNatClampNeg (by omega) (by omega)
  rw [kd_ofNat u u0, ← kd_bits0 S u, cn] at c6
  rw [f_X8_weightOf_0_u]
  simp only [kf_lx]
  generalize f_X8_bits S u = b at *
  have cb := kw_clampI (x := b) (by omega)
  have es : (h - b).toInt = h.toInt - b.toInt := by rw [kw_subI]; omega
  have cs := kw_clampI (x := h - b) (by omega)
  rw [(kq_power S _ b (by omega) (by omega)).1, (kq_power S _ (h - b) (by omega) (by omega)).1, w2, show b.toNatClampNeg = kq_cnt u.toNatClampNeg h.toNatClampNeg by omega, show (h - b).toNatClampNeg = h.toNatClampNeg - kq_cnt u.toNatClampNeg h.toNatClampNeg by omega]
/-! as whole numbers -/
def kq_wi (P : Int) (g : Nat) : Nat → Int
  | 0 => 1
  | k + 1 => kq_wi P g k * (if g.testBit k = true then P else 12 - P)
theorem kq_wiS (P : Int) (g k : Nat) : kq_wi P g (k + 1) = kq_wi P g k * (if g.testBit k = true then P else 12 - P) := rfl
theorem kq_wiB (P : Int) (p0 : 0 ≤ P) (p12 : P ≤ 12) (g : Nat) : ∀ k : Nat, 0 ≤ kq_wi P g k ∧ kq_wi P g k ≤ ((12 ^ k : Nat) : Int)
  | 0 => ⟨by show (0 : Int) ≤ 1; decide, by show (1 : Int) ≤ ((12 ^ 0 : Nat) : Int); decide⟩
  | k + 1 => by
    obtain ⟨h1, h2⟩ := kq_wiB P p0 p12 g k
    have e : ((12 ^ (k + 1) : Nat) : Int) = ((12 ^ k : Nat) : Int) * 12 := by rw [Nat.pow_succ]; omega
    have f : 0 ≤ (if g.testBit k = true then P else 12 - P) ∧ (if g.testBit k = true then P else 12 - P) ≤ 12 := by
      by_cases b : g.testBit k = true
      · rw [if_pos b]; omega
      · rw [if_neg b]; omega
    rw [kq_wiS, e]
    generalize (if g.testBit k = true then P else 12 - P) = c at f ⊢
    refine ⟨Int.mul_nonneg h1 f.1, ?_⟩
    have a1 := Int.mul_le_mul_of_nonneg_left f.2 h1
    omega
theorem kq_wI (p : Int32) (p0 : 0 ≤ p.toInt) (p12 : p.toInt ≤ 12) (g : Nat) : ∀ k : Nat, k ≤ 6 → (kq_wt p.toInt64 (12 - p).toInt64 g k).toInt = kq_wi p.toInt g k
  | 0, _ => rfl
  | k + 1, hk => by
    have ih := kq_wI p p0 p12 g k (by omega)
    have q12 : (12 : Int32).toInt = 12 := rfl
    have es : (12 - p).toInt = 12 - p.toInt := by rw [kw_subI, q12]; omega
    have ef : (if g.testBit k = true then p.toInt64 else (12 - p).toInt64).toInt = (if g.testBit k = true then p.toInt else 12 - p.toInt) := by
      by_cases b : g.testBit k = true
      · rw [if_pos b, if_pos b, kw_i2lI]
      · rw [if_neg b, if_neg b, kw_i2lI, es]
    have B := kq_wiB p.toInt p0 p12 g (k + 1)
    have P6 : (12 ^ (k + 1) : Nat) ≤ 12 ^ 6 := Nat.pow_le_pow_right (by decide) (by omega)
    have P7 : (12 ^ 6 : Nat) = 2985984 := by decide
    rw [kq_wtS, Int64.toInt_mul, ih, ef, ← kq_wiS, kw_bmL]
    omega
theorem kr_odds {x m s t : kw_S} {r q : Int32} (hX : kw_I bX x) (hL : kr_L x m) (hD : kr_D x m) (hW : kr_W x m) (a mm p : Int32) (e1 : (r, s) = f_X7_odds_0 x a mm p) (e2 : (q, t) = f_X8_odds_0 m a mm p) : r = q ∧ kq x m s t := by
  have hb : ∀ j : Nat, -1 ≤ (x.1 13 j).toInt ∧ (x.1 13 j).toInt ≤ 40 := fun j => hX 13 j
  have qm : (-999 : Int32).toInt = -999 := rfl
  have q9 : (999 : Int32).toInt = 999 := rfl
  have q12 : (12 : Int32).toInt = 12 := rfl
  have h10 : ¬ (1 : Int32).toInt = 0 := by decide
  have h00 : (0 : Int32).toInt = 0 := rfl
  have hm1 : (-1 : Int32).toInt < 0 := by decide
  have bad : ∀ b : Int32, (r, s) = (b, x) → (q, t) = (b, m) → r = q ∧ kq x m s t := by
    intro b g1 g2
    obtain ⟨a1, a2⟩ := Prod.mk.inj g1
    obtain ⟨b1, b2⟩ := Prod.mk.inj g2
    rw [a1, a2, b1, b2]
    exact ⟨rfl, kq.rf⟩
  rw [f_X7_odds_0_u] at e1
  rw [f_X8_odds_0_u] at e2
  simp only [kf_bx, kf_lx] at e1
  simp only [kf_bx, kf_lx, kp_in] at e2
  by_cases hp : (0 : Int32).toInt ≤ p.toInt ∧ p.toInt ≤ (12 : Int32).toInt
  · have hp' : 0 ≤ p.toInt ∧ p.toInt ≤ 12 := hp
    simp only [if_pos hp] at e2
    rw [if_neg h10] at e2
    by_cases hm : (-999 : Int32).toInt ≤ mm.toInt ∧ mm.toInt ≤ (999 : Int32).toInt
    · have hm' : -999 ≤ mm.toInt ∧ mm.toInt ≤ 999 := hm
      simp only [if_pos hm] at e2
      rw [if_neg h10] at e2
      rw [if_neg (show ¬ mm.toInt < (-999 : Int32).toInt by omega), if_neg (show ¬ (999 : Int32).toInt < mm.toInt by omega), if_neg (show ¬ p.toInt < 0 by omega), if_neg (show ¬ (12 : Int32).toInt < p.toInt by omega)] at e1
      rcases kr_plan hX hL hW a with ⟨f, f1, f5, p1, p2⟩ | ⟨b, b0, p1, p2⟩ | ⟨p1, p2, a0, a6, n0, n6, g, hv⟩
      · rw [p1, if_neg (by rw [kp_refuse1]; decide)] at e1
        rw [p2, if_pos (by rw [kp_meet1]; decide)] at e2
        obtain ⟨r1, s1⟩ := Prod.mk.inj e1
        obtain ⟨r2, s2⟩ := Prod.mk.inj e2
        rw [r1, s1, r2, s2]
        exact ⟨(kp_refuse1 _ _).trans (kp_meet1 _ _).symm, kq.no x m f f1 f5⟩
      · rw [p1] at e1
        rw [p2] at e2
        dsimp only at e1 e2
        rw [if_neg (show ¬ b.toInt = 0 by omega)] at e1
        rw [if_pos b0] at e2
        exact bad b e1 e2
      · rw [p1] at e1
        rw [p2] at e2
        dsimp only at e1 e2
        rw [if_pos h00] at e1
        rw [if_neg (show ¬ (0 : Int32).toInt < 0 by decide), g] at e2
        obtain ⟨F, hS⟩ := kq_fore hb hL hD a a0 a6 n0 n6
        generalize f_X7_foresee_0 x a = S at *
        rw [kp_size1, if_pos (show 0 ≤ a.toInt ∧ a.toInt < 6 from ⟨a0, a6⟩), (F 13 (by decide)).1] at e1
        have gm := kq_gm hb hW hD a a0 a6 n0 n6 g F hS
        generalize hh : x.1 13 a.toNatClampNeg = h at *
        have ch := kw_clampI n0
        have pw := kc_pow h.toNatClampNeg (by omega)
        have p1' := kc_pow1 h n0 n6
        have W := fun u : Int32 => kq_wX S h u p n0 n6
        have W' := fun u : Int32 => kq_wM m h u p n0 n6
        have WB := fun u : Nat => kq_wiB p.toInt hp'.1 hp'.2 u h.toNatClampNeg
        have WI := fun u : Nat => kq_wI p hp'.1 hp'.2 u h.toNatClampNeg (by omega)
        have P6 : (12 ^ h.toNatClampNeg : Nat) ≤ 12 ^ 6 := Nat.pow_le_pow_right (by decide) (by omega)
        have P7 : (12 ^ 6 : Nat) = 2985984 := by decide
        have P0 : 0 < (12 ^ h.toNatClampNeg : Nat) := Nat.pow_pos (by decide)
        have A : ∀ (n : Nat) (c : Int64) (y : Int32), 0 ≤ y.toInt → y.toInt ≤ h.toInt → (h.toInt - y.toInt).toNat < n → c = kq_pw 12 y.toNatClampNeg → l_X7_odds_0_62 a mm p 0 h S n c y = l_X7_odds_0_89 a mm p 0 h (kq_pw 12 h.toNatClampNeg) S ((((1 : Int32) <<< (h &&& 31)).toInt - (0 : Int32).toInt).toNat + 1) 0 0 := by
          intro n
          induction n with
          | zero => intro c y _ _ h; exact absurd h (Nat.not_lt_zero _)
          | succ n ih =>
            intro c y y0 y1 hf hc
            have cy := kw_clampI y0
            rw [l_X7_odds_0_62_s]
            simp only [kf_lx]
            by_cases hy : y.toInt < h.toInt
            · have z := kp_inc y (by omega)
              have c1 := kw_clampI (x := y + Int32.ofInt 1) (by omega)
              rw [if_pos hy]
              exact ih _ _ (by omega) (by omega) (by omega) (by rw [show (y + Int32.ofInt 1).toNatClampNeg = y.toNatClampNeg + 1 by omega, kq_pwS, hc])
            · rw [if_neg hy, hc, show y.toNatClampNeg = h.toNatClampNeg by omega]
        have B : ∀ (n n' : Nat) (c : Int64) (y : Int32), 0 ≤ y.toInt → y.toInt ≤ (2 ^ h.toNatClampNeg : Nat) → ((2 ^ h.toNatClampNeg : Nat) - y.toInt).toNat < n → ((2 ^ h.toNatClampNeg : Nat) - y.toInt).toNat < n' → 0 ≤ c.toInt → c.toInt ≤ 2985984 * y.toInt → ∃ w : Int64, 0 ≤ w.toInt ∧ w.toInt ≤ 2985984 * 64 ∧ l_X7_odds_0_89 a mm p 0 h (kq_pw 12 h.toNatClampNeg) S n c y = (1, f_X4_tellShare_8 S w (kq_pw 12 h.toNatClampNeg)) ∧ l_X8_odds_0_56 a mm p 0 h m n' c y = f_X8_part_0 m w (kq_pw 12 h.toNatClampNeg) := by
          intro n
          induction n with
          | zero => intro n' c y _ _ h _; exact absurd h (Nat.not_lt_zero _)
          | succ n ih =>
            intro n' c y y0 y1 f1 f2 c0 c1
            cases n' with
            | zero => exact absurd f2 (Nat.not_lt_zero _)
            | succ n' =>
              have cy := kw_clampI y0
              rw [l_X7_odds_0_89_s, l_X8_odds_0_56_s, gm y]
              simp only [kf_lx, kf_bx]
              by_cases hy : y.toInt < (2 ^ h.toNatClampNeg : Nat)
              · have z := kp_inc y (by omega)
                rw [if_pos (show y.toInt < ((1 : Int32) <<< (h &&& 31)).toInt by rw [p1']; exact hy), if_pos (show y.toInt < ((1 : Int32) <<< (h &&& 31)).toInt by rw [p1']; exact hy)]
                by_cases hw : (f_X8_gustMiles_0 m a y).toInt < mm.toInt
                · rw [if_pos hw, if_pos hw, Int64.add_zero]
                  exact ih n' _ _ (by omega) (by omega) (by omega) (by omega) c0 (by omega)
                · rw [if_neg hw, if_neg hw, W y y0 (by omega), W' y y0 hy]
                  have b1 := WB y.toNatClampNeg
                  have b2 := WI y.toNatClampNeg
                  have es : (c + kq_wt p.toInt64 (12 - p).toInt64 y.toNatClampNeg h.toNatClampNeg).toInt = c.toInt + kq_wi p.toInt y.toNatClampNeg h.toNatClampNeg := by rw [kw_addL, b2]; omega
                  exact ih n' _ _ (by omega) (by omega) (by omega) (by omega) (by omega) (by omega)
              · rw [if_neg (show ¬ y.toInt < ((1 : Int32) <<< (h &&& 31)).toInt by rw [p1']; exact hy), if_neg (show ¬ y.toInt < ((1 : Int32) <<< (h &&& 31)).toInt by rw [p1']; exact hy), (kq_power m 12 h n0 (by omega)).2]
                exact ⟨c, c0, by omega, rfl, rfl⟩
        rw [A ((h.toInt - (0 : Int32).toInt).toNat + 1) 1 0 (by decide) (by rw [kp_q0]; exact n0) (by omega) rfl] at e1
        obtain ⟨w, w0, w1, l1, l2⟩ := B ((((1 : Int32) <<< (h &&& 31)).toInt - (0 : Int32).toInt).toNat + 1) ((65 - (0 : Int32).toInt).toNat + 1) 0 0 (by decide) (by rw [kp_q0]; omega) (by rw [p1']; omega) (by rw [kp_q0]; omega) (by decide) (by decide)
        rw [l1] at e1
        rw [l2] at e2
        have v12 := kq_pw12 h.toNatClampNeg (by omega)
        have sh := kq_share S m w (kq_pw 12 h.toNatClampNeg) w (kq_pw 12 h.toNatClampNeg) w.toInt (12 ^ h.toNatClampNeg) 1 1 (by omega) (by rw [v12, Nat.one_mul]) (by omega) (by rw [v12, Nat.one_mul]) (by decide) (by decide) P0 (by omega) (by omega) (by rw [show (2 ^ 40 : Nat) = 1099511627776 by decide]; omega) (by omega) (by omega) (by rw [show (2 ^ 40 : Nat) = 1099511627776 by decide]; omega)
        obtain ⟨r1, s1⟩ := Prod.mk.inj e1
        have r2 : q = (f_X8_part_0 m w (kq_pw 12 h.toNatClampNeg)).1 := congrArg Prod.fst e2
        have s2 : t = (f_X8_part_0 m w (kq_pw 12 h.toNatClampNeg)).2 := congrArg Prod.snd e2
        refine ⟨by rw [r1, r2, sh.1], ?_⟩
        rw [s1, s2]
        exact (kq.fr F (kw_FM.rf (L := [])) (by decide) (by decide)).tr sh.2
    · have hm' : ¬ (-999 ≤ mm.toInt ∧ mm.toInt ≤ 999) := hm
      simp only [if_neg hm] at e2
      rw [if_pos h00, if_pos hm1] at e2
      by_cases h2 : mm.toInt < (-999 : Int32).toInt
      · rw [if_pos h2] at e1
        exact bad _ e1 e2
      · rw [if_neg h2, if_pos (show (999 : Int32).toInt < mm.toInt by omega)] at e1
        exact bad _ e1 e2
  · have hp' : ¬ (0 ≤ p.toInt ∧ p.toInt ≤ 12) := hp
    simp only [if_neg hp] at e2
    rw [if_pos h00, if_pos hm1] at e2
    have e1' : (r, s) = (-1, x) := by
      by_cases h1 : mm.toInt < (-999 : Int32).toInt
      · rw [if_pos h1] at e1; exact e1
      rw [if_neg h1] at e1
      by_cases h2 : (999 : Int32).toInt < mm.toInt
      · rw [if_pos h2] at e1; exact e1
      rw [if_neg h2] at e1
      by_cases h3 : p.toInt < 0
      · rw [if_pos h3] at e1; exact e1
      rw [if_neg h3, if_pos (show (12 : Int32).toInt < p.toInt by omega)] at e1
      exact e1
    exact bad _ e1' e2
end
section
/-! ===== mid: the mean by gusts ===== -/
def kq_gs (c s : Nat → Int) (g : Nat) : Nat → Int
  | 0 => 0
  | k + 1 => kq_gs c s g k + (if g.testBit k = true then s k else c k)
def kq_es (P : Int) (c s : Nat → Int) : Nat → Int
  | 0 => 0
  | k + 1 => kq_es P c s k + ((12 - P) * c k + P * s k)
def kq_sum (f : Nat → Int) : Nat → Int
  | 0 => 0
  | n + 1 => kq_sum f n + f n
theorem kq_gsS (c s : Nat → Int) (g k : Nat) : kq_gs c s g (k + 1) = kq_gs c s g k + (if g.testBit k = true then s k else c k) := rfl
theorem kq_esS (P : Int) (c s : Nat → Int) (k : Nat) : kq_es P c s (k + 1) = kq_es P c s k + ((12 - P) * c k + P * s k) := rfl
theorem kq_sumS (f : Nat → Int) (n : Nat) : kq_sum f (n + 1) = kq_sum f n + f n := rfl
theorem kq_sum_cong (f h : Nat → Int) : ∀ n : Nat, (∀ g : Nat, g < n → f g = h g) → kq_sum f n = kq_sum h n
  | 0, _ => rfl
  | n + 1, e => by rw [kq_sumS, kq_sumS, e n (by omega), kq_sum_cong f h n (fun g hg => e g (by omega))]
theorem kq_sum_add (f : Nat → Int) (a : Nat) : ∀ b : Nat, kq_sum f (a + b) = kq_sum f a + kq_sum (fun g => f (a + g)) b
  | 0 => by
    show kq_sum f a = kq_sum f a + 0
    omega
  | b + 1 => by
    rw [← Nat.add_assoc, kq_sumS, kq_sumS, kq_sum_add f a b]
    omega
theorem kq_sum_lin (f h : Nat → Int) (u v : Int) : ∀ n : Nat, kq_sum (fun g => u * f g + v * h g) n = u * kq_sum f n + v * kq_sum h n
  | 0 => by
    show (0 : Int) = u * 0 + v * 0
    rw [Int.mul_zero, Int.mul_zero]; rfl
  | n + 1 => by
    rw [kq_sumS, kq_sumS, kq_sumS, kq_sum_lin f h u v n, Int.mul_add, Int.mul_add]
    omega
theorem kq_lowcong (P : Int) (c s : Nat → Int) (g g' : Nat) : ∀ n : Nat, (∀ j : Nat, j < n → g.testBit j = g'.testBit j) → kq_wi P g n = kq_wi P g' n ∧ kq_gs c s g n = kq_gs c s g' n
  | 0, _ => ⟨rfl, rfl⟩
  | n + 1, h => by
    obtain ⟨a, b⟩ := kq_lowcong P c s g g' n (fun j hj => h j (by omega))
    rw [kq_wiS, kq_wiS, kq_gsS, kq_gsS, h n (by omega), a, b]
    exact ⟨rfl, rfl⟩
theorem kq_lo (P : Int) (c s : Nat → Int) (g n : Nat) (h : g < 2 ^ n) : kq_wi P g (n + 1) = kq_wi P g n * (12 - P) ∧ kq_gs c s g (n + 1) = kq_gs c s g n + c n := by
  rw [kq_wiS, kq_gsS, Nat.testBit_lt_two_pow h, if_neg (by decide), if_neg (by decide)]
  exact ⟨rfl, rfl⟩
theorem kq_hi (P : Int) (c s : Nat → Int) (g n : Nat) (h : g < 2 ^ n) : kq_wi P (2 ^ n + g) (n + 1) = kq_wi P g n * P ∧ kq_gs c s (2 ^ n + g) (n + 1) = kq_gs c s g n + s n := by
  have hb : (2 ^ n + g).testBit n = true := by rw [Nat.testBit_two_pow_add_eq, Nat.testBit_lt_two_pow h]; rfl
  obtain ⟨a, b⟩ := kq_lowcong P c s (2 ^ n + g) g n (fun j hj => Nat.testBit_two_pow_add_gt hj _)
  rw [kq_wiS, kq_gsS, if_pos hb, if_pos hb, a, b]
  exact ⟨rfl, rfl⟩
theorem kq_sumW (P : Int) : ∀ n : Nat, kq_sum (fun g => kq_wi P g n) (2 ^ n) = ((12 ^ n : Nat) : Int)
  | 0 => rfl
  | n + 1 => by
    have ih := kq_sumW P n
    have p2 : 2 ^ (n + 1) = 2 ^ n + 2 ^ n := by rw [Nat.pow_succ]; omega
    have c0 : Nat → Int := fun _ => 0
    rw [p2, kq_sum_add, kq_sum_cong _ (fun g => (12 - P) * kq_wi P g n + 0 * kq_wi P g n) (2 ^ n) (fun g hg => by rw [(kq_lo P c0 c0 g n hg).1, Int.mul_comm, Int.zero_mul, Int.add_zero]), kq_sum_lin, kq_sum_cong (fun g => kq_wi P (2 ^ n + g) (n + 1)) (fun g => P * kq_wi P g n + 0 * kq_wi P g n) (2 ^ n) (fun g hg => by rw [(kq_hi P c0 c0 g n hg).1, Int.mul_comm, Int.zero_mul, Int.add_zero]), kq_sum_lin, ih, Int.zero_mul, Int.add_zero, Int.add_zero, ← Int.add_mul, show 12 - P + P = 12 by omega, Nat.pow_succ]
    omega
theorem kq_sumG (P : Int) (c s : Nat → Int) : ∀ n : Nat, 12 * kq_sum (fun g => kq_gs c s g n * kq_wi P g n) (2 ^ n) = ((12 ^ n : Nat) : Int) * kq_es P c s n
  | 0 => rfl
  | n + 1 => by
    have ih := kq_sumG P c s n
    have iw := kq_sumW P n
    have p2 : 2 ^ (n + 1) = 2 ^ n + 2 ^ n := by rw [Nat.pow_succ]; omega
    have e0 : ∀ g : Nat, g < 2 ^ n → kq_gs c s g (n + 1) * kq_wi P g (n + 1) = (12 - P) * (kq_gs c s g n * kq_wi P g n) + ((12 - P) * c n) * kq_wi P g n := fun g hg => by
      rw [(kq_lo P c s g n hg).1, (kq_lo P c s g n hg).2]
      generalize kq_gs c s g n = a
      generalize kq_wi P g n = b
      generalize c n = d
      generalize 12 - P = e
      rw [Int.add_mul, ← Int.mul_assoc a b e, Int.mul_comm (a * b) e, ← Int.mul_assoc d b e, Int.mul_comm (d * b) e, ← Int.mul_assoc e d b]
    have e1 : ∀ g : Nat, g < 2 ^ n → kq_gs c s (2 ^ n + g) (n + 1) * kq_wi P (2 ^ n + g) (n + 1) = P * (kq_gs c s g n * kq_wi P g n) + (P * s n) * kq_wi P g n := fun g hg => by
      rw [(kq_hi P c s g n hg).1, (kq_hi P c s g n hg).2]
      generalize kq_gs c s g n = a
      generalize kq_wi P g n = b
      generalize s n = d
      rw [Int.add_mul, ← Int.mul_assoc a b P, Int.mul_comm (a * b) P, ← Int.mul_assoc d b P, Int.mul_comm (d * b) P, ← Int.mul_assoc P d b]
    rw [p2, kq_sum_add, kq_sum_cong (fun g => kq_gs c s g (n + 1) * kq_wi P g (n + 1)) _ (2 ^ n) e0, kq_sum_cong (fun g => kq_gs c s (2 ^ n + g) (n + 1) * kq_wi P (2 ^ n + g) (n + 1)) _ (2 ^ n) e1, kq_sum_lin, kq_sum_lin, iw, kq_esS, Nat.pow_succ, Int.natCast_mul]
    generalize kq_sum (fun g => kq_gs c s g n * kq_wi P g n) (2 ^ n) = Z at ih ⊢
    generalize ((12 ^ n : Nat) : Int) = T at ih ⊢
    generalize kq_es P c s n = E at ih ⊢
    generalize (12 - P) * c n = F
    generalize P * s n = H
    rw [show ((12 : Nat) : Int) = 12 from rfl]
    have k1 : (12 - P) * Z + F * T + (P * Z + H * T) = 12 * Z + (F + H) * T := by
      rw [Int.sub_mul, Int.add_mul]
      generalize P * Z = A
      generalize F * T = B
      generalize H * T = C
      omega
    rw [k1, Int.mul_add, ih, Int.mul_add, Int.mul_comm T 12, Int.mul_assoc 12 T E, Int.mul_assoc 12 T (F + H), Int.mul_comm T (F + H)]
theorem kq_mean (M P : Int) (c s : Nat → Int) (n : Nat) : 12 * kq_sum (fun g => (M + kq_gs c s g n) * kq_wi P g n) (2 ^ n) = ((12 ^ n : Nat) : Int) * (12 * M + kq_es P c s n) := by
  have e : ∀ g : Nat, g < 2 ^ n → (M + kq_gs c s g n) * kq_wi P g n = M * kq_wi P g n + 1 * (kq_gs c s g n * kq_wi P g n) := fun g _ => by rw [Int.add_mul, Int.one_mul]
  have h := kq_sumG P c s n
  rw [kq_sum_cong _ _ (2 ^ n) e, kq_sum_lin, kq_sumW, Int.one_mul, Int.mul_add, h, Int.mul_add, ← Int.mul_assoc, ← Int.mul_assoc, Int.mul_comm (((12 ^ n : Nat) : Int)) 12, Int.mul_assoc, Int.mul_comm M, ← Int.mul_assoc]
theorem kq_prod (q c : Int) (q0 : 0 ≤ q) (q12 : q ≤ 12) (c0 : -180 ≤ c) (c1 : c ≤ 180) : -2160 ≤ q * c ∧ q * c ≤ 2160 := by
  rcases (show q = 0 ∨ q = 1 ∨ q = 2 ∨ q = 3 ∨ q = 4 ∨ q = 5 ∨ q = 6 ∨ q = 7 ∨ q = 8 ∨ q = 9 ∨ q = 10 ∨ q = 11 ∨ q = 12 by omega) with h | h | h | h | h | h | h | h | h | h | h | h | h <;> (rw [h]; omega)
theorem kq_gsB (c s : Nat → Int) (g : Nat) (N : Nat) (hc : ∀ k : Nat, k < N → (-180 ≤ c k ∧ c k ≤ 180) ∧ (-180 ≤ s k ∧ s k ≤ 180)) : ∀ k : Nat, k ≤ N → -180 * (k : Int) ≤ kq_gs c s g k ∧ kq_gs c s g k ≤ 180 * (k : Int)
  | 0, _ => ⟨by show -180 * ((0 : Nat) : Int) ≤ 0; decide, by show (0 : Int) ≤ 180 * ((0 : Nat) : Int); decide⟩
  | k + 1, hk => by
    have ih := kq_gsB c s g N hc k (by omega)
    have h := hc k (by omega)
    rw [kq_gsS]
    by_cases b : g.testBit k = true
    · rw [if_pos b]; omega
    · rw [if_neg b]; omega
theorem kq_esB (P : Int) (p0 : 0 ≤ P) (p12 : P ≤ 12) (c s : Nat → Int) (N : Nat) (hc : ∀ k : Nat, k < N → (-180 ≤ c k ∧ c k ≤ 180) ∧ (-180 ≤ s k ∧ s k ≤ 180)) : ∀ k : Nat, k ≤ N → -4320 * (k : Int) ≤ kq_es P c s k ∧ kq_es P c s k ≤ 4320 * (k : Int)
  | 0, _ => ⟨by show -4320 * ((0 : Nat) : Int) ≤ 0; decide, by show (0 : Int) ≤ 4320 * ((0 : Nat) : Int); decide⟩
  | k + 1, hk => by
    have ih := kq_esB P p0 p12 c s N hc k (by omega)
    have h := hc k (by omega)
    have a := kq_prod (12 - P) (c k) (by omega) (by omega) h.1.1 h.1.2
    have b := kq_prod P (s k) p0 p12 h.2.1 h.2.2
    rw [kq_esS]
    generalize (12 - P) * c k = u at *
    generalize P * s k = v at *
    omega
theorem kr_mid {x m s t : kw_S} {r q : Int32} (hX : kw_I bX x) (hL : kr_L x m) (hD : kr_D x m) (hW : kr_W x m) (a p : Int32) (e1 : (r, s) = f_X7_mid_0 x a p) (e2 : (q, t) = f_X8_mid_0 m a p) : r = q ∧ kq x m s t := by
  have hb : ∀ j : Nat, -1 ≤ (x.1 13 j).toInt ∧ (x.1 13 j).toInt ≤ 40 := fun j => hX 13 j
  have q12 : (12 : Int32).toInt = 12 := rfl
  have h10 : ¬ (1 : Int32).toInt = 0 := by decide
  have h00 : (0 : Int32).toInt = 0 := rfl
  have hm1 : (-1 : Int32).toInt < 0 := by decide
  have bad : ∀ b : Int32, (r, s) = (b, x) → (q, t) = (b, m) → r = q ∧ kq x m s t := by
    intro b g1 g2
    obtain ⟨a1, a2⟩ := Prod.mk.inj g1
    obtain ⟨b1, b2⟩ := Prod.mk.inj g2
    rw [a1, a2, b1, b2]
    exact ⟨rfl, kq.rf⟩
  rw [f_X7_mid_0_u] at e1
  rw [f_X8_mid_0_u] at e2
  simp only [kf_bx, kf_lx] at e1
  simp only [kf_bx, kf_lx, kp_in] at e2
  by_cases hp : (0 : Int32).toInt ≤ p.toInt ∧ p.toInt ≤ (12 : Int32).toInt
  · have hp' : 0 ≤ p.toInt ∧ p.toInt ≤ 12 := hp
    simp only [if_pos hp] at e2
    rw [if_neg h10] at e2
    rw [if_neg (show ¬ p.toInt < 0 by omega), if_neg (show ¬ (12 : Int32).toInt < p.toInt by omega)] at e1
    rcases kr_plan hX hL hW a with ⟨f, f1, f5, p1, p2⟩ | ⟨b, b0, p1, p2⟩ | ⟨p1, p2, a0, a6, n0, n6, g, hv⟩
    · rw [p1, if_neg (by rw [kp_refuse1]; decide)] at e1
      rw [p2, if_pos (by rw [kp_meet1]; decide)] at e2
      obtain ⟨r1, s1⟩ := Prod.mk.inj e1
      obtain ⟨r2, s2⟩ := Prod.mk.inj e2
      rw [r1, s1, r2, s2]
      exact ⟨(kp_refuse1 _ _).trans (kp_meet1 _ _).symm, kq.no x m f f1 f5⟩
    · rw [p1] at e1
      rw [p2] at e2
      dsimp only at e1 e2
      rw [if_neg (show ¬ b.toInt = 0 by omega)] at e1
      rw [if_pos b0] at e2
      exact bad b e1 e2
    · rw [p1] at e1
      rw [p2] at e2
      dsimp only at e1 e2
      rw [if_pos h00] at e1
      rw [if_neg (show ¬ (0 : Int32).toInt < 0 by decide), g] at e2
      obtain ⟨F, hS⟩ := kq_fore hb hL hD a a0 a6 n0 n6
      generalize f_X7_foresee_0 x a = S at *
      have gm := kq_gm hb hW hD a a0 a6 n0 n6 g F hS
      have mb := kg_gone hL hD
      have f13 : S.1 13 a.toNatClampNeg = x.1 13 a.toNatClampNeg := by rw [(F 13 (by decide)).1]
      have f46 : S.1 4 6 = x.1 4 6 := by rw [(F 4 (by decide)).1]
      rw [f46] at e1
      have ch := kw_clampI n0
      have cg : ∀ k : Nat, k < (x.1 13 a.toNatClampNeg).toNatClampNeg → (-180 ≤ (S.1 10 k).toInt ∧ (S.1 10 k).toInt ≤ 180) ∧ (-180 ≤ (S.1 11 k).toInt ∧ (S.1 11 k).toInt ≤ 180) := fun k hk => by
        rw [(hS k (by omega)).1, (hS k (by omega)).2]
        exact kq_CGb hL hD a.toNatClampNeg k (by omega) (hv k (by omega))
      generalize hc : (fun k : Nat => (S.1 10 k).toInt) = c
      generalize hg : (fun k : Nat => (S.1 11 k).toInt) = d
      have ec : ∀ k : Nat, c k = (S.1 10 k).toInt := fun k => by rw [← hc]
      have ed : ∀ k : Nat, d k = (S.1 11 k).toInt := fun k => by rw [← hg]
      have cd : ∀ k : Nat, k < (x.1 13 a.toNatClampNeg).toNatClampNeg → (-180 ≤ c k ∧ c k ≤ 180) ∧ (-180 ≤ d k ∧ d k ≤ 180) := fun k hk => by
        rw [ec, ed]; exact cg k hk
      generalize hh : x.1 13 a.toNatClampNeg = h at *
      have pw := kc_pow h.toNatClampNeg (by omega)
      have p1' := kc_pow1 h n0 n6
      have W' := fun u : Int32 => kq_wM m h u p n0 n6
      have WB := fun u : Nat => kq_wiB p.toInt hp'.1 hp'.2 u h.toNatClampNeg
      have WI := fun u : Nat => kq_wI p hp'.1 hp'.2 u h.toNatClampNeg (by omega)
      have P6 : (12 ^ h.toNatClampNeg : Nat) ≤ 12 ^ 6 := Nat.pow_le_pow_right (by decide) (by omega)
      have P7 : (12 ^ 6 : Nat) = 2985984 := by decide
      have P0 : 0 < (12 ^ h.toNatClampNeg : Nat) := Nat.pow_pos (by decide)
      have EB := kq_esB p.toInt hp'.1 hp'.2 c d h.toNatClampNeg cd
      have es12 : (12 - p).toInt = 12 - p.toInt := by rw [kw_subI, q12]; omega
      -- the class's sum
      have A : ∀ (n : Nat) (w : Int64) (y : Int32), 0 ≤ y.toInt → y.toInt ≤ h.toInt → (h.toInt - y.toInt).toNat < n → w.toInt = 12 * (x.1 4 6).toInt + kq_es p.toInt c d y.toNatClampNeg → ∃ w' : Int64, w'.toInt = 12 * (x.1 4 6).toInt + kq_es p.toInt c d h.toNatClampNeg ∧ l_X7_mid_0_46 a p 0 S n w y = (1, f_X4_tellShare_8 S w' 12) := by
        intro n
        induction n with
        | zero => intro w y _ _ h; exact absurd h (Nat.not_lt_zero _)
        | succ n ih =>
          intro w y y0 y1 hf hw
          have cy := kw_clampI y0
          rw [l_X7_mid_0_46_s, kp_size1, if_pos (show 0 ≤ a.toInt ∧ a.toInt < 6 from ⟨a0, a6⟩), f13]
          simp only [kf_lx]
          by_cases hy : y.toInt < h.toInt
          · have z := kp_inc y (by omega)
            have c1 := kw_clampI (x := y + Int32.ofInt 1) (by omega)
            have en : (y + Int32.ofInt 1).toNatClampNeg = y.toNatClampNeg + 1 := by omega
            have cb := cd y.toNatClampNeg (by omega)
            have eb := EB y.toNatClampNeg (by omega)
            rw [if_pos hy]
            refine ih _ _ (by omega) (by omega) (by omega) ?_
            rw [en, kq_esS, kw_addL, kw_i2lI, kw_addI, kw_mulI, kw_mulI, es12, ← ec, ← ed, hw]
            have u1 := kq_prod (12 - p.toInt) (c y.toNatClampNeg) (by omega) (by omega) cb.1.1 cb.1.2
            have u2 := kq_prod p.toInt (d y.toNatClampNeg) hp'.1 hp'.2 cb.2.1 cb.2.2
            generalize (12 - p.toInt) * c y.toNatClampNeg = A1 at *
            generalize p.toInt * d y.toNatClampNeg = A2 at *
            generalize kq_es p.toInt c d y.toNatClampNeg = A3 at *
            clear ih hf cd cg EB WB WI W' gm hS
            omega
          · rw [if_neg hy]
            exact ⟨w, by rw [hw, show y.toNatClampNeg = h.toNatClampNeg by omega], rfl⟩
      -- miles by gusts, as a whole number
      have GI : ∀ u : Int32, 0 ≤ u.toInt → u.toInt ≤ 63 → (f_X8_gustMiles_0 m a u).toInt = (x.1 4 6).toInt + kq_gs c d u.toNatClampNeg h.toNatClampNeg := by
        intro u u0 u63
        have GB := kq_gsB c d u.toNatClampNeg h.toNatClampNeg cd
        rw [← gm u, f_X7_milesByGusts_0_u, f46]
        have L : ∀ (n : Nat) (w y : Int32), 0 ≤ y.toInt → y.toInt ≤ h.toInt → (h.toInt - y.toInt).toNat < n → w.toInt = (x.1 4 6).toInt + kq_gs c d u.toNatClampNeg y.toNatClampNeg → (l_X7_milesByGusts_0_11 h u S n w y).toInt = (x.1 4 6).toInt + kq_gs c d u.toNatClampNeg h.toNatClampNeg := by
          intro n
          induction n with
          | zero => intro w y _ _ h; exact absurd h (Nat.not_lt_zero _)
          | succ n ih =>
            intro w y y0 y1 hf hw
            have cy := kw_clampI y0
            rw [l_X7_milesByGusts_0_11_s]
            simp only [kf_lx]
            by_cases hy : y.toInt < h.toInt
            · have z := kp_inc y (by omega)
              have c1 := kw_clampI (x := y + Int32.ofInt 1) (by omega)
              have en : (y + Int32.ofInt 1).toNatClampNeg = y.toNatClampNeg + 1 := by omega
              have cb := cd y.toNatClampNeg (by omega)
              have gb := GB y.toNatClampNeg (by omega)
              have bt := kc_bit u y u0 u63 y0 (by omega)
              rw [if_pos hy]
              by_cases e : u.toNatClampNeg.testBit y.toNatClampNeg = true
              · rw [if_pos e] at bt
                rw [if_pos (show ((u >>> (y &&& 31)) &&& 1).toInt = (1 : Int32).toInt from bt)]
                refine ih _ _ (by omega) (by omega) (by omega) ?_
                rw [en, kq_gsS, if_pos e, kw_addI, hw, ← ed]
                omega
              · rw [if_neg e] at bt
                rw [if_neg (show ¬ ((u >>> (y &&& 31)) &&& 1).toInt = (1 : Int32).toInt by rw [bt]; decide)]
                refine ih _ _ (by omega) (by omega) (by omega) ?_
                rw [en, kq_gsS, if_neg e, kw_addI, hw, ← ec]
                omega
            · rw [if_neg hy, hw, show y.toNatClampNeg = h.toNatClampNeg by omega]
        exact L _ _ _ (by decide) (by rw [kp_q0]; exact n0) (by omega) (by show _ = (x.1 4 6).toInt + 0; omega)
      -- the reference's sum
      have B : ∀ (n' : Nat) (w : Int64) (y : Int32), 0 ≤ y.toInt → y.toInt ≤ (2 ^ h.toNatClampNeg : Nat) → ((2 ^ h.toNatClampNeg : Nat) - y.toInt).toNat < n' → w.toInt = kq_sum (fun g => ((x.1 4 6).toInt + kq_gs c d g h.toNatClampNeg) * kq_wi p.toInt g h.toNatClampNeg) y.toNatClampNeg → -26871856128 * y.toInt ≤ w.toInt → w.toInt ≤ 26871856128 * y.toInt → ∃ w' : Int64, w'.toInt = kq_sum (fun g => ((x.1 4 6).toInt + kq_gs c d g h.toNatClampNeg) * kq_wi p.toInt g h.toNatClampNeg) (2 ^ h.toNatClampNeg) ∧ -1719798792192 ≤ w'.toInt ∧ w'.toInt ≤ 1719798792192 ∧ l_X8_mid_0_40 a p 0 h m n' w y = f_X8_part_0 m w' (kq_pw 12 h.toNatClampNeg) := by
        intro n'
        induction n' with
        | zero => intro w y _ _ h; exact absurd h (Nat.not_lt_zero _)
        | succ n' ih =>
          intro w y y0 y1 f2 hw wl wu
          have cy := kw_clampI y0
          rw [l_X8_mid_0_40_s]
          simp only [kf_lx, kf_bx]
          by_cases hy : y.toInt < (2 ^ h.toNatClampNeg : Nat)
          · have z := kp_inc y (by omega)
            have c1 := kw_clampI (x := y + Int32.ofInt 1) (by omega)
            have en : (y + Int32.ofInt 1).toNatClampNeg = y.toNatClampNeg + 1 := by omega
            have b1 := WB y.toNatClampNeg
            have b2 := WI y.toNatClampNeg
            have gi := GI y y0 (by omega)
            have gb := kq_gsB c d y.toNatClampNeg h.toNatClampNeg cd h.toNatClampNeg (Nat.le_refl _)
            rw [if_pos (show y.toInt < ((1 : Int32) <<< (h &&& 31)).toInt by rw [p1']; exact hy), W' y y0 hy]
            have gl : -8280 ≤ (x.1 4 6).toInt + kq_gs c d y.toNatClampNeg h.toNatClampNeg := by omega
            have gu : (x.1 4 6).toInt + kq_gs c d y.toNatClampNeg h.toNatClampNeg ≤ 8280 := by omega
            have m1 := Int.mul_le_mul_of_nonneg_right gl b1.1
            have m2 := Int.mul_le_mul_of_nonneg_right gu b1.1
            have em : ((f_X8_gustMiles_0 m a y).toInt64 * kq_wt p.toInt64 (12 - p).toInt64 y.toNatClampNeg h.toNatClampNeg).toInt = ((x.1 4 6).toInt + kq_gs c d y.toNatClampNeg h.toNatClampNeg) * kq_wi p.toInt y.toNatClampNeg h.toNatClampNeg := by
              rw [Int64.toInt_mul, kw_i2lI, gi, b2, kw_bmL]
              generalize ((x.1 4 6).toInt + kq_gs c d y.toNatClampNeg h.toNatClampNeg) * kq_wi p.toInt y.toNatClampNeg h.toNatClampNeg = Z at m1 m2 ⊢
              omega
            generalize hZ : ((x.1 4 6).toInt + kq_gs c d y.toNatClampNeg h.toNatClampNeg) * kq_wi p.toInt y.toNatClampNeg h.toNatClampNeg = Z at m1 m2 em
            have ea : (w + (f_X8_gustMiles_0 m a y).toInt64 * kq_wt p.toInt64 (12 - p).toInt64 y.toNatClampNeg h.toNatClampNeg).toInt = w.toInt + Z := by
              rw [kw_addL, em]; omega
            refine ih _ _ (by omega) (by omega) (by omega) ?_ (by omega) (by omega)
            rw [en, kq_sumS, ← hw, hZ, ea]
          · rw [if_neg (show ¬ y.toInt < ((1 : Int32) <<< (h &&& 31)).toInt by rw [p1']; exact hy), (kq_power m 12 h n0 (by omega)).2]
            exact ⟨w, by rw [hw, show y.toNatClampNeg = 2 ^ h.toNatClampNeg by omega], by omega, by omega, rfl⟩
      have e12 : ((12 : Int64) * (x.1 4 6).toInt64).toInt = 12 * (x.1 4 6).toInt := by
        rw [Int64.toInt_mul, kw_i2lI, show (12 : Int64).toInt = 12 from rfl, kw_bmL]; omega
      obtain ⟨u, u1, u2⟩ := A ((41 - (0 : Int32).toInt).toNat + 1) ((12 : Int64) * (x.1 4 6).toInt64) 0 (by decide) (by rw [kp_q0]; exact n0) (by rw [kp_q0]; omega) (by rw [e12]; show _ = 12 * (x.1 4 6).toInt + 0; omega)
      obtain ⟨w, w1, w2, w3, w4⟩ := B ((65 - (0 : Int32).toInt).toNat + 1) 0 0 (by decide) (by rw [kp_q0]; omega) (by rw [kp_q0]; omega) rfl (by decide) (by decide)
      rw [u2] at e1
      rw [w4] at e2
      have mean := kq_mean (x.1 4 6).toInt p.toInt c d h.toNatClampNeg
      rw [← w1, ← u1] at mean
      have eb := EB h.toNatClampNeg (Nat.le_refl _)
      have v12 := kq_pw12 h.toNatClampNeg (by omega)
      have q40 : (2 ^ 40 : Nat) = 1099511627776 := by decide
      have sh : (f_X8_part_0 m w (kq_pw 12 h.toNatClampNeg)).1 = 1 ∧ kq S m (f_X4_tellShare_8 S u 12) (f_X8_part_0 m w (kq_pw 12 h.toNatClampNeg)).2 := by
        by_cases hz : h.toNatClampNeg = 0
        · rw [hz] at mean v12 ⊢
          have m0 : 12 * w.toInt = ((1 : Nat) : Int) * u.toInt := mean
          exact kq_share S m u 12 w (kq_pw 12 0) w.toInt 1 12 1 (by omega) (by decide) (by omega) (by decide) (by decide) (by decide) (by decide) (by omega) (by omega) (by decide) (by omega) (by omega) (by decide)
        · have e2 : h.toNatClampNeg = (h.toNatClampNeg - 1) + 1 := by omega
          have e3 : (12 ^ h.toNatClampNeg : Nat) = 12 ^ (h.toNatClampNeg - 1) * 12 := by
            have e4 : (12 ^ ((h.toNatClampNeg - 1) + 1) : Nat) = 12 ^ (h.toNatClampNeg - 1) * 12 := Nat.pow_succ 12 _
            rw [← e2] at e4
            exact e4
          have k0 : 0 < (12 ^ (h.toNatClampNeg - 1) : Nat) := Nat.pow_pos (by decide)
          rw [e3] at mean v12 P6
          generalize (12 ^ (h.toNatClampNeg - 1) : Nat) = K at mean v12 P6 k0
          have mw : w.toInt = (K : Int) * u.toInt := by
            rw [Int.natCast_mul, show ((12 : Nat) : Int) = 12 from rfl, Int.mul_comm (K : Int) 12, Int.mul_assoc] at mean
            exact Int.eq_of_mul_eq_mul_left (by decide) mean
          exact kq_share S m u 12 w (kq_pw 12 h.toNatClampNeg) u.toInt 12 1 K (by omega) (by decide) mw v12 (by decide) k0 (by decide) (by omega) (by omega) (by decide) (by omega) (by omega) (by omega)
      obtain ⟨r1, s1⟩ := Prod.mk.inj e1
      have r2 : q = (f_X8_part_0 m w (kq_pw 12 h.toNatClampNeg)).1 := congrArg Prod.fst e2
      have s2 : t = (f_X8_part_0 m w (kq_pw 12 h.toNatClampNeg)).2 := congrArg Prod.snd e2
      refine ⟨by rw [r1, r2, sh.1], ?_⟩
      rw [s1, s2]
      exact (kq.fr F (kw_FM.rf (L := [])) (by decide) (by decide)).tr sh.2
  · have hp' : ¬ (0 ≤ p.toInt ∧ p.toInt ≤ 12) := hp
    simp only [if_neg hp] at e2
    rw [if_pos h00, if_pos hm1] at e2
    by_cases h3 : p.toInt < 0
    · rw [if_pos h3] at e1
      exact bad _ e1 e2
    · rw [if_neg h3, if_pos (show (12 : Int32).toInt < p.toInt by omega)] at e1
      exact bad _ e1 e2
end
section
abbrev kr_R (x m : kw_S) : Prop := kr_T x m ∧ kr_L x m ∧ kr_D x m ∧ kr_W x m
theorem kr_R.fr {L L' : List Nat} {x x' m m' : kw_S} (h : kr_R x m) (F1 : kw_F L x x') (F2 : kw_FM L' m m') (h1 : ∀ a ∈ L, ¬ (a = 15 ∨ 35 ≤ a ∧ a < 39) ∧ ¬ (a = 17 ∨ 44 ≤ a ∧ a ≤ 48) ∧ ¬ (a = 4 ∨ a = 18 ∨ a = 19 ∨ a = 21 ∨ 49 ≤ a ∧ a ≤ 51 ∨ a = 17 ∨ 44 ≤ a ∧ a ≤ 48) ∧ ¬ (a = 13 ∨ 29 ≤ a ∧ a < 35)) (h2 : ∀ a ∈ L', ¬ (a = 5 ∨ a = 6) ∧ (¬ (7 ≤ a ∧ a ≤ 11) ∧ a ≠ 1010 ∧ a ≠ 1011) ∧ ¬ (14 ≤ a ∧ a ≤ 17 ∨ a = 1022 ∨ a = 1023 ∨ a = 1024 ∨ a = 1025 ∨ a = 1027) ∧ ¬ (a = 2 ∨ a = 3)) : kr_R x' m' :=
  ⟨h.1.fr F1 F2 (fun a q => (h1 a q).1) (fun a q => (h2 a q).1), h.2.1.fr F1 F2 (fun a q => (h1 a q).2.1) (fun a q => (h2 a q).2.1), h.2.2.1.fr h.2.1 F1 F2 (fun a q => (h1 a q).2.2.1) (fun a q => (h2 a q).2.2.1), h.2.2.2.fr F1 F2 (fun a q => (h1 a q).2.2.2) (fun a q => (h2 a q).2.2.2)⟩
end
