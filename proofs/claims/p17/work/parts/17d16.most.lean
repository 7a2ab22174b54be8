/-! ===== the most miles: the sum of the pulls above 0 is the most of all sets ===== -/
theorem kc_pull378 : ∀ k : Nat, k < 6 → ∀ a : Nat, a < 10 → ∀ w : Nat, w < 7 → -120 ≤ (f_X7_pull kz0 (Int32.ofNat k) (Int32.ofNat a) (Int32.ofNat w)).toInt ∧ (f_X7_pull kz0 (Int32.ofNat k) (Int32.ofNat a) (Int32.ofNat w)).toInt ≤ 120 := by decide +kernel
theorem kc_pb {x m : kw_S} (hL : kr_L x m) (i w : Int32) (w0 : 0 ≤ w.toInt) (w1 : w.toInt ≤ 6) (i0 : 0 ≤ i.toInt) : -120 ≤ (f_X1_pullOf_17 x i w).toInt ∧ (f_X1_pullOf_17 x i w).toInt ≤ 120 := by
  rw [f_X1_pullOf_17_u, f_X1_hasLine_17_u]
  simp only [kf_lx]
  have ci := kw_clampI i0
  rw [if_neg (show ¬ i.toInt < 0 by omega)]
  by_cases h1 : i.toInt < (x.1 17 5).toInt
  · obtain ⟨-, -, -, -, b1, -, b3, -⟩ := hL.2.2.2 i.toNatClampNeg (by omega)
    have c1 := kw_clampI b1.1
    have c3 := kw_clampI (x := x.1 46 i.toNatClampNeg) (by omega)
    have cw := kw_clampI w0
    rw [if_pos h1, if_neg (by decide)]
    have h := kc_pull378 (x.1 44 i.toNatClampNeg).toNatClampNeg (by omega) (x.1 46 i.toNatClampNeg).toNatClampNeg (by omega) w.toNatClampNeg (by omega)
    rw [kd_ofNat _ b1.1, kd_ofNat _ (by omega), kd_ofNat w w0] at h
    exact h
  · rw [if_neg h1, if_pos (show (0 : Int32).toInt = 0 from rfl)]
    decide
noncomputable def kz_s (x : kw_S) (w : Int32) (s : Nat) : Nat → Int
  | 0 => 0
  | j + 1 => if s.testBit j = true then kz_s x w s j + (f_X1_pullOf_17 x (Int32.ofNat j) w).toInt else kz_s x w s j
noncomputable def kz_p (x : kw_S) (w : Int32) : Nat → Int
  | 0 => 0
  | j + 1 => if 0 < (f_X1_pullOf_17 x (Int32.ofNat j) w).toInt then kz_p x w j + (f_X1_pullOf_17 x (Int32.ofNat j) w).toInt else kz_p x w j
noncomputable def kz_b (x : kw_S) (w : Int32) : Nat → Nat
  | 0 => 0
  | j + 1 => if 0 < (f_X1_pullOf_17 x (Int32.ofNat j) w).toInt then 2 ^ j + kz_b x w j else kz_b x w j
theorem kz_sS (x : kw_S) (w : Int32) (s j : Nat) : kz_s x w s (j + 1) = if s.testBit j = true then kz_s x w s j + (f_X1_pullOf_17 x (Int32.ofNat j) w).toInt else kz_s x w s j := rfl
theorem kz_pS (x : kw_S) (w : Int32) (j : Nat) : kz_p x w (j + 1) = if 0 < (f_X1_pullOf_17 x (Int32.ofNat j) w).toInt then kz_p x w j + (f_X1_pullOf_17 x (Int32.ofNat j) w).toInt else kz_p x w j := rfl
theorem kz_bS (x : kw_S) (w : Int32) (j : Nat) : kz_b x w (j + 1) = if 0 < (f_X1_pullOf_17 x (Int32.ofNat j) w).toInt then 2 ^ j + kz_b x w j else kz_b x w j := rfl
theorem kz_cong (x : kw_S) (w : Int32) (s s' : Nat) : ∀ n : Nat, (∀ j : Nat, j < n → s.testBit j = s'.testBit j) → kz_s x w s n = kz_s x w s' n
  | 0, _ => rfl
  | n + 1, h => by rw [kz_sS, kz_sS, h n (by omega), kz_cong x w s s' n (fun j hj => h j (by omega))]
theorem kz_ofNatI (j : Nat) (h : j < 1000) : (Int32.ofNat j).toInt = j := nI_toInt (by omega)
theorem kz_bound {x m : kw_S} (hL : kr_L x m) (w : Int32) (w0 : 0 ≤ w.toInt) (w1 : w.toInt ≤ 6) (s : Nat) : ∀ n : Nat, n ≤ 6 → (kc_sp x w s n).toInt = kz_s x w s n ∧ -120 * (n : Int) ≤ kz_s x w s n ∧ kz_s x w s n ≤ kz_p x w n ∧ 0 ≤ kz_p x w n ∧ kz_p x w n ≤ 120 * (n : Int) ∧ kz_b x w n < 2 ^ n ∧ kz_s x w (kz_b x w n) n = kz_p x w n
  | 0, _ => ⟨rfl, by show -120 * ((0 : Nat) : Int) ≤ 0; omega, Int.le_refl 0, Int.le_refl 0, by show (0 : Int) ≤ 120 * ((0 : Nat) : Int); omega, by show 0 < 2 ^ 0; decide, rfl⟩
  | n + 1, hn => by
    obtain ⟨a1, a2, a3, a4, a5, a6, a7⟩ := kz_bound hL w w0 w1 s n (by omega)
    have pb := kc_pb hL (Int32.ofNat n) w w0 w1 (by rw [kz_ofNatI n (by omega)]; omega)
    have p2 : 2 ^ (n + 1) = 2 * 2 ^ n := by rw [Nat.pow_succ]; omega
    rw [kc_spS, kz_sS, kz_pS, kz_bS]
    generalize hp : f_X1_pullOf_17 x (Int32.ofNat n) w = p at *
    have e : (kc_sp x w s n + p).toInt = (kc_sp x w s n).toInt + p.toInt := by rw [kw_addI]; omega
    refine ⟨?_, ?_, ?_, ?_, ?_, ?_, ?_⟩
    · by_cases h : s.testBit n = true
      · rw [if_pos h, if_pos h, e, a1]
      · rw [if_neg h, if_neg h, a1]
    · by_cases h : s.testBit n = true
      · rw [if_pos h]; omega
      · rw [if_neg h]; omega
    · by_cases h : s.testBit n = true
      · rw [if_pos h]
        by_cases h0 : 0 < p.toInt
        · rw [if_pos h0]; omega
        · rw [if_neg h0]; omega
      · rw [if_neg h]
        by_cases h0 : 0 < p.toInt
        · rw [if_pos h0]; omega
        · rw [if_neg h0]; omega
    · by_cases h0 : 0 < p.toInt
      · rw [if_pos h0]; omega
      · rw [if_neg h0]; omega
    · by_cases h0 : 0 < p.toInt
      · rw [if_pos h0]; omega
      · rw [if_neg h0]; omega
    · by_cases h0 : 0 < p.toInt
      · rw [if_pos h0]; omega
      · rw [if_neg h0]; omega
    · by_cases h0 : 0 < p.toInt
      · rw [if_pos h0, if_pos h0, kz_sS, hp]
        have hb : (2 ^ n + kz_b x w n).testBit n = true := by rw [Nat.testBit_two_pow_add_eq, Nat.testBit_lt_two_pow a6]; rfl
        rw [if_pos hb, kz_cong x w (2 ^ n + kz_b x w n) (kz_b x w n) n (fun j hj => Nat.testBit_two_pow_add_gt hj _), a7]
      · rw [if_neg h0, if_neg h0, kz_sS, Nat.testBit_lt_two_pow a6, if_neg (by decide), a7]
theorem kz_div4 (a : Int32) (h0 : -1000000 ≤ a.toInt) (h1 : a.toInt ≤ 1000000) : (a / 4).toInt = a.toInt.tdiv 4 := by
  rw [Int32.toInt_div, show (4 : Int32).toInt = 4 from rfl]
  have h2 : a.toInt.tdiv 4 ≤ 1000000 ∧ -1000000 ≤ a.toInt.tdiv 4 := by
    by_cases h : 0 ≤ a.toInt
    · rw [Int.tdiv_eq_ediv_of_nonneg h]; omega
    · have e : a.toInt.tdiv 4 = -((-a.toInt).tdiv 4) := by rw [Int.neg_tdiv, Int.neg_neg]
      rw [e, Int.tdiv_eq_ediv_of_nonneg (by omega)]; omega
  exact Int.bmod_eq_of_le (by omega) (by omega)
theorem kz_mono (a b : Int) (h : a ≤ b) : a.tdiv 4 ≤ b.tdiv 4 := by
  by_cases ha : 0 ≤ a
  · rw [Int.tdiv_eq_ediv_of_nonneg ha, Int.tdiv_eq_ediv_of_nonneg (by omega)]; omega
  · have ea : a.tdiv 4 = -((-a).tdiv 4) := by rw [Int.neg_tdiv, Int.neg_neg]
    rw [ea, Int.tdiv_eq_ediv_of_nonneg (by omega)]
    by_cases hb : 0 ≤ b
    · rw [Int.tdiv_eq_ediv_of_nonneg hb]; omega
    · have eb : b.tdiv 4 = -((-b).tdiv 4) := by rw [Int.neg_tdiv, Int.neg_neg]
      rw [eb, Int.tdiv_eq_ediv_of_nonneg (by omega)]; omega
/-- miles of a set, as a whole number -/
theorem kz_miles {x m : kw_S} (hL : kr_L x m) (w : Int32) (w0 : 0 ≤ w.toInt) (w1 : w.toInt ≤ 6) (s : Int32) (s0 : 0 ≤ s.toInt) (s1 : s.toInt ≤ 63) : (f_X1_milesOf_17 x s w).toInt = (kz_s x w s.toNatClampNeg (x.1 17 5).toNatClampNeg).tdiv 4 := by
  have l2 := hL.2.1
  have cl := kw_clampI l2.1
  obtain ⟨a1, a2, a3, a4, a5, -, -⟩ := kz_bound hL w w0 w1 s.toNatClampNeg (x.1 17 5).toNatClampNeg (by omega)
  rw [kc_miles x s w l2.1 l2.2 s0 s1, kz_div4 _ (by omega) (by omega), a1]
theorem kz_allbits : ∀ l : Nat, l < 7 → ∀ i : Nat, i < l → (((((1 : Int32) <<< (Int32.ofNat l &&& 31)) - 1) >>> (Int32.ofNat i &&& 31)) &&& 1).toInt = 1 := by decide +kernel
theorem kz_most {x m : kw_S} (hL : kr_L x m) (w : Int32) (w0 : 0 ≤ w.toInt) (w1 : w.toInt ≤ 6) : (f_X1_mostMilesOf_17 x (f_X1_allLines_17 x) w).toInt = (kz_p x w (x.1 17 5).toNatClampNeg).tdiv 4 := by
  have l2 := hL.2.1
  have cl := kw_clampI l2.1
  have B := kz_bound hL w w0 w1 0
  have hall := kz_allbits (x.1 17 5).toNatClampNeg (by omega)
  rw [kd_ofNat _ l2.1] at hall
  rw [f_X1_allLines_17_u]
  simp only [kf_lx]
  generalize ((1 : Int32) <<< (x.1 17 5 &&& 31)) - 1 = A at *
  have L : ∀ (n : Nat) (a i : Int32), 0 ≤ i.toInt → i.toInt ≤ (x.1 17 5).toInt → a.toInt = kz_p x w i.toNatClampNeg → (6 - i.toInt).toNat < n → (l_X1_mostMilesOf_17_5 A w x n a i).toInt = (kz_p x w (x.1 17 5).toNatClampNeg).tdiv 4 := by
    intro n
    induction n with
    | zero => intro a i _ _ _ h; exact absurd h (Nat.not_lt_zero _)
    | succ n ih =>
      intro a i i0 i1 ha h1
      have ci := kw_clampI i0
      obtain ⟨-, -, -, b4, b5, -, -⟩ := B i.toNatClampNeg (by omega)
      rw [l_X1_mostMilesOf_17_5_s]
      simp only [kf_lx]
      by_cases hi : i.toInt < (x.1 17 5).toInt
      · have z := kp_inc i (by omega)
        have c1 := kw_clampI (x := i + Int32.ofInt 1) (by omega)
        have en : (i + Int32.ofInt 1).toNatClampNeg = i.toNatClampNeg + 1 := by omega
        have hb := hall i.toNatClampNeg (by omega)
        rw [kd_ofNat i i0] at hb
        have pb := kc_pb hL i w w0 w1 i0
        rw [if_pos hi, if_pos (show ((A >>> (i &&& 31)) &&& 1).toInt = (1 : Int32).toInt from hb)]
        refine ih _ _ (by omega) (by omega) ?_ (by omega)
        rw [en, kz_pS, kd_ofNat i i0]
        by_cases h0 : 0 < (f_X1_pullOf_17 x i w).toInt
        · rw [if_pos (show (0 : Int32) < f_X1_pullOf_17 x i w from Int32.lt_iff_toInt_lt.mpr (by rw [kp_q0]; exact h0)), if_pos h0, kw_addI]
          omega
        · rw [if_neg (show ¬ (0 : Int32) < f_X1_pullOf_17 x i w from fun q => h0 (by have := kw_ltI q; rw [kp_q0] at this; exact this)), if_neg h0, kw_addI, kp_q0]
          omega
      · have e : i.toNatClampNeg = (x.1 17 5).toNatClampNeg := by omega
        rw [if_neg hi, kz_div4 a (by omega) (by omega), ha, e]
  rw [f_X1_mostMilesOf_17_u]
  exact L _ _ _ (by decide) (by rw [kp_q0]; exact l2.1) rfl (by rw [kp_q0]; omega)
