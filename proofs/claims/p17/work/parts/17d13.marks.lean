/-! ===== answers that hang on the town as it is ===== -/
theorem kd_now {x m : kw_S} (hL : kr_L x m) (hD : kr_D x m) : (0 ≤ (x.1 4 5).toInt ∧ (x.1 4 5).toInt ≤ 40) ∧ (0 ≤ (x.1 4 4).toInt ∧ (x.1 4 4).toInt ≤ 63) ∧ ∀ i : Nat, 0 ≤ (x.1 19 i).toInt ∧ (x.1 19 i).toInt ≤ 9 := by
  have d2 := hD.2.1
  have cn := kw_clampI d2.1
  obtain ⟨w1, w2, w3⟩ := kd_run_ok hL.2.1.2 (x.1 18) (x.1 4 3).toNatClampNeg (by omega) hD.2.2.2.1
  rw [← hD.2.2.1] at w1 w2 w3
  have w1' : 0 ≤ (x.1 4 5).toInt ∧ (x.1 4 5).toInt ≤ (x.1 4 3).toNatClampNeg := w1
  exact ⟨by omega, w2, fun i => (w3 i).1⟩
theorem kd_windNow {x m : kw_S} (hL : kr_L x m) (hD : kr_D x m) : f_X5_windNow_4 x = f_X8_windAt_0 m (m.1 0 22) := by
  rw [f_X5_windNow_4_u]
  simp only [kf_lx]
  rw [kt_windAt hL _ (kd_now hL hD).1.1, show m.1 0 22 = x.1 4 5 from hD.2.2.2.2.1.1]
theorem kd_windAhead {x m : kw_S} (hL : kr_L x m) (hD : kr_D x m) (k : Int32) (h0 : 0 ≤ k.toInt) (h1 : k.toInt ≤ 1000) : f_X5_windAhead_4 x k = f_X8_windAt_0 m (m.1 0 22 + k) := by
  have n1 := (kd_now hL hD).1
  rw [f_X5_windAhead_4_u]
  simp only [kf_lx]
  have e : (x.1 4 5 + k).toInt = (x.1 4 5).toInt + k.toInt := by rw [kw_addI]; omega
  rw [kt_windAt hL _ (by omega), show m.1 0 22 = x.1 4 5 from hD.2.2.2.2.1.1]
theorem kd_storm {x m : kw_S} (hL : kr_L x m) (hD : kr_D x m) : f_X5_hoursToStorm_4 x = f_X8_hoursTill_0 m := by
  have L : ∀ (n n' : Nat) (i : Int32), 0 ≤ i.toInt → i.toInt ≤ 8 → (8 - i.toInt).toNat < n → (8 - i.toInt).toNat < n' → l_X5_hoursToStorm_4_2 x n i = l_X8_hoursTill_0_2 m n' i := by
    intro n
    induction n with
    | zero => intro n' i _ _ h _; exact absurd h (Nat.not_lt_zero _)
    | succ n ih =>
      intro n' i i0 i1 h1 h2
      cases n' with
      | zero => exact absurd h2 (Nat.not_lt_zero _)
      | succ n' =>
        rw [l_X5_hoursToStorm_4_2_s, l_X8_hoursTill_0_2_s]
        simp only [kf_lx]
        by_cases hi : i.toInt < (8 : Int32).toInt
        · have hi' : i.toInt < 8 := hi
          have z := kp_inc i (by omega)
          rw [if_pos hi, if_pos hi, kd_windAhead hL hD i i0 (by omega)]
          by_cases hw : (f_X8_windAt_0 m (m.1 0 22 + i)).toInt < (3 : Int32).toInt
          · rw [if_pos hw, if_pos hw]
            exact ih n' _ (by omega) (by omega) (by omega) (by omega)
          · rw [if_neg hw, if_neg hw, if_pos hi]
        · rw [if_neg hi, if_neg hi, if_neg hi]
  rw [f_X5_hoursToStorm_4_u, f_X8_hoursTill_0_u]
  exact L _ _ _ (by decide) (by decide) (by rw [kp_q0]; omega) (by rw [kp_q0]; omega)
theorem kd_others {x m : kw_S} (hL : kr_L x m) (k : Int32) (k0 : 0 ≤ k.toInt) (k1 : k.toInt < (x.1 17 5).toInt) : f_X1_othersNoWider_17 x k = f_X8_lesserOnes_0 m k := by
  have l2 := hL.2.1
  have ck := kw_clampI k0
  have gk := (hL.2.2.2 k.toNatClampNeg (by omega)).2.2.1
  have L : ∀ (n n' : Nat) (a i : Int32), 0 ≤ i.toInt → i.toInt ≤ 6 → (6 - i.toInt).toNat < n → (6 - i.toInt).toNat < n' → l_X1_othersNoWider_17_14 k x n a i = l_X8_lesserOnes_0_4 k m n' a i := by
    intro n
    induction n with
    | zero => intro n' a i _ _ h _; exact absurd h (Nat.not_lt_zero _)
    | succ n ih =>
      intro n' a i i0 i1 h1 h2
      cases n' with
      | zero => exact absurd h2 (Nat.not_lt_zero _)
      | succ n' =>
        rw [l_X1_othersNoWider_17_14_s, l_X8_lesserOnes_0_4_s, ← hL.1]
        simp only [kf_lx]
        by_cases hi : i.toInt < (x.1 17 5).toInt
        · have z := kp_inc i (by omega)
          have ci := kw_clampI i0
          have gi := (hL.2.2.2 i.toNatClampNeg (by omega)).2.2.1
          rw [if_pos hi, if_pos hi]
          by_cases he : i.toInt = k.toInt
          · rw [if_pos he, if_pos he, Int32.add_zero]
            exact ih n' _ _ (by omega) (by omega) (by omega) (by omega)
          · rw [if_neg he, if_neg he, gi, gk]
            by_cases hw : (m.1 10 k.toNatClampNeg).toInt < (m.1 10 i.toNatClampNeg).toInt
            · rw [if_pos hw, if_pos hw, Int32.add_zero]
              exact ih n' _ _ (by omega) (by omega) (by omega) (by omega)
            · rw [if_neg hw, if_neg hw, show (Int32.ofInt 1) = 1 from rfl]
              rw [show (Int32.ofInt 1) = 1 from rfl] at z
              exact ih n' _ _ (by omega) (by omega) (by omega) (by omega)
        · rw [if_neg hi, if_neg hi]
  rw [f_X1_othersNoWider_17_u, f_X8_lesserOnes_0_u, f_X1_hasLine_17_u]
  simp only [kf_lx]
  rw [if_neg (show ¬ k.toInt < 0 by omega), if_pos k1, if_neg (by decide)]
  exact L _ _ _ _ (by decide) (by decide) (by rw [kp_q0]; omega) (by rw [kp_q0]; omega)
theorem kd_isA0 (σ : kw_S) (a b : Int32) : f_X7_isA σ a b = f_X7_isA kz0 a b := by
  have L : ∀ (n : Nat) (p q : Int32), l_X7_isA_4 a b σ n p q = l_X7_isA_4 a b kz0 n p q := by
    intro n
    induction n with
    | zero => intro p q; rfl
    | succ n ih =>
      intro p q
      rw [l_X7_isA_4_s, l_X7_isA_4_s]
      simp only [kf_lx, ih]
  rw [f_X7_isA_u, f_X7_isA_u]
  exact L _ _ _
theorem kd_isA36 : ∀ i : Nat, i < 6 → ∀ j : Nat, j < 5 → f_X7_isA kz0 (Int32.ofNat i) (Int32.ofNat (j + 1)) = f_X8_isA kz0 (Int32.ofNat i) (Int32.ofNat (j + 1)) := by decide +kernel
theorem kd_isA (σ τ : kw_S) (a b : Int32) (a0 : 0 ≤ a.toInt) (a1 : a.toInt ≤ 5) (b0 : 1 ≤ b.toInt) (b1 : b.toInt ≤ 5) : f_X7_isA σ a b = f_X8_isA τ a b := by
  have ca := kw_clampI a0
  have cb := kw_clampI (x := b) (by omega)
  rw [kd_isA0, show f_X8_isA τ a b = f_X8_isA kz0 a b from rfl, ← kd_ofNat a a0, ← kd_ofNat b (by omega), show b.toNatClampNeg = (b.toNatClampNeg - 1) + 1 by omega]
  exact kd_isA36 _ (by omega) _ (by omega)
theorem kd_black : ∀ h : Nat, h < 64 → ∀ i : Nat, i < 6 → 0 ≤ (Int32.ofNat h &&& (((1 : Int32) <<< (Int32.ofNat i &&& 31)) ^^^ -1)).toInt ∧ (Int32.ofNat h &&& (((1 : Int32) <<< (Int32.ofNat i &&& 31)) ^^^ -1)).toInt ≤ 63 := by decide +kernel
theorem kr_mark {x m s t : kw_S} {r q : Int32} (hL : kr_L x m) (hD : kr_D x m) (i k : Int32) (e1 : (r, s) = f_X7_mark_0 x i k) (e2 : (q, t) = f_X8_mark_0 m i k) : r = q := by
  rw [f_X7_mark_0_u] at e1
  rw [f_X8_mark_0_u] at e2
  simp only [kf_lx, kf_bx, kp_in] at e1 e2
  have l2 := hL.2.1
  have q6 : (6 : Int32).toInt = 6 := rfl
  have q5 : (5 : Int32).toInt = 5 := rfl
  by_cases h0 : (f_X1_hasLine_17 x i).toInt = 0
  · rw [if_pos h0] at e1
    rw [← kt_isLine hL, if_pos h0] at e2
    cases e1; cases e2
    rfl
  · have hi := kd_lineIn i h0
    have ci := kw_clampI hi.1
    rw [if_neg h0] at e1
    rw [← kt_isLine hL, if_neg h0] at e2
    by_cases h1 : (1 : Int32).toInt ≤ k.toInt ∧ k.toInt ≤ (5 : Int32).toInt
    · have h1' : 1 ≤ k.toInt ∧ k.toInt ≤ 5 := h1
      rw [if_pos (show 0 < k.toInt by omega), if_pos (show k.toInt < (6 : Int32).toInt by omega)] at e1
      simp only [if_pos h1] at e2
      rw [if_neg (show ¬ (1 : Int32).toInt = 0 by decide)] at e2
      obtain ⟨g1, g2, g3, g4, b1, -⟩ := hL.2.2.2 i.toNatClampNeg (by omega)
      rw [kd_isA x m _ k b1.1 b1.2 h1'.1 h1'.2, g1] at e1
      by_cases h2 : (f_X8_isA m (m.1 8 i.toNatClampNeg) k).toInt = 0
      · rw [if_pos h2] at e1 e2
        obtain ⟨r1, -⟩ := Prod.mk.inj e1
        obtain ⟨r2, -⟩ := Prod.mk.inj e2
        rw [r1, r2]
        exact (kp_refuse1 _ _).trans (kp_meet1 _ _).symm
      · rw [if_neg h2] at e1 e2
        by_cases k1 : k.toInt = 1
        · rw [if_pos k1] at e1 e2
          rw [kt_pullOf hL i 5 hi.1 hi.2] at e1
          cases e1; cases e2
          rfl
        rw [if_neg k1] at e1 e2
        by_cases k2 : k.toInt = 2
        · rw [if_pos k2] at e1 e2
          rw [kd_storm hL hD] at e1
          cases e1; cases e2
          rfl
        rw [if_neg k2] at e1 e2
        by_cases k3 : k.toInt = 3
        · rw [if_pos k3] at e1 e2
          obtain ⟨r1, -⟩ := Prod.mk.inj e1
          obtain ⟨r2, -⟩ := Prod.mk.inj e2
          have n2 := (kd_now hL hD).2.1
          have ch := kw_clampI n2.1
          have hb := kd_black (x.1 4 4).toNatClampNeg (by omega) i.toNatClampNeg (by omega)
          rw [kd_ofNat _ n2.1, kd_ofNat _ hi.1] at hb
          rw [r1, r2, show m.1 0 25 = x.1 4 4 from hD.2.2.2.2.1.2.2.2.1]
          exact kd_bits _ _ _ hb.1 hb.2
        rw [if_neg k3] at e1 e2
        by_cases k4 : k.toInt = 4
        · rw [if_pos k4] at e1 e2
          rw [kd_others hL i hi.1 hi.2] at e1
          cases e1; cases e2
          rfl
        rw [if_neg k4] at e1 e2
        rw [kd_windNow hL hD, kt_pullOf hL i _ hi.1 hi.2, g3, kt_pull x m] at e1
        cases e1; cases e2
        rfl
    · have h1' : ¬ (1 ≤ k.toInt ∧ k.toInt ≤ 5) := h1
      simp only [if_neg h1] at e2
      rw [if_pos (show (0 : Int32).toInt = 0 from rfl)] at e2
      cases e2
      by_cases h5 : 0 < k.toInt
      · rw [if_pos h5, if_neg (show ¬ k.toInt < (6 : Int32).toInt by omega)] at e1
        cases e1
        rfl
      · rw [if_neg h5] at e1
        cases e1
        rfl
/-! which lines are wet -/
def kb_or (b : Nat → Bool) : Nat → Int32
  | 0 => 0
  | i + 1 => if b i = true then kb_or b i ||| ((1 : Int32) <<< (Int32.ofNat i &&& 31)) else kb_or b i
theorem kb_or_cong {b b' : Nat → Bool} : ∀ n : Nat, (∀ i : Nat, i < n → b i = b' i) → kb_or b n = kb_or b' n
  | 0, _ => rfl
  | n + 1, h => by
    show (if b n = true then _ else _) = (if b' n = true then _ else _)
    rw [h n (by omega), kb_or_cong n (fun i hi => h i (by omega))]
theorem kb_not : ∀ k : Nat, k < 64 → ∀ l : Nat, l < 7 → (((1 : Int32) <<< (Int32.ofNat l &&& 31)) - 1) &&& (kb_or (fun i => k.testBit i) l ^^^ -1) = kb_or (fun i => !k.testBit i) l := by decide +kernel
theorem kb_mask6 : ∀ b0 b1 b2 b3 b4 b5 : Bool, ∃ k : Nat, k < 64 ∧ k.testBit 0 = b0 ∧ k.testBit 1 = b1 ∧ k.testBit 2 = b2 ∧ k.testBit 3 = b3 ∧ k.testBit 4 = b4 ∧ k.testBit 5 = b5 := by
  intro b0 b1 b2 b3 b4 b5
  refine ⟨b0.toNat + 2 * b1.toNat + 4 * b2.toNat + 8 * b3.toNat + 16 * b4.toNat + 32 * b5.toNat, ?_⟩
  cases b0 <;> cases b1 <;> cases b2 <;> cases b3 <;> cases b4 <;> cases b5 <;> decide
theorem kb_mask (b : Nat → Bool) : ∃ k : Nat, k < 64 ∧ ∀ i : Nat, i < 6 → k.testBit i = b i := by
  obtain ⟨k, h, h0, h1, h2, h3, h4, h5⟩ := kb_mask6 (b 0) (b 1) (b 2) (b 3) (b 4) (b 5)
  refine ⟨k, h, fun i hi => ?_⟩
  rcases (show i = 0 ∨ i = 1 ∨ i = 2 ∨ i = 3 ∨ i = 4 ∨ i = 5 by omega) with rfl | rfl | rfl | rfl | rfl | rfl <;> assumption
theorem kb_flip (b : Nat → Bool) (l : Nat) (hl : l < 7) : (((1 : Int32) <<< (Int32.ofNat l &&& 31)) - 1) &&& (kb_or b l ^^^ -1) = kb_or (fun i => !b i) l := by
  obtain ⟨k, h, hk⟩ := kb_mask b
  rw [← kb_or_cong l (fun i hi => hk i (by omega)), kb_not k h l hl]
  exact kb_or_cong l (fun i hi => by rw [hk i (by omega)])
theorem kd_drySet (S : kw_S) (l0 : 0 ≤ (S.1 17 5).toInt) (l6 : (S.1 17 5).toInt ≤ 6) : f_X7_drySet_0_19 S = kb_or (fun i => decide ((S.1 19 i).toInt = 0)) (S.1 17 5).toNatClampNeg := by
  have cl := kw_clampI l0
  have L : ∀ (n : Nat) (a i : Int32), 0 ≤ i.toInt → i.toInt ≤ (S.1 17 5).toInt → a = kb_or (fun i => decide ((S.1 19 i).toInt = 0)) i.toNatClampNeg → (6 - i.toInt).toNat < n → l_X7_drySet_0_19_4 S n a i = kb_or (fun i => decide ((S.1 19 i).toInt = 0)) (S.1 17 5).toNatClampNeg := by
    intro n
    induction n with
    | zero => intro a i _ _ _ h; exact absurd h (Nat.not_lt_zero _)
    | succ n ih =>
      intro a i i0 i1 ha h1
      have ci := kw_clampI i0
      rw [l_X7_drySet_0_19_4_s]
      simp only [kf_lx]
      by_cases hi : i.toInt < (S.1 17 5).toInt
      · have z := kp_inc i (by omega)
        have c1 := kw_clampI (x := i + Int32.ofInt 1) (by omega)
        have en : (i + Int32.ofInt 1).toNatClampNeg = i.toNatClampNeg + 1 := by omega
        rw [if_pos hi]
        by_cases hw : (S.1 19 i.toNatClampNeg).toInt = 0
        · rw [if_pos hw]
          refine ih _ _ (by omega) (by omega) ?_ (by omega)
          rw [en]
          show _ = if decide ((S.1 19 i.toNatClampNeg).toInt = 0) = true then _ else _
          rw [if_pos (decide_eq_true hw), kd_ofNat i i0, ha]
        · rw [if_neg hw]
          refine ih _ _ (by omega) (by omega) ?_ (by omega)
          rw [en]
          show _ = if decide ((S.1 19 i.toNatClampNeg).toInt = 0) = true then _ else _
          rw [if_neg (fun q => hw (of_decide_eq_true q)), ha]
      · rw [if_neg hi, ha, show i.toNatClampNeg = (S.1 17 5).toNatClampNeg by omega]
  rw [f_X7_drySet_0_19_u]
  exact L _ _ _ (by decide) (by rw [kp_q0]; exact l0) rfl (by rw [kp_q0]; omega)
theorem kr_wet {x m s t : kw_S} {r q : Int32} (hL : kr_L x m) (hD : kr_D x m) (e1 : (r, s) = f_X7_wet_0 x) (e2 : (q, t) = f_X8_wet_0 m) : r = q := by
  have l2 := hL.2.1
  have cl := kw_clampI l2.1
  rw [f_X7_wet_0_u] at e1
  rw [f_X8_wet_0_u] at e2
  simp only [kf_lx, kf_bx, f_X1_allLines_17_u] at e1
  have eS : (f_X4_answer_8 x (f_X5_allWet_4 x)).2 = kw_ui x 8 2 (f_X5_allWet_4 x) := by rw [f_X4_answer_8_u]
  rw [eS] at e1
  have e17 : (kw_ui x 8 2 (f_X5_allWet_4 x)).1 17 = x.1 17 := by funext j; simp [kp_ui]
  have e19 : (kw_ui x 8 2 (f_X5_allWet_4 x)).1 19 = x.1 19 := by funext j; simp [kp_ui]
  rw [kd_drySet _ (by rw [e17]; exact l2.1) (by rw [e17]; exact l2.2), e17, e19] at e1
  have hf := kb_flip (fun i => decide ((x.1 19 i).toInt = 0)) (x.1 17 5).toNatClampNeg (by omega)
  rw [kd_ofNat _ l2.1] at hf
  rw [hf] at e1
  have n3 := (kd_now hL hD).2.2
  have L : ∀ (n : Nat) (a i : Int32), 0 ≤ i.toInt → i.toInt ≤ (x.1 17 5).toInt → a = kb_or (fun i => !decide ((x.1 19 i).toInt = 0)) i.toNatClampNeg → (6 - i.toInt).toNat < n → (l_X8_wet_0_4 m n a i).1 = kb_or (fun i => !decide ((x.1 19 i).toInt = 0)) (x.1 17 5).toNatClampNeg := by
    intro n
    induction n with
    | zero => intro a i _ _ _ h; exact absurd h (Nat.not_lt_zero _)
    | succ n ih =>
      intro a i i0 i1 ha h1
      have ci := kw_clampI i0
      rw [l_X8_wet_0_4_s, ← hL.1]
      simp only [kf_lx, kf_bx]
      by_cases hi : i.toInt < (x.1 17 5).toInt
      · have z := kp_inc i (by omega)
        have c1 := kw_clampI (x := i + Int32.ofInt 1) (by omega)
        have en : (i + Int32.ofInt 1).toNatClampNeg = i.toNatClampNeg + 1 := by omega
        have ew : m.1 14 i.toNatClampNeg = x.1 19 i.toNatClampNeg := hD.2.2.2.2.1.2.2.2.2 i.toNatClampNeg (by omega)
        have nb := n3 i.toNatClampNeg
        rw [if_pos hi, ew]
        by_cases hw : (x.1 19 i.toNatClampNeg).toInt = 0
        · rw [if_neg (show ¬ 0 < (x.1 19 i.toNatClampNeg).toInt by omega)]
          refine ih _ _ (by omega) (by omega) ?_ (by omega)
          rw [en]
          show _ = if (!decide ((x.1 19 i.toNatClampNeg).toInt = 0)) = true then _ else _
          rw [if_neg (by simp [hw]), ha, Int32.or_zero]
        · rw [if_pos (show 0 < (x.1 19 i.toNatClampNeg).toInt by omega)]
          refine ih _ _ (by omega) (by omega) ?_ (by omega)
          rw [en]
          show _ = if (!decide ((x.1 19 i.toNatClampNeg).toInt = 0)) = true then _ else _
          rw [if_pos (by simp [hw]), kd_ofNat i i0, ha]
      · rw [if_neg hi, f_X8_ask_0_u, ha, show i.toNatClampNeg = (x.1 17 5).toNatClampNeg by omega]
  have hm := L ((7 - (0 : Int32).toInt).toNat + 1) 0 0 (by decide) (by rw [kp_q0]; exact l2.1) rfl (by rw [kp_q0]; omega)
  rw [← e2] at hm
  obtain ⟨r1, -⟩ := Prod.mk.inj e1
  rw [r1]
  exact hm.symm
