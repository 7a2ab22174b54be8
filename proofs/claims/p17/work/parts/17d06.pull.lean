/-! ===== pulls, miles, turns: the class's layout and the reference ===== -/
theorem kp_has8 (σ : kw_S) (s k : Int32) : f_X8_has σ s k = if ((s >>> (k &&& 31)) &&& 1).toInt = 1 then 1 else 0 := by
  rw [f_X8_has_u]
  rfl
theorem kp_bit01 (s k : Int32) : ((s >>> (k &&& 31)) &&& 1).toInt = 0 ∨ ((s >>> (k &&& 31)) &&& 1).toInt = 1 := by
  have h1 := vp_in_iff.mp (pk_andIn (s >>> (k &&& 31)) (m := 1) 1 rfl (by decide))
  have e : ((2 ^ 1 : Nat) : Int) = 2 := rfl
  omega
theorem kt_pull (σ τ : kw_S) (k a w : Int32) : f_X7_pull σ k a w = f_X8_pullBy τ k a w := by
  rw [f_X7_pull_u, f_X8_pullBy_u]
  simp only [kf_lx]
  rw [Int32.neg_mul]
theorem kt_pullOf {x m : kw_S} (h : kr_L x m) (i w : Int32) (h0 : 0 ≤ i.toInt) (h1 : i.toInt < (x.1 17 5).toInt) : f_X1_pullOf_17 x i w = f_X8_pullOf_0 m i w := by
  rw [f_X1_pullOf_17_u, f_X8_pullOf_0_u, f_X1_hasLine_17_u]
  simp only [kf_lx]
  have c := kw_clampI h0
  obtain ⟨g1, -, g3, -⟩ := h.2.2.2 i.toNatClampNeg (by omega)
  rw [if_neg (show ¬ i.toInt < 0 by omega), if_pos h1, if_neg (by decide), g1, g3]
  exact kt_pull _ _ _ _ _
theorem kt_miles {x m : kw_S} (h : kr_L x m) (s w : Int32) : f_X1_milesOf_17 x s w = f_X8_milesBy_0 m s w := by
  have l2 := h.2.1
  have L : ∀ (n n' : Nat) (a i : Int32), 0 ≤ i.toInt → i.toInt ≤ 6 → (6 - i.toInt).toNat < n → (6 - i.toInt).toNat < n' → l_X1_milesOf_17_5 s w x n a i = l_X8_milesBy_0_5 s w m n' a i := by
    intro n
    induction n with
    | zero => intro n' a i _ _ h _; exact absurd h (Nat.not_lt_zero _)
    | succ n ih =>
      intro n' a i h0 h6 h1 h2
      cases n' with
      | zero => exact absurd h2 (Nat.not_lt_zero _)
      | succ n' =>
        rw [l_X1_milesOf_17_5_s, l_X8_milesBy_0_5_s, ← h.1]
        simp only [kf_lx, kp_has8]
        by_cases hi : i.toInt < (x.1 17 5).toInt
        · have z := kp_inc i (by omega)
          rw [if_pos hi, if_pos hi]
          by_cases hb : ((s >>> (i &&& 31)) &&& 1).toInt = 1
          · rw [if_pos (show ((s >>> (i &&& 31)) &&& 1).toInt = (1 : Int32).toInt from hb)]
            simp only [if_pos hb]
            rw [if_neg (show ¬ (1 : Int32).toInt = 0 by decide), kt_pullOf h i w h0 hi]
            exact ih n' _ _ (by omega) (by omega) (by omega) (by omega)
          · rw [if_neg (show ¬ ((s >>> (i &&& 31)) &&& 1).toInt = (1 : Int32).toInt from hb)]
            simp only [if_neg hb]
            rw [if_pos (show (0 : Int32).toInt = 0 from rfl), Int32.add_zero]
            exact ih n' _ _ (by omega) (by omega) (by omega) (by omega)
        · rw [if_neg hi, if_neg hi]
  rw [f_X1_milesOf_17_u, f_X8_milesBy_0_u]
  exact L _ _ _ _ (by decide) (by decide) (by rw [kp_q0]; omega) (by rw [kp_q0]; omega)
theorem kt_turn {x m : kw_S} (h : kr_L x m) (s w : Int32) : f_X1_turnOf_17 x s w = f_X8_turnBy_0 m s w := by
  have l2 := h.2.1
  have L : ∀ (n n' : Nat) (a i : Int32), 0 ≤ i.toInt → i.toInt ≤ 6 → (6 - i.toInt).toNat < n → (6 - i.toInt).toNat < n' → l_X1_turnOf_17_5 s w x n a i = l_X8_turnBy_0_5 s w m n' a i := by
    intro n
    induction n with
    | zero => intro n' a i _ _ h _; exact absurd h (Nat.not_lt_zero _)
    | succ n ih =>
      intro n' a i h0 h6 h1 h2
      cases n' with
      | zero => exact absurd h2 (Nat.not_lt_zero _)
      | succ n' =>
        rw [l_X1_turnOf_17_5_s, l_X8_turnBy_0_5_s, ← h.1]
        simp only [kf_lx, kp_has8]
        by_cases hi : i.toInt < (x.1 17 5).toInt
        · have z := kp_inc i (by omega)
          have c := kw_clampI h0
          obtain ⟨-, g2, -, -⟩ := h.2.2.2 i.toNatClampNeg (by omega)
          rw [if_pos hi, if_pos hi]
          by_cases hb : ((s >>> (i &&& 31)) &&& 1).toInt = 1
          · rw [if_pos (show ((s >>> (i &&& 31)) &&& 1).toInt = (1 : Int32).toInt from hb)]
            simp only [if_pos hb]
            rw [if_neg (show ¬ (1 : Int32).toInt = 0 by decide), kt_pullOf h i w h0 hi, g2]
            exact ih n' _ _ (by omega) (by omega) (by omega) (by omega)
          · rw [if_neg (show ¬ ((s >>> (i &&& 31)) &&& 1).toInt = (1 : Int32).toInt from hb)]
            simp only [if_neg hb]
            rw [if_pos (show (0 : Int32).toInt = 0 from rfl), Int32.add_zero]
            exact ih n' _ _ (by omega) (by omega) (by omega) (by omega)
        · rw [if_neg hi, if_neg hi]
  rw [f_X1_turnOf_17_u, f_X8_turnBy_0_u]
  exact L _ _ _ _ (by decide) (by decide) (by rw [kp_q0]; omega) (by rw [kp_q0]; omega)
theorem kt_linen {x m : kw_S} (h : kr_L x m) (s : Int32) : f_X1_linenOf_17 x s = f_X8_linenOf_0 m s := by
  have l2 := h.2.1
  have L : ∀ (n n' : Nat) (a i : Int32), 0 ≤ i.toInt → i.toInt ≤ 6 → (6 - i.toInt).toNat < n → (6 - i.toInt).toNat < n' → l_X1_linenOf_17_4 s x n a i = l_X8_linenOf_0_4 s m n' a i := by
    intro n
    induction n with
    | zero => intro n' a i _ _ h _; exact absurd h (Nat.not_lt_zero _)
    | succ n ih =>
      intro n' a i h0 h6 h1 h2
      cases n' with
      | zero => exact absurd h2 (Nat.not_lt_zero _)
      | succ n' =>
        rw [l_X1_linenOf_17_4_s, l_X8_linenOf_0_4_s, ← h.1]
        simp only [kf_lx, kp_has8]
        by_cases hi : i.toInt < (x.1 17 5).toInt
        · have z := kp_inc i (by omega)
          have c := kw_clampI h0
          obtain ⟨-, -, -, g4, -⟩ := h.2.2.2 i.toNatClampNeg (by omega)
          rw [if_pos hi, if_pos hi]
          by_cases hb : ((s >>> (i &&& 31)) &&& 1).toInt = 1
          · rw [if_pos (show ((s >>> (i &&& 31)) &&& 1).toInt = (1 : Int32).toInt from hb)]
            simp only [if_pos hb]
            rw [if_neg (show ¬ (1 : Int32).toInt = 0 by decide), g4]
            exact ih n' _ _ (by omega) (by omega) (by omega) (by omega)
          · rw [if_neg (show ¬ ((s >>> (i &&& 31)) &&& 1).toInt = (1 : Int32).toInt from hb)]
            simp only [if_neg hb]
            rw [if_pos (show (0 : Int32).toInt = 0 from rfl), Int32.add_zero]
            exact ih n' _ _ (by omega) (by omega) (by omega) (by omega)
        · rw [if_neg hi, if_neg hi]
  rw [f_X1_linenOf_17_u, f_X8_linenOf_0_u]
  exact L _ _ _ _ (by decide) (by decide) (by rw [kp_q0]; omega) (by rw [kp_q0]; omega)
/-! what hangs on the layout's cells alone -/
def kd_lay (x y : kw_S) : Prop := ∀ b : Nat, b = 17 ∨ 44 ≤ b ∧ b ≤ 48 → y.1 b = x.1 b
theorem kd_lay.windAt {x y : kw_S} (h : kd_lay x y) (k : Int32) : f_X1_windAt_17 y k = f_X1_windAt_17 x k := by
  rw [f_X1_windAt_17_u, f_X1_windAt_17_u, h 17 (by omega), h 48 (by omega)]
theorem kd_lay.pullOf {x y : kw_S} (h : kd_lay x y) (i w : Int32) : f_X1_pullOf_17 y i w = f_X1_pullOf_17 x i w := by
  rw [f_X1_pullOf_17_u, f_X1_pullOf_17_u, f_X1_hasLine_17_u, f_X1_hasLine_17_u, h 17 (by omega), h 44 (by omega), h 46 (by omega)]
  rfl
theorem kd_lay.miles {x y : kw_S} (h : kd_lay x y) (s w : Int32) : f_X1_milesOf_17 y s w = f_X1_milesOf_17 x s w := by
  have L : ∀ (n : Nat) (a i : Int32), l_X1_milesOf_17_5 s w y n a i = l_X1_milesOf_17_5 s w x n a i := by
    intro n
    induction n with
    | zero => intro a i; rfl
    | succ n ih =>
      intro a i
      rw [l_X1_milesOf_17_5_s, l_X1_milesOf_17_5_s]
      simp only [kf_lx, ih, h.pullOf, h 17 (Or.inl rfl)]
  rw [f_X1_milesOf_17_u, f_X1_milesOf_17_u]
  exact L _ _ _
theorem kd_lay.turn {x y : kw_S} (h : kd_lay x y) (s w : Int32) : f_X1_turnOf_17 y s w = f_X1_turnOf_17 x s w := by
  have L : ∀ (n : Nat) (a i : Int32), l_X1_turnOf_17_5 s w y n a i = l_X1_turnOf_17_5 s w x n a i := by
    intro n
    induction n with
    | zero => intro a i; rfl
    | succ n ih =>
      intro a i
      rw [l_X1_turnOf_17_5_s, l_X1_turnOf_17_5_s]
      simp only [kf_lx, ih, h.pullOf, h 17 (Or.inl rfl), h 45 (by omega)]
  rw [f_X1_turnOf_17_u, f_X1_turnOf_17_u]
  exact L _ _ _
theorem kd_lay.of {L : List Nat} {x y : kw_S} (F : kw_F L x y) (h : ∀ a ∈ L, ¬ (a = 17 ∨ 44 ≤ a ∧ a ≤ 48)) : kd_lay x y := fun b hb => (F b (fun q => h b q hb)).1
theorem kd_lay.rf {x : kw_S} : kd_lay x x := fun _ _ => rfl
theorem kd_lay.tr {x y z : kw_S} (h : kd_lay x y) (h' : kd_lay y z) : kd_lay x z := fun b hb => (h' b hb).trans (h b hb)
theorem kd_lay.sy {x y : kw_S} (h : kd_lay x y) : kd_lay y x := fun b hb => (h b hb).symm
