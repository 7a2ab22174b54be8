/-! ===== answers that hang on the lines and winds alone ===== -/
theorem kt_windAt {x m : kw_S} (h : kr_L x m) (k : Int32) (h0 : 0 ≤ k.toInt) : f_X1_windAt_17 x k = f_X8_windAt_0 m k := by
  rw [f_X1_windAt_17_u, f_X8_windAt_0_u]
  simp only [kf_lx]
  rcases h.2.2.1 with ⟨l0, h6, w1, w2⟩ | ⟨l1, h6, g1, g2, hw⟩
  · have e := kw_remI k (m.1 0 11) _ rfl h0 (by rw [w1]; decide)
    rw [w1] at e ⊢
    have c := kw_clampI e.1
    rw [h6, if_pos (by decide), show (k - k / 1 * 1).toNatClampNeg = 0 by rw [kp_q1] at e; omega, w2]
  · have e := kw_remI k (x.1 17 6) _ rfl h0 (by omega)
    have c := kw_clampI e.1
    rw [if_neg (show ¬ (x.1 17 6).toInt < (1 : Int32).toInt by rw [kp_q1]; omega), if_neg (show ¬ k.toInt < 0 by omega), ← h6]
    exact (hw _ (by omega)).1
theorem kr_wind {x m : kw_S} {r q : Int32} (h : kr_L x m) (k : Int32) (e1 : r = f_X7_wind_0 x k) (e2 : q = f_X8_wind_0 m k) : r = q := by
  rw [e1, e2, f_X7_wind_0_u, f_X8_wind_0_u, f_X5_isEmpty_4_u]
  simp only [kf_lx, kp_in]
  have q9 : (999 : Int32).toInt = 999 := rfl
  obtain ⟨l1, l2, -, -⟩ := id h
  by_cases hk : (0 : Int32).toInt ≤ k.toInt ∧ k.toInt ≤ (999 : Int32).toInt
  · have hk' : 0 ≤ k.toInt ∧ k.toInt ≤ 999 := hk
    rw [if_pos hk, if_neg (by omega), if_neg (by omega), if_neg (show ¬ (1 : Int32).toInt = 0 by decide)]
    by_cases hl : (x.1 17 5).toInt < (1 : Int32).toInt
    · have hl' : (x.1 17 5).toInt < 1 := hl
      rw [if_pos hl, if_neg (by decide), if_pos (by rw [← l1]; omega)]
    · have hl' : ¬ (x.1 17 5).toInt < 1 := hl
      rw [if_neg hl, if_pos (by decide), if_neg (by rw [← l1]; omega)]
      exact kt_windAt h k hk'.1
  · have hk' : ¬ (0 ≤ k.toInt ∧ k.toInt ≤ 999) := hk
    rw [if_neg hk, if_pos (show (0 : Int32).toInt = 0 from rfl)]
    by_cases h2 : k.toInt < 0
    · rw [if_pos h2]
    · rw [if_neg h2, if_pos (by omega)]
theorem kt_set {x m : kw_S} (h : kr_L x m) (k : Int32) : f_X1_hasSet_17 x k = f_X8_isSet_0 m k := by
  rw [f_X1_hasSet_17_u, f_X8_isSet_0_u, f_X1_allLines_17_u]
  simp only [kf_lx, kp_in]
  rw [← h.1]
  generalize ((1 : Int32) <<< (x.1 17 5 &&& 31)) - 1 = z
  by_cases h0 : k.toInt < 0
  · rw [if_pos h0, if_neg (by rw [kp_q0]; omega)]
  · rw [if_neg h0]
    by_cases h1 : z.toInt < k.toInt
    · rw [if_pos h1, if_neg (by omega)]
    · rw [if_neg h1, if_pos (by rw [kp_q0]; omega)]
theorem kr_goes {x m s t : kw_S} {r q : Int32} (h : kr_L x m) (k : Int32) (e1 : (r, s) = f_X7_goes_0 x k) (e2 : (q, t) = f_X8_goes_0 m k) : r = q := by
  rw [f_X7_goes_0_u] at e1
  rw [f_X8_goes_0_u] at e2
  simp only [kf_lx, kf_bx] at e1 e2
  rw [kt_set h] at e1
  by_cases h0 : (f_X8_isSet_0 m k).toInt = 0
  · rw [if_pos h0] at e1 e2
    cases e1; cases e2
    rfl
  · rw [if_neg h0] at e1 e2
    cases e1; cases e2
    rfl
theorem kt_isLine {x m : kw_S} (h : kr_L x m) (k : Int32) : f_X1_hasLine_17 x k = f_X8_isLine_0 m k := by
  rw [f_X1_hasLine_17_u, f_X8_isLine_0_u]
  simp only [kf_lx, kp_in]
  rw [← h.1]
  have l2 := h.2.1
  have e : (x.1 17 5 - 1).toInt = (x.1 17 5).toInt - 1 := by rw [kw_subI, kp_q1]; omega
  by_cases h0 : k.toInt < 0
  · rw [if_pos h0, if_neg (by rw [kp_q0]; omega)]
  · rw [if_neg h0]
    by_cases h1 : k.toInt < (x.1 17 5).toInt
    · rw [if_pos h1, if_pos (by rw [kp_q0]; omega)]
    · rw [if_neg h1, if_neg (by omega)]
theorem kr_line {x m s t : kw_S} {r q : Int32} (h : kr_L x m) (k w : Int32) (e1 : (r, s) = f_X7_line_0 x k w) (e2 : (q, t) = f_X8_line_0 m k w) : r = q := by
  rw [f_X7_line_0_u] at e1
  rw [f_X8_line_0_u] at e2
  simp only [kf_lx, kf_bx, kp_in] at e1 e2
  rw [kt_isLine h] at e1
  have q6 : (6 : Int32).toInt = 6 := rfl
  by_cases h0 : (f_X8_isLine_0 m k).toInt = 0
  · rw [if_pos h0] at e1 e2
    cases e1; cases e2
    rfl
  · rw [if_neg h0] at e1 e2
    by_cases h1 : (0 : Int32).toInt ≤ w.toInt ∧ w.toInt ≤ (6 : Int32).toInt
    · have h1' : 0 ≤ w.toInt ∧ w.toInt ≤ 6 := h1
      simp only [if_pos h1] at e2
      rw [if_neg (by decide)] at e2
      rw [if_neg (by omega), if_neg (by omega)] at e1
      cases e1; cases e2
      rfl
    · have h1' : ¬ (0 ≤ w.toInt ∧ w.toInt ≤ 6) := h1
      simp only [if_neg h1] at e2
      rw [if_pos (by decide)] at e2
      by_cases h2 : w.toInt < 0
      · rw [if_pos h2] at e1
        cases e1; cases e2
        rfl
      · rw [if_neg h2, if_pos (by omega)] at e1
        cases e1; cases e2
        rfl
