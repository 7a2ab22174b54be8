/-! ===== far 3: the reference's loops ===== -/
def kg_Bm (n : Nat) (w : Int32) (S : kw_S) : kg_B → Prop
  | none => w = -1048576
  | some (c, q) => w = c ∧ kg_mi 3 c ∧ ∀ j : Nat, j < n → S.1 20 j = q j
theorem kg_mi.up {k : Nat} {a : Int32} (h : kg_mi k a) (hk : k ≤ 3) : kg_mi 3 a := by
  have h1 := h.1
  have h2 := h.2
  constructor <;> omega
theorem kg_leafm {n : Nat} (hn : n ≤ 3) {w z a0 a1 a2 : Int32} {S S0 : kw_S} {b : kg_B} (p : Nat → Int32) (hF : kw_FM [20] S0 S) (hB : kg_Bm n w S b) (hz : kg_mi 3 z) (p0 : 0 < n → p 0 = a0) (p1 : 1 < n → p 1 = a1) (p2 : 2 < n → p 2 = a2) : (w.toInt < z.toInt → kw_FM [20] S0 (kw_ui (kw_ui (kw_ui S 20 0 a0) 20 1 a1) 20 2 a2) ∧ kg_Bm n z (kw_ui (kw_ui (kw_ui S 20 0 a0) 20 1 a1) 20 2 a2) (kg_up z p b)) ∧ (¬ w.toInt < z.toInt → kg_Bm n w S (kg_up z p b)) := by
  have qm : (-1048576 : Int32).toInt = -1048576 := rfl
  have v : ∀ j : Nat, j < n → (kw_ui (kw_ui (kw_ui S 20 0 a0) 20 1 a1) 20 2 a2).1 20 j = p j := by
    intro j hj
    have hj3 : j = 0 ∨ j = 1 ∨ j = 2 := by omega
    rcases hj3 with rfl | rfl | rfl
    · rw [kp_ui, if_neg (by decide), kp_ui, if_neg (by decide), kp_ui, if_pos ⟨rfl, rfl⟩, p0 hj]
    · rw [kp_ui, if_neg (by decide), kp_ui, if_pos ⟨rfl, rfl⟩, p1 hj]
    · rw [kp_ui, if_pos ⟨rfl, rfl⟩, p2 hj]
  refine ⟨fun h => ⟨kw_FM_ui (kw_FM_ui (kw_FM_ui hF (by decide) (by decide)) (by decide) (by decide)) (by decide) (by decide), ?_⟩, fun h => ?_⟩
  · have e : kg_up z p b = some (z, p) := by
      rcases b with _ | ⟨c, q⟩
      · rfl
      · have hc : w = c := hB.1
        show (if c.toInt < z.toInt then some (z, p) else some (c, q)) = some (z, p)
        rw [if_pos (by rw [← hc]; exact h)]
    rw [e]
    exact ⟨rfl, hz, v⟩
  · rcases b with _ | ⟨c, q⟩
    · have hw : w = -1048576 := hB
      have h1 := hz.1
      rw [hw, qm] at h
      omega
    · have hc : w = c := hB.1
      have e : kg_up z p (some (c, q)) = some (c, q) := by
        show (if c.toInt < z.toInt then some (z, p) else some (c, q)) = some (c, q)
        rw [if_neg (by rw [← hc]; exact h)]
      rw [e]
      exact hB
theorem kg_isTurn (S : kw_S) (z t : Int32) (t0 : 0 ≤ t.toInt) : f_X8_isTurn S z t = if -t.toInt ≤ z.toInt ∧ z.toInt ≤ t.toInt then 1 else 0 := by
  have r := kw_rng t
  have e : (-t).toInt = -t.toInt := by rw [kw_negI]; omega
  rw [f_X8_isTurn_u]
  simp only [kf_lx, e]
  by_cases h1 : z.toInt < -t.toInt
  · rw [if_pos h1, if_neg (by omega)]
  · rw [if_neg h1]
    by_cases h2 : t.toInt < z.toInt
    · rw [if_pos h2, if_neg (by omega)]
    · rw [if_neg h2, if_pos (by omega)]
/-- what the loops read of the tables -/
def kg_Tm (M T : Nat → Nat → Int32) (N n : Nat) (S : kw_S) : Prop := ∀ k s : Nat, k < n → s < N → S.1 18 (64 * k + s) = M k s ∧ S.1 19 (64 * k + s) = T k s
theorem kg_Tm.fr {M T : Nat → Nat → Int32} {N n : Nat} {S S' : kw_S} (h : kg_Tm M T N n S) (F : kw_FM [20] S S') : kg_Tm M T N n S' := by
  intro k s hk hs
  rw [F.1 18 (by decide) (by decide), F.1 19 (by decide) (by decide)]
  exact h k s hk hs
theorem kg_at64 (c : Nat) (k y : Int32) (hk : k.toInt = c) (hc : c ≤ 1000) (y0 : 0 ≤ y.toInt) (y1 : y.toInt ≤ 64) : (k + y).toNatClampNeg = c + y.toNatClampNeg := by
  have cy := kw_clampI y0
  have e : (k + y).toInt = c + y.toInt := by rw [kw_addI, hk]; omega
  have ce := kw_clampI (x := k + y) (by omega)
  omega
theorem kg_i0 {S0 : kw_S} (k14 k95 : Int32 → Int32 → kw_S → Int32 × kw_S) (a2 a3 a5 a6 a7 a9 a10 a11 : Int32) (p : Nat → Int32) (hz : kg_mi 3 a11) (p0 : 0 < 0 → p 0 = a5) (p1 : 1 < 0 → p 1 = a9) (f : Nat) (w : Int32) (S : kw_S) (b : kg_B) (hF : kw_FM [20] S0 S) (hB : kg_Bm 0 w S b) : ∃ (w' : Int32) (S' : kw_S), l_X8_farByvn0_0_187 k14 k95 a2 a3 a5 a6 a7 a9 a10 a11 (f + 1 + 1) w 0 S = k95 w' (a9 + Int32.ofInt 1) S' ∧ kw_FM [20] S0 S' ∧ kg_Bm 0 w' S' (kg_up a11 p b) := by
  have h1 : ¬ (1 : Int32).toInt = 0 := by decide
  have h2 : ¬ (2 : Int32).toInt < (0 : Int32).toInt := by decide
  have h3 : (0 : Int32).toInt < (3 : Int32).toInt := by decide
  have h4 : (0 : Int32).toInt < (1 : Int32).toInt := by decide
  have h5 : ¬ ((0 : Int32) + Int32.ofInt 1).toInt < (1 : Int32).toInt := by decide
  have q0 : (0 : Int32).toNatClampNeg = 0 := rfl
  have q1 : (1 : Int32).toNatClampNeg = 1 := rfl
  have q2 : (2 : Int32).toNatClampNeg = 2 := rfl
  have lf := kg_leafm (n := 0) (by decide) (a0 := a5) (a1 := a9) (a2 := 0) p hF hB hz p0 p1 (fun q => absurd q (by decide))
  rw [l_X8_farByvn0_0_187_s]
  simp only [kf_lx, if_neg h1, if_neg h2, if_pos h3, if_pos h4, Int32.add_zero, q0, q1, q2]
  by_cases hw : w.toInt < a11.toInt
  · rw [if_pos hw, l_X8_farByvn0_0_187_s]
    simp only [kf_lx, if_neg h1, if_neg h2, if_neg h5]
    exact ⟨_, _, rfl, (lf.1 hw).1, (lf.1 hw).2⟩
  · rw [if_neg hw, l_X8_farByvn0_0_187_s]
    simp only [kf_lx, if_neg h1, if_neg h2, if_neg h5]
    exact ⟨_, _, rfl, hF, lf.2 hw⟩
theorem kg_i1 {S0 : kw_S} (k14 k95 : Int32 → Int32 → kw_S → Int32 × kw_S) (a2 a3 a5 a6 a7 a9 a10 a11 : Int32) (p : Nat → Int32) (hz : kg_mi 3 a11) (p0 : 0 < 1 → p 0 = a5) (p1 : 1 < 1 → p 1 = a9) (f : Nat) (w : Int32) (S : kw_S) (b : kg_B) (hF : kw_FM [20] S0 S) (hB : kg_Bm 1 w S b) : ∃ (w' : Int32) (S' : kw_S), l_X8_farByvn1_0_187 k14 k95 a2 a3 a5 a6 a7 a9 a10 a11 (f + 1 + 1) w 0 S = k95 w' (a9 + Int32.ofInt 1) S' ∧ kw_FM [20] S0 S' ∧ kg_Bm 1 w' S' (kg_up a11 p b) := by
  have h1 : ¬ (1 : Int32).toInt = 0 := by decide
  have h2 : ¬ (2 : Int32).toInt < (1 : Int32).toInt := by decide
  have h3 : (1 : Int32).toInt < (3 : Int32).toInt := by decide
  have h4 : (0 : Int32).toInt < (1 : Int32).toInt := by decide
  have h5 : ¬ ((0 : Int32) + Int32.ofInt 1).toInt < (1 : Int32).toInt := by decide
  have q0 : (0 : Int32).toNatClampNeg = 0 := rfl
  have q1 : (1 : Int32).toNatClampNeg = 1 := rfl
  have q2 : (2 : Int32).toNatClampNeg = 2 := rfl
  have lf := kg_leafm (n := 1) (by decide) (a0 := a5) (a1 := a9) (a2 := 0) p hF hB hz p0 p1 (fun q => absurd q (by decide))
  rw [l_X8_farByvn1_0_187_s]
  simp only [kf_lx, if_neg h1, if_neg h2, if_pos h3, if_pos h4, Int32.add_zero, q0, q1, q2]
  by_cases hw : w.toInt < a11.toInt
  · rw [if_pos hw, l_X8_farByvn1_0_187_s]
    simp only [kf_lx, if_neg h1, if_neg h2, if_neg h5]
    exact ⟨_, _, rfl, (lf.1 hw).1, (lf.1 hw).2⟩
  · rw [if_neg hw, l_X8_farByvn1_0_187_s]
    simp only [kf_lx, if_neg h1, if_neg h2, if_neg h5]
    exact ⟨_, _, rfl, hF, lf.2 hw⟩
theorem kg_i2 {S0 : kw_S} (k14 k95 : Int32 → Int32 → kw_S → Int32 × kw_S) (a2 a3 a5 a6 a7 a9 a10 a11 : Int32) (p : Nat → Int32) (hz : kg_mi 3 a11) (p0 : 0 < 2 → p 0 = a5) (p1 : 1 < 2 → p 1 = a9) (f : Nat) (w : Int32) (S : kw_S) (b : kg_B) (hF : kw_FM [20] S0 S) (hB : kg_Bm 2 w S b) : ∃ (w' : Int32) (S' : kw_S), l_X8_farByvn2_0_187a k14 k95 a2 a3 a5 a6 a7 a9 a10 a11 (f + 1 + 1) w 0 S = k95 w' (a9 + Int32.ofInt 1) S' ∧ kw_FM [20] S0 S' ∧ kg_Bm 2 w' S' (kg_up a11 p b) := by
  have h1 : ¬ (1 : Int32).toInt = 0 := by decide
  have h2 : ¬ (2 : Int32).toInt < (2 : Int32).toInt := by decide
  have h3 : (2 : Int32).toInt < (3 : Int32).toInt := by decide
  have h4 : (0 : Int32).toInt < (1 : Int32).toInt := by decide
  have h5 : ¬ ((0 : Int32) + Int32.ofInt 1).toInt < (1 : Int32).toInt := by decide
  have q0 : (0 : Int32).toNatClampNeg = 0 := rfl
  have q1 : (1 : Int32).toNatClampNeg = 1 := rfl
  have q2 : (2 : Int32).toNatClampNeg = 2 := rfl
  have lf := kg_leafm (n := 2) (by decide) (a0 := a5) (a1 := a9) (a2 := 0) p hF hB hz p0 p1 (fun q => absurd q (by decide))
  rw [l_X8_farByvn2_0_187a_s]
  simp only [kf_lx, if_neg h1, if_neg h2, if_pos h3, if_pos h4, Int32.add_zero, q0, q1, q2]
  by_cases hw : w.toInt < a11.toInt
  · rw [if_pos hw, l_X8_farByvn2_0_187a_s]
    simp only [kf_lx, if_neg h1, if_neg h2, if_neg h5]
    exact ⟨_, _, rfl, (lf.1 hw).1, (lf.1 hw).2⟩
  · rw [if_neg hw, l_X8_farByvn2_0_187a_s]
    simp only [kf_lx, if_neg h1, if_neg h2, if_neg h5]
    exact ⟨_, _, rfl, hF, lf.2 hw⟩
theorem kg_skipi2 (k14 k95 : Int32 → Int32 → kw_S → Int32 × kw_S) (a2 a3 a5 a6 a7 a9 a10 a11 : Int32) (f : Nat) (w : Int32) (S : kw_S) : l_X8_farByvn2_0_187 k14 k95 a2 a3 a5 a6 a7 a9 a10 a11 (f + 1) w 0 S = k95 w (a9 + Int32.ofInt 1) S := by
  rw [l_X8_farByvn2_0_187_s]
  simp only [kf_lx, if_pos (show (0 : Int32).toInt = 0 from rfl)]
theorem kg_skipi3 (k14 k95 : Int32 → Int32 → kw_S → Int32 × kw_S) (a2 a3 a5 a6 a7 a9 a10 a11 : Int32) (f : Nat) (w : Int32) (S : kw_S) : l_X8_farByvn3_0_187 k14 k95 a2 a3 a5 a6 a7 a9 a10 a11 (f + 1) w 0 S = k95 w (a9 + Int32.ofInt 1) S := by
  rw [l_X8_farByvn3_0_187_s]
  simp only [kf_lx, if_pos (show (0 : Int32).toInt = 0 from rfl)]
theorem kg_skipm1 (k14 : Int32 → Int32 → kw_S → Int32 × kw_S) (a2 a3 a5 a6 a7 : Int32) (f : Nat) (w : Int32) (S : kw_S) : l_X8_farByvn1_0_95 k14 a2 a3 a5 a6 a7 (f + 1) w 0 S = k14 w (a5 + Int32.ofInt 1) S := by
  rw [l_X8_farByvn1_0_95_s]
  simp only [kf_lx, if_pos (show (0 : Int32).toInt = 0 from rfl)]
theorem kg_skipm2 (k14 : Int32 → Int32 → kw_S → Int32 × kw_S) (a2 a3 a5 a6 a7 : Int32) (f : Nat) (w : Int32) (S : kw_S) : l_X8_farByvn2_0_95 k14 a2 a3 a5 a6 a7 (f + 1) w 0 S = k14 w (a5 + Int32.ofInt 1) S := by
  rw [l_X8_farByvn2_0_95_s]
  simp only [kf_lx, if_pos (show (0 : Int32).toInt = 0 from rfl)]
theorem kg_skipm3 (k14 : Int32 → Int32 → kw_S → Int32 × kw_S) (a2 a3 a5 a6 a7 : Int32) (f : Nat) (w : Int32) (S : kw_S) : l_X8_farByvn3_0_95 k14 a2 a3 a5 a6 a7 (f + 1) w 0 S = k14 w (a5 + Int32.ofInt 1) S := by
  rw [l_X8_farByvn3_0_95_s]
  simp only [kf_lx, if_pos (show (0 : Int32).toInt = 0 from rfl)]
theorem kg_m0 {S0 : kw_S} (k14 : Int32 → Int32 → kw_S → Int32 × kw_S) (a2 a3 a5 a6 a7 : Int32) (p : Nat → Int32) (hz : kg_mi 3 a7) (p0 : 0 < 0 → p 0 = a5) (f : Nat) (w : Int32) (S : kw_S) (b : kg_B) (hF : kw_FM [20] S0 S) (hB : kg_Bm 0 w S b) : ∃ (w' : Int32) (S' : kw_S), l_X8_farByvn0_0_95 k14 a2 a3 a5 a6 a7 (f + 1 + 1) w 0 S = k14 w' (a5 + Int32.ofInt 1) S' ∧ kw_FM [20] S0 S' ∧ kg_Bm 0 w' S' (kg_up a7 p b) := by
  have h1 : ¬ (1 : Int32).toInt = 0 := by decide
  have h2 : ¬ (1 : Int32).toInt < (0 : Int32).toInt := by decide
  have h3 : (0 : Int32).toInt < (2 : Int32).toInt := by decide
  have h4 : (0 : Int32).toInt < (1 : Int32).toInt := by decide
  have h5 : ¬ ((0 : Int32) + Int32.ofInt 1).toInt < (1 : Int32).toInt := by decide
  rw [l_X8_farByvn0_0_95_s]
  simp only [kf_lx, if_neg h1, if_neg h2, if_pos h3, if_pos h4, Int32.add_zero]
  obtain ⟨w', S', e, F, B⟩ := kg_i0 (S0 := S0) k14 (l_X8_farByvn0_0_95 k14 a2 a3 a5 a6 a7 (f + 1)) a2 a3 a5 a6 a7 0 a6 a7 p hz p0 (fun q => absurd q (by decide)) 64 w S b hF hB
  rw [show ((65 - (0 : Int32).toInt).toNat + 1) = 64 + 1 + 1 from rfl, e, l_X8_farByvn0_0_95_s]
  simp only [kf_lx, if_neg h1, if_neg h2, if_neg h5]
  exact ⟨_, _, rfl, F, B⟩
theorem kg_m1 {S0 : kw_S} (k14 : Int32 → Int32 → kw_S → Int32 × kw_S) (a2 a3 a5 a6 a7 : Int32) (p : Nat → Int32) (hz : kg_mi 3 a7) (p0 : 0 < 1 → p 0 = a5) (f : Nat) (w : Int32) (S : kw_S) (b : kg_B) (hF : kw_FM [20] S0 S) (hB : kg_Bm 1 w S b) : ∃ (w' : Int32) (S' : kw_S), l_X8_farByvn1_0_95a k14 a2 a3 a5 a6 a7 (f + 1 + 1) w 0 S = k14 w' (a5 + Int32.ofInt 1) S' ∧ kw_FM [20] S0 S' ∧ kg_Bm 1 w' S' (kg_up a7 p b) := by
  have h1 : ¬ (1 : Int32).toInt = 0 := by decide
  have h2 : ¬ (1 : Int32).toInt < (1 : Int32).toInt := by decide
  have h3 : (1 : Int32).toInt < (2 : Int32).toInt := by decide
  have h4 : (0 : Int32).toInt < (1 : Int32).toInt := by decide
  have h5 : ¬ ((0 : Int32) + Int32.ofInt 1).toInt < (1 : Int32).toInt := by decide
  rw [l_X8_farByvn1_0_95a_s]
  simp only [kf_lx, if_neg h1, if_neg h2, if_pos h3, if_pos h4, Int32.add_zero]
  obtain ⟨w', S', e, F, B⟩ := kg_i1 (S0 := S0) k14 (l_X8_farByvn1_0_95a k14 a2 a3 a5 a6 a7 (f + 1)) a2 a3 a5 a6 a7 0 a6 a7 p hz p0 (fun q => absurd q (by decide)) 64 w S b hF hB
  rw [show ((65 - (0 : Int32).toInt).toNat + 1) = 64 + 1 + 1 from rfl, e, l_X8_farByvn1_0_95a_s]
  simp only [kf_lx, if_neg h1, if_neg h2, if_neg h5]
  exact ⟨_, _, rfl, F, B⟩
theorem kg_o0 {S0 : kw_S} (a2 a3 : Int32) (hz : kg_mi 3 (S0.1 0 23)) (p : Nat → Int32) (f : Nat) (w : Int32) (b : kg_B) (hB : kg_Bm 0 w S0 b) : ∃ (w' : Int32) (S' : kw_S), l_X8_farByvn0_0_14 a2 a3 (f + 1 + 1) w 0 S0 = (w', S') ∧ kw_FM [20] S0 S' ∧ kg_Bm 0 w' S' (kg_up (S0.1 0 23) p b) := by
  have h2 : ¬ (0 : Int) < (0 : Int32).toInt := by decide
  have h3 : (0 : Int32).toInt = 0 := rfl
  have h4 : (0 : Int32).toInt < (1 : Int32).toInt := by decide
  have h5 : ¬ ((0 : Int32) + Int32.ofInt 1).toInt < (1 : Int32).toInt := by decide
  rw [l_X8_farByvn0_0_14_s]
  simp only [kf_lx, if_neg h2, if_pos h3, if_pos h4, Int32.add_zero]
  obtain ⟨w', S', e, F, B⟩ := kg_m0 (S0 := S0) (l_X8_farByvn0_0_14 a2 a3 (f + 1)) a2 a3 0 (S0.1 0 24) (S0.1 0 23) p hz (fun q => absurd q (by decide)) 64 w S0 b kw_FM.rf hB
  rw [show ((65 - (0 : Int32).toInt).toNat + 1) = 64 + 1 + 1 from rfl, e, l_X8_farByvn0_0_14_s]
  simp only [kf_lx, if_neg h2, if_neg h5]
  exact ⟨_, _, rfl, F, B⟩
theorem kg_i3 {M T : Nat → Nat → Int32} {U : Nat → Int} {N : Nat} {lim : Int32} {S0 : kw_S} (hM : kg_ok M U N 3) (hN : N ≤ 64) (l0 : 0 ≤ lim.toInt) (hT : kg_Tm M T N 3 S0) (k14 k95 : Int32 → Int32 → kw_S → Int32 × kw_S) (a3 a5 a6 a7 a9 a10 a11 : Int32) (e3 : a3.toInt = N) (p : Nat → Int32) (p0 : p 0 = a5) (p1 : p 1 = a9) (hm : kg_mi 2 a11) : ∀ (f : Nat) (y w : Int32) (S : kw_S) (b : kg_B), 0 ≤ y.toInt → y.toInt ≤ N → ((N : Int) - y.toInt).toNat < f → kw_FM [20] S0 S → kg_Bm 3 w S b → ∃ (w' : Int32) (S' : kw_S), l_X8_farByvn3_0_187a k14 k95 lim a3 a5 a6 a7 a9 a10 a11 f w y S = k95 w' (a9 + Int32.ofInt 1) S' ∧ kw_FM [20] S0 S' ∧ kg_Bm 3 w' S' (kg_loop (kg_g M T lim N 0 2 a11 a10 p) (N - y.toNatClampNeg) y.toNatClampNeg b) := by
  intro f
  induction f with
  | zero => intro y w S b _ _ h; exact absurd h (Nat.not_lt_zero _)
  | succ f ih =>
    intro y w S b y0 y1 hf hF hB
    have cy := kw_clampI y0
    have h1 : ¬ (1 : Int32).toInt = 0 := by decide
    have h2 : (2 : Int32).toInt < (3 : Int32).toInt := by decide
    have h2z : (0 : Int) < (3 : Int32).toInt := by decide
    have h3 : ¬ (3 : Int32).toInt < (3 : Int32).toInt := by decide
    have h3z : ¬ (3 : Int32).toInt = 0 := by decide
    rw [l_X8_farByvn3_0_187a_s]
    simp only [kf_lx, if_neg h1, if_pos h2, if_neg h3, if_pos h2z, if_neg h3z]
    by_cases hy : y.toInt < a3.toInt
    · have z := kp_inc y (by omega)
      have c1 := kw_clampI (x := y + Int32.ofInt 1) (by omega)
      have eN : N - y.toNatClampNeg = (N - (y + Int32.ofInt 1).toNatClampNeg) + 1 := by omega
      have ey : y.toNatClampNeg + 1 = (y + Int32.ofInt 1).toNatClampNeg := by omega
      obtain ⟨t1, t2⟩ := (hT.fr hF) 2 y.toNatClampNeg (by decide) (by omega)
      have ea := kg_at64 128 128 y rfl (by decide) y0 (by omega)
      rw [show 64 * 2 + y.toNatClampNeg = (128 + y).toNatClampNeg by omega] at t1 t2
      have bM := hM.1 2 y.toNatClampNeg (by decide) (by omega)
      have bU := hM.2 2 (by decide)
      obtain ⟨ea2, hm2⟩ := kg_add (a := M 2 y.toNatClampNeg) hm (by decide) bM.1 (by omega)
      rw [if_pos hy, t1, t2, kg_isTurn S _ lim l0, eN]
      show ∃ (w' : Int32) (S' : kw_S), _ ∧ _ ∧ kg_Bm 3 w' S' (kg_loop (kg_g M T lim N 0 2 a11 a10 p) (N - (y + Int32.ofInt 1).toNatClampNeg) (y.toNatClampNeg + 1) (kg_g M T lim N 0 2 a11 a10 p y.toNatClampNeg b))
      rw [ey]
      by_cases ht : -lim.toInt ≤ (a10 + T 2 y.toNatClampNeg).toInt ∧ (a10 + T 2 y.toNatClampNeg).toInt ≤ lim.toInt
      · rw [if_pos ht, if_neg h1, show kg_g M T lim N 0 2 a11 a10 p y.toNatClampNeg b = kg_S M T lim N 0 (2 + 1) (a11 + M 2 y.toNatClampNeg) (a10 + T 2 y.toNatClampNeg) (upd p 2 (Int32.ofNat y.toNatClampNeg)) b from if_pos ht, kd_ofNat y y0]
        have q0 : (0 : Int32).toNatClampNeg = 0 := rfl
        have q1 : (1 : Int32).toNatClampNeg = 1 := rfl
        have q2 : (2 : Int32).toNatClampNeg = 2 := rfl
        rw [q0, q1, q2]
        have lf := kg_leafm (n := 3) (by decide) (a0 := a5) (a1 := a9) (a2 := y) (upd p 2 y) hF hB (hm2.up (by decide)) (fun _ => (by simp [upd, p0])) (fun _ => (by simp [upd, p1])) (fun _ => (by simp [upd]))
        by_cases hw : w.toInt < (a11 + M 2 y.toNatClampNeg).toInt
        · rw [if_pos hw]
          exact ih _ _ _ _ (by omega) (by omega) (by omega) (lf.1 hw).1 (lf.1 hw).2
        · rw [if_neg hw]
          exact ih _ _ _ _ (by omega) (by omega) (by omega) hF (lf.2 hw)
      · rw [if_neg ht, if_pos (show (0 : Int32).toInt = 0 from rfl), show kg_g M T lim N 0 2 a11 a10 p y.toNatClampNeg b = b from if_neg ht]
        exact ih _ _ _ _ (by omega) (by omega) (by omega) hF hB
    · rw [if_neg hy, show N - y.toNatClampNeg = 0 by omega]
      exact ⟨_, _, rfl, hF, hB⟩
theorem kg_m2 {M T : Nat → Nat → Int32} {U : Nat → Int} {N : Nat} {lim : Int32} {S0 : kw_S} (hM : kg_ok M U N 2) (hN : N ≤ 64) (l0 : 0 ≤ lim.toInt) (hT : kg_Tm M T N 2 S0) (k14 : Int32 → Int32 → kw_S → Int32 × kw_S) (a3 a5 a6 a7 : Int32) (e3 : a3.toInt = N) (p : Nat → Int32) (p0 : p 0 = a5) (hm : kg_mi 1 a7) : ∀ (f : Nat) (y w : Int32) (S : kw_S) (b : kg_B), 0 ≤ y.toInt → y.toInt ≤ N → ((N : Int) - y.toInt).toNat < f → kw_FM [20] S0 S → kg_Bm 2 w S b → ∃ (w' : Int32) (S' : kw_S), l_X8_farByvn2_0_95a k14 lim a3 a5 a6 a7 f w y S = k14 w' (a5 + Int32.ofInt 1) S' ∧ kw_FM [20] S0 S' ∧ kg_Bm 2 w' S' (kg_loop (kg_g M T lim N 0 1 a7 a6 p) (N - y.toNatClampNeg) y.toNatClampNeg b) := by
  intro f
  induction f with
  | zero => intro y w S b _ _ h; exact absurd h (Nat.not_lt_zero _)
  | succ f ih =>
    intro y w S b y0 y1 hf hF hB
    have cy := kw_clampI y0
    have h1 : ¬ (1 : Int32).toInt = 0 := by decide
    have h2 : (1 : Int32).toInt < (2 : Int32).toInt := by decide
    have h2z : (0 : Int) < (2 : Int32).toInt := by decide
    have h3 : ¬ (2 : Int32).toInt < (2 : Int32).toInt := by decide
    have h3z : ¬ (2 : Int32).toInt = 0 := by decide
    rw [l_X8_farByvn2_0_95a_s]
    simp only [kf_lx, if_neg h1, if_pos h2, if_neg h3, if_pos h2z, if_neg h3z]
    by_cases hy : y.toInt < a3.toInt
    · have z := kp_inc y (by omega)
      have c1 := kw_clampI (x := y + Int32.ofInt 1) (by omega)
      have eN : N - y.toNatClampNeg = (N - (y + Int32.ofInt 1).toNatClampNeg) + 1 := by omega
      have ey : y.toNatClampNeg + 1 = (y + Int32.ofInt 1).toNatClampNeg := by omega
      obtain ⟨t1, t2⟩ := (hT.fr hF) 1 y.toNatClampNeg (by decide) (by omega)
      have ea := kg_at64 64 64 y rfl (by decide) y0 (by omega)
      rw [show 64 * 1 + y.toNatClampNeg = (64 + y).toNatClampNeg by omega] at t1 t2
      have bM := hM.1 1 y.toNatClampNeg (by decide) (by omega)
      have bU := hM.2 1 (by decide)
      obtain ⟨ea2, hm2⟩ := kg_add (a := M 1 y.toNatClampNeg) hm (by decide) bM.1 (by omega)
      rw [if_pos hy, t1, t2, kg_isTurn S _ lim l0, eN]
      show ∃ (w' : Int32) (S' : kw_S), _ ∧ _ ∧ kg_Bm 2 w' S' (kg_loop (kg_g M T lim N 0 1 a7 a6 p) (N - (y + Int32.ofInt 1).toNatClampNeg) (y.toNatClampNeg + 1) (kg_g M T lim N 0 1 a7 a6 p y.toNatClampNeg b))
      rw [ey]
      by_cases ht : -lim.toInt ≤ (a6 + T 1 y.toNatClampNeg).toInt ∧ (a6 + T 1 y.toNatClampNeg).toInt ≤ lim.toInt
      · rw [if_pos ht, if_neg h1, show kg_g M T lim N 0 1 a7 a6 p y.toNatClampNeg b = kg_S M T lim N 0 (1 + 1) (a7 + M 1 y.toNatClampNeg) (a6 + T 1 y.toNatClampNeg) (upd p 1 (Int32.ofNat y.toNatClampNeg)) b from if_pos ht, kd_ofNat y y0]
        obtain ⟨w1, S1, e, F, B⟩ := kg_i2 (S0 := S0) k14 (l_X8_farByvn2_0_95a k14 lim a3 a5 a6 a7 f) lim a3 a5 a6 a7 y (a6 + T 1 y.toNatClampNeg) (a7 + M 1 y.toNatClampNeg) (upd p 1 y) (hm2.up (by decide)) (fun _ => (by simp [upd, p0])) (fun _ => (by simp [upd])) 64 w S b hF hB
        rw [show ((65 - (0 : Int32).toInt).toNat + 1) = 64 + 1 + 1 from rfl, e]
        exact ih _ _ _ _ (by omega) (by omega) (by omega) F B
      · rw [if_neg ht, if_pos (show (0 : Int32).toInt = 0 from rfl), show kg_g M T lim N 0 1 a7 a6 p y.toNatClampNeg b = b from if_neg ht]
        rw [show ((65 - (0 : Int32).toInt).toNat + 1) = 65 + 1 from rfl, kg_skipi2]
        exact ih _ _ _ _ (by omega) (by omega) (by omega) hF hB
    · rw [if_neg hy, show N - y.toNatClampNeg = 0 by omega]
      exact ⟨_, _, rfl, hF, hB⟩
theorem kg_m3 {M T : Nat → Nat → Int32} {U : Nat → Int} {N : Nat} {lim : Int32} {S0 : kw_S} (hM : kg_ok M U N 3) (hN : N ≤ 64) (l0 : 0 ≤ lim.toInt) (hT : kg_Tm M T N 3 S0) (k14 : Int32 → Int32 → kw_S → Int32 × kw_S) (a3 a5 a6 a7 : Int32) (e3 : a3.toInt = N) (p : Nat → Int32) (p0 : p 0 = a5) (hm : kg_mi 1 a7) : ∀ (f : Nat) (y w : Int32) (S : kw_S) (b : kg_B), 0 ≤ y.toInt → y.toInt ≤ N → ((N : Int) - y.toInt).toNat < f → kw_FM [20] S0 S → kg_Bm 3 w S b → ∃ (w' : Int32) (S' : kw_S), l_X8_farByvn3_0_95a k14 lim a3 a5 a6 a7 f w y S = k14 w' (a5 + Int32.ofInt 1) S' ∧ kw_FM [20] S0 S' ∧ kg_Bm 3 w' S' (kg_loop (kg_g M T lim N 1 1 a7 a6 p) (N - y.toNatClampNeg) y.toNatClampNeg b) := by
  intro f
  induction f with
  | zero => intro y w S b _ _ h; exact absurd h (Nat.not_lt_zero _)
  | succ f ih =>
    intro y w S b y0 y1 hf hF hB
    have cy := kw_clampI y0
    have h1 : ¬ (1 : Int32).toInt = 0 := by decide
    have h2 : (1 : Int32).toInt < (3 : Int32).toInt := by decide
    have h2z : (0 : Int) < (3 : Int32).toInt := by decide
    have h3 : ¬ (3 : Int32).toInt < (2 : Int32).toInt := by decide
    have h3z : ¬ (3 : Int32).toInt = 0 := by decide
    rw [l_X8_farByvn3_0_95a_s]
    simp only [kf_lx, if_neg h1, if_pos h2, if_neg h3, if_pos h2z, if_neg h3z]
    by_cases hy : y.toInt < a3.toInt
    · have z := kp_inc y (by omega)
      have c1 := kw_clampI (x := y + Int32.ofInt 1) (by omega)
      have eN : N - y.toNatClampNeg = (N - (y + Int32.ofInt 1).toNatClampNeg) + 1 := by omega
      have ey : y.toNatClampNeg + 1 = (y + Int32.ofInt 1).toNatClampNeg := by omega
      obtain ⟨t1, t2⟩ := (hT.fr hF) 1 y.toNatClampNeg (by decide) (by omega)
      have ea := kg_at64 64 64 y rfl (by decide) y0 (by omega)
      rw [show 64 * 1 + y.toNatClampNeg = (64 + y).toNatClampNeg by omega] at t1 t2
      have bM := hM.1 1 y.toNatClampNeg (by decide) (by omega)
      have bU := hM.2 1 (by decide)
      obtain ⟨ea2, hm2⟩ := kg_add (a := M 1 y.toNatClampNeg) hm (by decide) bM.1 (by omega)
      rw [if_pos hy, t1, t2, kg_isTurn S _ lim l0, eN]
      show ∃ (w' : Int32) (S' : kw_S), _ ∧ _ ∧ kg_Bm 3 w' S' (kg_loop (kg_g M T lim N 1 1 a7 a6 p) (N - (y + Int32.ofInt 1).toNatClampNeg) (y.toNatClampNeg + 1) (kg_g M T lim N 1 1 a7 a6 p y.toNatClampNeg b))
      rw [ey]
      by_cases ht : -lim.toInt ≤ (a6 + T 1 y.toNatClampNeg).toInt ∧ (a6 + T 1 y.toNatClampNeg).toInt ≤ lim.toInt
      · rw [if_pos ht, if_neg h1, show kg_g M T lim N 1 1 a7 a6 p y.toNatClampNeg b = kg_S M T lim N 1 (1 + 1) (a7 + M 1 y.toNatClampNeg) (a6 + T 1 y.toNatClampNeg) (upd p 1 (Int32.ofNat y.toNatClampNeg)) b from if_pos ht, kd_ofNat y y0]
        obtain ⟨w1, S1, e, F, B⟩ := kg_i3 hM hN l0 hT k14 (l_X8_farByvn3_0_95a k14 lim a3 a5 a6 a7 f) a3 a5 a6 a7 y (a6 + T 1 y.toNatClampNeg) (a7 + M 1 y.toNatClampNeg) e3 (upd p 1 y) (by simp [upd, p0]) (by simp [upd]) hm2 ((65 - (0 : Int32).toInt).toNat + 1) 0 w S b (by decide) (by rw [kp_q0]; omega) (by rw [kp_q0]; omega) hF hB
        rw [e]
        exact ih _ _ _ _ (by omega) (by omega) (by omega) F B
      · rw [if_neg ht, if_pos (show (0 : Int32).toInt = 0 from rfl), show kg_g M T lim N 1 1 a7 a6 p y.toNatClampNeg b = b from if_neg ht]
        rw [show ((65 - (0 : Int32).toInt).toNat + 1) = 65 + 1 from rfl, kg_skipi3]
        exact ih _ _ _ _ (by omega) (by omega) (by omega) hF hB
    · rw [if_neg hy, show N - y.toNatClampNeg = 0 by omega]
      exact ⟨_, _, rfl, hF, hB⟩
theorem kg_o1 {M T : Nat → Nat → Int32} {U : Nat → Int} {N : Nat} {lim : Int32} {S0 : kw_S} (hM : kg_ok M U N 1) (hN : N ≤ 64) (l0 : 0 ≤ lim.toInt) (hT : kg_Tm M T N 1 S0) (a3 : Int32) (e3 : a3.toInt = N) (p : Nat → Int32)  (hm : kg_mi 0 (S0.1 0 23)) : ∀ (f : Nat) (y w : Int32) (S : kw_S) (b : kg_B), 0 ≤ y.toInt → y.toInt ≤ N → ((N : Int) - y.toInt).toNat < f → kw_FM [20] S0 S → kg_Bm 1 w S b → ∃ (w' : Int32) (S' : kw_S), l_X8_farByvn1_0_14 lim a3 f w y S = (w', S') ∧ kw_FM [20] S0 S' ∧ kg_Bm 1 w' S' (kg_loop (kg_g M T lim N 0 0 (S0.1 0 23) (S0.1 0 24) p) (N - y.toNatClampNeg) y.toNatClampNeg b) := by
  intro f
  induction f with
  | zero => intro y w S b _ _ h; exact absurd h (Nat.not_lt_zero _)
  | succ f ih =>
    intro y w S b y0 y1 hf hF hB
    have cy := kw_clampI y0
    have h1 : ¬ (1 : Int32).toInt = 0 := by decide
    have h2 : (0 : Int32).toInt < (1 : Int32).toInt := by decide
    have h2z : (0 : Int) < (1 : Int32).toInt := by decide
    have h3 : ¬ (1 : Int32).toInt < (1 : Int32).toInt := by decide
    have h3z : ¬ (1 : Int32).toInt = 0 := by decide
    rw [l_X8_farByvn1_0_14_s]
    simp only [kf_lx, if_neg h1, if_pos h2, if_neg h3, if_pos h2z, if_neg h3z]
    by_cases hy : y.toInt < a3.toInt
    · have z := kp_inc y (by omega)
      have c1 := kw_clampI (x := y + Int32.ofInt 1) (by omega)
      have eN : N - y.toNatClampNeg = (N - (y + Int32.ofInt 1).toNatClampNeg) + 1 := by omega
      have ey : y.toNatClampNeg + 1 = (y + Int32.ofInt 1).toNatClampNeg := by omega
      obtain ⟨t1, t2⟩ := (hT.fr hF) 0 y.toNatClampNeg (by decide) (by omega)
      rw [show 64 * 0 + y.toNatClampNeg = y.toNatClampNeg by omega] at t1 t2
      have bM := hM.1 0 y.toNatClampNeg (by decide) (by omega)
      have bU := hM.2 0 (by decide)
      obtain ⟨ea2, hm2⟩ := kg_add (a := M 0 y.toNatClampNeg) hm (by decide) bM.1 (by omega)
      rw [if_pos hy, t1, t2, hF.2.1 23 (by decide), hF.2.1 24 (by decide), kg_isTurn S _ lim l0, eN]
      show ∃ (w' : Int32) (S' : kw_S), _ ∧ _ ∧ kg_Bm 1 w' S' (kg_loop (kg_g M T lim N 0 0 (S0.1 0 23) (S0.1 0 24) p) (N - (y + Int32.ofInt 1).toNatClampNeg) (y.toNatClampNeg + 1) (kg_g M T lim N 0 0 (S0.1 0 23) (S0.1 0 24) p y.toNatClampNeg b))
      rw [ey]
      by_cases ht : -lim.toInt ≤ ((S0.1 0 24) + T 0 y.toNatClampNeg).toInt ∧ ((S0.1 0 24) + T 0 y.toNatClampNeg).toInt ≤ lim.toInt
      · rw [if_pos ht, if_neg h1, show kg_g M T lim N 0 0 (S0.1 0 23) (S0.1 0 24) p y.toNatClampNeg b = kg_S M T lim N 0 (0 + 1) ((S0.1 0 23) + M 0 y.toNatClampNeg) ((S0.1 0 24) + T 0 y.toNatClampNeg) (upd p 0 (Int32.ofNat y.toNatClampNeg)) b from if_pos ht, kd_ofNat y y0]
        obtain ⟨w1, S1, e, F, B⟩ := kg_m1 (S0 := S0) (l_X8_farByvn1_0_14 lim a3 f) lim a3 y ((S0.1 0 24) + T 0 y.toNatClampNeg) ((S0.1 0 23) + M 0 y.toNatClampNeg) (upd p 0 y) (hm2.up (by decide)) (fun _ => (by simp [upd])) 64 w S b hF hB
        rw [show ((65 - (0 : Int32).toInt).toNat + 1) = 64 + 1 + 1 from rfl, e]
        exact ih _ _ _ _ (by omega) (by omega) (by omega) F B
      · rw [if_neg ht, if_pos (show (0 : Int32).toInt = 0 from rfl), show kg_g M T lim N 0 0 (S0.1 0 23) (S0.1 0 24) p y.toNatClampNeg b = b from if_neg ht]
        rw [show ((65 - (0 : Int32).toInt).toNat + 1) = 65 + 1 from rfl, kg_skipm1]
        exact ih _ _ _ _ (by omega) (by omega) (by omega) hF hB
    · rw [if_neg hy, show N - y.toNatClampNeg = 0 by omega]
      exact ⟨_, _, rfl, hF, hB⟩
theorem kg_o2 {M T : Nat → Nat → Int32} {U : Nat → Int} {N : Nat} {lim : Int32} {S0 : kw_S} (hM : kg_ok M U N 2) (hN : N ≤ 64) (l0 : 0 ≤ lim.toInt) (hT : kg_Tm M T N 2 S0) (a3 : Int32) (e3 : a3.toInt = N) (p : Nat → Int32)  (hm : kg_mi 0 (S0.1 0 23)) : ∀ (f : Nat) (y w : Int32) (S : kw_S) (b : kg_B), 0 ≤ y.toInt → y.toInt ≤ N → ((N : Int) - y.toInt).toNat < f → kw_FM [20] S0 S → kg_Bm 2 w S b → ∃ (w' : Int32) (S' : kw_S), l_X8_farByvn2_0_14 lim a3 f w y S = (w', S') ∧ kw_FM [20] S0 S' ∧ kg_Bm 2 w' S' (kg_loop (kg_g M T lim N 1 0 (S0.1 0 23) (S0.1 0 24) p) (N - y.toNatClampNeg) y.toNatClampNeg b) := by
  intro f
  induction f with
  | zero => intro y w S b _ _ h; exact absurd h (Nat.not_lt_zero _)
  | succ f ih =>
    intro y w S b y0 y1 hf hF hB
    have cy := kw_clampI y0
    have h1 : ¬ (1 : Int32).toInt = 0 := by decide
    have h2 : (0 : Int32).toInt < (2 : Int32).toInt := by decide
    have h2z : (0 : Int) < (2 : Int32).toInt := by decide
    have h3 : ¬ (2 : Int32).toInt < (1 : Int32).toInt := by decide
    have h3z : ¬ (2 : Int32).toInt = 0 := by decide
    rw [l_X8_farByvn2_0_14_s]
    simp only [kf_lx, if_neg h1, if_pos h2, if_neg h3, if_pos h2z, if_neg h3z]
    by_cases hy : y.toInt < a3.toInt
    · have z := kp_inc y (by omega)
      have c1 := kw_clampI (x := y + Int32.ofInt 1) (by omega)
      have eN : N - y.toNatClampNeg = (N - (y + Int32.ofInt 1).toNatClampNeg) + 1 := by omega
      have ey : y.toNatClampNeg + 1 = (y + Int32.ofInt 1).toNatClampNeg := by omega
      obtain ⟨t1, t2⟩ := (hT.fr hF) 0 y.toNatClampNeg (by decide) (by omega)
      rw [show 64 * 0 + y.toNatClampNeg = y.toNatClampNeg by omega] at t1 t2
      have bM := hM.1 0 y.toNatClampNeg (by decide) (by omega)
      have bU := hM.2 0 (by decide)
      obtain ⟨ea2, hm2⟩ := kg_add (a := M 0 y.toNatClampNeg) hm (by decide) bM.1 (by omega)
      rw [if_pos hy, t1, t2, hF.2.1 23 (by decide), hF.2.1 24 (by decide), kg_isTurn S _ lim l0, eN]
      show ∃ (w' : Int32) (S' : kw_S), _ ∧ _ ∧ kg_Bm 2 w' S' (kg_loop (kg_g M T lim N 1 0 (S0.1 0 23) (S0.1 0 24) p) (N - (y + Int32.ofInt 1).toNatClampNeg) (y.toNatClampNeg + 1) (kg_g M T lim N 1 0 (S0.1 0 23) (S0.1 0 24) p y.toNatClampNeg b))
      rw [ey]
      by_cases ht : -lim.toInt ≤ ((S0.1 0 24) + T 0 y.toNatClampNeg).toInt ∧ ((S0.1 0 24) + T 0 y.toNatClampNeg).toInt ≤ lim.toInt
      · rw [if_pos ht, if_neg h1, show kg_g M T lim N 1 0 (S0.1 0 23) (S0.1 0 24) p y.toNatClampNeg b = kg_S M T lim N 1 (0 + 1) ((S0.1 0 23) + M 0 y.toNatClampNeg) ((S0.1 0 24) + T 0 y.toNatClampNeg) (upd p 0 (Int32.ofNat y.toNatClampNeg)) b from if_pos ht, kd_ofNat y y0]
        obtain ⟨w1, S1, e, F, B⟩ := kg_m2 hM hN l0 hT (l_X8_farByvn2_0_14 lim a3 f) a3 y ((S0.1 0 24) + T 0 y.toNatClampNeg) ((S0.1 0 23) + M 0 y.toNatClampNeg) e3 (upd p 0 y) (by simp [upd]) hm2 ((65 - (0 : Int32).toInt).toNat + 1) 0 w S b (by decide) (by rw [kp_q0]; omega) (by rw [kp_q0]; omega) hF hB
        rw [e]
        exact ih _ _ _ _ (by omega) (by omega) (by omega) F B
      · rw [if_neg ht, if_pos (show (0 : Int32).toInt = 0 from rfl), show kg_g M T lim N 1 0 (S0.1 0 23) (S0.1 0 24) p y.toNatClampNeg b = b from if_neg ht]
        rw [show ((65 - (0 : Int32).toInt).toNat + 1) = 65 + 1 from rfl, kg_skipm2]
        exact ih _ _ _ _ (by omega) (by omega) (by omega) hF hB
    · rw [if_neg hy, show N - y.toNatClampNeg = 0 by omega]
      exact ⟨_, _, rfl, hF, hB⟩
theorem kg_o3 {M T : Nat → Nat → Int32} {U : Nat → Int} {N : Nat} {lim : Int32} {S0 : kw_S} (hM : kg_ok M U N 3) (hN : N ≤ 64) (l0 : 0 ≤ lim.toInt) (hT : kg_Tm M T N 3 S0) (a3 : Int32) (e3 : a3.toInt = N) (p : Nat → Int32)  (hm : kg_mi 0 (S0.1 0 23)) : ∀ (f : Nat) (y w : Int32) (S : kw_S) (b : kg_B), 0 ≤ y.toInt → y.toInt ≤ N → ((N : Int) - y.toInt).toNat < f → kw_FM [20] S0 S → kg_Bm 3 w S b → ∃ (w' : Int32) (S' : kw_S), l_X8_farByvn3_0_14 lim a3 f w y S = (w', S') ∧ kw_FM [20] S0 S' ∧ kg_Bm 3 w' S' (kg_loop (kg_g M T lim N 2 0 (S0.1 0 23) (S0.1 0 24) p) (N - y.toNatClampNeg) y.toNatClampNeg b) := by
  intro f
  induction f with
  | zero => intro y w S b _ _ h; exact absurd h (Nat.not_lt_zero _)
  | succ f ih =>
    intro y w S b y0 y1 hf hF hB
    have cy := kw_clampI y0
    have h1 : ¬ (1 : Int32).toInt = 0 := by decide
    have h2 : (0 : Int32).toInt < (3 : Int32).toInt := by decide
    have h2z : (0 : Int) < (3 : Int32).toInt := by decide
    have h3 : ¬ (3 : Int32).toInt < (1 : Int32).toInt := by decide
    have h3z : ¬ (3 : Int32).toInt = 0 := by decide
    rw [l_X8_farByvn3_0_14_s]
    simp only [kf_lx, if_neg h1, if_pos h2, if_neg h3, if_pos h2z, if_neg h3z]
    by_cases hy : y.toInt < a3.toInt
    · have z := kp_inc y (by omega)
      have c1 := kw_clampI (x := y + Int32.ofInt 1) (by omega)
      have eN : N - y.toNatClampNeg = (N - (y + Int32.ofInt 1).toNatClampNeg) + 1 := by omega
      have ey : y.toNatClampNeg + 1 = (y + Int32.ofInt 1).toNatClampNeg := by omega
      obtain ⟨t1, t2⟩ := (hT.fr hF) 0 y.toNatClampNeg (by decide) (by omega)
      rw [show 64 * 0 + y.toNatClampNeg = y.toNatClampNeg by omega] at t1 t2
      have bM := hM.1 0 y.toNatClampNeg (by decide) (by omega)
      have bU := hM.2 0 (by decide)
      obtain ⟨ea2, hm2⟩ := kg_add (a := M 0 y.toNatClampNeg) hm (by decide) bM.1 (by omega)
      rw [if_pos hy, t1, t2, hF.2.1 23 (by decide), hF.2.1 24 (by decide), kg_isTurn S _ lim l0, eN]
      show ∃ (w' : Int32) (S' : kw_S), _ ∧ _ ∧ kg_Bm 3 w' S' (kg_loop (kg_g M T lim N 2 0 (S0.1 0 23) (S0.1 0 24) p) (N - (y + Int32.ofInt 1).toNatClampNeg) (y.toNatClampNeg + 1) (kg_g M T lim N 2 0 (S0.1 0 23) (S0.1 0 24) p y.toNatClampNeg b))
      rw [ey]
      by_cases ht : -lim.toInt ≤ ((S0.1 0 24) + T 0 y.toNatClampNeg).toInt ∧ ((S0.1 0 24) + T 0 y.toNatClampNeg).toInt ≤ lim.toInt
      · rw [if_pos ht, if_neg h1, show kg_g M T lim N 2 0 (S0.1 0 23) (S0.1 0 24) p y.toNatClampNeg b = kg_S M T lim N 2 (0 + 1) ((S0.1 0 23) + M 0 y.toNatClampNeg) ((S0.1 0 24) + T 0 y.toNatClampNeg) (upd p 0 (Int32.ofNat y.toNatClampNeg)) b from if_pos ht, kd_ofNat y y0]
        obtain ⟨w1, S1, e, F, B⟩ := kg_m3 hM hN l0 hT (l_X8_farByvn3_0_14 lim a3 f) a3 y ((S0.1 0 24) + T 0 y.toNatClampNeg) ((S0.1 0 23) + M 0 y.toNatClampNeg) e3 (upd p 0 y) (by simp [upd]) hm2 ((65 - (0 : Int32).toInt).toNat + 1) 0 w S b (by decide) (by rw [kp_q0]; omega) (by rw [kp_q0]; omega) hF hB
        rw [e]
        exact ih _ _ _ _ (by omega) (by omega) (by omega) F B
      · rw [if_neg ht, if_pos (show (0 : Int32).toInt = 0 from rfl), show kg_g M T lim N 2 0 (S0.1 0 23) (S0.1 0 24) p y.toNatClampNeg b = b from if_neg ht]
        rw [show ((65 - (0 : Int32).toInt).toNat + 1) = 65 + 1 from rfl, kg_skipm3]
        exact ih _ _ _ _ (by omega) (by omega) (by omega) hF hB
    · rw [if_neg hy, show N - y.toNatClampNeg = 0 by omega]
      exact ⟨_, _, rfl, hF, hB⟩
