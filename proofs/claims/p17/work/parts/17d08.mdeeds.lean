/-! ===== the reference's deeds: its state written down, read, a line turned, an hour passed ===== -/
theorem kp_off (p x : Int32) (c : Nat) (hx : x.toInt = c) (h0 : 0 ≤ p.toInt) (h1 : p.toInt ≤ 2000) (hc : c ≤ 2000) : (p + x).toNatClampNeg = p.toNatClampNeg + c := by
  have cp := kw_clampI h0
  have e : (p + x).toInt = p.toInt + c := by rw [kw_addI, hx]; omega
  have := kw_clampI (x := p + x) (by omega)
  omega
theorem kp_mul (c : Nat) (x a : Int32) (hx : x.toInt = c) (hc : c ≤ 1000) (h0 : 0 ≤ a.toInt) (h1 : a.toInt ≤ 100) : (x * a).toNatClampNeg = c * a.toNatClampNeg ∧ (x * a).toInt = (c : Int) * a.toInt := by
  have e1 := kw_mulI x a
  have c1 := kw_clampI h0
  rw [hx] at e1
  have p0 : (0 : Int) ≤ (c : Int) * a.toInt := Int.mul_nonneg (Int.natCast_nonneg c) h0
  have p1 : (c : Int) * a.toInt ≤ 100000 := by
    have := Int.mul_le_mul (a := (c : Int)) (b := a.toInt) (c := 1000) (d := 100) (by omega) h1 h0 (by decide)
    omega
  have e3 : (x * a).toInt = (c : Int) * a.toInt := by
    rw [e1]
    generalize (c : Int) * a.toInt = w at p0 p1 ⊢
    omega
  refine ⟨?_, e3⟩
  have c3 := kw_clampI (x := x * a) (by rw [e3]; exact p0)
  rw [e3, ← c1] at c3
  exact Int.ofNat.inj (c3.trans (by simp))
theorem kd_write15 (σ : kw_S) (p : Int32) (h0 : 0 ≤ p.toInt) (h1 : p.toInt ≤ 2000) : kw_FM [15] σ (f_X8_write_0_15 σ p) ∧ (f_X8_write_0_15 σ p).1 15 p.toNatClampNeg = σ.1 0 22 ∧ (f_X8_write_0_15 σ p).1 15 (p.toNatClampNeg + 1) = σ.1 0 23 ∧ (f_X8_write_0_15 σ p).1 15 (p.toNatClampNeg + 2) = σ.1 0 24 ∧ (f_X8_write_0_15 σ p).1 15 (p.toNatClampNeg + 3) = σ.1 0 25 ∧ (∀ i : Nat, i < 6 → (f_X8_write_0_15 σ p).1 15 (p.toNatClampNeg + 4 + i) = σ.1 14 i) ∧ ∀ j : Nat, j < p.toNatClampNeg ∨ p.toNatClampNeg + 10 ≤ j → (f_X8_write_0_15 σ p).1 15 j = σ.1 15 j := by
  have cp := kw_clampI h0
  have i1 := kp_off p 1 1 rfl h0 h1 (by decide)
  have i2 := kp_off p 2 2 rfl h0 h1 (by decide)
  have i3 := kp_off p 3 3 rfl h0 h1 (by decide)
  have L : ∀ (n : Nat) (x : Int32) (S : kw_S), 0 ≤ x.toInt → x.toInt ≤ 6 → S.1 14 = σ.1 14 → (6 - x.toInt).toNat < n → kw_FM [15] S (l_X8_write_0_15_36 p n x S) ∧ (∀ i : Nat, x.toNatClampNeg ≤ i → i < 6 → (l_X8_write_0_15_36 p n x S).1 15 (p.toNatClampNeg + 4 + i) = σ.1 14 i) ∧ ∀ j : Nat, j < p.toNatClampNeg + 4 + x.toNatClampNeg ∨ p.toNatClampNeg + 10 ≤ j → (l_X8_write_0_15_36 p n x S).1 15 j = S.1 15 j := by
    intro n
    induction n with
    | zero => intro x S _ _ _ h; exact absurd h (Nat.not_lt_zero _)
    | succ n ih =>
      intro x S x0 x1 s14 hm
      have cx := kw_clampI x0
      rw [l_X8_write_0_15_36_s]
      by_cases hx : x.toInt < 6
      · have z := kp_inc x (by omega)
        have c1 := kw_clampI (x := x + Int32.ofInt 1) (by omega)
        rw [if_pos (show x.toInt < (6 : Int32).toInt from hx)]
        simp only [kf_lx]
        have i4 := kp_off p 4 4 rfl h0 h1 (by decide)
        have e4 : (p + 4).toInt = p.toInt + 4 := by rw [kw_addI, show (4 : Int32).toInt = 4 from rfl]; omega
        have i5 : (p + 4 + x).toNatClampNeg = p.toNatClampNeg + 4 + x.toNatClampNeg := by
          have e5 : (p + 4 + x).toInt = p.toInt + 4 + x.toInt := by rw [kw_addI, e4]; omega
          have := kw_clampI (x := p + 4 + x) (by omega)
          omega
        rw [i5]
        obtain ⟨a1, a2, a3⟩ := ih (x + Int32.ofInt 1) (kw_ui S 15 (p.toNatClampNeg + 4 + x.toNatClampNeg) (S.1 14 x.toNatClampNeg)) (by omega) (by omega) (by rw [← s14]; funext j; simp [kp_ui]) (by omega)
        refine ⟨kw_FM.tr (kw_FM_ui kw_FM.rf (by decide) (by decide)) a1 (fun _ h => h), fun i g1 g2 => ?_, fun j hj => ?_⟩
        · by_cases hi : i = x.toNatClampNeg
          · rw [a3 _ (by omega), kp_ui, if_pos ⟨rfl, by omega⟩, s14, hi]
          · exact a2 i (by omega) g2
        · rw [a3 j (by omega), kp_ui, if_neg (by omega)]
      · rw [if_neg (show ¬ x.toInt < (6 : Int32).toInt from hx)]
        exact ⟨kw_FM.rf, fun i g1 g2 => by omega, fun _ _ => rfl⟩
  rw [f_X8_write_0_15_u]
  simp only [kf_lx]
  rw [i1, i2, i3]
  generalize hS : kw_ui (kw_ui (kw_ui (kw_ui σ 15 p.toNatClampNeg (σ.1 0 22)) 15 (p.toNatClampNeg + 1) (σ.1 0 23)) 15 (p.toNatClampNeg + 2) (σ.1 0 24)) 15 (p.toNatClampNeg + 3) (σ.1 0 25) = S
  have F0 : kw_FM [15] σ S := by rw [← hS]; exact kw_FM_ui (kw_FM_ui (kw_FM_ui (kw_FM_ui kw_FM.rf (by decide) (by decide)) (by decide) (by decide)) (by decide) (by decide)) (by decide) (by decide)
  obtain ⟨a1, a2, a3⟩ := L ((7 - (0 : Int32).toInt).toNat + 1) 0 S (by decide) (by decide) (F0.1 14 (by decide) (by decide)) (by rw [kp_q0]; omega)
  have q0 : (0 : Int32).toNatClampNeg = 0 := rfl
  rw [q0] at a2 a3
  refine ⟨F0.tr a1 (fun _ h => h), ?_, ?_, ?_, ?_, fun i hi => a2 i (by omega) hi, fun j hj => ?_⟩
  · rw [a3 _ (by omega), ← hS]; simp [kp_ui]
  · rw [a3 _ (by omega), ← hS]; simp [kp_ui]
  · rw [a3 _ (by omega), ← hS]; simp [kp_ui]
  · rw [a3 _ (by omega), ← hS]; simp [kp_ui]
  · rw [a3 j (by omega), ← hS, kp_ui, if_neg (by omega), kp_ui, if_neg (by omega), kp_ui, if_neg (by omega), kp_ui, if_neg (by omega)]
theorem kd_read15 (σ : kw_S) (p : Int32) (h0 : 0 ≤ p.toInt) (h1 : p.toInt ≤ 2000) : kw_FM [14, 1022, 1023, 1024, 1025] σ (f_X8_read_0_15 σ p) ∧ (f_X8_read_0_15 σ p).1 0 22 = σ.1 15 p.toNatClampNeg ∧ (f_X8_read_0_15 σ p).1 0 23 = σ.1 15 (p.toNatClampNeg + 1) ∧ (f_X8_read_0_15 σ p).1 0 24 = σ.1 15 (p.toNatClampNeg + 2) ∧ (f_X8_read_0_15 σ p).1 0 25 = σ.1 15 (p.toNatClampNeg + 3) ∧ ∀ i : Nat, i < 6 → (f_X8_read_0_15 σ p).1 14 i = σ.1 15 (p.toNatClampNeg + 4 + i) := by
  have cp := kw_clampI h0
  have i1 := kp_off p 1 1 rfl h0 h1 (by decide)
  have i2 := kp_off p 2 2 rfl h0 h1 (by decide)
  have i3 := kp_off p 3 3 rfl h0 h1 (by decide)
  have L : ∀ (n : Nat) (x : Int32) (S : kw_S), 0 ≤ x.toInt → x.toInt ≤ 6 → S.1 15 = σ.1 15 → (6 - x.toInt).toNat < n → kw_FM [14] S (l_X8_read_0_15_36 p n x S) ∧ (∀ i : Nat, x.toNatClampNeg ≤ i → i < 6 → (l_X8_read_0_15_36 p n x S).1 14 i = σ.1 15 (p.toNatClampNeg + 4 + i)) ∧ ∀ j : Nat, j < x.toNatClampNeg → (l_X8_read_0_15_36 p n x S).1 14 j = S.1 14 j := by
    intro n
    induction n with
    | zero => intro x S _ _ _ h; exact absurd h (Nat.not_lt_zero _)
    | succ n ih =>
      intro x S x0 x1 s14 hm
      have cx := kw_clampI x0
      rw [l_X8_read_0_15_36_s]
      by_cases hx : x.toInt < 6
      · have z := kp_inc x (by omega)
        have c1 := kw_clampI (x := x + Int32.ofInt 1) (by omega)
        rw [if_pos (show x.toInt < (6 : Int32).toInt from hx)]
        simp only [kf_lx]
        have e4 : (p + 4).toInt = p.toInt + 4 := by rw [kw_addI, show (4 : Int32).toInt = 4 from rfl]; omega
        have i5 : (p + 4 + x).toNatClampNeg = p.toNatClampNeg + 4 + x.toNatClampNeg := by
          have e5 : (p + 4 + x).toInt = p.toInt + 4 + x.toInt := by rw [kw_addI, e4]; omega
          have := kw_clampI (x := p + 4 + x) (by omega)
          omega
        rw [i5]
        obtain ⟨a1, a2, a3⟩ := ih (x + Int32.ofInt 1) (kw_ui S 14 x.toNatClampNeg (S.1 15 (p.toNatClampNeg + 4 + x.toNatClampNeg))) (by omega) (by omega) (by rw [← s14]; funext j; simp [kp_ui]) (by omega)
        refine ⟨kw_FM.tr (kw_FM_ui kw_FM.rf (by decide) (by decide)) a1 (fun _ h => h), fun i g1 g2 => ?_, fun j hj => ?_⟩
        · by_cases hi : i = x.toNatClampNeg
          · rw [a3 _ (by omega), kp_ui, if_pos ⟨rfl, hi⟩, s14, hi]
          · exact a2 i (by omega) g2
        · rw [a3 j (by omega), kp_ui, if_neg (by omega)]
      · rw [if_neg (show ¬ x.toInt < (6 : Int32).toInt from hx)]
        exact ⟨kw_FM.rf, fun i g1 g2 => by omega, fun _ _ => rfl⟩
  rw [f_X8_read_0_15_u]
  simp only [kf_lx]
  rw [i1, i2, i3]
  have r1 : (kw_ui σ 0 22 (σ.1 15 p.toNatClampNeg)).1 15 = σ.1 15 := by funext j; simp [kp_ui]
  rw [r1]
  have r2 : (kw_ui (kw_ui σ 0 22 (σ.1 15 p.toNatClampNeg)) 0 23 (σ.1 15 (p.toNatClampNeg + 1))).1 15 = σ.1 15 := by funext j; simp [kp_ui]
  rw [r2]
  have r3 : (kw_ui (kw_ui (kw_ui σ 0 22 (σ.1 15 p.toNatClampNeg)) 0 23 (σ.1 15 (p.toNatClampNeg + 1))) 0 24 (σ.1 15 (p.toNatClampNeg + 2))).1 15 = σ.1 15 := by funext j; simp [kp_ui]
  rw [r3]
  generalize hS : kw_ui (kw_ui (kw_ui (kw_ui σ 0 22 (σ.1 15 p.toNatClampNeg)) 0 23 (σ.1 15 (p.toNatClampNeg + 1))) 0 24 (σ.1 15 (p.toNatClampNeg + 2))) 0 25 (σ.1 15 (p.toNatClampNeg + 3)) = S
  have F0 : kw_FM [14, 1022, 1023, 1024, 1025] σ S := by rw [← hS]; exact kw_FM_ui0 (kw_FM_ui0 (kw_FM_ui0 (kw_FM_ui0 kw_FM.rf (by decide)) (by decide)) (by decide)) (by decide)
  obtain ⟨a1, a2, -⟩ := L ((7 - (0 : Int32).toInt).toNat + 1) 0 S (by decide) (by decide) (F0.1 15 (by decide) (by decide)) (by rw [kp_q0]; omega)
  have q0 : (0 : Int32).toNatClampNeg = 0 := rfl
  rw [q0] at a2
  refine ⟨F0.tr a1 (by decide), ?_, ?_, ?_, ?_, fun i hi => a2 i (by omega) hi⟩
  · rw [a1.2.1 22 (by decide), ← hS]; simp [kp_ui]
  · rw [a1.2.1 23 (by decide), ← hS]; simp [kp_ui]
  · rw [a1.2.1 24 (by decide), ← hS]; simp [kp_ui]
  · rw [a1.2.1 25 (by decide), ← hS]; simp [kp_ui]
theorem kd_write17 (σ : kw_S) (p : Int32) (h0 : 0 ≤ p.toInt) (h1 : p.toInt ≤ 2000) : kw_FM [17] σ (f_X8_write_0_17 σ p) ∧ (f_X8_write_0_17 σ p).1 17 p.toNatClampNeg = σ.1 0 22 ∧ (f_X8_write_0_17 σ p).1 17 (p.toNatClampNeg + 1) = σ.1 0 23 ∧ (f_X8_write_0_17 σ p).1 17 (p.toNatClampNeg + 2) = σ.1 0 24 ∧ (f_X8_write_0_17 σ p).1 17 (p.toNatClampNeg + 3) = σ.1 0 25 ∧ (∀ i : Nat, i < 6 → (f_X8_write_0_17 σ p).1 17 (p.toNatClampNeg + 4 + i) = σ.1 14 i) ∧ ∀ j : Nat, j < p.toNatClampNeg ∨ p.toNatClampNeg + 10 ≤ j → (f_X8_write_0_17 σ p).1 17 j = σ.1 17 j := by
  have cp := kw_clampI h0
  have i1 := kp_off p 1 1 rfl h0 h1 (by decide)
  have i2 := kp_off p 2 2 rfl h0 h1 (by decide)
  have i3 := kp_off p 3 3 rfl h0 h1 (by decide)
  have L : ∀ (n : Nat) (x : Int32) (S : kw_S), 0 ≤ x.toInt → x.toInt ≤ 6 → S.1 14 = σ.1 14 → (6 - x.toInt).toNat < n → kw_FM [17] S (l_X8_write_0_17_36 p n x S) ∧ (∀ i : Nat, x.toNatClampNeg ≤ i → i < 6 → (l_X8_write_0_17_36 p n x S).1 17 (p.toNatClampNeg + 4 + i) = σ.1 14 i) ∧ ∀ j : Nat, j < p.toNatClampNeg + 4 + x.toNatClampNeg ∨ p.toNatClampNeg + 10 ≤ j → (l_X8_write_0_17_36 p n x S).1 17 j = S.1 17 j := by
    intro n
    induction n with
    | zero => intro x S _ _ _ h; exact absurd h (Nat.not_lt_zero _)
    | succ n ih =>
      intro x S x0 x1 s14 hm
      have cx := kw_clampI x0
      rw [l_X8_write_0_17_36_s]
      by_cases hx : x.toInt < 6
      · have z := kp_inc x (by omega)
        have c1 := kw_clampI (x := x + Int32.ofInt 1) (by omega)
        rw [if_pos (show x.toInt < (6 : Int32).toInt from hx)]
        simp only [kf_lx]
        have i4 := kp_off p 4 4 rfl h0 h1 (by decide)
        have e4 : (p + 4).toInt = p.toInt + 4 := by rw [kw_addI, show (4 : Int32).toInt = 4 from rfl]; omega
        have i5 : (p + 4 + x).toNatClampNeg = p.toNatClampNeg + 4 + x.toNatClampNeg := by
          have e5 : (p + 4 + x).toInt = p.toInt + 4 + x.toInt := by rw [kw_addI, e4]; omega
          have := kw_clampI (x := p + 4 + x) (by omega)
          omega
        rw [i5]
        obtain ⟨a1, a2, a3⟩ := ih (x + Int32.ofInt 1) (kw_ui S 17 (p.toNatClampNeg + 4 + x.toNatClampNeg) (S.1 14 x.toNatClampNeg)) (by omega) (by omega) (by rw [← s14]; funext j; simp [kp_ui]) (by omega)
        refine ⟨kw_FM.tr (kw_FM_ui kw_FM.rf (by decide) (by decide)) a1 (fun _ h => h), fun i g1 g2 => ?_, fun j hj => ?_⟩
        · by_cases hi : i = x.toNatClampNeg
          · rw [a3 _ (by omega), kp_ui, if_pos ⟨rfl, by omega⟩, s14, hi]
          · exact a2 i (by omega) g2
        · rw [a3 j (by omega), kp_ui, if_neg (by omega)]
      · rw [if_neg (show ¬ x.toInt < (6 : Int32).toInt from hx)]
        exact ⟨kw_FM.rf, fun i g1 g2 => by omega, fun _ _ => rfl⟩
  rw [f_X8_write_0_17_u]
  simp only [kf_lx]
  rw [i1, i2, i3]
  generalize hS : kw_ui (kw_ui (kw_ui (kw_ui σ 17 p.toNatClampNeg (σ.1 0 22)) 17 (p.toNatClampNeg + 1) (σ.1 0 23)) 17 (p.toNatClampNeg + 2) (σ.1 0 24)) 17 (p.toNatClampNeg + 3) (σ.1 0 25) = S
  have F0 : kw_FM [17] σ S := by rw [← hS]; exact kw_FM_ui (kw_FM_ui (kw_FM_ui (kw_FM_ui kw_FM.rf (by decide) (by decide)) (by decide) (by decide)) (by decide) (by decide)) (by decide) (by decide)
  obtain ⟨a1, a2, a3⟩ := L ((7 - (0 : Int32).toInt).toNat + 1) 0 S (by decide) (by decide) (F0.1 14 (by decide) (by decide)) (by rw [kp_q0]; omega)
  have q0 : (0 : Int32).toNatClampNeg = 0 := rfl
  rw [q0] at a2 a3
  refine ⟨F0.tr a1 (fun _ h => h), ?_, ?_, ?_, ?_, fun i hi => a2 i (by omega) hi, fun j hj => ?_⟩
  · rw [a3 _ (by omega), ← hS]; simp [kp_ui]
  · rw [a3 _ (by omega), ← hS]; simp [kp_ui]
  · rw [a3 _ (by omega), ← hS]; simp [kp_ui]
  · rw [a3 _ (by omega), ← hS]; simp [kp_ui]
  · rw [a3 j (by omega), ← hS, kp_ui, if_neg (by omega), kp_ui, if_neg (by omega), kp_ui, if_neg (by omega), kp_ui, if_neg (by omega)]
theorem kd_read17 (σ : kw_S) (p : Int32) (h0 : 0 ≤ p.toInt) (h1 : p.toInt ≤ 2000) : kw_FM [14, 1022, 1023, 1024, 1025] σ (f_X8_read_0_17 σ p) ∧ (f_X8_read_0_17 σ p).1 0 22 = σ.1 17 p.toNatClampNeg ∧ (f_X8_read_0_17 σ p).1 0 23 = σ.1 17 (p.toNatClampNeg + 1) ∧ (f_X8_read_0_17 σ p).1 0 24 = σ.1 17 (p.toNatClampNeg + 2) ∧ (f_X8_read_0_17 σ p).1 0 25 = σ.1 17 (p.toNatClampNeg + 3) ∧ ∀ i : Nat, i < 6 → (f_X8_read_0_17 σ p).1 14 i = σ.1 17 (p.toNatClampNeg + 4 + i) := by
  have cp := kw_clampI h0
  have i1 := kp_off p 1 1 rfl h0 h1 (by decide)
  have i2 := kp_off p 2 2 rfl h0 h1 (by decide)
  have i3 := kp_off p 3 3 rfl h0 h1 (by decide)
  have L : ∀ (n : Nat) (x : Int32) (S : kw_S), 0 ≤ x.toInt → x.toInt ≤ 6 → S.1 17 = σ.1 17 → (6 - x.toInt).toNat < n → kw_FM [14] S (l_X8_read_0_17_36 p n x S) ∧ (∀ i : Nat, x.toNatClampNeg ≤ i → i < 6 → (l_X8_read_0_17_36 p n x S).1 14 i = σ.1 17 (p.toNatClampNeg + 4 + i)) ∧ ∀ j : Nat, j < x.toNatClampNeg → (l_X8_read_0_17_36 p n x S).1 14 j = S.1 14 j := by
    intro n
    induction n with
    | zero => intro x S _ _ _ h; exact absurd h (Nat.not_lt_zero _)
    | succ n ih =>
      intro x S x0 x1 s14 hm
      have cx := kw_clampI x0
      rw [l_X8_read_0_17_36_s]
      by_cases hx : x.toInt < 6
      · have z := kp_inc x (by omega)
        have c1 := kw_clampI (x := x + Int32.ofInt 1) (by omega)
        rw [if_pos (show x.toInt < (6 : Int32).toInt from hx)]
        simp only [kf_lx]
        have e4 : (p + 4).toInt = p.toInt + 4 := by rw [kw_addI, show (4 : Int32).toInt = 4 from rfl]; omega
        have i5 : (p + 4 + x).toNatClampNeg = p.toNatClampNeg + 4 + x.toNatClampNeg := by
          have e5 : (p + 4 + x).toInt = p.toInt + 4 + x.toInt := by rw [kw_addI, e4]; omega
          have := kw_clampI (x := p + 4 + x) (by omega)
          omega
        rw [i5]
        obtain ⟨a1, a2, a3⟩ := ih (x + Int32.ofInt 1) (kw_ui S 14 x.toNatClampNeg (S.1 17 (p.toNatClampNeg + 4 + x.toNatClampNeg))) (by omega) (by omega) (by rw [← s14]; funext j; simp [kp_ui]) (by omega)
        refine ⟨kw_FM.tr (kw_FM_ui kw_FM.rf (by decide) (by decide)) a1 (fun _ h => h), fun i g1 g2 => ?_, fun j hj => ?_⟩
        · by_cases hi : i = x.toNatClampNeg
          · rw [a3 _ (by omega), kp_ui, if_pos ⟨rfl, hi⟩, s14, hi]
          · exact a2 i (by omega) g2
        · rw [a3 j (by omega), kp_ui, if_neg (by omega)]
      · rw [if_neg (show ¬ x.toInt < (6 : Int32).toInt from hx)]
        exact ⟨kw_FM.rf, fun i g1 g2 => by omega, fun _ _ => rfl⟩
  rw [f_X8_read_0_17_u]
  simp only [kf_lx]
  rw [i1, i2, i3]
  have r1 : (kw_ui σ 0 22 (σ.1 17 p.toNatClampNeg)).1 17 = σ.1 17 := by funext j; simp [kp_ui]
  rw [r1]
  have r2 : (kw_ui (kw_ui σ 0 22 (σ.1 17 p.toNatClampNeg)) 0 23 (σ.1 17 (p.toNatClampNeg + 1))).1 17 = σ.1 17 := by funext j; simp [kp_ui]
  rw [r2]
  have r3 : (kw_ui (kw_ui (kw_ui σ 0 22 (σ.1 17 p.toNatClampNeg)) 0 23 (σ.1 17 (p.toNatClampNeg + 1))) 0 24 (σ.1 17 (p.toNatClampNeg + 2))).1 17 = σ.1 17 := by funext j; simp [kp_ui]
  rw [r3]
  generalize hS : kw_ui (kw_ui (kw_ui (kw_ui σ 0 22 (σ.1 17 p.toNatClampNeg)) 0 23 (σ.1 17 (p.toNatClampNeg + 1))) 0 24 (σ.1 17 (p.toNatClampNeg + 2))) 0 25 (σ.1 17 (p.toNatClampNeg + 3)) = S
  have F0 : kw_FM [14, 1022, 1023, 1024, 1025] σ S := by rw [← hS]; exact kw_FM_ui0 (kw_FM_ui0 (kw_FM_ui0 (kw_FM_ui0 kw_FM.rf (by decide)) (by decide)) (by decide)) (by decide)
  obtain ⟨a1, a2, -⟩ := L ((7 - (0 : Int32).toInt).toNat + 1) 0 S (by decide) (by decide) (F0.1 17 (by decide) (by decide)) (by rw [kp_q0]; omega)
  have q0 : (0 : Int32).toNatClampNeg = 0 := rfl
  rw [q0] at a2
  refine ⟨F0.tr a1 (by decide), ?_, ?_, ?_, ?_, fun i hi => a2 i (by omega) hi⟩
  · rw [a1.2.1 22 (by decide), ← hS]; simp [kp_ui]
  · rw [a1.2.1 23 (by decide), ← hS]; simp [kp_ui]
  · rw [a1.2.1 24 (by decide), ← hS]; simp [kp_ui]
  · rw [a1.2.1 25 (by decide), ← hS]; simp [kp_ui]
def kd_cur (m : kw_S) (s : kd_T) (l : Int) : Prop := m.1 0 22 = s.1 ∧ m.1 0 23 = s.2.1 ∧ m.1 0 24 = s.2.2.1 ∧ m.1 0 25 = s.2.2.2.1 ∧ ∀ i : Nat, (i : Int) < l → m.1 14 i = s.2.2.2.2 i
def kd_at (m : kw_S) (c P : Nat) (s : kd_T) (l : Int) : Prop := m.1 c P = s.1 ∧ m.1 c (P + 1) = s.2.1 ∧ m.1 c (P + 2) = s.2.2.1 ∧ m.1 c (P + 3) = s.2.2.2.1 ∧ ∀ i : Nat, (i : Int) < l → m.1 c (P + 4 + i) = s.2.2.2.2 i
theorem kd_cur.to {m m' : kw_S} {s : kd_T} {l : Int} (h : kd_cur m s l) (h22 : m'.1 0 22 = m.1 0 22) (h23 : m'.1 0 23 = m.1 0 23) (h24 : m'.1 0 24 = m.1 0 24) (h25 : m'.1 0 25 = m.1 0 25) (h14 : m'.1 14 = m.1 14) : kd_cur m' s l := by
  unfold kd_cur
  rw [h22, h23, h24, h25, h14]
  exact h
theorem kd_at.to {m m' : kw_S} {c P Q : Nat} {s : kd_T} {l : Int} (hl : l ≤ 6) (h : kd_at m c P s l) (c' : Nat) (hj : ∀ j : Nat, j < 10 → m'.1 c' (Q + j) = m.1 c (P + j)) : kd_at m' c' Q s l := by
  refine ⟨(hj 0 (by decide)).trans h.1, (hj 1 (by decide)).trans h.2.1, (hj 2 (by decide)).trans h.2.2.1, (hj 3 (by decide)).trans h.2.2.2.1, fun i hi => ?_⟩
  have := hj (4 + i) (by omega)
  rw [← Nat.add_assoc, ← Nat.add_assoc] at this
  exact this.trans (h.2.2.2.2 i hi)
/-- a note: where the deeds' number stands, the state is written down -/
theorem kd_note (m : kw_S) (s : kd_T) (l : Int) (hl : l ≤ 6) (h0 : 0 ≤ (m.1 0 27).toInt) (h1 : (m.1 0 27).toInt ≤ 39) (hc : kd_cur m s l) : kw_FM [15, 1027] m (f_X8_note_0 m) ∧ (f_X8_note_0 m).1 0 27 = m.1 0 27 + 1 ∧ kd_at (f_X8_note_0 m) 15 (10 * (m.1 0 27).toNatClampNeg) s l ∧ ∀ j : Nat, j < 10 * (m.1 0 27).toNatClampNeg → (f_X8_note_0 m).1 15 j = m.1 15 j := by
  obtain ⟨p1, p2⟩ := kp_mul 10 10 (m.1 0 27) rfl (by decide) h0 (by omega)
  have c := kw_clampI h0
  rw [f_X8_note_0_u]
  simp only [kf_lx]
  obtain ⟨a1, a2, a3, a4, a5, a6, a7⟩ := kd_write15 m (10 * m.1 0 27) (by rw [p2]; omega) (by rw [p2]; omega)
  rw [p1] at a2 a3 a4 a5 a6 a7
  generalize f_X8_write_0_15 m (10 * m.1 0 27) = S at *
  have e27 : S.1 0 27 = m.1 0 27 := a1.2.1 27 (by decide)
  have e15 : (kw_ui S 0 27 (S.1 0 27 + 1)).1 15 = S.1 15 := by funext j; simp [kp_ui]
  refine ⟨kw_FM_ui0 (kw_FM.tr kw_FM.rf a1 (by decide)) (by decide), by rw [e27]; simp [kp_ui], ⟨?_, ?_, ?_, ?_, fun i hi => ?_⟩, fun j hj => ?_⟩
  · rw [e15, a2]; exact hc.1
  · rw [e15, a3]; exact hc.2.1
  · rw [e15, a4]; exact hc.2.2.1
  · rw [e15, a5]; exact hc.2.2.2.1
  · rw [e15, a6 i (by omega)]; exact hc.2.2.2.2 i hi
  · rw [e15, a7 j (Or.inl hj)]
theorem kd_wetB (σ : kw_S) (v w : Int32) (hv : 0 ≤ v.toInt ∧ v.toInt ≤ 9) (hw : 0 ≤ w.toInt) : f_X8_wetBehind_0 σ v w = kd_dry w v := by
  rw [f_X8_wetBehind_0_u]
  unfold kd_dry
  simp only [kf_lx]
  have q9 : (9 : Int32).toInt = 9 := rfl
  have e1 : (v + 2).toInt = v.toInt + 2 := by rw [kw_addI, show (2 : Int32).toInt = 2 from rfl]; omega
  have e2 : (v - 1).toInt = v.toInt - 1 := by rw [kw_subI, kp_q1]; omega
  by_cases h : w.toInt = 0
  · rw [if_pos h, if_neg (show ¬ 0 < w.toInt by omega)]
    by_cases g : (9 : Int32).toInt < (v + 2).toInt
    · rw [if_pos g, if_neg (show ¬ v + 2 < (9 : Int32) from fun q => by have := kw_ltI q; omega)]
    · rw [if_neg g]
      by_cases g2 : v + 2 < (9 : Int32)
      · rw [if_pos g2]
      · rw [if_neg g2]
        have := kw_nltI g2
        exact Int32.toInt_inj.mp (by omega)
  · rw [if_neg h, if_pos (show 0 < w.toInt by omega)]
    by_cases g : 0 < v.toInt
    · rw [if_pos g]
      by_cases g2 : (0 : Int32) < v - 1
      · rw [if_pos g2]
      · rw [if_neg g2]
        have := kw_nltI g2
        rw [kp_q0] at this
        exact Int32.toInt_inj.mp (by rw [kp_q0]; omega)
    · rw [if_neg g, if_neg (show ¬ (0 : Int32) < v - 1 from fun q => by have := kw_ltI q; rw [kp_q0] at this; omega)]
/-- an hour passes in the reference as it does in the class -/
theorem kd_mpass {x m : kw_S} (hL : kr_L x m) (s : kd_T) (hc : kd_cur m s (x.1 17 5).toInt) (hh : 0 ≤ s.1.toInt) (hwt : ∀ i : Nat, (i : Int) < (x.1 17 5).toInt → 0 ≤ (s.2.2.2.2 i).toInt ∧ (s.2.2.2.2 i).toInt ≤ 9) : kw_FM [14, 1022, 1023, 1024] m (f_X8_pass_0 m (m.1 0 25)) ∧ kd_cur (f_X8_pass_0 m (m.1 0 25)) (kd_step x s 6) (x.1 17 5).toInt := by
  have l2 := hL.2.1
  rw [f_X8_pass_0_u]
  simp only [kf_lx]
  obtain ⟨c22, c23, c24, c25, c14⟩ := hc
  have ew : f_X8_windAt_0 m (m.1 0 22) = f_X1_windAt_17 x s.1 := by rw [c22]; exact (kt_windAt hL s.1 hh).symm
  rw [ew, c25]
  have hw : 0 ≤ (f_X1_windAt_17 x s.1).toInt := by
    rw [f_X1_windAt_17_u]
    simp only [kf_lx]
    rcases hL.2.2.1 with ⟨-, h6, -, -⟩ | ⟨-, -, g1, g2, gw⟩
    · rw [h6, if_pos (by decide)]; decide
    · have e := kw_remI s.1 (x.1 17 6) _ rfl hh (by omega)
      have c := kw_clampI e.1
      rw [if_neg (show ¬ (x.1 17 6).toInt < (1 : Int32).toInt by rw [kp_q1]; omega), if_neg (show ¬ s.1.toInt < 0 by omega)]
      exact (gw _ (by omega)).2.1
  generalize hwd : f_X1_windAt_17 x s.1 = w at *
  have e1 : f_X8_milesBy_0 m s.2.2.2.1 w = f_X1_milesOf_17 x s.2.2.2.1 w := (kt_miles hL _ _).symm
  rw [e1, c23]
  have hL2 : ∀ z : Int32, kr_L x (kw_ui m 0 23 z) := fun z => hL.cong (fun _ _ => rfl) (fun a ha => by funext j; rw [kp_ui, if_neg (by omega)]) (by simp [kp_ui]) (by simp [kp_ui])
  have e2 : ∀ z : Int32, f_X8_turnBy_0 (kw_ui m 0 23 z) s.2.2.2.1 w = f_X1_turnOf_17 x s.2.2.2.1 w := fun z => (kt_turn (hL2 z) _ _).symm
  rw [e2, c24]
  have L : ∀ (n : Nat) (i : Int32) (S : kw_S), 0 ≤ i.toInt → i.toInt ≤ (x.1 17 5).toInt → S.1 0 10 = x.1 17 5 → (∀ j : Nat, (j : Int) < i.toInt → S.1 14 j = kd_wets s.2.2.2.1 w s.2.2.2.2 j) → (∀ j : Nat, i.toInt ≤ (j : Int) → (j : Int) < (x.1 17 5).toInt → S.1 14 j = s.2.2.2.2 j) → (6 - i.toInt).toNat < n → kw_FM [14, 1022] S (l_X8_pass_0_41 s.2.2.2.1 w n i S) ∧ (l_X8_pass_0_41 s.2.2.2.1 w n i S).1 0 22 = S.1 0 22 + 1 ∧ ∀ j : Nat, (j : Int) < (x.1 17 5).toInt → (l_X8_pass_0_41 s.2.2.2.1 w n i S).1 14 j = kd_wets s.2.2.2.1 w s.2.2.2.2 j := by
    intro n
    induction n with
    | zero => intro i S _ _ _ _ _ h; exact absurd h (Nat.not_lt_zero _)
    | succ n ih =>
      intro i S i0 i1 s10 hlo hhi hm
      have ci := kw_clampI i0
      rw [l_X8_pass_0_41_s, s10]
      simp only [kf_lx, kp_has8]
      by_cases hi : i.toInt < (x.1 17 5).toInt
      · have z := kp_inc i (by omega)
        have c1 := kw_clampI (x := i + Int32.ofInt 1) (by omega)
        have en := kd_ofNat i i0
        rw [if_pos hi]
        have v0 : S.1 14 i.toNatClampNeg = s.2.2.2.2 i.toNatClampNeg := hhi _ (by omega) (by omega)
        have go : ∀ v : Int32, v = kd_wets s.2.2.2.1 w s.2.2.2.2 i.toNatClampNeg → kw_FM [14, 1022] S (l_X8_pass_0_41 s.2.2.2.1 w n (i + Int32.ofInt 1) (kw_ui S 14 i.toNatClampNeg v)) ∧ (l_X8_pass_0_41 s.2.2.2.1 w n (i + Int32.ofInt 1) (kw_ui S 14 i.toNatClampNeg v)).1 0 22 = S.1 0 22 + 1 ∧ ∀ j : Nat, (j : Int) < (x.1 17 5).toInt → (l_X8_pass_0_41 s.2.2.2.1 w n (i + Int32.ofInt 1) (kw_ui S 14 i.toNatClampNeg v)).1 14 j = kd_wets s.2.2.2.1 w s.2.2.2.2 j := by
          intro v hv
          obtain ⟨a1, a2, a3⟩ := ih (i + Int32.ofInt 1) (kw_ui S 14 i.toNatClampNeg v) (by omega) (by omega) (by rw [← s10]; simp [kp_ui]) (fun j hj => by
            rw [kp_ui]
            by_cases e : j = i.toNatClampNeg
            · rw [if_pos ⟨rfl, e⟩, e]; exact hv
            · rw [if_neg (fun q => e q.2)]; exact hlo j (by omega)) (fun j g1 g2 => by
            rw [kp_ui, if_neg (by omega)]
            exact hhi j (by omega) g2) (by omega)
          refine ⟨kw_FM.tr (kw_FM_ui kw_FM.rf (by decide) (by decide)) a1 (fun _ h => h), ?_, a3⟩
          rw [a2]; simp [kp_ui]
        have hb01 := kp_bit01 s.2.2.2.1 i
        by_cases hb : ((s.2.2.2.1 >>> (i &&& 31)) &&& 1).toInt = 1
        · simp only [if_pos hb]
          rw [if_neg (show ¬ (1 : Int32).toInt = 0 by decide), v0, kd_wetB S _ _ (hwt _ (by omega)) hw]
          refine go _ ?_
          unfold kd_wets
          rw [en, if_pos ⟨by omega, by omega⟩]
        · simp only [if_neg hb]
          rw [if_pos (show (0 : Int32).toInt = 0 from rfl), v0]
          refine go _ ?_
          unfold kd_wets
          rw [en, if_neg (fun q => q.2 (by omega))]
      · rw [if_neg hi]
        refine ⟨kw_FM_ui0 kw_FM.rf (by decide), by simp [kp_ui], fun j hj => ?_⟩
        rw [kp_ui, if_neg (by omega)]
        exact hlo j (by omega)
  generalize hU : kw_ui (kw_ui m 0 23 (s.2.1 + f_X1_milesOf_17 x s.2.2.2.1 w)) 0 24 (s.2.2.1 + f_X1_turnOf_17 x s.2.2.2.1 w) = U
  have FU : kw_FM [14, 1022, 1023, 1024] m U := by rw [← hU]; exact kw_FM_ui0 (kw_FM_ui0 kw_FM.rf (by decide)) (by decide)
  obtain ⟨a1, a2, a3⟩ := L ((7 - (0 : Int32).toInt).toNat + 1) 0 U (by decide) (by rw [kp_q0]; exact l2.1) (by rw [FU.2.1 10 (by decide)]; exact hL.1.symm) (fun j hj => by rw [kp_q0] at hj; omega) (fun j _ hj => by rw [← hU, kp_ui, if_neg (by omega), kp_ui, if_neg (by omega)]; exact c14 j hj) (by rw [kp_q0]; omega)
  refine ⟨FU.tr a1 (by decide), ?_⟩
  unfold kd_step
  rw [if_pos (show (6 : Int32).toInt = 6 from rfl), hwd]
  refine ⟨?_, ?_, ?_, ?_, a3⟩
  · rw [a2, show U.1 0 22 = m.1 0 22 by rw [← hU]; simp [kp_ui], c22]
  · rw [a1.2.1 23 (by decide), ← hU]; simp [kp_ui]
  · rw [a1.2.1 24 (by decide), ← hU]; simp [kp_ui]
  · rw [a1.2.1 25 (by decide), ← hU]; simp [kp_ui, c25]
