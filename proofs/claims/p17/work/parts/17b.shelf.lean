/-! ===== pure rows: states, read at a place ===== -/
theorem kf_lx {α β : Type} (v : α) (k : α → β) : kf_l v k = k v := Eq.trans rfl rfl
theorem kf_bx {α β : Type} (p : α × kw_S) (k : α → kw_S → β) : kf_b p k = k p.1 p.2 := Eq.trans rfl rfl
theorem kp_ext {s t : kw_S} (h1 : ∀ a j, s.1 a j = t.1 a j) (h2 : ∀ a j, s.2 a j = t.2 a j) : s = t := Prod.ext (funext fun a => funext (h1 a)) (funext fun a => funext (h2 a))
theorem kp_ui (σ : kw_S) (a i : Nat) (x : Int32) (b j : Nat) : (kw_ui σ a i x).1 b j = if b = a ∧ j = i then x else σ.1 b j := by
  by_cases h : b = a
  · subst h
    by_cases hj : j = i <;> simp [kw_ui, upd, hj]
  · simp [kw_ui, h]
theorem kp_ua (σ : kw_S) (a : Nat) (f : Nat → Int32) (b j : Nat) : (kw_ua σ a f).1 b j = if b = a then f j else σ.1 b j := by
  by_cases h : b = a <;> simp [kw_ua, h]
theorem kp_ul (σ : kw_S) (a i : Nat) (x : Int64) : (kw_ul σ a i x).1 = σ.1 := rfl
theorem kp_ui2 (σ : kw_S) (a i : Nat) (x : Int32) : (kw_ui σ a i x).2 = σ.2 := rfl
theorem kp_ua2 (σ : kw_S) (a : Nat) (f : Nat → Int32) : (kw_ua σ a f).2 = σ.2 := rfl
theorem kp_ul2 (σ : kw_S) (a i : Nat) (x : Int64) (b j : Nat) : (kw_ul σ a i x).2 b j = if b = a ∧ j = i then x else σ.2 b j := by
  by_cases h : b = a
  · subst h
    by_cases hj : j = i <;> simp [kw_ul, vp_updL, hj]
  · simp [kw_ul, h]
theorem kp_q0 : (0 : Int32).toInt = 0 := rfl
theorem kp_q1 : (1 : Int32).toInt = 1 := rfl
theorem kp_q2 : (2 : Int32).toInt = 2 := rfl
theorem kp_inc (x : Int32) (h : x.toInt ≤ 1000000) : (x + Int32.ofInt 1).toInt = x.toInt + 1 := by
  have := kw_rng x
  rw [kw_addI, show (Int32.ofInt 1).toInt = 1 from rfl]
  omega
theorem kp_idx (c : Nat) (x a i : Int32) (hx : x.toInt = c) (hc : c ≤ 1000) (h0 : 0 ≤ a.toInt) (h1 : a.toInt ≤ 1000) (h2 : 0 ≤ i.toInt) (h3 : i.toInt ≤ 100000) : (x * a + i).toNatClampNeg = c * a.toNatClampNeg + i.toNatClampNeg := by
  have e1 := kw_mulI x a
  have e2 := kw_addI (x * a) i
  have c1 := kw_clampI h0
  have c2 := kw_clampI h2
  rw [hx] at e1
  have p0 : (0 : Int) ≤ (c : Int) * a.toInt := Int.mul_nonneg (Int.natCast_nonneg c) h0
  have p1 : (c : Int) * a.toInt ≤ 1000000 := by
    have := Int.mul_le_mul (a := (c : Int)) (b := a.toInt) (c := 1000) (d := 1000) (by omega) h1 h0 (by decide)
    omega
  have e3 : (x * a).toInt = (c : Int) * a.toInt := by
    rw [e1]
    generalize (c : Int) * a.toInt = w at p0 p1 ⊢
    omega
  rw [e3] at e2
  have e4 : (x * a + i).toInt = (c : Int) * a.toInt + i.toInt := by
    rw [e2]
    generalize (c : Int) * a.toInt = w at p0 p1 ⊢
    omega
  have c3 := kw_clampI (x := x * a + i) (by rw [e4]; omega)
  rw [e4, ← c1, ← c2] at c3
  have c4 : (((x * a + i).toNatClampNeg : Nat) : Int) = ((c * a.toNatClampNeg + i.toNatClampNeg : Nat) : Int) := by
    rw [c3]; simp
  exact Int.ofNat.inj c4
theorem kp_fl29 (v : Int32) : ∀ (n : Nat) (x : Int32) (S : kw_S), 0 ≤ x.toInt → x.toInt ≤ 40 → (40 - x.toInt).toNat < n → l_J7_fill_53178_29_5 v n x S = kw_ua S 29 (fun j => if x.toNatClampNeg ≤ j ∧ j < 40 then v else S.1 29 j) := by
  intro n
  induction n with
  | zero => intro x S _ _ h; exact absurd h (Nat.not_lt_zero _)
  | succ n ih =>
    intro x S h0 h1 h2
    have c := kw_clampI h0
    rw [l_J7_fill_53178_29_5_s]
    by_cases hx : x.toInt < 40
    · have z := kp_inc x (by omega)
      have c1 := kw_clampI (x := x + Int32.ofInt 1) (by omega)
      rw [if_pos (show x.toInt < (40 : Int32).toInt from hx)]
      simp only [kf_lx]
      rw [ih _ _ (by omega) (by omega) (by omega)]
      refine kp_ext (fun b j => ?_) (fun _ _ => rfl)
      simp only [kp_ua, kp_ui]
      by_cases hb : b = 29
      · subst hb
        simp only [if_true, true_and]
        by_cases hj : j = x.toNatClampNeg
        · rw [if_neg (by omega), if_pos hj, if_pos (by omega)]
        · by_cases h3 : x.toNatClampNeg ≤ j ∧ j < 40
          · rw [if_pos (by omega), if_pos h3]
          · rw [if_neg (by omega), if_neg hj, if_neg h3]
      · simp [hb]
    · rw [if_neg (show ¬ x.toInt < (40 : Int32).toInt from hx)]
      refine kp_ext (fun b j => ?_) (fun _ _ => rfl)
      simp only [kp_ua]
      by_cases hb : b = 29
      · subst hb
        rw [if_pos rfl, if_neg (by omega)]
      · rw [if_neg hb]
theorem kp_fill29 (σ : kw_S) (v : Int32) : f_J7_fill_53178_29 σ v = kw_ua σ 29 (fun j => if j < 40 then v else σ.1 29 j) := by
  rw [f_J7_fill_53178_29_u, kp_fl29 v _ _ _ (by decide) (by decide) (by rw [kp_q0]; omega)]
  rw [show (0 : Int32).toNatClampNeg = 0 from rfl]
  simp
theorem kp_fl30 (v : Int32) : ∀ (n : Nat) (x : Int32) (S : kw_S), 0 ≤ x.toInt → x.toInt ≤ 40 → (40 - x.toInt).toNat < n → l_J7_fill_53178_30_5 v n x S = kw_ua S 30 (fun j => if x.toNatClampNeg ≤ j ∧ j < 40 then v else S.1 30 j) := by
  intro n
  induction n with
  | zero => intro x S _ _ h; exact absurd h (Nat.not_lt_zero _)
  | succ n ih =>
    intro x S h0 h1 h2
    have c := kw_clampI h0
    rw [l_J7_fill_53178_30_5_s]
    by_cases hx : x.toInt < 40
    · have z := kp_inc x (by omega)
      have c1 := kw_clampI (x := x + Int32.ofInt 1) (by omega)
      rw [if_pos (show x.toInt < (40 : Int32).toInt from hx)]
      simp only [kf_lx]
      rw [ih _ _ (by omega) (by omega) (by omega)]
      refine kp_ext (fun b j => ?_) (fun _ _ => rfl)
      simp only [kp_ua, kp_ui]
      by_cases hb : b = 30
      · subst hb
        simp only [if_true, true_and]
        by_cases hj : j = x.toNatClampNeg
        · rw [if_neg (by omega), if_pos hj, if_pos (by omega)]
        · by_cases h3 : x.toNatClampNeg ≤ j ∧ j < 40
          · rw [if_pos (by omega), if_pos h3]
          · rw [if_neg (by omega), if_neg hj, if_neg h3]
      · simp [hb]
    · rw [if_neg (show ¬ x.toInt < (40 : Int32).toInt from hx)]
      refine kp_ext (fun b j => ?_) (fun _ _ => rfl)
      simp only [kp_ua]
      by_cases hb : b = 30
      · subst hb
        rw [if_pos rfl, if_neg (by omega)]
      · rw [if_neg hb]
theorem kp_fill30 (σ : kw_S) (v : Int32) : f_J7_fill_53178_30 σ v = kw_ua σ 30 (fun j => if j < 40 then v else σ.1 30 j) := by
  rw [f_J7_fill_53178_30_u, kp_fl30 v _ _ _ (by decide) (by decide) (by rw [kp_q0]; omega)]
  rw [show (0 : Int32).toNatClampNeg = 0 from rfl]
  simp
theorem kp_fl31 (v : Int32) : ∀ (n : Nat) (x : Int32) (S : kw_S), 0 ≤ x.toInt → x.toInt ≤ 40 → (40 - x.toInt).toNat < n → l_J7_fill_53178_31_5 v n x S = kw_ua S 31 (fun j => if x.toNatClampNeg ≤ j ∧ j < 40 then v else S.1 31 j) := by
  intro n
  induction n with
  | zero => intro x S _ _ h; exact absurd h (Nat.not_lt_zero _)
  | succ n ih =>
    intro x S h0 h1 h2
    have c := kw_clampI h0
    rw [l_J7_fill_53178_31_5_s]
    by_cases hx : x.toInt < 40
    · have z := kp_inc x (by omega)
      have c1 := kw_clampI (x := x + Int32.ofInt 1) (by omega)
      rw [if_pos (show x.toInt < (40 : Int32).toInt from hx)]
      simp only [kf_lx]
      rw [ih _ _ (by omega) (by omega) (by omega)]
      refine kp_ext (fun b j => ?_) (fun _ _ => rfl)
      simp only [kp_ua, kp_ui]
      by_cases hb : b = 31
      · subst hb
        simp only [if_true, true_and]
        by_cases hj : j = x.toNatClampNeg
        · rw [if_neg (by omega), if_pos hj, if_pos (by omega)]
        · by_cases h3 : x.toNatClampNeg ≤ j ∧ j < 40
          · rw [if_pos (by omega), if_pos h3]
          · rw [if_neg (by omega), if_neg hj, if_neg h3]
      · simp [hb]
    · rw [if_neg (show ¬ x.toInt < (40 : Int32).toInt from hx)]
      refine kp_ext (fun b j => ?_) (fun _ _ => rfl)
      simp only [kp_ua]
      by_cases hb : b = 31
      · subst hb
        rw [if_pos rfl, if_neg (by omega)]
      · rw [if_neg hb]
theorem kp_fill31 (σ : kw_S) (v : Int32) : f_J7_fill_53178_31 σ v = kw_ua σ 31 (fun j => if j < 40 then v else σ.1 31 j) := by
  rw [f_J7_fill_53178_31_u, kp_fl31 v _ _ _ (by decide) (by decide) (by rw [kp_q0]; omega)]
  rw [show (0 : Int32).toNatClampNeg = 0 from rfl]
  simp
theorem kp_fl32 (v : Int32) : ∀ (n : Nat) (x : Int32) (S : kw_S), 0 ≤ x.toInt → x.toInt ≤ 40 → (40 - x.toInt).toNat < n → l_J7_fill_53178_32_5 v n x S = kw_ua S 32 (fun j => if x.toNatClampNeg ≤ j ∧ j < 40 then v else S.1 32 j) := by
  intro n
  induction n with
  | zero => intro x S _ _ h; exact absurd h (Nat.not_lt_zero _)
  | succ n ih =>
    intro x S h0 h1 h2
    have c := kw_clampI h0
    rw [l_J7_fill_53178_32_5_s]
    by_cases hx : x.toInt < 40
    · have z := kp_inc x (by omega)
      have c1 := kw_clampI (x := x + Int32.ofInt 1) (by omega)
      rw [if_pos (show x.toInt < (40 : Int32).toInt from hx)]
      simp only [kf_lx]
      rw [ih _ _ (by omega) (by omega) (by omega)]
      refine kp_ext (fun b j => ?_) (fun _ _ => rfl)
      simp only [kp_ua, kp_ui]
      by_cases hb : b = 32
      · subst hb
        simp only [if_true, true_and]
        by_cases hj : j = x.toNatClampNeg
        · rw [if_neg (by omega), if_pos hj, if_pos (by omega)]
        · by_cases h3 : x.toNatClampNeg ≤ j ∧ j < 40
          · rw [if_pos (by omega), if_pos h3]
          · rw [if_neg (by omega), if_neg hj, if_neg h3]
      · simp [hb]
    · rw [if_neg (show ¬ x.toInt < (40 : Int32).toInt from hx)]
      refine kp_ext (fun b j => ?_) (fun _ _ => rfl)
      simp only [kp_ua]
      by_cases hb : b = 32
      · subst hb
        rw [if_pos rfl, if_neg (by omega)]
      · rw [if_neg hb]
theorem kp_fill32 (σ : kw_S) (v : Int32) : f_J7_fill_53178_32 σ v = kw_ua σ 32 (fun j => if j < 40 then v else σ.1 32 j) := by
  rw [f_J7_fill_53178_32_u, kp_fl32 v _ _ _ (by decide) (by decide) (by rw [kp_q0]; omega)]
  rw [show (0 : Int32).toNatClampNeg = 0 from rfl]
  simp
theorem kp_fl33 (v : Int32) : ∀ (n : Nat) (x : Int32) (S : kw_S), 0 ≤ x.toInt → x.toInt ≤ 40 → (40 - x.toInt).toNat < n → l_J7_fill_53178_33_5 v n x S = kw_ua S 33 (fun j => if x.toNatClampNeg ≤ j ∧ j < 40 then v else S.1 33 j) := by
  intro n
  induction n with
  | zero => intro x S _ _ h; exact absurd h (Nat.not_lt_zero _)
  | succ n ih =>
    intro x S h0 h1 h2
    have c := kw_clampI h0
    rw [l_J7_fill_53178_33_5_s]
    by_cases hx : x.toInt < 40
    · have z := kp_inc x (by omega)
      have c1 := kw_clampI (x := x + Int32.ofInt 1) (by omega)
      rw [if_pos (show x.toInt < (40 : Int32).toInt from hx)]
      simp only [kf_lx]
      rw [ih _ _ (by omega) (by omega) (by omega)]
      refine kp_ext (fun b j => ?_) (fun _ _ => rfl)
      simp only [kp_ua, kp_ui]
      by_cases hb : b = 33
      · subst hb
        simp only [if_true, true_and]
        by_cases hj : j = x.toNatClampNeg
        · rw [if_neg (by omega), if_pos hj, if_pos (by omega)]
        · by_cases h3 : x.toNatClampNeg ≤ j ∧ j < 40
          · rw [if_pos (by omega), if_pos h3]
          · rw [if_neg (by omega), if_neg hj, if_neg h3]
      · simp [hb]
    · rw [if_neg (show ¬ x.toInt < (40 : Int32).toInt from hx)]
      refine kp_ext (fun b j => ?_) (fun _ _ => rfl)
      simp only [kp_ua]
      by_cases hb : b = 33
      · subst hb
        rw [if_pos rfl, if_neg (by omega)]
      · rw [if_neg hb]
theorem kp_fill33 (σ : kw_S) (v : Int32) : f_J7_fill_53178_33 σ v = kw_ua σ 33 (fun j => if j < 40 then v else σ.1 33 j) := by
  rw [f_J7_fill_53178_33_u, kp_fl33 v _ _ _ (by decide) (by decide) (by rw [kp_q0]; omega)]
  rw [show (0 : Int32).toNatClampNeg = 0 from rfl]
  simp
theorem kp_fl34 (v : Int32) : ∀ (n : Nat) (x : Int32) (S : kw_S), 0 ≤ x.toInt → x.toInt ≤ 40 → (40 - x.toInt).toNat < n → l_J7_fill_53178_34_5 v n x S = kw_ua S 34 (fun j => if x.toNatClampNeg ≤ j ∧ j < 40 then v else S.1 34 j) := by
  intro n
  induction n with
  | zero => intro x S _ _ h; exact absurd h (Nat.not_lt_zero _)
  | succ n ih =>
    intro x S h0 h1 h2
    have c := kw_clampI h0
    rw [l_J7_fill_53178_34_5_s]
    by_cases hx : x.toInt < 40
    · have z := kp_inc x (by omega)
      have c1 := kw_clampI (x := x + Int32.ofInt 1) (by omega)
      rw [if_pos (show x.toInt < (40 : Int32).toInt from hx)]
      simp only [kf_lx]
      rw [ih _ _ (by omega) (by omega) (by omega)]
      refine kp_ext (fun b j => ?_) (fun _ _ => rfl)
      simp only [kp_ua, kp_ui]
      by_cases hb : b = 34
      · subst hb
        simp only [if_true, true_and]
        by_cases hj : j = x.toNatClampNeg
        · rw [if_neg (by omega), if_pos hj, if_pos (by omega)]
        · by_cases h3 : x.toNatClampNeg ≤ j ∧ j < 40
          · rw [if_pos (by omega), if_pos h3]
          · rw [if_neg (by omega), if_neg hj, if_neg h3]
      · simp [hb]
    · rw [if_neg (show ¬ x.toInt < (40 : Int32).toInt from hx)]
      refine kp_ext (fun b j => ?_) (fun _ _ => rfl)
      simp only [kp_ua]
      by_cases hb : b = 34
      · subst hb
        rw [if_pos rfl, if_neg (by omega)]
      · rw [if_neg hb]
theorem kp_fill34 (σ : kw_S) (v : Int32) : f_J7_fill_53178_34 σ v = kw_ua σ 34 (fun j => if j < 40 then v else σ.1 34 j) := by
  rw [f_J7_fill_53178_34_u, kp_fl34 v _ _ _ (by decide) (by decide) (by rw [kp_q0]; omega)]
  rw [show (0 : Int32).toNatClampNeg = 0 from rfl]
  simp
theorem kp_fl35 (v : Int32) : ∀ (n : Nat) (x : Int32) (S : kw_S), 0 ≤ x.toInt → x.toInt ≤ 60 → (60 - x.toInt).toNat < n → l_J7_fill_53178_35_5 v n x S = kw_ua S 35 (fun j => if x.toNatClampNeg ≤ j ∧ j < 60 then v else S.1 35 j) := by
  intro n
  induction n with
  | zero => intro x S _ _ h; exact absurd h (Nat.not_lt_zero _)
  | succ n ih =>
    intro x S h0 h1 h2
    have c := kw_clampI h0
    rw [l_J7_fill_53178_35_5_s]
    by_cases hx : x.toInt < 60
    · have z := kp_inc x (by omega)
      have c1 := kw_clampI (x := x + Int32.ofInt 1) (by omega)
      rw [if_pos (show x.toInt < (60 : Int32).toInt from hx)]
      simp only [kf_lx]
      rw [ih _ _ (by omega) (by omega) (by omega)]
      refine kp_ext (fun b j => ?_) (fun _ _ => rfl)
      simp only [kp_ua, kp_ui]
      by_cases hb : b = 35
      · subst hb
        simp only [if_true, true_and]
        by_cases hj : j = x.toNatClampNeg
        · rw [if_neg (by omega), if_pos hj, if_pos (by omega)]
        · by_cases h3 : x.toNatClampNeg ≤ j ∧ j < 60
          · rw [if_pos (by omega), if_pos h3]
          · rw [if_neg (by omega), if_neg hj, if_neg h3]
      · simp [hb]
    · rw [if_neg (show ¬ x.toInt < (60 : Int32).toInt from hx)]
      refine kp_ext (fun b j => ?_) (fun _ _ => rfl)
      simp only [kp_ua]
      by_cases hb : b = 35
      · subst hb
        rw [if_pos rfl, if_neg (by omega)]
      · rw [if_neg hb]
theorem kp_fill35 (σ : kw_S) (v : Int32) : f_J7_fill_53178_35 σ v = kw_ua σ 35 (fun j => if j < 60 then v else σ.1 35 j) := by
  rw [f_J7_fill_53178_35_u, kp_fl35 v _ _ _ (by decide) (by decide) (by rw [kp_q0]; omega)]
  rw [show (0 : Int32).toNatClampNeg = 0 from rfl]
  simp
theorem kp_fl36 (v : Int32) : ∀ (n : Nat) (x : Int32) (S : kw_S), 0 ≤ x.toInt → x.toInt ≤ 60 → (60 - x.toInt).toNat < n → l_J7_fill_53178_36_5 v n x S = kw_ua S 36 (fun j => if x.toNatClampNeg ≤ j ∧ j < 60 then v else S.1 36 j) := by
  intro n
  induction n with
  | zero => intro x S _ _ h; exact absurd h (Nat.not_lt_zero _)
  | succ n ih =>
    intro x S h0 h1 h2
    have c := kw_clampI h0
    rw [l_J7_fill_53178_36_5_s]
    by_cases hx : x.toInt < 60
    · have z := kp_inc x (by omega)
      have c1 := kw_clampI (x := x + Int32.ofInt 1) (by omega)
      rw [if_pos (show x.toInt < (60 : Int32).toInt from hx)]
      simp only [kf_lx]
      rw [ih _ _ (by omega) (by omega) (by omega)]
      refine kp_ext (fun b j => ?_) (fun _ _ => rfl)
      simp only [kp_ua, kp_ui]
      by_cases hb : b = 36
      · subst hb
        simp only [if_true, true_and]
        by_cases hj : j = x.toNatClampNeg
        · rw [if_neg (by omega), if_pos hj, if_pos (by omega)]
        · by_cases h3 : x.toNatClampNeg ≤ j ∧ j < 60
          · rw [if_pos (by omega), if_pos h3]
          · rw [if_neg (by omega), if_neg hj, if_neg h3]
      · simp [hb]
    · rw [if_neg (show ¬ x.toInt < (60 : Int32).toInt from hx)]
      refine kp_ext (fun b j => ?_) (fun _ _ => rfl)
      simp only [kp_ua]
      by_cases hb : b = 36
      · subst hb
        rw [if_pos rfl, if_neg (by omega)]
      · rw [if_neg hb]
theorem kp_fill36 (σ : kw_S) (v : Int32) : f_J7_fill_53178_36 σ v = kw_ua σ 36 (fun j => if j < 60 then v else σ.1 36 j) := by
  rw [f_J7_fill_53178_36_u, kp_fl36 v _ _ _ (by decide) (by decide) (by rw [kp_q0]; omega)]
  rw [show (0 : Int32).toNatClampNeg = 0 from rfl]
  simp
theorem kp_fl37 (v : Int32) : ∀ (n : Nat) (x : Int32) (S : kw_S), 0 ≤ x.toInt → x.toInt ≤ 60 → (60 - x.toInt).toNat < n → l_J7_fill_53178_37_5 v n x S = kw_ua S 37 (fun j => if x.toNatClampNeg ≤ j ∧ j < 60 then v else S.1 37 j) := by
  intro n
  induction n with
  | zero => intro x S _ _ h; exact absurd h (Nat.not_lt_zero _)
  | succ n ih =>
    intro x S h0 h1 h2
    have c := kw_clampI h0
    rw [l_J7_fill_53178_37_5_s]
    by_cases hx : x.toInt < 60
    · have z := kp_inc x (by omega)
      have c1 := kw_clampI (x := x + Int32.ofInt 1) (by omega)
      rw [if_pos (show x.toInt < (60 : Int32).toInt from hx)]
      simp only [kf_lx]
      rw [ih _ _ (by omega) (by omega) (by omega)]
      refine kp_ext (fun b j => ?_) (fun _ _ => rfl)
      simp only [kp_ua, kp_ui]
      by_cases hb : b = 37
      · subst hb
        simp only [if_true, true_and]
        by_cases hj : j = x.toNatClampNeg
        · rw [if_neg (by omega), if_pos hj, if_pos (by omega)]
        · by_cases h3 : x.toNatClampNeg ≤ j ∧ j < 60
          · rw [if_pos (by omega), if_pos h3]
          · rw [if_neg (by omega), if_neg hj, if_neg h3]
      · simp [hb]
    · rw [if_neg (show ¬ x.toInt < (60 : Int32).toInt from hx)]
      refine kp_ext (fun b j => ?_) (fun _ _ => rfl)
      simp only [kp_ua]
      by_cases hb : b = 37
      · subst hb
        rw [if_pos rfl, if_neg (by omega)]
      · rw [if_neg hb]
theorem kp_fill37 (σ : kw_S) (v : Int32) : f_J7_fill_53178_37 σ v = kw_ua σ 37 (fun j => if j < 60 then v else σ.1 37 j) := by
  rw [f_J7_fill_53178_37_u, kp_fl37 v _ _ _ (by decide) (by decide) (by rw [kp_q0]; omega)]
  rw [show (0 : Int32).toNatClampNeg = 0 from rfl]
  simp
theorem kp_fl38 (v : Int32) : ∀ (n : Nat) (x : Int32) (S : kw_S), 0 ≤ x.toInt → x.toInt ≤ 60 → (60 - x.toInt).toNat < n → l_J7_fill_53178_38_5 v n x S = kw_ua S 38 (fun j => if x.toNatClampNeg ≤ j ∧ j < 60 then v else S.1 38 j) := by
  intro n
  induction n with
  | zero => intro x S _ _ h; exact absurd h (Nat.not_lt_zero _)
  | succ n ih =>
    intro x S h0 h1 h2
    have c := kw_clampI h0
    rw [l_J7_fill_53178_38_5_s]
    by_cases hx : x.toInt < 60
    · have z := kp_inc x (by omega)
      have c1 := kw_clampI (x := x + Int32.ofInt 1) (by omega)
      rw [if_pos (show x.toInt < (60 : Int32).toInt from hx)]
      simp only [kf_lx]
      rw [ih _ _ (by omega) (by omega) (by omega)]
      refine kp_ext (fun b j => ?_) (fun _ _ => rfl)
      simp only [kp_ua, kp_ui]
      by_cases hb : b = 38
      · subst hb
        simp only [if_true, true_and]
        by_cases hj : j = x.toNatClampNeg
        · rw [if_neg (by omega), if_pos hj, if_pos (by omega)]
        · by_cases h3 : x.toNatClampNeg ≤ j ∧ j < 60
          · rw [if_pos (by omega), if_pos h3]
          · rw [if_neg (by omega), if_neg hj, if_neg h3]
      · simp [hb]
    · rw [if_neg (show ¬ x.toInt < (60 : Int32).toInt from hx)]
      refine kp_ext (fun b j => ?_) (fun _ _ => rfl)
      simp only [kp_ua]
      by_cases hb : b = 38
      · subst hb
        rw [if_pos rfl, if_neg (by omega)]
      · rw [if_neg hb]
theorem kp_fill38 (σ : kw_S) (v : Int32) : f_J7_fill_53178_38 σ v = kw_ua σ 38 (fun j => if j < 60 then v else σ.1 38 j) := by
  rw [f_J7_fill_53178_38_u, kp_fl38 v _ _ _ (by decide) (by decide) (by rw [kp_q0]; omega)]
  rw [show (0 : Int32).toNatClampNeg = 0 from rfl]
  simp
theorem kp_fl49 (v : Int32) : ∀ (n : Nat) (x : Int32) (S : kw_S), 0 ≤ x.toInt → x.toInt ≤ 40 → (40 - x.toInt).toNat < n → l_J7_fill_53178_49_5 v n x S = kw_ua S 49 (fun j => if x.toNatClampNeg ≤ j ∧ j < 40 then v else S.1 49 j) := by
  intro n
  induction n with
  | zero => intro x S _ _ h; exact absurd h (Nat.not_lt_zero _)
  | succ n ih =>
    intro x S h0 h1 h2
    have c := kw_clampI h0
    rw [l_J7_fill_53178_49_5_s]
    by_cases hx : x.toInt < 40
    · have z := kp_inc x (by omega)
      have c1 := kw_clampI (x := x + Int32.ofInt 1) (by omega)
      rw [if_pos (show x.toInt < (40 : Int32).toInt from hx)]
      simp only [kf_lx]
      rw [ih _ _ (by omega) (by omega) (by omega)]
      refine kp_ext (fun b j => ?_) (fun _ _ => rfl)
      simp only [kp_ua, kp_ui]
      by_cases hb : b = 49
      · subst hb
        simp only [if_true, true_and]
        by_cases hj : j = x.toNatClampNeg
        · rw [if_neg (by omega), if_pos hj, if_pos (by omega)]
        · by_cases h3 : x.toNatClampNeg ≤ j ∧ j < 40
          · rw [if_pos (by omega), if_pos h3]
          · rw [if_neg (by omega), if_neg hj, if_neg h3]
      · simp [hb]
    · rw [if_neg (show ¬ x.toInt < (40 : Int32).toInt from hx)]
      refine kp_ext (fun b j => ?_) (fun _ _ => rfl)
      simp only [kp_ua]
      by_cases hb : b = 49
      · subst hb
        rw [if_pos rfl, if_neg (by omega)]
      · rw [if_neg hb]
theorem kp_fill49 (σ : kw_S) (v : Int32) : f_J7_fill_53178_49 σ v = kw_ua σ 49 (fun j => if j < 40 then v else σ.1 49 j) := by
  rw [f_J7_fill_53178_49_u, kp_fl49 v _ _ _ (by decide) (by decide) (by rw [kp_q0]; omega)]
  rw [show (0 : Int32).toNatClampNeg = 0 from rfl]
  simp
theorem kp_fl50 (v : Int32) : ∀ (n : Nat) (x : Int32) (S : kw_S), 0 ≤ x.toInt → x.toInt ≤ 40 → (40 - x.toInt).toNat < n → l_J7_fill_53178_50_5 v n x S = kw_ua S 50 (fun j => if x.toNatClampNeg ≤ j ∧ j < 40 then v else S.1 50 j) := by
  intro n
  induction n with
  | zero => intro x S _ _ h; exact absurd h (Nat.not_lt_zero _)
  | succ n ih =>
    intro x S h0 h1 h2
    have c := kw_clampI h0
    rw [l_J7_fill_53178_50_5_s]
    by_cases hx : x.toInt < 40
    · have z := kp_inc x (by omega)
      have c1 := kw_clampI (x := x + Int32.ofInt 1) (by omega)
      rw [if_pos (show x.toInt < (40 : Int32).toInt from hx)]
      simp only [kf_lx]
      rw [ih _ _ (by omega) (by omega) (by omega)]
      refine kp_ext (fun b j => ?_) (fun _ _ => rfl)
      simp only [kp_ua, kp_ui]
      by_cases hb : b = 50
      · subst hb
        simp only [if_true, true_and]
        by_cases hj : j = x.toNatClampNeg
        · rw [if_neg (by omega), if_pos hj, if_pos (by omega)]
        · by_cases h3 : x.toNatClampNeg ≤ j ∧ j < 40
          · rw [if_pos (by omega), if_pos h3]
          · rw [if_neg (by omega), if_neg hj, if_neg h3]
      · simp [hb]
    · rw [if_neg (show ¬ x.toInt < (40 : Int32).toInt from hx)]
      refine kp_ext (fun b j => ?_) (fun _ _ => rfl)
      simp only [kp_ua]
      by_cases hb : b = 50
      · subst hb
        rw [if_pos rfl, if_neg (by omega)]
      · rw [if_neg hb]
theorem kp_fill50 (σ : kw_S) (v : Int32) : f_J7_fill_53178_50 σ v = kw_ua σ 50 (fun j => if j < 40 then v else σ.1 50 j) := by
  rw [f_J7_fill_53178_50_u, kp_fl50 v _ _ _ (by decide) (by decide) (by rw [kp_q0]; omega)]
  rw [show (0 : Int32).toNatClampNeg = 0 from rfl]
  simp
theorem kp_fl51 (v : Int32) : ∀ (n : Nat) (x : Int32) (S : kw_S), 0 ≤ x.toInt → x.toInt ≤ 40 → (40 - x.toInt).toNat < n → l_J7_fill_53178_51_5 v n x S = kw_ua S 51 (fun j => if x.toNatClampNeg ≤ j ∧ j < 40 then v else S.1 51 j) := by
  intro n
  induction n with
  | zero => intro x S _ _ h; exact absurd h (Nat.not_lt_zero _)
  | succ n ih =>
    intro x S h0 h1 h2
    have c := kw_clampI h0
    rw [l_J7_fill_53178_51_5_s]
    by_cases hx : x.toInt < 40
    · have z := kp_inc x (by omega)
      have c1 := kw_clampI (x := x + Int32.ofInt 1) (by omega)
      rw [if_pos (show x.toInt < (40 : Int32).toInt from hx)]
      simp only [kf_lx]
      rw [ih _ _ (by omega) (by omega) (by omega)]
      refine kp_ext (fun b j => ?_) (fun _ _ => rfl)
      simp only [kp_ua, kp_ui]
      by_cases hb : b = 51
      · subst hb
        simp only [if_true, true_and]
        by_cases hj : j = x.toNatClampNeg
        · rw [if_neg (by omega), if_pos hj, if_pos (by omega)]
        · by_cases h3 : x.toNatClampNeg ≤ j ∧ j < 40
          · rw [if_pos (by omega), if_pos h3]
          · rw [if_neg (by omega), if_neg hj, if_neg h3]
      · simp [hb]
    · rw [if_neg (show ¬ x.toInt < (40 : Int32).toInt from hx)]
      refine kp_ext (fun b j => ?_) (fun _ _ => rfl)
      simp only [kp_ua]
      by_cases hb : b = 51
      · subst hb
        rw [if_pos rfl, if_neg (by omega)]
      · rw [if_neg hb]
theorem kp_fill51 (σ : kw_S) (v : Int32) : f_J7_fill_53178_51 σ v = kw_ua σ 51 (fun j => if j < 40 then v else σ.1 51 j) := by
  rw [f_J7_fill_53178_51_u, kp_fl51 v _ _ _ (by decide) (by decide) (by rw [kp_q0]; omega)]
  rw [show (0 : Int32).toNatClampNeg = 0 from rfl]
  simp
theorem kp_fl19 (v : Int32) : ∀ (n : Nat) (x : Int32) (S : kw_S), 0 ≤ x.toInt → x.toInt ≤ 6 → (6 - x.toInt).toNat < n → l_J7_fill_53178_19_5 v n x S = kw_ua S 19 (fun j => if x.toNatClampNeg ≤ j ∧ j < 6 then v else S.1 19 j) := by
  intro n
  induction n with
  | zero => intro x S _ _ h; exact absurd h (Nat.not_lt_zero _)
  | succ n ih =>
    intro x S h0 h1 h2
    have c := kw_clampI h0
    rw [l_J7_fill_53178_19_5_s]
    by_cases hx : x.toInt < 6
    · have z := kp_inc x (by omega)
      have c1 := kw_clampI (x := x + Int32.ofInt 1) (by omega)
      rw [if_pos (show x.toInt < (6 : Int32).toInt from hx)]
      simp only [kf_lx]
      rw [ih _ _ (by omega) (by omega) (by omega)]
      refine kp_ext (fun b j => ?_) (fun _ _ => rfl)
      simp only [kp_ua, kp_ui]
      by_cases hb : b = 19
      · subst hb
        simp only [if_true, true_and]
        by_cases hj : j = x.toNatClampNeg
        · rw [if_neg (by omega), if_pos hj, if_pos (by omega)]
        · by_cases h3 : x.toNatClampNeg ≤ j ∧ j < 6
          · rw [if_pos (by omega), if_pos h3]
          · rw [if_neg (by omega), if_neg hj, if_neg h3]
      · simp [hb]
    · rw [if_neg (show ¬ x.toInt < (6 : Int32).toInt from hx)]
      refine kp_ext (fun b j => ?_) (fun _ _ => rfl)
      simp only [kp_ua]
      by_cases hb : b = 19
      · subst hb
        rw [if_pos rfl, if_neg (by omega)]
      · rw [if_neg hb]
theorem kp_fill19 (σ : kw_S) (v : Int32) : f_J7_fill_53178_19 σ v = kw_ua σ 19 (fun j => if j < 6 then v else σ.1 19 j) := by
  rw [f_J7_fill_53178_19_u, kp_fl19 v _ _ _ (by decide) (by decide) (by rw [kp_q0]; omega)]
  rw [show (0 : Int32).toNatClampNeg = 0 from rfl]
  simp
