/-! ===== gusts: what is foreseen, weights, odds ===== -/
noncomputable def kq_C (x m : kw_S) (a k : Nat) : Int32 := f_X8_milesBy_0 m (x.1 (29 + a) k) (f_X8_windAt_0 m (m.1 0 22 + Int32.ofNat k))
noncomputable def kq_G (x m : kw_S) (a k : Nat) : Int32 := f_X8_milesBy_0 m (x.1 (29 + a) k) (f_X8_windAt_0 m (m.1 0 22 + Int32.ofNat k) + 1)
theorem kq_CGb {x m : kw_S} (hL : kr_L x m) (hD : kr_D x m) (a k : Nat) (hk : k < 10) (hv : 0 ≤ (x.1 (29 + a) k).toInt ∧ (x.1 (29 + a) k).toInt ≤ 63) : (-180 ≤ (kq_C x m a k).toInt ∧ (kq_C x m a k).toInt ≤ 180) ∧ (-180 ≤ (kq_G x m a k).toInt ∧ (kq_G x m a k).toInt ≤ 180) := by
  have n1 := (kd_now hL hD).1
  have e := kz_ofNatI k (by omega)
  have wb : 0 ≤ (f_X8_windAt_0 m (m.1 0 22 + Int32.ofNat k)).toInt ∧ (f_X8_windAt_0 m (m.1 0 22 + Int32.ofNat k)).toInt ≤ 5 := by
    rw [← kd_windAhead hL hD (Int32.ofNat k) (by omega) (by omega), f_X5_windAhead_4_u]
    simp only [kf_lx]
    exact kh_wind hL _ (by rw [kw_addI, e]; omega)
  unfold kq_C kq_G
  generalize f_X8_windAt_0 m (m.1 0 22 + Int32.ofNat k) = w at *
  have z := kp_add1 w (by omega)
  rw [← kt_miles hL, ← kt_miles hL]
  exact ⟨kg_mb hL w wb.1 (by omega) _ hv.1 hv.2, kg_mb hL (w + 1) (by omega) (by omega) _ hv.1 hv.2⟩
theorem kq_fore {x m : kw_S} (hb : ∀ j : Nat, -1 ≤ (x.1 13 j).toInt ∧ (x.1 13 j).toInt ≤ 40) (hL : kr_L x m) (hD : kr_D x m) (a : Int32) (a0 : 0 ≤ a.toInt) (a6 : a.toInt < 6) (n0 : 0 ≤ (x.1 13 a.toNatClampNeg).toInt) (n6 : (x.1 13 a.toNatClampNeg).toInt ≤ 6) : kw_F [10, 11] x (f_X7_foresee_0 x a) ∧ ∀ k : Nat, (k : Int) < (x.1 13 a.toNatClampNeg).toInt → (f_X7_foresee_0 x a).1 10 k = kq_C x m a.toNatClampNeg k ∧ (f_X7_foresee_0 x a).1 11 k = kq_G x m a.toNatClampNeg k := by
  have ca := kw_clampI a0
  have L : ∀ (n : Nat) (y : Int32) (S : kw_S), 0 ≤ y.toInt → y.toInt ≤ (x.1 13 a.toNatClampNeg).toInt → (7 - y.toInt).toNat < n → kw_F [10, 11] x S → (∀ k : Nat, (k : Int) < y.toInt → S.1 10 k = kq_C x m a.toNatClampNeg k ∧ S.1 11 k = kq_G x m a.toNatClampNeg k) → kw_F [10, 11] x (l_X7_foresee_0_2 a n y S) ∧ ∀ k : Nat, (k : Int) < (x.1 13 a.toNatClampNeg).toInt → (l_X7_foresee_0_2 a n y S).1 10 k = kq_C x m a.toNatClampNeg k ∧ (l_X7_foresee_0_2 a n y S).1 11 k = kq_G x m a.toNatClampNeg k := by
    intro n
    induction n with
    | zero => intro y S _ _ h; exact absurd h (Nat.not_lt_zero _)
    | succ n ih =>
      intro y S y0 y1 hf F hk
      have cy := kw_clampI y0
      have f13 : S.1 13 = x.1 13 := (F 13 (by decide)).1
      have lay : kd_lay x S := kd_lay.of F (by decide)
      rw [l_X7_foresee_0_2_s, kp_size1, if_pos ⟨a0, a6⟩, f13]
      simp only [kf_lx]
      by_cases hy : y.toInt < (x.1 13 a.toNatClampNeg).toInt
      · have z := kp_inc y (by omega)
        have c1 := kw_clampI (x := y + Int32.ofInt 1) (by omega)
        have ev : f_X3_valueAt_1 S a y = x.1 (29 + a.toNatClampNeg) y.toNatClampNeg := by
          rw [kp_value1 S (by rw [f13]; exact hb), f13, if_pos ⟨a0, a6, y0, hy⟩, (F (29 + a.toNatClampNeg) (by simp; omega)).1]
        have ewS : ∀ S' : kw_S, kw_F [10, 11] x S' → f_X5_windAhead_4 S' y = f_X8_windAt_0 m (m.1 0 22 + Int32.ofNat y.toNatClampNeg) := fun S' F' => by
          rw [kd_ofNat y y0, ← kd_windAhead hL hD y y0 (by omega), f_X5_windAhead_4_u, f_X5_windAhead_4_u]
          simp only [kf_lx]
          rw [(kd_lay.of F' (by decide)).windAt, (F' 4 (by decide)).1]
        have emS : ∀ (S' : kw_S) (s w : Int32), kw_F [10, 11] x S' → f_X1_milesOf_17 S' s w = f_X8_milesBy_0 m s w := fun S' s w F' => by
          rw [(kd_lay.of F' (by decide)).miles, kt_miles hL]
        rw [if_pos hy, if_pos (show y.toInt < (6 : Int32).toInt by rw [show (6 : Int32).toInt = 6 from rfl]; omega), ev, ewS S F, emS S _ _ F]
        have F1 : ∀ v : Int32, kw_F [10, 11] x (kw_ui S 10 y.toNatClampNeg v) := fun v => kw_F_ui F (by decide)
        rw [ewS _ (F1 _), emS _ _ _ (F1 _)]
        refine ih _ _ (by omega) (by omega) (by omega) (kw_F_ui (F1 _) (by decide)) (fun k hk2 => ?_)
        rw [kq_off _ 11 _ _ 10 (by decide), kq_at, kq_at, kq_off _ 10 _ _ 11 (by decide)]
        by_cases e : k = y.toNatClampNeg
        · rw [if_pos e, if_pos e, e]
          exact ⟨rfl, rfl⟩
        · rw [if_neg e, if_neg e]
          exact hk k (by omega)
      · rw [if_neg hy]
        exact ⟨F, fun k hk2 => hk k (by omega)⟩
  rw [f_X7_foresee_0_u]
  exact L _ _ _ (by decide) (by rw [kp_q0]; exact n0) (by decide) kw_F.rf (fun k hk => by rw [kp_q0] at hk; omega)
theorem kq_gm {x m S : kw_S} (hb : ∀ j : Nat, -1 ≤ (x.1 13 j).toInt ∧ (x.1 13 j).toInt ≤ 40) (hW : kr_W x m) (hD : kr_D x m) (a : Int32) (a0 : 0 ≤ a.toInt) (a6 : a.toInt < 6) (n0 : 0 ≤ (x.1 13 a.toNatClampNeg).toInt) (n6 : (x.1 13 a.toNatClampNeg).toInt ≤ 6) (g : m.1 2 a.toNatClampNeg = x.1 13 a.toNatClampNeg) (F : kw_F [10, 11] x S) (hS : ∀ k : Nat, (k : Int) < (x.1 13 a.toNatClampNeg).toInt → S.1 10 k = kq_C x m a.toNatClampNeg k ∧ S.1 11 k = kq_G x m a.toNatClampNeg k) (u : Int32) : f_X7_milesByGusts_0 S (x.1 13 a.toNatClampNeg) u = f_X8_gustMiles_0 m a u := by
  have L : ∀ (n n' : Nat) (c y : Int32), 0 ≤ y.toInt → y.toInt ≤ (x.1 13 a.toNatClampNeg).toInt → ((x.1 13 a.toNatClampNeg).toInt - y.toInt).toNat < n → ((x.1 13 a.toNatClampNeg).toInt - y.toInt).toNat < n' → l_X7_milesByGusts_0_11 (x.1 13 a.toNatClampNeg) u S n c y = l_X8_gustMiles_0_8 a u m n' c y := by
    intro n
    induction n with
    | zero => intro n' c y _ _ h _; exact absurd h (Nat.not_lt_zero _)
    | succ n ih =>
      intro n' c y y0 y1 f1 f2
      cases n' with
      | zero => exact absurd f2 (Nat.not_lt_zero _)
      | succ n' =>
        have cy := kw_clampI y0
        rw [l_X7_milesByGusts_0_11_s, l_X8_gustMiles_0_8_s, g]
        simp only [kf_lx]
        by_cases hy : y.toInt < (x.1 13 a.toNatClampNeg).toInt
        · have z := kp_inc y (by omega)
          have v2 := (kq_val hb hW a y a0 a6 y0 hy).2
          obtain ⟨s1, s2⟩ := hS y.toNatClampNeg (by omega)
          rw [if_pos hy, if_pos hy, v2]
          have b01 := kp_bit01 u y
          by_cases e : ((u >>> (y &&& 31)) &&& 1).toInt = 1
          · have e1 : (u >>> (y &&& 31)) &&& 1 = 1 := Int32.toInt_inj.mp e
            rw [if_pos (show ((u >>> (y &&& 31)) &&& 1).toInt = (1 : Int32).toInt from e), e1, s2]
            unfold kq_G
            rw [kd_ofNat y y0]
            exact ih n' _ _ (by omega) (by omega) (by omega) (by omega)
          · have e0 : (u >>> (y &&& 31)) &&& 1 = 0 := Int32.toInt_inj.mp (show ((u >>> (y &&& 31)) &&& 1).toInt = 0 by omega)
            rw [if_neg (show ¬ ((u >>> (y &&& 31)) &&& 1).toInt = (1 : Int32).toInt from e), e0, s1, Int32.add_zero]
            unfold kq_C
            rw [kd_ofNat y y0]
            exact ih n' _ _ (by omega) (by omega) (by omega) (by omega)
        · rw [if_neg hy, if_neg hy]
  rw [f_X7_milesByGusts_0_u, f_X8_gustMiles_0_u, (F 4 (by decide)).1, show m.1 0 23 = x.1 4 6 from hD.2.2.2.2.1.2.1]
  exact L _ _ _ _ (by decide) (by rw [kp_q0]; exact n0) (by omega) (by rw [kp_q0]; omega)
/-! weights -/
def kq_wt (P Q : Int64) (g : Nat) : Nat → Int64
  | 0 => 1
  | k + 1 => kq_wt P Q g k * (if g.testBit k = true then P else Q)
def kq_pw (v : Int64) : Nat → Int64
  | 0 => 1
  | n + 1 => kq_pw v n * v
def kq_cnt (g : Nat) : Nat → Nat
  | 0 => 0
  | k + 1 => kq_cnt g k + (if g.testBit k = true then 1 else 0)
theorem kq_wtS (P Q : Int64) (g k : Nat) : kq_wt P Q g (k + 1) = kq_wt P Q g k * (if g.testBit k = true then P else Q) := rfl
theorem kq_pwS (v : Int64) (n : Nat) : kq_pw v (n + 1) = kq_pw v n * v := rfl
theorem kq_cntS (g k : Nat) : kq_cnt g (k + 1) = kq_cnt g k + (if g.testBit k = true then 1 else 0) := rfl
theorem kq_wtpw (P Q : Int64) (g : Nat) : ∀ k : Nat, kq_cnt g k ≤ k ∧ kq_wt P Q g k = kq_pw P (kq_cnt g k) * kq_pw Q (k - kq_cnt g k)
  | 0 => ⟨Nat.le_refl 0, by show (1 : Int64) = 1 * 1; rw [Int64.mul_one]⟩
  | k + 1 => by
    obtain ⟨h1, h2⟩ := kq_wtpw P Q g k
    rw [kq_wtS, kq_cntS, h2]
    by_cases e : g.testBit k = true
    · rw [if_pos e, if_pos e, show k + 1 - (kq_cnt g k + 1) = k - kq_cnt g k by omega, kq_pwS]
      refine ⟨by omega, ?_⟩
      rw [Int64.mul_assoc, Int64.mul_comm (kq_pw Q (k - kq_cnt g k)) P, ← Int64.mul_assoc]
    · rw [if_neg e, if_neg e, Nat.add_zero, show k + 1 - kq_cnt g k = (k - kq_cnt g k) + 1 by omega, kq_pwS]
      refine ⟨by omega, ?_⟩
      rw [Int64.mul_assoc]
theorem kq_cnt6 : ∀ g : Nat, g < 64 → (f_X8_bits kz0 (Int32.ofNat g)).toInt = ((kq_cnt g 6 : Nat) : Int) := by decide +kernel
theorem kq_cntn : ∀ g : Nat, g < 64 → ∀ n : Nat, n < 7 → g < 2 ^ n → kq_cnt g 6 = kq_cnt g n := by decide +kernel
theorem kq_pw12 : ∀ n : Nat, n < 7 → (kq_pw 12 n).toInt = ((12 ^ n : Nat) : Int) := by decide +kernel
theorem kq_power (S : kw_S) (v : Int64) (n : Int32) (n0 : 0 ≤ n.toInt) (n1 : n.toInt ≤ 100) : f_X8_power S v n = kq_pw v n.toNatClampNeg ∧ f_X8_powerv12 S v n = kq_pw v n.toNatClampNeg := by
  have cn := kw_clampI n0
  have L : ∀ (f : Nat) (c : Int64) (y : Int32), 0 ≤ y.toInt → y.toInt ≤ n.toInt → (n.toInt - y.toInt).toNat < f → c = kq_pw v y.toNatClampNeg → l_X8_power_5 v n S f c y = kq_pw v n.toNatClampNeg ∧ l_X8_powerv12_5 v n S f c y = kq_pw v n.toNatClampNeg := by
    intro f
    induction f with
    | zero => intro c y _ _ h; exact absurd h (Nat.not_lt_zero _)
    | succ f ih =>
      intro c y y0 y1 hf hc
      have cy := kw_clampI y0
      rw [l_X8_power_5_s, l_X8_powerv12_5_s]
      simp only [kf_lx]
      by_cases hy : y.toInt < n.toInt
      · have z := kp_inc y (by omega)
        have c1 := kw_clampI (x := y + Int32.ofInt 1) (by omega)
        rw [if_pos hy, if_pos hy]
        exact ih _ _ (by omega) (by omega) (by omega) (by rw [show (y + Int32.ofInt 1).toNatClampNeg = y.toNatClampNeg + 1 by omega, kq_pwS, hc])
      · rw [if_neg hy, if_neg hy, hc, show y.toNatClampNeg = n.toNatClampNeg by omega]
        exact ⟨rfl, rfl⟩
  rw [f_X8_power_u, f_X8_powerv12_u]
  exact L _ _ _ (by decide) (by rw [kp_q0]; exact n0) (by omega) rfl
theorem kq_wX (S : kw_S) (h u p : Int32) (h0 : 0 ≤ h.toInt) (h6 : h.toInt ≤ 6) (u0 : 0 ≤ u.toInt) (u63 : u.toInt ≤ 63) : f_X7_weightOfGusts S h u p = kq_wt p.toInt64 (12 - p).toInt64 u.toNatClampNeg h.toNatClampNeg := by
  have ch := kw_clampI h0
  have L : ∀ (f : Nat) (c : Int64) (y : Int32), 0 ≤ y.toInt → y.toInt ≤ h.toInt → (h.toInt - y.toInt).toNat < f → c = kq_wt p.toInt64 (12 - p).toInt64 u.toNatClampNeg y.toNatClampNeg → l_X7_weightOfGusts_5 h u p S f c y = kq_wt p.toInt64 (12 - p).toInt64 u.toNatClampNeg h.toNatClampNeg := by
    intro f
    induction f with
    | zero => intro c y _ _ h; exact absurd h (Nat.not_lt_zero _)
    | succ f ih =>
      intro c y y0 y1 hf hc
      have cy := kw_clampI y0
      rw [l_X7_weightOfGusts_5_s]
      simp only [kf_lx]
      by_cases hy : y.toInt < h.toInt
      · have z := kp_inc y (by omega)
        have c1 := kw_clampI (x := y + Int32.ofInt 1) (by omega)
        have en : (y + Int32.ofInt 1).toNatClampNeg = y.toNatClampNeg + 1 := by omega
        have bt := kc_bit u y u0 u63 y0 (by omega)
        rw [if_pos hy]
        by_cases e : u.toNatClampNeg.testBit y.toNatClampNeg = true
        · rw [if_pos e] at bt
          rw [if_pos (show ((u >>> (y &&& 31)) &&& 1).toInt = (1 : Int32).toInt from bt)]
          exact ih _ _ (by omega) (by omega) (by omega) (by rw [en, kq_wtS, if_pos e, hc])
        · rw [if_neg e] at bt
          rw [if_neg (show ¬ ((u >>> (y &&& 31)) &&& 1).toInt = (1 : Int32).toInt by rw [bt]; decide)]
          exact ih _ _ (by omega) (by omega) (by omega) (by rw [en, kq_wtS, if_neg e, hc])
      · rw [if_neg hy, hc, show y.toNatClampNeg = h.toNatClampNeg by omega]
  rw [f_X7_weightOfGusts_u]
  exact L _ _ _ (by decide) (by rw [kp_q0]; exact h0) (by omega) rfl
theorem kq_wM (S : kw_S) (h u p : Int32) (h0 : 0 ≤ h.toInt) (h6 : h.toInt ≤ 6) (u0 : 0 ≤ u.toInt) (u1 : u.toInt < (2 ^ h.toNatClampNeg : Nat)) : f_X8_weightOf_0 S u h p = kq_wt p.toInt64 (12 - p).toInt64 u.toNatClampNeg h.toNatClampNeg := by
  have ch := kw_clampI h0
  have cu := kw_clampI u0
  have pw := kc_pow h.toNatClampNeg (by omega)
  obtain ⟨w1, w2⟩ := kq_wtpw p.toInt64 (12 - p).toInt64 u.toNatClampNeg h.toNatClampNeg
  have c6 := kq_cnt6 u.toNatClampNeg (by omega)
  have cn := kq_cntn u.toNatClampNeg (by omega) h.toNatClampNeg (by omega) (by omega)
  rw [kd_ofNat u u0, ← kd_bits0 S u, cn] at c6
  rw [f_X8_weightOf_0_u]
  simp only [kf_lx]
  generalize f_X8_bits S u = b at *
  have cb := kw_clampI (x := b) (by omega)
  have es : (h - b).toInt = h.toInt - b.toInt := by rw [kw_subI]; omega
  have cs := kw_clampI (x := h - b) (by omega)
  rw [(kq_power S _ b (by omega) (by omega)).1, (kq_power S _ (h - b) (by omega) (by omega)).1, w2, show b.toNatClampNeg = kq_cnt u.toNatClampNeg h.toNatClampNeg by omega, show (h - b).toNatClampNeg = h.toNatClampNeg - kq_cnt u.toNatClampNeg h.toNatClampNeg by omega]
/-! as whole numbers -/
def kq_wi (P : Int) (g : Nat) : Nat → Int
  | 0 => 1
  | k + 1 => kq_wi P g k * (if g.testBit k = true then P else 12 - P)
theorem kq_wiS (P : Int) (g k : Nat) : kq_wi P g (k + 1) = kq_wi P g k * (if g.testBit k = true then P else 12 - P) := rfl
theorem kq_wiB (P : Int) (p0 : 0 ≤ P) (p12 : P ≤ 12) (g : Nat) : ∀ k : Nat, 0 ≤ kq_wi P g k ∧ kq_wi P g k ≤ ((12 ^ k : Nat) : Int)
  | 0 => ⟨by show (0 : Int) ≤ 1; decide, by show (1 : Int) ≤ ((12 ^ 0 : Nat) : Int); decide⟩
  | k + 1 => by
    obtain ⟨h1, h2⟩ := kq_wiB P p0 p12 g k
    have e : ((12 ^ (k + 1) : Nat) : Int) = ((12 ^ k : Nat) : Int) * 12 := by rw [Nat.pow_succ]; omega
    have f : 0 ≤ (if g.testBit k = true then P else 12 - P) ∧ (if g.testBit k = true then P else 12 - P) ≤ 12 := by
      by_cases b : g.testBit k = true
      · rw [if_pos b]; omega
      · rw [if_neg b]; omega
    rw [kq_wiS, e]
    generalize (if g.testBit k = true then P else 12 - P) = c at f ⊢
    refine ⟨Int.mul_nonneg h1 f.1, ?_⟩
    have a1 := Int.mul_le_mul_of_nonneg_left f.2 h1
    omega
theorem kq_wI (p : Int32) (p0 : 0 ≤ p.toInt) (p12 : p.toInt ≤ 12) (g : Nat) : ∀ k : Nat, k ≤ 6 → (kq_wt p.toInt64 (12 - p).toInt64 g k).toInt = kq_wi p.toInt g k
  | 0, _ => rfl
  | k + 1, hk => by
    have ih := kq_wI p p0 p12 g k (by omega)
    have q12 : (12 : Int32).toInt = 12 := rfl
    have es : (12 - p).toInt = 12 - p.toInt := by rw [kw_subI, q12]; omega
    have ef : (if g.testBit k = true then p.toInt64 else (12 - p).toInt64).toInt = (if g.testBit k = true then p.toInt else 12 - p.toInt) := by
      by_cases b : g.testBit k = true
      · rw [if_pos b, if_pos b, kw_i2lI]
      · rw [if_neg b, if_neg b, kw_i2lI, es]
    have B := kq_wiB p.toInt p0 p12 g (k + 1)
    have P6 : (12 ^ (k + 1) : Nat) ≤ 12 ^ 6 := Nat.pow_le_pow_right (by decide) (by omega)
    have P7 : (12 ^ 6 : Nat) = 2985984 := by decide
    rw [kq_wtS, Int64.toInt_mul, ih, ef, ← kq_wiS, kw_bmL]
    omega
theorem kr_odds {x m s t : kw_S} {r q : Int32} (hX : kw_I bX x) (hL : kr_L x m) (hD : kr_D x m) (hW : kr_W x m) (a mm p : Int32) (e1 : (r, s) = f_X7_odds_0 x a mm p) (e2 : (q, t) = f_X8_odds_0 m a mm p) : r = q ∧ kq x m s t := by
  have hb : ∀ j : Nat, -1 ≤ (x.1 13 j).toInt ∧ (x.1 13 j).toInt ≤ 40 := fun j => hX 13 j
  have qm : (-999 : Int32).toInt = -999 := rfl
  have q9 : (999 : Int32).toInt = 999 := rfl
  have q12 : (12 : Int32).toInt = 12 := rfl
  have h10 : ¬ (1 : Int32).toInt = 0 := by decide
  have h00 : (0 : Int32).toInt = 0 := rfl
  have hm1 : (-1 : Int32).toInt < 0 := by decide
  have bad : ∀ b : Int32, (r, s) = (b, x) → (q, t) = (b, m) → r = q ∧ kq x m s t := by
    intro b g1 g2
    obtain ⟨a1, a2⟩ := Prod.mk.inj g1
    obtain ⟨b1, b2⟩ := Prod.mk.inj g2
    rw [a1, a2, b1, b2]
    exact ⟨rfl, kq.rf⟩
  rw [f_X7_odds_0_u] at e1
  rw [f_X8_odds_0_u] at e2
  simp only [kf_bx, kf_lx] at e1
  simp only [kf_bx, kf_lx, kp_in] at e2
  by_cases hp : (0 : Int32).toInt ≤ p.toInt ∧ p.toInt ≤ (12 : Int32).toInt
  · have hp' : 0 ≤ p.toInt ∧ p.toInt ≤ 12 := hp
    simp only [if_pos hp] at e2
    rw [if_neg h10] at e2
    by_cases hm : (-999 : Int32).toInt ≤ mm.toInt ∧ mm.toInt ≤ (999 : Int32).toInt
    · have hm' : -999 ≤ mm.toInt ∧ mm.toInt ≤ 999 := hm
      simp only [if_pos hm] at e2
      rw [if_neg h10] at e2
      rw [if_neg (show ¬ mm.toInt < (-999 : Int32).toInt by omega), if_neg (show ¬ (999 : Int32).toInt < mm.toInt by omega), if_neg (show ¬ p.toInt < 0 by omega), if_neg (show ¬ (12 : Int32).toInt < p.toInt by omega)] at e1
      rcases kr_plan hX hL hW a with ⟨f, f1, f5, p1, p2⟩ | ⟨b, b0, p1, p2⟩ | ⟨p1, p2, a0, a6, n0, n6, g, hv⟩
      · rw [p1, if_neg (by rw [kp_refuse1]; decide)] at e1
        rw [p2, if_pos (by rw [kp_meet1]; decide)] at e2
        obtain ⟨r1, s1⟩ := Prod.mk.inj e1
        obtain ⟨r2, s2⟩ := Prod.mk.inj e2
        rw [r1, s1, r2, s2]
        exact ⟨(kp_refuse1 _ _).trans (kp_meet1 _ _).symm, kq.no x m f f1 f5⟩
      · rw [p1] at e1
        rw [p2] at e2
        dsimp only at e1 e2
        rw [if_neg (show ¬ b.toInt = 0 by omega)] at e1
        rw [if_pos b0] at e2
        exact bad b e1 e2
      · rw [p1] at e1
        rw [p2] at e2
        dsimp only at e1 e2
        rw [if_pos h00] at e1
        rw [if_neg (show ¬ (0 : Int32).toInt < 0 by decide), g] at e2
        obtain ⟨F, hS⟩ := kq_fore hb hL hD a a0 a6 n0 n6
        generalize f_X7_foresee_0 x a = S at *
        rw [kp_size1, if_pos (show 0 ≤ a.toInt ∧ a.toInt < 6 from ⟨a0, a6⟩), (F 13 (by decide)).1] at e1
        have gm := kq_gm hb hW hD a a0 a6 n0 n6 g F hS
        generalize hh : x.1 13 a.toNatClampNeg = h at *
        have ch := kw_clampI n0
        have pw := kc_pow h.toNatClampNeg (by omega)
        have p1' := kc_pow1 h n0 n6
        have W := fun u : Int32 => kq_wX S h u p n0 n6
        have W' := fun u : Int32 => kq_wM m h u p n0 n6
        have WB := fun u : Nat => kq_wiB p.toInt hp'.1 hp'.2 u h.toNatClampNeg
        have WI := fun u : Nat => kq_wI p hp'.1 hp'.2 u h.toNatClampNeg (by omega)
        have P6 : (12 ^ h.toNatClampNeg : Nat) ≤ 12 ^ 6 := Nat.pow_le_pow_right (by decide) (by omega)
        have P7 : (12 ^ 6 : Nat) = 2985984 := by decide
        have P0 : 0 < (12 ^ h.toNatClampNeg : Nat) := Nat.pow_pos (by decide)
        have A : ∀ (n : Nat) (c : Int64) (y : Int32), 0 ≤ y.toInt → y.toInt ≤ h.toInt → (h.toInt - y.toInt).toNat < n → c = kq_pw 12 y.toNatClampNeg → l_X7_odds_0_62 a mm p 0 h S n c y = l_X7_odds_0_89 a mm p 0 h (kq_pw 12 h.toNatClampNeg) S ((((1 : Int32) <<< (h &&& 31)).toInt - (0 : Int32).toInt).toNat + 1) 0 0 := by
          intro n
          induction n with
          | zero => intro c y _ _ h; exact absurd h (Nat.not_lt_zero _)
          | succ n ih =>
            intro c y y0 y1 hf hc
            have cy := kw_clampI y0
            rw [l_X7_odds_0_62_s]
            simp only [kf_lx]
            by_cases hy : y.toInt < h.toInt
            · have z := kp_inc y (by omega)
              have c1 := kw_clampI (x := y + Int32.ofInt 1) (by omega)
              rw [if_pos hy]
              exact ih _ _ (by omega) (by omega) (by omega) (by rw [show (y + Int32.ofInt 1).toNatClampNeg = y.toNatClampNeg + 1 by omega, kq_pwS, hc])
            · rw [if_neg hy, hc, show y.toNatClampNeg = h.toNatClampNeg by omega]
        have B : ∀ (n n' : Nat) (c : Int64) (y : Int32), 0 ≤ y.toInt → y.toInt ≤ (2 ^ h.toNatClampNeg : Nat) → ((2 ^ h.toNatClampNeg : Nat) - y.toInt).toNat < n → ((2 ^ h.toNatClampNeg : Nat) - y.toInt).toNat < n' → 0 ≤ c.toInt → c.toInt ≤ 2985984 * y.toInt → ∃ w : Int64, 0 ≤ w.toInt ∧ w.toInt ≤ 2985984 * 64 ∧ l_X7_odds_0_89 a mm p 0 h (kq_pw 12 h.toNatClampNeg) S n c y = (1, f_X4_tellShare_8 S w (kq_pw 12 h.toNatClampNeg)) ∧ l_X8_odds_0_56 a mm p 0 h m n' c y = f_X8_part_0 m w (kq_pw 12 h.toNatClampNeg) := by
          intro n
          induction n with
          | zero => intro n' c y _ _ h _; exact absurd h (Nat.not_lt_zero _)
          | succ n ih =>
            intro n' c y y0 y1 f1 f2 c0 c1
            cases n' with
            | zero => exact absurd f2 (Nat.not_lt_zero _)
            | succ n' =>
              have cy := kw_clampI y0
              rw [l_X7_odds_0_89_s, l_X8_odds_0_56_s, gm y]
              simp only [kf_lx, kf_bx]
              by_cases hy : y.toInt < (2 ^ h.toNatClampNeg : Nat)
              · have z := kp_inc y (by omega)
                rw [if_pos (show y.toInt < ((1 : Int32) <<< (h &&& 31)).toInt by rw [p1']; exact hy), if_pos (show y.toInt < ((1 : Int32) <<< (h &&& 31)).toInt by rw [p1']; exact hy)]
                by_cases hw : (f_X8_gustMiles_0 m a y).toInt < mm.toInt
                · rw [if_pos hw, if_pos hw, Int64.add_zero]
                  exact ih n' _ _ (by omega) (by omega) (by omega) (by omega) c0 (by omega)
                · rw [if_neg hw, if_neg hw, W y y0 (by omega), W' y y0 hy]
                  have b1 := WB y.toNatClampNeg
                  have b2 := WI y.toNatClampNeg
                  have es : (c + kq_wt p.toInt64 (12 - p).toInt64 y.toNatClampNeg h.toNatClampNeg).toInt = c.toInt + kq_wi p.toInt y.toNatClampNeg h.toNatClampNeg := by rw [kw_addL, b2]; omega
                  exact ih n' _ _ (by omega) (by omega) (by omega) (by omega) (by omega) (by omega)
              · rw [if_neg (show ¬ y.toInt < ((1 : Int32) <<< (h &&& 31)).toInt by rw [p1']; exact hy), if_neg (show ¬ y.toInt < ((1 : Int32) <<< (h &&& 31)).toInt by rw [p1']; exact hy), (kq_power m 12 h n0 (by omega)).2]
                exact ⟨c, c0, by omega, rfl, rfl⟩
        rw [A ((h.toInt - (0 : Int32).toInt).toNat + 1) 1 0 (by decide) (by rw [kp_q0]; exact n0) (by omega) rfl] at e1
        obtain ⟨w, w0, w1, l1, l2⟩ := B ((((1 : Int32) <<< (h &&& 31)).toInt - (0 : Int32).toInt).toNat + 1) ((65 - (0 : Int32).toInt).toNat + 1) 0 0 (by decide) (by rw [kp_q0]; omega) (by rw [p1']; omega) (by rw [kp_q0]; omega) (by decide) (by decide)
        rw [l1] at e1
        rw [l2] at e2
        have v12 := kq_pw12 h.toNatClampNeg (by omega)
        have sh := kq_share S m w (kq_pw 12 h.toNatClampNeg) w (kq_pw 12 h.toNatClampNeg) w.toInt (12 ^ h.toNatClampNeg) 1 1 (by omega) (by rw [v12, Nat.one_mul]) (by omega) (by rw [v12, Nat.one_mul]) (by decide) (by decide) P0 (by omega) (by omega) (by rw [show (2 ^ 40 : Nat) = 1099511627776 by decide]; omega) (by omega) (by omega) (by rw [show (2 ^ 40 : Nat) = 1099511627776 by decide]; omega)
        obtain ⟨r1, s1⟩ := Prod.mk.inj e1
        have r2 : q = (f_X8_part_0 m w (kq_pw 12 h.toNatClampNeg)).1 := congrArg Prod.fst e2
        have s2 : t = (f_X8_part_0 m w (kq_pw 12 h.toNatClampNeg)).2 := congrArg Prod.snd e2
        refine ⟨by rw [r1, r2, sh.1], ?_⟩
        rw [s1, s2]
        exact (kq.fr F (kw_FM.rf (L := [])) (by decide) (by decide)).tr sh.2
    · have hm' : ¬ (-999 ≤ mm.toInt ∧ mm.toInt ≤ 999) := hm
      simp only [if_neg hm] at e2
      rw [if_pos h00, if_pos hm1] at e2
      by_cases h2 : mm.toInt < (-999 : Int32).toInt
      · rw [if_pos h2] at e1
        exact bad _ e1 e2
      · rw [if_neg h2, if_pos (show (999 : Int32).toInt < mm.toInt by omega)] at e1
        exact bad _ e1 e2
  · have hp' : ¬ (0 ≤ p.toInt ∧ p.toInt ≤ 12) := hp
    simp only [if_neg hp] at e2
    rw [if_pos h00, if_pos hm1] at e2
    have e1' : (r, s) = (-1, x) := by
      by_cases h1 : mm.toInt < (-999 : Int32).toInt
      · rw [if_pos h1] at e1; exact e1
      rw [if_neg h1] at e1
      by_cases h2 : (999 : Int32).toInt < mm.toInt
      · rw [if_pos h2] at e1; exact e1
      rw [if_neg h2] at e1
      by_cases h3 : p.toInt < 0
      · rw [if_pos h3] at e1; exact e1
      rw [if_neg h3, if_pos (show (12 : Int32).toInt < p.toInt by omega)] at e1
      exact e1
    exact bad _ e1' e2
