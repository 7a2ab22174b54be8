/-! ===== mid: the mean by gusts ===== -/
def kq_gs (c s : Nat → Int) (g : Nat) : Nat → Int
  | 0 => 0
  | k + 1 => kq_gs c s g k + (if g.testBit k = true then s k else c k)
def kq_es (P : Int) (c s : Nat → Int) : Nat → Int
  | 0 => 0
  | k + 1 => kq_es P c s k + ((12 - P) * c k + P * s k)
def kq_sum (f : Nat → Int) : Nat → Int
  | 0 => 0
  | n + 1 => kq_sum f n + f n
theorem kq_gsS (c s : Nat → Int) (g k : Nat) : kq_gs c s g (k + 1) = kq_gs c s g k + (if g.testBit k = true then s k else c k) := rfl
theorem kq_esS (P : Int) (c s : Nat → Int) (k : Nat) : kq_es P c s (k + 1) = kq_es P c s k + ((12 - P) * c k + P * s k) := rfl
theorem kq_sumS (f : Nat → Int) (n : Nat) : kq_sum f (n + 1) = kq_sum f n + f n := rfl
theorem kq_sum_cong (f h : Nat → Int) : ∀ n : Nat, (∀ g : Nat, g < n → f g = h g) → kq_sum f n = kq_sum h n
  | 0, _ => rfl
  | n + 1, e => by rw [kq_sumS, kq_sumS, e n (by omega), kq_sum_cong f h n (fun g hg => e g (by omega))]
theorem kq_sum_add (f : Nat → Int) (a : Nat) : ∀ b : Nat, kq_sum f (a + b) = kq_sum f a + kq_sum (fun g => f (a + g)) b
  | 0 => by
    show kq_sum f a = kq_sum f a + 0
    omega
  | b + 1 => by
    rw [← Nat.add_assoc, kq_sumS, kq_sumS, kq_sum_add f a b]
    omega
theorem kq_sum_lin (f h : Nat → Int) (u v : Int) : ∀ n : Nat, kq_sum (fun g => u * f g + v * h g) n = u * kq_sum f n + v * kq_sum h n
  | 0 => by
    show (0 : Int) = u * 0 + v * 0
    rw [Int.mul_zero, Int.mul_zero]; rfl
  | n + 1 => by
    rw [kq_sumS, kq_sumS, kq_sumS, kq_sum_lin f h u v n, Int.mul_add, Int.mul_add]
    omega
theorem kq_lowcong (P : Int) (c s : Nat → Int) (g g' : Nat) : ∀ n : Nat, (∀ j : Nat, j < n → g.testBit j = g'.testBit j) → kq_wi P g n = kq_wi P g' n ∧ kq_gs c s g n = kq_gs c s g' n
  | 0, _ => ⟨rfl, rfl⟩
  | n + 1, h => by
    obtain ⟨a, b⟩ := kq_lowcong P c s g g' n (fun j hj => h j (by omega))
    rw [kq_wiS, kq_wiS, kq_gsS, kq_gsS, h n (by omega), a, b]
    exact ⟨rfl, rfl⟩
theorem kq_lo (P : Int) (c s : Nat → Int) (g n : Nat) (h : g < 2 ^ n) : kq_wi P g (n + 1) = kq_wi P g n * (12 - P) ∧ kq_gs c s g (n + 1) = kq_gs c s g n + c n := by
  rw [kq_wiS, kq_gsS, Nat.testBit_lt_two_pow h, if_neg (by decide), if_neg (by decide)]
  exact ⟨rfl, rfl⟩
theorem kq_hi (P : Int) (c s : Nat → Int) (g n : Nat) (h : g < 2 ^ n) : kq_wi P (2 ^ n + g) (n + 1) = kq_wi P g n * P ∧ kq_gs c s (2 ^ n + g) (n + 1) = kq_gs c s g n + s n := by
  have hb : (2 ^ n + g).testBit n = true := by rw [Nat.testBit_two_pow_add_eq, Nat.testBit_lt_two_pow h]; rfl
  obtain ⟨a, b⟩ := kq_lowcong P c s (2 ^ n + g) g n (fun j hj => Nat.testBit_two_pow_add_gt hj _)
  rw [kq_wiS, kq_gsS, if_pos hb, if_pos hb, a, b]
  exact ⟨rfl, rfl⟩
theorem kq_sumW (P : Int) : ∀ n : Nat, kq_sum (fun g => kq_wi P g n) (2 ^ n) = ((12 ^ n : Nat) : Int)
  | 0 => rfl
  | n + 1 => by
    have ih := kq_sumW P n
    have p2 : 2 ^ (n + 1) = 2 ^ n + 2 ^ n := by rw [Nat.pow_succ]; omega
    have c0 : Nat → Int := fun _ => 0
    rw [p2, kq_sum_add, kq_sum_cong _ (fun g => (12 - P) * kq_wi P g n + 0 * kq_wi P g n) (2 ^ n) (fun g hg => by rw [(kq_lo P c0 c0 g n hg).1, Int.mul_comm, Int.zero_mul, Int.add_zero]), kq_sum_lin, kq_sum_cong (fun g => kq_wi P (2 ^ n + g) (n + 1)) (fun g => P * kq_wi P g n + 0 * kq_wi P g n) (2 ^ n) (fun g hg => by rw [(kq_hi P c0 c0 g n hg).1, Int.mul_comm, Int.zero_mul, Int.add_zero]), kq_sum_lin, ih, Int.zero_mul, Int.add_zero, Int.add_zero, ← Int.add_mul, show 12 - P + P = 12 by omega, Nat.pow_succ]
    omega
theorem kq_sumG (P : Int) (c s : Nat → Int) : ∀ n : Nat, 12 * kq_sum (fun g => kq_gs c s g n * kq_wi P g n) (2 ^ n) = ((12 ^ n : Nat) : Int) * kq_es P c s n
  | 0 => rfl
  | n + 1 => by
    have ih := kq_sumG P c s n
    have iw := kq_sumW P n
    have p2 : 2 ^ (n + 1) = 2 ^ n + 2 ^ n := by rw [Nat.pow_succ]; omega
    have e0 : ∀ g : Nat, g < 2 ^ n → kq_gs c s g (n + 1) * kq_wi P g (n + 1) = (12 - P) * (kq_gs c s g n * kq_wi P g n) + ((12 - P) * c n) * kq_wi P g n := fun g hg => by
      rw [(kq_lo P c s g n hg).1, (kq_lo P c s g n hg).2]
      generalize kq_gs c s g n = a
      generalize kq_wi P g n = b
      generalize c n = d
      generalize 12 - P = e
      rw [Int.add_mul, ← Int.mul_assoc a b e, Int.mul_comm (a * b) e, ← Int.mul_assoc d b e, Int.mul_comm (d * b) e, ← Int.mul_assoc e d b]
    have e1 : ∀ g : Nat, g < 2 ^ n → kq_gs c s (2 ^ n + g) (n + 1) * kq_wi P (2 ^ n + g) (n + 1) = P * (kq_gs c s g n * kq_wi P g n) + (P * s n) * kq_wi P g n := fun g hg => by
      rw [(kq_hi P c s g n hg).1, (kq_hi P c s g n hg).2]
      generalize kq_gs c s g n = a
      generalize kq_wi P g n = b
      generalize s n = d
      rw [Int.add_mul, ← Int.mul_assoc a b P, Int.mul_comm (a * b) P, ← Int.mul_assoc d b P, Int.mul_comm (d * b) P, ← Int.mul_assoc P d b]
    rw [p2, kq_sum_add, kq_sum_cong (fun g => kq_gs c s g (n + 1) * kq_wi P g (n + 1)) _ (2 ^ n) e0, kq_sum_cong (fun g => kq_gs c s (2 ^ n + g) (n + 1) * kq_wi P (2 ^ n + g) (n + 1)) _ (2 ^ n) e1, kq_sum_lin, kq_sum_lin, iw, kq_esS, Nat.pow_succ, Int.natCast_mul]
    generalize kq_sum (fun g => kq_gs c s g n * kq_wi P g n) (2 ^ n) = Z at ih ⊢
    generalize ((12 ^ n : Nat) : Int) = T at ih ⊢
    generalize kq_es P c s n = E at ih ⊢
    generalize (12 - P) * c n = F
    generalize P * s n = H
    rw [show ((12 : Nat) : Int) = 12 from rfl]
    have k1 : (12 - P) * Z + F * T + (P * Z + H * T) = 12 * Z + (F + H) * T := by
      rw [Int.sub_mul, Int.add_mul]
      generalize P * Z = A
      generalize F * T = B
      generalize H * T = C
      omega
    rw [k1, Int.mul_add, ih, Int.mul_add, Int.mul_comm T 12, Int.mul_assoc 12 T E, Int.mul_assoc 12 T (F + H), Int.mul_comm T (F + H)]
theorem kq_mean (M P : Int) (c s : Nat → Int) (n : Nat) : 12 * kq_sum (fun g => (M + kq_gs c s g n) * kq_wi P g n) (2 ^ n) = ((12 ^ n : Nat) : Int) * (12 * M + kq_es P c s n) := by
  have e : ∀ g : Nat, g < 2 ^ n → (M + kq_gs c s g n) * kq_wi P g n = M * kq_wi P g n + 1 * (kq_gs c s g n * kq_wi P g n) := fun g _ => by rw [Int.add_mul, Int.one_mul]
  have h := kq_sumG P c s n
  rw [kq_sum_cong _ _ (2 ^ n) e, kq_sum_lin, kq_sumW, Int.one_mul, Int.mul_add, h, Int.mul_add, ← Int.mul_assoc, ← Int.mul_assoc, Int.mul_comm (((12 ^ n : Nat) : Int)) 12, Int.mul_assoc, Int.mul_comm M, ← Int.mul_assoc]
theorem kq_prod (q c : Int) (q0 : 0 ≤ q) (q12 : q ≤ 12) (c0 : -180 ≤ c) (c1 : c ≤ 180) : -2160 ≤ q * c ∧ q * c ≤ 2160 := by
  rcases (show q = 0 ∨ q = 1 ∨ q = 2 ∨ q = 3 ∨ q = 4 ∨ q = 5 ∨ q = 6 ∨ q = 7 ∨ q = 8 ∨ q = 9 ∨ q = 10 ∨ q = 11 ∨ q = 12 by omega) with h | h | h | h | h | h | h | h | h | h | h | h | h <;> (rw [h]; omega)
theorem kq_gsB (c s : Nat → Int) (g : Nat) (N : Nat) (hc : ∀ k : Nat, k < N → (-180 ≤ c k ∧ c k ≤ 180) ∧ (-180 ≤ s k ∧ s k ≤ 180)) : ∀ k : Nat, k ≤ N → -180 * (k : Int) ≤ kq_gs c s g k ∧ kq_gs c s g k ≤ 180 * (k : Int)
  | 0, _ => ⟨by show -180 * ((0 : Nat) : Int) ≤ 0; decide, by show (0 : Int) ≤ 180 * ((0 : Nat) : Int); decide⟩
  | k + 1, hk => by
    have ih := kq_gsB c s g N hc k (by omega)
    have h := hc k (by omega)
    rw [kq_gsS]
    by_cases b : g.testBit k = true
    · rw [if_pos b]; omega
    · rw [if_neg b]; omega
theorem kq_esB (P : Int) (p0 : 0 ≤ P) (p12 : P ≤ 12) (c s : Nat → Int) (N : Nat) (hc : ∀ k : Nat, k < N → (-180 ≤ c k ∧ c k ≤ 180) ∧ (-180 ≤ s k ∧ s k ≤ 180)) : ∀ k : Nat, k ≤ N → -4320 * (k : Int) ≤ kq_es P c s k ∧ kq_es P c s k ≤ 4320 * (k : Int)
  | 0, _ => ⟨by show -4320 * ((0 : Nat) : Int) ≤ 0; decide, by show (0 : Int) ≤ 4320 * ((0 : Nat) : Int); decide⟩
  | k + 1, hk => by
    have ih := kq_esB P p0 p12 c s N hc k (by omega)
    have h := hc k (by omega)
    have a := kq_prod (12 - P) (c k) (by omega) (by omega) h.1.1 h.1.2
    have b := kq_prod P (s k) p0 p12 h.2.1 h.2.2
    rw [kq_esS]
    generalize (12 - P) * c k = u at *
    generalize P * s k = v at *
    omega
theorem kr_mid {x m s t : kw_S} {r q : Int32} (hX : kw_I bX x) (hL : kr_L x m) (hD : kr_D x m) (hW : kr_W x m) (a p : Int32) (e1 : (r, s) = f_X7_mid_0 x a p) (e2 : (q, t) = f_X8_mid_0 m a p) : r = q ∧ kq x m s t := by
  have hb : ∀ j : Nat, -1 ≤ (x.1 13 j).toInt ∧ (x.1 13 j).toInt ≤ 40 := fun j => hX 13 j
  have q12 : (12 : Int32).toInt = 12 := rfl
  have h10 : ¬ (1 : Int32).toInt = 0 := by decide
  have h00 : (0 : Int32).toInt = 0 := rfl
  have hm1 : (-1 : Int32).toInt < 0 := by decide
  have bad : ∀ b : Int32, (r, s) = (b, x) → (q, t) = (b, m) → r = q ∧ kq x m s t := by
    intro b g1 g2
    obtain ⟨a1, a2⟩ := Prod.mk.inj g1
    obtain ⟨b1, b2⟩ := Prod.mk.inj g2
    rw [a1, a2, b1, b2]
    exact ⟨rfl, kq.rf⟩
  rw [f_X7_mid_0_u] at e1
  rw [f_X8_mid_0_u] at e2
  simp only [kf_bx, kf_lx] at e1
  simp only [kf_bx, kf_lx, kp_in] at e2
  by_cases hp : (0 : Int32).toInt ≤ p.toInt ∧ p.toInt ≤ (12 : Int32).toInt
  · have hp' : 0 ≤ p.toInt ∧ p.toInt ≤ 12 := hp
    simp only [if_pos hp] at e2
    rw [if_neg h10] at e2
    rw [if_neg (show ¬ p.toInt < 0 by omega), if_neg (show ¬ (12 : Int32).toInt < p.toInt by omega)] at e1
    rcases kr_plan hX hL hW a with ⟨f, f1, f5, p1, p2⟩ | ⟨b, b0, p1, p2⟩ | ⟨p1, p2, a0, a6, n0, n6, g, hv⟩
    · rw [p1, if_neg (by rw [kp_refuse1]; decide)] at e1
      rw [p2, if_pos (by rw [kp_meet1]; decide)] at e2
      obtain ⟨r1, s1⟩ := Prod.mk.inj e1
      obtain ⟨r2, s2⟩ := Prod.mk.inj e2
      rw [r1, s1, r2, s2]
      exact ⟨(kp_refuse1 _ _).trans (kp_meet1 _ _).symm, kq.no x m f f1 f5⟩
    · rw [p1] at e1
      rw [p2] at e2
      dsimp only at e1 e2
      rw [if_neg (show ¬ b.toInt = 0 by omega)] at e1
      rw [if_pos b0] at e2
      exact bad b e1 e2
    · rw [p1] at e1
      rw [p2] at e2
      dsimp only at e1 e2
      rw [if_pos h00] at e1
      rw [if_neg (show ¬ (0 : Int32).toInt < 0 by decide), g] at e2
      obtain ⟨F, hS⟩ := kq_fore hb hL hD a a0 a6 n0 n6
      generalize f_X7_foresee_0 x a = S at *
      have gm := kq_gm hb hW hD a a0 a6 n0 n6 g F hS
      have mb := kg_gone hL hD
      have f13 : S.1 13 a.toNatClampNeg = x.1 13 a.toNatClampNeg := by rw [(F 13 (by decide)).1]
      have f46 : S.1 4 6 = x.1 4 6 := by rw [(F 4 (by decide)).1]
      rw [f46] at e1
      have ch := kw_clampI n0
      have cg : ∀ k : Nat, k < (x.1 13 a.toNatClampNeg).toNatClampNeg → (-180 ≤ (S.1 10 k).toInt ∧ (S.1 10 k).toInt ≤ 180) ∧ (-180 ≤ (S.1 11 k).toInt ∧ (S.1 11 k).toInt ≤ 180) := fun k hk => by
        rw [(hS k (by omega)).1, (hS k (by omega)).2]
        exact kq_CGb hL hD a.toNatClampNeg k (by omega) (hv k (by omega))
      generalize hc : (fun k : Nat => (S.1 10 k).toInt) = c
      generalize hg : (fun k : Nat => (S.1 11 k).toInt) = d
      have ec : ∀ k : Nat, c k = (S.1 10 k).toInt := fun k => by rw [← hc]
      have ed : ∀ k : Nat, d k = (S.1 11 k).toInt := fun k => by rw [← hg]
      have cd : ∀ k : Nat, k < (x.1 13 a.toNatClampNeg).toNatClampNeg → (-180 ≤ c k ∧ c k ≤ 180) ∧ (-180 ≤ d k ∧ d k ≤ 180) := fun k hk => by
        rw [ec, ed]; exact cg k hk
      generalize hh : x.1 13 a.toNatClampNeg = h at *
      have pw := kc_pow h.toNatClampNeg (by omega)
      have p1' := kc_pow1 h n0 n6
      have W' := fun u : Int32 => kq_wM m h u p n0 n6
      have WB := fun u : Nat => kq_wiB p.toInt hp'.1 hp'.2 u h.toNatClampNeg
      have WI := fun u : Nat => kq_wI p hp'.1 hp'.2 u h.toNatClampNeg (by omega)
      have P6 : (12 ^ h.toNatClampNeg : Nat) ≤ 12 ^ 6 := Nat.pow_le_pow_right (by decide) (by omega)
      have P7 : (12 ^ 6 : Nat) = 2985984 := by decide
      have P0 : 0 < (12 ^ h.toNatClampNeg : Nat) := Nat.pow_pos (by decide)
      have EB := kq_esB p.toInt hp'.1 hp'.2 c d h.toNatClampNeg cd
      have es12 : (12 - p).toInt = 12 - p.toInt := by rw [kw_subI, q12]; omega
      -- the class's sum
      have A : ∀ (n : Nat) (w : Int64) (y : Int32), 0 ≤ y.toInt → y.toInt ≤ h.toInt → (h.toInt - y.toInt).toNat < n → w.toInt = 12 * (x.1 4 6).toInt + kq_es p.toInt c d y.toNatClampNeg → ∃ w' : Int64, w'.toInt = 12 * (x.1 4 6).toInt + kq_es p.toInt c d h.toNatClampNeg ∧ l_X7_mid_0_46 a p 0 S n w y = (1, f_X4_tellShare_8 S w' 12) := by
        intro n
        induction n with
        | zero => intro w y _ _ h; exact absurd h (Nat.not_lt_zero _)
        | succ n ih =>
          intro w y y0 y1 hf hw
          have cy := kw_clampI y0
          rw [l_X7_mid_0_46_s, kp_size1, if_pos (show 0 ≤ a.toInt ∧ a.toInt < 6 from ⟨a0, a6⟩), f13]
          simp only [kf_lx]
          by_cases hy : y.toInt < h.toInt
          · have z := kp_inc y (by omega)
            have c1 := kw_clampI (x := y + Int32.ofInt 1) (by omega)
            have en : (y + Int32.ofInt 1).toNatClampNeg = y.toNatClampNeg + 1 := by omega
            have cb := cd y.toNatClampNeg (by omega)
            have eb := EB y.toNatClampNeg (by omega)
            rw [if_pos hy]
            refine ih _ _ (by omega) (by omega) (by omega) ?_
            rw [en, kq_esS, kw_addL, kw_i2lI, kw_addI, kw_mulI, kw_mulI, es12, ← ec, ← ed, hw]
            have u1 := kq_prod (12 - p.toInt) (c y.toNatClampNeg) (by omega) (by omega) cb.1.1 cb.1.2
            have u2 := kq_prod p.toInt (d y.toNatClampNeg) hp'.1 hp'.2 cb.2.1 cb.2.2
            generalize (12 - p.toInt) * c y.toNatClampNeg = A1 at *
            generalize p.toInt * d y.toNatClampNeg = A2 at *
            generalize kq_es p.toInt c d y.toNatClampNeg = A3 at *
            clear ih hf cd cg EB WB WI W' gm hS
            omega
          · rw [if_neg hy]
            exact ⟨w, by rw [hw, show y.toNatClampNeg = h.toNatClampNeg by omega], rfl⟩
      -- miles by gusts, as a whole number
      have GI : ∀ u : Int32, 0 ≤ u.toInt → u.toInt ≤ 63 → (f_X8_gustMiles_0 m a u).toInt = (x.1 4 6).toInt + kq_gs c d u.toNatClampNeg h.toNatClampNeg := by
        intro u u0 u63
        have GB := kq_gsB c d u.toNatClampNeg h.toNatClampNeg cd
        rw [← gm u, f_X7_milesByGusts_0_u, f46]
        have L : ∀ (n : Nat) (w y : Int32), 0 ≤ y.toInt → y.toInt ≤ h.toInt → (h.toInt - y.toInt).toNat < n → w.toInt = (x.1 4 6).toInt + kq_gs c d u.toNatClampNeg y.toNatClampNeg → (l_X7_milesByGusts_0_11 h u S n w y).toInt = (x.1 4 6).toInt + kq_gs c d u.toNatClampNeg h.toNatClampNeg := by
          intro n
          induction n with
          | zero => intro w y _ _ h; exact absurd h (Nat.not_lt_zero _)
          | succ n ih =>
            intro w y y0 y1 hf hw
            have cy := kw_clampI y0
            rw [l_X7_milesByGusts_0_11_s]
            simp only [kf_lx]
            by_cases hy : y.toInt < h.toInt
            · have z := kp_inc y (by omega)
              have c1 := kw_clampI (x := y + Int32.ofInt 1) (by omega)
              have en : (y + Int32.ofInt 1).toNatClampNeg = y.toNatClampNeg + 1 := by omega
              have cb := cd y.toNatClampNeg (by omega)
              have gb := GB y.toNatClampNeg (by omega)
              have bt := kc_bit u y u0 u63 y0 (by omega)
              rw [if_pos hy]
              by_cases e : u.toNatClampNeg.testBit y.toNatClampNeg = true
              · rw [if_pos e] at bt
                rw [if_pos (show ((u >>> (y &&& 31)) &&& 1).toInt = (1 : Int32).toInt from bt)]
                refine ih _ _ (by omega) (by omega) (by omega) ?_
                rw [en, kq_gsS, if_pos e, kw_addI, hw, ← ed]
                omega
              · rw [if_neg e] at bt
                rw [if_neg (show ¬ ((u >>> (y &&& 31)) &&& 1).toInt = (1 : Int32).toInt by rw [bt]; decide)]
                refine ih _ _ (by omega) (by omega) (by omega) ?_
                rw [en, kq_gsS, if_neg e, kw_addI, hw, ← ec]
                omega
            · rw [if_neg hy, hw, show y.toNatClampNeg = h.toNatClampNeg by omega]
        exact L _ _ _ (by decide) (by rw [kp_q0]; exact n0) (by omega) (by show _ = (x.1 4 6).toInt + 0; omega)
      -- the reference's sum
      have B : ∀ (n' : Nat) (w : Int64) (y : Int32), 0 ≤ y.toInt → y.toInt ≤ (2 ^ h.toNatClampNeg : Nat) → ((2 ^ h.toNatClampNeg : Nat) - y.toInt).toNat < n' → w.toInt = kq_sum (fun g => ((x.1 4 6).toInt + kq_gs c d g h.toNatClampNeg) * kq_wi p.toInt g h.toNatClampNeg) y.toNatClampNeg → -26871856128 * y.toInt ≤ w.toInt → w.toInt ≤ 26871856128 * y.toInt → ∃ w' : Int64, w'.toInt = kq_sum (fun g => ((x.1 4 6).toInt + kq_gs c d g h.toNatClampNeg) * kq_wi p.toInt g h.toNatClampNeg) (2 ^ h.toNatClampNeg) ∧ -1719798792192 ≤ w'.toInt ∧ w'.toInt ≤ 1719798792192 ∧ l_X8_mid_0_40 a p 0 h m n' w y = f_X8_part_0 m w' (kq_pw 12 h.toNatClampNeg) := by
        intro n'
        induction n' with
        | zero => intro w y _ _ h; exact absurd h (Nat.not_lt_zero _)
        | succ n' ih =>
          intro w y y0 y1 f2 hw wl wu
          have cy := kw_clampI y0
          rw [l_X8_mid_0_40_s]
          simp only [kf_lx, kf_bx]
          by_cases hy : y.toInt < (2 ^ h.toNatClampNeg : Nat)
          · have z := kp_inc y (by omega)
            have c1 := kw_clampI (x := y + Int32.ofInt 1) (by omega)
            have en : (y + Int32.ofInt 1).toNatClampNeg = y.toNatClampNeg + 1 := by omega
            have b1 := WB y.toNatClampNeg
            have b2 := WI y.toNatClampNeg
            have gi := GI y y0 (by omega)
            have gb := kq_gsB c d y.toNatClampNeg h.toNatClampNeg cd h.toNatClampNeg (Nat.le_refl _)
            rw [if_pos (show y.toInt < ((1 : Int32) <<< (h &&& 31)).toInt by rw [p1']; exact hy), W' y y0 hy]
            have gl : -8280 ≤ (x.1 4 6).toInt + kq_gs c d y.toNatClampNeg h.toNatClampNeg := by omega
            have gu : (x.1 4 6).toInt + kq_gs c d y.toNatClampNeg h.toNatClampNeg ≤ 8280 := by omega
            have m1 := Int.mul_le_mul_of_nonneg_right gl b1.1
            have m2 := Int.mul_le_mul_of_nonneg_right gu b1.1
            have em : ((f_X8_gustMiles_0 m a y).toInt64 * kq_wt p.toInt64 (12 - p).toInt64 y.toNatClampNeg h.toNatClampNeg).toInt = ((x.1 4 6).toInt + kq_gs c d y.toNatClampNeg h.toNatClampNeg) * kq_wi p.toInt y.toNatClampNeg h.toNatClampNeg := by
              rw [Int64.toInt_mul, kw_i2lI, gi, b2, kw_bmL]
              generalize ((x.1 4 6).toInt + kq_gs c d y.toNatClampNeg h.toNatClampNeg) * kq_wi p.toInt y.toNatClampNeg h.toNatClampNeg = Z at m1 m2 ⊢
              omega
            generalize hZ : ((x.1 4 6).toInt + kq_gs c d y.toNatClampNeg h.toNatClampNeg) * kq_wi p.toInt y.toNatClampNeg h.toNatClampNeg = Z at m1 m2 em
            have ea : (w + (f_X8_gustMiles_0 m a y).toInt64 * kq_wt p.toInt64 (12 - p).toInt64 y.toNatClampNeg h.toNatClampNeg).toInt = w.toInt + Z := by
              rw [kw_addL, em]; omega
            refine ih _ _ (by omega) (by omega) (by omega) ?_ (by omega) (by omega)
            rw [en, kq_sumS, ← hw, hZ, ea]
          · rw [if_neg (show ¬ y.toInt < ((1 : Int32) <<< (h &&& 31)).toInt by rw [p1']; exact hy), (kq_power m 12 h n0 (by omega)).2]
            exact ⟨w, by rw [hw, show y.toNatClampNeg = 2 ^ h.toNatClampNeg by omega], by omega, by omega, rfl⟩
      have e12 : ((12 : Int64) * (x.1 4 6).toInt64).toInt = 12 * (x.1 4 6).toInt := by
        rw [Int64.toInt_mul, kw_i2lI, show (12 : Int64).toInt = 12 from rfl, kw_bmL]; omega
      obtain ⟨u, u1, u2⟩ := A ((41 - (0 : Int32).toInt).toNat + 1) ((12 : Int64) * (x.1 4 6).toInt64) 0 (by decide) (by rw [kp_q0]; exact n0) (by rw [kp_q0]; omega) (by rw [e12]; show _ = 12 * (x.1 4 6).toInt + 0; omega)
      obtain ⟨w, w1, w2, w3, w4⟩ := B ((65 - (0 : Int32).toInt).toNat + 1) 0 0 (by decide) (by rw [kp_q0]; omega) (by rw [kp_q0]; omega) rfl (by decide) (by decide)
      rw [u2] at e1
      rw [w4] at e2
      have mean := kq_mean (x.1 4 6).toInt p.toInt c d h.toNatClampNeg
      rw [← w1, ← u1] at mean
      have eb := EB h.toNatClampNeg (Nat.le_refl _)
      have v12 := kq_pw12 h.toNatClampNeg (by omega)
      have q40 : (2 ^ 40 : Nat) = 1099511627776 := by decide
      have sh : (f_X8_part_0 m w (kq_pw 12 h.toNatClampNeg)).1 = 1 ∧ kq S m (f_X4_tellShare_8 S u 12) (f_X8_part_0 m w (kq_pw 12 h.toNatClampNeg)).2 := by
        by_cases hz : h.toNatClampNeg = 0
        · rw [hz] at mean v12 ⊢
          have m0 : 12 * w.toInt = ((1 : Nat) : Int) * u.toInt := mean
          exact kq_share S m u 12 w (kq_pw 12 0) w.toInt 1 12 1 (by omega) (by decide) (by omega) (by decide) (by decide) (by decide) (by decide) (by omega) (by omega) (by decide) (by omega) (by omega) (by decide)
        · have e2 : h.toNatClampNeg = (h.toNatClampNeg - 1) + 1 := by omega
          have e3 : (12 ^ h.toNatClampNeg : Nat) = 12 ^ (h.toNatClampNeg - 1) * 12 := by
            have e4 : (12 ^ ((h.toNatClampNeg - 1) + 1) : Nat) = 12 ^ (h.toNatClampNeg - 1) * 12 := Nat.pow_succ 12 _
            rw [← e2] at e4
            exact e4
          have k0 : 0 < (12 ^ (h.toNatClampNeg - 1) : Nat) := Nat.pow_pos (by decide)
          rw [e3] at mean v12 P6
          generalize (12 ^ (h.toNatClampNeg - 1) : Nat) = K at mean v12 P6 k0
          have mw : w.toInt = (K : Int) * u.toInt := by
            rw [Int.natCast_mul, show ((12 : Nat) : Int) = 12 from rfl, Int.mul_comm (K : Int) 12, Int.mul_assoc] at mean
            exact Int.eq_of_mul_eq_mul_left (by decide) mean
          exact kq_share S m u 12 w (kq_pw 12 h.toNatClampNeg) u.toInt 12 1 K (by omega) (by decide) mw v12 (by decide) k0 (by decide) (by omega) (by omega) (by decide) (by omega) (by omega) (by omega)
      obtain ⟨r1, s1⟩ := Prod.mk.inj e1
      have r2 : q = (f_X8_part_0 m w (kq_pw 12 h.toNatClampNeg)).1 := congrArg Prod.fst e2
      have s2 : t = (f_X8_part_0 m w (kq_pw 12 h.toNatClampNeg)).2 := congrArg Prod.snd e2
      refine ⟨by rw [r1, r2, sh.1], ?_⟩
      rw [s1, s2]
      exact (kq.fr F (kw_FM.rf (L := [])) (by decide) (by decide)).tr sh.2
  · have hp' : ¬ (0 ≤ p.toInt ∧ p.toInt ≤ 12) := hp
    simp only [if_neg hp] at e2
    rw [if_pos h00, if_pos hm1] at e2
    by_cases h3 : p.toInt < 0
    · rw [if_pos h3] at e1
      exact bad _ e1 e2
    · rw [if_neg h3, if_pos (show (12 : Int32).toInt < p.toInt by omega)] at e1
      exact bad _ e1 e2
