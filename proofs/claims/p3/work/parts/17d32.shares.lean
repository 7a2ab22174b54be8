/-! ===== shares in lowest terms: Euclid's steps on both sides ===== -/
def kq_E : Nat → Int64 → Int64 → Option Int64
  | 0, a, b => if b.toInt = 0 then some a else none
  | t + 1, a, b => if b.toInt = 0 then some a else kq_E t b (a - a / b * b)
theorem kq_E0 (a b : Int64) : kq_E 0 a b = if b.toInt = 0 then some a else none := rfl
theorem kq_ES (t : Nat) (a b : Int64) : kq_E (t + 1) a b = if b.toInt = 0 then some a else kq_E t b (a - a / b * b) := rfl
theorem kq_E1 : ∀ (t : Nat) (a b d : Int64), kq_E t a b = some d → kq_E (t + 1) a b = some d
  | 0, a, b, d, h => by
    rw [kq_E0] at h
    rw [kq_ES]
    by_cases e : b.toInt = 0
    · rw [if_pos e] at h ⊢; exact h
    · rw [if_neg e] at h; cases h
  | t + 1, a, b, d, h => by
    rw [kq_ES] at h
    rw [kq_ES]
    by_cases e : b.toInt = 0
    · rw [if_pos e] at h ⊢; exact h
    · rw [if_neg e] at h ⊢; exact kq_E1 t _ _ d h
theorem kq_Ele {t : Nat} {a b d : Int64} (h : kq_E t a b = some d) : ∀ t' : Nat, t ≤ t' → kq_E t' a b = some d := by
  intro t'
  induction t' with
  | zero => intro ht; rw [show t = 0 by omega] at h; exact h
  | succ n ih =>
    intro ht
    by_cases e : t = n + 1
    · rw [← e]; exact h
    · exact kq_E1 n a b d (ih (by omega))
theorem kq_rem (a b : Int64) (A B : Nat) (ha : a.toInt = A) (hb : b.toInt = B) : (a - a / b * b).toInt = ((A % B : Nat) : Int) := by
  rw [kw_lremE, ha, hb]
  rfl
theorem kq_Egcd : ∀ (t : Nat) (a b d : Int64) (A B : Nat), a.toInt = A → b.toInt = B → kq_E t a b = some d → d.toInt = ((Nat.gcd A B : Nat) : Int)
  | 0, a, b, d, A, B, ha, hb, h => by
    rw [kq_E0] at h
    by_cases e : b.toInt = 0
    · rw [if_pos e] at h
      cases h
      rw [show B = 0 by omega, Nat.gcd_zero_right]; exact ha
    · rw [if_neg e] at h; cases h
  | t + 1, a, b, d, A, B, ha, hb, h => by
    rw [kq_ES] at h
    by_cases e : b.toInt = 0
    · rw [if_pos e] at h
      cases h
      rw [show B = 0 by omega, Nat.gcd_zero_right]; exact ha
    · rw [if_neg e] at h
      have ih := kq_Egcd t b (a - a / b * b) d B (A % B) hb (kq_rem a b A B ha hb) h
      rw [ih, Nat.gcd_comm A B, Nat.gcd_rec B A, Nat.gcd_comm (A % B) B]
theorem kq_Eend : ∀ (s : Nat) (a b : Int64) (A B : Nat), a.toInt = A → b.toInt = B → B < 2 ^ s → ∃ d : Int64, kq_E (2 * s + 1) a b = some d
  | 0, a, b, A, B, ha, hb, h => by
    have hB : B = 0 := by rw [Nat.pow_zero] at h; omega
    refine ⟨a, ?_⟩
    rw [show 2 * 0 + 1 = 0 + 1 from rfl, kq_ES, if_pos (by omega)]
  | s + 1, a, b, A, B, ha, hb, h => by
    rw [show 2 * (s + 1) + 1 = (2 * s + 1) + 1 + 1 by omega, kq_ES]
    by_cases e : b.toInt = 0
    · exact ⟨a, by rw [if_pos e]⟩
    · have hr := kq_rem a b A B ha hb
      have B0 : 0 < B := by omega
      have r1 : A % B < B := Nat.mod_lt A B0
      rw [if_neg e, kq_ES]
      by_cases e2 : (a - a / b * b).toInt = 0
      · exact ⟨b, by rw [if_pos e2]⟩
      · rw [if_neg e2]
        have r0 : 0 < A % B := by omega
        have q1 := Nat.div_add_mod B (A % B)
        have q2 := Nat.mod_lt B r0
        have q3 : 0 < B / (A % B) := Nat.div_pos (by omega) r0
        have q4 : A % B ≤ A % B * (B / (A % B)) := Nat.le_mul_of_pos_right _ q3
        have p2 : 2 ^ (s + 1) = 2 * 2 ^ s := by rw [Nat.pow_succ]; omega
        exact kq_Eend s _ _ (A % B) (B % (A % B)) hr (kq_rem b _ B (A % B) hb hr) (by omega)
theorem kq_Eend2 : ∀ (n : Nat) (a b : Int64) (A B : Nat), a.toInt = A → b.toInt = B → B ≤ n → ∃ d : Int64, kq_E n a b = some d
  | 0, a, b, A, B, ha, hb, h => ⟨a, by rw [kq_E0, if_pos (by omega)]⟩
  | n + 1, a, b, A, B, ha, hb, h => by
    rw [kq_ES]
    by_cases e : b.toInt = 0
    · exact ⟨a, by rw [if_pos e]⟩
    · have r1 : A % B < B := Nat.mod_lt A (by omega)
      rw [if_neg e]
      exact kq_Eend2 n _ _ B (A % B) hb (kq_rem a b A B ha hb) (by omega)
theorem kq_EX (a0 a2 : Int64) (S : kw_S) : ∀ (t n : Nat) (a b d : Int64) (k : Int32), kq_E t a b = some d → t < n → 0 ≤ k.toInt → k.toInt + t ≤ 100 → l_X4_commonDivisor_9 a0 a2 S n a b k = d := by
  have q100 : (100 : Int32).toInt = 100 := rfl
  have z0 : (0 : Int64).toInt = 0 := rfl
  intro t
  induction t with
  | zero =>
    intro n a b d k h hn k0 k1
    cases n with
    | zero => exact absurd hn (Nat.not_lt_zero _)
    | succ n =>
      rw [kq_E0] at h
      have lc := (kw_lcmpI b 0).2.2
      by_cases e : b.toInt = 0
      · rw [if_pos e] at h
        cases h
        rw [l_X4_commonDivisor_9_s]
        simp only [kf_lx]
        rw [if_pos (lc.mpr (by rw [e, z0]))]
        by_cases hk : k.toInt < (100 : Int32).toInt
        · rw [if_pos hk]
        · rw [if_neg hk]
      · rw [if_neg e] at h; cases h
  | succ t ih =>
    intro n a b d k h hn k0 k1
    cases n with
    | zero => exact absurd hn (Nat.not_lt_zero _)
    | succ n =>
      rw [kq_ES] at h
      have lc := (kw_lcmpI b 0).2.2
      rw [l_X4_commonDivisor_9_s]
      simp only [kf_lx]
      rw [if_pos (show k.toInt < (100 : Int32).toInt by omega)]
      by_cases e : b.toInt = 0
      · rw [if_pos e] at h
        cases h
        rw [if_pos (lc.mpr (by rw [e, z0]))]
      · rw [if_neg e] at h
        have z := kp_inc k (by omega)
        rw [if_neg (fun q => e (by have := lc.mp q; rw [z0] at this; exact this))]
        exact ih n _ _ d _ h (by omega) (by omega) (by omega)
theorem kq_EM (up low : Int64) (S : kw_S) : ∀ (t n : Nat) (a b d : Int64), kq_E t a b = some d → t < n → l_X8_part_0_17 up low S n a b = (1, kw_ul (kw_ul S 0 3 (up / d)) 0 4 (low / d)) := by
  have z0 : (0 : Int64).toInt = 0 := rfl
  intro t
  induction t with
  | zero =>
    intro n a b d h hn
    cases n with
    | zero => exact absurd hn (Nat.not_lt_zero _)
    | succ n =>
      rw [kq_E0] at h
      have lc := (kw_lcmpI b 0).2.2
      by_cases e : b.toInt = 0
      · rw [if_pos e] at h
        cases h
        rw [l_X8_part_0_17_s]
        simp only [kf_lx]
        rw [if_pos (lc.mpr (by rw [e, z0]))]
      · rw [if_neg e] at h; cases h
  | succ t ih =>
    intro n a b d h hn
    cases n with
    | zero => exact absurd hn (Nat.not_lt_zero _)
    | succ n =>
      rw [kq_ES] at h
      have lc := (kw_lcmpI b 0).2.2
      rw [l_X8_part_0_17_s]
      simp only [kf_lx]
      by_cases e : b.toInt = 0
      · rw [if_pos e] at h
        cases h
        rw [if_pos (lc.mpr (by rw [e, z0]))]
      · rw [if_neg e] at h
        rw [if_neg (fun q => e (by have := lc.mp q; rw [z0] at this; exact this))]
        exact ih n _ _ d h (by omega)
theorem kq_negL (a : Int64) (h : -4611686018427387904 ≤ a.toInt) (h1 : a.toInt ≤ 4611686018427387904) : (-a).toInt = -a.toInt := by
  rw [Int64.toInt_neg, kw_bmL]; omega
theorem kq_red (u d : Int64) (g : Nat) (w : Int) (hd : d.toInt = (g : Int)) (g0 : 0 < g) (hu : u.toInt = (g : Int) * w) (b0 : -4611686018427387904 ≤ u.toInt) (b1 : u.toInt ≤ 4611686018427387904) : (u / d).toInt = w := by
  have hg : (g : Int) ≠ 0 := by omega
  have e : u.toInt.tdiv d.toInt = w := by rw [hu, hd, Int.mul_tdiv_cancel_left w hg]
  have n1 : u.toInt.natAbs = g * w.natAbs := by rw [hu, Int.natAbs_mul, Int.natAbs_natCast]
  have n2 : w.natAbs ≤ g * w.natAbs := Nat.le_mul_of_pos_left _ g0
  rw [Int64.toInt_div, e, kw_bmL]
  omega
theorem kq_oneX (x : kw_S) (u v : Int64) (U : Int) (V k : Nat) (w : Int) (z : Nat) (hw : U = ((Nat.gcd U.natAbs V : Nat) : Int) * w) (hz : V = Nat.gcd U.natAbs V * z) (hu : u.toInt = (k : Int) * U) (hv : v.toInt = ((k * V : Nat) : Int)) (k0 : 0 < k) (V0 : 0 < V) (b0 : -4611686018427387904 ≤ u.toInt) (b1 : u.toInt ≤ 4611686018427387904) (bv : k * V < 2 ^ 40) : ∃ a b : Int64, a.toInt = w ∧ b.toInt = (z : Int) ∧ f_X4_tellShare_8 x u v = kw_ul (kw_ul x 8 3 a) 8 4 b := by
  have ea : (if 0 < u then u else -u).toInt = ((k * U.natAbs : Nat) : Int) := by
    have en : u.toInt.natAbs = k * U.natAbs := by rw [hu, Int.natAbs_mul, Int.natAbs_natCast]
    by_cases h : 0 < u
    · have h' : 0 < u.toInt := Int64.lt_iff_toInt_lt.mp h
      rw [if_pos h]; omega
    · have h' : ¬ 0 < u.toInt := fun q => h (Int64.lt_iff_toInt_lt.mpr q)
      rw [if_neg h, kq_negL u b0 b1]; omega
  obtain ⟨d, hd⟩ := kq_Eend 40 _ v _ _ ea hv bv
  have gd := kq_Egcd _ _ _ d _ _ ea hv hd
  rw [Nat.gcd_mul_left] at gd
  have cd := kq_EX (if 0 < u then u else -u) v x 81 ((101 - (0 : Int32).toInt).toNat + 1) _ _ d 0 hd (by decide) (by decide) (by decide)
  have G0 : 0 < Nat.gcd U.natAbs V := Nat.gcd_pos_of_pos_right _ V0
  have kg : 0 < k * Nat.gcd U.natAbs V := Nat.mul_pos k0 G0
  generalize hG : Nat.gcd U.natAbs V = G at *
  have lc := (kw_lcmpI d 1).1
  have o1 : (1 : Int64).toInt = 1 := rfl
  rw [f_X4_tellShare_8_u]
  simp only [kf_lx]
  rw [f_X4_commonDivisor_u, cd, if_neg (fun q => absurd (lc.mp q) (by rw [gd, o1]; omega))]
  refine ⟨u / d, v / d, kq_red u d (k * G) w gd kg ?_ b0 b1, ?_, rfl⟩
  · rw [hu, hw, Int.natCast_mul, Int.mul_assoc]
  · refine kq_red v d (k * G) z gd kg ?_ (by omega) (by omega)
    rw [hv, hz, ← Int.natCast_mul, Nat.mul_assoc]
theorem kq_oneM (m : kw_S) (u v : Int64) (U : Int) (V k : Nat) (w : Int) (z : Nat) (hw : U = ((Nat.gcd U.natAbs V : Nat) : Int) * w) (hz : V = Nat.gcd U.natAbs V * z) (hu : u.toInt = (k : Int) * U) (hv : v.toInt = ((k * V : Nat) : Int)) (k0 : 0 < k) (V0 : 0 < V) (b0 : -4611686018427387904 ≤ u.toInt) (b1 : u.toInt ≤ 4611686018427387904) (bv : k * V < 2 ^ 40) : ∃ a b : Int64, a.toInt = w ∧ b.toInt = (z : Int) ∧ f_X8_part_0 m u v = (1, kw_ul (kw_ul m 0 3 a) 0 4 b) := by
  have z0 : (0 : Int64).toInt = 0 := rfl
  have lc := (kw_lcmpI u 0).1
  rw [z0] at lc
  have en : u.toInt.natAbs = k * U.natAbs := by rw [hu, Int.natAbs_mul, Int.natAbs_natCast]
  have P : ∀ y : Int64, y.toInt = ((k * U.natAbs : Nat) : Int) → ∃ a b : Int64, a.toInt = w ∧ b.toInt = (z : Int) ∧ l_X8_part_0_17 u v m (((if 0 ≤ v.toInt then v.toInt else -v.toInt)).toNat + 1) y v = (1, kw_ul (kw_ul m 0 3 a) 0 4 b) := by
    intro y ea
    obtain ⟨d, hd⟩ := kq_Eend2 (k * V) y v _ _ ea hv (Nat.le_refl _)
    have gd := kq_Egcd _ _ _ d _ _ ea hv hd
    rw [Nat.gcd_mul_left] at gd
    have cd := kq_EM u v m (k * V) (((if 0 ≤ v.toInt then v.toInt else -v.toInt)).toNat + 1) y v d hd (by rw [if_pos (by omega)]; omega)
    have G0 : 0 < Nat.gcd U.natAbs V := Nat.gcd_pos_of_pos_right _ V0
    have kg : 0 < k * Nat.gcd U.natAbs V := Nat.mul_pos k0 G0
    generalize hG : Nat.gcd U.natAbs V = G at *
    refine ⟨u / d, v / d, kq_red u d (k * G) w gd kg ?_ b0 b1, ?_, cd⟩
    · rw [hu, hw, Int.natCast_mul, Int.mul_assoc]
    · refine kq_red v d (k * G) z gd kg ?_ (by omega) (by omega)
      rw [hv, hz, ← Int.natCast_mul, Nat.mul_assoc]
  rw [f_X8_part_0_u]
  simp only [kf_lx]
  by_cases h : (lg_cmp u 0).toInt < 0
  · rw [if_pos h]
    exact P _ (by rw [kq_negL u b0 b1]; have := lc.mp h; omega)
  · rw [if_neg h]
    exact P _ (by have : ¬ u.toInt < 0 := fun q => h (lc.mpr q); omega)
/-- the same share, told alike -/
theorem kq_share (x m : kw_S) (u v u' v' : Int64) (U : Int) (V k k' : Nat) (hu : u.toInt = (k : Int) * U) (hv : v.toInt = ((k * V : Nat) : Int)) (hu' : u'.toInt = (k' : Int) * U) (hv' : v'.toInt = ((k' * V : Nat) : Int)) (k0 : 0 < k) (k0' : 0 < k') (V0 : 0 < V) (b0 : -4611686018427387904 ≤ u.toInt) (b1 : u.toInt ≤ 4611686018427387904) (bv : k * V < 2 ^ 40) (b0' : -4611686018427387904 ≤ u'.toInt) (b1' : u'.toInt ≤ 4611686018427387904) (bv' : k' * V < 2 ^ 40) : (f_X8_part_0 m u' v').1 = 1 ∧ kq x m (f_X4_tellShare_8 x u v) (f_X8_part_0 m u' v').2 := by
  obtain ⟨w, hw⟩ : ∃ w : Int, U = ((Nat.gcd U.natAbs V : Nat) : Int) * w := by
    obtain ⟨c, hc⟩ := Nat.gcd_dvd_left U.natAbs V
    by_cases h : 0 ≤ U
    · refine ⟨(c : Int), ?_⟩
      rw [← Int.natCast_mul, ← hc]; omega
    · refine ⟨-(c : Int), ?_⟩
      rw [Int.mul_neg, ← Int.natCast_mul, ← hc]; omega
  obtain ⟨z, hz⟩ := Nat.gcd_dvd_right U.natAbs V
  obtain ⟨a, b, a1, a2, a3⟩ := kq_oneX x u v U V k w z hw hz hu hv k0 V0 b0 b1 bv
  obtain ⟨c, d, c1, c2, c3⟩ := kq_oneM m u' v' U V k' w z hw hz hu' hv' k0' V0 b0' b1' bv'
  have e1 : a = c := Int64.toInt_inj.mp (a1.trans c1.symm)
  have e2 : b = d := Int64.toInt_inj.mp (a2.trans c2.symm)
  rw [a3, c3, e1, e2]
  exact ⟨rfl, kq_ul c d⟩
