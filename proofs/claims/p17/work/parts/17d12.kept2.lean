theorem kd_onL {x : kw_S} (k c : Int32) (hk0 : 0 ≤ k.toInt) (hk1 : k.toInt < 3) (hc : x.1 21 k.toNatClampNeg = c) (c0 : 0 ≤ c.toInt) (c1 : c.toInt ≤ 40) (hb : ∀ j : Nat, -1 ≤ (x.1 21 j).toInt ∧ (x.1 21 j).toInt ≤ 40) : ∀ (n : Nat) (y : Int32) (S : kw_S), 0 ≤ y.toInt → y.toInt ≤ c.toInt → kw_F [18] x S → (∀ d : Nat, (d : Int) < y.toInt → S.1 18 d = x.1 (49 + k.toNatClampNeg) d) → (40 - y.toInt).toNat < n → ∃ S' : kw_S, l_X7_on_0_44 k c n y S = (c, f_X5_replay_4 S' c) ∧ kw_F [18] x S' ∧ ∀ d : Nat, (d : Int) < c.toInt → S'.1 18 d = x.1 (49 + k.toNatClampNeg) d := by
  intro n
  induction n with
  | zero => intro y S _ _ _ _ h; exact absurd h (Nat.not_lt_zero _)
  | succ n ih =>
    intro y S y0 y1 hF hd hm
    have cy := kw_clampI y0
    have ck := kw_clampI hk0
    have s21 : S.1 21 = x.1 21 := (hF 21 (by decide)).1
    rw [l_X7_on_0_44_s]
    by_cases hy : y.toInt < c.toInt
    · have z := kp_inc y (by omega)
      rw [if_pos hy]
      simp only [kf_lx]
      rw [kp_value5 S (by rw [s21]; exact hb), if_pos (show 0 ≤ k.toInt ∧ k.toInt < 3 ∧ 0 ≤ y.toInt ∧ y.toInt < (S.1 21 k.toNatClampNeg).toInt by rw [s21, hc]; omega)]
      refine ih (y + Int32.ofInt 1) _ (by omega) (by omega) (kw_F_ui hF (by decide)) (fun d hd2 => ?_) (by omega)
      rw [kp_ui]
      by_cases e : d = y.toNatClampNeg
      · rw [if_pos ⟨rfl, e⟩, (hF (49 + k.toNatClampNeg) (by simp; omega)).1, e]
      · rw [if_neg (fun q => e q.2)]; exact hd d (by omega)
    · rw [if_neg hy]
      simp only [kf_lx]
      exact ⟨S, rfl, hF, fun d hd2 => hd d (by omega)⟩
theorem kd_monL {m : kw_S} (k p : Int32) (hk0 : 0 ≤ k.toInt) (hk1 : k.toInt < 3) (hp : p.toInt = 411 * k.toInt) (c0 : 0 ≤ (m.1 0 27).toInt) (c1 : (m.1 0 27).toInt ≤ 40) : ∀ (n : Nat) (y : Int32) (S : kw_S), 0 ≤ y.toInt → y.toInt ≤ 10 * (m.1 0 27).toInt → kw_FM [15] m S → (∀ j : Nat, (j : Int) < y.toInt → S.1 15 j = m.1 17 (411 * k.toNatClampNeg + j)) → (400 - y.toInt).toNat < n → ∃ S' : kw_S, l_X8_on_0_61 k p n y S = (m.1 0 27, S') ∧ kw_FM [15] m S' ∧ ∀ j : Nat, (j : Int) < 10 * (m.1 0 27).toInt → S'.1 15 j = m.1 17 (411 * k.toNatClampNeg + j) := by
  intro n
  induction n with
  | zero => intro y S _ _ _ _ h; exact absurd h (Nat.not_lt_zero _)
  | succ n ih =>
    intro y S y0 y1 hF hd hm
    have cy := kw_clampI y0
    have ck := kw_clampI hk0
    have cp := kw_clampI (x := p) (by omega)
    have s27 : S.1 0 27 = m.1 0 27 := hF.2.1 27 (by decide)
    obtain ⟨-, t2⟩ := kp_mul 10 10 (m.1 0 27) rfl (by decide) c0 (by omega)
    have t2' : ((10 : Int32) * m.1 0 27).toInt = 10 * (m.1 0 27).toInt := t2
    rw [l_X8_on_0_61_s]
    simp only [kf_lx]
    rw [s27]
    by_cases hy : y.toInt < ((10 : Int32) * m.1 0 27).toInt
    · have z := kp_inc y (by omega)
      rw [if_pos hy]
      have e5 : (p + y).toInt = p.toInt + y.toInt := by rw [kw_addI]; omega
      have c5 := kw_clampI (x := p + y) (by omega)
      have i5 : (p + y).toNatClampNeg = 411 * k.toNatClampNeg + y.toNatClampNeg := by omega
      rw [i5, hF.1 17 (by decide) (by decide)]
      refine ih (y + Int32.ofInt 1) _ (by omega) (by omega) (kw_FM_ui hF (by decide) (by decide)) (fun j hj => ?_) (by omega)
      rw [kp_ui]
      by_cases e : j = y.toNatClampNeg
      · rw [if_pos ⟨rfl, e⟩, e]
      · rw [if_neg (fun q => e q.2)]; exact hd j (by omega)
    · rw [if_neg hy]
      exact ⟨S, rfl, hF, fun j hj => hd j (by omega)⟩
theorem kr_on {x m s t : kw_S} {r q : Int32} (hX : kw_I bX x) (hL : kr_L x m) (hD : kr_D x m) (k : Int32) (e1 : (r, s) = f_X7_on_0 x k) (e2 : (q, t) = f_X8_on_0 m k) : kr_D s t ∧ r = q := by
  rw [f_X7_on_0_u] at e1
  rw [f_X8_on_0_u] at e2
  simp only [kf_lx, kf_bx, kp_has5, kp_miss5, kp_size5] at e1
  simp only [kf_lx, kf_bx, kp_in] at e2
  have l2 := hL.2.1
  obtain ⟨d1, d2, d3, d4, d5, d6, d7⟩ := id hD
  have q2 : (2 : Int32).toInt = 2 := rfl
  by_cases hk : 0 ≤ k.toInt ∧ k.toInt < 3
  · have hk2 : (0 : Int32).toInt ≤ k.toInt ∧ k.toInt ≤ (2 : Int32).toInt := by rw [kp_q0]; omega
    simp only [if_pos hk] at e1
    simp only [if_pos hk2] at e2
    rw [if_neg (show ¬ (1 : Int32).toInt = 0 by decide)] at e1 e2
    have ck := kw_clampI hk.1
    rcases d7 k.toNatClampNeg (by omega) with ⟨a, b⟩ | ⟨a1, a2, a3, a4, a5, a6⟩
    · have hn : ¬ (0 ≤ k.toInt ∧ k.toInt < 3 ∧ 0 ≤ (x.1 21 k.toNatClampNeg).toInt) := by omega
      simp only [if_neg hn] at e1
      rw [if_neg (show ¬ (1 : Int32).toInt = 0 by decide)] at e1
      rw [b, if_pos (show (0 : Int32).toInt = 0 from rfl)] at e2
      obtain ⟨r1, s1⟩ := Prod.mk.inj e1
      obtain ⟨r2, s2⟩ := Prod.mk.inj e2
      refine ⟨hD.cong l2.2 (fun b hb => by rw [s1]; exact kp_refuse2 _ _ b (by omega) (by omega)) (fun b hb => by rw [s1]; exact kp_refuse2 _ _ b (by omega) (by omega)) (fun b hb => by rw [s2]; exact kp_meet2 _ _ b (by omega) (by omega)) (fun j hj => ?_), by rw [r1, r2]; exact (kp_refuse1 _ _).trans (kp_meet1 _ _).symm⟩
      rw [s2, f_X8_meet_0_u]
      simp only [kf_lx]
      rw [kp_ui, if_neg (by omega), kp_ui, if_neg (by omega)]
    · have hn : 0 ≤ k.toInt ∧ k.toInt < 3 ∧ 0 ≤ (x.1 21 k.toNatClampNeg).toInt := by omega
      have cc := kw_clampI a2.1
      simp only [if_pos hn] at e1
      rw [if_pos (show (0 : Int32).toInt = 0 from rfl)] at e1
      rw [a1, if_neg (show ¬ (1 : Int32).toInt = 0 by decide)] at e2
      obtain ⟨S', g1, g2, g3⟩ := kd_onL (x := x) k (x.1 21 k.toNatClampNeg) hk.1 hk.2 rfl a2.1 a2.2 (fun j => hX 21 j) ((41 - (0 : Int32).toInt).toNat + 1) 0 x (by decide) (by rw [kp_q0]; exact a2.1) kw_F.rf (fun d hd => by rw [kp_q0] at hd; omega) (by rw [kp_q0]; omega)
      rw [g1] at e1
      obtain ⟨r1, s1⟩ := Prod.mk.inj e1
      have cn := kw_clampI d2.1
      obtain ⟨-, -, w3⟩ := kd_run_ok l2.2 (x.1 18) (x.1 4 3).toNatClampNeg (by omega) d4
      rw [← d3] at w3
      obtain ⟨b1, b2, b3, b4⟩ := kd_replay S' (x.1 21 k.toNatClampNeg) a2.1 a2.2 (fun j hj => by rw [(g2 19 (by decide)).1]; exact (w3 j).2 hj)
      rw [← s1] at b1 b2 b3 b4
      have lay1 : kd_lay x S' := kd_lay.of g2 (by decide)
      have lay2 : kd_lay S' s := kd_lay.of b4 (by decide)
      have lay := lay1.tr lay2
      have e17 : s.1 17 5 = x.1 17 5 := by rw [lay 17 (Or.inl rfl)]
      have so : ∀ a : Nat, a ≠ 4 → a ≠ 18 → a ≠ 19 → s.1 a = x.1 a := fun a h4 h18 h19 => by rw [(b4 a (by simp; omega)).1, (g2 a (by simp; omega)).1]
      have u18 : ∀ d : Nat, d < (x.1 21 k.toNatClampNeg).toNatClampNeg → s.1 18 d = x.1 (49 + k.toNatClampNeg) d := fun d hd => by rw [b2]; exact g3 d (by omega)
      have run : ∀ d : Nat, d ≤ (x.1 21 k.toNatClampNeg).toNatClampNeg → kd_run s (s.1 18) d = kd_run x (x.1 (49 + k.toNatClampNeg)) d := fun d hd => kd_run_cong lay d (fun q hq => u18 q (by omega))
      -- the reference
      obtain ⟨p1, p2⟩ := kp_mul 411 411 k rfl (by decide) hk.1 (by omega)
      have p2' : ((411 : Int32) * k).toInt = 411 * k.toInt := p2
      have i4 := kp_off (411 * k) 400 400 rfl (by omega) (by omega) (by decide)
      have i41 := kp_off (411 * k) 410 410 rfl (by omega) (by omega) (by decide)
      have e4 : ((411 : Int32) * k + 400).toInt = 411 * k.toInt + 400 := by rw [kw_addI, show (400 : Int32).toInt = 400 from rfl]; omega
      obtain ⟨o1, o2, o3, o4, o5, o6⟩ := kd_read17 m (411 * k + 400) (by omega) (by omega)
      rw [i4, p1] at o2 o3 o4 o5 o6
      rw [i41, p1] at e2
      generalize f_X8_read_0_17 m (411 * k + 400) = U at *
      have u17 : U.1 17 = m.1 17 := o1.1 17 (by decide) (by decide)
      rw [u17, a3] at e2
      have v27 : (kw_ui U 0 27 (x.1 21 k.toNatClampNeg)).1 0 27 = x.1 21 k.toNatClampNeg := by simp [kp_ui]
      obtain ⟨T', m1, m2, m3⟩ := kd_monL (m := kw_ui U 0 27 (x.1 21 k.toNatClampNeg)) k (411 * k) hk.1 hk.2 p2' (by rw [v27]; exact a2.1) (by rw [v27]; exact a2.2) ((401 - (0 : Int32).toInt).toNat + 1) 0 _ (by decide) (by rw [kp_q0, v27]; omega) kw_FM.rf (fun j hj => by rw [kp_q0] at hj; omega) (by rw [kp_q0]; omega)
      rw [m1, v27] at e2
      rw [v27] at m3
      have w17 : (kw_ui U 0 27 (x.1 21 k.toNatClampNeg)).1 17 = m.1 17 := by rw [← u17]; funext j; simp [kp_ui]
      rw [w17] at m3
      obtain ⟨r2, s2⟩ := Prod.mk.inj e2
      rw [← s2] at m2 m3
      have FU : kw_FM [14, 1022, 1023, 1024, 1025, 1027] m (kw_ui U 0 27 (x.1 21 k.toNatClampNeg)) := kw_FM_ui0 (kw_FM.tr kw_FM.rf o1 (by decide)) (by decide)
      have FT : kw_FM [14, 15, 1022, 1023, 1024, 1025, 1027] m t := (kw_FM.tr kw_FM.rf FU (by decide)).tr m2 (by decide)
      have tf : ∀ j : Nat, t.1 0 j = (kw_ui U 0 27 (x.1 21 k.toNatClampNeg)).1 0 j := fun j => m2.2.1 j (by simp; omega)
      refine ⟨⟨by rw [b1, tf 27, v27], by rw [b1]; exact a2, ?_, ?_, ?_, ?_, fun j hj => (d7 j hj).to l2.2 lay (by rw [so 21 (by decide) (by decide) (by decide)]) (so (49 + j) (by omega) (by omega) (by omega)) (by rw [FT.1 16 (by decide) (by decide)]) (fun i _ => by rw [FT.1 17 (by decide) (by decide)])⟩, by rw [r1, r2]⟩
      · rw [b1, run _ (Nat.le_refl _), b3]
        exact kd_run_cong lay1 _ (fun d hd => g3 d (by omega))
      · rw [b1]
        intro d hd
        rw [e17, u18 d hd]
        exact a4 d hd
      · have ek : kd_get s = kd_run x (x.1 (49 + k.toNatClampNeg)) (x.1 21 k.toNatClampNeg).toNatClampNeg := by
          rw [b3]; exact kd_run_cong lay1 _ (fun d hd => g3 d (by omega))
        rw [ek, e17]
        refine ⟨?_, ?_, ?_, ?_, fun i hi => ?_⟩
        · rw [tf, kp_ui, if_neg (by decide), o2]; exact a5.1
        · rw [tf, kp_ui, if_neg (by decide), o3]; exact a5.2.1
        · rw [tf, kp_ui, if_neg (by decide), o4]; exact a5.2.2.1
        · rw [tf, kp_ui, if_neg (by decide), o5]; exact a5.2.2.2.1
        · rw [m2.1 14 (by decide) (by decide), kp_ui, if_neg (by omega), o6 i (by omega)]; exact a5.2.2.2.2 i hi
      · intro d hd
        rw [b1] at hd
        rw [e17, run d (by omega)]
        exact (a6 d hd).to l2.2 15 (fun j hj => by rw [Nat.add_assoc]; exact m3 (10 * d + j) (by omega))
  · have hk2 : ¬ ((0 : Int32).toInt ≤ k.toInt ∧ k.toInt ≤ (2 : Int32).toInt) := by rw [kp_q0]; omega
    simp only [if_neg hk] at e1
    simp only [if_neg hk2] at e2
    rw [if_pos (show (0 : Int32).toInt = 0 from rfl)] at e1 e2
    cases e1; cases e2
    exact ⟨hD, rfl⟩
/-! days by lots -/
theorem kd_lot (y : Int64) (h0 : 0 ≤ y.toInt) (h1 : y.toInt ≤ 2147483646) (l : Int32) (l0 : 1 ≤ l.toInt) (l1 : l.toInt ≤ 6) : 0 ≤ (y * 48271 - y * 48271 / 2147483647 * 2147483647).toInt ∧ (y * 48271 - y * 48271 / 2147483647 * 2147483647).toInt ≤ 2147483646 ∧ ∀ z : Int64, 0 ≤ z.toInt → 0 ≤ (z - z / l.toInt64 * l.toInt64).toInt32.toInt ∧ (z - z / l.toInt64 * l.toInt64).toInt32.toInt < l.toInt := by
  have e := kw_lmulI y 48271 _ rfl
  rw [show (48271 : Int64).toInt = 48271 from rfl] at e
  have q : (2147483647 : Int64).toInt = 2147483647 := rfl
  have r := kw_lremI (y * 48271) 2147483647 _ rfl
  have e' : (y * 48271).toInt = y.toInt * 48271 := by
    rw [e, Int.emod_eq_of_lt (by omega) (by omega)]
    omega
  refine ⟨r.2.2 (by omega), by have := (r.1 (by omega)).1; omega, fun z hz => ?_⟩
  have el := kw_i2lI l
  have r2 := kw_lremI z l.toInt64 _ rfl
  have a1 := r2.2.2 hz
  have a2 := (r2.1 (by omega)).1
  have c := kw_l2iI (z - z / l.toInt64 * l.toInt64) _ rfl (by omega) (by omega)
  omega
theorem kd_lotsL {n0 a3 : Int32} (a2 b2 : Int32) (hn : n0.toInt ≤ 20) : ∀ (n n' : Nat) (y : Int64) (i : Int32) (x m : kw_S), kr_L x m → kr_D x m → a3 = x.1 17 5 → 1 ≤ a3.toInt → 0 ≤ i.toInt → i.toInt ≤ n0.toInt → (x.1 4 3).toInt + 2 * (n0.toInt - i.toInt) ≤ 40 → 0 ≤ y.toInt → y.toInt ≤ 2147483646 → (n0.toInt - i.toInt).toNat < n → (n0.toInt - i.toInt).toNat < n' → kr_D (l_X7_lots_0_69 n0 a2 a3 n y i x).2 (l_X8_lots_0_55 n0 b2 n' y i m).2 ∧ (l_X7_lots_0_69 n0 a2 a3 n y i x).1 = 1 ∧ (l_X8_lots_0_55 n0 b2 n' y i m).1 = 1 := by
  intro n
  induction n with
  | zero => intro n' y i x m _ _ _ _ _ _ _ _ _ h _; exact absurd h (Nat.not_lt_zero _)
  | succ n ih =>
    intro n' y i x m hL hD ha l0 i0 i1 hc y0 y1 h1 h2
    cases n' with
    | zero => exact absurd h2 (Nat.not_lt_zero _)
    | succ n' =>
      have l2 := hL.2.1
      have la := congrArg Int32.toInt ha
      have d2 := hD.2.1
      rw [l_X7_lots_0_69_s, l_X8_lots_0_55_s]
      simp only [kf_lx, kf_bx]
      by_cases hi : i.toInt < n0.toInt
      · have z := kp_inc i (by omega)
        rw [if_pos hi, if_pos hi, ← hL.1, ← ha, Int64.mul_comm 48271 y]
        obtain ⟨g1, g2, g3⟩ := kd_lot y y0 y1 a3 l0 (by omega)
        generalize y * 48271 - y * 48271 / 2147483647 * 2147483647 = y' at *
        obtain ⟨g4, g5⟩ := g3 y' g1
        generalize (y' - y' / a3.toInt64 * a3.toInt64).toInt32 = e at *
        obtain ⟨a1, a2', a3', a4, -⟩ := kd_deed hL hD (by omega) e ⟨g4, Or.inl (by omega)⟩ (kd_mturn hL hD (by omega) e g4 (by omega))
        generalize f_X5_act_4 x e = x1 at *
        generalize f_X8_turnLine_0 m e = m1 at *
        have z1 := kp_add1 (x.1 4 3) (by omega)
        have c1 := congrArg Int32.toInt a3'
        obtain ⟨b1, b2', b3', b4, -⟩ := kd_deed a1 a2' (by omega) 6 ⟨by decide, Or.inr rfl⟩ (kd_mhour a1 a2' (by omega))
        generalize f_X5_act_4 x1 6 = x2 at *
        generalize f_X8_pass_0 (f_X8_note_0 m1) ((f_X8_note_0 m1).1 0 25) = m2 at *
        have z2 := kp_add1 (x1.1 4 3) (by omega)
        have c2 := congrArg Int32.toInt b3'
        exact ih n' y' (i + Int32.ofInt 1) x2 m2 b1 b2' (by rw [(b4 17 (by decide)).1, (a4 17 (by decide)).1]; exact ha) l0 (by omega) (by omega) (by omega) g1 g2 (by omega) (by omega)
      · rw [if_neg hi, if_neg hi]
        refine ⟨?_, rfl, rfl⟩
        refine hD.fr hL (L := [8]) (L' := [1002]) ?_ ?_ (by decide) (by decide)
        · show kw_F [8] x (kw_ui x 8 2 _)
          exact kw_F_ui kw_F.rf (by decide)
        · show kw_FM [1002] m (kw_ui m 0 2 _)
          exact kw_FM_ui0 kw_FM.rf (by decide)
theorem kr_lots {x m s t : kw_S} {r q : Int32} (hL : kr_L x m) (hD : kr_D x m) (n seed : Int32) (e1 : (r, s) = f_X7_lots_0 x n seed) (e2 : (q, t) = f_X8_lots_0 m n seed) : kr_D s t ∧ r = q := by
  rw [f_X7_lots_0_u] at e1
  rw [f_X8_lots_0_u] at e2
  simp only [kf_lx, kp_in] at e1 e2
  rw [f_X5_hasRoomFor_4_u] at e1
  simp only [kf_lx] at e1
  have l2 := hL.2.1
  have d2 := hD.2.1
  have rs := kw_rng seed
  have q20 : (20 : Int32).toInt = 20 := rfl
  have qM : (2147483646 : Int32).toInt = 2147483646 := rfl
  have q40 : (40 : Int32).toInt = 40 := rfl
  have es := kw_i2lI seed
  have lc := kw_lcmpI seed.toInt64 2147483647
  rw [show (2147483647 : Int64).toInt = 2147483647 from rfl] at lc
  by_cases h1 : (1 : Int32).toInt ≤ n.toInt ∧ n.toInt ≤ (20 : Int32).toInt
  · have h1' : 1 ≤ n.toInt ∧ n.toInt ≤ 20 := h1
    rw [if_neg (show ¬ n.toInt < (1 : Int32).toInt by rw [kp_q1]; omega), if_neg (show ¬ (20 : Int32).toInt < n.toInt by omega)] at e1
    simp only [if_pos h1] at e2
    rw [if_neg (show ¬ (1 : Int32).toInt = 0 by decide)] at e2
    by_cases h2 : (1 : Int32).toInt ≤ seed.toInt ∧ seed.toInt ≤ (2147483646 : Int32).toInt
    · have h2' : 1 ≤ seed.toInt ∧ seed.toInt ≤ 2147483646 := h2
      rw [if_neg (show ¬ seed.toInt < (1 : Int32).toInt by rw [kp_q1]; omega), if_pos (lc.1.mpr (by omega))] at e1
      simp only [if_pos h2] at e2
      rw [if_neg (show ¬ (1 : Int32).toInt = 0 by decide), ← hL.1] at e2
      by_cases h3 : (x.1 17 5).toInt < (1 : Int32).toInt
      · have h3' : (x.1 17 5).toInt < 1 := h3
        rw [if_pos h3] at e1
        rw [if_pos (show (x.1 17 5).toInt = 0 by omega)] at e2
        cases e1; cases e2
        exact ⟨hD, rfl⟩
      · have h3' : ¬ (x.1 17 5).toInt < 1 := h3
        rw [if_neg h3] at e1
        rw [if_neg (show ¬ (x.1 17 5).toInt = 0 by omega), ← hD.1] at e2
        have em : ((2 : Int32) * n).toInt = 2 * n.toInt := by rw [kw_mulI, show (2 : Int32).toInt = 2 from rfl]; omega
        have ea : (x.1 4 3 + 2 * n).toInt = (x.1 4 3).toInt + 2 * n.toInt := by rw [kw_addI, em]; omega
        by_cases h4 : (40 : Int32).toInt < (x.1 4 3 + 2 * n).toInt
        · simp only [if_pos h4] at e1
          rw [if_pos (show (0 : Int32).toInt = 0 from rfl)] at e1
          rw [if_pos h4] at e2
          cases e1; cases e2
          exact ⟨hD, rfl⟩
        · simp only [if_neg h4] at e1
          rw [if_neg (show ¬ (1 : Int32).toInt = 0 by decide)] at e1
          rw [if_neg h4] at e2
          obtain ⟨w1, w2, w3⟩ := kd_lotsL (n0 := n) (a3 := x.1 17 5) seed seed (by omega) ((n.toInt - (0 : Int32).toInt).toNat + 1) ((n.toInt - (0 : Int32).toInt).toNat + 1) seed.toInt64 0 x m hL hD rfl (by omega) (by decide) (by rw [kp_q0]; omega) (by rw [kp_q0]; omega) (by omega) (by omega) (Nat.lt_succ_self _) (Nat.lt_succ_self _)
          rw [← e1] at w1 w2
          rw [← e2] at w1 w3
          exact ⟨w1, w2.trans w3.symm⟩
    · have h2' : ¬ (1 ≤ seed.toInt ∧ seed.toInt ≤ 2147483646) := h2
      simp only [if_neg h2] at e2
      rw [if_pos (show (0 : Int32).toInt = 0 from rfl)] at e2
      cases e2
      by_cases h5 : seed.toInt < (1 : Int32).toInt
      · rw [if_pos h5] at e1
        cases e1
        exact ⟨hD, rfl⟩
      · have h5' : ¬ seed.toInt < 1 := h5
        rw [if_neg h5, if_neg (fun z => by have := lc.1.mp z; omega)] at e1
        cases e1
        exact ⟨hD, rfl⟩
  · have h1' : ¬ (1 ≤ n.toInt ∧ n.toInt ≤ 20) := h1
    simp only [if_neg h1] at e2
    rw [if_pos (show (0 : Int32).toInt = 0 from rfl)] at e2
    cases e2
    by_cases h5 : n.toInt < (1 : Int32).toInt
    · rw [if_pos h5] at e1
      cases e1
      exact ⟨hD, rfl⟩
    · have h5' : ¬ n.toInt < 1 := h5
      rw [if_neg h5, if_pos (by omega)] at e1
      cases e1
      exact ⟨hD, rfl⟩
