theorem kc_in52 {x : kw_S} (w i pl tn : Int32) (kk : Int32 → kw_S → kw_S) (N : Nat) (hN : N ≤ 32) : ∀ (n : Nat) (y : Int32) (S : kw_S), 0 ≤ y.toInt → y.toInt ≤ N → (S.1 52 3).toInt = N → (64 - y.toInt).toNat < n → ∃ S' : kw_S, l_X0_draw_52_17_59 kk w i pl tn n y S = kk (i + Int32.ofInt 1) (kw_ui S' 52 3 (S'.1 52 3 <<< ((1 : Int32) &&& 31))) ∧ kw_F [55, 56] S S' ∧ (∀ s : Nat, s < N + y.toNatClampNeg → S'.1 55 s = S.1 55 s ∧ S'.1 56 s = S.1 56 s) ∧ ∀ s : Nat, y.toNatClampNeg ≤ s → s < N → S'.1 55 (N + s) = S.1 55 s + pl ∧ S'.1 56 (N + s) = S.1 56 s + tn := by
  intro n
  induction n with
  | zero => intro y S _ _ _ h; exact absurd h (Nat.not_lt_zero _)
  | succ n ih =>
    intro y S y0 y1 hs h1
    have cy := kw_clampI y0
    rw [l_X0_draw_52_17_59_s]
    simp only [kf_lx]
    by_cases hy : y.toInt < (S.1 52 3).toInt
    · have z := kp_inc y (by omega)
      have c1 := kw_clampI (x := y + Int32.ofInt 1) (by omega)
      have e : (S.1 52 3 + y).toInt = N + y.toInt := by rw [kw_addI]; omega
      have ce := kw_clampI (x := S.1 52 3 + y) (by omega)
      have en : (S.1 52 3 + y).toNatClampNeg = N + y.toNatClampNeg := by omega
      rw [if_pos hy, if_pos (show (S.1 52 3 + y).toInt < (64 : Int32).toInt by rw [e, show (64 : Int32).toInt = 64 from rfl]; omega), en]
      have e23 : (kw_ui S 55 (N + y.toNatClampNeg) (S.1 55 y.toNatClampNeg + pl)).1 56 y.toNatClampNeg = S.1 56 y.toNatClampNeg := by rw [kp_ui, if_neg (by omega)]
      rw [e23]
      generalize hS1 : kw_ui (kw_ui S 55 (N + y.toNatClampNeg) (S.1 55 y.toNatClampNeg + pl)) 56 (N + y.toNatClampNeg) (S.1 56 y.toNatClampNeg + tn) = S1
      have F1 : kw_F [55, 56] S S1 := by rw [← hS1]; exact kw_F_ui (kw_F_ui kw_F.rf (by decide)) (by decide)
      have v1 : ∀ s : Nat, S1.1 55 s = if s = N + y.toNatClampNeg then S.1 55 y.toNatClampNeg + pl else S.1 55 s := fun s => by
        rw [← hS1, kp_ui, if_neg (by omega), kp_ui]
        by_cases q : s = N + y.toNatClampNeg
        · rw [if_pos ⟨rfl, q⟩, if_pos q]
        · rw [if_neg (fun r => q r.2), if_neg q]
      have v2 : ∀ s : Nat, S1.1 56 s = if s = N + y.toNatClampNeg then S.1 56 y.toNatClampNeg + tn else S.1 56 s := fun s => by
        rw [← hS1, kp_ui]
        by_cases q : s = N + y.toNatClampNeg
        · rw [if_pos ⟨rfl, q⟩, if_pos q]
        · rw [if_neg (fun r => q r.2), if_neg q, kp_ui, if_neg (by omega)]
      obtain ⟨S', a1, a2, a3, a4⟩ := ih (y + Int32.ofInt 1) S1 (by omega) (by omega) (by rw [(F1 52 (by decide)).1]; exact hs) (by omega)
      refine ⟨S', a1, F1.tr a2 (fun _ h => h), fun s h => ?_, fun s g1 g2 => ?_⟩
      · obtain ⟨u1, u2⟩ := a3 s (by omega)
        rw [u1, u2, v1, v2, if_neg (by omega), if_neg (by omega)]
        exact ⟨rfl, rfl⟩
      · by_cases q : s = y.toNatClampNeg
        · obtain ⟨u1, u2⟩ := a3 (N + s) (by omega)
          rw [u1, u2, v1, v2, if_pos (by omega), if_pos (by omega), q]
          exact ⟨rfl, rfl⟩
        · obtain ⟨u1, u2⟩ := a4 s (by omega) g2
          rw [u1, u2, v1, v2, if_neg (by omega), if_neg (by omega)]
          exact ⟨rfl, rfl⟩
    · rw [if_neg hy]
      exact ⟨S, rfl, kw_F.rf, fun _ _ => ⟨rfl, rfl⟩, fun s g1 g2 => by omega⟩
theorem kc_draw52 (x : kw_S) (w : Int32) (l0 : 0 ≤ (x.1 17 5).toInt) (l6 : (x.1 17 5).toInt ≤ 6) : kw_F [52, 55, 56] x (f_X0_draw_52_17 x w) ∧ ((f_X0_draw_52_17 x w).1 52 3).toInt = (2 ^ (x.1 17 5).toNatClampNeg : Nat) ∧ (f_X0_draw_52_17 x w).1 52 2 = x.1 17 5 ∧ ∀ s : Nat, s < 2 ^ (x.1 17 5).toNatClampNeg → (f_X0_draw_52_17 x w).1 55 s = kc_sp x w s (x.1 17 5).toNatClampNeg ∧ (f_X0_draw_52_17 x w).1 56 s = kc_st x w s (x.1 17 5).toNatClampNeg := by
  have cl := kw_clampI l0
  have L : ∀ (n : Nat) (i : Int32) (S : kw_S), 0 ≤ i.toInt → i.toInt ≤ (x.1 17 5).toInt → kw_F [52, 55, 56] x S → S.1 52 2 = x.1 17 5 → (S.1 52 3).toInt = (2 ^ i.toNatClampNeg : Nat) → (∀ s : Nat, s < 2 ^ i.toNatClampNeg → S.1 55 s = kc_sp x w s i.toNatClampNeg ∧ S.1 56 s = kc_st x w s i.toNatClampNeg) → (6 - i.toInt).toNat < n → kw_F [52, 55, 56] x (l_X0_draw_52_17_29 w n i S) ∧ ((l_X0_draw_52_17_29 w n i S).1 52 3).toInt = (2 ^ (x.1 17 5).toNatClampNeg : Nat) ∧ (l_X0_draw_52_17_29 w n i S).1 52 2 = x.1 17 5 ∧ ∀ s : Nat, s < 2 ^ (x.1 17 5).toNatClampNeg → (l_X0_draw_52_17_29 w n i S).1 55 s = kc_sp x w s (x.1 17 5).toNatClampNeg ∧ (l_X0_draw_52_17_29 w n i S).1 56 s = kc_st x w s (x.1 17 5).toNatClampNeg := by
    intro n
    induction n with
    | zero => intro i S _ _ _ _ _ _ h; exact absurd h (Nat.not_lt_zero _)
    | succ n ih =>
      intro i S i0 i1 hF h2 h3 hs h1
      have ci := kw_clampI i0
      rw [l_X0_draw_52_17_29_s, h2]
      simp only [kf_lx]
      by_cases hi : i.toInt < (x.1 17 5).toInt
      · have z := kp_inc i (by omega)
        have c1 := kw_clampI (x := i + Int32.ofInt 1) (by omega)
        have en : (i + Int32.ofInt 1).toNatClampNeg = i.toNatClampNeg + 1 := by omega
        have pw := kc_pow i.toNatClampNeg (by omega)
        have pw2 := kc_pow (i.toNatClampNeg + 1) (by omega)
        have p2 : (2 ^ (i.toNatClampNeg + 1) : Nat) = 2 * 2 ^ i.toNatClampNeg := by rw [Nat.pow_succ]; omega
        have lay : kd_lay x S := kd_lay.of hF (by decide)
        rw [if_pos hi, lay.pullOf, show S.1 45 = x.1 45 from lay 45 (by omega)]
        obtain ⟨S', a1, a2, a3, a4⟩ := kc_in52 (x := x) w i (f_X1_pullOf_17 x i w) (f_X1_pullOf_17 x i w * x.1 45 i.toNatClampNeg) (l_X0_draw_52_17_29 w n) (2 ^ i.toNatClampNeg) (by omega) ((65 - (0 : Int32).toInt).toNat + 1) 0 S (by decide) (by rw [kp_q0]; omega) h3 (by rw [kp_q0]; omega)
        rw [a1]
        have q0 : (0 : Int32).toNatClampNeg = 0 := rfl
        rw [q0] at a3 a4
        have s3 : S'.1 52 3 = S.1 52 3 := by rw [(a2 52 (by decide)).1]
        have hsl := kw_shl1 _ (S'.1 52 3) rfl (by rw [s3, h3]; omega) (by rw [s3, h3]; omega)
        refine ih (i + Int32.ofInt 1) _ (by omega) (by omega) (kw_F_ui (hF.tr a2 (by decide)) (by decide)) ?_ ?_ (fun s hs2 => ?_) (by omega)
        · rw [kp_ui, if_neg (by decide), (a2 52 (by decide)).1]; exact h2
        · rw [kp_ui, if_pos ⟨rfl, rfl⟩, hsl, s3, h3, en, p2]; omega
        · rw [en] at hs2 ⊢
          have k1 : (kw_ui S' 52 3 (S'.1 52 3 <<< ((1 : Int32) &&& 31))).1 55 s = S'.1 55 s := by rw [kp_ui, if_neg (by omega)]
          have k2 : (kw_ui S' 52 3 (S'.1 52 3 <<< ((1 : Int32) &&& 31))).1 56 s = S'.1 56 s := by rw [kp_ui, if_neg (by omega)]
          rw [k1, k2]
          by_cases hlt : s < 2 ^ i.toNatClampNeg
          · obtain ⟨u1, u2⟩ := a3 s (by omega)
            obtain ⟨v1, v2⟩ := hs s hlt
            obtain ⟨w1, w2⟩ := kc_lo x w s i.toNatClampNeg hlt
            rw [u1, u2, v1, v2, w1, w2]
            exact ⟨rfl, rfl⟩
          · obtain ⟨d, rfl⟩ : ∃ d : Nat, s = 2 ^ i.toNatClampNeg + d := ⟨s - 2 ^ i.toNatClampNeg, by omega⟩
            obtain ⟨u1, u2⟩ := a4 d (by omega) (by omega)
            obtain ⟨v1, v2⟩ := hs d (by omega)
            obtain ⟨w1, w2⟩ := kc_hi x w d i.toNatClampNeg (by omega)
            rw [kd_ofNat i i0] at w1 w2
            rw [u1, u2, v1, v2, w1, w2]
            exact ⟨rfl, rfl⟩
      · rw [if_neg hi]
        have e : i.toNatClampNeg = (x.1 17 5).toNatClampNeg := by omega
        rw [e] at h3 hs
        exact ⟨hF, h3, h2, hs⟩
  rw [f_X0_draw_52_17_u]
  have q0 : (0 : Int32).toNatClampNeg = 0 := rfl
  refine L _ 0 _ (by decide) (by rw [kp_q0]; exact l0) (kw_F_ui (kw_F_ui (kw_F_ui (kw_F_ui kw_F.rf (by decide)) (by decide)) (by decide)) (by decide)) (by simp [kp_ui]) (by rw [q0]; simp [kp_ui]) (fun s hs => ?_) (by rw [kp_q0]; omega)
  rw [q0] at hs ⊢
  have : s = 0 := by simpa using hs
  subst this
  exact ⟨by simp [kp_ui, kc_sp], by simp [kp_ui, kc_st]⟩
theorem kc_cm52 (x S : kw_S) (w s : Int32) (l0 : 0 ≤ (x.1 17 5).toInt) (l6 : (x.1 17 5).toInt ≤ 6) (hS : ∀ a : Nat, a = 55 ∨ a = 56 → S.1 a = (f_X0_draw_52_17 x w).1 a) (s0 : 0 ≤ s.toInt) (s1 : s.toInt < (2 ^ (x.1 17 5).toNatClampNeg : Nat)) : f_X0_milesOf_52 S s = f_X1_milesOf_17 x s w ∧ f_X0_turnBy_52 S s = f_X1_turnOf_17 x s w := by
  have cl := kw_clampI l0
  have cs := kw_clampI s0
  have pw := kc_pow (x.1 17 5).toNatClampNeg (by omega)
  obtain ⟨-, -, -, d4⟩ := kc_draw52 x w l0 l6
  obtain ⟨u1, u2⟩ := d4 s.toNatClampNeg (by omega)
  have q64 : (64 : Int32).toInt = 64 := rfl
  rw [f_X0_milesOf_52_u, f_X0_turnBy_52_u]
  simp only [kf_lx]
  rw [if_neg (show ¬ s.toInt < 0 by omega), if_pos (show s.toInt < (64 : Int32).toInt by omega), if_neg (show ¬ s.toInt < 0 by omega), if_pos (show s.toInt < (64 : Int32).toInt by omega), hS 55 (Or.inl rfl), hS 56 (Or.inr rfl), u1, u2, kc_miles x s w l0 l6 s0 (by omega), kc_turn x s w l0 l6 s0 (by omega)]
  exact ⟨rfl, rfl⟩
theorem kc_in53 {x : kw_S} (w i pl tn : Int32) (kk : Int32 → kw_S → kw_S) (N : Nat) (hN : N ≤ 32) : ∀ (n : Nat) (y : Int32) (S : kw_S), 0 ≤ y.toInt → y.toInt ≤ N → (S.1 53 3).toInt = N → (64 - y.toInt).toNat < n → ∃ S' : kw_S, l_X0_draw_53_17_59 kk w i pl tn n y S = kk (i + Int32.ofInt 1) (kw_ui S' 53 3 (S'.1 53 3 <<< ((1 : Int32) &&& 31))) ∧ kw_F [57, 58] S S' ∧ (∀ s : Nat, s < N + y.toNatClampNeg → S'.1 57 s = S.1 57 s ∧ S'.1 58 s = S.1 58 s) ∧ ∀ s : Nat, y.toNatClampNeg ≤ s → s < N → S'.1 57 (N + s) = S.1 57 s + pl ∧ S'.1 58 (N + s) = S.1 58 s + tn := by
  intro n
  induction n with
  | zero => intro y S _ _ _ h; exact absurd h (Nat.not_lt_zero _)
  | succ n ih =>
    intro y S y0 y1 hs h1
    have cy := kw_clampI y0
    rw [l_X0_draw_53_17_59_s]
    simp only [kf_lx]
    by_cases hy : y.toInt < (S.1 53 3).toInt
    · have z := kp_inc y (by omega)
      have c1 := kw_clampI (x := y + Int32.ofInt 1) (by omega)
      have e : (S.1 53 3 + y).toInt = N + y.toInt := by rw [kw_addI]; omega
      have ce := kw_clampI (x := S.1 53 3 + y) (by omega)
      have en : (S.1 53 3 + y).toNatClampNeg = N + y.toNatClampNeg := by omega
      rw [if_pos hy, if_pos (show (S.1 53 3 + y).toInt < (64 : Int32).toInt by rw [e, show (64 : Int32).toInt = 64 from rfl]; omega), en]
      have e23 : (kw_ui S 57 (N + y.toNatClampNeg) (S.1 57 y.toNatClampNeg + pl)).1 58 y.toNatClampNeg = S.1 58 y.toNatClampNeg := by rw [kp_ui, if_neg (by omega)]
      rw [e23]
      generalize hS1 : kw_ui (kw_ui S 57 (N + y.toNatClampNeg) (S.1 57 y.toNatClampNeg + pl)) 58 (N + y.toNatClampNeg) (S.1 58 y.toNatClampNeg + tn) = S1
      have F1 : kw_F [57, 58] S S1 := by rw [← hS1]; exact kw_F_ui (kw_F_ui kw_F.rf (by decide)) (by decide)
      have v1 : ∀ s : Nat, S1.1 57 s = if s = N + y.toNatClampNeg then S.1 57 y.toNatClampNeg + pl else S.1 57 s := fun s => by
        rw [← hS1, kp_ui, if_neg (by omega), kp_ui]
        by_cases q : s = N + y.toNatClampNeg
        · rw [if_pos ⟨rfl, q⟩, if_pos q]
        · rw [if_neg (fun r => q r.2), if_neg q]
      have v2 : ∀ s : Nat, S1.1 58 s = if s = N + y.toNatClampNeg then S.1 58 y.toNatClampNeg + tn else S.1 58 s := fun s => by
        rw [← hS1, kp_ui]
        by_cases q : s = N + y.toNatClampNeg
        · rw [if_pos ⟨rfl, q⟩, if_pos q]
        · rw [if_neg (fun r => q r.2), if_neg q, kp_ui, if_neg (by omega)]
      obtain ⟨S', a1, a2, a3, a4⟩ := ih (y + Int32.ofInt 1) S1 (by omega) (by omega) (by rw [(F1 53 (by decide)).1]; exact hs) (by omega)
      refine ⟨S', a1, F1.tr a2 (fun _ h => h), fun s h => ?_, fun s g1 g2 => ?_⟩
      · obtain ⟨u1, u2⟩ := a3 s (by omega)
        rw [u1, u2, v1, v2, if_neg (by omega), if_neg (by omega)]
        exact ⟨rfl, rfl⟩
      · by_cases q : s = y.toNatClampNeg
        · obtain ⟨u1, u2⟩ := a3 (N + s) (by omega)
          rw [u1, u2, v1, v2, if_pos (by omega), if_pos (by omega), q]
          exact ⟨rfl, rfl⟩
        · obtain ⟨u1, u2⟩ := a4 s (by omega) g2
          rw [u1, u2, v1, v2, if_neg (by omega), if_neg (by omega)]
          exact ⟨rfl, rfl⟩
    · rw [if_neg hy]
      exact ⟨S, rfl, kw_F.rf, fun _ _ => ⟨rfl, rfl⟩, fun s g1 g2 => by omega⟩
theorem kc_draw53 (x : kw_S) (w : Int32) (l0 : 0 ≤ (x.1 17 5).toInt) (l6 : (x.1 17 5).toInt ≤ 6) : kw_F [53, 57, 58] x (f_X0_draw_53_17 x w) ∧ ((f_X0_draw_53_17 x w).1 53 3).toInt = (2 ^ (x.1 17 5).toNatClampNeg : Nat) ∧ (f_X0_draw_53_17 x w).1 53 2 = x.1 17 5 ∧ ∀ s : Nat, s < 2 ^ (x.1 17 5).toNatClampNeg → (f_X0_draw_53_17 x w).1 57 s = kc_sp x w s (x.1 17 5).toNatClampNeg ∧ (f_X0_draw_53_17 x w).1 58 s = kc_st x w s (x.1 17 5).toNatClampNeg := by
  have cl := kw_clampI l0
  have L : ∀ (n : Nat) (i : Int32) (S : kw_S), 0 ≤ i.toInt → i.toInt ≤ (x.1 17 5).toInt → kw_F [53, 57, 58] x S → S.1 53 2 = x.1 17 5 → (S.1 53 3).toInt = (2 ^ i.toNatClampNeg : Nat) → (∀ s : Nat, s < 2 ^ i.toNatClampNeg → S.1 57 s = kc_sp x w s i.toNatClampNeg ∧ S.1 58 s = kc_st x w s i.toNatClampNeg) → (6 - i.toInt).toNat < n → kw_F [53, 57, 58] x (l_X0_draw_53_17_29 w n i S) ∧ ((l_X0_draw_53_17_29 w n i S).1 53 3).toInt = (2 ^ (x.1 17 5).toNatClampNeg : Nat) ∧ (l_X0_draw_53_17_29 w n i S).1 53 2 = x.1 17 5 ∧ ∀ s : Nat, s < 2 ^ (x.1 17 5).toNatClampNeg → (l_X0_draw_53_17_29 w n i S).1 57 s = kc_sp x w s (x.1 17 5).toNatClampNeg ∧ (l_X0_draw_53_17_29 w n i S).1 58 s = kc_st x w s (x.1 17 5).toNatClampNeg := by
    intro n
    induction n with
    | zero => intro i S _ _ _ _ _ _ h; exact absurd h (Nat.not_lt_zero _)
    | succ n ih =>
      intro i S i0 i1 hF h2 h3 hs h1
      have ci := kw_clampI i0
      rw [l_X0_draw_53_17_29_s, h2]
      simp only [kf_lx]
      by_cases hi : i.toInt < (x.1 17 5).toInt
      · have z := kp_inc i (by omega)
        have c1 := kw_clampI (x := i + Int32.ofInt 1) (by omega)
        have en : (i + Int32.ofInt 1).toNatClampNeg = i.toNatClampNeg + 1 := by omega
        have pw := kc_pow i.toNatClampNeg (by omega)
        have pw2 := kc_pow (i.toNatClampNeg + 1) (by omega)
        have p2 : (2 ^ (i.toNatClampNeg + 1) : Nat) = 2 * 2 ^ i.toNatClampNeg := by rw [Nat.pow_succ]; omega
        have lay : kd_lay x S := kd_lay.of hF (by decide)
        rw [if_pos hi, lay.pullOf, show S.1 45 = x.1 45 from lay 45 (by omega)]
        obtain ⟨S', a1, a2, a3, a4⟩ := kc_in53 (x := x) w i (f_X1_pullOf_17 x i w) (f_X1_pullOf_17 x i w * x.1 45 i.toNatClampNeg) (l_X0_draw_53_17_29 w n) (2 ^ i.toNatClampNeg) (by omega) ((65 - (0 : Int32).toInt).toNat + 1) 0 S (by decide) (by rw [kp_q0]; omega) h3 (by rw [kp_q0]; omega)
        rw [a1]
        have q0 : (0 : Int32).toNatClampNeg = 0 := rfl
        rw [q0] at a3 a4
        have s3 : S'.1 53 3 = S.1 53 3 := by rw [(a2 53 (by decide)).1]
        have hsl := kw_shl1 _ (S'.1 53 3) rfl (by rw [s3, h3]; omega) (by rw [s3, h3]; omega)
        refine ih (i + Int32.ofInt 1) _ (by omega) (by omega) (kw_F_ui (hF.tr a2 (by decide)) (by decide)) ?_ ?_ (fun s hs2 => ?_) (by omega)
        · rw [kp_ui, if_neg (by decide), (a2 53 (by decide)).1]; exact h2
        · rw [kp_ui, if_pos ⟨rfl, rfl⟩, hsl, s3, h3, en, p2]; omega
        · rw [en] at hs2 ⊢
          have k1 : (kw_ui S' 53 3 (S'.1 53 3 <<< ((1 : Int32) &&& 31))).1 57 s = S'.1 57 s := by rw [kp_ui, if_neg (by omega)]
          have k2 : (kw_ui S' 53 3 (S'.1 53 3 <<< ((1 : Int32) &&& 31))).1 58 s = S'.1 58 s := by rw [kp_ui, if_neg (by omega)]
          rw [k1, k2]
          by_cases hlt : s < 2 ^ i.toNatClampNeg
          · obtain ⟨u1, u2⟩ := a3 s (by omega)
            obtain ⟨v1, v2⟩ := hs s hlt
            obtain ⟨w1, w2⟩ := kc_lo x w s i.toNatClampNeg hlt
            rw [u1, u2, v1, v2, w1, w2]
            exact ⟨rfl, rfl⟩
          · obtain ⟨d, rfl⟩ : ∃ d : Nat, s = 2 ^ i.toNatClampNeg + d := ⟨s - 2 ^ i.toNatClampNeg, by omega⟩
            obtain ⟨u1, u2⟩ := a4 d (by omega) (by omega)
            obtain ⟨v1, v2⟩ := hs d (by omega)
            obtain ⟨w1, w2⟩ := kc_hi x w d i.toNatClampNeg (by omega)
            rw [kd_ofNat i i0] at w1 w2
            rw [u1, u2, v1, v2, w1, w2]
            exact ⟨rfl, rfl⟩
      · rw [if_neg hi]
        have e : i.toNatClampNeg = (x.1 17 5).toNatClampNeg := by omega
        rw [e] at h3 hs
        exact ⟨hF, h3, h2, hs⟩
  rw [f_X0_draw_53_17_u]
  have q0 : (0 : Int32).toNatClampNeg = 0 := rfl
  refine L _ 0 _ (by decide) (by rw [kp_q0]; exact l0) (kw_F_ui (kw_F_ui (kw_F_ui (kw_F_ui kw_F.rf (by decide)) (by decide)) (by decide)) (by decide)) (by simp [kp_ui]) (by rw [q0]; simp [kp_ui]) (fun s hs => ?_) (by rw [kp_q0]; omega)
  rw [q0] at hs ⊢
  have : s = 0 := by simpa using hs
  subst this
  exact ⟨by simp [kp_ui, kc_sp], by simp [kp_ui, kc_st]⟩
theorem kc_cm53 (x S : kw_S) (w s : Int32) (l0 : 0 ≤ (x.1 17 5).toInt) (l6 : (x.1 17 5).toInt ≤ 6) (hS : ∀ a : Nat, a = 57 ∨ a = 58 → S.1 a = (f_X0_draw_53_17 x w).1 a) (s0 : 0 ≤ s.toInt) (s1 : s.toInt < (2 ^ (x.1 17 5).toNatClampNeg : Nat)) : f_X0_milesOf_53 S s = f_X1_milesOf_17 x s w ∧ f_X0_turnBy_53 S s = f_X1_turnOf_17 x s w := by
  have cl := kw_clampI l0
  have cs := kw_clampI s0
  have pw := kc_pow (x.1 17 5).toNatClampNeg (by omega)
  obtain ⟨-, -, -, d4⟩ := kc_draw53 x w l0 l6
  obtain ⟨u1, u2⟩ := d4 s.toNatClampNeg (by omega)
  have q64 : (64 : Int32).toInt = 64 := rfl
  rw [f_X0_milesOf_53_u, f_X0_turnBy_53_u]
  simp only [kf_lx]
  rw [if_neg (show ¬ s.toInt < 0 by omega), if_pos (show s.toInt < (64 : Int32).toInt by omega), if_neg (show ¬ s.toInt < 0 by omega), if_pos (show s.toInt < (64 : Int32).toInt by omega), hS 57 (Or.inl rfl), hS 58 (Or.inr rfl), u1, u2, kc_miles x s w l0 l6 s0 (by omega), kc_turn x s w l0 l6 s0 (by omega)]
  exact ⟨rfl, rfl⟩
theorem kc_in54 {x : kw_S} (w i pl tn : Int32) (kk : Int32 → kw_S → kw_S) (N : Nat) (hN : N ≤ 32) : ∀ (n : Nat) (y : Int32) (S : kw_S), 0 ≤ y.toInt → y.toInt ≤ N → (S.1 54 3).toInt = N → (64 - y.toInt).toNat < n → ∃ S' : kw_S, l_X0_draw_54_17_59 kk w i pl tn n y S = kk (i + Int32.ofInt 1) (kw_ui S' 54 3 (S'.1 54 3 <<< ((1 : Int32) &&& 31))) ∧ kw_F [59, 60] S S' ∧ (∀ s : Nat, s < N + y.toNatClampNeg → S'.1 59 s = S.1 59 s ∧ S'.1 60 s = S.1 60 s) ∧ ∀ s : Nat, y.toNatClampNeg ≤ s → s < N → S'.1 59 (N + s) = S.1 59 s + pl ∧ S'.1 60 (N + s) = S.1 60 s + tn := by
  intro n
  induction n with
  | zero => intro y S _ _ _ h; exact absurd h (Nat.not_lt_zero _)
  | succ n ih =>
    intro y S y0 y1 hs h1
    have cy := kw_clampI y0
    rw [l_X0_draw_54_17_59_s]
    simp only [kf_lx]
    by_cases hy : y.toInt < (S.1 54 3).toInt
    · have z := kp_inc y (by omega)
      have c1 := kw_clampI (x := y + Int32.ofInt 1) (by omega)
      have e : (S.1 54 3 + y).toInt = N + y.toInt := by rw [kw_addI]; omega
      have ce := kw_clampI (x := S.1 54 3 + y) (by omega)
      have en : (S.1 54 3 + y).toNatClampNeg = N + y.toNatClampNeg := by omega
      rw [if_pos hy, if_pos (show (S.1 54 3 + y).toInt < (64 : Int32).toInt by rw [e, show (64 : Int32).toInt = 64 from rfl]; omega), en]
      have e23 : (kw_ui S 59 (N + y.toNatClampNeg) (S.1 59 y.toNatClampNeg + pl)).1 60 y.toNatClampNeg = S.1 60 y.toNatClampNeg := by rw [kp_ui, if_neg (by omega)]
      rw [e23]
      generalize hS1 : kw_ui (kw_ui S 59 (N + y.toNatClampNeg) (S.1 59 y.toNatClampNeg + pl)) 60 (N + y.toNatClampNeg) (S.1 60 y.toNatClampNeg + tn) = S1
      have F1 : kw_F [59, 60] S S1 := by rw [← hS1]; exact kw_F_ui (kw_F_ui kw_F.rf (by decide)) (by decide)
      have v1 : ∀ s : Nat, S1.1 59 s = if s = N + y.toNatClampNeg then S.1 59 y.toNatClampNeg + pl else S.1 59 s := fun s => by
        rw [← hS1, kp_ui, if_neg (by omega), kp_ui]
        by_cases q : s = N + y.toNatClampNeg
        · rw [if_pos ⟨rfl, q⟩, if_pos q]
        · rw [if_neg (fun r => q r.2), if_neg q]
      have v2 : ∀ s : Nat, S1.1 60 s = if s = N + y.toNatClampNeg then S.1 60 y.toNatClampNeg + tn else S.1 60 s := fun s => by
        rw [← hS1, kp_ui]
        by_cases q : s = N + y.toNatClampNeg
        · rw [if_pos ⟨rfl, q⟩, if_pos q]
        · rw [if_neg (fun r => q r.2), if_neg q, kp_ui, if_neg (by omega)]
      obtain ⟨S', a1, a2, a3, a4⟩ := ih (y + Int32.ofInt 1) S1 (by omega) (by omega) (by rw [(F1 54 (by decide)).1]; exact hs) (by omega)
      refine ⟨S', a1, F1.tr a2 (fun _ h => h), fun s h => ?_, fun s g1 g2 => ?_⟩
      · obtain ⟨u1, u2⟩ := a3 s (by omega)
        rw [u1, u2, v1, v2, if_neg (by omega), if_neg (by omega)]
        exact ⟨rfl, rfl⟩
      · by_cases q : s = y.toNatClampNeg
        · obtain ⟨u1, u2⟩ := a3 (N + s) (by omega)
          rw [u1, u2, v1, v2, if_pos (by omega), if_pos (by omega), q]
          exact ⟨rfl, rfl⟩
        · obtain ⟨u1, u2⟩ := a4 s (by omega) g2
          rw [u1, u2, v1, v2, if_neg (by omega), if_neg (by omega)]
          exact ⟨rfl, rfl⟩
    · rw [if_neg hy]
      exact ⟨S, rfl, kw_F.rf, fun _ _ => ⟨rfl, rfl⟩, fun s g1 g2 => by omega⟩
theorem kc_draw54 (x : kw_S) (w : Int32) (l0 : 0 ≤ (x.1 17 5).toInt) (l6 : (x.1 17 5).toInt ≤ 6) : kw_F [54, 59, 60] x (f_X0_draw_54_17 x w) ∧ ((f_X0_draw_54_17 x w).1 54 3).toInt = (2 ^ (x.1 17 5).toNatClampNeg : Nat) ∧ (f_X0_draw_54_17 x w).1 54 2 = x.1 17 5 ∧ ∀ s : Nat, s < 2 ^ (x.1 17 5).toNatClampNeg → (f_X0_draw_54_17 x w).1 59 s = kc_sp x w s (x.1 17 5).toNatClampNeg ∧ (f_X0_draw_54_17 x w).1 60 s = kc_st x w s (x.1 17 5).toNatClampNeg := by
  have cl := kw_clampI l0
  have L : ∀ (n : Nat) (i : Int32) (S : kw_S), 0 ≤ i.toInt → i.toInt ≤ (x.1 17 5).toInt → kw_F [54, 59, 60] x S → S.1 54 2 = x.1 17 5 → (S.1 54 3).toInt = (2 ^ i.toNatClampNeg : Nat) → (∀ s : Nat, s < 2 ^ i.toNatClampNeg → S.1 59 s = kc_sp x w s i.toNatClampNeg ∧ S.1 60 s = kc_st x w s i.toNatClampNeg) → (6 - i.toInt).toNat < n → kw_F [54, 59, 60] x (l_X0_draw_54_17_29 w n i S) ∧ ((l_X0_draw_54_17_29 w n i S).1 54 3).toInt = (2 ^ (x.1 17 5).toNatClampNeg : Nat) ∧ (l_X0_draw_54_17_29 w n i S).1 54 2 = x.1 17 5 ∧ ∀ s : Nat, s < 2 ^ (x.1 17 5).toNatClampNeg → (l_X0_draw_54_17_29 w n i S).1 59 s = kc_sp x w s (x.1 17 5).toNatClampNeg ∧ (l_X0_draw_54_17_29 w n i S).1 60 s = kc_st x w s (x.1 17 5).toNatClampNeg := by
    intro n
    induction n with
    | zero => intro i S _ _ _ _ _ _ h; exact absurd h (Nat.not_lt_zero _)
    | succ n ih =>
      intro i S i0 i1 hF h2 h3 hs h1
      have ci := kw_clampI i0
      rw [l_X0_draw_54_17_29_s, h2]
      simp only [kf_lx]
      by_cases hi : i.toInt < (x.1 17 5).toInt
      · have z := kp_inc i (by omega)
        have c1 := kw_clampI (x := i + Int32.ofInt 1) (by omega)
        have en : (i + Int32.ofInt 1).toNatClampNeg = i.toNatClampNeg + 1 := by omega
        have pw := kc_pow i.toNatClampNeg (by omega)
        have pw2 := kc_pow (i.toNatClampNeg + 1) (by omega)
        have p2 : (2 ^ (i.toNatClampNeg + 1) : Nat) = 2 * 2 ^ i.toNatClampNeg := by rw [Nat.pow_succ]; omega
        have lay : kd_lay x S := kd_lay.of hF (by decide)
        rw [if_pos hi, lay.pullOf, show S.1 45 = x.1 45 from lay 45 (by omega)]
        obtain ⟨S', a1, a2, a3, a4⟩ := kc_in54 (x := x) w i (f_X1_pullOf_17 x i w) (f_X1_pullOf_17 x i w * x.1 45 i.toNatClampNeg) (l_X0_draw_54_17_29 w n) (2 ^ i.toNatClampNeg) (by omega) ((65 - (0 : Int32).toInt).toNat + 1) 0 S (by decide) (by rw [kp_q0]; omega) h3 (by rw [kp_q0]; omega)
        rw [a1]
        have q0 : (0 : Int32).toNatClampNeg = 0 := rfl
        rw [q0] at a3 a4
        have s3 : S'.1 54 3 = S.1 54 3 := by rw [(a2 54 (by decide)).1]
        have hsl := kw_shl1 _ (S'.1 54 3) rfl (by rw [s3, h3]; omega) (by rw [s3, h3]; omega)
        refine ih (i + Int32.ofInt 1) _ (by omega) (by omega) (kw_F_ui (hF.tr a2 (by decide)) (by decide)) ?_ ?_ (fun s hs2 => ?_) (by omega)
        · rw [kp_ui, if_neg (by decide), (a2 54 (by decide)).1]; exact h2
        · rw [kp_ui, if_pos ⟨rfl, rfl⟩, hsl, s3, h3, en, p2]; omega
        · rw [en] at hs2 ⊢
          have k1 : (kw_ui S' 54 3 (S'.1 54 3 <<< ((1 : Int32) &&& 31))).1 59 s = S'.1 59 s := by rw [kp_ui, if_neg (by omega)]
          have k2 : (kw_ui S' 54 3 (S'.1 54 3 <<< ((1 : Int32) &&& 31))).1 60 s = S'.1 60 s := by rw [kp_ui, if_neg (by omega)]
          rw [k1, k2]
          by_cases hlt : s < 2 ^ i.toNatClampNeg
          · obtain ⟨u1, u2⟩ := a3 s (by omega)
            obtain ⟨v1, v2⟩ := hs s hlt
            obtain ⟨w1, w2⟩ := kc_lo x w s i.toNatClampNeg hlt
            rw [u1, u2, v1, v2, w1, w2]
            exact ⟨rfl, rfl⟩
          · obtain ⟨d, rfl⟩ : ∃ d : Nat, s = 2 ^ i.toNatClampNeg + d := ⟨s - 2 ^ i.toNatClampNeg, by omega⟩
            obtain ⟨u1, u2⟩ := a4 d (by omega) (by omega)
            obtain ⟨v1, v2⟩ := hs d (by omega)
            obtain ⟨w1, w2⟩ := kc_hi x w d i.toNatClampNeg (by omega)
            rw [kd_ofNat i i0] at w1 w2
            rw [u1, u2, v1, v2, w1, w2]
            exact ⟨rfl, rfl⟩
      · rw [if_neg hi]
        have e : i.toNatClampNeg = (x.1 17 5).toNatClampNeg := by omega
        rw [e] at h3 hs
        exact ⟨hF, h3, h2, hs⟩
  rw [f_X0_draw_54_17_u]
  have q0 : (0 : Int32).toNatClampNeg = 0 := rfl
  refine L _ 0 _ (by decide) (by rw [kp_q0]; exact l0) (kw_F_ui (kw_F_ui (kw_F_ui (kw_F_ui kw_F.rf (by decide)) (by decide)) (by decide)) (by decide)) (by simp [kp_ui]) (by rw [q0]; simp [kp_ui]) (fun s hs => ?_) (by rw [kp_q0]; omega)
  rw [q0] at hs ⊢
  have : s = 0 := by simpa using hs
  subst this
  exact ⟨by simp [kp_ui, kc_sp], by simp [kp_ui, kc_st]⟩
theorem kc_cm54 (x S : kw_S) (w s : Int32) (l0 : 0 ≤ (x.1 17 5).toInt) (l6 : (x.1 17 5).toInt ≤ 6) (hS : ∀ a : Nat, a = 59 ∨ a = 60 → S.1 a = (f_X0_draw_54_17 x w).1 a) (s0 : 0 ≤ s.toInt) (s1 : s.toInt < (2 ^ (x.1 17 5).toNatClampNeg : Nat)) : f_X0_milesOf_54 S s = f_X1_milesOf_17 x s w ∧ f_X0_turnBy_54 S s = f_X1_turnOf_17 x s w := by
  have cl := kw_clampI l0
  have cs := kw_clampI s0
  have pw := kc_pow (x.1 17 5).toNatClampNeg (by omega)
  obtain ⟨-, -, -, d4⟩ := kc_draw54 x w l0 l6
  obtain ⟨u1, u2⟩ := d4 s.toNatClampNeg (by omega)
  have q64 : (64 : Int32).toInt = 64 := rfl
  rw [f_X0_milesOf_54_u, f_X0_turnBy_54_u]
  simp only [kf_lx]
  rw [if_neg (show ¬ s.toInt < 0 by omega), if_pos (show s.toInt < (64 : Int32).toInt by omega), if_neg (show ¬ s.toInt < 0 by omega), if_pos (show s.toInt < (64 : Int32).toInt by omega), hS 59 (Or.inl rfl), hS 60 (Or.inr rfl), u1, u2, kc_miles x s w l0 l6 s0 (by omega), kc_turn x s w l0 l6 s0 (by omega)]
  exact ⟨rfl, rfl⟩
