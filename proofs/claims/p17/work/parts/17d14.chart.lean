/-! ===== charts: pulls and turns of each set, as sums over its lines ===== -/
noncomputable def kc_sp (x : kw_S) (w : Int32) (s : Nat) : Nat → Int32
  | 0 => 0
  | j + 1 => if s.testBit j = true then kc_sp x w s j + f_X1_pullOf_17 x (Int32.ofNat j) w else kc_sp x w s j
noncomputable def kc_st (x : kw_S) (w : Int32) (s : Nat) : Nat → Int32
  | 0 => 0
  | j + 1 => if s.testBit j = true then kc_st x w s j + f_X1_pullOf_17 x (Int32.ofNat j) w * x.1 45 j else kc_st x w s j
theorem kc_spS (x : kw_S) (w : Int32) (s j : Nat) : kc_sp x w s (j + 1) = if s.testBit j = true then kc_sp x w s j + f_X1_pullOf_17 x (Int32.ofNat j) w else kc_sp x w s j := rfl
theorem kc_stS (x : kw_S) (w : Int32) (s j : Nat) : kc_st x w s (j + 1) = if s.testBit j = true then kc_st x w s j + f_X1_pullOf_17 x (Int32.ofNat j) w * x.1 45 j else kc_st x w s j := rfl
theorem kc_cong (x : kw_S) (w : Int32) (s s' : Nat) : ∀ n : Nat, (∀ j : Nat, j < n → s.testBit j = s'.testBit j) → kc_sp x w s n = kc_sp x w s' n ∧ kc_st x w s n = kc_st x w s' n
  | 0, _ => ⟨rfl, rfl⟩
  | n + 1, h => by
    obtain ⟨a, b⟩ := kc_cong x w s s' n (fun j hj => h j (by omega))
    rw [kc_spS, kc_spS, kc_stS, kc_stS, h n (by omega), a, b]
    exact ⟨rfl, rfl⟩
theorem kc_lo (x : kw_S) (w : Int32) (s i : Nat) (h : s < 2 ^ i) : kc_sp x w s (i + 1) = kc_sp x w s i ∧ kc_st x w s (i + 1) = kc_st x w s i := by
  rw [kc_spS, kc_stS, Nat.testBit_lt_two_pow h]
  exact ⟨rfl, rfl⟩
theorem kc_hi (x : kw_S) (w : Int32) (s i : Nat) (h : s < 2 ^ i) : kc_sp x w (2 ^ i + s) (i + 1) = kc_sp x w s i + f_X1_pullOf_17 x (Int32.ofNat i) w ∧ kc_st x w (2 ^ i + s) (i + 1) = kc_st x w s i + f_X1_pullOf_17 x (Int32.ofNat i) w * x.1 45 i := by
  have hb : (2 ^ i + s).testBit i = true := by rw [Nat.testBit_two_pow_add_eq, Nat.testBit_lt_two_pow h]; rfl
  obtain ⟨a, b⟩ := kc_cong x w (2 ^ i + s) s i (fun j hj => Nat.testBit_two_pow_add_gt hj s)
  rw [kc_spS, kc_stS, hb, a, b]
  exact ⟨rfl, rfl⟩
theorem kc_bit64 : ∀ s : Nat, s < 64 → ∀ i : Nat, i < 6 → ((Int32.ofNat s >>> (Int32.ofNat i &&& 31)) &&& 1).toInt = if s.testBit i = true then 1 else 0 := by decide +kernel
theorem kc_bit (s i : Int32) (s0 : 0 ≤ s.toInt) (s1 : s.toInt ≤ 63) (i0 : 0 ≤ i.toInt) (i1 : i.toInt ≤ 5) : ((s >>> (i &&& 31)) &&& 1).toInt = if s.toNatClampNeg.testBit i.toNatClampNeg = true then 1 else 0 := by
  have cs := kw_clampI s0
  have ci := kw_clampI i0
  have h := kc_bit64 s.toNatClampNeg (by omega) i.toNatClampNeg (by omega)
  rw [kd_ofNat s s0, kd_ofNat i i0] at h
  exact h
theorem kc_miles (x : kw_S) (s w : Int32) (l0 : 0 ≤ (x.1 17 5).toInt) (l6 : (x.1 17 5).toInt ≤ 6) (s0 : 0 ≤ s.toInt) (s1 : s.toInt ≤ 63) : f_X1_milesOf_17 x s w = kc_sp x w s.toNatClampNeg (x.1 17 5).toNatClampNeg / 4 := by
  have cl := kw_clampI l0
  have L : ∀ (n : Nat) (a i : Int32), 0 ≤ i.toInt → i.toInt ≤ (x.1 17 5).toInt → a = kc_sp x w s.toNatClampNeg i.toNatClampNeg → (6 - i.toInt).toNat < n → l_X1_milesOf_17_5 s w x n a i = kc_sp x w s.toNatClampNeg (x.1 17 5).toNatClampNeg / 4 := by
    intro n
    induction n with
    | zero => intro a i _ _ _ h; exact absurd h (Nat.not_lt_zero _)
    | succ n ih =>
      intro a i i0 i1 ha h1
      have ci := kw_clampI i0
      rw [l_X1_milesOf_17_5_s]
      simp only [kf_lx]
      by_cases hi : i.toInt < (x.1 17 5).toInt
      · have z := kp_inc i (by omega)
        have c1 := kw_clampI (x := i + Int32.ofInt 1) (by omega)
        have en : (i + Int32.ofInt 1).toNatClampNeg = i.toNatClampNeg + 1 := by omega
        have hb := kc_bit s i s0 s1 i0 (by omega)
        rw [if_pos hi]
        by_cases ht : s.toNatClampNeg.testBit i.toNatClampNeg = true
        · rw [if_pos ht] at hb
          rw [if_pos (show ((s >>> (i &&& 31)) &&& 1).toInt = (1 : Int32).toInt from hb)]
          refine ih _ _ (by omega) (by omega) ?_ (by omega)
          rw [en, kc_spS, if_pos ht, kd_ofNat i i0, ha]
        · rw [if_neg ht] at hb
          rw [if_neg (show ¬ ((s >>> (i &&& 31)) &&& 1).toInt = (1 : Int32).toInt by rw [hb, kp_q1]; decide)]
          refine ih _ _ (by omega) (by omega) ?_ (by omega)
          rw [en, kc_spS, if_neg ht, ha]
      · rw [if_neg hi, ha, show i.toNatClampNeg = (x.1 17 5).toNatClampNeg by omega]
  rw [f_X1_milesOf_17_u]
  exact L _ _ _ (by decide) (by rw [kp_q0]; exact l0) rfl (by rw [kp_q0]; omega)
theorem kc_turn (x : kw_S) (s w : Int32) (l0 : 0 ≤ (x.1 17 5).toInt) (l6 : (x.1 17 5).toInt ≤ 6) (s0 : 0 ≤ s.toInt) (s1 : s.toInt ≤ 63) : f_X1_turnOf_17 x s w = kc_st x w s.toNatClampNeg (x.1 17 5).toNatClampNeg := by
  have cl := kw_clampI l0
  have L : ∀ (n : Nat) (a i : Int32), 0 ≤ i.toInt → i.toInt ≤ (x.1 17 5).toInt → a = kc_st x w s.toNatClampNeg i.toNatClampNeg → (6 - i.toInt).toNat < n → l_X1_turnOf_17_5 s w x n a i = kc_st x w s.toNatClampNeg (x.1 17 5).toNatClampNeg := by
    intro n
    induction n with
    | zero => intro a i _ _ _ h; exact absurd h (Nat.not_lt_zero _)
    | succ n ih =>
      intro a i i0 i1 ha h1
      have ci := kw_clampI i0
      rw [l_X1_turnOf_17_5_s]
      simp only [kf_lx]
      by_cases hi : i.toInt < (x.1 17 5).toInt
      · have z := kp_inc i (by omega)
        have c1 := kw_clampI (x := i + Int32.ofInt 1) (by omega)
        have en : (i + Int32.ofInt 1).toNatClampNeg = i.toNatClampNeg + 1 := by omega
        have hb := kc_bit s i s0 s1 i0 (by omega)
        rw [if_pos hi]
        by_cases ht : s.toNatClampNeg.testBit i.toNatClampNeg = true
        · rw [if_pos ht] at hb
          rw [if_pos (show ((s >>> (i &&& 31)) &&& 1).toInt = (1 : Int32).toInt from hb)]
          refine ih _ _ (by omega) (by omega) ?_ (by omega)
          rw [en, kc_stS, if_pos ht, kd_ofNat i i0, ha]
        · rw [if_neg ht] at hb
          rw [if_neg (show ¬ ((s >>> (i &&& 31)) &&& 1).toInt = (1 : Int32).toInt by rw [hb, kp_q1]; decide)]
          refine ih _ _ (by omega) (by omega) ?_ (by omega)
          rw [en, kc_stS, if_neg ht, ha]
      · rw [if_neg hi, ha, show i.toNatClampNeg = (x.1 17 5).toNatClampNeg by omega]
  rw [f_X1_turnOf_17_u]
  exact L _ _ _ (by decide) (by rw [kp_q0]; exact l0) rfl (by rw [kp_q0]; omega)
theorem kc_pow (i : Nat) (h : i ≤ 6) : (2 ^ i : Nat) ≤ 64 ∧ 1 ≤ (2 ^ i : Nat) := by
  rcases (show i = 0 ∨ i = 1 ∨ i = 2 ∨ i = 3 ∨ i = 4 ∨ i = 5 ∨ i = 6 by omega) with rfl | rfl | rfl | rfl | rfl | rfl | rfl <;> decide
theorem kc_pow1 (l : Int32) (l0 : 0 ≤ l.toInt) (l6 : l.toInt ≤ 6) : ((1 : Int32) <<< (l &&& 31)).toInt = (2 ^ l.toNatClampNeg : Nat) := by
  have c := kw_clampI l0
  have h : ∀ i : Nat, i < 7 → ((1 : Int32) <<< (Int32.ofNat i &&& 31)).toInt = (2 ^ i : Nat) := by decide +kernel
  have := h l.toNatClampNeg (by omega)
  rw [kd_ofNat l l0] at this
  exact this
theorem kc_in6 {x : kw_S} (w i pl tn : Int32) (kk : Int32 → kw_S → kw_S) (N : Nat) (hN : N ≤ 32) : ∀ (n : Nat) (y : Int32) (S : kw_S), 0 ≤ y.toInt → y.toInt ≤ N → (S.1 6 3).toInt = N → (64 - y.toInt).toNat < n → ∃ S' : kw_S, l_X0_draw_6_17_59 kk w i pl tn n y S = kk (i + Int32.ofInt 1) (kw_ui S' 6 3 (S'.1 6 3 <<< ((1 : Int32) &&& 31))) ∧ kw_F [22, 23] S S' ∧ (∀ s : Nat, s < N + y.toNatClampNeg → S'.1 22 s = S.1 22 s ∧ S'.1 23 s = S.1 23 s) ∧ ∀ s : Nat, y.toNatClampNeg ≤ s → s < N → S'.1 22 (N + s) = S.1 22 s + pl ∧ S'.1 23 (N + s) = S.1 23 s + tn := by
  intro n
  induction n with
  | zero => intro y S _ _ _ h; exact absurd h (Nat.not_lt_zero _)
  | succ n ih =>
    intro y S y0 y1 hs h1
    have cy := kw_clampI y0
    rw [l_X0_draw_6_17_59_s]
    simp only [kf_lx]
    by_cases hy : y.toInt < (S.1 6 3).toInt
    · have z := kp_inc y (by omega)
      have c1 := kw_clampI (x := y + Int32.ofInt 1) (by omega)
      have e : (S.1 6 3 + y).toInt = N + y.toInt := by rw [kw_addI]; omega
      have ce := kw_clampI (x := S.1 6 3 + y) (by omega)
      have en : (S.1 6 3 + y).toNatClampNeg = N + y.toNatClampNeg := by omega
      rw [if_pos hy, if_pos (show (S.1 6 3 + y).toInt < (64 : Int32).toInt by rw [e, show (64 : Int32).toInt = 64 from rfl]; omega), en]
      have e23 : (kw_ui S 22 (N + y.toNatClampNeg) (S.1 22 y.toNatClampNeg + pl)).1 23 y.toNatClampNeg = S.1 23 y.toNatClampNeg := by rw [kp_ui, if_neg (by omega)]
      rw [e23]
      generalize hS1 : kw_ui (kw_ui S 22 (N + y.toNatClampNeg) (S.1 22 y.toNatClampNeg + pl)) 23 (N + y.toNatClampNeg) (S.1 23 y.toNatClampNeg + tn) = S1
      have F1 : kw_F [22, 23] S S1 := by rw [← hS1]; exact kw_F_ui (kw_F_ui kw_F.rf (by decide)) (by decide)
      have v1 : ∀ s : Nat, S1.1 22 s = if s = N + y.toNatClampNeg then S.1 22 y.toNatClampNeg + pl else S.1 22 s := fun s => by
        rw [← hS1, kp_ui, if_neg (by omega), kp_ui]
        by_cases q : s = N + y.toNatClampNeg
        · rw [if_pos ⟨rfl, q⟩, if_pos q]
        · rw [if_neg (fun r => q r.2), if_neg q]
      have v2 : ∀ s : Nat, S1.1 23 s = if s = N + y.toNatClampNeg then S.1 23 y.toNatClampNeg + tn else S.1 23 s := fun s => by
        rw [← hS1, kp_ui]
        by_cases q : s = N + y.toNatClampNeg
        · rw [if_pos ⟨rfl, q⟩, if_pos q]
        · rw [if_neg (fun r => q r.2), if_neg q, kp_ui, if_neg (by omega)]
      obtain ⟨S', a1, a2, a3, a4⟩ := ih (y + Int32.ofInt 1) S1 (by omega) (by omega) (by rw [(F1 6 (by decide)).1]; exact hs) (by omega)
      refine ⟨S', a1, F1.tr a2 (fun _ h => h), fun s h => ?_, fun s g1 g2 => ?_⟩
      · obtain ⟨u1, u2⟩ := a3 s (by omega)
        rw [u1, u2, v1, v2, if_neg (by omega), if_neg (by omega)]
        exact ⟨rfl, rfl⟩
      · by_cases q : s = y.toNatClampNeg
        · obtain ⟨u1, u2⟩ := a3 (N + s) (by omega)
          rw [u1, u2, v1, v2, if_pos (by omega), if_pos (by omega), q]
          exact ⟨rfl, rfl⟩
        · obtain ⟨u1, u2⟩ := a4 s (by omega) g2
          rw [u1, u2, v1, v2, if_neg (by omega), if_neg (by omega)]
          exact ⟨rfl, rfl⟩
    · rw [if_neg hy]
      exact ⟨S, rfl, kw_F.rf, fun _ _ => ⟨rfl, rfl⟩, fun s g1 g2 => by omega⟩
theorem kc_draw6 (x : kw_S) (w : Int32) (l0 : 0 ≤ (x.1 17 5).toInt) (l6 : (x.1 17 5).toInt ≤ 6) : kw_F [6, 22, 23] x (f_X0_draw_6_17 x w) ∧ ((f_X0_draw_6_17 x w).1 6 3).toInt = (2 ^ (x.1 17 5).toNatClampNeg : Nat) ∧ (f_X0_draw_6_17 x w).1 6 2 = x.1 17 5 ∧ ∀ s : Nat, s < 2 ^ (x.1 17 5).toNatClampNeg → (f_X0_draw_6_17 x w).1 22 s = kc_sp x w s (x.1 17 5).toNatClampNeg ∧ (f_X0_draw_6_17 x w).1 23 s = kc_st x w s (x.1 17 5).toNatClampNeg := by
  have cl := kw_clampI l0
  have L : ∀ (n : Nat) (i : Int32) (S : kw_S), 0 ≤ i.toInt → i.toInt ≤ (x.1 17 5).toInt → kw_F [6, 22, 23] x S → S.1 6 2 = x.1 17 5 → (S.1 6 3).toInt = (2 ^ i.toNatClampNeg : Nat) → (∀ s : Nat, s < 2 ^ i.toNatClampNeg → S.1 22 s = kc_sp x w s i.toNatClampNeg ∧ S.1 23 s = kc_st x w s i.toNatClampNeg) → (6 - i.toInt).toNat < n → kw_F [6, 22, 23] x (l_X0_draw_6_17_29 w n i S) ∧ ((l_X0_draw_6_17_29 w n i S).1 6 3).toInt = (2 ^ (x.1 17 5).toNatClampNeg : Nat) ∧ (l_X0_draw_6_17_29 w n i S).1 6 2 = x.1 17 5 ∧ ∀ s : Nat, s < 2 ^ (x.1 17 5).toNatClampNeg → (l_X0_draw_6_17_29 w n i S).1 22 s = kc_sp x w s (x.1 17 5).toNatClampNeg ∧ (l_X0_draw_6_17_29 w n i S).1 23 s = kc_st x w s (x.1 17 5).toNatClampNeg := by
    intro n
    induction n with
    | zero => intro i S _ _ _ _ _ _ h; exact absurd h (Nat.not_lt_zero _)
    | succ n ih =>
      intro i S i0 i1 hF h2 h3 hs h1
      have ci := kw_clampI i0
      rw [l_X0_draw_6_17_29_s, h2]
      simp only [kf_lx]
      by_cases hi : i.toInt < (x.1 17 5).toInt
      · have z := kp_inc i (by omega)
        have c1 := kw_clampI (x := i + Int32.ofInt 1) (by omega)
        have en : (i + Int32.ofInt 1).toNatClampNeg = i.toNatClampNeg + 1 := by omega
        have pw := kc_pow i.toNatClampNeg (by omega)
        have pw2 := kc_pow (i.toNatClampNeg + 1) (by omega)
        have p2 : (2 ^ (i.toNatClampNeg + 1) : Nat) = 2 * 2 ^ i.toNatClampNeg := by rw [Nat.pow_succ]; omega
        have lay : kd_lay x S := kd_lay.of hF (by decide)
        rw [if_pos hi, lay.pullOf, show S.1 45 = x.1 45 from lay 45 (by omega)]
        obtain ⟨S', a1, a2, a3, a4⟩ := kc_in6 (x := x) w i (f_X1_pullOf_17 x i w) (f_X1_pullOf_17 x i w * x.1 45 i.toNatClampNeg) (l_X0_draw_6_17_29 w n) (2 ^ i.toNatClampNeg) (by omega) ((65 - (0 : Int32).toInt).toNat + 1) 0 S (by decide) (by rw [kp_q0]; omega) h3 (by rw [kp_q0]; omega)
        rw [a1]
        have q0 : (0 : Int32).toNatClampNeg = 0 := rfl
        rw [q0] at a3 a4
        have s3 : S'.1 6 3 = S.1 6 3 := by rw [(a2 6 (by decide)).1]
        have hsl := kw_shl1 _ (S'.1 6 3) rfl (by rw [s3, h3]; omega) (by rw [s3, h3]; omega)
        refine ih (i + Int32.ofInt 1) _ (by omega) (by omega) (kw_F_ui (hF.tr a2 (by decide)) (by decide)) ?_ ?_ (fun s hs2 => ?_) (by omega)
        · rw [kp_ui, if_neg (by decide), (a2 6 (by decide)).1]; exact h2
        · rw [kp_ui, if_pos ⟨rfl, rfl⟩, hsl, s3, h3, en, p2]; omega
        · rw [en] at hs2 ⊢
          have k1 : (kw_ui S' 6 3 (S'.1 6 3 <<< ((1 : Int32) &&& 31))).1 22 s = S'.1 22 s := by rw [kp_ui, if_neg (by omega)]
          have k2 : (kw_ui S' 6 3 (S'.1 6 3 <<< ((1 : Int32) &&& 31))).1 23 s = S'.1 23 s := by rw [kp_ui, if_neg (by omega)]
          rw [k1, k2]
          by_cases hlt : s < 2 ^ i.toNatClampNeg
          · obtain ⟨u1, u2⟩ := a3 s (by omega)
            obtain ⟨v1, v2⟩ := hs s hlt
            obtain ⟨w1, w2⟩ := kc_lo x w s i.toNatClampNeg hlt
            rw [u1, u2, v1, v2, w1, w2]
            exact ⟨rfl, rfl⟩
          · obtain ⟨d, rfl⟩ : ∃ d : Nat, s = 2 ^ i.toNatClampNeg + d := ⟨s - 2 ^ i.toNatClampNeg, by omega⟩
            obtain ⟨u1, u2⟩ := a4 d (by omega) (by omega)
            obtain ⟨v1, v2⟩ := hs d (by omega)
            obtain ⟨w1, w2⟩ := kc_hi x w d i.toNatClampNeg (by omega)
            rw [kd_ofNat i i0] at w1 w2
            rw [u1, u2, v1, v2, w1, w2]
            exact ⟨rfl, rfl⟩
      · rw [if_neg hi]
        have e : i.toNatClampNeg = (x.1 17 5).toNatClampNeg := by omega
        rw [e] at h3 hs
        exact ⟨hF, h3, h2, hs⟩
  rw [f_X0_draw_6_17_u]
  have q0 : (0 : Int32).toNatClampNeg = 0 := rfl
  refine L _ 0 _ (by decide) (by rw [kp_q0]; exact l0) (kw_F_ui (kw_F_ui (kw_F_ui (kw_F_ui kw_F.rf (by decide)) (by decide)) (by decide)) (by decide)) (by simp [kp_ui]) (by rw [q0]; simp [kp_ui]) (fun s hs => ?_) (by rw [kp_q0]; omega)
  rw [q0] at hs ⊢
  have : s = 0 := by simpa using hs
  subst this
  exact ⟨by simp [kp_ui, kc_sp], by simp [kp_ui, kc_st]⟩
theorem kc_cm6 (x S : kw_S) (w s : Int32) (l0 : 0 ≤ (x.1 17 5).toInt) (l6 : (x.1 17 5).toInt ≤ 6) (hS : ∀ a : Nat, a = 22 ∨ a = 23 → S.1 a = (f_X0_draw_6_17 x w).1 a) (s0 : 0 ≤ s.toInt) (s1 : s.toInt < (2 ^ (x.1 17 5).toNatClampNeg : Nat)) : f_X0_milesOf_6 S s = f_X1_milesOf_17 x s w ∧ f_X0_turnBy_6 S s = f_X1_turnOf_17 x s w := by
  have cl := kw_clampI l0
  have cs := kw_clampI s0
  have pw := kc_pow (x.1 17 5).toNatClampNeg (by omega)
  obtain ⟨-, -, -, d4⟩ := kc_draw6 x w l0 l6
  obtain ⟨u1, u2⟩ := d4 s.toNatClampNeg (by omega)
  have q64 : (64 : Int32).toInt = 64 := rfl
  rw [f_X0_milesOf_6_u, f_X0_turnBy_6_u]
  simp only [kf_lx]
  rw [if_neg (show ¬ s.toInt < 0 by omega), if_pos (show s.toInt < (64 : Int32).toInt by omega), if_neg (show ¬ s.toInt < 0 by omega), if_pos (show s.toInt < (64 : Int32).toInt by omega), hS 22 (Or.inl rfl), hS 23 (Or.inr rfl), u1, u2, kc_miles x s w l0 l6 s0 (by omega), kc_turn x s w l0 l6 s0 (by omega)]
  exact ⟨rfl, rfl⟩
