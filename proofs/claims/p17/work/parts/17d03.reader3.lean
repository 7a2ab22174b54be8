theorem kt_N.to {S U S' U' : kw_S} (h : kt_N S U) (h1 : S'.1 16 5 = S.1 16 5) (h2 : U'.1 0 19 = U.1 0 19) (h3 : ∀ b : Nat, 39 ≤ b → b ≤ 42 → S'.1 b = S.1 b) (h4 : U'.1 13 = U.1 13) : kt_N S' U' := by
  refine ⟨by rw [h1, h2]; exact h.1, by rw [h1]; exact h.2.1, by rw [h1]; exact h.2.2.1, fun i hi => ?_⟩
  rw [h1] at hi
  exact (h.2.2.2 i hi).to (by rw [h3 39 (by decide) (by decide)]) (by rw [h3 40 (by decide) (by decide)]) (by rw [h3 41 (by decide) (by decide)]) (by rw [h3 42 (by decide) (by decide)]) (fun c _ => by rw [h4])
set_option maxHeartbeats 2000000 in
theorem kt_loop (a : Int32) : ∀ (n : Nat) (x : Int32) (S U : kw_S) (n' : Nat), kt_B a S U → kt_W S U → kt_N S U → x = S.1 16 5 → (6 - x.toInt).toNat < n → (∀ U1 : kw_S, f_X8_skip_0 U a = U1 → (60 - (U1.1 0 17).toInt).toNat < n') → ∃ (r b : Int32) (S' U' : kw_S), l_X2_faultOf_3_2_79 a n x S = (r, S') ∧ l_X8_readsTown_0_25 a n' (f_X8_skip_0 U a) = (b, U') ∧ (b = 0 ∧ r = U'.1 0 17 ∧ 0 ≤ r.toInt ∨ b = 1 ∧ r = -9 ∧ kt_W S' U' ∧ kt_N S' U' ∧ 1 ≤ (S'.1 16 5).toInt ∧ S'.1 16 6 = S.1 16 6) ∧ kw_F kt_LX S S' ∧ kw_FM kt_LM U U' := by
  intro n
  induction n with
  | zero => intro x S U n' _ _ _ _ h _; exact absurd h (Nat.not_lt_zero _)
  | succ n ih =>
    intro x S U n' hB hW hN hx h1 h2
    have q6 : (6 : Int32).toInt = 6 := rfl
    have hxi := congrArg Int32.toInt hx
    obtain ⟨p, e1, e2, p2, p3⟩ := kt_skipF hB
    have p0 := hB.2.2.2.2.2.1
    have hb := hB.2.2.1 a.toNatClampNeg
    obtain ⟨n1, n2, n3, -⟩ := id hN
    have h2 := h2 _ e2
    cases n' with
    | zero => exact absurd h2 (Nat.not_lt_zero _)
    | succ n' =>
      rw [e2, l_X2_faultOf_3_2_79_s, l_X8_readsTown_0_25_s, if_neg (show ¬ (6 : Int32).toInt < x.toInt by rw [hx]; omega)]
      simp only [kf_lx, kf_bx]
      rw [e1]
      have B5 := kt_Bat hB p (by omega) p3
      have W5 : kt_W (kw_ui S 3 1 p) (kw_ui U 0 17 p) := hW.to (by simp [kp_ui]) (by simp [kp_ui]) (by funext j; simp [kp_ui]) (by funext j; simp [kp_ui])
      have N5 : kt_N (kw_ui S 3 1 p) (kw_ui U 0 17 p) := hN.to (by simp [kp_ui]) (by simp [kp_ui]) (fun b b1 b2 => by funext j; rw [kp_ui, if_neg (by omega)]) (by funext j; simp [kp_ui])
      have FX5 : kw_F kt_LX S (kw_ui S 3 1 p) := kw_F_ui kw_F.rf (by decide)
      have FM5 : kw_FM kt_LM U (kw_ui U 0 17 p) := kw_FM_ui0 kw_FM.rf (by decide)
      have s3 : (kw_ui S 3 1 p).1 3 1 = p := by simp [kp_ui]
      have s16 : (kw_ui S 3 1 p).1 16 = S.1 16 := by funext j; simp [kp_ui]
      have s15 : (kw_ui S 3 1 p).1 15 = S.1 15 := by funext j; simp [kp_ui]
      have u17 : (kw_ui U 0 17 p).1 0 17 = p := by simp [kp_ui]
      have u19 : (kw_ui U 0 17 p).1 0 19 = S.1 16 5 := by rw [n1]; simp [kp_ui]
      rw [u17] at h2
      generalize kw_ui S 3 1 p = S5 at *
      generalize kw_ui U 0 17 p = U5 at *
      have ha := B5.2.1
      have c := kw_clampI ha.1
      have hs5 := B5.2.2.2.1
      have g1 : S5.1 15 a.toNatClampNeg = U5.1 5 a.toNatClampNeg := by
        rcases B5.1.1 a.toNatClampNeg (by omega) with ⟨g, -⟩ | ⟨g, -⟩
        · omega
        · exact g
      rw [kp_size2, if_pos (show 0 ≤ a.toInt ∧ a.toInt < 4 by omega), s3, u17, ← g1, s15, u19]
      by_cases hend : p.toInt < (S.1 15 a.toNatClampNeg).toInt
      · rw [if_pos hend, if_pos hend]
        by_cases hx6 : x.toInt = 6
        · -- a seventh line
          have hm : f_X8_readsLine_0 U5 a = (0, U5) := by
            rw [f_X8_readsLine_0_u]
            simp only [kf_lx]
            rw [u19, ← hx]
            by_cases hk : (f_X8_kindBy U5 (f_X8_here_0 U5 a)).toInt = (-9 : Int32).toInt
            · rw [if_pos hk]
            · rw [if_neg hk, if_pos (by rw [hx6]; rfl)]
          rw [hm, if_pos (show 0 < x.toInt by omega), if_pos (show x.toInt = (6 : Int32).toInt by rw [hx6]; rfl)]
          simp only
          rw [if_pos (show (0 : Int32).toInt = 0 from rfl)]
          exact ⟨p, 0, S5, U5, rfl, rfl, Or.inl ⟨rfl, u17.symm, by omega⟩, FX5, FM5⟩
        · obtain ⟨r, S7, U7, k1, k2, B7, W7, N7, kr, k16, k15, FX7, FM7⟩ := kt_line B5 W5 N5
          rw [k1, k2]
          simp only
          have hne : ¬ x.toInt = (6 : Int32).toInt := hx6
          rw [if_neg hne]
          have fork : ∃ (r_1 b : Int32) (S' U' : kw_S), (if r.toInt = 0 then (S7.1 3 1, S7) else l_X2_faultOf_3_2_79 a n (x + Int32.ofInt 1) S7) = (r_1, S') ∧ (if r.toInt = 0 then ((0 : Int32), U7) else l_X8_readsTown_0_25 a n' (f_X8_skip_0 U7 a)) = (b, U') ∧ (b = 0 ∧ r_1 = U'.1 0 17 ∧ 0 ≤ r_1.toInt ∨ b = 1 ∧ r_1 = -9 ∧ kt_W S' U' ∧ kt_N S' U' ∧ 1 ≤ (S'.1 16 5).toInt ∧ S'.1 16 6 = S.1 16 6) ∧ kw_F kt_LX S S' ∧ kw_FM kt_LM U U' := by
            rcases kr with rfl | ⟨rfl, l7, l6, lp⟩
            · rw [if_pos (show (0 : Int32).toInt = 0 from rfl), if_pos (show (0 : Int32).toInt = 0 from rfl)]
              exact ⟨S7.1 3 1, 0, S7, U7, rfl, rfl, Or.inl ⟨rfl, B7.2.2.2.2.1, B7.2.2.2.2.2.1⟩, FX5.tr FX7 (fun _ h => h), FM5.tr FM7 (fun _ h => h)⟩
            · rw [if_neg (show ¬ (1 : Int32).toInt = 0 by decide), if_neg (show ¬ (1 : Int32).toInt = 0 by decide)]
              rw [s16] at l7 l6 k16
              have z := kp_inc x (by rw [hx]; omega)
              obtain ⟨r1, b1, S8, U8, j1, j2, j3, j4, j5⟩ := ih (x + Int32.ofInt 1) S7 U7 n' B7 W7 N7 (by rw [l7, hx]; rfl) (by omega) (fun U1 hU1 => by
                obtain ⟨p', -, t2, t3, -⟩ := kt_skipF B7
                rw [t2] at hU1
                rw [← hU1, show (kw_ui U7 0 17 p').1 0 17 = p' by simp [kp_ui]]
                rw [s3] at lp
                have := B7.2.2.2.2.2.2
                rw [k15] at this
                omega)
              exact ⟨r1, b1, S8, U8, j1, j2, by rw [← k16]; exact j3, (FX5.tr FX7 (fun _ h => h)).tr j4 (fun _ h => h), (FM5.tr FM7 (fun _ h => h)).tr j5 (fun _ h => h)⟩
          by_cases hx0 : 0 < x.toInt
          · rw [if_pos hx0]; exact fork
          · rw [if_neg hx0]; exact fork
      · rw [if_neg hend, if_neg hend]
        by_cases hx0 : 0 < x.toInt
        · rw [if_pos hx0, if_pos (by rw [← hx]; exact hx0)]
          exact ⟨-9, 1, S5, U5, rfl, rfl, Or.inr ⟨rfl, rfl, W5, N5, by rw [s16, ← hx]; omega, by rw [s16]⟩, FX5, FM5⟩
        · have hl : f_X2_readLine_3_2 S5 a = (0, S5) := by
            rw [f_X2_readLine_3_2_u]
            simp only [kf_lx, kf_bx]
            rcases kt_ch B5 with ⟨q1, -⟩ | ⟨-, q2, -⟩
            · rw [s3, s15] at q1; omega
            · rw [q2, s16, if_neg (show ¬ (S.1 16 5).toInt < 0 by omega), if_pos (show (S.1 16 5).toInt < (6 : Int32).toInt by rw [← hx]; omega), kt_kindOf, if_pos (by decide)]
          rw [if_neg hx0, if_neg (show ¬ 0 < (S.1 16 5).toInt by rw [← hx]; exact hx0), if_neg (show ¬ x.toInt = (6 : Int32).toInt by omega), hl]
          simp only
          rw [if_pos (show (0 : Int32).toInt = 0 from rfl), s3]
          exact ⟨p, 0, S5, U5, rfl, rfl, Or.inl ⟨rfl, u17.symm, by omega⟩, FX5, FM5⟩
theorem kt_x1 (U : kw_S) (a : Int32) : f_X8_readsWinds_0 U a = if (f_X8_here_0 (f_X8_skip_0 U a) a).toInt = (119 : Int32).toInt then l_X8_readsWinds_0_32 a ((9 - (0 : Int32).toInt).toNat + 1) (kw_ui (kw_ui (f_X8_skip_0 U a) 0 17 ((f_X8_skip_0 U a).1 0 17 + 1)) 0 18 0) else (0, f_X8_skip_0 U a) := by
  rw [f_X8_readsWinds_0_u]; simp only [kf_lx]
theorem kt_x2 (m : kw_S) (a : Int32) {r : Int32} {S : kw_S} (h : f_X8_readsWinds_0 (kw_ui (kw_ui m 0 17 0) 0 19 0) a = (r, S)) : f_X8_readsTown_0 m a = if r.toInt = 0 then (0, S) else l_X8_readsTown_0_25 a ((61 - ((f_X8_skip_0 S a).1 0 17).toInt).toNat + 1) (f_X8_skip_0 S a) := by
  rw [f_X8_readsTown_0_u, h]; simp only [kf_lx, kf_bx]
theorem kt_x3 (m : kw_S) (a : Int32) {r : Int32} {S : kw_S} (h : f_X8_readsTown_0 m a = (r, S)) : f_X8_goesOn_0 m a = if r.toInt = 0 then (S.1 0 17, S) else (-9, S) := by
  rw [f_X8_goesOn_0_u, h]; simp only [kf_bx]
theorem kt_x4 (x : kw_S) (a : Int32) {S1 : kw_S} (h : f_X2_skipBlanks_3_2 (kw_ui (kw_ui (kw_ui x 16 5 0) 16 6 0) 3 1 0) a = S1) : f_X2_faultOf_3_2 x a = if (f_X3_valueAt_2 S1 a (S1.1 3 1)).toInt = (119 : Int32).toInt then (if ((f_X2_readWinds_3_2 (kw_ui S1 3 1 (S1.1 3 1 + 1)) a).1 16 6).toInt = 0 then ((f_X2_readWinds_3_2 (kw_ui S1 3 1 (S1.1 3 1 + 1)) a).1 3 1, f_X2_readWinds_3_2 (kw_ui S1 3 1 (S1.1 3 1 + 1)) a) else l_X2_faultOf_3_2_79 a ((8 - (0 : Int32).toInt).toNat + 1) (0 : Int32) (f_X2_readWinds_3_2 (kw_ui S1 3 1 (S1.1 3 1 + 1)) a)) else (S1.1 3 1, S1) := by
  rw [f_X2_faultOf_3_2_u, h]; simp only [kf_lx]
theorem kt_wd {a : Int32} {S U : kw_S} (B0 : kt_B a S U) (f5 : S.1 16 5 = 0) (f6 : S.1 16 6 = 0) (g19 : U.1 0 19 = 0) : ∃ S1 : kw_S, f_X2_skipBlanks_3_2 S a = S1 ∧ (¬ (f_X3_valueAt_2 S1 a (S1.1 3 1)).toInt = (119 : Int32).toInt ∧ (∃ U1 : kw_S, f_X8_readsWinds_0 U a = (0, U1) ∧ S1.1 3 1 = U1.1 0 17 ∧ 0 ≤ (S1.1 3 1).toInt ∧ kw_F kt_LX S S1 ∧ kw_FM kt_LM U U1) ∨ (f_X3_valueAt_2 S1 a (S1.1 3 1)).toInt = (119 : Int32).toInt ∧ ∃ (S4 U4 : kw_S) (r4 : Int32), f_X2_readWinds_3_2 (kw_ui S1 3 1 (S1.1 3 1 + 1)) a = S4 ∧ f_X8_readsWinds_0 U a = (r4, U4) ∧ kt_B a S4 U4 ∧ kt_W S4 U4 ∧ kt_N S4 U4 ∧ S4.1 16 5 = 0 ∧ (0 < (S4.1 16 6).toInt ∧ r4 = 1 ∨ (S4.1 16 6).toInt = 0 ∧ r4 = 0) ∧ kw_F kt_LX S S4 ∧ kw_FM kt_LM U U4) := by
  obtain ⟨p, e1, e2, p2, p3⟩ := kt_skipF B0
  have p0 := B0.2.2.2.2.2.1
  have hb0 := B0.2.2.1 a.toNatClampNeg
  have B1 := kt_Bat B0 p (by omega) p3
  have FX1 : kw_F kt_LX S (kw_ui S 3 1 p) := kw_F_ui kw_F.rf (by decide)
  have FM1 : kw_FM kt_LM U (kw_ui U 0 17 p) := kw_FM_ui0 kw_FM.rf (by decide)
  have s3 : (kw_ui S 3 1 p).1 3 1 = p := by simp [kp_ui]
  have s15 : (kw_ui S 3 1 p).1 15 = S.1 15 := by funext j; simp [kp_ui]
  have u17 : (kw_ui U 0 17 p).1 0 17 = p := by simp [kp_ui]
  have h5 : (kw_ui S 3 1 p).1 16 5 = 0 := by rw [← f5]; simp [kp_ui]
  have h6 : (kw_ui S 3 1 p).1 16 6 = 0 := by rw [← f6]; simp [kp_ui]
  have h19 : (kw_ui U 0 17 p).1 0 19 = 0 := by rw [← g19]; simp [kp_ui]
  refine ⟨_, e1, ?_⟩
  rw [kt_x1, e2]
  generalize kw_ui S 3 1 p = S1 at *
  generalize kw_ui U 0 17 p = U1 at *
  rw [s3, u17]
  rcases kt_ch B1 with ⟨hlt, e⟩ | ⟨hge, d1, d2⟩
  · rw [s3] at e
    rw [s3, s15] at hlt
    rw [e]
    by_cases hw : (f_X8_here_0 U1 a).toInt = (119 : Int32).toInt
    · right
      refine ⟨hw, ?_⟩
      rw [if_pos hw]
      have z := kp_add1 p (by omega)
      have B2 : kt_B a (kw_ui S1 3 1 (p + 1)) (kw_ui (kw_ui U1 0 17 (p + 1)) 0 18 0) := by
        have t3 : (kw_ui S1 3 1 (p + 1)).1 3 1 = p + 1 := by simp [kp_ui]
        refine B1.to (by funext j; simp [kp_ui]) (fun b h1 h2 => by funext j; rw [kp_ui, if_neg (by omega)]) (by funext j; simp [kp_ui]) (by funext j; simp [kp_ui]) (by rw [t3]; simp [kp_ui]) (by rw [t3]; omega) (by rw [t3, s15]; omega)
      have FX2 : kw_F kt_LX S (kw_ui S1 3 1 (p + 1)) := kw_F_ui FX1 (by decide)
      have FM2 : kw_FM kt_LM U (kw_ui (kw_ui U1 0 17 (p + 1)) 0 18 0) := kw_FM_ui0 (kw_FM_ui0 FM1 (by decide)) (by decide)
      have l6 : (kw_ui S1 3 1 (p + 1)).1 16 6 = 0 := by rw [← h6]; simp [kp_ui]
      have l5 : (kw_ui S1 3 1 (p + 1)).1 16 5 = 0 := by rw [← h5]; simp [kp_ui]
      have m19 : (kw_ui (kw_ui U1 0 17 (p + 1)) 0 18 0).1 0 19 = 0 := by rw [← h19]; simp [kp_ui]
      have W2 : kt_W (kw_ui S1 3 1 (p + 1)) (kw_ui (kw_ui U1 0 17 (p + 1)) 0 18 0) := by
        refine ⟨by rw [l6]; simp [kp_ui], by rw [l6]; decide, by rw [l6]; decide, fun j hj => ?_⟩
        rw [l6, kp_q0] at hj
        omega
      rw [f_X2_readWinds_3_2_u]
      obtain ⟨S4, U4, r4, a1, a2, B4, W4, a5, a6, a7, a8, a9⟩ := kt_winds a ((9 - (0 : Int32).toInt).toNat + 1) 0 _ _ ((9 - (0 : Int32).toInt).toNat + 1) B2 W2 l6.symm (by rw [kp_q0]; omega) (by rw [kp_q0]; omega)
      refine ⟨S4, U4, r4, a1, a2, B4, W4, ?_, by rw [a6, l5], a5, FX2.tr a8 (fun _ h => h), FM2.tr a9 (fun _ h => h)⟩
      refine ⟨by rw [a6, a7, l5, m19], by rw [a6, l5]; decide, by rw [a6, l5]; decide, fun i hi => ?_⟩
      rw [a6, l5, kp_q0] at hi
      omega
    · left
      refine ⟨hw, U1, ?_, u17.symm, by omega, FX1, FM1⟩
      rw [if_neg hw]
  · rw [s3] at d1
    rw [d1, d2]
    left
    refine ⟨by decide, U1, ?_, u17.symm, by omega, FX1, FM1⟩
    rw [if_neg (show ¬ (-9 : Int32).toInt = (119 : Int32).toInt by decide)]
theorem kt_none9 (z : Int32) (h0 : 0 ≤ z.toInt) (h1 : z = -9) : False := by rw [h1] at h0; exact absurd h0 (by decide)
theorem kt_fault {a : Int32} {x m : kw_S} (hT : kr_T x m) (ha : 0 ≤ a.toInt ∧ a.toInt ≤ 3) (hb : ∀ j : Nat, -1 ≤ (x.1 15 j).toInt ∧ (x.1 15 j).toInt ≤ 60) (hs : 0 ≤ (x.1 15 a.toNatClampNeg).toInt) : ∃ (r : Int32) (S' U' : kw_S), f_X2_faultOf_3_2 x a = (r, S') ∧ f_X8_goesOn_0 m a = (r, U') ∧ (r = -9 → kt_W S' U' ∧ kt_N S' U' ∧ 1 ≤ (S'.1 16 5).toInt ∧ 1 ≤ (S'.1 16 6).toInt) ∧ kw_F kt_LX x S' ∧ kw_FM kt_LM m U' := by
  have B0 : kt_B a (kw_ui (kw_ui (kw_ui x 16 5 0) 16 6 0) 3 1 0) (kw_ui (kw_ui m 0 17 0) 0 19 0) := by
    have e15 : (kw_ui (kw_ui (kw_ui x 16 5 0) 16 6 0) 3 1 0).1 15 = x.1 15 := by funext j; simp [kp_ui]
    have e3 : (kw_ui (kw_ui (kw_ui x 16 5 0) 16 6 0) 3 1 0).1 3 1 = 0 := by simp [kp_ui]
    refine ⟨hT.cong (fun b hb => by funext j; rw [kp_ui, if_neg (by omega), kp_ui, if_neg (by omega), kp_ui, if_neg (by omega)]) (fun b hb => by funext j; rw [kp_ui, if_neg (by omega), kp_ui, if_neg (by omega)]), ha, by rw [e15]; exact hb, by rw [e15]; exact hs, by rw [e3]; simp [kp_ui], by rw [e3]; decide, by rw [e3, e15]; exact hs⟩
  have FX0 : kw_F kt_LX x (kw_ui (kw_ui (kw_ui x 16 5 0) 16 6 0) 3 1 0) := kw_F_ui (kw_F_ui (kw_F_ui kw_F.rf (by decide)) (by decide)) (by decide)
  have FM0 : kw_FM kt_LM m (kw_ui (kw_ui m 0 17 0) 0 19 0) := kw_FM_ui0 (kw_FM_ui0 kw_FM.rf (by decide)) (by decide)
  have f5 : (kw_ui (kw_ui (kw_ui x 16 5 0) 16 6 0) 3 1 0).1 16 5 = 0 := by simp [kp_ui]
  have f6 : (kw_ui (kw_ui (kw_ui x 16 5 0) 16 6 0) 3 1 0).1 16 6 = 0 := by simp [kp_ui]
  have g19 : (kw_ui (kw_ui m 0 17 0) 0 19 0).1 0 19 = 0 := by simp [kp_ui]
  obtain ⟨S1, e1, hc⟩ := kt_wd B0 f5 f6 g19
  rw [kt_x4 x a e1]
  rcases hc with ⟨hw, U1, w1, w2, w3, w4, w5⟩ | ⟨hw, S4, U4, r4, w1, w2, B4, W4, N4, l5, a5, w4, w5⟩
  · have hRT : f_X8_readsTown_0 m a = (0, U1) := by
      rw [kt_x2 m a w1, if_pos (show (0 : Int32).toInt = 0 from rfl)]
    rw [kt_x3 m a hRT, if_neg hw, if_pos (show (0 : Int32).toInt = 0 from rfl), ← w2]
    exact ⟨S1.1 3 1, S1, U1, rfl, rfl, fun h => (kt_none9 _ w3 h).elim, FX0.tr w4 (fun _ h => h), FM0.tr w5 (fun _ h => h)⟩
  · rw [if_pos hw, w1]
    rcases a5 with ⟨w0, rfl⟩ | ⟨w0, rfl⟩
    · obtain ⟨r, b, S', U', j1, j2, j3, j4, j5⟩ := kt_loop a ((8 - (0 : Int32).toInt).toNat + 1) 0 S4 U4 ((61 - ((f_X8_skip_0 U4 a).1 0 17).toInt).toNat + 1) B4 W4 N4 l5.symm (by rw [kp_q0]; omega) (fun V hV => by rw [hV]; omega)
      have hRT : f_X8_readsTown_0 m a = (b, U') := by
        rw [kt_x2 m a w2, if_neg (show ¬ (1 : Int32).toInt = 0 by decide)]
        exact j2
      rw [kt_x3 m a hRT, if_neg (show ¬ (S4.1 16 6).toInt = 0 by omega), j1]
      have JX := (FX0.tr w4 (fun _ h => h)).tr j4 (fun _ h => h)
      have JM := (FM0.tr w5 (fun _ h => h)).tr j5 (fun _ h => h)
      rcases j3 with ⟨rfl, k2, k3⟩ | ⟨rfl, k2, k3, k4, k5, k6⟩
      · rw [if_pos (show (0 : Int32).toInt = 0 from rfl), ← k2]
        exact ⟨r, S', U', rfl, rfl, fun h => (kt_none9 r k3 h).elim, JX, JM⟩
      · rw [if_neg (show ¬ (1 : Int32).toInt = 0 by decide), k2]
        exact ⟨-9, S', U', rfl, rfl, fun _ => ⟨k3, k4, k5, by rw [k6]; omega⟩, JX, JM⟩
    · have hRT : f_X8_readsTown_0 m a = (0, U4) := by
        rw [kt_x2 m a w2, if_pos (show (0 : Int32).toInt = 0 from rfl)]
      rw [kt_x3 m a hRT, if_pos (show (S4.1 16 6).toInt = 0 from w0), if_pos (show (0 : Int32).toInt = 0 from rfl), ← B4.2.2.2.2.1]
      exact ⟨S4.1 3 1, S4, U4, rfl, rfl, fun h => (kt_none9 _ B4.2.2.2.2.2.1 h).elim, FX0.tr w4 (fun _ h => h), FM0.tr w5 (fun _ h => h)⟩
