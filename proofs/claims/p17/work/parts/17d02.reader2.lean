theorem kt_kindOf (σ : kw_S) (c : Int32) : f_X2_kindOf σ c = if c.toInt = 108 then 0 else if c.toInt = 115 then 1 else if c.toInt = 98 then 2 else if c.toInt = 107 then 3 else if c.toInt = 111 then 4 else if c.toInt = 112 then 5 else -1 := by
  show l_X2_kindOf_2 c σ 8 0 = _
  have q0 : (kw_LT (0 : Int32).toNatClampNeg).toInt = 108 := rfl
  have q1 : (kw_LT ((0 : Int32) + Int32.ofInt 1).toNatClampNeg).toInt = 115 := rfl
  have q2 : (kw_LT ((0 : Int32) + Int32.ofInt 1 + Int32.ofInt 1).toNatClampNeg).toInt = 98 := rfl
  have q3 : (kw_LT ((0 : Int32) + Int32.ofInt 1 + Int32.ofInt 1 + Int32.ofInt 1).toNatClampNeg).toInt = 107 := rfl
  have q4 : (kw_LT ((0 : Int32) + Int32.ofInt 1 + Int32.ofInt 1 + Int32.ofInt 1 + Int32.ofInt 1).toNatClampNeg).toInt = 111 := rfl
  have q5 : (kw_LT ((0 : Int32) + Int32.ofInt 1 + Int32.ofInt 1 + Int32.ofInt 1 + Int32.ofInt 1 + Int32.ofInt 1).toNatClampNeg).toInt = 112 := rfl
  rw [l_X2_kindOf_2_s, if_pos (by decide)]
  simp only [kf_lx]
  rw [q0]
  by_cases h0 : c.toInt = 108
  · rw [if_pos h0.symm, if_pos h0]
  rw [if_neg (fun q => h0 q.symm), if_neg h0, l_X2_kindOf_2_s, if_pos (by decide)]
  simp only [kf_lx]
  rw [q1]
  by_cases h1 : c.toInt = 115
  · rw [if_pos h1.symm, if_pos h1]; rfl
  rw [if_neg (fun q => h1 q.symm), if_neg h1, l_X2_kindOf_2_s, if_pos (by decide)]
  simp only [kf_lx]
  rw [q2]
  by_cases h2 : c.toInt = 98
  · rw [if_pos h2.symm, if_pos h2]; rfl
  rw [if_neg (fun q => h2 q.symm), if_neg h2, l_X2_kindOf_2_s, if_pos (by decide)]
  simp only [kf_lx]
  rw [q3]
  by_cases h3 : c.toInt = 107
  · rw [if_pos h3.symm, if_pos h3]; rfl
  rw [if_neg (fun q => h3 q.symm), if_neg h3, l_X2_kindOf_2_s, if_pos (by decide)]
  simp only [kf_lx]
  rw [q4]
  by_cases h4 : c.toInt = 111
  · rw [if_pos h4.symm, if_pos h4]; rfl
  rw [if_neg (fun q => h4 q.symm), if_neg h4, l_X2_kindOf_2_s, if_pos (by decide)]
  simp only [kf_lx]
  rw [q5]
  by_cases h5 : c.toInt = 112
  · rw [if_pos h5.symm, if_pos h5]; rfl
  rw [if_neg (fun q => h5 q.symm), if_neg h5, l_X2_kindOf_2_s, if_neg (by decide)]
theorem kt_kindBy (σ : kw_S) (c : Int32) : f_X8_kindBy σ c = if c.toInt = 108 then 0 else if c.toInt = 115 then 1 else if c.toInt = 98 then 2 else if c.toInt = 107 then 3 else if c.toInt = 111 then 4 else if c.toInt = 112 then 5 else -9 := rfl
theorem kt_kind (σ τ : kw_S) (c : Int32) : f_X2_kindOf σ c = -1 ∧ f_X8_kindBy τ c = -9 ∨ ∃ k : Int32, f_X2_kindOf σ c = k ∧ f_X8_kindBy τ c = k ∧ 0 ≤ k.toInt ∧ k.toInt ≤ 5 := by
  rw [kt_kindOf, kt_kindBy]
  by_cases h0 : c.toInt = 108
  · rw [if_pos h0, if_pos h0]; exact Or.inr ⟨0, rfl, rfl, by decide, by decide⟩
  rw [if_neg h0, if_neg h0]
  by_cases h1 : c.toInt = 115
  · rw [if_pos h1, if_pos h1]; exact Or.inr ⟨1, rfl, rfl, by decide, by decide⟩
  rw [if_neg h1, if_neg h1]
  by_cases h2 : c.toInt = 98
  · rw [if_pos h2, if_pos h2]; exact Or.inr ⟨2, rfl, rfl, by decide, by decide⟩
  rw [if_neg h2, if_neg h2]
  by_cases h3 : c.toInt = 107
  · rw [if_pos h3, if_pos h3]; exact Or.inr ⟨3, rfl, rfl, by decide, by decide⟩
  rw [if_neg h3, if_neg h3]
  by_cases h4 : c.toInt = 111
  · rw [if_pos h4, if_pos h4]; exact Or.inr ⟨4, rfl, rfl, by decide, by decide⟩
  rw [if_neg h4, if_neg h4]
  by_cases h5 : c.toInt = 112
  · rw [if_pos h5, if_pos h5]; exact Or.inr ⟨5, rfl, rfl, by decide, by decide⟩
  rw [if_neg h5, if_neg h5]
  exact Or.inl ⟨rfl, rfl⟩
def kt_L (S U : kw_S) (i : Nat) : Prop := S.1 39 i = U.1 13 (4 * i) ∧ S.1 40 i = U.1 13 (4 * i + 1) - 4 ∧ S.1 41 i = U.1 13 (4 * i + 2) ∧ S.1 42 i = U.1 13 (4 * i + 3) ∧ (0 ≤ (S.1 39 i).toInt ∧ (S.1 39 i).toInt ≤ 5) ∧ (-4 ≤ (S.1 40 i).toInt ∧ (S.1 40 i).toInt ≤ 4) ∧ (1 ≤ (S.1 41 i).toInt ∧ (S.1 41 i).toInt ≤ 9) ∧ 0 ≤ (S.1 42 i).toInt ∧ (S.1 42 i).toInt ≤ 9
def kt_N (S U : kw_S) : Prop := S.1 16 5 = U.1 0 19 ∧ 0 ≤ (S.1 16 5).toInt ∧ (S.1 16 5).toInt ≤ 6 ∧ ∀ i : Nat, (i : Int) < (S.1 16 5).toInt → kt_L S U i
theorem kt_L.to {S U S' U' : kw_S} {i : Nat} (h : kt_L S U i) (h1 : S'.1 39 i = S.1 39 i) (h2 : S'.1 40 i = S.1 40 i) (h3 : S'.1 41 i = S.1 41 i) (h4 : S'.1 42 i = S.1 42 i) (h5 : ∀ c : Nat, c < 4 → U'.1 13 (4 * i + c) = U.1 13 (4 * i + c)) : kt_L S' U' i := by
  unfold kt_L
  rw [h1, h2, h3, h4, show U'.1 13 (4 * i) = U.1 13 (4 * i) from h5 0 (by decide), h5 1 (by decide), h5 2 (by decide), h5 3 (by decide)]
  exact h
/-- what a line that is being read may change -/
def kt_P (S U S' U' : kw_S) (l : Nat) : Prop := S'.1 15 = S.1 15 ∧ (∀ b : Nat, 35 ≤ b → b < 39 → S'.1 b = S.1 b) ∧ S'.1 16 = S.1 16 ∧ S'.1 43 = S.1 43 ∧ (∀ b j : Nat, 39 ≤ b → b ≤ 42 → j ≠ l → S'.1 b j = S.1 b j) ∧ U'.1 5 = U.1 5 ∧ U'.1 6 = U.1 6 ∧ U'.1 12 = U.1 12 ∧ U'.1 0 18 = U.1 0 18 ∧ U'.1 0 19 = U.1 0 19 ∧ ∀ j : Nat, j < 4 * l ∨ 4 * l + 3 < j → U'.1 13 j = U.1 13 j
theorem kt_P.N {S U S' U' : kw_S} {l : Nat} (h : kt_P S U S' U' l) (hN : kt_N S U) (hl : (l : Int) = (S.1 16 5).toInt) : kt_N S' U' := by
  obtain ⟨-, -, h16, -, hj, -, -, -, -, h19, h13⟩ := h
  obtain ⟨n1, n2, n3, n4⟩ := hN
  refine ⟨by rw [h16, h19]; exact n1, by rw [h16]; exact n2, by rw [h16]; exact n3, fun i hi => ?_⟩
  rw [h16] at hi
  exact (n4 i hi).to (hj 39 i (by decide) (by decide) (by omega)) (hj 40 i (by decide) (by decide) (by omega)) (hj 41 i (by decide) (by decide) (by omega)) (hj 42 i (by decide) (by decide) (by omega)) (fun c hc => h13 _ (by omega))
theorem kt_P.W {S U S' U' : kw_S} {l : Nat} (h : kt_P S U S' U' l) (hW : kt_W S U) : kt_W S' U' :=
  hW.to (by rw [h.2.2.1]) h.2.2.2.2.2.2.2.2.1 h.2.2.2.1 h.2.2.2.2.2.2.2.1
theorem kt_P.B {a : Int32} {S U S' U' : kw_S} {l : Nat} (h : kt_P S U S' U' l) (hB : kt_B a S U) (hp : S'.1 3 1 = U'.1 0 17) (p0 : 0 ≤ (S'.1 3 1).toInt) (p1 : (S'.1 3 1).toInt ≤ (S.1 15 a.toNatClampNeg).toInt) : kt_B a S' U' :=
  hB.to h.1 h.2.1 h.2.2.2.2.2.1 h.2.2.2.2.2.2.1 hp p0 p1
theorem kt_idx4 (l : Int32) (h0 : 0 ≤ l.toInt) (h1 : l.toInt ≤ 6) : ((4 : Int32) * l).toNatClampNeg = 4 * l.toNatClampNeg ∧ ((4 : Int32) * l + 1).toNatClampNeg = 4 * l.toNatClampNeg + 1 ∧ ((4 : Int32) * l + 2).toNatClampNeg = 4 * l.toNatClampNeg + 2 ∧ ((4 : Int32) * l + 3).toNatClampNeg = 4 * l.toNatClampNeg + 3 := by
  refine ⟨?_, kp_idx 4 4 l 1 rfl (by decide) h0 (by omega) (by decide) (by decide), kp_idx 4 4 l 2 rfl (by decide) h0 (by omega) (by decide) (by decide), kp_idx 4 4 l 3 rfl (by decide) h0 (by omega) (by decide) (by decide)⟩
  have := kp_idx 4 4 l 0 rfl (by decide) h0 (by omega) (by decide) (by decide)
  rw [show (4 : Int32) * l + 0 = 4 * l from Int32.add_zero _] at this
  rw [this]; rfl
set_option maxHeartbeats 2000000 in
theorem kt_line {a : Int32} {S U : kw_S} (hB : kt_B a S U) (hW : kt_W S U) (hN : kt_N S U) : ∃ (r : Int32) (S' U' : kw_S), f_X2_readLine_3_2 S a = (r, S') ∧ f_X8_readsLine_0 U a = (r, U') ∧ kt_B a S' U' ∧ kt_W S' U' ∧ kt_N S' U' ∧ (r = 0 ∨ r = 1 ∧ S'.1 16 5 = S.1 16 5 + 1 ∧ (S.1 16 5).toInt < 6 ∧ (S.1 3 1).toInt < (S'.1 3 1).toInt) ∧ S'.1 16 6 = S.1 16 6 ∧ S'.1 15 = S.1 15 ∧ kw_F kt_LX S S' ∧ kw_FM kt_LM U U' := by
  have hp := hB.2.2.2.2.1
  have p0 := hB.2.2.2.2.2.1
  have p1 := hB.2.2.2.2.2.2
  have hb := hB.2.2.1 a.toNatClampNeg
  obtain ⟨n1, n2, n3, n4⟩ := id hN
  have cl := kw_clampI n2
  have q6 : (6 : Int32).toInt = 6 := rfl
  have stay : ∃ (r : Int32) (S' U' : kw_S), ((0 : Int32), S) = (r, S') ∧ ((0 : Int32), U) = (r, U') ∧ kt_B a S' U' ∧ kt_W S' U' ∧ kt_N S' U' ∧ (r = 0 ∨ r = 1 ∧ S'.1 16 5 = S.1 16 5 + 1 ∧ (S.1 16 5).toInt < 6 ∧ (S.1 3 1).toInt < (S'.1 3 1).toInt) ∧ S'.1 16 6 = S.1 16 6 ∧ S'.1 15 = S.1 15 ∧ kw_F kt_LX S S' ∧ kw_FM kt_LM U U' := ⟨0, S, U, rfl, rfl, hB, hW, hN, Or.inl rfl, rfl, rfl, kw_F.rf, kw_FM.rf⟩
  rw [f_X2_readLine_3_2_u, f_X8_readsLine_0_u]
  simp only [kf_lx, kf_bx]
  rw [if_neg (show ¬ (S.1 16 5).toInt < 0 by omega)]
  by_cases h6 : (S.1 16 5).toInt < 6
  · rw [if_pos (show (S.1 16 5).toInt < (6 : Int32).toInt from h6), if_neg (show ¬ (U.1 0 19).toInt = (6 : Int32).toInt by rw [← n1]; omega)]
    rcases kt_ch hB with ⟨hlt, e⟩ | ⟨hge, e1, e2⟩
    · rw [e]
      rcases kt_kind S U (f_X8_here_0 U a) with ⟨k1, k2⟩ | ⟨k, k1, k2, k3, k4⟩
      · rw [k1, k2, if_pos (by decide), if_pos (by decide)]
        exact stay
      · rw [k1, k2, if_neg (show ¬ k.toInt < 0 by omega), if_neg (show ¬ k.toInt = (-9 : Int32).toInt by have : (-9 : Int32).toInt = -9 := rfl; omega), ← n1, ← hp]
        have z1 := kp_add1 (S.1 3 1) (by omega)
        obtain ⟨i0, i1, i2, i3⟩ := kt_idx4 (S.1 16 5) n2 n3
        rw [i0]
        generalize hl : (S.1 16 5).toNatClampNeg = l at *
        -- behind the letter
        generalize hS1 : kw_ui (kw_ui S 3 1 (S.1 3 1 + 1)) 39 l k = S1
        generalize hU1 : kw_ui (kw_ui U 13 (4 * l) k) 0 17 (S.1 3 1 + 1) = U1
        have s1p : S1.1 3 1 = S.1 3 1 + 1 := by rw [← hS1]; simp [kp_ui]
        have P1 : kt_P S U S1 U1 l := by
          rw [← hS1, ← hU1]
          refine ⟨by funext j; simp [kp_ui], fun b h1 h2 => by funext j; rw [kp_ui, if_neg (by omega), kp_ui, if_neg (by omega)], by funext j; simp [kp_ui], by funext j; simp [kp_ui], fun b j h1 h2 h3 => by rw [kp_ui, if_neg (by omega), kp_ui, if_neg (by omega)], by funext j; simp [kp_ui], by funext j; simp [kp_ui], by funext j; simp [kp_ui], by simp [kp_ui], by simp [kp_ui], fun j hj => by rw [kp_ui, if_neg (by omega), kp_ui, if_neg (by omega)]⟩
        have B1 : kt_B a S1 U1 := P1.B hB (by rw [s1p, ← hU1]; simp [kp_ui]) (by rw [s1p]; omega) (by rw [s1p]; omega)
        have FX1 : kw_F kt_LX S S1 := by rw [← hS1]; exact kw_F_ui (kw_F_ui kw_F.rf (by decide)) (by decide)
        have FM1 : kw_FM kt_LM U U1 := by rw [← hU1]; exact kw_FM_ui0 (kw_FM_ui kw_FM.rf (by decide) (by decide)) (by decide)
        have v39 : S1.1 39 l = k := by rw [← hS1]; simp [kp_ui]
        have v130 : U1.1 13 (4 * l) = k := by rw [← hU1]; simp [kp_ui]
        have e15 := P1.1
        rcases kt_fig B1 (4 * S.1 16 5 + 1) 0 8 (by decide) (by decide) with ⟨f1, f2⟩ | ⟨v, v1, v2, vlt, f1, f2⟩
        · rw [f1, f2]
          simp only
          have e5 : (kw_ui S1 40 l (-1 - 4)).1 40 l = -5 := by rw [kp_ui]; simp
          rw [e5, if_pos (by decide), if_pos (by decide)]
          have P2 : kt_P S U (kw_ui S1 40 l (-1 - 4)) U1 l := by
            obtain ⟨x1, x2, x3, x4, x5, x6⟩ := P1
            refine ⟨by rw [← x1]; funext j; simp [kp_ui], fun b h1 h2 => by rw [← x2 b h1 h2]; funext j; rw [kp_ui, if_neg (by omega)], by rw [← x3]; funext j; simp [kp_ui], by rw [← x4]; funext j; simp [kp_ui], fun b j h1 h2 h3 => by rw [← x5 b j h1 h2 h3, kp_ui, if_neg (by omega)], x6⟩
          have s2p : (kw_ui S1 40 l (-1 - 4)).1 3 1 = S1.1 3 1 := by simp [kp_ui]
          exact ⟨0, _, _, rfl, rfl, P2.B hB (by rw [s2p]; exact B1.2.2.2.2.1) (by rw [s2p, s1p]; omega) (by rw [s2p, s1p]; omega), P2.W hW, P2.N hN (by rw [← cl]), Or.inl rfl, by rw [P2.2.2.1], P2.1, kw_F_ui FX1 (by decide), FM1⟩
        · rw [f1, f2]
          simp only
          have v1' : 0 ≤ v.toInt := v1
          have v2' : v.toInt ≤ 8 := v2
          have z2 := kp_add1 (S1.1 3 1) (by rw [s1p]; omega)
          have zv : (v - 4).toInt = v.toInt - 4 := by rw [kw_subI, show (4 : Int32).toInt = 4 from rfl]; omega
          rw [e15] at vlt
          rw [i1, if_neg (show ¬ (1 : Int32).toInt = 0 by decide)]
          have e5 : (kw_ui (kw_ui S1 3 1 (S1.1 3 1 + 1)) 40 l (v - 4)).1 40 l = v - 4 := by rw [kp_ui]; simp
          rw [e5, if_neg (show ¬ (v - 4).toInt < (-4 : Int32).toInt by rw [zv, show (-4 : Int32).toInt = -4 from rfl]; omega)]
          generalize hS2 : kw_ui (kw_ui S1 3 1 (S1.1 3 1 + 1)) 40 l (v - 4) = S2
          generalize hU2 : kw_ui (kw_ui U1 13 (4 * l + 1) v) 0 17 (S1.1 3 1 + 1) = U2
          have s2p : S2.1 3 1 = S1.1 3 1 + 1 := by rw [← hS2]; simp [kp_ui]
          have P2 : kt_P S U S2 U2 l := by
            obtain ⟨x1, x2, x3, x4, x5, x6, x7, x8, x9, x10, x11⟩ := P1
            rw [← hS2, ← hU2]
            refine ⟨by rw [← x1]; funext j; simp [kp_ui], fun b h1 h2 => by rw [← x2 b h1 h2]; funext j; rw [kp_ui, if_neg (by omega), kp_ui, if_neg (by omega)], by rw [← x3]; funext j; simp [kp_ui], by rw [← x4]; funext j; simp [kp_ui], fun b j h1 h2 h3 => by rw [← x5 b j h1 h2 h3, kp_ui, if_neg (by omega), kp_ui, if_neg (by omega)], by rw [← x6]; funext j; simp [kp_ui], by rw [← x7]; funext j; simp [kp_ui], by rw [← x8]; funext j; simp [kp_ui], by rw [← x9]; simp [kp_ui], by rw [← x10]; simp [kp_ui], fun j hj => by rw [← x11 j hj, kp_ui, if_neg (by omega), kp_ui, if_neg (by omega)]⟩
          have B2 : kt_B a S2 U2 := P2.B hB (by rw [s2p, ← hU2]; simp [kp_ui]) (by rw [s2p, z2, s1p]; omega) (by rw [s2p]; omega)
          have FX2 : kw_F kt_LX S S2 := by rw [← hS2]; exact kw_F_ui (kw_F_ui FX1 (by decide)) (by decide)
          have FM2 : kw_FM kt_LM U U2 := by rw [← hU2]; exact kw_FM_ui0 (kw_FM_ui FM1 (by decide) (by decide)) (by decide)
          have w39 : S2.1 39 l = k := by rw [← hS2]; simp [kp_ui, v39]
          have w40 : S2.1 40 l = v - 4 := by rw [← hS2]; simp [kp_ui]
          have w130 : U2.1 13 (4 * l) = k := by rw [← hU2]; simp [kp_ui, v130]
          have w131 : U2.1 13 (4 * l + 1) = v := by rw [← hU2]; simp [kp_ui]
          have e15b := P2.1
          rcases kt_fig B2 (4 * S.1 16 5 + 2) 1 9 (by decide) (by decide) with ⟨f1, f2⟩ | ⟨u, u1, u2, ult, f1, f2⟩
          · rw [f1, f2]
            simp only
            have e6 : (kw_ui S2 41 l (-1)).1 41 l = -1 := by rw [kp_ui]; simp
            rw [e6, if_pos (by decide), if_pos (by decide)]
            have P3 : kt_P S U (kw_ui S2 41 l (-1)) U2 l := by
              obtain ⟨x1, x2, x3, x4, x5, x6⟩ := P2
              refine ⟨by rw [← x1]; funext j; simp [kp_ui], fun b h1 h2 => by rw [← x2 b h1 h2]; funext j; rw [kp_ui, if_neg (by omega)], by rw [← x3]; funext j; simp [kp_ui], by rw [← x4]; funext j; simp [kp_ui], fun b j h1 h2 h3 => by rw [← x5 b j h1 h2 h3, kp_ui, if_neg (by omega)], x6⟩
            have s3p : (kw_ui S2 41 l (-1)).1 3 1 = S2.1 3 1 := by simp [kp_ui]
            exact ⟨0, _, _, rfl, rfl, P3.B hB (by rw [s3p]; exact B2.2.2.2.2.1) (by rw [s3p]; exact B2.2.2.2.2.2.1) (by rw [s3p, s2p]; omega), P3.W hW, P3.N hN (by rw [← cl]), Or.inl rfl, by rw [P3.2.2.1], P3.1, kw_F_ui FX2 (by decide), FM2⟩
          · rw [f1, f2]
            simp only
            have u1' : 1 ≤ u.toInt := u1
            have u2' : u.toInt ≤ 9 := u2
            have z3 := kp_add1 (S2.1 3 1) (by rw [s2p, z2, s1p]; omega)
            rw [e15b] at ult
            rw [i2, if_neg (show ¬ (1 : Int32).toInt = 0 by decide)]
            have e6 : (kw_ui (kw_ui S2 3 1 (S2.1 3 1 + 1)) 41 l u).1 41 l = u := by rw [kp_ui]; simp
            rw [e6, if_neg (show ¬ u.toInt < 0 by omega)]
            generalize hS3 : kw_ui (kw_ui S2 3 1 (S2.1 3 1 + 1)) 41 l u = S3
            generalize hU3 : kw_ui (kw_ui U2 13 (4 * l + 2) u) 0 17 (S2.1 3 1 + 1) = U3
            have s3p : S3.1 3 1 = S2.1 3 1 + 1 := by rw [← hS3]; simp [kp_ui]
            have P3 : kt_P S U S3 U3 l := by
              obtain ⟨x1, x2, x3, x4, x5, x6, x7, x8, x9, x10, x11⟩ := P2
              rw [← hS3, ← hU3]
              refine ⟨by rw [← x1]; funext j; simp [kp_ui], fun b h1 h2 => by rw [← x2 b h1 h2]; funext j; rw [kp_ui, if_neg (by omega), kp_ui, if_neg (by omega)], by rw [← x3]; funext j; simp [kp_ui], by rw [← x4]; funext j; simp [kp_ui], fun b j h1 h2 h3 => by rw [← x5 b j h1 h2 h3, kp_ui, if_neg (by omega), kp_ui, if_neg (by omega)], by rw [← x6]; funext j; simp [kp_ui], by rw [← x7]; funext j; simp [kp_ui], by rw [← x8]; funext j; simp [kp_ui], by rw [← x9]; simp [kp_ui], by rw [← x10]; simp [kp_ui], fun j hj => by rw [← x11 j hj, kp_ui, if_neg (by omega), kp_ui, if_neg (by omega)]⟩
            have B3 : kt_B a S3 U3 := P3.B hB (by rw [s3p, ← hU3]; simp [kp_ui]) (by rw [s3p, z3, s2p, z2, s1p]; omega) (by rw [s3p]; omega)
            have FX3 : kw_F kt_LX S S3 := by rw [← hS3]; exact kw_F_ui (kw_F_ui FX2 (by decide)) (by decide)
            have FM3 : kw_FM kt_LM U U3 := by rw [← hU3]; exact kw_FM_ui0 (kw_FM_ui FM2 (by decide) (by decide)) (by decide)
            have y39 : S3.1 39 l = k := by rw [← hS3]; simp [kp_ui, w39]
            have y40 : S3.1 40 l = v - 4 := by rw [← hS3]; simp [kp_ui, w40]
            have y41 : S3.1 41 l = u := by rw [← hS3]; simp [kp_ui]
            have y130 : U3.1 13 (4 * l) = k := by rw [← hU3]; simp [kp_ui, w130]
            have y131 : U3.1 13 (4 * l + 1) = v := by rw [← hU3]; simp [kp_ui, w131]
            have y132 : U3.1 13 (4 * l + 2) = u := by rw [← hU3]; simp [kp_ui]
            have e15c := P3.1
            rcases kt_fig B3 (4 * S.1 16 5 + 3) 0 9 (by decide) (by decide) with ⟨f1, f2⟩ | ⟨t, t1, t2, tlt, f1, f2⟩
            · rw [f1, f2]
              simp only
              have e7 : (kw_ui S3 42 l (-1)).1 42 l = -1 := by rw [kp_ui]; simp
              rw [e7, if_pos (by decide), if_pos (by decide)]
              have P4 : kt_P S U (kw_ui S3 42 l (-1)) U3 l := by
                obtain ⟨x1, x2, x3, x4, x5, x6⟩ := P3
                refine ⟨by rw [← x1]; funext j; simp [kp_ui], fun b h1 h2 => by rw [← x2 b h1 h2]; funext j; rw [kp_ui, if_neg (by omega)], by rw [← x3]; funext j; simp [kp_ui], by rw [← x4]; funext j; simp [kp_ui], fun b j h1 h2 h3 => by rw [← x5 b j h1 h2 h3, kp_ui, if_neg (by omega)], x6⟩
              have s4p : (kw_ui S3 42 l (-1)).1 3 1 = S3.1 3 1 := by simp [kp_ui]
              exact ⟨0, _, _, rfl, rfl, P4.B hB (by rw [s4p]; exact B3.2.2.2.2.1) (by rw [s4p]; exact B3.2.2.2.2.2.1) (by rw [s4p, s3p]; omega), P4.W hW, P4.N hN (by rw [← cl]), Or.inl rfl, by rw [P4.2.2.1], P4.1, kw_F_ui FX3 (by decide), FM3⟩
            · rw [f1, f2]
              simp only
              have t1' : 0 ≤ t.toInt := t1
              have t2' : t.toInt ≤ 9 := t2
              have z4 := kp_add1 (S3.1 3 1) (by rw [s3p, z3, s2p, z2, s1p]; omega)
              have z5 := kp_add1 (S.1 16 5) (by omega)
              rw [e15c] at tlt
              rw [i3, if_neg (show ¬ (1 : Int32).toInt = 0 by decide)]
              have e7 : (kw_ui (kw_ui S3 3 1 (S3.1 3 1 + 1)) 42 l t).1 42 l = t := by rw [kp_ui]; simp
              rw [e7, if_neg (show ¬ t.toInt < 0 by omega)]
              have e19 : (kw_ui (kw_ui U3 13 (4 * l + 3) t) 0 17 (S3.1 3 1 + 1)).1 0 19 = S.1 16 5 := by rw [n1, ← P3.2.2.2.2.2.2.2.2.2.1]; simp [kp_ui]
              rw [e19]
              generalize hS4 : kw_ui (kw_ui (kw_ui S3 3 1 (S3.1 3 1 + 1)) 42 l t) 16 5 (S.1 16 5 + 1) = S4
              generalize hU4 : kw_ui (kw_ui (kw_ui U3 13 (4 * l + 3) t) 0 17 (S3.1 3 1 + 1)) 0 19 (S.1 16 5 + 1) = U4
              have s4p : S4.1 3 1 = S3.1 3 1 + 1 := by rw [← hS4]; simp [kp_ui]
              obtain ⟨x1, x2, x3, x4, x5, x6, x7, x8, x9, x10, x11⟩ := P3
              have l4 : S4.1 16 5 = S.1 16 5 + 1 := by rw [← hS4]; simp [kp_ui]
              have B4 : kt_B a S4 U4 := by
                refine hB.to (by rw [← hS4, ← x1]; funext j; simp [kp_ui]) (fun b h1 h2 => by rw [← x2 b h1 h2, ← hS4]; funext j; rw [kp_ui, if_neg (by omega), kp_ui, if_neg (by omega), kp_ui, if_neg (by omega)]) (by rw [← x6, ← hU4]; funext j; simp [kp_ui]) (by rw [← x7, ← hU4]; funext j; simp [kp_ui]) (by rw [s4p, ← hU4]; simp [kp_ui]) (by rw [s4p, z4, s3p, z3, s2p, z2, s1p]; omega) (by rw [s4p]; omega)
              have W4 : kt_W S4 U4 := hW.to (by rw [← hS4, ← x3]; simp [kp_ui]) (by rw [← hU4, ← x9]; simp [kp_ui]) (by rw [← hS4, ← x4]; funext j; simp [kp_ui]) (by rw [← hU4, ← x8]; funext j; simp [kp_ui])
              have N4 : kt_N S4 U4 := by
                refine ⟨by rw [l4, ← hU4]; simp [kp_ui], by rw [l4]; omega, by rw [l4]; omega, fun i hi => ?_⟩
                rw [l4, z5] at hi
                by_cases hil : i = l
                · subst hil
                  have o39 : S4.1 39 i = k := by rw [← hS4]; simp [kp_ui, y39]
                  have o40 : S4.1 40 i = v - 4 := by rw [← hS4]; simp [kp_ui, y40]
                  have o41 : S4.1 41 i = u := by rw [← hS4]; simp [kp_ui, y41]
                  have o42 : S4.1 42 i = t := by rw [← hS4]; simp [kp_ui]
                  refine ⟨?_, ?_, ?_, ?_, ?_, ?_, ?_, ?_⟩
                  · rw [o39, ← hU4]; simp [kp_ui, y130]
                  · rw [o40, ← hU4]; simp [kp_ui, y131]
                  · rw [o41, ← hU4]; simp [kp_ui, y132]
                  · rw [o42, ← hU4]; simp [kp_ui]
                  · rw [o39]; exact ⟨k3, k4⟩
                  · rw [o40, zv]; omega
                  · rw [o41]; exact ⟨u1', u2'⟩
                  · rw [o42]; exact ⟨t1', t2'⟩
                · refine (n4 i (by omega)).to ?_ ?_ ?_ ?_ (fun c hc => ?_)
                  · rw [← x5 39 i (by decide) (by decide) hil, ← hS4]; simp [kp_ui]
                  · rw [← x5 40 i (by decide) (by decide) hil, ← hS4]; simp [kp_ui]
                  · rw [← x5 41 i (by decide) (by decide) hil, ← hS4]; simp [kp_ui]
                  · rw [← x5 42 i (by decide) (by decide) hil, ← hS4]; simp [kp_ui, hil]
                  · rw [← x11 (4 * i + c) (by omega), ← hU4, kp_ui, if_neg (by omega), kp_ui, if_neg (by omega), kp_ui, if_neg (by omega)]
              exact ⟨1, S4, U4, rfl, rfl, B4, W4, N4, Or.inr ⟨rfl, l4, h6, by rw [s4p, z4, s3p, z3, s2p, z2, s1p]; omega⟩, by rw [← hS4, ← x3]; simp [kp_ui], by rw [← hS4, ← x1]; funext j; simp [kp_ui], by rw [← hS4]; exact kw_F_ui (kw_F_ui (kw_F_ui FX3 (by decide)) (by decide)) (by decide), by rw [← hU4]; exact kw_FM_ui0 (kw_FM_ui0 (kw_FM_ui FM3 (by decide) (by decide)) (by decide)) (by decide)⟩
    · have d1 : f_X2_kindOf S 1000 = -1 := by rw [kt_kindOf]; rfl
      have d2 : f_X8_kindBy U (-9) = -9 := rfl
      rw [e1, e2, d1, d2, if_pos (by decide), if_pos (by decide)]
      exact stay
  · rw [if_neg (show ¬ (S.1 16 5).toInt < (6 : Int32).toInt from h6), if_pos (show (U.1 0 19).toInt = (6 : Int32).toInt by rw [← n1]; omega)]
    by_cases hk : (f_X8_kindBy U (f_X8_here_0 U a)).toInt = (-9 : Int32).toInt
    · rw [if_pos hk]; exact stay
    · rw [if_neg hk]; exact stay
