/-! ===== plans: refused alike; sail, dry ===== -/
theorem kq_setIn {x m : kw_S} (hL : kr_L x m) (v : Int32) (h : ¬ (f_X1_hasSet_17 x v).toInt = 0) : 0 ≤ v.toInt ∧ v.toInt ≤ 63 := by
  have l2 := hL.2.1
  have cl := kw_clampI l2.1
  have pw := kc_pow (x.1 17 5).toNatClampNeg (by omega)
  have p1 := kc_pow1 (x.1 17 5) l2.1 l2.2
  rw [f_X1_hasSet_17_u, f_X1_allLines_17_u] at h
  simp only [kf_lx] at h
  have e : (((1 : Int32) <<< (x.1 17 5 &&& 31)) - 1).toInt = ((1 : Int32) <<< (x.1 17 5 &&& 31)).toInt - 1 := by rw [kw_subI, kp_q1]; omega
  by_cases h0 : v.toInt < 0
  · rw [if_pos h0] at h
    exact absurd rfl h
  · rw [if_neg h0] at h
    by_cases h1 : (((1 : Int32) <<< (x.1 17 5 &&& 31)) - 1).toInt < v.toInt
    · rw [if_pos h1] at h
      exact absurd rfl h
    · omega
theorem kq_val {x m : kw_S} (hb : ∀ j : Nat, -1 ≤ (x.1 13 j).toInt ∧ (x.1 13 j).toInt ≤ 40) (hW : kr_W x m) (a i : Int32) (a0 : 0 ≤ a.toInt) (a6 : a.toInt < 6) (i0 : 0 ≤ i.toInt) (i1 : i.toInt < (x.1 13 a.toNatClampNeg).toInt) : f_X3_valueAt_1 x a i = x.1 (29 + a.toNatClampNeg) i.toNatClampNeg ∧ f_X8_rowAt_0 m a i = x.1 (29 + a.toNatClampNeg) i.toNatClampNeg := by
  have ca := kw_clampI a0
  have ci := kw_clampI i0
  have hb := hb a.toNatClampNeg
  refine ⟨?_, ?_⟩
  · rw [kp_value1 x (by assumption), if_pos ⟨a0, a6, i0, i1⟩]
  · rw [kp_rowAt m a i a0 (by omega) i0 (by omega), ← hW.2 a.toNatClampNeg i.toNatClampNeg (by omega) (by omega)]
theorem kr_plan {x m : kw_S} (hX : kw_I bX x) (hL : kr_L x m) (hW : kr_W x m) (a : Int32) : (∃ f : Int32, 1 ≤ f.toInt ∧ f.toInt ≤ 5 ∧ f_X7_planRefusal_0 x a = f_X4_refuse_8 x f ∧ f_X8_askedPlan_0 m a = f_X8_meet_0 m f) ∨ (∃ b : Int32, b.toInt < 0 ∧ f_X7_planRefusal_0 x a = (b, x) ∧ f_X8_askedPlan_0 m a = (b, m)) ∨ (f_X7_planRefusal_0 x a = (0, x) ∧ f_X8_askedPlan_0 m a = (0, m) ∧ 0 ≤ a.toInt ∧ a.toInt < 6 ∧ 0 ≤ (x.1 13 a.toNatClampNeg).toInt ∧ (x.1 13 a.toNatClampNeg).toInt ≤ 6 ∧ m.1 2 a.toNatClampNeg = x.1 13 a.toNatClampNeg ∧ ∀ k : Nat, (k : Int) < (x.1 13 a.toNatClampNeg).toInt → 0 ≤ (x.1 (29 + a.toNatClampNeg) k).toInt ∧ (x.1 (29 + a.toNatClampNeg) k).toInt ≤ 63) := by
  have l2 := hL.2.1
  have hb : ∀ j : Nat, -1 ≤ (x.1 13 j).toInt ∧ (x.1 13 j).toInt ≤ 40 := fun j => hX 13 j
  have h10 : ¬ (1 : Int32).toInt = 0 := by decide
  have h00 : (0 : Int32).toInt = 0 := rfl
  have q6 : (6 : Int32).toInt = 6 := rfl
  rw [f_X7_planRefusal_0_u, f_X8_askedPlan_0_u, f_X5_isEmpty_4_u, ← hL.1]
  simp only [kf_lx, kf_bx, kp_has1, kp_isRow, kp_miss1, kp_size1]
  by_cases ha : 0 ≤ a.toInt ∧ a.toInt < 6
  · have ha5 : 0 ≤ a.toInt ∧ a.toInt ≤ 5 := by omega
    simp only [if_pos ha, if_pos ha5, if_neg h10]
    by_cases h0 : (x.1 17 5).toInt < (1 : Int32).toInt
    · have h0' : (x.1 17 5).toInt < 1 := h0
      simp only [if_pos h0, if_neg h10, if_pos (show (x.1 17 5).toInt = 0 by omega)]
      exact Or.inr (Or.inl ⟨-4, by decide, rfl, rfl⟩)
    · have h0' : ¬ (x.1 17 5).toInt < 1 := h0
      simp only [if_neg h0, if_pos h00, if_neg (show ¬ (x.1 17 5).toInt = 0 by omega)]
      have ca := kw_clampI ha.1
      rcases hW.1 a.toNatClampNeg (by omega) with ⟨g1, g2⟩ | ⟨g1, g2⟩
      · simp only [if_neg (show ¬ (0 ≤ a.toInt ∧ a.toInt < 6 ∧ 0 ≤ (x.1 13 a.toNatClampNeg).toInt) by omega), if_neg h10, if_pos g2]
        exact Or.inl ⟨1, by decide, by decide, rfl, rfl⟩
      · have g3 : ¬ (m.1 2 a.toNatClampNeg).toInt < 0 := by rw [← g1]; omega
        simp only [if_pos (show 0 ≤ a.toInt ∧ a.toInt < 6 ∧ 0 ≤ (x.1 13 a.toNatClampNeg).toInt by omega), if_pos h00, if_neg g3]
        by_cases hs : (6 : Int32).toInt < (x.1 13 a.toNatClampNeg).toInt
        · simp only [if_pos hs, if_pos (show (6 : Int32).toInt < (m.1 2 a.toNatClampNeg).toInt by rw [← g1]; exact hs)]
          exact Or.inl ⟨5, by decide, by decide, rfl, rfl⟩
        · have hs' : (x.1 13 a.toNatClampNeg).toInt ≤ 6 := by omega
          simp only [if_neg hs, if_neg (show ¬ (6 : Int32).toInt < (m.1 2 a.toNatClampNeg).toInt by rw [← g1]; exact hs)]
          have L : ∀ (n n' : Nat) (i : Int32), 0 ≤ i.toInt → i.toInt ≤ (x.1 13 a.toNatClampNeg).toInt → (7 - i.toInt).toNat < n → (7 - i.toInt).toNat < n' → (∀ k : Nat, (k : Int) < i.toInt → 0 ≤ (x.1 (29 + a.toNatClampNeg) k).toInt ∧ (x.1 (29 + a.toNatClampNeg) k).toInt ≤ 63) → (l_X7_planRefusal_0_70 a x n i = f_X4_refuse_8 x 3 ∧ l_X8_askedPlan_0_53 a m n' i = f_X8_meet_0 m 3) ∨ (l_X7_planRefusal_0_70 a x n i = (0, x) ∧ l_X8_askedPlan_0_53 a m n' i = (0, m) ∧ ∀ k : Nat, (k : Int) < (x.1 13 a.toNatClampNeg).toInt → 0 ≤ (x.1 (29 + a.toNatClampNeg) k).toInt ∧ (x.1 (29 + a.toNatClampNeg) k).toInt ≤ 63) := by
            intro n
            induction n with
            | zero => intro n' i _ _ h _ _; exact absurd h (Nat.not_lt_zero _)
            | succ n ih =>
              intro n' i i0 i1 f1 f2 hv
              cases n' with
              | zero => exact absurd f2 (Nat.not_lt_zero _)
              | succ n' =>
                have ci := kw_clampI i0
                rw [l_X7_planRefusal_0_70_s, l_X8_askedPlan_0_53_s, ← g1, kp_size1, if_pos ha]
                simp only [kf_lx, kf_bx]
                by_cases hi : i.toInt < (x.1 13 a.toNatClampNeg).toInt
                · have z := kp_inc i (by omega)
                  have c1 := kw_clampI (x := i + Int32.ofInt 1) (by omega)
                  obtain ⟨v1, v2⟩ := kq_val hb hW a i ha.1 ha.2 i0 hi
                  rw [if_pos hi, if_pos hi, v1, v2, ← kt_set hL]
                  by_cases hq : (f_X1_hasSet_17 x (x.1 (29 + a.toNatClampNeg) i.toNatClampNeg)).toInt = 0
                  · rw [if_pos hq, if_pos hq]
                    exact Or.inl ⟨rfl, rfl⟩
                  · rw [if_neg hq, if_neg hq]
                    refine ih n' _ (by omega) (by omega) (by omega) (by omega) (fun k hk => ?_)
                    by_cases e : k = i.toNatClampNeg
                    · rw [e]; exact kq_setIn hL _ hq
                    · exact hv k (by omega)
                · rw [if_neg hi, if_neg hi]
                  exact Or.inr ⟨rfl, rfl, fun k hk => hv k (by omega)⟩
          rcases L ((41 - (0 : Int32).toInt).toNat + 1) ((41 - (0 : Int32).toInt).toNat + 1) 0 (by decide) (by rw [kp_q0]; exact g2) (by decide) (by decide) (fun k hk => by rw [kp_q0] at hk; omega) with ⟨p1, p2⟩ | ⟨p1, p2, p3⟩
          · exact Or.inl ⟨3, by decide, by decide, p1, p2⟩
          · exact Or.inr (Or.inr ⟨p1, p2, ha.1, ha.2, g2, hs', g1.symm, p3⟩)
  · have ha5 : ¬ (0 ≤ a.toInt ∧ a.toInt ≤ 5) := by omega
    simp only [if_neg ha, if_neg ha5, if_pos h00]
    exact Or.inr (Or.inl ⟨-1, by decide, rfl, rfl⟩)
theorem kr_sail {x m s t : kw_S} {r q : Int32} (hX : kw_I bX x) (hL : kr_L x m) (hD : kr_D x m) (hW : kr_W x m) (a : Int32) (e1 : (r, s) = f_X7_sail_0 x a) (e2 : (q, t) = f_X8_sail_0 m a) : r = q ∧ kq x m s t := by
  have hb : ∀ j : Nat, -1 ≤ (x.1 13 j).toInt ∧ (x.1 13 j).toInt ≤ 40 := fun j => hX 13 j
  rw [f_X7_sail_0_u] at e1
  rw [f_X8_sail_0_u] at e2
  simp only [kf_bx] at e1 e2
  rcases kr_plan hX hL hW a with ⟨f, f1, f5, p1, p2⟩ | ⟨b, b0, p1, p2⟩ | ⟨p1, p2, a0, a6, n0, n6, g, hv⟩
  · rw [p1, if_neg (by rw [kp_refuse1]; decide)] at e1
    rw [p2, if_pos (by rw [kp_meet1]; decide)] at e2
    obtain ⟨r1, s1⟩ := Prod.mk.inj e1
    obtain ⟨r2, s2⟩ := Prod.mk.inj e2
    rw [r1, s1, r2, s2]
    exact ⟨(kp_refuse1 _ _).trans (kp_meet1 _ _).symm, kq.no x m f f1 f5⟩
  · rw [p1] at e1
    rw [p2] at e2
    dsimp only at e1 e2
    rw [if_neg (by omega)] at e1
    rw [if_pos b0] at e2
    obtain ⟨r1, s1⟩ := Prod.mk.inj e1
    obtain ⟨r2, s2⟩ := Prod.mk.inj e2
    rw [r1, s1, r2, s2]
    exact ⟨rfl, kq.rf⟩
  · rw [p1] at e1
    rw [p2] at e2
    dsimp only at e1 e2
    rw [if_pos (show (0 : Int32).toInt = 0 from rfl)] at e1
    rw [if_neg (show ¬ (0 : Int32).toInt < 0 by decide)] at e2
    rw [show m.1 0 23 = x.1 4 6 from hD.2.2.2.2.1.2.1, show m.1 0 24 = x.1 4 7 from hD.2.2.2.2.1.2.2.1] at e2
    have L : ∀ (n n' : Nat) (u v i : Int32), 0 ≤ i.toInt → i.toInt ≤ (x.1 13 a.toNatClampNeg).toInt → (7 - i.toInt).toNat < n → (7 - i.toInt).toNat < n' → ∃ (w : Int64) (z : Int32), l_X7_sail_0_32 a 0 x n u v i = (1, kw_ui (f_X4_tellWhole_8 x w) 8 2 z) ∧ l_X8_sail_0_26 a 0 m n' u v i = (1, kw_ui (kw_ul (kw_ul m 0 3 w) 0 4 1) 0 2 z) := by
      intro n
      induction n with
      | zero => intro n' u v i _ _ h _; exact absurd h (Nat.not_lt_zero _)
      | succ n ih =>
        intro n' u v i i0 i1 f1 f2
        cases n' with
        | zero => exact absurd f2 (Nat.not_lt_zero _)
        | succ n' =>
          have ci := kw_clampI i0
          rw [l_X7_sail_0_32_s, l_X8_sail_0_26_s, g, kp_size1, if_pos ⟨a0, a6⟩]
          simp only [kf_lx, kf_bx]
          by_cases hi : i.toInt < (x.1 13 a.toNatClampNeg).toInt
          · have z := kp_inc i (by omega)
            obtain ⟨v1, v2⟩ := kq_val hb hW a i a0 a6 i0 hi
            rw [if_pos hi, if_pos hi, v1, v2, kd_windAhead hL hD i i0 (by omega), kt_miles hL, kt_turn hL]
            exact ih n' _ _ _ (by omega) (by omega) (by omega) (by omega)
          · rw [if_neg hi, if_neg hi, kq_part, f_X4_answer_8_u, f_X8_ask_0_u]
            exact ⟨_, _, rfl, rfl⟩
    obtain ⟨w, z, l1, l2⟩ := L ((41 - (0 : Int32).toInt).toNat + 1) ((41 - (0 : Int32).toInt).toNat + 1) (x.1 4 6) (x.1 4 7) 0 (by decide) (by rw [kp_q0]; exact n0) (by decide) (by decide)
    rw [l1] at e1
    rw [l2] at e2
    obtain ⟨r1, s1⟩ := Prod.mk.inj e1
    obtain ⟨r2, s2⟩ := Prod.mk.inj e2
    rw [r1, s1, r2, s2]
    exact ⟨rfl, kq.both x m w z⟩
