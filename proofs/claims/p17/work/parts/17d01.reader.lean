/-! ===== reading a town: the class's reader and the reference's, side by side ===== -/
theorem kp_self (σ : kw_S) (a i : Nat) : kw_ui σ a i (σ.1 a i) = σ := by
  refine kp_ext (fun b j => ?_) (fun _ _ => rfl)
  rw [kp_ui]
  split
  · rename_i h; rw [h.1, h.2]
  · rfl
theorem kp_uiui (σ : kw_S) (a i : Nat) (x y : Int32) : kw_ui (kw_ui σ a i x) a i y = kw_ui σ a i y := by
  refine kp_ext (fun b j => ?_) (fun _ _ => rfl)
  rw [kp_ui, kp_ui, kp_ui]
  split <;> rfl
theorem kp_add1 (x : Int32) (h : x.toInt ≤ 1000000) : (x + 1).toInt = x.toInt + 1 := by
  have := kw_rng x
  rw [kw_addI, kp_q1]
  omega
def kt_B (a : Int32) (S U : kw_S) : Prop :=
  kr_T S U ∧ (0 ≤ a.toInt ∧ a.toInt ≤ 3) ∧ (∀ j : Nat, -1 ≤ (S.1 15 j).toInt ∧ (S.1 15 j).toInt ≤ 60) ∧ 0 ≤ (S.1 15 a.toNatClampNeg).toInt ∧ S.1 3 1 = U.1 0 17 ∧ 0 ≤ (S.1 3 1).toInt ∧ (S.1 3 1).toInt ≤ (S.1 15 a.toNatClampNeg).toInt
theorem kt_B.to {a : Int32} {S U S' U' : kw_S} (h : kt_B a S U) (h15 : S'.1 15 = S.1 15) (h35 : ∀ b : Nat, 35 ≤ b → b < 39 → S'.1 b = S.1 b) (h5 : U'.1 5 = U.1 5) (h6 : U'.1 6 = U.1 6) (hp : S'.1 3 1 = U'.1 0 17) (p0 : 0 ≤ (S'.1 3 1).toInt) (p1 : (S'.1 3 1).toInt ≤ (S.1 15 a.toNatClampNeg).toInt) : kt_B a S' U' := by
  obtain ⟨hT, ha, hb, hs, -, -, -⟩ := h
  refine ⟨hT.cong (fun b hb => ?_) (fun b hb => ?_), ha, by rw [h15]; exact hb, by rw [h15]; exact hs, hp, p0, by rw [h15]; exact p1⟩
  · rcases hb with rfl | hb
    · exact h15
    · exact h35 b hb.1 hb.2
  · rcases hb with rfl | rfl
    · exact h5
    · exact h6
theorem kt_ch {a : Int32} {S U : kw_S} (h : kt_B a S U) : (S.1 3 1).toInt < (S.1 15 a.toNatClampNeg).toInt ∧ f_X3_valueAt_2 S a (S.1 3 1) = f_X8_here_0 U a ∨ (S.1 3 1).toInt = (S.1 15 a.toNatClampNeg).toInt ∧ f_X3_valueAt_2 S a (S.1 3 1) = 1000 ∧ f_X8_here_0 U a = -9 := by
  obtain ⟨hT, ha, hb, hs, hp, p0, p1⟩ := h
  have c := kw_clampI ha.1
  have cp := kw_clampI p0
  have g1 : S.1 15 a.toNatClampNeg = U.1 5 a.toNatClampNeg := by
    rcases hT.1 a.toNatClampNeg (by omega) with ⟨g, -⟩ | ⟨g, -⟩
    · omega
    · exact g
  have hb1 := hb a.toNatClampNeg
  rw [kp_value2 S hb, f_X8_here_0_u]
  simp only [kf_lx]
  rw [← g1, ← hp]
  by_cases hlt : (S.1 3 1).toInt < (S.1 15 a.toNatClampNeg).toInt
  · left
    refine ⟨hlt, ?_⟩
    rw [if_pos ⟨ha.1, by omega, p0, hlt⟩, if_pos hlt, kp_idx 60 60 a (S.1 3 1) rfl (by decide) ha.1 (by omega) p0 (by omega)]
    exact hT.2 a.toNatClampNeg (S.1 3 1).toNatClampNeg (by omega) (by omega)
  · right
    exact ⟨by omega, if_neg (by omega), if_neg hlt⟩
theorem kt_Bstep {a : Int32} {S U : kw_S} (h : kt_B a S U) (hlt : (S.1 3 1).toInt < (S.1 15 a.toNatClampNeg).toInt) : kt_B a (kw_ui S 3 1 (S.1 3 1 + 1)) (kw_ui U 0 17 (S.1 3 1 + 1)) := by
  have hb := h.2.2.1 a.toNatClampNeg
  have p0 := h.2.2.2.2.2.1
  have e := kp_add1 (S.1 3 1) (by omega)
  have e1 : (kw_ui S 3 1 (S.1 3 1 + 1)).1 3 1 = S.1 3 1 + 1 := by rw [kp_ui]; simp
  refine h.to (by funext j; rw [kp_ui]; simp) (fun b h1 h2 => by funext j; rw [kp_ui, if_neg (by omega)]) (by funext j; rw [kp_ui]; simp) (by funext j; rw [kp_ui]; simp) ?_ ?_ ?_
  · rw [e1, kp_ui]; simp
  · rw [e1]; omega
  · rw [e1]; omega
theorem kt_skip (a : Int32) : ∀ (n : Nat) (x : Int32) (S U : kw_S) (n' : Nat), kt_B a S U → 0 ≤ x.toInt → x.toInt ≤ 60 → x.toInt ≤ (S.1 3 1).toInt → (60 - x.toInt).toNat < n → (60 - (S.1 3 1).toInt).toNat < n' → ∃ p : Int32, l_X2_skipBlanks_3_2_2 a n x S = kw_ui S 3 1 p ∧ l_X8_skip_0_0 a n' U = kw_ui U 0 17 p ∧ (S.1 3 1).toInt ≤ p.toInt ∧ p.toInt ≤ (S.1 15 a.toNatClampNeg).toInt := by
  intro n
  induction n with
  | zero => intro x S U n' _ _ _ _ h _; exact absurd h (Nat.not_lt_zero _)
  | succ n ih =>
    intro x S U n' h x0 x1 xp h1 h2
    cases n' with
    | zero => exact absurd h2 (Nat.not_lt_zero _)
    | succ n' =>
      have hp := h.2.2.2.2.1
      have p0 := h.2.2.2.2.2.1
      have p1 := h.2.2.2.2.2.2
      have hb := h.2.2.1 a.toNatClampNeg
      have stay : ∃ p : Int32, S = kw_ui S 3 1 p ∧ U = kw_ui U 0 17 p ∧ (S.1 3 1).toInt ≤ p.toInt ∧ p.toInt ≤ (S.1 15 a.toNatClampNeg).toInt := ⟨S.1 3 1, (kp_self S 3 1).symm, by rw [hp]; exact (kp_self U 0 17).symm, Int.le_refl _, p1⟩
      rw [l_X2_skipBlanks_3_2_2_s, l_X8_skip_0_0_s]
      simp only [kf_lx]
      by_cases hx : x.toInt < 60
      · rw [if_pos (show x.toInt < (60 : Int32).toInt from hx)]
        rcases kt_ch h with ⟨hlt, e⟩ | ⟨hge, e1, e2⟩
        · rw [e]
          by_cases hq : (f_X8_here_0 U a).toInt = (32 : Int32).toInt
          · rw [if_pos hq, if_pos hq]
            have z := kp_inc x (by omega)
            have z1 := kp_add1 (S.1 3 1) (by omega)
            have hB := kt_Bstep h hlt
            have e1 : (kw_ui S 3 1 (S.1 3 1 + 1)).1 3 1 = S.1 3 1 + 1 := by rw [kp_ui]; simp
            have e15 : (kw_ui S 3 1 (S.1 3 1 + 1)).1 15 = S.1 15 := by funext j; rw [kp_ui]; simp
            obtain ⟨p, a1, a2, a3, a4⟩ := ih (x + Int32.ofInt 1) _ _ n' hB (by omega) (by omega) (by rw [e1]; omega) (by omega) (by rw [e1]; omega)
            rw [e1] at a3
            rw [e15] at a4
            rw [kp_uiui] at a1 a2
            refine ⟨p, a1, ?_, by omega, a4⟩
            rw [← hp]
            exact a2
          · rw [if_neg hq, if_neg hq]
            exact stay
        · rw [e1, e2, if_neg (by decide), if_neg (by decide)]
          exact stay
      · rw [if_neg (show ¬ x.toInt < (60 : Int32).toInt from hx)]
        rcases kt_ch h with ⟨hlt, e⟩ | ⟨hge, e1, e2⟩
        · omega
        · rw [e2, if_neg (by decide)]
          exact stay
theorem kt_skipF {a : Int32} {S U : kw_S} (h : kt_B a S U) : ∃ p : Int32, f_X2_skipBlanks_3_2 S a = kw_ui S 3 1 p ∧ f_X8_skip_0 U a = kw_ui U 0 17 p ∧ (S.1 3 1).toInt ≤ p.toInt ∧ p.toInt ≤ (S.1 15 a.toNatClampNeg).toInt := by
  have p0 := h.2.2.2.2.2.1
  have hp := h.2.2.2.2.1
  rw [f_X2_skipBlanks_3_2_u, f_X8_skip_0_u]
  exact kt_skip a _ 0 S U _ h (by decide) (by decide) (by rw [kp_q0]; exact p0) (by rw [kp_q0]; omega) (by rw [← hp]; omega)
theorem kt_Bat {a : Int32} {S U : kw_S} (h : kt_B a S U) (p : Int32) (h0 : 0 ≤ p.toInt) (h1 : p.toInt ≤ (S.1 15 a.toNatClampNeg).toInt) : kt_B a (kw_ui S 3 1 p) (kw_ui U 0 17 p) := by
  have e1 : (kw_ui S 3 1 p).1 3 1 = p := by rw [kp_ui]; simp
  refine h.to (by funext j; rw [kp_ui]; simp) (fun b h1 h2 => by funext j; rw [kp_ui, if_neg (by omega)]) (by funext j; rw [kp_ui]; simp) (by funext j; rw [kp_ui]; simp) ?_ ?_ ?_
  · rw [e1, kp_ui]; simp
  · rw [e1]; exact h0
  · rw [e1]; exact h1
theorem kt_fig {a : Int32} {S U : kw_S} (h : kt_B a S U) (to lo hi : Int32) (hlo : 0 ≤ lo.toInt) (hhi : hi.toInt ≤ 9) : f_X2_readFigure_3_2 S a lo hi = (-1, S) ∧ f_X8_figure_0 U a to lo hi = (0, U) ∨ ∃ v : Int32, lo.toInt ≤ v.toInt ∧ v.toInt ≤ hi.toInt ∧ (S.1 3 1).toInt < (S.1 15 a.toNatClampNeg).toInt ∧ f_X2_readFigure_3_2 S a lo hi = (v, kw_ui S 3 1 (S.1 3 1 + 1)) ∧ f_X8_figure_0 U a to lo hi = (1, kw_ui (kw_ui U 13 to.toNatClampNeg v) 0 17 (S.1 3 1 + 1)) := by
  have hp := h.2.2.2.2.1
  rw [f_X2_readFigure_3_2_u, f_X8_figure_0_u]
  simp only [kf_lx, kp_in]
  rw [← hp]
  rcases kt_ch h with ⟨hlt, e⟩ | ⟨hge, e1, e2⟩
  · rw [e]
    generalize f_X8_here_0 U a - 48 = v
    by_cases h1 : lo.toInt ≤ v.toInt ∧ v.toInt ≤ hi.toInt
    · right
      refine ⟨v, h1.1, h1.2, hlt, ?_, ?_⟩
      · rw [if_neg (by omega), if_neg (by omega)]
      · rw [if_pos h1, if_neg (by decide)]
    · left
      refine ⟨?_, ?_⟩
      · by_cases h2 : v.toInt < lo.toInt
        · rw [if_pos h2]
        · rw [if_neg h2, if_pos (by omega)]
      · rw [if_neg h1, if_pos (by decide)]
  · left
    have q1 : ((1000 : Int32) - 48).toInt = 952 := rfl
    have q2 : ((-9 : Int32) - 48).toInt = -57 := rfl
    rw [e1, e2]
    refine ⟨?_, ?_⟩
    · by_cases h2 : ((1000 : Int32) - 48).toInt < lo.toInt
      · rw [if_pos h2]
      · rw [if_neg h2, if_pos (by omega)]
    · rw [if_neg (show ¬ (lo.toInt ≤ ((-9 : Int32) - 48).toInt ∧ ((-9 : Int32) - 48).toInt ≤ hi.toInt) by omega), if_pos (by decide)]
abbrev kt_LX : List Nat := [3, 16, 39, 40, 41, 42, 43]
abbrev kt_LM : List Nat := [12, 13, 1017, 1018, 1019]
def kt_W (S U : kw_S) : Prop := S.1 16 6 = U.1 0 18 ∧ 0 ≤ (S.1 16 6).toInt ∧ (S.1 16 6).toInt ≤ 8 ∧ ∀ j : Nat, (j : Int) < (S.1 16 6).toInt → S.1 43 j = U.1 12 j ∧ 0 ≤ (S.1 43 j).toInt ∧ (S.1 43 j).toInt ≤ 5
theorem kt_W.to {S U S' U' : kw_S} (h : kt_W S U) (h1 : S'.1 16 6 = S.1 16 6) (h2 : U'.1 0 18 = U.1 0 18) (h3 : S'.1 43 = S.1 43) (h4 : U'.1 12 = U.1 12) : kt_W S' U' := by
  unfold kt_W
  rw [h1, h2, h3, h4]
  exact h
theorem kt_winds (a : Int32) : ∀ (n : Nat) (x : Int32) (S U : kw_S) (n' : Nat), kt_B a S U → kt_W S U → x = S.1 16 6 → (8 - x.toInt).toNat < n → (8 - x.toInt).toNat < n' → ∃ (S' U' : kw_S) (r : Int32), l_X2_readWinds_3_2_2 a n x S = S' ∧ l_X8_readsWinds_0_32 a n' U = (r, U') ∧ kt_B a S' U' ∧ kt_W S' U' ∧ (0 < (S'.1 16 6).toInt ∧ r = 1 ∨ (S'.1 16 6).toInt = 0 ∧ r = 0) ∧ S'.1 16 5 = S.1 16 5 ∧ U'.1 0 19 = U.1 0 19 ∧ kw_F kt_LX S S' ∧ kw_FM kt_LM U U' := by
  intro n
  induction n with
  | zero => intro x S U n' _ _ _ h _; exact absurd h (Nat.not_lt_zero _)
  | succ n ih =>
    intro x S U n' h hW hx h1 h2
    cases n' with
    | zero => exact absurd h2 (Nat.not_lt_zero _)
    | succ n' =>
      have hp := h.2.2.2.2.1
      have p0 := h.2.2.2.2.2.1
      have p1 := h.2.2.2.2.2.2
      have hb := h.2.2.1 a.toNatClampNeg
      obtain ⟨w1, w2, w3, w4⟩ := id hW
      have cx := kw_clampI w2
      have stay : ∃ (S' U' : kw_S) (r : Int32), S = S' ∧ (if 0 < (U.1 0 18).toInt then ((1 : Int32), U) else ((0 : Int32), U)) = (r, U') ∧ kt_B a S' U' ∧ kt_W S' U' ∧ (0 < (S'.1 16 6).toInt ∧ r = 1 ∨ (S'.1 16 6).toInt = 0 ∧ r = 0) ∧ S'.1 16 5 = S.1 16 5 ∧ U'.1 0 19 = U.1 0 19 ∧ kw_F kt_LX S S' ∧ kw_FM kt_LM U U' := by
        by_cases g : 0 < (U.1 0 18).toInt
        · exact ⟨S, U, 1, rfl, if_pos g, h, hW, Or.inl ⟨by rw [w1]; exact g, rfl⟩, rfl, rfl, kw_F.rf, kw_FM.rf⟩
        · exact ⟨S, U, 0, rfl, if_neg g, h, hW, Or.inr ⟨by rw [w1] at w2 ⊢; omega, rfl⟩, rfl, rfl, kw_F.rf, kw_FM.rf⟩
      rw [l_X2_readWinds_3_2_2_s, l_X8_readsWinds_0_32_s]
      simp only [kf_lx, kp_in]
      subst hx
      by_cases hx : (S.1 16 6).toInt < 8
      · rw [if_pos (show (S.1 16 6).toInt < (8 : Int32).toInt from hx), if_pos (show (U.1 0 18).toInt < (8 : Int32).toInt by rw [← w1]; exact hx)]
        rcases kt_ch h with ⟨hlt, e⟩ | ⟨hge, e1, e2⟩
        · rw [e]
          generalize f_X8_here_0 U a - 48 = v
          by_cases hv : (0 : Int32).toInt ≤ v.toInt ∧ v.toInt ≤ (5 : Int32).toInt
          · have hv' : 0 ≤ v.toInt ∧ v.toInt ≤ 5 := hv
            rw [if_neg (show ¬ v.toInt < 0 by omega), if_neg (show ¬ (5 : Int32).toInt < v.toInt by omega)]
            simp only [if_pos hv]
            rw [if_neg (by decide)]
            have z := kp_add1 (S.1 16 6) (by omega)
            have z1 := kp_add1 (S.1 3 1) (by omega)
            have ei : S.1 16 6 + Int32.ofInt 1 = S.1 16 6 + 1 := rfl
            rw [ei, ← w1, ← hp]
            have f16 : (kw_ui (kw_ui (kw_ui S 43 (S.1 16 6).toNatClampNeg v) 16 6 (S.1 16 6 + 1)) 3 1 (S.1 3 1 + 1)).1 16 6 = S.1 16 6 + 1 := by simp [kp_ui]
            have f3 : (kw_ui (kw_ui (kw_ui S 43 (S.1 16 6).toNatClampNeg v) 16 6 (S.1 16 6 + 1)) 3 1 (S.1 3 1 + 1)).1 3 1 = S.1 3 1 + 1 := by simp [kp_ui]
            have hB : kt_B a (kw_ui (kw_ui (kw_ui S 43 (S.1 16 6).toNatClampNeg v) 16 6 (S.1 16 6 + 1)) 3 1 (S.1 3 1 + 1)) (kw_ui (kw_ui (kw_ui U 12 (S.1 16 6).toNatClampNeg v) 0 18 (S.1 16 6 + 1)) 0 17 (S.1 3 1 + 1)) := by
              refine h.to (by funext j; simp [kp_ui]) (fun b h1 h2 => by funext j; rw [kp_ui, if_neg (by omega), kp_ui, if_neg (by omega), kp_ui, if_neg (by omega)]) (by funext j; simp [kp_ui]) (by funext j; simp [kp_ui]) ?_ ?_ ?_
              · rw [f3]; simp [kp_ui]
              · rw [f3]; omega
              · rw [f3]; omega
            have hW' : kt_W (kw_ui (kw_ui (kw_ui S 43 (S.1 16 6).toNatClampNeg v) 16 6 (S.1 16 6 + 1)) 3 1 (S.1 3 1 + 1)) (kw_ui (kw_ui (kw_ui U 12 (S.1 16 6).toNatClampNeg v) 0 18 (S.1 16 6 + 1)) 0 17 (S.1 3 1 + 1)) := by
              refine ⟨?_, ?_, ?_, fun j hj => ?_⟩
              · rw [f16]; simp [kp_ui]
              · rw [f16]; omega
              · rw [f16]; omega
              · rw [f16] at hj
                have fa : (kw_ui (kw_ui (kw_ui S 43 (S.1 16 6).toNatClampNeg v) 16 6 (S.1 16 6 + 1)) 3 1 (S.1 3 1 + 1)).1 43 j = if j = (S.1 16 6).toNatClampNeg then v else S.1 43 j := by simp [kp_ui]
                have fb : (kw_ui (kw_ui (kw_ui U 12 (S.1 16 6).toNatClampNeg v) 0 18 (S.1 16 6 + 1)) 0 17 (S.1 3 1 + 1)).1 12 j = if j = (S.1 16 6).toNatClampNeg then v else U.1 12 j := by simp [kp_ui]
                rw [fa, fb]
                by_cases hj2 : j = (S.1 16 6).toNatClampNeg
                · rw [if_pos hj2, if_pos hj2]
                  exact ⟨rfl, hv'⟩
                · rw [if_neg hj2, if_neg hj2]
                  exact w4 j (by omega)
            obtain ⟨S', U', r, a1, a2, a3, a4, a5, a6, a7, a8, a9⟩ := ih (S.1 16 6 + 1) _ _ n' hB hW' f16.symm (by omega) (by omega)
            refine ⟨S', U', r, a1, a2, a3, a4, a5, ?_, ?_, kw_F.tr (kw_F_ui (kw_F_ui (kw_F_ui kw_F.rf (by decide)) (by decide)) (by decide)) a8 (fun _ h => h), kw_FM.tr (kw_FM_ui0 (kw_FM_ui0 (kw_FM_ui kw_FM.rf (by decide) (by decide)) (by decide)) (by decide)) a9 (fun _ h => h)⟩
            · rw [a6]; simp [kp_ui]
            · rw [a7]; simp [kp_ui]
          · have hv' : ¬ (0 ≤ v.toInt ∧ v.toInt ≤ 5) := hv
            have q5 : (5 : Int32).toInt = 5 := rfl
            simp only [if_neg hv]
            rw [if_pos (show (0 : Int32).toInt = 0 from rfl)]
            by_cases h3 : v.toInt < 0
            · rw [if_pos h3]; exact stay
            · rw [if_neg h3, if_pos (by omega)]; exact stay
        · rw [e1, e2]
          have q1 : ¬ ((0 : Int32).toInt ≤ ((-9 : Int32) - 48).toInt ∧ ((-9 : Int32) - 48).toInt ≤ (5 : Int32).toInt) := by decide
          simp only [if_neg q1]
          rw [if_neg (by decide), if_pos (by decide), if_pos (show (0 : Int32).toInt = 0 from rfl)]
          exact stay
      · rw [if_neg (show ¬ (S.1 16 6).toInt < (8 : Int32).toInt from hx), if_neg (show ¬ (U.1 0 18).toInt < (8 : Int32).toInt by rw [← w1]; exact hx)]
        exact stay
