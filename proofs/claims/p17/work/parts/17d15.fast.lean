theorem kr_fast {x m s t : kw_S} {r q : Int32} (hL : kr_L x m) (hD : kr_D x m) (k : Int32) (e1 : (r, s) = f_X7_fast_0 x k) (e2 : (q, t) = f_X8_fast_0 m k) : r = q ∧ (r ≠ -1 → r ≠ -4 → True) := by
  have l2 := hL.2.1
  have q99 : (99 : Int32).toInt = 99 := rfl
  rw [f_X7_fast_0_u, f_X5_isEmpty_4_u] at e1
  rw [f_X8_fast_0_u] at e2
  simp only [kf_lx, kp_in] at e1 e2
  refine ⟨?_, fun _ _ => trivial⟩
  by_cases h1 : (0 : Int32).toInt ≤ k.toInt ∧ k.toInt ≤ (99 : Int32).toInt
  · have h1' : 0 ≤ k.toInt ∧ k.toInt ≤ 99 := h1
    rw [if_neg (show ¬ k.toInt < 0 by omega), if_neg (show ¬ (99 : Int32).toInt < k.toInt by omega)] at e1
    simp only [if_pos h1] at e2
    rw [if_neg (show ¬ (1 : Int32).toInt = 0 by decide), ← hL.1] at e2
    by_cases h0 : (x.1 17 5).toInt < (1 : Int32).toInt
    · have h0' : (x.1 17 5).toInt < 1 := h0
      simp only [if_pos h0] at e1
      rw [if_neg (show ¬ (1 : Int32).toInt = 0 by decide)] at e1
      rw [if_pos (show (x.1 17 5).toInt = 0 by omega)] at e2
      cases e1; cases e2
      rfl
    · have h0' : ¬ (x.1 17 5).toInt < 1 := h0
      simp only [if_neg h0] at e1
      rw [if_pos (show (0 : Int32).toInt = 0 from rfl)] at e1
      rw [if_neg (show ¬ (x.1 17 5).toInt = 0 by omega), ← kd_windNow hL hD] at e2
      generalize f_X5_windNow_4 x = w at *
      have cl := kw_clampI l2.1
      have pw := kc_pow (x.1 17 5).toNatClampNeg (by omega)
      have p1 := kc_pow1 (x.1 17 5) l2.1 l2.2
      obtain ⟨d1, d2, d3, -⟩ := kc_draw6 x w l2.1 l2.2
      have cm := kc_cm6 x (f_X0_draw_6_17 x w) w
      generalize f_X0_draw_6_17 x w = S3 at *
      have lay : kd_lay x S3 := kd_lay.of d1 (by decide)
      have hLS : kr_L S3 m := hL.cong (fun a ha => lay a ha) (fun _ _ => rfl) rfl rfl
      have L : ∀ (n n' : Nat) (b i : Int32), 0 ≤ b.toInt → b.toInt < (2 ^ (x.1 17 5).toNatClampNeg : Nat) → 0 ≤ i.toInt → i.toInt ≤ (2 ^ (x.1 17 5).toNatClampNeg : Nat) → ((2 ^ (x.1 17 5).toNatClampNeg : Nat) - i.toInt).toNat < n → ((2 ^ (x.1 17 5).toNatClampNeg : Nat) - i.toInt).toNat < n' → (l_X7_fast_0_50 k S3 n b i).1 = (l_X8_fast_0_36 k w m n' b i).1 := by
        intro n
        induction n with
        | zero => intro n' b i _ _ _ _ h _; exact absurd h (Nat.not_lt_zero _)
        | succ n ih =>
          intro n' b i b0 b1 i0 i1 g1 g2
          cases n' with
          | zero => exact absurd g2 (Nat.not_lt_zero _)
          | succ n' =>
            rw [l_X7_fast_0_50_s, l_X8_fast_0_36_s, ← hL.1]
            simp only [kf_lx, kf_bx]
            have mb := (cm b l2.1 l2.2 (fun _ _ => rfl) b0 b1).1
            by_cases hi : i.toInt < (2 ^ (x.1 17 5).toNatClampNeg : Nat)
            · have z := kp_inc i (by omega)
              have mi := (cm i l2.1 l2.2 (fun _ _ => rfl) i0 hi).1
              rw [if_pos (show i.toInt < (S3.1 6 3).toInt by rw [d2]; exact hi), if_pos (show i.toInt < ((1 : Int32) <<< (x.1 17 5 &&& 31)).toInt by rw [p1]; exact hi), kt_linen hLS]
              by_cases hk : k.toInt < (f_X8_linenOf_0 m i).toInt
              · rw [if_pos hk, if_pos hk]
                exact ih n' _ _ b0 b1 (by omega) (by omega) (by omega) (by omega)
              · rw [if_neg hk, if_neg hk, mi, mb, kt_miles hL, kt_miles hL]
                by_cases hm : (f_X8_milesBy_0 m b w).toInt < (f_X8_milesBy_0 m i w).toInt
                · rw [if_pos hm, if_pos hm]
                  exact ih n' _ _ i0 hi (by omega) (by omega) (by omega) (by omega)
                · rw [if_neg hm, if_neg hm]
                  exact ih n' _ _ b0 b1 (by omega) (by omega) (by omega) (by omega)
            · rw [if_neg (show ¬ i.toInt < (S3.1 6 3).toInt by rw [d2]; exact hi), if_neg (show ¬ i.toInt < ((1 : Int32) <<< (x.1 17 5 &&& 31)).toInt by rw [p1]; exact hi), f_X4_answer_8_u, f_X8_ask_0_u]
              have e8 : ∀ v : Int32, f_X0_milesOf_6 (kw_ui S3 8 2 v) b = f_X0_milesOf_6 S3 b := fun v => by
                rw [f_X0_milesOf_6_u, f_X0_milesOf_6_u, show (kw_ui S3 8 2 v).1 22 = S3.1 22 by funext j; simp [kp_ui]]
              show f_X0_milesOf_6 (kw_ui S3 8 2 b) b = f_X8_milesBy_0 m b w
              rw [e8, mb, kt_miles hL]
      have hh := L ((((S3.1 6 3)).toInt - (1 : Int32).toInt).toNat + 1) ((65 - (1 : Int32).toInt).toNat + 1) 0 1 (by decide) (by rw [kp_q0]; omega) (by decide) (by rw [kp_q1]; omega) (by rw [d2, kp_q1]; omega) (by rw [kp_q1]; omega)
      rw [← e1, ← e2] at hh
      exact hh
  · have h1' : ¬ (0 ≤ k.toInt ∧ k.toInt ≤ 99) := h1
    simp only [if_neg h1] at e2
    rw [if_pos (show (0 : Int32).toInt = 0 from rfl)] at e2
    cases e2
    by_cases h2 : k.toInt < 0
    · rw [if_pos h2] at e1
      cases e1
      rfl
    · rw [if_neg h2, if_pos (show (99 : Int32).toInt < k.toInt by omega)] at e1
      cases e1
      rfl
