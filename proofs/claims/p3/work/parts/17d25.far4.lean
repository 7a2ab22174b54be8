/-! ===== far 4: how far the raft can be, the reference's search, the call ===== -/
theorem kg_mb {x m : kw_S} (hL : kr_L x m) (w : Int32) (w0 : 0 ≤ w.toInt) (w1 : w.toInt ≤ 6) (s : Int32) (s0 : 0 ≤ s.toInt) (s1 : s.toInt ≤ 63) : -180 ≤ (f_X1_milesOf_17 x s w).toInt ∧ (f_X1_milesOf_17 x s w).toInt ≤ 180 := by
  have l2 := hL.2.1
  have cl := kw_clampI l2.1
  have h := kz_miles hL w w0 w1 s s0 s1
  have b := kz_bound hL w w0 w1 s.toNatClampNeg (x.1 17 5).toNatClampNeg (by omega)
  have b2 := b.2.1
  have b3 := b.2.2.1
  have b4 := b.2.2.2.2.1
  have b5 := kz_mono (-720) _ (show -720 ≤ kz_s x w s.toNatClampNeg (x.1 17 5).toNatClampNeg by omega)
  have b6 := kz_mono _ 720 (show kz_s x w s.toNatClampNeg (x.1 17 5).toNatClampNeg ≤ 720 by omega)
  have b7 : Int.tdiv (-720) 4 = -180 := rfl
  have b8 : Int.tdiv 720 4 = 180 := rfl
  rw [h]
  omega
theorem kg_run {x m : kw_S} (hL : kr_L x m) (D : Nat → Int32) : ∀ n : Nat, n ≤ 40 → kd_ok x D n → -180 * (n : Int) ≤ (kd_run x D n).2.1.toInt ∧ (kd_run x D n).2.1.toInt ≤ 180 * (n : Int)
  | 0, _, _ => ⟨by show -180 * ((0 : Nat) : Int) ≤ (0 : Int32).toInt; decide, by show (0 : Int32).toInt ≤ 180 * ((0 : Nat) : Int); decide⟩
  | n + 1, hn, ho => by
    have ih := kg_run hL D n (by omega) (fun d hd => ho d (by omega))
    obtain ⟨h1, h2, -⟩ := kd_run_ok hL.2.1.2 D n (by omega) (fun d hd => ho d (by omega))
    rw [show kd_run x D (n + 1) = kd_step x (kd_run x D n) (D n) from rfl]
    generalize kd_run x D n = s at *
    by_cases e6 : (D n).toInt = 6
    · rw [kd_step6 x s (D n) e6]
      have wb := kh_wind hL s.1 h1.1
      have mb := kg_mb hL (f_X1_windAt_17 x s.1) wb.1 (by omega) s.2.2.2.1 h2.1 h2.2
      have e : (s.2.1 + f_X1_milesOf_17 x s.2.2.2.1 (f_X1_windAt_17 x s.1)).toInt = s.2.1.toInt + (f_X1_milesOf_17 x s.2.2.2.1 (f_X1_windAt_17 x s.1)).toInt := by rw [kw_addI]; omega
      show -180 * ((n + 1 : Nat) : Int) ≤ (s.2.1 + f_X1_milesOf_17 x s.2.2.2.1 (f_X1_windAt_17 x s.1)).toInt ∧ (s.2.1 + f_X1_milesOf_17 x s.2.2.2.1 (f_X1_windAt_17 x s.1)).toInt ≤ 180 * ((n + 1 : Nat) : Int)
      rw [e]; omega
    · rw [kd_stepN x s (D n) e6]
      show -180 * ((n + 1 : Nat) : Int) ≤ s.2.1.toInt ∧ s.2.1.toInt ≤ 180 * ((n + 1 : Nat) : Int)
      omega
theorem kg_gone {x m : kw_S} (hL : kr_L x m) (hD : kr_D x m) : -7200 ≤ (x.1 4 6).toInt ∧ (x.1 4 6).toInt ≤ 7200 := by
  have d2 := hD.2.1
  have cn := kw_clampI d2.1
  have h := kg_run hL (x.1 18) (x.1 4 3).toNatClampNeg (by omega) hD.2.2.2.1
  rw [← hD.2.2.1] at h
  have e : (kd_get x).2.1 = x.1 4 6 := rfl
  rw [e] at h
  omega
theorem kg_by {x m : kw_S} (hL : kr_L x m) (hD : kr_D x m) (n t : Int32) (n0 : 0 ≤ n.toInt) (n3 : n.toInt ≤ 3) (t0 : 0 ≤ t.toInt) : ∃ (w : Int32) (S : kw_S), f_X8_farBy_0 (f_X8_setHours_0 m) n t = (w, S) ∧ kw_FM [20] (f_X8_setHours_0 m) S ∧ kg_Bm n.toNatClampNeg w S (kg_S (kg_M x) (kg_T x) t (2 ^ (x.1 17 5).toNatClampNeg) n.toNatClampNeg 0 (x.1 4 6) (x.1 4 7) (fun _ => 0) none) := by
  have l2 := hL.2.1
  have cl := kw_clampI l2.1
  have cn := kw_clampI n0
  have pw := kc_pow (x.1 17 5).toNatClampNeg (by omega)
  have p1 := kc_pow1 (x.1 17 5) l2.1 l2.2
  have gb := kg_gone hL hD
  obtain ⟨s1, s2⟩ := kh_set hL hD
  generalize f_X8_setHours_0 m = S0 at *
  have e23 : S0.1 0 23 = x.1 4 6 := by rw [s1.2.1 23 (by decide)]; exact hD.2.2.2.2.1.2.1
  have e24 : S0.1 0 24 = x.1 4 7 := by rw [s1.2.1 24 (by decide)]; exact hD.2.2.2.2.1.2.2.1
  have e10 : S0.1 0 10 = x.1 17 5 := by rw [s1.2.1 10 (by decide)]; exact hL.1.symm
  have hm : kg_mi 0 (S0.1 0 23) := by rw [e23]; exact ⟨by omega, by omega⟩
  have e3 : ((1 : Int32) <<< (S0.1 0 10 &&& 31)).toInt = ((2 ^ (x.1 17 5).toNatClampNeg : Nat) : Int) := by rw [e10]; exact p1
  have hT : ∀ n : Nat, n ≤ 3 → kg_Tm (kg_M x) (kg_T x) (2 ^ (x.1 17 5).toNatClampNeg) n S0 := fun n hn k s hk hs => s2 k s (by omega) hs
  have q0 : (0 : Int32).toNatClampNeg = 0 := rfl
  have z0 : (0 : Int32).toInt ≤ ((2 ^ (x.1 17 5).toNatClampNeg : Nat) : Int) := by rw [kp_q0]; omega
  have zf : (((2 ^ (x.1 17 5).toNatClampNeg : Nat) : Int) - (0 : Int32).toInt).toNat < (65 - (0 : Int32).toInt).toNat + 1 := by rw [kp_q0]; omega
  unfold f_X8_farBy_0
  rcases (show n.toInt = 0 ∨ n.toInt = 1 ∨ n.toInt = 2 ∨ n.toInt = 3 by omega) with h | h | h | h
  · have en : n.toNatClampNeg = 0 := by omega
    rw [if_pos h, en, f_X8_farByvn0_0_u]
    simp only [kf_lx]
    have o := kg_o0 (S0 := S0) t ((1 : Int32) <<< (S0.1 0 10 &&& 31)) (hm.up (by decide)) (fun _ => 0) 64 (-1048576) none rfl
    rw [e23] at o
    rw [show ((65 - (0 : Int32).toInt).toNat + 1) = 64 + 1 + 1 from rfl]
    exact o
  · have en : n.toNatClampNeg = 1 := by omega
    rw [if_neg (show ¬ n.toInt = 0 by omega), if_pos h, en, f_X8_farByvn1_0_u]
    simp only [kf_lx]
    have o := kg_o1 (kg_isok hL hD 1 (by decide)) pw.1 t0 (hT 1 (by decide)) _ e3 (fun _ => 0) hm ((65 - (0 : Int32).toInt).toNat + 1) 0 (-1048576) S0 none (by decide) z0 zf kw_FM.rf rfl
    rw [q0, e23, e24, Nat.sub_zero] at o
    exact o
  · have en : n.toNatClampNeg = 2 := by omega
    rw [if_neg (show ¬ n.toInt = 0 by omega), if_neg (show ¬ n.toInt = 1 by omega), if_pos h, en, f_X8_farByvn2_0_u]
    simp only [kf_lx]
    have o := kg_o2 (kg_isok hL hD 2 (by decide)) pw.1 t0 (hT 2 (by decide)) _ e3 (fun _ => 0) hm ((65 - (0 : Int32).toInt).toNat + 1) 0 (-1048576) S0 none (by decide) z0 zf kw_FM.rf rfl
    rw [q0, e23, e24, Nat.sub_zero] at o
    exact o
  · have en : n.toNatClampNeg = 3 := by omega
    rw [if_neg (show ¬ n.toInt = 0 by omega), if_neg (show ¬ n.toInt = 1 by omega), if_neg (show ¬ n.toInt = 2 by omega), en, f_X8_farByvn3_0_u]
    simp only [kf_lx]
    have o := kg_o3 (kg_isok hL hD 3 (by decide)) pw.1 t0 (hT 3 (by decide)) _ e3 (fun _ => 0) hm ((65 - (0 : Int32).toInt).toNat + 1) 0 (-1048576) S0 none (by decide) z0 zf kw_FM.rf rfl
    rw [q0, e23, e24, Nat.sub_zero] at o
    exact o
theorem kg_farX (n t a : Int32) (a0 : 0 ≤ a.toInt) (a5 : a.toInt < 6) (n0 : 0 ≤ n.toInt) : ∀ (f : Nat) (y : Int32) (S : kw_S), 0 ≤ y.toInt → y.toInt ≤ n.toInt → n.toInt ≤ 3 → (n.toInt - y.toInt).toNat < f → (∀ j : Nat, -1 ≤ (S.1 13 j).toInt ∧ (S.1 13 j).toInt ≤ 40) → S.1 13 a.toNatClampNeg = n → l_X7_far_0_78 n t a f y S = (1, kw_ui (kw_ua S (29 + a.toNatClampNeg) (fun j => if y.toNatClampNeg ≤ j ∧ j < n.toNatClampNeg then S.1 24 j else S.1 (29 + a.toNatClampNeg) j)) 8 2 (S.1 7 1)) := by
  intro f
  induction f with
  | zero => intro y S _ _ _ h; exact absurd h (Nat.not_lt_zero _)
  | succ f ih =>
    intro y S y0 y1 n3 hf hb hn
    have cy := kw_clampI y0
    have cn := kw_clampI n0
    have ca := kw_clampI a0
    rw [l_X7_far_0_78_s]
    by_cases hy : y.toInt < n.toInt
    · have z := kp_inc y (by omega)
      have c1 := kw_clampI (x := y + Int32.ofInt 1) (by omega)
      rw [if_pos hy]
      simp only [kf_lx]
      rw [kp_change1 S hb, if_pos (show 0 ≤ a.toInt ∧ a.toInt < 6 ∧ 0 ≤ y.toInt ∧ y.toInt < (S.1 13 a.toNatClampNeg).toInt by rw [hn]; omega)]
      generalize hS : kw_ui S (29 + a.toNatClampNeg) y.toNatClampNeg (S.1 24 y.toNatClampNeg) = S9
      have o : ∀ b : Nat, b < 29 → S9.1 b = S.1 b := fun b h => by funext j; rw [← hS, kp_ui, if_neg (by omega)]
      rw [ih _ S9 (by omega) (by omega) n3 (by omega) (by rw [o 13 (by decide)]; exact hb) (by rw [o 13 (by decide)]; exact hn), o 24 (by decide), o 7 (by decide)]
      refine congrArg (Prod.mk 1) (kp_ext (fun c j => ?_) (fun b j => by rw [← hS]; rfl))
      rw [kp_ui, kp_ua, kp_ui, kp_ua]
      by_cases hc : c = 8 ∧ j = 2
      · rw [if_pos hc, if_pos hc]
      · rw [if_neg hc, if_neg hc]
        by_cases hd : c = 29 + a.toNatClampNeg
        · rw [if_pos hd, if_pos hd, ← hS, kp_ui]
          by_cases hj : j = y.toNatClampNeg
          · rw [if_neg (show ¬ ((y + Int32.ofInt 1).toNatClampNeg ≤ j ∧ j < n.toNatClampNeg) by omega), if_pos ⟨rfl, hj⟩, if_pos (show y.toNatClampNeg ≤ j ∧ j < n.toNatClampNeg by omega), hj]
          · rw [if_neg (show ¬ (29 + a.toNatClampNeg = 29 + a.toNatClampNeg ∧ j = y.toNatClampNeg) from fun q => hj q.2)]
            by_cases h3 : y.toNatClampNeg ≤ j ∧ j < n.toNatClampNeg
            · rw [if_pos (show (y + Int32.ofInt 1).toNatClampNeg ≤ j ∧ j < n.toNatClampNeg by omega), if_pos h3]
            · rw [if_neg (show ¬ ((y + Int32.ofInt 1).toNatClampNeg ≤ j ∧ j < n.toNatClampNeg) by omega), if_neg h3]
        · rw [if_neg hd, if_neg hd, ← hS, kp_ui, if_neg (fun q => hd q.1)]
    · rw [if_neg hy]
      simp only [kf_bx]
      rw [f_X4_answer_8_u]
      refine congrArg (Prod.mk 1) (kp_ext (fun c j => ?_) (fun _ _ => rfl))
      show (kw_ui S 8 2 (S.1 7 1)).1 c j = _
      rw [kp_ui, kp_ui, kp_ua]
      by_cases hc : c = 8 ∧ j = 2
      · rw [if_pos hc, if_pos hc]
      · rw [if_neg hc, if_neg hc]
        by_cases hd : c = 29 + a.toNatClampNeg
        · rw [if_pos hd, if_neg (show ¬ (y.toNatClampNeg ≤ j ∧ j < n.toNatClampNeg) by omega), hd]
        · rw [if_neg hd]
theorem kg_farM (n t a c : Int32) (a0 : 0 ≤ a.toInt) (a5 : a.toInt ≤ 5) (n0 : 0 ≤ n.toInt) : ∀ (f : Nat) (y : Int32) (S : kw_S), 0 ≤ y.toInt → y.toInt ≤ 40 → (40 - y.toInt).toNat < f → l_X8_far_0_71 n t a c f y S = (1, kw_ui (kw_ua S 3 (fun j => if 40 * a.toNatClampNeg + y.toNatClampNeg ≤ j ∧ j < 40 * a.toNatClampNeg + 40 then (if j < 40 * a.toNatClampNeg + n.toNatClampNeg then S.1 20 (j - 40 * a.toNatClampNeg) else 0) else S.1 3 j)) 0 2 c) := by
  intro f
  induction f with
  | zero => intro y S _ _ h; exact absurd h (Nat.not_lt_zero _)
  | succ f ih =>
    intro y S y0 y1 hf
    have cy := kw_clampI y0
    have cn := kw_clampI n0
    have ca := kw_clampI a0
    rw [l_X8_far_0_71_s]
    by_cases hy : y.toInt < 40
    · have z := kp_inc y (by omega)
      have c1 := kw_clampI (x := y + Int32.ofInt 1) (by omega)
      rw [if_pos (show y.toInt < (40 : Int32).toInt from hy)]
      have key : ∀ v : Int32, v = (if y.toInt < n.toInt then S.1 20 y.toNatClampNeg else 0) → l_X8_far_0_71 n t a c f (y + Int32.ofInt 1) (f_X8_setRow_0 S a y v) = (1, kw_ui (kw_ua S 3 (fun j => if 40 * a.toNatClampNeg + y.toNatClampNeg ≤ j ∧ j < 40 * a.toNatClampNeg + 40 then (if j < 40 * a.toNatClampNeg + n.toNatClampNeg then S.1 20 (j - 40 * a.toNatClampNeg) else 0) else S.1 3 j)) 0 2 c) := by
        intro v hv
        rw [kp_setRow S a y v a0 a5 y0 (by omega)]
        generalize hS : kw_ui S 3 (40 * a.toNatClampNeg + y.toNatClampNeg) v = S9
        have o : S9.1 20 = S.1 20 := by funext j; rw [← hS, kp_ui, if_neg (by omega)]
        rw [ih _ S9 (by omega) (by omega) (by omega), o]
        refine congrArg (Prod.mk 1) (kp_ext (fun d j => ?_) (fun b j => by rw [← hS]; rfl))
        rw [kp_ui, kp_ua, kp_ui, kp_ua]
        by_cases hc : d = 0 ∧ j = 2
        · rw [if_pos hc, if_pos hc]
        · rw [if_neg hc, if_neg hc]
          by_cases hd : d = 3
          · rw [if_pos hd, if_pos hd, ← hS, kp_ui]
            by_cases hj : j = 40 * a.toNatClampNeg + y.toNatClampNeg
            · rw [if_neg (show ¬ (40 * a.toNatClampNeg + (y + Int32.ofInt 1).toNatClampNeg ≤ j ∧ j < 40 * a.toNatClampNeg + 40) by omega), if_pos ⟨rfl, hj⟩, if_pos (show 40 * a.toNatClampNeg + y.toNatClampNeg ≤ j ∧ j < 40 * a.toNatClampNeg + 40 by omega), hv]
              by_cases hn : y.toInt < n.toInt
              · rw [if_pos hn, if_pos (show j < 40 * a.toNatClampNeg + n.toNatClampNeg by omega), show j - 40 * a.toNatClampNeg = y.toNatClampNeg by omega]
              · rw [if_neg hn, if_neg (show ¬ j < 40 * a.toNatClampNeg + n.toNatClampNeg by omega)]
            · rw [if_neg (show ¬ (3 = 3 ∧ j = 40 * a.toNatClampNeg + y.toNatClampNeg) from fun q => hj q.2)]
              by_cases h3 : 40 * a.toNatClampNeg + y.toNatClampNeg ≤ j ∧ j < 40 * a.toNatClampNeg + 40
              · rw [if_pos (show 40 * a.toNatClampNeg + (y + Int32.ofInt 1).toNatClampNeg ≤ j ∧ j < 40 * a.toNatClampNeg + 40 by omega), if_pos h3]
              · rw [if_neg (show ¬ (40 * a.toNatClampNeg + (y + Int32.ofInt 1).toNatClampNeg ≤ j ∧ j < 40 * a.toNatClampNeg + 40) by omega), if_neg h3]
          · rw [if_neg hd, if_neg hd, ← hS, kp_ui, if_neg (fun q => hd q.1)]
      simp only [kf_lx]
      by_cases hn : y.toInt < n.toInt
      · rw [if_pos hn]
        exact key _ (by rw [if_pos hn])
      · rw [if_neg hn]
        exact key _ (by rw [if_neg hn])
    · rw [if_neg (show ¬ y.toInt < (40 : Int32).toInt from hy)]
      simp only [kf_bx]
      rw [f_X8_ask_0_u]
      refine congrArg (Prod.mk 1) (kp_ext (fun d j => ?_) (fun _ _ => rfl))
      show (kw_ui S 0 2 c).1 d j = _
      rw [kp_ui, kp_ui, kp_ua]
      by_cases hc : d = 0 ∧ j = 2
      · rw [if_pos hc, if_pos hc]
      · rw [if_neg hc, if_neg hc]
        by_cases hd : d = 3
        · rw [if_pos hd, if_neg (show ¬ (40 * a.toNatClampNeg + y.toNatClampNeg ≤ j ∧ j < 40 * a.toNatClampNeg + 40) by omega), hd]
        · rw [if_neg hd]
theorem kr_far {x m s u : kw_S} {r q : Int32} (hX : kw_I bX x) (hL : kr_L x m) (hD : kr_D x m) (hW : kr_W x m) (n t a : Int32) (e1 : (r, s) = f_X7_far_0 x n t a) (e2 : (q, u) = f_X8_far_0 m n t a) : kr_W s u ∧ r = q ∧ (x.1 8 2 = m.1 0 2 → s.1 8 2 = u.1 0 2) := by
  have l2 := hL.2.1
  have hb : ∀ j : Nat, -1 ≤ (x.1 13 j).toInt ∧ (x.1 13 j).toInt ≤ 40 := fun j => hX 13 j
  have hr : 40 ≤ (x.1 1 0).toInt ∧ (x.1 1 0).toInt ≤ 40 := hX 1 0
  have q3 : (3 : Int32).toInt = 3 := rfl
  have q9 : (999 : Int32).toInt = 999 := rfl
  have h10 : ¬ (1 : Int32).toInt = 0 := by decide
  have h00 : (0 : Int32).toInt = 0 := rfl
  have bad : ∀ b : Int32, (r, s) = (b, x) → (q, u) = (b, m) → kr_W s u ∧ r = q ∧ (x.1 8 2 = m.1 0 2 → s.1 8 2 = u.1 0 2) := by
    intro b g1 g2
    obtain ⟨a1, a2⟩ := Prod.mk.inj g1
    obtain ⟨b1, b2⟩ := Prod.mk.inj g2
    rw [a1, a2, b1, b2]
    exact ⟨hW, rfl, fun h => h⟩
  rw [f_X7_far_0_u, f_X5_isEmpty_4_u] at e1
  rw [f_X8_far_0_u] at e2
  simp only [kf_lx, kf_bx, kp_has1] at e1
  simp only [kf_lx, kf_bx, kp_in, kp_isRow] at e2
  by_cases hn : (0 : Int32).toInt ≤ n.toInt ∧ n.toInt ≤ (3 : Int32).toInt
  · have hn' : 0 ≤ n.toInt ∧ n.toInt ≤ 3 := hn
    simp only [if_pos hn] at e2
    rw [if_neg h10] at e2
    rw [if_neg (show ¬ n.toInt < 0 by omega), if_neg (show ¬ (3 : Int32).toInt < n.toInt by omega)] at e1
    by_cases ht : (0 : Int32).toInt ≤ t.toInt ∧ t.toInt ≤ (999 : Int32).toInt
    · have ht' : 0 ≤ t.toInt ∧ t.toInt ≤ 999 := ht
      simp only [if_pos ht] at e2
      rw [if_neg h10] at e2
      rw [if_neg (show ¬ t.toInt < 0 by omega), if_neg (show ¬ (999 : Int32).toInt < t.toInt by omega)] at e1
      by_cases ha : 0 ≤ a.toInt ∧ a.toInt < 6
      · have ha5 : 0 ≤ a.toInt ∧ a.toInt ≤ 5 := by omega
        simp only [if_pos ha] at e1
        simp only [if_pos ha5] at e2
        rw [if_neg h10] at e1 e2
        rw [← hL.1] at e2
        by_cases h0 : (x.1 17 5).toInt < (1 : Int32).toInt
        · have h0' : (x.1 17 5).toInt < 1 := h0
          simp only [if_pos h0] at e1
          rw [if_neg h10] at e1
          rw [if_pos (show (x.1 17 5).toInt = 0 by omega)] at e2
          exact bad _ e1 e2
        · have h0' : ¬ (x.1 17 5).toInt < 1 := h0
          simp only [if_neg h0] at e1
          rw [if_pos h00] at e1
          rw [if_neg (show ¬ (x.1 17 5).toInt = 0 by omega)] at e2
          generalize hf : f_X6_find_7_4 x n t = p at e1
          obtain ⟨z3, S4⟩ := p
          obtain ⟨B1, z5, F4⟩ := kg_find hL hD (kg_gone hL hD) n t hn'.1 hn'.2 ht'.1 hf.symm
          obtain ⟨w, S6, ew, F6, B2⟩ := kg_by hL hD n t hn'.1 hn'.2 ht'.1
          have FM6 : kw_FM [18, 19, 20] m S6 := ((kw_FM.rf (L := [18, 19, 20])).tr (kh_set hL hD).1 (by decide)).tr F6 (by decide)
          rw [ew] at e2
          dsimp only at e1 e2
          generalize kg_S (kg_M x) (kg_T x) t (2 ^ (x.1 17 5).toNatClampNeg) n.toNatClampNeg 0 (x.1 4 6) (x.1 4 7) (fun _ => 0) none = B at B1 B2
          have qm : (-1048576 : Int32).toInt = -1048576 := rfl
          rcases B with _ | ⟨c, p⟩
          · have B1' : (S4.1 7 5).toInt = 0 := B1
            have B2' : w = -1048576 := B2
            rw [z5, if_pos B1'] at e1
            rw [B2', if_pos rfl] at e2
            obtain ⟨a1, a2⟩ := Prod.mk.inj e1
            obtain ⟨b1, b2⟩ := Prod.mk.inj e2
            rw [a1, a2, b1, b2]
            refine ⟨hW.fr F4 FM6 (by decide) (by decide), rfl, fun h => ?_⟩
            rw [(F4 8 (by decide)).1, FM6.2.1 2 (by decide)]
            exact h
          · obtain ⟨B11, B12, B13⟩ := B1
            obtain ⟨B21, B22, B23⟩ := B2
            have c1 := B22.1
            have cn := kw_clampI hn'.1
            have ca := kw_clampI ha.1
            rw [z5, if_neg B11, kp_make1 S4 (by rw [(F4 1 (by decide)).1]; omega) a n 0 ha.1 ha.2 hn'.1 (by omega)] at e1
            rw [if_neg (show ¬ w.toInt = (-1048576 : Int32).toInt by rw [B21, qm]; omega), kg_farM n t a w ha.1 ha5.2 hn'.1 _ 0 _ (by decide) (by decide) (by rw [kp_q0]; omega)] at e2
            generalize hS5 : kw_ua (kw_ui S4 13 a.toNatClampNeg n) (29 + a.toNatClampNeg) (fun j => if j < 40 then (0 : Int32) else S4.1 (29 + a.toNatClampNeg) j) = S5 at e1
            have o13 : ∀ j : Nat, S5.1 13 j = if j = a.toNatClampNeg then n else x.1 13 j := fun j => by
              rw [← hS5, kp_ua, if_neg (by omega), kp_ui, (F4 13 (by decide)).1]
              by_cases e : j = a.toNatClampNeg
              · rw [if_pos ⟨rfl, e⟩, if_pos e]
              · rw [if_neg (fun z => e z.2), if_neg e]
            have oo : ∀ b : Nat, b < 29 → b ≠ 13 → S5.1 b = S4.1 b := fun b h h' => by
              funext j
              rw [← hS5, kp_ua, if_neg (by omega), kp_ui, if_neg (fun z => h' z.1)]
            have q0 : (0 : Int32).toNatClampNeg = 0 := rfl
            rw [kg_farX n t a ha.1 ha.2 hn'.1 _ 0 S5 (by decide) (by rw [kp_q0]; omega) hn'.2 (by rw [kp_q0]; omega) (fun j => by
              rw [o13]
              by_cases e : j = a.toNatClampNeg
              · rw [if_pos e]; omega
              · rw [if_neg e]; exact hb j) (by rw [o13, if_pos rfl]), oo 24 (by decide) (by decide), oo 7 (by decide) (by decide)] at e1
            obtain ⟨a1, a2⟩ := Prod.mk.inj e1
            obtain ⟨b1, b2⟩ := Prod.mk.inj e2
            rw [q0] at a2 b2
            refine ⟨⟨fun k hk => ?_, fun k i hk hi => ?_⟩, by rw [a1, b1], fun _ => ?_⟩
            · have s13 : s.1 13 k = if k = a.toNatClampNeg then n else x.1 13 k := by rw [a2, kp_ui, if_neg (by omega), kp_ua, if_neg (by omega), o13]
              have u2 : u.1 2 k = if k = a.toNatClampNeg then n else m.1 2 k := by
                rw [b2, kp_ui, if_neg (by omega), kp_ua, if_neg (by omega), kp_ui, FM6.1 2 (by decide) (by decide)]
                by_cases e : k = a.toNatClampNeg
                · rw [if_pos ⟨rfl, e⟩, if_pos e]
                · rw [if_neg (fun z => e z.2), if_neg e]
              rw [s13, u2]
              by_cases e : k = a.toNatClampNeg
              · rw [if_pos e, if_pos e]; exact Or.inr ⟨rfl, hn'.1⟩
              · rw [if_neg e, if_neg e]; exact hW.1 k hk
            · rw [a2, b2, kp_ui, if_neg (show ¬ (29 + k = 8 ∧ i = 2) by omega), kp_ua, kp_ui, if_neg (show ¬ (3 = 0 ∧ 40 * k + i = 2) by omega), kp_ua, if_pos (show 3 = 3 from rfl)]
              by_cases e : k = a.toNatClampNeg
              · rw [if_pos (show 29 + k = 29 + a.toNatClampNeg by omega), if_pos (show 40 * a.toNatClampNeg + 0 ≤ 40 * k + i ∧ 40 * k + i < 40 * a.toNatClampNeg + 40 by omega)]
                by_cases hi2 : i < n.toNatClampNeg
                · rw [if_pos (show 0 ≤ i ∧ i < n.toNatClampNeg from ⟨Nat.zero_le _, hi2⟩), if_pos (show 40 * k + i < 40 * a.toNatClampNeg + n.toNatClampNeg by omega), show 40 * k + i - 40 * a.toNatClampNeg = i by omega, B13 i hi2, kp_ui, if_neg (by omega), B23 i hi2]
                · rw [if_neg (show ¬ (0 ≤ i ∧ i < n.toNatClampNeg) from fun z => hi2 z.2), if_neg (show ¬ 40 * k + i < 40 * a.toNatClampNeg + n.toNatClampNeg by omega), ← hS5, kp_ua, if_pos rfl, if_pos hi]
              · rw [if_neg (show ¬ 29 + k = 29 + a.toNatClampNeg by omega), if_neg (show ¬ (40 * a.toNatClampNeg + 0 ≤ 40 * k + i ∧ 40 * k + i < 40 * a.toNatClampNeg + 40) by omega), ← hS5, kp_ua, if_neg (show ¬ 29 + k = 29 + a.toNatClampNeg by omega), kp_ui, if_neg (by omega), kp_ui, if_neg (by omega), FM6.1 3 (by decide) (by decide), (F4 (29 + k) (by simp; omega)).1]
                exact hW.2 k i hk hi
            · rw [a2, b2, kp_ui, if_pos ⟨rfl, rfl⟩, kp_ui, if_pos ⟨rfl, rfl⟩, B12, B21]
      · have ha5 : ¬ (0 ≤ a.toInt ∧ a.toInt ≤ 5) := by omega
        simp only [if_neg ha] at e1
        simp only [if_neg ha5] at e2
        rw [if_pos h00] at e1 e2
        exact bad _ e1 e2
    · have ht' : ¬ (0 ≤ t.toInt ∧ t.toInt ≤ 999) := ht
      simp only [if_neg ht] at e2
      rw [if_pos h00] at e2
      by_cases h2 : t.toInt < 0
      · rw [if_pos h2] at e1
        exact bad _ e1 e2
      · rw [if_neg h2, if_pos (show (999 : Int32).toInt < t.toInt by omega)] at e1
        exact bad _ e1 e2
  · have hn' : ¬ (0 ≤ n.toInt ∧ n.toInt ≤ 3) := hn
    simp only [if_neg hn] at e2
    rw [if_pos h00] at e2
    by_cases h2 : n.toInt < 0
    · rw [if_pos h2] at e1
      exact bad _ e1 e2
    · rw [if_neg h2, if_pos (show (3 : Int32).toInt < n.toInt by omega)] at e1
      exact bad _ e1 e2
