/-! ===== the reference's rows of miles and turns by hour and set; the soonest ===== -/
def kh_T (x S : kw_S) (k s : Nat) : Prop := S.1 18 (64 * k + s) = f_X1_milesOf_17 x (Int32.ofNat s) (f_X1_windAt_17 x (x.1 4 5 + Int32.ofNat k)) ∧ S.1 19 (64 * k + s) = f_X1_turnOf_17 x (Int32.ofNat s) (f_X1_windAt_17 x (x.1 4 5 + Int32.ofNat k))
theorem kh_in {x m : kw_S} (hL : kr_L x m) (hD : kr_D x m) (k : Int32) (k0 : 0 ≤ k.toInt) (k1 : k.toInt < 3) (kk : Int32 → kw_S → kw_S) : ∀ (n : Nat) (y : Int32) (S : kw_S), 0 ≤ y.toInt → y.toInt ≤ (2 ^ (x.1 17 5).toNatClampNeg : Nat) → kw_FM [18, 19] m S → (∀ s : Nat, (s : Int) < y.toInt → kh_T x S k.toNatClampNeg s) → (∀ q s : Nat, q < k.toNatClampNeg → s < 2 ^ (x.1 17 5).toNatClampNeg → kh_T x S q s) → (64 - y.toInt).toNat < n → ∃ S' : kw_S, l_X8_setHours_0_9 kk k n y S = kk (k + Int32.ofInt 1) S' ∧ kw_FM [18, 19] m S' ∧ ∀ q s : Nat, q < k.toNatClampNeg + 1 → s < 2 ^ (x.1 17 5).toNatClampNeg → kh_T x S' q s := by
  have l2 := hL.2.1
  have cl := kw_clampI l2.1
  have pw := kc_pow (x.1 17 5).toNatClampNeg (by omega)
  have p1 := kc_pow1 (x.1 17 5) l2.1 l2.2
  have n1 := (kd_now hL hD).1
  have ck := kw_clampI k0
  have e22 : m.1 0 22 = x.1 4 5 := hD.2.2.2.2.1.1
  have ek : (x.1 4 5 + k).toInt = (x.1 4 5).toInt + k.toInt := by rw [kw_addI]; omega
  intro n
  induction n with
  | zero => intro y S _ _ _ _ _ h; exact absurd h (Nat.not_lt_zero _)
  | succ n ih =>
    intro y S y0 y1 hF hs hq h1
    have cy := kw_clampI y0
    have hLS : kr_L x S := hL.cong (fun _ _ => rfl) (fun a ha => hF.1 a (by omega) (by simp; omega)) (hF.2.1 10 (by decide)) (hF.2.1 11 (by decide))
    rw [l_X8_setHours_0_9_s, ← hLS.1]
    simp only [kf_lx]
    by_cases hy : y.toInt < (2 ^ (x.1 17 5).toNatClampNeg : Nat)
    · have z := kp_inc y (by omega)
      rw [if_pos (show y.toInt < ((1 : Int32) <<< (x.1 17 5 &&& 31)).toInt by rw [p1]; exact hy), kp_idx 64 64 k y rfl (by decide) k0 (by omega) y0 (by omega), hF.2.1 22 (by decide), e22, ← kt_windAt hLS (x.1 4 5 + k) (by omega), ← kt_miles hLS]
      have hLU : ∀ v : Int32, kr_L x (kw_ui S 18 (64 * k.toNatClampNeg + y.toNatClampNeg) v) := fun v => hLS.cong (fun _ _ => rfl) (fun a ha => by funext j; rw [kp_ui, if_neg (by omega)]) (by rw [kp_ui, if_neg (by omega)]) (by rw [kp_ui, if_neg (by omega)])
      rw [← kt_windAt (hLU _) (x.1 4 5 + k) (by omega), ← kt_turn (hLU _)]
      generalize hU : kw_ui (kw_ui S 18 (64 * k.toNatClampNeg + y.toNatClampNeg) (f_X1_milesOf_17 x y (f_X1_windAt_17 x (x.1 4 5 + k)))) 19 (64 * k.toNatClampNeg + y.toNatClampNeg) (f_X1_turnOf_17 x y (f_X1_windAt_17 x (x.1 4 5 + k))) = U
      have v18 : ∀ j : Nat, j ≠ 64 * k.toNatClampNeg + y.toNatClampNeg → U.1 18 j = S.1 18 j ∧ U.1 19 j = S.1 19 j := fun j hj => by
        rw [← hU]
        exact ⟨by rw [kp_ui, if_neg (by omega), kp_ui, if_neg (by omega)], by rw [kp_ui, if_neg (by omega), kp_ui, if_neg (by omega)]⟩
      refine ih (y + Int32.ofInt 1) U (by omega) (by omega) (by rw [← hU]; exact kw_FM_ui (kw_FM_ui hF (by decide) (by decide)) (by decide) (by decide)) (fun s hs2 => ?_) (fun q s g1 g2 => ?_) (by omega)
      · by_cases e : s = y.toNatClampNeg
        · unfold kh_T
          rw [e, kd_ofNat y y0, kd_ofNat k k0, ← hU]
          exact ⟨by rw [kp_ui, if_neg (by omega), kp_ui, if_pos ⟨rfl, rfl⟩], by rw [kp_ui, if_pos ⟨rfl, rfl⟩]⟩
        · obtain ⟨u1, u2⟩ := v18 (64 * k.toNatClampNeg + s) (by omega)
          unfold kh_T
          rw [u1, u2]
          exact hs s (by omega)
      · obtain ⟨u1, u2⟩ := v18 (64 * q + s) (by omega)
        unfold kh_T
        rw [u1, u2]
        exact hq q s g1 g2
    · rw [if_neg (show ¬ y.toInt < ((1 : Int32) <<< (x.1 17 5 &&& 31)).toInt by rw [p1]; exact hy)]
      refine ⟨S, rfl, hF, fun q s g1 g2 => ?_⟩
      by_cases e : q = k.toNatClampNeg
      · rw [e]; exact hs s (by omega)
      · exact hq q s (by omega) g2
theorem kh_set {x m : kw_S} (hL : kr_L x m) (hD : kr_D x m) : kw_FM [18, 19] m (f_X8_setHours_0 m) ∧ ∀ q s : Nat, q < 3 → s < 2 ^ (x.1 17 5).toNatClampNeg → kh_T x (f_X8_setHours_0 m) q s := by
  have l2 := hL.2.1
  have cl := kw_clampI l2.1
  have pw := kc_pow (x.1 17 5).toNatClampNeg (by omega)
  have L : ∀ (n : Nat) (k : Int32) (S : kw_S), 0 ≤ k.toInt → k.toInt ≤ 3 → kw_FM [18, 19] m S → (∀ q s : Nat, q < k.toNatClampNeg → s < 2 ^ (x.1 17 5).toNatClampNeg → kh_T x S q s) → (3 - k.toInt).toNat < n → kw_FM [18, 19] m (l_X8_setHours_0_2 n k S) ∧ ∀ q s : Nat, q < 3 → s < 2 ^ (x.1 17 5).toNatClampNeg → kh_T x (l_X8_setHours_0_2 n k S) q s := by
    intro n
    induction n with
    | zero => intro k S _ _ _ _ h; exact absurd h (Nat.not_lt_zero _)
    | succ n ih =>
      intro k S k0 k1 hF hq h1
      have ck := kw_clampI k0
      rw [l_X8_setHours_0_2_s]
      by_cases hk : k.toInt < 3
      · have z := kp_inc k (by omega)
        have c1 := kw_clampI (x := k + Int32.ofInt 1) (by omega)
        rw [if_pos (show k.toInt < (3 : Int32).toInt from hk)]
        obtain ⟨S', a1, a2, a3⟩ := kh_in hL hD k k0 hk (l_X8_setHours_0_2 n) ((65 - (0 : Int32).toInt).toNat + 1) 0 S (by decide) (by rw [kp_q0]; omega) hF (fun s hs => by rw [kp_q0] at hs; omega) hq (by rw [kp_q0]; omega)
        rw [a1]
        exact ih (k + Int32.ofInt 1) S' (by omega) (by omega) a2 (fun q s g1 g2 => a3 q s (by omega) g2) (by omega)
      · rw [if_neg (show ¬ k.toInt < (3 : Int32).toInt from hk)]
        exact ⟨hF, fun q s g1 g2 => hq q s (by omega) g2⟩
  rw [f_X8_setHours_0_u]
  exact L _ 0 m (by decide) (by decide) kw_FM.rf (fun q s g1 => by rw [show (0 : Int32).toNatClampNeg = 0 from rfl] at g1; omega) (by rw [kp_q0]; omega)
theorem kh_down : ∀ l : Nat, l < 7 → ∀ s : Nat, s < 64 → s < 2 ^ l → 0 < s → ((Int32.ofNat s - 1) &&& (((1 : Int32) <<< (Int32.ofNat l &&& 31)) - 1)) = Int32.ofNat (s - 1) := by decide +kernel
/-- the reference's most of an hour, over all lines, is the class's -/
theorem kh_most {x S : kw_S} (hL : kr_L x S) (k : Int32) (k0 : 0 ≤ k.toInt) (k1 : k.toInt < 3) (w0 : 0 ≤ (f_X1_windAt_17 x (x.1 4 5 + k)).toInt) (w1 : (f_X1_windAt_17 x (x.1 4 5 + k)).toInt ≤ 6) (hT : ∀ s : Nat, s < 2 ^ (x.1 17 5).toNatClampNeg → kh_T x S k.toNatClampNeg s) : f_X8_mostOf_0 S k (((1 : Int32) <<< (x.1 17 5 &&& 31)) - 1) = f_X1_mostMilesOf_17 x (f_X1_allLines_17 x) (f_X1_windAt_17 x (x.1 4 5 + k)) := by
  have l2 := hL.2.1
  have cl := kw_clampI l2.1
  have pw := kc_pow (x.1 17 5).toNatClampNeg (by omega)
  have p1 := kc_pow1 (x.1 17 5) l2.1 l2.2
  have ck := kw_clampI k0
  have hd := kh_down (x.1 17 5).toNatClampNeg (by omega)
  rw [kd_ofNat _ l2.1] at hd
  have eA : (((1 : Int32) <<< (x.1 17 5 &&& 31)) - 1).toInt = (2 ^ (x.1 17 5).toNatClampNeg : Nat) - 1 := by rw [kw_subI, p1, kp_q1]; omega
  generalize hA : ((1 : Int32) <<< (x.1 17 5 &&& 31)) - 1 = A at *
  generalize hw : f_X1_windAt_17 x (x.1 4 5 + k) = w at *
  have tb : ∀ s : Int32, 0 ≤ s.toInt → s.toInt < (2 ^ (x.1 17 5).toNatClampNeg : Nat) → S.1 18 (64 * k.toNatClampNeg + s.toNatClampNeg) = f_X1_milesOf_17 x s w := fun s s0 s1 => by
    have cs := kw_clampI s0
    have := (hT s.toNatClampNeg (by omega)).1
    rw [kd_ofNat s s0, kd_ofNat k k0, hw] at this
    exact this
  have L : ∀ (n : Nat) (a s : Int32), 0 ≤ s.toInt → s.toInt < (2 ^ (x.1 17 5).toNatClampNeg : Nat) → s.toInt.toNat < n → a.toInt ≤ (l_X8_mostOf_0_5 k A S n a s).toInt ∧ (∀ q : Int32, 1 ≤ q.toInt → q.toInt ≤ s.toInt → (f_X1_milesOf_17 x q w).toInt ≤ (l_X8_mostOf_0_5 k A S n a s).toInt) ∧ (l_X8_mostOf_0_5 k A S n a s = a ∨ ∃ q : Int32, 1 ≤ q.toInt ∧ q.toInt ≤ s.toInt ∧ l_X8_mostOf_0_5 k A S n a s = f_X1_milesOf_17 x q w) := by
    intro n
    induction n with
    | zero => intro a s _ _ h; exact absurd h (Nat.not_lt_zero _)
    | succ n ih =>
      intro a s s0 s1 h1
      have cs := kw_clampI s0
      rw [l_X8_mostOf_0_5_s]
      simp only [kf_lx]
      by_cases hs : 0 < s.toInt
      · have dn := hd s.toNatClampNeg (by omega) (by omega) (by omega)
        rw [kd_ofNat s s0] at dn
        have ds : (Int32.ofNat (s.toNatClampNeg - 1)).toInt = s.toInt - 1 := by rw [kz_ofNatI _ (by omega)]; omega
        rw [if_pos hs, kp_idx 64 64 k s rfl (by decide) k0 (by omega) s0 (by omega), tb s s0 s1, dn, f_X8_greater_u]
        have fork : ∀ b : Int32, a.toInt ≤ b.toInt → (f_X1_milesOf_17 x s w).toInt ≤ b.toInt → (b = a ∨ b = f_X1_milesOf_17 x s w) → a.toInt ≤ (l_X8_mostOf_0_5 k A S n b (Int32.ofNat (s.toNatClampNeg - 1))).toInt ∧ (∀ q : Int32, 1 ≤ q.toInt → q.toInt ≤ s.toInt → (f_X1_milesOf_17 x q w).toInt ≤ (l_X8_mostOf_0_5 k A S n b (Int32.ofNat (s.toNatClampNeg - 1))).toInt) ∧ (l_X8_mostOf_0_5 k A S n b (Int32.ofNat (s.toNatClampNeg - 1)) = a ∨ ∃ q : Int32, 1 ≤ q.toInt ∧ q.toInt ≤ s.toInt ∧ l_X8_mostOf_0_5 k A S n b (Int32.ofNat (s.toNatClampNeg - 1)) = f_X1_milesOf_17 x q w) := by
          intro b b1 b2 b3
          obtain ⟨a1, a2, a3⟩ := ih b (Int32.ofNat (s.toNatClampNeg - 1)) (by omega) (by omega) (by omega)
          refine ⟨by omega, fun q q0 q1 => ?_, ?_⟩
          · by_cases e : q.toInt = s.toInt
            · rw [Int32.toInt_inj.mp e]; omega
            · exact a2 q q0 (by omega)
          · rcases a3 with a3 | ⟨q, q0, q1, a3⟩
            · rcases b3 with b3 | b3
              · exact Or.inl (a3.trans b3)
              · exact Or.inr ⟨s, by omega, Int.le_refl _, a3.trans b3⟩
            · exact Or.inr ⟨q, q0, by omega, a3⟩
        by_cases hg : (f_X1_milesOf_17 x s w).toInt < a.toInt
        · rw [if_pos hg]
          exact fork a (Int.le_refl _) (by omega) (Or.inl rfl)
        · rw [if_neg hg]
          exact fork _ (by omega) (Int.le_refl _) (Or.inr rfl)
      · rw [if_neg hs]
        exact ⟨Int.le_refl _, fun q q0 q1 => by omega, Or.inl rfl⟩
  rw [f_X8_mostOf_0_u]
  obtain ⟨a1, a2, a3⟩ := L (A.toInt.toNat + 1) 0 A (by omega) (by omega) (Nat.lt_succ_self _)
  generalize l_X8_mostOf_0_5 k A S (A.toInt.toNat + 1) 0 A = r at *
  have hm := kz_most hL w w0 w1
  apply Int32.toInt_inj.mp
  rw [hm]
  have B := kz_bound hL w w0 w1
  rw [kp_q0] at a1
  obtain ⟨-, -, -, b4, b5, b6, b7⟩ := B 0 (x.1 17 5).toNatClampNeg (by omega)
  have hge : 0 ≤ (kz_p x w (x.1 17 5).toNatClampNeg).tdiv 4 := Int.tdiv_nonneg b4 (by decide)
  have hle : ∀ q : Int32, 1 ≤ q.toInt → q.toInt ≤ A.toInt → (f_X1_milesOf_17 x q w).toInt ≤ (kz_p x w (x.1 17 5).toNatClampNeg).tdiv 4 := fun q q0 q1 => by
    rw [kz_miles hL w w0 w1 q (by omega) (by omega)]
    exact kz_mono _ _ (B q.toNatClampNeg (x.1 17 5).toNatClampNeg (by omega)).2.2.1
  have up : r.toInt ≤ (kz_p x w (x.1 17 5).toNatClampNeg).tdiv 4 := by
    rcases a3 with rfl | ⟨q, q0, q1, rfl⟩
    · rw [kp_q0]; exact hge
    · exact hle q q0 q1
  have lo : (kz_p x w (x.1 17 5).toNatClampNeg).tdiv 4 ≤ r.toInt := by
    by_cases hb : kz_b x w (x.1 17 5).toNatClampNeg = 0
    · rw [hb] at b7
      have e0 : ∀ n : Nat, kz_s x w 0 n = 0 := by
        intro n
        induction n with
        | zero => rfl
        | succ n ih => rw [kz_sS, Nat.zero_testBit, if_neg (by decide), ih]
      rw [← b7, e0]
      exact a1
    · have eb := kz_ofNatI (kz_b x w (x.1 17 5).toNatClampNeg) (by omega)
      have cb := kw_clampI (x := Int32.ofNat (kz_b x w (x.1 17 5).toNatClampNeg)) (by omega)
      have := a2 (Int32.ofNat (kz_b x w (x.1 17 5).toNatClampNeg)) (by omega) (by omega)
      rw [kz_miles hL w w0 w1 _ (by omega) (by omega), show (Int32.ofNat (kz_b x w (x.1 17 5).toNatClampNeg)).toNatClampNeg = kz_b x w (x.1 17 5).toNatClampNeg by omega, b7] at this
      exact this
  omega
theorem kh_wind {x m : kw_S} (hL : kr_L x m) (k : Int32) (k0 : 0 ≤ k.toInt) : 0 ≤ (f_X1_windAt_17 x k).toInt ∧ (f_X1_windAt_17 x k).toInt ≤ 5 := by
  rw [f_X1_windAt_17_u]
  simp only [kf_lx]
  rcases hL.2.2.1 with ⟨-, h6, -, -⟩ | ⟨-, -, g1, g2, gw⟩
  · rw [h6, if_pos (by decide)]; decide
  · have e := kw_remI k (x.1 17 6) _ rfl k0 (by omega)
    have c := kw_clampI e.1
    rw [if_neg (show ¬ (x.1 17 6).toInt < (1 : Int32).toInt by rw [kp_q1]; omega), if_neg (show ¬ k.toInt < 0 by omega)]
    exact (gw _ (by omega)).2
theorem kr_soon {x m t : kw_S} {r q : Int32} (hL : kr_L x m) (hD : kr_D x m) (k : Int32) (e1 : r = f_X7_soon_0 x k) (e2 : (q, t) = f_X8_soon_0 m k) : r = q := by
  have l2 := hL.2.1
  have n1 := (kd_now hL hD).1
  have qm : (-999 : Int32).toInt = -999 := rfl
  have q9 : (999 : Int32).toInt = 999 := rfl
  rw [f_X7_soon_0_u, f_X5_isEmpty_4_u] at e1
  rw [f_X8_soon_0_u] at e2
  simp only [kf_lx, kp_in] at e1 e2
  by_cases h1 : (-999 : Int32).toInt ≤ k.toInt ∧ k.toInt ≤ (999 : Int32).toInt
  · have h1' : -999 ≤ k.toInt ∧ k.toInt ≤ 999 := h1
    rw [if_neg (show ¬ k.toInt < (-999 : Int32).toInt by omega), if_neg (show ¬ (999 : Int32).toInt < k.toInt by omega)] at e1
    simp only [if_pos h1] at e2
    rw [if_neg (show ¬ (1 : Int32).toInt = 0 by decide), ← hL.1] at e2
    by_cases h0 : (x.1 17 5).toInt < (1 : Int32).toInt
    · have h0' : (x.1 17 5).toInt < 1 := h0
      simp only [if_pos h0] at e1
      rw [if_neg (show ¬ (1 : Int32).toInt = 0 by decide)] at e1
      rw [if_pos (show (x.1 17 5).toInt = 0 by omega)] at e2
      cases e2
      exact e1
    · have h0' : ¬ (x.1 17 5).toInt < 1 := h0
      simp only [if_neg h0] at e1
      rw [if_pos (show (0 : Int32).toInt = 0 from rfl)] at e1
      rw [if_neg (show ¬ (x.1 17 5).toInt = 0 by omega)] at e2
      obtain ⟨s1, s2⟩ := kh_set hL hD
      generalize f_X8_setHours_0 m = S at *
      have hLS : kr_L x S := hL.cong (fun _ _ => rfl) (fun a ha => s1.1 a (by omega) (by simp; omega)) (s1.2.1 10 (by decide)) (s1.2.1 11 (by decide))
      have e23 : S.1 0 23 = x.1 4 6 := by rw [s1.2.1 23 (by decide)]; exact hD.2.2.2.2.1.2.1
      rw [e23] at e2
      have L : ∀ (n n' : Nat) (a i : Int32), 0 ≤ i.toInt → i.toInt ≤ 3 → (4 - i.toInt).toNat < n → (3 - i.toInt).toNat < n' → l_X7_soon_0_51 k (f_X1_allLines_17 x) x n a i = (l_X8_soon_0_36 k S n' a i).1 := by
        intro n
        induction n with
        | zero => intro n' a i _ _ h _; exact absurd h (Nat.not_lt_zero _)
        | succ n ih =>
          intro n' a i i0 i1 g1 g2
          cases n' with
          | zero => exact absurd g2 (Nat.not_lt_zero _)
          | succ n' =>
            have ci := kw_clampI i0
            have z := kp_inc i (by omega)
            rw [l_X7_soon_0_51_s, l_X8_soon_0_36_s, if_neg (show ¬ (3 : Int32).toInt < i.toInt by rw [show (3 : Int32).toInt = 3 from rfl]; omega)]
            simp only [kf_lx]
            by_cases hi : i.toInt < 3
            · rw [if_pos (show i.toInt < (3 : Int32).toInt from hi)]
              by_cases ha : a.toInt < k.toInt
              · rw [if_pos ha, if_pos ha, f_X5_windAhead_4_u]
                simp only [kf_lx]
                have ek : (x.1 4 5 + i).toInt = (x.1 4 5).toInt + i.toInt := by rw [kw_addI]; omega
                have wb := kh_wind hL (x.1 4 5 + i) (by omega)
                rw [← hLS.1, kh_most hLS i i0 hi wb.1 (by omega) (fun s hs => s2 _ s (by omega) hs)]
                exact ih n' _ _ (by omega) (by omega) (by omega) (by omega)
              · rw [if_neg ha, if_neg ha, if_neg ha]
            · rw [if_neg (show ¬ i.toInt < (3 : Int32).toInt from hi)]
              by_cases ha : a.toInt < k.toInt
              · rw [if_pos ha, if_pos ha]
                cases n with
                | zero => omega
                | succ n => rw [l_X7_soon_0_51_s, if_pos (show (3 : Int32).toInt < (i + Int32.ofInt 1).toInt by rw [show (3 : Int32).toInt = 3 from rfl]; omega)]
              · rw [if_neg ha, if_neg ha, Int32.toInt_inj.mp (show i.toInt = i.toInt from rfl)]
      have hh := L ((5 - (0 : Int32).toInt).toNat + 1) ((4 - (0 : Int32).toInt).toNat + 1) (x.1 4 6) 0 (by decide) (by decide) (by rw [kp_q0]; omega) (by rw [kp_q0]; omega)
      rw [← e1, ← e2] at hh
      exact hh
  · have h1' : ¬ (-999 ≤ k.toInt ∧ k.toInt ≤ 999) := h1
    simp only [if_neg h1] at e2
    rw [if_pos (show (0 : Int32).toInt = 0 from rfl)] at e2
    cases e2
    by_cases h2 : k.toInt < (-999 : Int32).toInt
    · rw [if_pos h2] at e1
      exact e1
    · rw [if_neg h2, if_pos (show (999 : Int32).toInt < k.toInt by omega)] at e1
      exact e1
