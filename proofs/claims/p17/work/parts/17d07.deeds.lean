/-! ===== deeds: a town's state behind a row of deeds; the class's act and replay ===== -/
abbrev kd_T : Type := Int32 × Int32 × Int32 × Int32 × (Nat → Int32)
def kd_dry (w v : Int32) : Int32 := if 0 < w.toInt then (if (0 : Int32) < v - 1 then v - 1 else 0) else (if v + 2 < (9 : Int32) then v + 2 else 9)
def kd_wets (hung w : Int32) (f : Nat → Int32) : Nat → Int32 := fun i => if i < 6 ∧ ¬ ((hung >>> (Int32.ofNat i &&& 31)) &&& 1).toInt = 0 then kd_dry w (f i) else f i
noncomputable def kd_step (x : kw_S) (s : kd_T) (e : Int32) : kd_T := if e.toInt = 6 then (s.1 + 1, s.2.1 + f_X1_milesOf_17 x s.2.2.2.1 (f_X1_windAt_17 x s.1), s.2.2.1 + f_X1_turnOf_17 x s.2.2.2.1 (f_X1_windAt_17 x s.1), s.2.2.2.1, kd_wets s.2.2.2.1 (f_X1_windAt_17 x s.1) s.2.2.2.2) else (s.1, s.2.1, s.2.2.1, s.2.2.2.1 ^^^ ((1 : Int32) <<< (e &&& 31)), s.2.2.2.2)
noncomputable def kd_run (x : kw_S) (D : Nat → Int32) : Nat → kd_T
  | 0 => (0, 0, 0, 0, fun _ => 0)
  | d + 1 => kd_step x (kd_run x D d) (D d)
def kd_get (x : kw_S) : kd_T := (x.1 4 5, x.1 4 6, x.1 4 7, x.1 4 4, x.1 19)
theorem kd_step_lay {x y : kw_S} (h : kd_lay x y) (s : kd_T) (e : Int32) : kd_step y s e = kd_step x s e := by
  unfold kd_step
  rw [h.windAt, h.miles, h.turn]
theorem kd_run_cong {x y : kw_S} (h : kd_lay x y) {D D' : Nat → Int32} : ∀ (n : Nat), (∀ d : Nat, d < n → D' d = D d) → kd_run y D' n = kd_run x D n
  | 0, _ => rfl
  | n + 1, hd => by
    show kd_step y (kd_run y D' n) (D' n) = kd_step x (kd_run x D n) (D n)
    rw [kd_run_cong h n (fun d hd2 => hd d (by omega)), hd n (by omega), kd_step_lay h]
theorem kd_ofNat (x : Int32) (h0 : 0 ≤ x.toInt) : Int32.ofNat x.toNatClampNeg = x := by
  apply Int32.toInt_inj.mp
  have c := kw_clampI h0
  have r := kw_rng x
  have e : (Int32.ofNat x.toNatClampNeg).toInt = (x.toNatClampNeg : Int) := nI_toInt (by omega)
  rw [e, c]
theorem kd_weather (S : kw_S) (hung w : Int32) : f_X7_weather_19 S hung w = kw_ua S 19 (kd_wets hung w (S.1 19)) := by
  have L : ∀ (n : Nat) (x : Int32) (S : kw_S), 0 ≤ x.toInt → x.toInt ≤ 6 → (6 - x.toInt).toNat < n → l_X7_weather_19_2 hung w n x S = kw_ua S 19 (fun i => if x.toNatClampNeg ≤ i then kd_wets hung w (S.1 19) i else S.1 19 i) := by
    intro n
    induction n with
    | zero => intro x S _ _ h; exact absurd h (Nat.not_lt_zero _)
    | succ n ih =>
      intro x S h0 h1 h2
      have c := kw_clampI h0
      rw [l_X7_weather_19_2_s]
      simp only [kf_lx]
      by_cases hx : x.toInt < 6
      · have z := kp_inc x (by omega)
        have c1 := kw_clampI (x := x + Int32.ofInt 1) (by omega)
        have en := kd_ofNat x h0
        rw [if_pos (show x.toInt < (6 : Int32).toInt from hx), if_pos (show x.toInt < (6 : Int32).toInt from hx)]
        by_cases hb : ((hung >>> (x &&& 31)) &&& 1).toInt = 0
        · rw [if_pos hb, ih _ _ (by omega) (by omega) (by omega)]
          refine kp_ext (fun b j => ?_) (fun _ _ => rfl)
          simp only [kp_ua]
          by_cases hb2 : b = 19
          · rw [if_pos hb2, if_pos hb2]
            by_cases hj : j = x.toNatClampNeg
            · subst hj
              rw [if_neg (by omega), if_pos (Nat.le_refl _)]
              unfold kd_wets
              rw [en, if_neg (fun q => q.2 hb)]
            · by_cases h3 : x.toNatClampNeg ≤ j
              · rw [if_pos (by omega), if_pos h3]
              · rw [if_neg (by omega), if_neg h3]
          · rw [if_neg hb2, if_neg hb2]
        · rw [if_neg hb]
          have key : ∀ v : Int32, kd_dry w (S.1 19 x.toNatClampNeg) = v → l_X7_weather_19_2 hung w n (x + Int32.ofInt 1) (kw_ui S 19 x.toNatClampNeg v) = kw_ua S 19 (fun i => if x.toNatClampNeg ≤ i then kd_wets hung w (S.1 19) i else S.1 19 i) := by
            intro v hv
            rw [ih _ _ (by omega) (by omega) (by omega)]
            refine kp_ext (fun b j => ?_) (fun _ _ => rfl)
            simp only [kp_ua]
            by_cases hb2 : b = 19
            · rw [if_pos hb2, if_pos hb2]
              by_cases hj : j = x.toNatClampNeg
              · subst hj
                rw [if_neg (by omega), if_pos (Nat.le_refl _), kp_ui, if_pos ⟨rfl, rfl⟩]
                unfold kd_wets
                rw [en, if_pos ⟨by omega, hb⟩, hv]
              · have e19 : (kw_ui S 19 x.toNatClampNeg v).1 19 j = S.1 19 j := by rw [kp_ui, if_neg (fun q => hj q.2)]
                by_cases h3 : x.toNatClampNeg ≤ j
                · rw [if_pos (by omega), if_pos h3]
                  unfold kd_wets
                  rw [e19]
                · rw [if_neg (by omega), if_neg h3, e19]
            · rw [if_neg hb2, if_neg hb2, kp_ui, if_neg (fun q => hb2 q.1)]
          by_cases hw : 0 < w.toInt
          · rw [if_pos hw]
            exact key _ (by unfold kd_dry; rw [if_pos hw])
          · rw [if_neg hw]
            exact key _ (by unfold kd_dry; rw [if_neg hw])
      · rw [if_neg (show ¬ x.toInt < (6 : Int32).toInt from hx)]
        refine kp_ext (fun b j => ?_) (fun _ _ => rfl)
        simp only [kp_ua]
        by_cases hb2 : b = 19
        · subst hb2
          rw [if_pos rfl]
          by_cases h3 : x.toNatClampNeg ≤ j
          · rw [if_pos h3]
            unfold kd_wets
            rw [if_neg (fun q => by omega)]
          · rw [if_neg h3]
        · rw [if_neg hb2]
  rw [f_X7_weather_19_u, L _ _ _ (by decide) (by decide) (by rw [kp_q0]; omega)]
  rw [show (0 : Int32).toNatClampNeg = 0 from rfl]
  simp
theorem kd_step6 (x : kw_S) (s : kd_T) (e : Int32) (he : e.toInt = 6) : kd_step x s e = (s.1 + 1, s.2.1 + f_X1_milesOf_17 x s.2.2.2.1 (f_X1_windAt_17 x s.1), s.2.2.1 + f_X1_turnOf_17 x s.2.2.2.1 (f_X1_windAt_17 x s.1), s.2.2.2.1, kd_wets s.2.2.2.1 (f_X1_windAt_17 x s.1) s.2.2.2.2) := by
  unfold kd_step
  rw [if_pos he]
theorem kd_stepN (x : kw_S) (s : kd_T) (e : Int32) (he : ¬ e.toInt = 6) : kd_step x s e = (s.1, s.2.1, s.2.2.1, s.2.2.2.1 ^^^ ((1 : Int32) <<< (e &&& 31)), s.2.2.2.2) := by
  unfold kd_step
  rw [if_neg he]
theorem kd_getE {x : kw_S} {a b c d : Int32} {f : Nat → Int32} (h5 : x.1 4 5 = a) (h6 : x.1 4 6 = b) (h7 : x.1 4 7 = c) (h4 : x.1 4 4 = d) (h19 : ∀ j, x.1 19 j = f j) : kd_get x = (a, b, c, d, f) := by
  have e : x.1 19 = f := funext h19
  unfold kd_get
  rw [h5, h6, h7, h4, e]
theorem kd_get1 (x : kw_S) : (kd_get x).1 = x.1 4 5 ∧ (kd_get x).2.1 = x.1 4 6 ∧ (kd_get x).2.2.1 = x.1 4 7 ∧ (kd_get x).2.2.2.1 = x.1 4 4 ∧ (kd_get x).2.2.2.2 = x.1 19 := ⟨rfl, rfl, rfl, rfl, rfl⟩
theorem kd_pass (S : kw_S) : kd_get (f_X5_passHour_4 S) = kd_step S (kd_get S) 6 ∧ kw_F [4, 19] S (f_X5_passHour_4 S) ∧ (f_X5_passHour_4 S).1 4 3 = S.1 4 3 := by
  have l1 : ∀ z : Int32, kd_lay S (kw_ui S 4 6 z) := fun z => kd_lay.of (kw_F_ui (L := [4]) kw_F.rf (by decide)) (by decide)
  obtain ⟨k1, k2, k3, k4, k5⟩ := kd_get1 S
  rw [kd_step6 _ _ _ rfl, k1, k2, k3, k4, k5, f_X5_passHour_4_u, f_X5_windNow_4_u]
  simp only [kf_lx]
  rw [(l1 _).turn, kd_weather]
  generalize f_X1_windAt_17 S (S.1 4 5) = w
  generalize f_X1_milesOf_17 S (S.1 4 4) w = mm
  generalize f_X1_turnOf_17 S (S.1 4 4) w = tt
  refine ⟨kd_getE ?_ ?_ ?_ ?_ (fun j => ?_), kw_F_ui (kw_F_ua (kw_F_ui (kw_F_ui kw_F.rf (by decide)) (by decide)) (by decide)) (by decide), by simp [kp_ui, kp_ua]⟩
  · simp [kp_ui, kp_ua]
  · simp [kp_ui, kp_ua]
  · simp [kp_ui, kp_ua]
  · simp [kp_ui, kp_ua]
  · have e : (kw_ui (kw_ui S 4 6 (S.1 4 6 + mm)) 4 7 (S.1 4 7 + tt)).1 19 = S.1 19 := by funext i; simp [kp_ui]
    rw [e, kp_ui, if_neg (show ¬ (19 = 4 ∧ j = 5) by omega), kp_ua, if_pos rfl]
/-- a deed that there is room for -/
theorem kd_act (S : kw_S) (e : Int32) (h0 : 0 ≤ (S.1 4 3).toInt) (h1 : (S.1 4 3).toInt ≤ 39) : (f_X5_act_4 S e).1 4 3 = S.1 4 3 + 1 ∧ (f_X5_act_4 S e).1 18 = upd (S.1 18) (S.1 4 3).toNatClampNeg e ∧ kd_get (f_X5_act_4 S e) = kd_step S (kd_get S) e ∧ kw_F [4, 18, 19] S (f_X5_act_4 S e) := by
  rw [f_X5_act_4_u, f_X5_hasRoomFor_4_u]
  simp only [kf_lx]
  have z := kp_add1 (S.1 4 3) (by omega)
  have q40 : (40 : Int32).toInt = 40 := rfl
  rw [if_neg (show ¬ (40 : Int32).toInt < (S.1 4 3 + 1).toInt by omega), if_neg (show ¬ (1 : Int32).toInt = 0 by decide)]
  have F0 : kw_F [4, 18, 19] S (kw_ui (kw_ui S 18 (S.1 4 3).toNatClampNeg e) 4 3 (S.1 4 3 + 1)) := kw_F_ui (kw_F_ui kw_F.rf (by decide)) (by decide)
  have e18 : (kw_ui (kw_ui S 18 (S.1 4 3).toNatClampNeg e) 4 3 (S.1 4 3 + 1)).1 18 = upd (S.1 18) (S.1 4 3).toNatClampNeg e := by
    funext j
    rw [kp_ui, if_neg (by omega), kp_ui]
    by_cases hj : j = (S.1 4 3).toNatClampNeg <;> simp [upd, hj]
  by_cases h6 : e.toInt = (6 : Int32).toInt
  · rw [if_pos h6]
    obtain ⟨p1, p2, p3⟩ := kd_pass (kw_ui (kw_ui S 18 (S.1 4 3).toNatClampNeg e) 4 3 (S.1 4 3 + 1))
    refine ⟨?_, ?_, ?_, F0.tr p2 (by decide)⟩
    · rw [p3]; simp [kp_ui]
    · rw [(p2 18 (by decide)).1]; exact e18
    · rw [p1, kd_step_lay (kd_lay.of F0 (by decide))]
      have eg : kd_get (kw_ui (kw_ui S 18 (S.1 4 3).toNatClampNeg e) 4 3 (S.1 4 3 + 1)) = kd_get S := kd_getE (by simp [kp_ui]) (by simp [kp_ui]) (by simp [kp_ui]) (by simp [kp_ui]) (fun j => by simp [kp_ui])
      rw [eg]
      have : e = 6 := Int32.toInt_inj.mp h6
      rw [this]
  · rw [if_neg h6]
    refine ⟨by simp [kp_ui], ?_, ?_, kw_F_ui F0 (by decide)⟩
    · rw [← e18]; funext j; simp [kp_ui]
    · obtain ⟨k1, k2, k3, k4, k5⟩ := kd_get1 S
      rw [kd_stepN _ _ _ (show ¬ e.toInt = 6 from h6), k1, k2, k3, k4, k5]
      exact kd_getE (by simp [kp_ui]) (by simp [kp_ui]) (by simp [kp_ui]) (by simp [kp_ui]) (fun j => by simp [kp_ui])
theorem kd_updself (f : Nat → Int32) (i : Nat) : upd f i (f i) = f := by
  funext j
  by_cases h : j = i <;> simp [upd, h]
/-- what is undone is played again from the first -/
theorem kd_replay (S : kw_S) (n : Int32) (h0 : 0 ≤ n.toInt) (h1 : n.toInt ≤ 40) (hi : ∀ j : Nat, 6 ≤ j → S.1 19 j = 0) : (f_X5_replay_4 S n).1 4 3 = n ∧ (f_X5_replay_4 S n).1 18 = S.1 18 ∧ kd_get (f_X5_replay_4 S n) = kd_run S (S.1 18) n.toNatClampNeg ∧ kw_F [4, 18, 19] S (f_X5_replay_4 S n) := by
  have cn := kw_clampI h0
  have L : ∀ (k : Nat) (x : Int32) (U : kw_S), 0 ≤ x.toInt → x.toInt ≤ n.toInt → U.1 4 3 = x → U.1 18 = S.1 18 → kd_get U = kd_run S (S.1 18) x.toNatClampNeg → kw_F [4, 18, 19] S U → (40 - x.toInt).toNat < k → (l_X5_replay_4_35 n k x U).1 4 3 = n ∧ (l_X5_replay_4_35 n k x U).1 18 = S.1 18 ∧ kd_get (l_X5_replay_4_35 n k x U) = kd_run S (S.1 18) n.toNatClampNeg ∧ kw_F [4, 18, 19] S (l_X5_replay_4_35 n k x U) := by
    intro k
    induction k with
    | zero => intro x U _ _ _ _ _ _ h; exact absurd h (Nat.not_lt_zero _)
    | succ k ih =>
      intro x U x0 x1 u3 u18 ug uF hm
      have c := kw_clampI x0
      rw [l_X5_replay_4_35_s]
      by_cases hx : x.toInt < n.toInt
      · have z := kp_inc x (by omega)
        have c1 := kw_clampI (x := x + Int32.ofInt 1) (by omega)
        rw [if_pos hx, if_pos (show x.toInt < (40 : Int32).toInt by have : (40 : Int32).toInt = 40 := rfl; omega)]
        simp only [kf_lx]
        obtain ⟨a1, a2, a3, a4⟩ := kd_act U (U.1 18 x.toNatClampNeg) (by rw [u3]; exact x0) (by rw [u3]; omega)
        refine ih (x + Int32.ofInt 1) _ (by omega) (by omega) ?_ ?_ ?_ (uF.tr a4 (fun _ h => h)) (by omega)
        · rw [a1, u3]; rfl
        · rw [a2, u3, kd_updself, u18]
        · rw [a3, kd_step_lay (kd_lay.of uF (by decide)), ug, u18, show (x + Int32.ofInt 1).toNatClampNeg = x.toNatClampNeg + 1 by omega]
          rfl
      · rw [if_neg hx]
        have e : x = n := Int32.toInt_inj.mp (by omega)
        rw [← e]
        exact ⟨u3, u18, ug, uF⟩
  rw [f_X5_replay_4_u, kp_fill19]
  simp only [kf_lx]
  refine L _ 0 _ (by decide) (by rw [kp_q0]; exact h0) (by simp [kp_ui]) (by funext j; simp [kp_ui, kp_ua]) ?_ (kw_F_ui (kw_F_ui (kw_F_ui (kw_F_ui (kw_F_ui (kw_F_ua kw_F.rf (by decide)) (by decide)) (by decide)) (by decide)) (by decide)) (by decide)) (by rw [kp_q0]; omega)
  show kd_get _ = (0, 0, 0, 0, fun _ => 0)
  refine kd_getE (by simp [kp_ui]) (by simp [kp_ui]) (by simp [kp_ui]) (by simp [kp_ui]) (fun j => ?_)
  simp only [kp_ui, kp_ua]
  by_cases hj : j < 6
  · simp [hj]
  · simp [hj, hi j (by omega)]
