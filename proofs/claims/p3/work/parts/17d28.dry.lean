/-! ===== dry ===== -/
theorem kd_weather9 (S : kw_S) (hung w : Int32) : f_X7_weather_9 S hung w = kw_ua S 9 (kd_wets hung w (S.1 9)) := by
  have L : ∀ (n : Nat) (x : Int32) (S : kw_S), 0 ≤ x.toInt → x.toInt ≤ 6 → (6 - x.toInt).toNat < n → l_X7_weather_9_2 hung w n x S = kw_ua S 9 (fun i => if x.toNatClampNeg ≤ i then kd_wets hung w (S.1 9) i else S.1 9 i) := by
    intro n
    induction n with
    | zero => intro x S _ _ h; exact absurd h (Nat.not_lt_zero _)
    | succ n ih =>
      intro x S h0 h1 h2
      have c := kw_clampI h0
      rw [l_X7_weather_9_2_s]
      simp only [kf_lx]
      by_cases hx : x.toInt < 6
      · have z := kp_inc x (by omega)
        have c1 := kw_clampI (x := x + Int32.ofInt 1) (by omega)
        have en := kd_ofNat x h0
        rw [if_pos (show x.toInt < (6 : Int32).toInt from hx), if_pos (show x.toInt < (6 : Int32).toInt from hx)]
        by_cases hb : ((hung >>> (x &&& 31)) &&& 1).toInt = 0
        · rw [if_pos hb, ih _ _ (by omega) (by omega) (by omega)]
          refine kp_ext (fun b j => ?_) (fun _ _ => rfl)
          simp only [kp_ua]
          by_cases hb2 : b = 9
          · rw [if_pos hb2, if_pos hb2]
            by_cases hj : j = x.toNatClampNeg
            · subst hj
              rw [if_neg (by omega), if_pos (Nat.le_refl _)]
              unfold kd_wets
              rw [en, if_neg (fun q => q.2 hb)]
            · by_cases h3 : x.toNatClampNeg ≤ j
              · rw [if_pos (by omega), if_pos h3]
              · rw [if_neg (by omega), if_neg h3]
          · rw [if_neg hb2, if_neg hb2]
        · rw [if_neg hb]
          have key : ∀ v : Int32, kd_dry w (S.1 9 x.toNatClampNeg) = v → l_X7_weather_9_2 hung w n (x + Int32.ofInt 1) (kw_ui S 9 x.toNatClampNeg v) = kw_ua S 9 (fun i => if x.toNatClampNeg ≤ i then kd_wets hung w (S.1 9) i else S.1 9 i) := by
            intro v hv
            rw [ih _ _ (by omega) (by omega) (by omega)]
            refine kp_ext (fun b j => ?_) (fun _ _ => rfl)
            simp only [kp_ua]
            by_cases hb2 : b = 9
            · rw [if_pos hb2, if_pos hb2]
              by_cases hj : j = x.toNatClampNeg
              · subst hj
                rw [if_neg (by omega), if_pos (Nat.le_refl _), kp_ui, if_pos ⟨rfl, rfl⟩]
                unfold kd_wets
                rw [en, if_pos ⟨by omega, hb⟩, hv]
              · have e9 : (kw_ui S 9 x.toNatClampNeg v).1 9 j = S.1 9 j := by rw [kp_ui, if_neg (fun q => hj q.2)]
                by_cases h3 : x.toNatClampNeg ≤ j
                · rw [if_pos (by omega), if_pos h3]
                  unfold kd_wets
                  rw [e9]
                · rw [if_neg (by omega), if_neg h3, e9]
            · rw [if_neg hb2, if_neg hb2, kp_ui, if_neg (fun q => hb2 q.1)]
          by_cases hw : 0 < w.toInt
          · rw [if_pos hw]
            exact key _ (by unfold kd_dry; rw [if_pos hw])
          · rw [if_neg hw]
            exact key _ (by unfold kd_dry; rw [if_neg hw])
      · rw [if_neg (show ¬ x.toInt < (6 : Int32).toInt from hx)]
        refine kp_ext (fun b j => ?_) (fun _ _ => rfl)
        simp only [kp_ua]
        by_cases hb2 : b = 9
        · subst hb2
          rw [if_pos rfl]
          by_cases h3 : x.toNatClampNeg ≤ j
          · rw [if_pos h3]
            unfold kd_wets
            rw [if_neg (fun q => by omega)]
          · rw [if_neg h3]
        · rw [if_neg hb2]
  rw [f_X7_weather_9_u, L _ _ _ (by decide) (by decide) (by rw [kp_q0]; omega)]
  rw [show (0 : Int32).toNatClampNeg = 0 from rfl]
  simp
theorem kd_drySet9 (S : kw_S) (l0 : 0 ≤ (S.1 17 5).toInt) (l6 : (S.1 17 5).toInt ≤ 6) : f_X7_drySet_0_9 S = kb_or (fun i => decide ((S.1 9 i).toInt = 0)) (S.1 17 5).toNatClampNeg := by
  have cl := kw_clampI l0
  have L : ∀ (n : Nat) (a i : Int32), 0 ≤ i.toInt → i.toInt ≤ (S.1 17 5).toInt → a = kb_or (fun i => decide ((S.1 9 i).toInt = 0)) i.toNatClampNeg → (6 - i.toInt).toNat < n → l_X7_drySet_0_9_4 S n a i = kb_or (fun i => decide ((S.1 9 i).toInt = 0)) (S.1 17 5).toNatClampNeg := by
    intro n
    induction n with
    | zero => intro a i _ _ _ h; exact absurd h (Nat.not_lt_zero _)
    | succ n ih =>
      intro a i i0 i1 ha h1
      have ci := kw_clampI i0
      rw [l_X7_drySet_0_9_4_s]
      simp only [kf_lx]
      by_cases hi : i.toInt < (S.1 17 5).toInt
      · have z := kp_inc i (by omega)
        have c1 := kw_clampI (x := i + Int32.ofInt 1) (by omega)
        have en : (i + Int32.ofInt 1).toNatClampNeg = i.toNatClampNeg + 1 := by omega
        rw [if_pos hi]
        by_cases hw : (S.1 9 i.toNatClampNeg).toInt = 0
        · rw [if_pos hw]
          refine ih _ _ (by omega) (by omega) ?_ (by omega)
          rw [en]
          show _ = if decide ((S.1 9 i.toNatClampNeg).toInt = 0) = true then _ else _
          rw [if_pos (decide_eq_true hw), kd_ofNat i i0, ha]
        · rw [if_neg hw]
          refine ih _ _ (by omega) (by omega) ?_ (by omega)
          rw [en]
          show _ = if decide ((S.1 9 i.toNatClampNeg).toInt = 0) = true then _ else _
          rw [if_neg (fun q => hw (of_decide_eq_true q)), ha]
      · rw [if_neg hi, ha, show i.toNatClampNeg = (S.1 17 5).toNatClampNeg by omega]
  rw [f_X7_drySet_0_9_u]
  exact L _ _ _ (by decide) (by rw [kp_q0]; exact l0) rfl (by rw [kp_q0]; omega)
/-- a line's wetness behind so many hours of a plan -/
def kq_dw (V W : Nat → Int32) (i : Nat) (w0 : Int32) : Nat → Int32
  | 0 => w0
  | k + 1 => if ((V k >>> (Int32.ofNat i &&& 31)) &&& 1).toInt = 0 then kq_dw V W i w0 k else kd_dry (W k) (kq_dw V W i w0 k)
theorem kq_dwS (V W : Nat → Int32) (i : Nat) (w0 : Int32) (k : Nat) : kq_dw V W i w0 (k + 1) = if ((V k >>> (Int32.ofNat i &&& 31)) &&& 1).toInt = 0 then kq_dw V W i w0 k else kd_dry (W k) (kq_dw V W i w0 k) := rfl
theorem kq_dwB (V W : Nat → Int32) (i : Nat) (w0 : Int32) (h : 0 ≤ w0.toInt ∧ w0.toInt ≤ 9) : ∀ k : Nat, 0 ≤ (kq_dw V W i w0 k).toInt ∧ (kq_dw V W i w0 k).toInt ≤ 9
  | 0 => h
  | k + 1 => by
    rw [kq_dwS]
    by_cases e : ((V k >>> (Int32.ofNat i &&& 31)) &&& 1).toInt = 0
    · rw [if_pos e]; exact kq_dwB V W i w0 h k
    · rw [if_neg e]; exact kd_dryB _ _ (kq_dwB V W i w0 h k)
theorem kr_dry {x m s t : kw_S} {r q : Int32} (hX : kw_I bX x) (hL : kr_L x m) (hD : kr_D x m) (hW : kr_W x m) (a : Int32) (e1 : (r, s) = f_X7_dry_0 x a) (e2 : (q, t) = f_X8_dry_0 m a) : r = q ∧ kq x m s t := by
  have hb : ∀ j : Nat, -1 ≤ (x.1 13 j).toInt ∧ (x.1 13 j).toInt ≤ 40 := fun j => hX 13 j
  have l2 := hL.2.1
  have cl := kw_clampI l2.1
  rw [f_X7_dry_0_u] at e1
  rw [f_X8_dry_0_u] at e2
  simp only [kf_bx, kf_lx] at e1 e2
  rcases kr_plan hX hL hW a with ⟨f, f1, f5, p1, p2⟩ | ⟨b, b0, p1, p2⟩ | ⟨p1, p2, a0, a6, n0, n6, g, hv⟩
  · rw [p1, if_neg (by rw [kp_refuse1]; decide)] at e1
    rw [p2, if_pos (by rw [kp_meet1]; decide)] at e2
    obtain ⟨r1, s1⟩ := Prod.mk.inj e1
    obtain ⟨r2, s2⟩ := Prod.mk.inj e2
    rw [r1, s1, r2, s2]
    exact ⟨(kp_refuse1 _ _).trans (kp_meet1 _ _).symm, kq.no x m f f1 f5⟩
  · rw [p1] at e1
    rw [p2] at e2
    dsimp only at e1 e2
    rw [if_neg (by omega)] at e1
    rw [if_pos b0] at e2
    obtain ⟨r1, s1⟩ := Prod.mk.inj e1
    obtain ⟨r2, s2⟩ := Prod.mk.inj e2
    rw [r1, s1, r2, s2]
    exact ⟨rfl, kq.rf⟩
  · rw [p1] at e1
    rw [p2] at e2
    dsimp only at e1 e2
    rw [if_pos (show (0 : Int32).toInt = 0 from rfl)] at e1
    rw [if_neg (show ¬ (0 : Int32).toInt < 0 by decide)] at e2
    have ca := kw_clampI a0
    have n3 := (kd_now hL hD).2.2
    have n1 := (kd_now hL hD).1
    have q0 : (0 : Int32).toNatClampNeg = 0 := rfl
    have q6 : (6 : Int32).toNatClampNeg = 6 := rfl
    generalize hV : (fun k : Nat => x.1 (29 + a.toNatClampNeg) k) = V
    generalize hWd : (fun k : Nat => f_X8_windAt_0 m (m.1 0 22 + Int32.ofNat k)) = Wd
    have w0 : ∀ k : Nat, k < 10 → 0 ≤ (Wd k).toInt := fun k hk => by
      have e := kz_ofNatI k (by omega)
      rw [← hWd]
      show 0 ≤ (f_X8_windAt_0 m (m.1 0 22 + Int32.ofNat k)).toInt
      rw [← kd_windAhead hL hD (Int32.ofNat k) (by omega) (by omega), f_X5_windAhead_4_u]
      simp only [kf_lx]
      exact (kh_wind hL _ (by rw [kw_addI, e]; omega)).1
    -- the class: the forecast behind y hours
    have LX : ∀ (n : Nat) (y : Int32) (S : kw_S), 0 ≤ y.toInt → y.toInt ≤ (x.1 13 a.toNatClampNeg).toInt → (7 - y.toInt).toNat < n → kw_F [9] x S → (∀ i : Nat, i < 6 → S.1 9 i = kq_dw V Wd i (x.1 19 i) y.toNatClampNeg) → ∃ S' : kw_S, l_X7_dry_0_32 a 0 n y S = (kb_or (fun i => decide ((S'.1 9 i).toInt = 0)) (x.1 17 5).toNatClampNeg, S') ∧ kw_F [9] x S' ∧ ∀ i : Nat, i < 6 → S'.1 9 i = kq_dw V Wd i (x.1 19 i) (x.1 13 a.toNatClampNeg).toNatClampNeg := by
      intro n
      induction n with
      | zero => intro y S _ _ h; exact absurd h (Nat.not_lt_zero _)
      | succ n ih =>
        intro y S y0 y1 hf F h9
        have cy := kw_clampI y0
        have cs := kw_clampI n0
        have f13 : S.1 13 = x.1 13 := (F 13 (by decide)).1
        have fLay : kd_lay x S := kd_lay.of F (by decide)
        rw [l_X7_dry_0_32_s, kp_size1, if_pos ⟨a0, a6⟩, f13]
        simp only [kf_lx]
        by_cases hy : y.toInt < (x.1 13 a.toNatClampNeg).toInt
        · have z := kp_inc y (by omega)
          have c1 := kw_clampI (x := y + Int32.ofInt 1) (by omega)
          have en : (y + Int32.ofInt 1).toNatClampNeg = y.toNatClampNeg + 1 := by omega
          have ev : f_X3_valueAt_1 S a y = V y.toNatClampNeg := by
            rw [kp_value1 S (by rw [f13]; exact hb), f13, if_pos ⟨a0, a6, y0, hy⟩, ← hV, (F (29 + a.toNatClampNeg) (by simp; omega)).1]
          have ew : f_X5_windAhead_4 S y = Wd y.toNatClampNeg := by
            rw [← hWd]
            show f_X5_windAhead_4 S y = f_X8_windAt_0 m (m.1 0 22 + Int32.ofNat y.toNatClampNeg)
            rw [kd_ofNat y y0, ← kd_windAhead hL hD y y0 (by omega), f_X5_windAhead_4_u, f_X5_windAhead_4_u]
            simp only [kf_lx]
            rw [fLay.windAt, (F 4 (by decide)).1]
          rw [if_pos hy, ev, ew, kd_weather9]
          refine ih _ _ (by omega) (by omega) (by omega) (kw_F_ua F (by decide)) (fun i hi => ?_)
          rw [kp_ua, if_pos rfl, en, kq_dwS, ← h9 i hi]
          unfold kd_wets
          by_cases e : ((V y.toNatClampNeg >>> (Int32.ofNat i &&& 31)) &&& 1).toInt = 0
          · rw [if_neg (fun w => w.2 e), if_pos e]
          · rw [if_pos ⟨hi, e⟩, if_neg e]
        · rw [if_neg hy, kd_drySet9 S (by rw [(F 17 (by decide)).1]; exact l2.1) (by rw [(F 17 (by decide)).1]; exact l2.2), (F 17 (by decide)).1]
          refine ⟨S, rfl, F, fun i hi => ?_⟩
          rw [h9 i hi, show y.toNatClampNeg = (x.1 13 a.toNatClampNeg).toNatClampNeg by omega]
    -- the reference: a line behind another
    have LM : ∀ (k17 : Int32 → Int32 → Int32 × kw_S) (c i : Int32), 0 ≤ i.toInt → i.toInt < 6 → ∀ (n : Nat) (y : Int32), 0 ≤ y.toInt → y.toInt ≤ (x.1 13 a.toNatClampNeg).toInt → (7 - y.toInt).toNat < n → l_X8_dry_0_38 k17 a 0 c i m n (kq_dw V Wd i.toNatClampNeg (x.1 19 i.toNatClampNeg) y.toNatClampNeg) y = if (kq_dw V Wd i.toNatClampNeg (x.1 19 i.toNatClampNeg) (x.1 13 a.toNatClampNeg).toNatClampNeg).toInt = 0 then k17 (c ||| ((1 : Int32) <<< (i &&& 31))) (i + Int32.ofInt 1) else k17 c (i + Int32.ofInt 1) := by
      intro k17 c i i0 i6 n
      induction n with
      | zero => intro y _ _ h; exact absurd h (Nat.not_lt_zero _)
      | succ n ih =>
        intro y y0 y1 hf
        have cy := kw_clampI y0
        have cs := kw_clampI n0
        rw [l_X8_dry_0_38_s, g]
        simp only [kf_lx, kp_has8]
        by_cases hy : y.toInt < (x.1 13 a.toNatClampNeg).toInt
        · have z := kp_inc y (by omega)
          have c1 := kw_clampI (x := y + Int32.ofInt 1) (by omega)
          have en : (y + Int32.ofInt 1).toNatClampNeg = y.toNatClampNeg + 1 := by omega
          have ih' := ih (y + Int32.ofInt 1) (by omega) (by omega) (by omega)
          rw [en, kq_dwS] at ih'
          have ev : f_X8_rowAt_0 m a y = V y.toNatClampNeg := by rw [(kq_val hb hW a y a0 a6 y0 hy).2, ← hV]
          have ew : f_X8_windAt_0 m (m.1 0 22 + y) = Wd y.toNatClampNeg := by
            rw [← hWd]
            show _ = f_X8_windAt_0 m (m.1 0 22 + Int32.ofNat y.toNatClampNeg)
            rw [kd_ofNat y y0]
          have ei := kd_ofNat i i0
          rw [if_pos hy, ev, ew, kd_wetB m _ _ (kq_dwB V Wd _ _ (n3 _) _) (w0 _ (by omega))]
          rw [ei] at ih'
          have b01 := kp_bit01 (V y.toNatClampNeg) i
          by_cases e : ((V y.toNatClampNeg >>> (i &&& 31)) &&& 1).toInt = 0
          · rw [if_pos e] at ih'
            simp only [if_neg (show ¬ ((V y.toNatClampNeg >>> (i &&& 31)) &&& 1).toInt = 1 by omega)]
            rw [if_pos (show (0 : Int32).toInt = 0 from rfl)]
            exact ih'
          · rw [if_neg e] at ih'
            simp only [if_pos (show ((V y.toNatClampNeg >>> (i &&& 31)) &&& 1).toInt = 1 by omega)]
            rw [if_neg (show ¬ (1 : Int32).toInt = 0 by decide)]
            exact ih'
        · rw [if_neg hy, show y.toNatClampNeg = (x.1 13 a.toNatClampNeg).toNatClampNeg by omega, Int32.or_zero]
    have LO : ∀ (n : Nat) (c i : Int32), 0 ≤ i.toInt → i.toInt ≤ (x.1 17 5).toInt → (6 - i.toInt).toNat < n → c = kb_or (fun i => decide ((kq_dw V Wd i (x.1 19 i) (x.1 13 a.toNatClampNeg).toNatClampNeg).toInt = 0)) i.toNatClampNeg → l_X8_dry_0_17 a 0 m n c i = (kb_or (fun i => decide ((kq_dw V Wd i (x.1 19 i) (x.1 13 a.toNatClampNeg).toNatClampNeg).toInt = 0)) (x.1 17 5).toNatClampNeg, m) := by
      intro n
      induction n with
      | zero => intro c i _ _ h; exact absurd h (Nat.not_lt_zero _)
      | succ n ih =>
        intro c i i0 i1 hf hc
        have ci := kw_clampI i0
        rw [l_X8_dry_0_17_s, ← hL.1]
        simp only [kf_lx]
        by_cases hi : i.toInt < (x.1 17 5).toInt
        · have z := kp_inc i (by omega)
          have c1 := kw_clampI (x := i + Int32.ofInt 1) (by omega)
          have en : (i + Int32.ofInt 1).toNatClampNeg = i.toNatClampNeg + 1 := by omega
          have ew : m.1 14 i.toNatClampNeg = x.1 19 i.toNatClampNeg := hD.2.2.2.2.1.2.2.2.2 i.toNatClampNeg (by omega)
          have lm := LM (l_X8_dry_0_17 a 0 m n) c i i0 (by omega) ((41 - (0 : Int32).toInt).toNat + 1) 0 (by decide) (by rw [kp_q0]; exact n0) (by decide)
          rw [q0] at lm
          have lm2 : l_X8_dry_0_38 (l_X8_dry_0_17 a 0 m n) a 0 c i m ((41 - (0 : Int32).toInt).toNat + 1) (x.1 19 i.toNatClampNeg) 0 = _ := lm
          rw [if_pos hi, ew, lm2]
          by_cases e : (kq_dw V Wd i.toNatClampNeg (x.1 19 i.toNatClampNeg) (x.1 13 a.toNatClampNeg).toNatClampNeg).toInt = 0
          · rw [if_pos e]
            refine ih _ _ (by omega) (by omega) (by omega) ?_
            rw [en]
            show _ = if decide ((kq_dw V Wd i.toNatClampNeg (x.1 19 i.toNatClampNeg) (x.1 13 a.toNatClampNeg).toNatClampNeg).toInt = 0) = true then _ else _
            rw [if_pos (decide_eq_true e), kd_ofNat i i0, hc]
          · rw [if_neg e]
            refine ih _ _ (by omega) (by omega) (by omega) ?_
            rw [en]
            show _ = if decide ((kq_dw V Wd i.toNatClampNeg (x.1 19 i.toNatClampNeg) (x.1 13 a.toNatClampNeg).toNatClampNeg).toInt = 0) = true then _ else _
            rw [if_neg (fun w => e (of_decide_eq_true w)), hc]
        · rw [if_neg hi, hc, show i.toNatClampNeg = (x.1 17 5).toNatClampNeg by omega]
    have F0 : kw_F [9] x (kw_ua x 9 (va_cpy (x.1 19) (x.1 9) ((0 : Int32).toNatClampNeg) ((0 : Int32).toNatClampNeg) ((6 : Int32).toNatClampNeg))) := kw_F_ua kw_F.rf (by decide)
    obtain ⟨S', lx, FX, h9⟩ := LX ((41 - (0 : Int32).toInt).toNat + 1) 0 _ (by decide) (by rw [kp_q0]; exact n0) (by decide) F0 (fun i hi => by
      rw [kp_ua, if_pos rfl, q0, q6]
      show (if 0 ≤ i ∧ i < 0 + 6 then x.1 19 (0 + (i - 0)) else x.1 9 i) = x.1 19 i
      rw [if_pos (by omega), show 0 + (i - 0) = i by omega])
    rw [lx] at e1
    rw [LO ((7 - (0 : Int32).toInt).toNat + 1) 0 0 (by decide) (by rw [kp_q0]; exact l2.1) (by decide) rfl] at e2
    obtain ⟨r1, s1⟩ := Prod.mk.inj e1
    obtain ⟨r2, s2⟩ := Prod.mk.inj e2
    refine ⟨?_, ?_⟩
    · rw [r1, r2]
      exact kb_or_cong _ (fun i hi => by rw [h9 i (by omega)])
    · rw [s1, s2]
      exact kq.fr FX (kw_FM.rf (L := [])) (by decide) (by decide)
