section
/-! ===== the calls that do deeds ===== -/
def kz0 : kw_S := (fun _ _ => 0, fun _ _ => 0)
theorem kd_bits0 (τ : kw_S) (h : Int32) : f_X8_bits τ h = f_X8_bits kz0 h := by
  have L : ∀ (n : Nat) (a b : Int32), l_X8_bits_4 h τ n a b = l_X8_bits_4 h kz0 n a b := by
    intro n
    induction n with
    | zero => intro a b; rfl
    | succ n ih =>
      intro a b
      rw [l_X8_bits_4_s, l_X8_bits_4_s]
      simp only [kf_lx, ih]
  rw [f_X8_bits_u, f_X8_bits_u]
  exact L _ _ _
theorem kd_bits64 : ∀ k : Nat, k < 64 → f_J6_bitCount_0f7a4 kz0 (Int32.ofNat k) = f_X8_bits kz0 (Int32.ofNat k) := by decide +kernel
theorem kd_bits (σ τ : kw_S) (h : Int32) (h0 : 0 ≤ h.toInt) (h1 : h.toInt ≤ 63) : f_J6_bitCount_0f7a4 σ h = f_X8_bits τ h := by
  have c := kw_clampI h0
  rw [kd_bits0, show f_J6_bitCount_0f7a4 σ h = f_J6_bitCount_0f7a4 kz0 h from rfl, ← kd_ofNat h h0]
  exact kd_bits64 _ (by omega)
theorem kd_isHung {x m : kw_S} (hD : kr_D x m) (i : Int32) : f_X5_isHung_4 x i = f_X8_has m (m.1 0 25) i := by
  rw [f_X5_isHung_4_u, f_X8_has_u]
  simp only [kf_lx]
  rw [show m.1 0 25 = x.1 4 4 from hD.2.2.2.2.1.2.2.2.1]
theorem kd_room {x m : kw_S} (hD : kr_D x m) : (f_X5_hasRoomFor_4 x 1).toInt = 0 ↔ (m.1 0 27).toInt = (40 : Int32).toInt := by
  rw [f_X5_hasRoomFor_4_u]
  simp only [kf_lx]
  have h2 := hD.2.1
  have z := kp_add1 (x.1 4 3) (by omega)
  have q40 : (40 : Int32).toInt = 40 := rfl
  rw [← hD.1]
  by_cases h : (40 : Int32).toInt < (x.1 4 3 + 1).toInt
  · rw [if_pos h]
    exact ⟨fun _ => by omega, fun _ => rfl⟩
  · rw [if_neg h]
    exact ⟨fun q => absurd q (by decide), fun q => by omega⟩
theorem kd_lineIn {x : kw_S} (i : Int32) (h : ¬ (f_X1_hasLine_17 x i).toInt = 0) : 0 ≤ i.toInt ∧ i.toInt < (x.1 17 5).toInt := by
  rw [f_X1_hasLine_17_u] at h
  by_cases h0 : i.toInt < 0
  · rw [if_pos h0] at h; exact absurd rfl h
  · rw [if_neg h0] at h
    by_cases h1 : i.toInt < (x.1 17 5).toInt
    · exact ⟨by omega, h1⟩
    · rw [if_neg h1] at h; exact absurd rfl h
theorem kr_hang {x m s t : kw_S} {r q : Int32} (hL : kr_L x m) (hD : kr_D x m) (i : Int32) (e1 : (r, s) = f_X7_hang_0 x i) (e2 : (q, t) = f_X8_hang_0 m i) : kr_D s t ∧ r = q := by
  rw [f_X7_hang_0_u] at e1
  rw [f_X8_hang_0_u] at e2
  simp only [kf_lx] at e1 e2
  rw [kd_isHung hD] at e1
  have hr := kd_room hD
  by_cases h0 : (f_X1_hasLine_17 x i).toInt = 0
  · rw [if_pos h0] at e1
    rw [← kt_isLine hL, if_pos h0] at e2
    cases e1; cases e2
    exact ⟨hD, rfl⟩
  · have hi := kd_lineIn i h0
    rw [if_neg h0] at e1
    rw [← kt_isLine hL, if_neg h0] at e2
    by_cases h1 : (f_X8_has m (m.1 0 25) i).toInt = 0
    · rw [if_pos h1] at e1 e2
      by_cases h2 : (f_X5_hasRoomFor_4 x 1).toInt = 0
      · rw [if_pos h2] at e1
        rw [if_pos (hr.mp h2)] at e2
        cases e1; cases e2
        exact ⟨hD, rfl⟩
      · have h3 : ¬ (m.1 0 27).toInt = (40 : Int32).toInt := fun z => h2 (hr.mpr z)
        rw [if_neg h2] at e1
        rw [if_neg h3] at e2
        have q40 : (40 : Int32).toInt = 40 := rfl
        have d2 := hD.2.1
        have h39 : (x.1 4 3).toInt ≤ 39 := by have e43 := congrArg Int32.toInt hD.1; omega
        obtain ⟨a1, a2, a3, a4, a5⟩ := kd_deed hL hD h39 i ⟨hi.1, Or.inl hi.2⟩ (kd_mturn hL hD h39 i hi.1 hi.2)
        obtain ⟨r1, s1⟩ := Prod.mk.inj e1
        obtain ⟨r2, s2⟩ := Prod.mk.inj e2
        rw [← s1] at a1 a2 r1
        rw [← s2] at a1 a2 r2
        refine ⟨a2, ?_⟩
        have cn := kw_clampI a2.2.1.1
        obtain ⟨-, g2, -⟩ := kd_run_ok a1.2.1.2 (s.1 18) (s.1 4 3).toNatClampNeg (by have := a2.2.1.2; omega) a2.2.2.2.1
        rw [← a2.2.2.1] at g2
        rw [r1, r2, show t.1 0 25 = s.1 4 4 from a2.2.2.2.2.1.2.2.2.1]
        exact kd_bits _ _ _ g2.1 g2.2
    · rw [if_neg h1] at e1 e2
      cases e1; cases e2
      exact ⟨hD, rfl⟩
theorem kr_take {x m s t : kw_S} {r q : Int32} (hL : kr_L x m) (hD : kr_D x m) (i : Int32) (e1 : (r, s) = f_X7_take_0 x i) (e2 : (q, t) = f_X8_take_0 m i) : kr_D s t ∧ r = q := by
  rw [f_X7_take_0_u] at e1
  rw [f_X8_take_0_u] at e2
  simp only [kf_lx] at e1 e2
  rw [kd_isHung hD] at e1
  have hr := kd_room hD
  by_cases h0 : (f_X1_hasLine_17 x i).toInt = 0
  · rw [if_pos h0] at e1
    rw [← kt_isLine hL, if_pos h0] at e2
    cases e1; cases e2
    exact ⟨hD, rfl⟩
  · have hi := kd_lineIn i h0
    rw [if_neg h0] at e1
    rw [← kt_isLine hL, if_neg h0] at e2
    by_cases h1 : (f_X8_has m (m.1 0 25) i).toInt = 0
    · rw [if_pos h1] at e1 e2
      cases e1; cases e2
      exact ⟨hD, rfl⟩
    · rw [if_neg h1] at e1 e2
      by_cases h2 : (f_X5_hasRoomFor_4 x 1).toInt = 0
      · rw [if_pos h2] at e1
        rw [if_pos (hr.mp h2)] at e2
        cases e1; cases e2
        exact ⟨hD, rfl⟩
      · have h3 : ¬ (m.1 0 27).toInt = (40 : Int32).toInt := fun z => h2 (hr.mpr z)
        rw [if_neg h2] at e1
        rw [if_neg h3] at e2
        have q40 : (40 : Int32).toInt = 40 := rfl
        have d2 := hD.2.1
        have h39 : (x.1 4 3).toInt ≤ 39 := by have e43 := congrArg Int32.toInt hD.1; omega
        obtain ⟨a1, a2, a3, a4, a5⟩ := kd_deed hL hD h39 i ⟨hi.1, Or.inl hi.2⟩ (kd_mturn hL hD h39 i hi.1 hi.2)
        obtain ⟨r1, s1⟩ := Prod.mk.inj e1
        obtain ⟨r2, s2⟩ := Prod.mk.inj e2
        rw [← s1] at a1 a2 a4 r1
        rw [← s2] at a1 a2 r2
        refine ⟨a2, ?_⟩
        have ci := kw_clampI hi.1
        have e17 : s.1 17 5 = x.1 17 5 := by rw [(a4 17 (by decide)).1]
        rw [r1, r2]
        exact (a2.2.2.2.2.1.2.2.2.2 i.toNatClampNeg (by rw [e17]; omega)).symm
theorem kp_part1 (S : kw_S) (z : Int64) : kw_FM [2003, 2004] S (f_X8_part_0 S z 1).2 ∧ (f_X8_part_0 S z 1).1 = 1 := by
  have L : ∀ (a : Int64), kw_FM [2003, 2004] S (l_X8_part_0_17 z 1 S 2 a 1).2 ∧ (l_X8_part_0_17 z 1 S 2 a 1).1 = 1 := by
    intro a
    rw [l_X8_part_0_17_s]
    simp only [kf_lx]
    have h := kw_lcmpI 1 0
    rw [if_neg (show ¬ (lg_cmp 1 0).toInt = 0 from fun q => absurd (h.2.2.mp q) (by decide)), l_X8_part_0_17_s]
    simp only [kf_lx]
    have e : a - a / 1 * 1 = 0 := by rw [Int64.div_one, Int64.mul_one, Int64.sub_self]
    rw [e]
    have h2 := kw_lcmpI 0 0
    rw [if_pos (h2.2.2.mpr rfl)]
    exact ⟨kw_FM_ul0 (kw_FM_ul0 kw_FM.rf (by decide)) (by decide), rfl⟩
  rw [f_X8_part_0_u]
  simp only [kf_lx]
  have f : ((if 0 ≤ (1 : Int64).toInt then (1 : Int64).toInt else -(1 : Int64).toInt)).toNat + 1 = 2 := by decide
  rw [f]
  by_cases h : (lg_cmp z 0).toInt < 0
  · rw [if_pos h]; exact L _
  · rw [if_neg h]; exact L _
theorem kr_hour {x m s t : kw_S} {r q : Int32} (hL : kr_L x m) (hD : kr_D x m) (e1 : (r, s) = f_X7_hour_0 x) (e2 : (q, t) = f_X8_hour_0 m) : kr_D s t ∧ r = q := by
  rw [f_X7_hour_0_u, f_X5_isEmpty_4_u] at e1
  rw [f_X8_hour_0_u] at e2
  simp only [kf_lx, kf_bx] at e1 e2
  have hr := kd_room hD
  have l2 := hL.2.1
  by_cases h0 : (x.1 17 5).toInt < (1 : Int32).toInt
  · have h0' : (x.1 17 5).toInt < 1 := h0
    simp only [if_pos h0] at e1
    rw [if_neg (by decide)] at e1
    rw [← hL.1, if_pos (show (x.1 17 5).toInt = 0 by omega)] at e2
    cases e1; cases e2
    exact ⟨hD, rfl⟩
  · have h0' : ¬ (x.1 17 5).toInt < 1 := h0
    simp only [if_neg h0] at e1
    rw [if_pos (show (0 : Int32).toInt = 0 from rfl)] at e1
    rw [← hL.1, if_neg (show ¬ (x.1 17 5).toInt = 0 by omega)] at e2
    by_cases h2 : (f_X5_hasRoomFor_4 x 1).toInt = 0
    · rw [if_pos h2] at e1
      rw [if_pos (hr.mp h2)] at e2
      cases e1; cases e2
      exact ⟨hD, rfl⟩
    · have h3 : ¬ (m.1 0 27).toInt = (40 : Int32).toInt := fun z => h2 (hr.mpr z)
      rw [if_neg h2] at e1
      rw [if_neg h3] at e2
      have q40 : (40 : Int32).toInt = 40 := rfl
      have d2 := hD.2.1
      have h39 : (x.1 4 3).toInt ≤ 39 := by have e43 := congrArg Int32.toInt hD.1; omega
      obtain ⟨a1, a2, -, -, -⟩ := kd_deed hL hD h39 6 ⟨by decide, Or.inr rfl⟩ (kd_mhour hL hD h39)
      obtain ⟨r1, s1⟩ := Prod.mk.inj e1
      obtain ⟨r2, s2⟩ := Prod.mk.inj e2
      refine ⟨?_, by rw [r1, r2]; rfl⟩
      refine a2.fr a1 (L := [8]) (L' := [1002, 2003, 2004]) ?_ ?_ (by decide) (by decide)
      · rw [s1]
        show kw_F [8] _ (kw_ui (kw_ul (kw_ul _ 8 3 _) 8 4 1) 8 2 _)
        exact kw_F_ui (kw_F_ul (kw_F_ul kw_F.rf (by decide)) (by decide)) (by decide)
      · rw [s2]
        show kw_FM _ _ (kw_ui _ 0 2 _)
        exact kw_FM_ui0 (kw_FM.tr kw_FM.rf (kp_part1 _ _).1 (by decide)) (by decide)
theorem kr_undo {x m s t : kw_S} {r q : Int32} (hL : kr_L x m) (hD : kr_D x m) (n : Int32) (e1 : (r, s) = f_X7_undo_0 x n) (e2 : (q, t) = f_X8_undo_0 m n) : kr_D s t ∧ r = q := by
  rw [f_X7_undo_0_u] at e1
  rw [f_X8_undo_0_u] at e2
  simp only [kf_lx, kp_in] at e1 e2
  rw [← hD.1] at e2
  have l2 := hL.2.1
  obtain ⟨d1, d2, d3, d4, d5, d6, d7⟩ := id hD
  have cn := kw_clampI d2.1
  by_cases h0 : (0 : Int32).toInt ≤ n.toInt ∧ n.toInt ≤ (x.1 4 3).toInt
  · have h0' : 0 ≤ n.toInt ∧ n.toInt ≤ (x.1 4 3).toInt := h0
    have c := kw_clampI h0'.1
    rw [if_neg (by omega), if_neg (by omega)] at e1
    simp only [if_pos h0] at e2
    rw [if_neg (show ¬ (1 : Int32).toInt = 0 by decide)] at e2
    have es : (x.1 4 3 - n).toInt = (x.1 4 3).toInt - n.toInt := by rw [kw_subI]; omega
    obtain ⟨r1, r2, r3⟩ := kd_run_ok l2.2 (x.1 18) (x.1 4 3).toNatClampNeg (by omega) d4
    rw [← d3] at r3
    obtain ⟨a1, a2, a3, a4⟩ := kd_replay x n h0'.1 (by omega) (fun j hj => (r3 j).2 hj)
    obtain ⟨re1, se1⟩ := Prod.mk.inj e1
    rw [← se1] at a1 a2 a3 a4
    have lay : kd_lay x s := kd_lay.of a4 (by decide)
    have e17 : s.1 17 5 = x.1 17 5 := by rw [lay 17 (Or.inl rfl)]
    have fin : ∀ t : kw_S, kw_FM [14, 1022, 1023, 1024, 1025, 1027] m t → t.1 0 27 = n → kd_cur t (kd_get s) (x.1 17 5).toInt → kr_D s t := by
      intro t F h27 hc
      refine ⟨by rw [a1, h27], by rw [a1]; omega, ?_, ?_, by rw [e17]; exact hc, ?_, fun k hk => (d7 k hk).to l2.2 lay (by rw [(a4 21 (by decide)).1]) ((a4 (49 + k) (by simp; omega)).1) (by rw [F.1 16 (by decide) (by decide)]) (fun j _ => by rw [F.1 17 (by decide) (by decide)])⟩
      · rw [a1, a2, kd_run_cong lay _ (fun _ _ => rfl)]; exact a3
      · rw [a1, a2]
        intro d hd
        rw [e17]
        exact d4 d (by omega)
      · intro d hd
        rw [a1] at hd
        rw [a2, e17, kd_run_cong lay _ (fun _ _ => rfl)]
        exact (d6 d (by omega)).to l2.2 15 (fun j _ => by rw [F.1 15 (by decide) (by decide)])
    by_cases h1 : 0 < (x.1 4 3 - n).toInt
    · rw [if_pos h1] at e2
      obtain ⟨p1, p2⟩ := kp_mul 10 10 n rfl (by decide) h0'.1 (by omega)
      obtain ⟨b1, b2, b3, b4, b5, b6⟩ := kd_read15 m (10 * n) (by rw [p2]; omega) (by rw [p2]; omega)
      rw [p1] at b2 b3 b4 b5 b6
      generalize f_X8_read_0_15 m (10 * n) = U at *
      obtain ⟨re2, se2⟩ := Prod.mk.inj e2
      refine ⟨fin t (by rw [se2]; exact kw_FM_ui0 (kw_FM.tr kw_FM.rf b1 (by decide)) (by decide)) (by rw [se2]; simp [kp_ui]) ?_, by rw [re1, re2]⟩
      have ha := d6 n.toNatClampNeg (by omega)
      rw [a3, se2]
      refine ⟨?_, ?_, ?_, ?_, fun i hi => ?_⟩
      · rw [kp_ui, if_neg (by decide), b2]; exact ha.1
      · rw [kp_ui, if_neg (by decide), b3]; exact ha.2.1
      · rw [kp_ui, if_neg (by decide), b4]; exact ha.2.2.1
      · rw [kp_ui, if_neg (by decide), b5]; exact ha.2.2.2.1
      · rw [kp_ui, if_neg (by omega), b6 i (by omega)]; exact ha.2.2.2.2 i hi
    · rw [if_neg h1] at e2
      obtain ⟨re2, se2⟩ := Prod.mk.inj e2
      have en : n = x.1 4 3 := Int32.toInt_inj.mp (by omega)
      refine ⟨fin t (by rw [se2]; exact kw_FM.rf) (by rw [se2, en]; exact d1.symm) ?_, by rw [re1, re2]⟩
      rw [se2, a3, en, ← d3]
      exact d5
  · have h0' : ¬ (0 ≤ n.toInt ∧ n.toInt ≤ (x.1 4 3).toInt) := h0
    simp only [if_neg h0] at e2
    rw [if_pos (show (0 : Int32).toInt = 0 from rfl)] at e2
    cases e2
    by_cases h1 : n.toInt < 0
    · rw [if_pos h1] at e1
      cases e1
      exact ⟨hD, rfl⟩
    · rw [if_neg h1, if_pos (by omega)] at e1
      cases e1
      exact ⟨hD, rfl⟩
end
section
/-! ===== towns kept, gone on from; days by lots ===== -/
theorem kd_keepL {x : kw_S} (k : Int32) (hk0 : 0 ≤ k.toInt) (hk1 : k.toInt < 3) (c0 : 0 ≤ (x.1 4 3).toInt) (c1 : (x.1 4 3).toInt ≤ 40) : ∀ (n : Nat) (y : Int32) (S : kw_S), 0 ≤ y.toInt → y.toInt ≤ (x.1 4 3).toInt → S.1 4 = x.1 4 → S.1 18 = x.1 18 → S.1 21 k.toNatClampNeg = x.1 4 3 → (∀ j : Nat, -1 ≤ (S.1 21 j).toInt ∧ (S.1 21 j).toInt ≤ 40) → (∀ d : Nat, (d : Int) < y.toInt → S.1 (49 + k.toNatClampNeg) d = x.1 18 d) → (40 - y.toInt).toNat < n → ∃ S' : kw_S, l_X7_keep_0_44 k n y S = (x.1 4 3, S') ∧ (∀ a : Nat, a ≠ 49 + k.toNatClampNeg → S'.1 a = S.1 a) ∧ ∀ d : Nat, (d : Int) < (x.1 4 3).toInt → S'.1 (49 + k.toNatClampNeg) d = x.1 18 d := by
  intro n
  induction n with
  | zero => intro y S _ _ _ _ _ _ _ h; exact absurd h (Nat.not_lt_zero _)
  | succ n ih =>
    intro y S y0 y1 s4 s18 s21 hb hd hm
    have cy := kw_clampI y0
    have ck := kw_clampI hk0
    rw [l_X7_keep_0_44_s, s4]
    by_cases hy : y.toInt < (x.1 4 3).toInt
    · have z := kp_inc y (by omega)
      rw [if_pos hy]
      simp only [kf_lx]
      rw [kp_change5 S hb, if_pos (show 0 ≤ k.toInt ∧ k.toInt < 3 ∧ 0 ≤ y.toInt ∧ y.toInt < (S.1 21 k.toNatClampNeg).toInt by rw [s21]; omega)]
      obtain ⟨S', e1, e2, e3⟩ := ih (y + Int32.ofInt 1) (kw_ui S (49 + k.toNatClampNeg) y.toNatClampNeg (S.1 18 y.toNatClampNeg)) (by omega) (by omega) (by rw [← s4]; funext j; rw [kp_ui, if_neg (by omega)]) (by rw [← s18]; funext j; rw [kp_ui, if_neg (by omega)]) (by rw [← s21, kp_ui, if_neg (by omega)]) (fun j => by rw [kp_ui, if_neg (by omega)]; exact hb j) (fun d hd2 => by
        rw [kp_ui]
        by_cases e : d = y.toNatClampNeg
        · rw [if_pos ⟨rfl, e⟩, s18, e]
        · rw [if_neg (fun q => e q.2)]; exact hd d (by omega)) (by omega)
      refine ⟨S', e1, fun a ha => ?_, e3⟩
      rw [e2 a ha]
      funext j
      rw [kp_ui, if_neg (fun q => ha q.1)]
    · rw [if_neg hy]
      exact ⟨S, rfl, fun _ _ => rfl, fun d hd2 => hd d (by omega)⟩
theorem kd_mkeepL {m : kw_S} (k p : Int32) (hk0 : 0 ≤ k.toInt) (hk1 : k.toInt < 3) (hp : p.toInt = 411 * k.toInt) (c0 : 0 ≤ (m.1 0 27).toInt) (c1 : (m.1 0 27).toInt ≤ 40) : ∀ (n : Nat) (y : Int32) (S : kw_S), 0 ≤ y.toInt → y.toInt ≤ 10 * (m.1 0 27).toInt → kw_FM [17] m S → (∀ j : Nat, (j : Int) < y.toInt → S.1 17 (411 * k.toNatClampNeg + j) = m.1 15 j) → (∀ j : Nat, j < 411 * k.toNatClampNeg ∨ 411 * k.toNatClampNeg + 411 ≤ j → S.1 17 j = m.1 17 j) → (400 - y.toInt).toNat < n → ∃ S' : kw_S, l_X8_keep_0_29 k p n y S = (m.1 0 27, S') ∧ kw_FM [16, 17] m S' ∧ (∀ j : Nat, (j : Int) < 10 * (m.1 0 27).toInt → S'.1 17 (411 * k.toNatClampNeg + j) = m.1 15 j) ∧ (∀ j : Nat, j < 411 * k.toNatClampNeg ∨ 411 * k.toNatClampNeg + 411 ≤ j → S'.1 17 j = m.1 17 j) ∧ S'.1 17 (411 * k.toNatClampNeg + 410) = m.1 0 27 ∧ (S'.1 17 (411 * k.toNatClampNeg + 400) = m.1 0 22 ∧ S'.1 17 (411 * k.toNatClampNeg + 400 + 1) = m.1 0 23 ∧ S'.1 17 (411 * k.toNatClampNeg + 400 + 2) = m.1 0 24 ∧ S'.1 17 (411 * k.toNatClampNeg + 400 + 3) = m.1 0 25 ∧ ∀ i : Nat, i < 6 → S'.1 17 (411 * k.toNatClampNeg + 400 + 4 + i) = m.1 14 i) ∧ S'.1 16 k.toNatClampNeg = 1 ∧ ∀ j : Nat, j ≠ k.toNatClampNeg → S'.1 16 j = m.1 16 j := by
  intro n
  induction n with
  | zero => intro y S _ _ _ _ _ h; exact absurd h (Nat.not_lt_zero _)
  | succ n ih =>
    intro y S y0 y1 hF hd ho hm
    have cy := kw_clampI y0
    have ck := kw_clampI hk0
    have cp := kw_clampI (x := p) (by omega)
    have ep : p.toNatClampNeg = 411 * k.toNatClampNeg := by omega
    have s27 : S.1 0 27 = m.1 0 27 := hF.2.1 27 (by decide)
    obtain ⟨-, t2⟩ := kp_mul 10 10 (m.1 0 27) rfl (by decide) c0 (by omega)
    have t2' : ((10 : Int32) * m.1 0 27).toInt = 10 * (m.1 0 27).toInt := t2
    rw [l_X8_keep_0_29_s]
    simp only [kf_lx]
    rw [s27]
    by_cases hy : y.toInt < ((10 : Int32) * m.1 0 27).toInt
    · have z := kp_inc y (by omega)
      rw [if_pos hy]
      have e5 : (p + y).toInt = p.toInt + y.toInt := by rw [kw_addI]; omega
      have c5 := kw_clampI (x := p + y) (by omega)
      have i5 : (p + y).toNatClampNeg = 411 * k.toNatClampNeg + y.toNatClampNeg := by omega
      have s15 : S.1 15 = m.1 15 := hF.1 15 (by decide) (by decide)
      rw [i5]
      refine ih (y + Int32.ofInt 1) (kw_ui S 17 (411 * k.toNatClampNeg + y.toNatClampNeg) (S.1 15 y.toNatClampNeg)) (by omega) (by omega) (kw_FM_ui hF (by decide) (by decide)) (fun j hj => ?_) (fun j hj => ?_) (by omega)
      · rw [kp_ui]
        by_cases e : j = y.toNatClampNeg
        · rw [if_pos ⟨rfl, by omega⟩, s15, e]
        · rw [if_neg (by omega)]; exact hd j (by omega)
      · rw [kp_ui, if_neg (by omega)]; exact ho j hj
    · rw [if_neg hy]
      have i4 := kp_off p 400 400 rfl (by omega) (by omega) (by decide)
      have i41 := kp_off p 410 410 rfl (by omega) (by omega) (by decide)
      have e4 : (p + 400).toInt = p.toInt + 400 := by rw [kw_addI, show (400 : Int32).toInt = 400 from rfl]; omega
      obtain ⟨a1, a2, a3, a4, a5, a6, a7⟩ := kd_write17 S (p + 400) (by omega) (by omega)
      rw [i4, ep] at a2 a3 a4 a5 a6 a7
      rw [i41, ep]
      generalize f_X8_write_0_17 S (p + 400) = U at *
      have u27 : U.1 0 27 = m.1 0 27 := by rw [a1.2.1 27 (by decide), s27]
      rw [u27]
      have n17 : ∀ j : Nat, j ≠ 411 * k.toNatClampNeg + 410 → (kw_ui (kw_ui U 17 (411 * k.toNatClampNeg + 410) (m.1 0 27)) 16 k.toNatClampNeg 1).1 17 j = U.1 17 j := fun j hj => by rw [kp_ui, if_neg (by omega), kp_ui, if_neg (by omega)]
      refine ⟨_, rfl, kw_FM_ui (kw_FM_ui ((kw_FM.tr kw_FM.rf hF (by decide)).tr a1 (by decide)) (by decide) (by decide)) (by decide) (by decide), fun j hj => ?_, fun j hj => ?_, ?_, ⟨?_, ?_, ?_, ?_, fun i hi => ?_⟩, ?_, fun j hj => ?_⟩
      · rw [n17 _ (by omega), a7 _ (by omega)]; exact hd j (by omega)
      · rw [n17 _ (by omega), a7 _ (by omega)]; exact ho j hj
      · rw [kp_ui, if_neg (by omega), kp_ui, if_pos ⟨rfl, rfl⟩]
      · rw [n17 _ (by omega), a2, hF.2.1 22 (by decide)]
      · rw [n17 _ (by omega), a3, hF.2.1 23 (by decide)]
      · rw [n17 _ (by omega), a4, hF.2.1 24 (by decide)]
      · rw [n17 _ (by omega), a5, hF.2.1 25 (by decide)]
      · rw [n17 _ (by omega), a6 i hi, hF.1 14 (by decide) (by decide)]
      · rw [kp_ui, if_pos ⟨rfl, rfl⟩]
      · rw [kp_ui, if_neg (by omega), kp_ui, if_neg (by omega), a1.1 16 (by decide) (by decide), hF.1 16 (by decide) (by decide)]
theorem kr_keep {x m s t : kw_S} {r q : Int32} (hX : kw_I bX x) (hL : kr_L x m) (hD : kr_D x m) (k : Int32) (e1 : (r, s) = f_X7_keep_0 x k) (e2 : (q, t) = f_X8_keep_0 m k) : kr_D s t ∧ r = q := by
  rw [f_X7_keep_0_u, f_X5_isEmpty_4_u] at e1
  rw [f_X8_keep_0_u] at e2
  simp only [kf_lx, kp_has5] at e1
  simp only [kf_lx, kp_in] at e2
  have l2 := hL.2.1
  obtain ⟨d1, d2, d3, d4, d5, d6, d7⟩ := id hD
  have q2 : (2 : Int32).toInt = 2 := rfl
  by_cases hk : 0 ≤ k.toInt ∧ k.toInt < 3
  · have hk2 : (0 : Int32).toInt ≤ k.toInt ∧ k.toInt ≤ (2 : Int32).toInt := by rw [kp_q0]; omega
    simp only [if_pos hk] at e1
    simp only [if_pos hk2] at e2
    rw [if_neg (show ¬ (1 : Int32).toInt = 0 by decide)] at e1 e2
    by_cases h0 : (x.1 17 5).toInt < (1 : Int32).toInt
    · have h0' : (x.1 17 5).toInt < 1 := h0
      simp only [if_pos h0] at e1
      rw [if_neg (show ¬ (1 : Int32).toInt = 0 by decide)] at e1
      rw [← hL.1, if_pos (show (x.1 17 5).toInt = 0 by omega)] at e2
      cases e1; cases e2
      exact ⟨hD, rfl⟩
    · have h0' : ¬ (x.1 17 5).toInt < 1 := h0
      simp only [if_neg h0] at e1
      rw [if_pos (show (0 : Int32).toInt = 0 from rfl)] at e1
      rw [← hL.1, if_neg (show ¬ (x.1 17 5).toInt = 0 by omega)] at e2
      have ck := kw_clampI hk.1
      have cn := kw_clampI d2.1
      have hr : 40 ≤ (x.1 5 0).toInt ∧ (x.1 5 0).toInt ≤ 40 := hX 5 0
      rw [kp_make5 x (by omega) k (x.1 4 3) 0 hk.1 hk.2 d2.1 d2.2] at e1
      generalize hS3 : kw_ua (kw_ui x 21 k.toNatClampNeg (x.1 4 3)) (49 + k.toNatClampNeg) (fun j => if j < 40 then 0 else x.1 (49 + k.toNatClampNeg) j) = S3 at e1
      have f21 : ∀ j : Nat, S3.1 21 j = if j = k.toNatClampNeg then x.1 4 3 else x.1 21 j := fun j => by
        rw [← hS3, kp_ua, if_neg (by omega), kp_ui]
        by_cases e : j = k.toNatClampNeg
        · rw [if_pos ⟨rfl, e⟩, if_pos e]
        · rw [if_neg (fun q => e q.2), if_neg e]
      have fo : ∀ a : Nat, a ≠ 21 → a ≠ 49 + k.toNatClampNeg → S3.1 a = x.1 a := fun a h1 h2 => by
        funext j
        rw [← hS3, kp_ua, if_neg h2, kp_ui, if_neg (fun q => h1 q.1)]
      obtain ⟨S', g1, g2, g3⟩ := kd_keepL (x := x) k hk.1 hk.2 d2.1 d2.2 ((41 - (0 : Int32).toInt).toNat + 1) 0 S3 (by decide) (by rw [kp_q0]; exact d2.1) (fo 4 (by decide) (by omega)) (fo 18 (by decide) (by omega)) (by rw [f21, if_pos rfl]) (fun j => by
        rw [f21]
        by_cases e : j = k.toNatClampNeg
        · rw [if_pos e]; omega
        · rw [if_neg e]; exact hX 21 j) (fun d hd => by rw [kp_q0] at hd; omega) (by rw [kp_q0]; omega)
      rw [g1] at e1
      obtain ⟨p1, p2⟩ := kp_mul 411 411 k rfl (by decide) hk.1 (by omega)
      have e27 := congrArg Int32.toInt d1
      obtain ⟨T', m1, m2, m3, m4, m5, m6, m7, m8⟩ := kd_mkeepL (m := m) k (411 * k) hk.1 hk.2 p2 (by omega) (by omega) ((401 - (0 : Int32).toInt).toNat + 1) 0 m (by decide) (by rw [kp_q0]; omega) kw_FM.rf (fun j hj => by rw [kp_q0] at hj; omega) (fun _ _ => rfl) (by rw [kp_q0]; omega)
      rw [m1] at e2
      obtain ⟨r1, s1⟩ := Prod.mk.inj e1
      obtain ⟨r2, s2⟩ := Prod.mk.inj e2
      rw [← s1] at g2 g3
      rw [← s2] at m2 m3 m4 m5 m6 m7 m8
      have so : ∀ a : Nat, a ≠ 21 → a ≠ 49 + k.toNatClampNeg → s.1 a = x.1 a := fun a h1 h2 => by rw [g2 a h2, fo a h1 h2]
      have s21 : ∀ j : Nat, s.1 21 j = if j = k.toNatClampNeg then x.1 4 3 else x.1 21 j := fun j => by rw [g2 21 (by omega), f21]
      have lay : kd_lay x s := fun b hb => so b (by omega) (by omega)
      have e17 : s.1 17 5 = x.1 17 5 := by rw [lay 17 (Or.inl rfl)]
      have e4 := so 4 (by decide) (by omega)
      have e18 := so 18 (by decide) (by omega)
      have eg : kd_get s = kd_get x := by unfold kd_get; rw [e4, so 19 (by decide) (by omega)]
      refine ⟨⟨by rw [e4, m2.2.1 27 (by decide)]; exact d1, by rw [e4]; exact d2, ?_, ?_, ?_, ?_, fun j hj => ?_⟩, by rw [r1, r2]; exact d1⟩
      · rw [eg, e4, e18, kd_run_cong lay _ (fun _ _ => rfl)]; exact d3
      · rw [e4, e18]
        intro d hd
        rw [e17]
        exact d4 d hd
      · rw [eg, e17]
        exact d5.to (m2.2.1 22 (by decide)) (m2.2.1 23 (by decide)) (m2.2.1 24 (by decide)) (m2.2.1 25 (by decide)) (m2.1 14 (by decide) (by decide))
      · intro d hd
        rw [e4] at hd
        rw [e17, e18, kd_run_cong lay _ (fun _ _ => rfl)]
        exact (d6 d hd).to l2.2 15 (fun j _ => by rw [m2.1 15 (by decide) (by decide)])
      · by_cases e : j = k.toNatClampNeg
        · subst e
          have run : ∀ d : Nat, d ≤ (x.1 4 3).toNatClampNeg → kd_run s (s.1 (49 + k.toNatClampNeg)) d = kd_run x (x.1 18) d := fun d hd => kd_run_cong lay d (fun q hq => g3 q (by omega))
          have ss : s.1 21 k.toNatClampNeg = x.1 4 3 := by rw [s21, if_pos rfl]
          refine Or.inr ⟨m7, by rw [ss]; exact d2, by rw [ss, m5]; exact d1.symm, ?_, ?_, ?_⟩
          · rw [ss]
            intro d hd
            rw [e17, g3 d (by omega)]
            exact d4 d hd
          · rw [ss, e17, run _ (Nat.le_refl _), ← d3]
            obtain ⟨v1, v2, v3, v4, v5⟩ := m6
            refine ⟨v1.trans d5.1, v2.trans d5.2.1, v3.trans d5.2.2.1, v4.trans d5.2.2.2.1, fun i hi => (v5 i (by omega)).trans (d5.2.2.2.2 i hi)⟩
          · intro d hd
            rw [ss] at hd
            rw [e17, run d (by omega)]
            exact (d6 d hd).to l2.2 17 (fun j hj => by rw [Nat.add_assoc]; exact m3 (10 * d + j) (by omega))
        · exact (d7 j hj).to l2.2 lay (by rw [s21, if_neg e]) (so (49 + j) (by omega) (by omega)) (m8 j e) (fun i hi => m4 _ (by omega))
  · have hk2 : ¬ ((0 : Int32).toInt ≤ k.toInt ∧ k.toInt ≤ (2 : Int32).toInt) := by rw [kp_q0]; omega
    simp only [if_neg hk] at e1
    simp only [if_neg hk2] at e2
    rw [if_pos (show (0 : Int32).toInt = 0 from rfl)] at e1 e2
    cases e1; cases e2
    exact ⟨hD, rfl⟩
end
section
theorem kd_onL {x : kw_S} (k c : Int32) (hk0 : 0 ≤ k.toInt) (hk1 : k.toInt < 3) (hc : x.1 21 k.toNatClampNeg = c) (c0 : 0 ≤ c.toInt) (c1 : c.toInt ≤ 40) (hb : ∀ j : Nat, -1 ≤ (x.1 21 j).toInt ∧ (x.1 21 j).toInt ≤ 40) : ∀ (n : Nat) (y : Int32) (S : kw_S), 0 ≤ y.toInt → y.toInt ≤ c.toInt → kw_F [18] x S → (∀ d : Nat, (d : Int) < y.toInt → S.1 18 d = x.1 (49 + k.toNatClampNeg) d) → (40 - y.toInt).toNat < n → ∃ S' : kw_S, l_X7_on_0_44 k c n y S = (c, f_X5_replay_4 S' c) ∧ kw_F [18] x S' ∧ ∀ d : Nat, (d : Int) < c.toInt → S'.1 18 d = x.1 (49 + k.toNatClampNeg) d := by
  intro n
  induction n with
  | zero => intro y S _ _ _ _ h; exact absurd h (Nat.not_lt_zero _)
  | succ n ih =>
    intro y S y0 y1 hF hd hm
    have cy := kw_clampI y0
    have ck := kw_clampI hk0
    have s21 : S.1 21 = x.1 21 := (hF 21 (by decide)).1
    rw [l_X7_on_0_44_s]
    by_cases hy : y.toInt < c.toInt
    · have z := kp_inc y (by omega)
      rw [if_pos hy]
      simp only [kf_lx]
      rw [kp_value5 S (by rw [s21]; exact hb), if_pos (show 0 ≤ k.toInt ∧ k.toInt < 3 ∧ 0 ≤ y.toInt ∧ y.toInt < (S.1 21 k.toNatClampNeg).toInt by rw [s21, hc]; omega)]
      refine ih (y + Int32.ofInt 1) _ (by omega) (by omega) (kw_F_ui hF (by decide)) (fun d hd2 => ?_) (by omega)
      rw [kp_ui]
      by_cases e : d = y.toNatClampNeg
      · rw [if_pos ⟨rfl, e⟩, (hF (49 + k.toNatClampNeg) (by simp; omega)).1, e]
      · rw [if_neg (fun q => e q.2)]; exact hd d (by omega)
    · rw [if_neg hy]
      simp only [kf_lx]
      exact ⟨S, rfl, hF, fun d hd2 => hd d (by omega)⟩
theorem kd_monL {m : kw_S} (k p : Int32) (hk0 : 0 ≤ k.toInt) (hk1 : k.toInt < 3) (hp : p.toInt = 411 * k.toInt) (c0 : 0 ≤ (m.1 0 27).toInt) (c1 : (m.1 0 27).toInt ≤ 40) : ∀ (n : Nat) (y : Int32) (S : kw_S), 0 ≤ y.toInt → y.toInt ≤ 10 * (m.1 0 27).toInt → kw_FM [15] m S → (∀ j : Nat, (j : Int) < y.toInt → S.1 15 j = m.1 17 (411 * k.toNatClampNeg + j)) → (400 - y.toInt).toNat < n → ∃ S' : kw_S, l_X8_on_0_61 k p n y S = (m.1 0 27, S') ∧ kw_FM [15] m S' ∧ ∀ j : Nat, (j : Int) < 10 * (m.1 0 27).toInt → S'.1 15 j = m.1 17 (411 * k.toNatClampNeg + j) := by
  intro n
  induction n with
  | zero => intro y S _ _ _ _ h; exact absurd h (Nat.not_lt_zero _)
  | succ n ih =>
    intro y S y0 y1 hF hd hm
    have cy := kw_clampI y0
    have ck := kw_clampI hk0
    have cp := kw_clampI (x := p) (by omega)
    have s27 : S.1 0 27 = m.1 0 27 := hF.2.1 27 (by decide)
    obtain ⟨-, t2⟩ := kp_mul 10 10 (m.1 0 27) rfl (by decide) c0 (by omega)
    have t2' : ((10 : Int32) * m.1 0 27).toInt = 10 * (m.1 0 27).toInt := t2
    rw [l_X8_on_0_61_s]
    simp only [kf_lx]
    rw [s27]
    by_cases hy : y.toInt < ((10 : Int32) * m.1 0 27).toInt
    · have z := kp_inc y (by omega)
      rw [if_pos hy]
      have e5 : (p + y).toInt = p.toInt + y.toInt := by rw [kw_addI]; omega
      have c5 := kw_clampI (x := p + y) (by omega)
      have i5 : (p + y).toNatClampNeg = 411 * k.toNatClampNeg + y.toNatClampNeg := by omega
      rw [i5, hF.1 17 (by decide) (by decide)]
      refine ih (y + Int32.ofInt 1) _ (by omega) (by omega) (kw_FM_ui hF (by decide) (by decide)) (fun j hj => ?_) (by omega)
      rw [kp_ui]
      by_cases e : j = y.toNatClampNeg
      · rw [if_pos ⟨rfl, e⟩, e]
      · rw [if_neg (fun q => e q.2)]; exact hd j (by omega)
    · rw [if_neg hy]
      exact ⟨S, rfl, hF, fun j hj => hd j (by omega)⟩
theorem kr_on {x m s t : kw_S} {r q : Int32} (hX : kw_I bX x) (hL : kr_L x m) (hD : kr_D x m) (k : Int32) (e1 : (r, s) = f_X7_on_0 x k) (e2 : (q, t) = f_X8_on_0 m k) : kr_D s t ∧ r = q := by
  rw [f_X7_on_0_u] at e1
  rw [f_X8_on_0_u] at e2
  simp only [kf_lx, kf_bx, kp_has5, kp_miss5, kp_size5] at e1
  simp only [kf_lx, kf_bx, kp_in] at e2
  have l2 := hL.2.1
  obtain ⟨d1, d2, d3, d4, d5, d6, d7⟩ := id hD
  have q2 : (2 : Int32).toInt = 2 := rfl
  by_cases hk : 0 ≤ k.toInt ∧ k.toInt < 3
  · have hk2 : (0 : Int32).toInt ≤ k.toInt ∧ k.toInt ≤ (2 : Int32).toInt := by rw [kp_q0]; omega
    simp only [if_pos hk] at e1
    simp only [if_pos hk2] at e2
    rw [if_neg (show ¬ (1 : Int32).toInt = 0 by decide)] at e1 e2
    have ck := kw_clampI hk.1
    rcases d7 k.toNatClampNeg (by omega) with ⟨a, b⟩ | ⟨a1, a2, a3, a4, a5, a6⟩
    · have hn : ¬ (0 ≤ k.toInt ∧ k.toInt < 3 ∧ 0 ≤ (x.1 21 k.toNatClampNeg).toInt) := by omega
      simp only [if_neg hn] at e1
      rw [if_neg (show ¬ (1 : Int32).toInt = 0 by decide)] at e1
      rw [b, if_pos (show (0 : Int32).toInt = 0 from rfl)] at e2
      obtain ⟨r1, s1⟩ := Prod.mk.inj e1
      obtain ⟨r2, s2⟩ := Prod.mk.inj e2
      refine ⟨hD.cong l2.2 (fun b hb => by rw [s1]; exact kp_refuse2 _ _ b (by omega) (by omega)) (fun b hb => by rw [s1]; exact kp_refuse2 _ _ b (by omega) (by omega)) (fun b hb => by rw [s2]; exact kp_meet2 _ _ b (by omega) (by omega)) (fun j hj => ?_), by rw [r1, r2]; exact (kp_refuse1 _ _).trans (kp_meet1 _ _).symm⟩
      rw [s2, f_X8_meet_0_u]
      simp only [kf_lx]
      rw [kp_ui, if_neg (by omega), kp_ui, if_neg (by omega)]
    · have hn : 0 ≤ k.toInt ∧ k.toInt < 3 ∧ 0 ≤ (x.1 21 k.toNatClampNeg).toInt := by omega
      have cc := kw_clampI a2.1
      simp only [if_pos hn] at e1
      rw [if_pos (show (0 : Int32).toInt = 0 from rfl)] at e1
      rw [a1, if_neg (show ¬ (1 : Int32).toInt = 0 by decide)] at e2
      obtain ⟨S', g1, g2, g3⟩ := kd_onL (x := x) k (x.1 21 k.toNatClampNeg) hk.1 hk.2 rfl a2.1 a2.2 (fun j => hX 21 j) ((41 - (0 : Int32).toInt).toNat + 1) 0 x (by decide) (by rw [kp_q0]; exact a2.1) kw_F.rf (fun d hd => by rw [kp_q0] at hd; omega) (by rw [kp_q0]; omega)
      rw [g1] at e1
      obtain ⟨r1, s1⟩ := Prod.mk.inj e1
      have cn := kw_clampI d2.1
      obtain ⟨-, -, w3⟩ := kd_run_ok l2.2 (x.1 18) (x.1 4 3).toNatClampNeg (by omega) d4
      rw [← d3] at w3
      obtain ⟨b1, b2, b3, b4⟩ := kd_replay S' (x.1 21 k.toNatClampNeg) a2.1 a2.2 (fun j hj => by rw [(g2 19 (by decide)).1]; exact (w3 j).2 hj)
      rw [← s1] at b1 b2 b3 b4
      have lay1 : kd_lay x S' := kd_lay.of g2 (by decide)
      have lay2 : kd_lay S' s := kd_lay.of b4 (by decide)
      have lay := lay1.tr lay2
      have e17 : s.1 17 5 = x.1 17 5 := by rw [lay 17 (Or.inl rfl)]
      have so : ∀ a : Nat, a ≠ 4 → a ≠ 18 → a ≠ 19 → s.1 a = x.1 a := fun a h4 h18 h19 => by rw [(b4 a (by simp; omega)).1, (g2 a (by simp; omega)).1]
      have u18 : ∀ d : Nat, d < (x.1 21 k.toNatClampNeg).toNatClampNeg → s.1 18 d = x.1 (49 + k.toNatClampNeg) d := fun d hd => by rw [b2]; exact g3 d (by omega)
      have run : ∀ d : Nat, d ≤ (x.1 21 k.toNatClampNeg).toNatClampNeg → kd_run s (s.1 18) d = kd_run x (x.1 (49 + k.toNatClampNeg)) d := fun d hd => kd_run_cong lay d (fun q hq => u18 q (by omega))
      -- the reference
      obtain ⟨p1, p2⟩ := kp_mul 411 411 k rfl (by decide) hk.1 (by omega)
      have p2' : ((411 : Int32) * k).toInt = 411 * k.toInt := p2
      have i4 := kp_off (411 * k) 400 400 rfl (by omega) (by omega) (by decide)
      have i41 := kp_off (411 * k) 410 410 rfl (by omega) (by omega) (by decide)
      have e4 : ((411 : Int32) * k + 400).toInt = 411 * k.toInt + 400 := by rw [kw_addI, show (400 : Int32).toInt = 400 from rfl]; omega
      obtain ⟨o1, o2, o3, o4, o5, o6⟩ := kd_read17 m (411 * k + 400) (by omega) (by omega)
      rw [i4, p1] at o2 o3 o4 o5 o6
      rw [i41, p1] at e2
      generalize f_X8_read_0_17 m (411 * k + 400) = U at *
      have u17 : U.1 17 = m.1 17 := o1.1 17 (by decide) (by decide)
      rw [u17, a3] at e2
      have v27 : (kw_ui U 0 27 (x.1 21 k.toNatClampNeg)).1 0 27 = x.1 21 k.toNatClampNeg := by simp [kp_ui]
      obtain ⟨T', m1, m2, m3⟩ := kd_monL (m := kw_ui U 0 27 (x.1 21 k.toNatClampNeg)) k (411 * k) hk.1 hk.2 p2' (by rw [v27]; exact a2.1) (by rw [v27]; exact a2.2) ((401 - (0 : Int32).toInt).toNat + 1) 0 _ (by decide) (by rw [kp_q0, v27]; omega) kw_FM.rf (fun j hj => by rw [kp_q0] at hj; omega) (by rw [kp_q0]; omega)
      rw [m1, v27] at e2
      rw [v27] at m3
      have w17 : (kw_ui U 0 27 (x.1 21 k.toNatClampNeg)).1 17 = m.1 17 := by rw [← u17]; funext j; simp [kp_ui]
      rw [w17] at m3
      obtain ⟨r2, s2⟩ := Prod.mk.inj e2
      rw [← s2] at m2 m3
      have FU : kw_FM [14, 1022, 1023, 1024, 1025, 1027] m (kw_ui U 0 27 (x.1 21 k.toNatClampNeg)) := kw_FM_ui0 (kw_FM.tr kw_FM.rf o1 (by decide)) (by decide)
      have FT : kw_FM [14, 15, 1022, 1023, 1024, 1025, 1027] m t := (kw_FM.tr kw_FM.rf FU (by decide)).tr m2 (by decide)
      have tf : ∀ j : Nat, t.1 0 j = (kw_ui U 0 27 (x.1 21 k.toNatClampNeg)).1 0 j := fun j => m2.2.1 j (by simp; omega)
      refine ⟨⟨by rw [b1, tf 27, v27], by rw [b1]; exact a2, ?_, ?_, ?_, ?_, fun j hj => (d7 j hj).to l2.2 lay (by rw [so 21 (by decide) (by decide) (by decide)]) (so (49 + j) (by omega) (by omega) (by omega)) (by rw [FT.1 16 (by decide) (by decide)]) (fun i _ => by rw [FT.1 17 (by decide) (by decide)])⟩, by rw [r1, r2]⟩
      · rw [b1, run _ (Nat.le_refl _), b3]
        exact kd_run_cong lay1 _ (fun d hd => g3 d (by omega))
      · rw [b1]
        intro d hd
        rw [e17, u18 d hd]
        exact a4 d hd
      · have ek : kd_get s = kd_run x (x.1 (49 + k.toNatClampNeg)) (x.1 21 k.toNatClampNeg).toNatClampNeg := by
          rw [b3]; exact kd_run_cong lay1 _ (fun d hd => g3 d (by omega))
        rw [ek, e17]
        refine ⟨?_, ?_, ?_, ?_, fun i hi => ?_⟩
        · rw [tf, kp_ui, if_neg (by decide), o2]; exact a5.1
        · rw [tf, kp_ui, if_neg (by decide), o3]; exact a5.2.1
        · rw [tf, kp_ui, if_neg (by decide), o4]; exact a5.2.2.1
        · rw [tf, kp_ui, if_neg (by decide), o5]; exact a5.2.2.2.1
        · rw [m2.1 14 (by decide) (by decide), kp_ui, if_neg (by omega), o6 i (by omega)]; exact a5.2.2.2.2 i hi
      · intro d hd
        rw [b1] at hd
        rw [e17, run d (by omega)]
        exact (a6 d hd).to l2.2 15 (fun j hj => by rw [Nat.add_assoc]; exact m3 (10 * d + j) (by omega))
  · have hk2 : ¬ ((0 : Int32).toInt ≤ k.toInt ∧ k.toInt ≤ (2 : Int32).toInt) := by rw [kp_q0]; omega
    simp only [if_neg hk] at e1
    simp only [if_neg hk2] at e2
    rw [if_pos (show (0 : Int32).toInt = 0 from rfl)] at e1 e2
    cases e1; cases e2
    exact ⟨hD, rfl⟩
/-! days by lots -/
theorem kd_lot (y : Int64) (h0 : 0 ≤ y.toInt) (h1 : y.toInt ≤ 2147483646) (l : Int32) (l0 : 1 ≤ l.toInt) (l1 : l.toInt ≤ 6) : 0 ≤ (y * 48271 - y * 48271 / 2147483647 * 2147483647).toInt ∧ (y * 48271 - y * 48271 / 2147483647 * 2147483647).toInt ≤ 2147483646 ∧ ∀ z : Int64, 0 ≤ z.toInt → 0 ≤ (z - z / l.toInt64 * l.toInt64).toInt32.toInt ∧ (z - z / l.toInt64 * l.toInt64).toInt32.toInt < l.toInt := by
  have e := kw_lmulI y 48271 _ rfl
  rw [show (48271 : Int64).toInt = 48271 from rfl] at e
  have q : (2147483647 : Int64).toInt = 2147483647 := rfl
  have r := kw_lremI (y * 48271) 2147483647 _ rfl
  have e' : (y * 48271).toInt = y.toInt * 48271 := by
    rw [e, Int.emod_eq_of_lt (by omega) (by omega)]
    omega
  refine ⟨r.2.2 (by omega), by have := (r.1 (by omega)).1; omega, fun z hz => ?_⟩
  have el := kw_i2lI l
  have r2 := kw_lremI z l.toInt64 _ rfl
  have a1 := r2.2.2 hz
  have a2 := (r2.1 (by omega)).1
  have c := kw_l2iI (z - z / l.toInt64 * l.toInt64) _ rfl (by omega) (by omega)
  omega
theorem kd_lotsL {n0 a3 : Int32} (a2 b2 : Int32) (hn : n0.toInt ≤ 20) : ∀ (n n' : Nat) (y : Int64) (i : Int32) (x m : kw_S), kr_L x m → kr_D x m → a3 = x.1 17 5 → 1 ≤ a3.toInt → 0 ≤ i.toInt → i.toInt ≤ n0.toInt → (x.1 4 3).toInt + 2 * (n0.toInt - i.toInt) ≤ 40 → 0 ≤ y.toInt → y.toInt ≤ 2147483646 → (n0.toInt - i.toInt).toNat < n → (n0.toInt - i.toInt).toNat < n' → kr_D (l_X7_lots_0_69 n0 a2 a3 n y i x).2 (l_X8_lots_0_55 n0 b2 n' y i m).2 ∧ (l_X7_lots_0_69 n0 a2 a3 n y i x).1 = 1 ∧ (l_X8_lots_0_55 n0 b2 n' y i m).1 = 1 := by
  intro n
  induction n with
  | zero => intro n' y i x m _ _ _ _ _ _ _ _ _ h _; exact absurd h (Nat.not_lt_zero _)
  | succ n ih =>
    intro n' y i x m hL hD ha l0 i0 i1 hc y0 y1 h1 h2
    cases n' with
    | zero => exact absurd h2 (Nat.not_lt_zero _)
    | succ n' =>
      have l2 := hL.2.1
      have la := congrArg Int32.toInt ha
      have d2 := hD.2.1
      rw [l_X7_lots_0_69_s, l_X8_lots_0_55_s]
      simp only [kf_lx, kf_bx]
      by_cases hi : i.toInt < n0.toInt
      · have z := kp_inc i (by omega)
        rw [if_pos hi, if_pos hi, ← hL.1, ← ha, Int64.mul_comm 48271 y]
        obtain ⟨g1, g2, g3⟩ := kd_lot y y0 y1 a3 l0 (by omega)
        generalize y * 48271 - y * 48271 / 2147483647 * 2147483647 = y' at *
        obtain ⟨g4, g5⟩ := g3 y' g1
        generalize (y' - y' / a3.toInt64 * a3.toInt64).toInt32 = e at *
        obtain ⟨a1, a2', a3', a4, -⟩ := kd_deed hL hD (by omega) e ⟨g4, Or.inl (by omega)⟩ (kd_mturn hL hD (by omega) e g4 (by omega))
        generalize f_X5_act_4 x e = x1 at *
        generalize f_X8_turnLine_0 m e = m1 at *
        have z1 := kp_add1 (x.1 4 3) (by omega)
        have c1 := congrArg Int32.toInt a3'
        obtain ⟨b1, b2', b3', b4, -⟩ := kd_deed a1 a2' (by omega) 6 ⟨by decide, Or.inr rfl⟩ (kd_mhour a1 a2' (by omega))
        generalize f_X5_act_4 x1 6 = x2 at *
        generalize f_X8_pass_0 (f_X8_note_0 m1) ((f_X8_note_0 m1).1 0 25) = m2 at *
        have z2 := kp_add1 (x1.1 4 3) (by omega)
        have c2 := congrArg Int32.toInt b3'
        exact ih n' y' (i + Int32.ofInt 1) x2 m2 b1 b2' (by rw [(b4 17 (by decide)).1, (a4 17 (by decide)).1]; exact ha) l0 (by omega) (by omega) (by omega) g1 g2 (by omega) (by omega)
      · rw [if_neg hi, if_neg hi]
        refine ⟨?_, rfl, rfl⟩
        refine hD.fr hL (L := [8]) (L' := [1002]) ?_ ?_ (by decide) (by decide)
        · show kw_F [8] x (kw_ui x 8 2 _)
          exact kw_F_ui kw_F.rf (by decide)
        · show kw_FM [1002] m (kw_ui m 0 2 _)
          exact kw_FM_ui0 kw_FM.rf (by decide)
theorem kr_lots {x m s t : kw_S} {r q : Int32} (hL : kr_L x m) (hD : kr_D x m) (n seed : Int32) (e1 : (r, s) = f_X7_lots_0 x n seed) (e2 : (q, t) = f_X8_lots_0 m n seed) : kr_D s t ∧ r = q := by
  rw [f_X7_lots_0_u] at e1
  rw [f_X8_lots_0_u] at e2
  simp only [kf_lx, kp_in] at e1 e2
  rw [f_X5_hasRoomFor_4_u] at e1
  simp only [kf_lx] at e1
  have l2 := hL.2.1
  have d2 := hD.2.1
  have rs := kw_rng seed
  have q20 : (20 : Int32).toInt = 20 := rfl
  have qM : (2147483646 : Int32).toInt = 2147483646 := rfl
  have q40 : (40 : Int32).toInt = 40 := rfl
  have es := kw_i2lI seed
  have lc := kw_lcmpI seed.toInt64 2147483647
  rw [show (2147483647 : Int64).toInt = 2147483647 from rfl] at lc
  by_cases h1 : (1 : Int32).toInt ≤ n.toInt ∧ n.toInt ≤ (20 : Int32).toInt
  · have h1' : 1 ≤ n.toInt ∧ n.toInt ≤ 20 := h1
    rw [if_neg (show ¬ n.toInt < (1 : Int32).toInt by rw [kp_q1]; omega), if_neg (show ¬ (20 : Int32).toInt < n.toInt by omega)] at e1
    simp only [if_pos h1] at e2
    rw [if_neg (show ¬ (1 : Int32).toInt = 0 by decide)] at e2
    by_cases h2 : (1 : Int32).toInt ≤ seed.toInt ∧ seed.toInt ≤ (2147483646 : Int32).toInt
    · have h2' : 1 ≤ seed.toInt ∧ seed.toInt ≤ 2147483646 := h2
      rw [if_neg (show ¬ seed.toInt < (1 : Int32).toInt by rw [kp_q1]; omega), if_pos (lc.1.mpr (by omega))] at e1
      simp only [if_pos h2] at e2
      rw [if_neg (show ¬ (1 : Int32).toInt = 0 by decide), ← hL.1] at e2
      by_cases h3 : (x.1 17 5).toInt < (1 : Int32).toInt
      · have h3' : (x.1 17 5).toInt < 1 := h3
        rw [if_pos h3] at e1
        rw [if_pos (show (x.1 17 5).toInt = 0 by omega)] at e2
        cases e1; cases e2
        exact ⟨hD, rfl⟩
      · have h3' : ¬ (x.1 17 5).toInt < 1 := h3
        rw [if_neg h3] at e1
        rw [if_neg (show ¬ (x.1 17 5).toInt = 0 by omega), ← hD.1] at e2
        have em : ((2 : Int32) * n).toInt = 2 * n.toInt := by rw [kw_mulI, show (2 : Int32).toInt = 2 from rfl]; omega
        have ea : (x.1 4 3 + 2 * n).toInt = (x.1 4 3).toInt + 2 * n.toInt := by rw [kw_addI, em]; omega
        by_cases h4 : (40 : Int32).toInt < (x.1 4 3 + 2 * n).toInt
        · simp only [if_pos h4] at e1
          rw [if_pos (show (0 : Int32).toInt = 0 from rfl)] at e1
          rw [if_pos h4] at e2
          cases e1; cases e2
          exact ⟨hD, rfl⟩
        · simp only [if_neg h4] at e1
          rw [if_neg (show ¬ (1 : Int32).toInt = 0 by decide)] at e1
          rw [if_neg h4] at e2
          obtain ⟨w1, w2, w3⟩ := kd_lotsL (n0 := n) (a3 := x.1 17 5) seed seed (by omega) ((n.toInt - (0 : Int32).toInt).toNat + 1) ((n.toInt - (0 : Int32).toInt).toNat + 1) seed.toInt64 0 x m hL hD rfl (by omega) (by decide) (by rw [kp_q0]; omega) (by rw [kp_q0]; omega) (by omega) (by omega) (Nat.lt_succ_self _) (Nat.lt_succ_self _)
          rw [← e1] at w1 w2
          rw [← e2] at w1 w3
          exact ⟨w1, w2.trans w3.symm⟩
    · have h2' : ¬ (1 ≤ seed.toInt ∧ seed.toInt ≤ 2147483646) := h2
      simp only [if_neg h2] at e2
      rw [if_pos (show (0 : Int32).toInt = 0 from rfl)] at e2
      cases e2
      by_cases h5 : seed.toInt < (1 : Int32).toInt
      · rw [if_pos h5] at e1
        cases e1
        exact ⟨hD, rfl⟩
      · have h5' : ¬ seed.toInt < 1 := h5
        rw [if_neg h5, if_neg (fun z => by have := lc.1.mp z; omega)] at e1
        cases e1
        exact ⟨hD, rfl⟩
  · have h1' : ¬ (1 ≤ n.toInt ∧ n.toInt ≤ 20) := h1
    simp only [if_neg h1] at e2
    rw [if_pos (show (0 : Int32).toInt = 0 from rfl)] at e2
    cases e2
    by_cases h5 : n.toInt < (1 : Int32).toInt
    · rw [if_pos h5] at e1
      cases e1
      exact ⟨hD, rfl⟩
    · have h5' : ¬ n.toInt < 1 := h5
      rw [if_neg h5, if_pos (by omega)] at e1
      cases e1
      exact ⟨hD, rfl⟩
end
section
/-! ===== answers that hang on the town as it is ===== -/
theorem kd_now {x m : kw_S} (hL : kr_L x m) (hD : kr_D x m) : (0 ≤ (x.1 4 5).toInt ∧ (x.1 4 5).toInt ≤ 40) ∧ (0 ≤ (x.1 4 4).toInt ∧ (x.1 4 4).toInt ≤ 63) ∧ ∀ i : Nat, 0 ≤ (x.1 19 i).toInt ∧ (x.1 19 i).toInt ≤ 9 := by
  have d2 := hD.2.1
  have cn := kw_clampI d2.1
  obtain ⟨w1, w2, w3⟩ := kd_run_ok hL.2.1.2 (x.1 18) (x.1 4 3).toNatClampNeg (by omega) hD.2.2.2.1
  rw [← hD.2.2.1] at w1 w2 w3
  have w1' : 0 ≤ (x.1 4 5).toInt ∧ (x.1 4 5).toInt ≤ (x.1 4 3).toNatClampNeg := w1
  exact ⟨by omega, w2, fun i => (w3 i).1⟩
theorem kd_windNow {x m : kw_S} (hL : kr_L x m) (hD : kr_D x m) : f_X5_windNow_4 x = f_X8_windAt_0 m (m.1 0 22) := by
  rw [f_X5_windNow_4_u]
  simp only [kf_lx]
  rw [kt_windAt hL _ (kd_now hL hD).1.1, show m.1 0 22 = x.1 4 5 from hD.2.2.2.2.1.1]
theorem kd_windAhead {x m : kw_S} (hL : kr_L x m) (hD : kr_D x m) (k : Int32) (h0 : 0 ≤ k.toInt) (h1 : k.toInt ≤ 1000) : f_X5_windAhead_4 x k = f_X8_windAt_0 m (m.1 0 22 + k) := by
  have n1 := (kd_now hL hD).1
  rw [f_X5_windAhead_4_u]
  simp only [kf_lx]
  have e : (x.1 4 5 + k).toInt = (x.1 4 5).toInt + k.toInt := by rw [kw_addI]; omega
  rw [kt_windAt hL _ (by omega), show m.1 0 22 = x.1 4 5 from hD.2.2.2.2.1.1]
theorem kd_storm {x m : kw_S} (hL : kr_L x m) (hD : kr_D x m) : f_X5_hoursToStorm_4 x = f_X8_hoursTill_0 m := by
  have L : ∀ (n n' : Nat) (i : Int32), 0 ≤ i.toInt → i.toInt ≤ 8 → (8 - i.toInt).toNat < n → (8 - i.toInt).toNat < n' → l_X5_hoursToStorm_4_2 x n i = l_X8_hoursTill_0_2 m n' i := by
    intro n
    induction n with
    | zero => intro n' i _ _ h _; exact absurd h (Nat.not_lt_zero _)
    | succ n ih =>
      intro n' i i0 i1 h1 h2
      cases n' with
      | zero => exact absurd h2 (Nat.not_lt_zero _)
      | succ n' =>
        rw [l_X5_hoursToStorm_4_2_s, l_X8_hoursTill_0_2_s]
        simp only [kf_lx]
        by_cases hi : i.toInt < (8 : Int32).toInt
        · have hi' : i.toInt < 8 := hi
          have z := kp_inc i (by omega)
          rw [if_pos hi, if_pos hi, kd_windAhead hL hD i i0 (by omega)]
          by_cases hw : (f_X8_windAt_0 m (m.1 0 22 + i)).toInt < (3 : Int32).toInt
          · rw [if_pos hw, if_pos hw]
            exact ih n' _ (by omega) (by omega) (by omega) (by omega)
          · rw [if_neg hw, if_neg hw, if_pos hi]
        · rw [if_neg hi, if_neg hi, if_neg hi]
  rw [f_X5_hoursToStorm_4_u, f_X8_hoursTill_0_u]
  exact L _ _ _ (by decide) (by decide) (by rw [kp_q0]; omega) (by rw [kp_q0]; omega)
theorem kd_others {x m : kw_S} (hL : kr_L x m) (k : Int32) (k0 : 0 ≤ k.toInt) (k1 : k.toInt < (x.1 17 5).toInt) : f_X1_othersNoWider_17 x k = f_X8_lesserOnes_0 m k := by
  have l2 := hL.2.1
  have ck := kw_clampI k0
  have gk := (hL.2.2.2 k.toNatClampNeg (by omega)).2.2.1
  have L : ∀ (n n' : Nat) (a i : Int32), 0 ≤ i.toInt → i.toInt ≤ 6 → (6 - i.toInt).toNat < n → (6 - i.toInt).toNat < n' → l_X1_othersNoWider_17_14 k x n a i = l_X8_lesserOnes_0_4 k m n' a i := by
    intro n
    induction n with
    | zero => intro n' a i _ _ h _; exact absurd h (Nat.not_lt_zero _)
    | succ n ih =>
      intro n' a i i0 i1 h1 h2
      cases n' with
      | zero => exact absurd h2 (Nat.not_lt_zero _)
      | succ n' =>
        rw [l_X1_othersNoWider_17_14_s, l_X8_lesserOnes_0_4_s, ← hL.1]
        simp only [kf_lx]
        by_cases hi : i.toInt < (x.1 17 5).toInt
        · have z := kp_inc i (by omega)
          have ci := kw_clampI i0
          have gi := (hL.2.2.2 i.toNatClampNeg (by omega)).2.2.1
          rw [if_pos hi, if_pos hi]
          by_cases he : i.toInt = k.toInt
          · rw [if_pos he, if_pos he, Int32.add_zero]
            exact ih n' _ _ (by omega) (by omega) (by omega) (by omega)
          · rw [if_neg he, if_neg he, gi, gk]
            by_cases hw : (m.1 10 k.toNatClampNeg).toInt < (m.1 10 i.toNatClampNeg).toInt
            · rw [if_pos hw, if_pos hw, Int32.add_zero]
              exact ih n' _ _ (by omega) (by omega) (by omega) (by omega)
            · rw [if_neg hw, if_neg hw, show (Int32.ofInt 1) = 1 from rfl]
              rw [show (Int32.ofInt 1) = 1 from rfl] at z
              exact ih n' _ _ (by omega) (by omega) (by omega) (by omega)
        · rw [if_neg hi, if_neg hi]
  rw [f_X1_othersNoWider_17_u, f_X8_lesserOnes_0_u, f_X1_hasLine_17_u]
  simp only [kf_lx]
  rw [if_neg (show ¬ k.toInt < 0 by omega), if_pos k1, if_neg (by decide)]
  exact L _ _ _ _ (by decide) (by decide) (by rw [kp_q0]; omega) (by rw [kp_q0]; omega)
theorem kd_isA0 (σ : kw_S) (a b : Int32) : f_X7_isA σ a b = f_X7_isA kz0 a b := by
  have L : ∀ (n : Nat) (p q : Int32), l_X7_isA_4 a b σ n p q = l_X7_isA_4 a b kz0 n p q := by
    intro n
    induction n with
    | zero => intro p q; rfl
    | succ n ih =>
      intro p q
      rw [l_X7_isA_4_s, l_X7_isA_4_s]
      simp only [kf_lx, ih]
  rw [f_X7_isA_u, f_X7_isA_u]
  exact L _ _ _
theorem kd_isA36 : ∀ i : Nat, i < 6 → ∀ j : Nat, j < 5 → f_X7_isA kz0 (Int32.ofNat i) (Int32.ofNat (j + 1)) = f_X8_isA kz0 (Int32.ofNat i) (Int32.ofNat (j + 1)) := by decide +kernel
theorem kd_isA (σ τ : kw_S) (a b : Int32) (a0 : 0 ≤ a.toInt) (a1 : a.toInt ≤ 5) (b0 : 1 ≤ b.toInt) (b1 : b.toInt ≤ 5) : f_X7_isA σ a b = f_X8_isA τ a b := by
  have ca := kw_clampI a0
  have cb := kw_clampI (x := b) (by omega)
  rw [kd_isA0, show f_X8_isA τ a b = f_X8_isA kz0 a b from rfl, ← kd_ofNat a a0, ← kd_ofNat b (by omega), show b.toNatClampNeg = (b.toNatClampNeg - 1) + 1 by omega]
  exact kd_isA36 _ (by omega) _ (by omega)
theorem kd_black : ∀ h : Nat, h < 64 → ∀ i : Nat, i < 6 → 0 ≤ (Int32.ofNat h &&& (((1 : Int32) <<< (Int32.ofNat i &&& 31)) ^^^ -1)).toInt ∧ (Int32.ofNat h &&& (((1 : Int32) <<< (Int32.ofNat i &&& 31)) ^^^ -1)).toInt ≤ 63 := by decide +kernel
theorem kr_mark {x m s t : kw_S} {r q : Int32} (hL : kr_L x m) (hD : kr_D x m) (i k : Int32) (e1 : (r, s) = f_X7_mark_0 x i k) (e2 : (q, t) = f_X8_mark_0 m i k) : r = q := by
  rw [f_X7_mark_0_u] at e1
  rw [f_X8_mark_0_u] at e2
  simp only [kf_lx, kf_bx, kp_in] at e1 e2
  have l2 := hL.2.1
  have q6 : (6 : Int32).toInt = 6 := rfl
  have q5 : (5 : Int32).toInt = 5 := rfl
  by_cases h0 : (f_X1_hasLine_17 x i).toInt = 0
  · rw [if_pos h0] at e1
    rw [← kt_isLine hL, if_pos h0] at e2
    cases e1; cases e2
    rfl
  · have hi := kd_lineIn i h0
    have ci := kw_clampI hi.1
    rw [if_neg h0] at e1
    rw [← kt_isLine hL, if_neg h0] at e2
    by_cases h1 : (1 : Int32).toInt ≤ k.toInt ∧ k.toInt ≤ (5 : Int32).toInt
    · have h1' : 1 ≤ k.toInt ∧ k.toInt ≤ 5 := h1
      rw [if_pos (show 0 < k.toInt by omega), if_pos (show k.toInt < (6 : Int32).toInt by omega)] at e1
      simp only [if_pos h1] at e2
      rw [if_neg (show ¬ (1 : Int32).toInt = 0 by decide)] at e2
      obtain ⟨g1, g2, g3, g4, b1, -⟩ := hL.2.2.2 i.toNatClampNeg (by omega)
      rw [kd_isA x m _ k b1.1 b1.2 h1'.1 h1'.2, g1] at e1
      by_cases h2 : (f_X8_isA m (m.1 8 i.toNatClampNeg) k).toInt = 0
      · rw [if_pos h2] at e1 e2
        obtain ⟨r1, -⟩ := Prod.mk.inj e1
        obtain ⟨r2, -⟩ := Prod.mk.inj e2
        rw [r1, r2]
        exact (kp_refuse1 _ _).trans (kp_meet1 _ _).symm
      · rw [if_neg h2] at e1 e2
        by_cases k1 : k.toInt = 1
        · rw [if_pos k1] at e1 e2
          rw [kt_pullOf hL i 5 hi.1 hi.2] at e1
          cases e1; cases e2
          rfl
        rw [if_neg k1] at e1 e2
        by_cases k2 : k.toInt = 2
        · rw [if_pos k2] at e1 e2
          rw [kd_storm hL hD] at e1
          cases e1; cases e2
          rfl
        rw [if_neg k2] at e1 e2
        by_cases k3 : k.toInt = 3
        · rw [if_pos k3] at e1 e2
          obtain ⟨r1, -⟩ := Prod.mk.inj e1
          obtain ⟨r2, -⟩ := Prod.mk.inj e2
          have n2 := (kd_now hL hD).2.1
          have ch := kw_clampI n2.1
          have hb := kd_black (x.1 4 4).toNatClampNeg (by omega) i.toNatClampNeg (by omega)
          rw [kd_ofNat _ n2.1, kd_ofNat _ hi.1] at hb
          rw [r1, r2, show m.1 0 25 = x.1 4 4 from hD.2.2.2.2.1.2.2.2.1]
          exact kd_bits _ _ _ hb.1 hb.2
        rw [if_neg k3] at e1 e2
        by_cases k4 : k.toInt = 4
        · rw [if_pos k4] at e1 e2
          rw [kd_others hL i hi.1 hi.2] at e1
          cases e1; cases e2
          rfl
        rw [if_neg k4] at e1 e2
        rw [kd_windNow hL hD, kt_pullOf hL i _ hi.1 hi.2, g3, kt_pull x m] at e1
        cases e1; cases e2
        rfl
    · have h1' : ¬ (1 ≤ k.toInt ∧ k.toInt ≤ 5) := h1
      simp only [if_neg h1] at e2
      rw [if_pos (show (0 : Int32).toInt = 0 from rfl)] at e2
      cases e2
      by_cases h5 : 0 < k.toInt
      · rw [if_pos h5, if_neg (show ¬ k.toInt < (6 : Int32).toInt by omega)] at e1
        cases e1
        rfl
      · rw [if_neg h5] at e1
        cases e1
        rfl
/-! which lines are wet -/
def kb_or (b : Nat → Bool) : Nat → Int32
  | 0 => 0
  | i + 1 => if b i = true then kb_or b i ||| ((1 : Int32) <<< (Int32.ofNat i &&& 31)) else kb_or b i
theorem kb_or_cong {b b' : Nat → Bool} : ∀ n : Nat, (∀ i : Nat, i < n → b i = b' i) → kb_or b n = kb_or b' n
  | 0, _ => rfl
  | n + 1, h => by
    show (if b n = true then _ else _) = (if b' n = true then _ else _)
    rw [h n (by omega), kb_or_cong n (fun i hi => h i (by omega))]
theorem kb_not : ∀ k : Nat, k < 64 → ∀ l : Nat, l < 7 → (((1 : Int32) <<< (Int32.ofNat l &&& 31)) - 1) &&& (kb_or (fun i => k.testBit i) l ^^^ -1) = kb_or (fun i => !k.testBit i) l := by decide +kernel
theorem kb_mask6 : ∀ b0 b1 b2 b3 b4 b5 : Bool, ∃ k : Nat, k < 64 ∧ k.testBit 0 = b0 ∧ k.testBit 1 = b1 ∧ k.testBit 2 = b2 ∧ k.testBit 3 = b3 ∧ k.testBit 4 = b4 ∧ k.testBit 5 = b5 := by
  intro b0 b1 b2 b3 b4 b5
  refine ⟨b0.toNat + 2 * b1.toNat + 4 * b2.toNat + 8 * b3.toNat + 16 * b4.toNat + 32 * b5.toNat, ?_⟩
  cases b0 <;> cases b1 <;> cases b2 <;> cases b3 <;> cases b4 <;> cases b5 <;> decide
theorem kb_mask (b : Nat → Bool) : ∃ k : Nat, k < 64 ∧ ∀ i : Nat, i < 6 → k.testBit i = b i := by
  obtain ⟨k, h, h0, h1, h2, h3, h4, h5⟩ := kb_mask6 (b 0) (b 1) (b 2) (b 3) (b 4) (b 5)
  refine ⟨k, h, fun i hi => ?_⟩
  rcases (show i = 0 ∨ i = 1 ∨ i = 2 ∨ i = 3 ∨ i = 4 ∨ i = 5 by omega) with rfl | rfl | rfl | rfl | rfl | rfl <;> assumption
theorem kb_flip (b : Nat → Bool) (l : Nat) (hl : l < 7) : (((1 : Int32) <<< (Int32.ofNat l &&& 31)) - 1) &&& (kb_or b l ^^^ -1) = kb_or (fun i => !b i) l := by
  obtain ⟨k, h, hk⟩ := kb_mask b
  rw [← kb_or_cong l (fun i hi => hk i (by omega)), kb_not k h l hl]
  exact kb_or_cong l (fun i hi => by rw [hk i (by omega)])
theorem kd_drySet (S : kw_S) (l0 : 0 ≤ (S.1 17 5).toInt) (l6 : (S.1 17 5).toInt ≤ 6) : f_X7_drySet_0_19 S = kb_or (fun i => decide ((S.1 19 i).toInt = 0)) (S.1 17 5).toNatClampNeg := by
  have cl := kw_clampI l0
  have L : ∀ (n : Nat) (a i : Int32), 0 ≤ i.toInt → i.toInt ≤ (S.1 17 5).toInt → a = kb_or (fun i => decide ((S.1 19 i).toInt = 0)) i.toNatClampNeg → (6 - i.toInt).toNat < n → l_X7_drySet_0_19_4 S n a i = kb_or (fun i => decide ((S.1 19 i).toInt = 0)) (S.1 17 5).toNatClampNeg := by
    intro n
    induction n with
    | zero => intro a i _ _ _ h; exact absurd h (Nat.not_lt_zero _)
    | succ n ih =>
      intro a i i0 i1 ha h1
      have ci := kw_clampI i0
      rw [l_X7_drySet_0_19_4_s]
      simp only [kf_lx]
      by_cases hi : i.toInt < (S.1 17 5).toInt
      · have z := kp_inc i (by omega)
        have c1 := kw_clampI (x := i + Int32.ofInt 1) (by omega)
        have en : (i + Int32.ofInt 1).toNatClampNeg = i.toNatClampNeg + 1 := by omega
        rw [if_pos hi]
        by_cases hw : (S.1 19 i.toNatClampNeg).toInt = 0
        · rw [if_pos hw]
          refine ih _ _ (by omega) (by omega) ?_ (by omega)
          rw [en]
          show _ = if decide ((S.1 19 i.toNatClampNeg).toInt = 0) = true then _ else _
          rw [if_pos (decide_eq_true hw), kd_ofNat i i0, ha]
        · rw [if_neg hw]
          refine ih _ _ (by omega) (by omega) ?_ (by omega)
          rw [en]
          show _ = if decide ((S.1 19 i.toNatClampNeg).toInt = 0) = true then _ else _
          rw [if_neg (fun q => hw (of_decide_eq_true q)), ha]
      · rw [if_neg hi, ha, show i.toNatClampNeg = (S.1 17 5).toNatClampNeg by omega]
  rw [f_X7_drySet_0_19_u]
  exact L _ _ _ (by decide) (by rw [kp_q0]; exact l0) rfl (by rw [kp_q0]; omega)
theorem kr_wet {x m s t : kw_S} {r q : Int32} (hL : kr_L x m) (hD : kr_D x m) (e1 : (r, s) = f_X7_wet_0 x) (e2 : (q, t) = f_X8_wet_0 m) : r = q := by
  have l2 := hL.2.1
  have cl := kw_clampI l2.1
  rw [f_X7_wet_0_u] at e1
  rw [f_X8_wet_0_u] at e2
  simp only [kf_lx, kf_bx, f_X1_allLines_17_u] at e1
  have eS : (f_X4_answer_8 x (f_X5_allWet_4 x)).2 = kw_ui x 8 2 (f_X5_allWet_4 x) := by rw [f_X4_answer_8_u]
  rw [eS] at e1
  have e17 : (kw_ui x 8 2 (f_X5_allWet_4 x)).1 17 = x.1 17 := by funext j; simp [kp_ui]
  have e19 : (kw_ui x 8 2 (f_X5_allWet_4 x)).1 19 = x.1 19 := by funext j; simp [kp_ui]
  rw [kd_drySet _ (by rw [e17]; exact l2.1) (by rw [e17]; exact l2.2), e17, e19] at e1
  have hf := kb_flip (fun i => decide ((x.1 19 i).toInt = 0)) (x.1 17 5).toNatClampNeg (by omega)
  rw [kd_ofNat _ l2.1] at hf
  rw [hf] at e1
  have n3 := (kd_now hL hD).2.2
  have L : ∀ (n : Nat) (a i : Int32), 0 ≤ i.toInt → i.toInt ≤ (x.1 17 5).toInt → a = kb_or (fun i => !decide ((x.1 19 i).toInt = 0)) i.toNatClampNeg → (6 - i.toInt).toNat < n → (l_X8_wet_0_4 m n a i).1 = kb_or (fun i => !decide ((x.1 19 i).toInt = 0)) (x.1 17 5).toNatClampNeg := by
    intro n
    induction n with
    | zero => intro a i _ _ _ h; exact absurd h (Nat.not_lt_zero _)
    | succ n ih =>
      intro a i i0 i1 ha h1
      have ci := kw_clampI i0
      rw [l_X8_wet_0_4_s, ← hL.1]
      simp only [kf_lx, kf_bx]
      by_cases hi : i.toInt < (x.1 17 5).toInt
      · have z := kp_inc i (by omega)
        have c1 := kw_clampI (x := i + Int32.ofInt 1) (by omega)
        have en : (i + Int32.ofInt 1).toNatClampNeg = i.toNatClampNeg + 1 := by omega
        have ew : m.1 14 i.toNatClampNeg = x.1 19 i.toNatClampNeg := hD.2.2.2.2.1.2.2.2.2 i.toNatClampNeg (by omega)
        have nb := n3 i.toNatClampNeg
        rw [if_pos hi, ew]
        by_cases hw : (x.1 19 i.toNatClampNeg).toInt = 0
        · rw [if_neg (show ¬ 0 < (x.1 19 i.toNatClampNeg).toInt by omega)]
          refine ih _ _ (by omega) (by omega) ?_ (by omega)
          rw [en]
          show _ = if (!decide ((x.1 19 i.toNatClampNeg).toInt = 0)) = true then _ else _
          rw [if_neg (by simp [hw]), ha, Int32.or_zero]
        · rw [if_pos (show 0 < (x.1 19 i.toNatClampNeg).toInt by omega)]
          refine ih _ _ (by omega) (by omega) ?_ (by omega)
          rw [en]
          show _ = if (!decide ((x.1 19 i.toNatClampNeg).toInt = 0)) = true then _ else _
          rw [if_pos (by simp [hw]), kd_ofNat i i0, ha]
      · rw [if_neg hi, f_X8_ask_0_u, ha, show i.toNatClampNeg = (x.1 17 5).toNatClampNeg by omega]
  have hm := L ((7 - (0 : Int32).toInt).toNat + 1) 0 0 (by decide) (by rw [kp_q0]; exact l2.1) rfl (by rw [kp_q0]; omega)
  rw [← e2] at hm
  obtain ⟨r1, -⟩ := Prod.mk.inj e1
  rw [r1]
  exact hm.symm
end
section
/-! ===== charts: pulls and turns of each set, as sums over its lines ===== -/
noncomputable def kc_sp (x : kw_S) (w : Int32) (s : Nat) : Nat → Int32
  | 0 => 0
  | j + 1 => if s.testBit j = true then kc_sp x w s j + f_X1_pullOf_17 x (Int32.ofNat j) w else kc_sp x w s j
noncomputable def kc_st (x : kw_S) (w : Int32) (s : Nat) : Nat → Int32
  | 0 => 0
  | j + 1 => if s.testBit j = true then kc_st x w s j + f_X1_pullOf_17 x (Int32.ofNat j) w * x.1 45 j else kc_st x w s j
theorem kc_spS (x : kw_S) (w : Int32) (s j : Nat) : kc_sp x w s (j + 1) = if s.testBit j = true then kc_sp x w s j + f_X1_pullOf_17 x (Int32.ofNat j) w else kc_sp x w s j := rfl
theorem kc_stS (x : kw_S) (w : Int32) (s j : Nat) : kc_st x w s (j + 1) = if s.testBit j = true then kc_st x w s j + f_X1_pullOf_17 x (Int32.ofNat j) w * x.1 45 j else kc_st x w s j := rfl
theorem kc_cong (x : kw_S) (w : Int32) (s s' : Nat) : ∀ n : Nat, (∀ j : Nat, j < n → s.testBit j = s'.testBit j) → kc_sp x w s n = kc_sp x w s' n ∧ kc_st x w s n = kc_st x w s' n
  | 0, _ => ⟨rfl, rfl⟩
  | n + 1, h => by
    obtain ⟨a, b⟩ := kc_cong x w s s' n (fun j hj => h j (by omega))
    rw [kc_spS, kc_spS, kc_stS, kc_stS, h n (by omega), a, b]
    exact ⟨rfl, rfl⟩
theorem kc_lo (x : kw_S) (w : Int32) (s i : Nat) (h : s < 2 ^ i) : kc_sp x w s (i + 1) = kc_sp x w s i ∧ kc_st x w s (i + 1) = kc_st x w s i := by
  rw [kc_spS, kc_stS, Nat.testBit_lt_two_pow h]
  exact ⟨rfl, rfl⟩
theorem kc_hi (x : kw_S) (w : Int32) (s i : Nat) (h : s < 2 ^ i) : kc_sp x w (2 ^ i + s) (i + 1) = kc_sp x w s i + f_X1_pullOf_17 x (Int32.ofNat i) w ∧ kc_st x w (2 ^ i + s) (i + 1) = kc_st x w s i + f_X1_pullOf_17 x (Int32.ofNat i) w * x.1 45 i := by
  have hb : (2 ^ i + s).testBit i = true := by rw [Nat.testBit_two_pow_add_eq, Nat.testBit_lt_two_pow h]; rfl
  obtain ⟨a, b⟩ := kc_cong x w (2 ^ i + s) s i (fun j hj => Nat.testBit_two_pow_add_gt hj s)
  rw [kc_spS, kc_stS, hb, a, b]
  exact ⟨rfl, rfl⟩
theorem kc_bit64 : ∀ s : Nat, s < 64 → ∀ i : Nat, i < 6 → ((Int32.ofNat s >>> (Int32.ofNat i &&& 31)) &&& 1).toInt = if s.testBit i = true then 1 else 0 := by decide +kernel
theorem kc_bit (s i : Int32) (s0 : 0 ≤ s.toInt) (s1 : s.toInt ≤ 63) (i0 : 0 ≤ i.toInt) (i1 : i.toInt ≤ 5) : ((s >>> (i &&& 31)) &&& 1).toInt = if s.toNatClampNeg.testBit i.toNatClampNeg = true then 1 else 0 := by
  have cs := kw_clampI s0
  have ci := kw_clampI i0
  have h := kc_bit64 s.toNatClampNeg (by omega) i.toNatClampNeg (by omega)
  rw [kd_ofNat s s0, kd_ofNat i i0] at h
  exact h
theorem kc_miles (x : kw_S) (s w : Int32) (l0 : 0 ≤ (x.1 17 5).toInt) (l6 : (x.1 17 5).toInt ≤ 6) (s0 : 0 ≤ s.toInt) (s1 : s.toInt ≤ 63) : f_X1_milesOf_17 x s w = kc_sp x w s.toNatClampNeg (x.1 17 5).toNatClampNeg / 4 := by
  have cl := kw_clampI l0
  have L : ∀ (n : Nat) (a i : Int32), 0 ≤ i.toInt → i.toInt ≤ (x.1 17 5).toInt → a = kc_sp x w s.toNatClampNeg i.toNatClampNeg → (6 - i.toInt).toNat < n → l_X1_milesOf_17_5 s w x n a i = kc_sp x w s.toNatClampNeg (x.1 17 5).toNatClampNeg / 4 := by
    intro n
    induction n with
    | zero => intro a i _ _ _ h; exact absurd h (Nat.not_lt_zero _)
    | succ n ih =>
      intro a i i0 i1 ha h1
      have ci := kw_clampI i0
      rw [l_X1_milesOf_17_5_s]
      simp only [kf_lx]
      by_cases hi : i.toInt < (x.1 17 5).toInt
      · have z := kp_inc i (by omega)
        have c1 := kw_clampI (x := i + Int32.ofInt 1) (by omega)
        have en : (i + Int32.ofInt 1).toNatClampNeg = i.toNatClampNeg + 1 := by omega
        have hb := kc_bit s i s0 s1 i0 (by omega)
        rw [if_pos hi]
        by_cases ht : s.toNatClampNeg.testBit i.toNatClampNeg = true
        · rw [if_pos ht] at hb
          rw [if_pos (show ((s >>> (i &&& 31)) &&& 1).toInt = (1 : Int32).toInt from hb)]
          refine ih _ _ (by omega) (by omega) ?_ (by omega)
          rw [en, kc_spS, if_pos ht, kd_ofNat i i0, ha]
        · rw [if_neg ht] at hb
          rw [if_neg (show ¬ ((s >>> (i &&& 31)) &&& 1).toInt = (1 : Int32).toInt by rw [hb, kp_q1]; decide)]
          refine ih _ _ (by omega) (by omega) ?_ (by omega)
          rw [en, kc_spS, if_neg ht, ha]
      · rw [if_neg hi, ha, show i.toNatClampNeg = (x.1 17 5).toNatClampNeg by omega]
  rw [f_X1_milesOf_17_u]
  exact L _ _ _ (by decide) (by rw [kp_q0]; exact l0) rfl (by rw [kp_q0]; omega)
theorem kc_turn (x : kw_S) (s w : Int32) (l0 : 0 ≤ (x.1 17 5).toInt) (l6 : (x.1 17 5).toInt ≤ 6) (s0 : 0 ≤ s.toInt) (s1 : s.toInt ≤ 63) : f_X1_turnOf_17 x s w = kc_st x w s.toNatClampNeg (x.1 17 5).toNatClampNeg := by
  have cl := kw_clampI l0
  have L : ∀ (n : Nat) (a i : Int32), 0 ≤ i.toInt → i.toInt ≤ (x.1 17 5).toInt → a = kc_st x w s.toNatClampNeg i.toNatClampNeg → (6 - i.toInt).toNat < n → l_X1_turnOf_17_5 s w x n a i = kc_st x w s.toNatClampNeg (x.1 17 5).toNatClampNeg := by
    intro n
    induction n with
    | zero => intro a i _ _ _ h; exact absurd h (Nat.not_lt_zero _)
    | succ n ih =>
      intro a i i0 i1 ha h1
      have ci := kw_clampI i0
      rw [l_X1_turnOf_17_5_s]
      simp only [kf_lx]
      by_cases hi : i.toInt < (x.1 17 5).toInt
      · have z := kp_inc i (by omega)
        have c1 := kw_clampI (x := i + Int32.ofInt 1) (by omega)
        have en : (i + Int32.ofInt 1).toNatClampNeg = i.toNatClampNeg + 1 := by omega
        have hb := kc_bit s i s0 s1 i0 (by omega)
        rw [if_pos hi]
        by_cases ht : s.toNatClampNeg.testBit i.toNatClampNeg = true
        · rw [if_pos ht] at hb
          rw [if_pos (show ((s >>> (i &&& 31)) &&& 1).toInt = (1 : Int32).toInt from hb)]
          refine ih _ _ (by omega) (by omega) ?_ (by omega)
          rw [en, kc_stS, if_pos ht, kd_ofNat i i0, ha]
        · rw [if_neg ht] at hb
          rw [if_neg (show ¬ ((s >>> (i &&& 31)) &&& 1).toInt = (1 : Int32).toInt by rw [hb, kp_q1]; decide)]
          refine ih _ _ (by omega) (by omega) ?_ (by omega)
          rw [en, kc_stS, if_neg ht, ha]
      · rw [if_neg hi, ha, show i.toNatClampNeg = (x.1 17 5).toNatClampNeg by omega]
  rw [f_X1_turnOf_17_u]
  exact L _ _ _ (by decide) (by rw [kp_q0]; exact l0) rfl (by rw [kp_q0]; omega)
theorem kc_pow (i : Nat) (h : i ≤ 6) : (2 ^ i : Nat) ≤ 64 ∧ 1 ≤ (2 ^ i : Nat) := by
  rcases (show i = 0 ∨ i = 1 ∨ i = 2 ∨ i = 3 ∨ i = 4 ∨ i = 5 ∨ i = 6 by omega) with rfl | rfl | rfl | rfl | rfl | rfl | rfl <;> decide
theorem kc_pow1 (l : Int32) (l0 : 0 ≤ l.toInt) (l6 : l.toInt ≤ 6) : ((1 : Int32) <<< (l &&& 31)).toInt = (2 ^ l.toNatClampNeg : Nat) := by
  have c := kw_clampI l0
  have h : ∀ i : Nat, i < 7 → ((1 : Int32) <<< (Int32.ofNat i &&& 31)).toInt = (2 ^ i : Nat) := by decide +kernel
  have := h l.toNatClampNeg (by omega)
  rw [kd_ofNat l l0] at this
  exact this
theorem kc_in6 {x : kw_S} (w i pl tn : Int32) (kk : Int32 → kw_S → kw_S) (N : Nat) (hN : N ≤ 32) : ∀ (n : Nat) (y : Int32) (S : kw_S), 0 ≤ y.toInt → y.toInt ≤ N → (S.1 6 3).toInt = N → (64 - y.toInt).toNat < n → ∃ S' : kw_S, l_X0_draw_6_17_59 kk w i pl tn n y S = kk (i + Int32.ofInt 1) (kw_ui S' 6 3 (S'.1 6 3 <<< ((1 : Int32) &&& 31))) ∧ kw_F [22, 23] S S' ∧ (∀ s : Nat, s < N + y.toNatClampNeg → S'.1 22 s = S.1 22 s ∧ S'.1 23 s = S.1 23 s) ∧ ∀ s : Nat, y.toNatClampNeg ≤ s → s < N → S'.1 22 (N + s) = S.1 22 s + pl ∧ S'.1 23 (N + s) = S.1 23 s + tn := by
  intro n
  induction n with
  | zero => intro y S _ _ _ h; exact absurd h (Nat.not_lt_zero _)
  | succ n ih =>
    intro y S y0 y1 hs h1
    have cy := kw_clampI y0
    rw [l_X0_draw_6_17_59_s]
    simp only [kf_lx]
    by_cases hy : y.toInt < (S.1 6 3).toInt
    · have z := kp_inc y (by omega)
      have c1 := kw_clampI (x := y + Int32.ofInt 1) (by omega)
      have e : (S.1 6 3 + y).toInt = N + y.toInt := by rw [kw_addI]; omega
      have ce := kw_clampI (x := S.1 6 3 + y) (by omega)
      have en : (S.1 6 3 + y).toNatClampNeg = N + y.toNatClampNeg := by omega
      rw [if_pos hy, if_pos (show (S.1 6 3 + y).toInt < (64 : Int32).toInt by rw [e, show (64 : Int32).toInt = 64 from rfl]; omega), en]
      have e23 : (kw_ui S 22 (N + y.toNatClampNeg) (S.1 22 y.toNatClampNeg + pl)).1 23 y.toNatClampNeg = S.1 23 y.toNatClampNeg := by rw [kp_ui, if_neg (by omega)]
      rw [e23]
      generalize hS1 : kw_ui (kw_ui S 22 (N + y.toNatClampNeg) (S.1 22 y.toNatClampNeg + pl)) 23 (N + y.toNatClampNeg) (S.1 23 y.toNatClampNeg + tn) = S1
      have F1 : kw_F [22, 23] S S1 := by rw [← hS1]; exact kw_F_ui (kw_F_ui kw_F.rf (by decide)) (by decide)
      have v1 : ∀ s : Nat, S1.1 22 s = if s = N + y.toNatClampNeg then S.1 22 y.toNatClampNeg + pl else S.1 22 s := fun s => by
        rw [← hS1, kp_ui, if_neg (by omega), kp_ui]
        by_cases q : s = N + y.toNatClampNeg
        · rw [if_pos ⟨rfl, q⟩, if_pos q]
        · rw [if_neg (fun r => q r.2), if_neg q]
      have v2 : ∀ s : Nat, S1.1 23 s = if s = N + y.toNatClampNeg then S.1 23 y.toNatClampNeg + tn else S.1 23 s := fun s => by
        rw [← hS1, kp_ui]
        by_cases q : s = N + y.toNatClampNeg
        · rw [if_pos ⟨rfl, q⟩, if_pos q]
        · rw [if_neg (fun r => q r.2), if_neg q, kp_ui, if_neg (by omega)]
      obtain ⟨S', a1, a2, a3, a4⟩ := ih (y + Int32.ofInt 1) S1 (by omega) (by omega) (by rw [(F1 6 (by decide)).1]; exact hs) (by omega)
      refine ⟨S', a1, F1.tr a2 (fun _ h => h), fun s h => ?_, fun s g1 g2 => ?_⟩
      · obtain ⟨u1, u2⟩ := a3 s (by omega)
        rw [u1, u2, v1, v2, if_neg (by omega), if_neg (by omega)]
        exact ⟨rfl, rfl⟩
      · by_cases q : s = y.toNatClampNeg
        · obtain ⟨u1, u2⟩ := a3 (N + s) (by omega)
          rw [u1, u2, v1, v2, if_pos (by omega), if_pos (by omega), q]
          exact ⟨rfl, rfl⟩
        · obtain ⟨u1, u2⟩ := a4 s (by omega) g2
          rw [u1, u2, v1, v2, if_neg (by omega), if_neg (by omega)]
          exact ⟨rfl, rfl⟩
    · rw [if_neg hy]
      exact ⟨S, rfl, kw_F.rf, fun _ _ => ⟨rfl, rfl⟩, fun s g1 g2 => by omega⟩
theorem kc_draw6 (x : kw_S) (w : Int32) (l0 : 0 ≤ (x.1 17 5).toInt) (l6 : (x.1 17 5).toInt ≤ 6) : kw_F [6, 22, 23] x (f_X0_draw_6_17 x w) ∧ ((f_X0_draw_6_17 x w).1 6 3).toInt = (2 ^ (x.1 17 5).toNatClampNeg : Nat) ∧ (f_X0_draw_6_17 x w).1 6 2 = x.1 17 5 ∧ ∀ s : Nat, s < 2 ^ (x.1 17 5).toNatClampNeg → (f_X0_draw_6_17 x w).1 22 s = kc_sp x w s (x.1 17 5).toNatClampNeg ∧ (f_X0_draw_6_17 x w).1 23 s = kc_st x w s (x.1 17 5).toNatClampNeg := by
  have cl := kw_clampI l0
  have L : ∀ (n : Nat) (i : Int32) (S : kw_S), 0 ≤ i.toInt → i.toInt ≤ (x.1 17 5).toInt → kw_F [6, 22, 23] x S → S.1 6 2 = x.1 17 5 → (S.1 6 3).toInt = (2 ^ i.toNatClampNeg : Nat) → (∀ s : Nat, s < 2 ^ i.toNatClampNeg → S.1 22 s = kc_sp x w s i.toNatClampNeg ∧ S.1 23 s = kc_st x w s i.toNatClampNeg) → (6 - i.toInt).toNat < n → kw_F [6, 22, 23] x (l_X0_draw_6_17_29 w n i S) ∧ ((l_X0_draw_6_17_29 w n i S).1 6 3).toInt = (2 ^ (x.1 17 5).toNatClampNeg : Nat) ∧ (l_X0_draw_6_17_29 w n i S).1 6 2 = x.1 17 5 ∧ ∀ s : Nat, s < 2 ^ (x.1 17 5).toNatClampNeg → (l_X0_draw_6_17_29 w n i S).1 22 s = kc_sp x w s (x.1 17 5).toNatClampNeg ∧ (l_X0_draw_6_17_29 w n i S).1 23 s = kc_st x w s (x.1 17 5).toNatClampNeg := by
    intro n
    induction n with
    | zero => intro i S _ _ _ _ _ _ h; exact absurd h (Nat.not_lt_zero _)
    | succ n ih =>
      intro i S i0 i1 hF h2 h3 hs h1
      have ci := kw_clampI i0
      rw [l_X0_draw_6_17_29_s, h2]
      simp only [kf_lx]
      by_cases hi : i.toInt < (x.1 17 5).toInt
      · have z := kp_inc i (by omega)
        have c1 := kw_clampI (x := i + Int32.ofInt 1) (by omega)
        have en : (i + Int32.ofInt 1).toNatClampNeg = i.toNatClampNeg + 1 := by omega
        have pw := kc_pow i.toNatClampNeg (by omega)
        have pw2 := kc_pow (i.toNatClampNeg + 1) (by omega)
        have p2 : (2 ^ (i.toNatClampNeg + 1) : Nat) = 2 * 2 ^ i.toNatClampNeg := by rw [Nat.pow_succ]; omega
        have lay : kd_lay x S := kd_lay.of hF (by decide)
        rw [if_pos hi, lay.pullOf, show S.1 45 = x.1 45 from lay 45 (by omega)]
        obtain ⟨S', a1, a2, a3, a4⟩ := kc_in6 (x := x) w i (f_X1_pullOf_17 x i w) (f_X1_pullOf_17 x i w * x.1 45 i.toNatClampNeg) (l_X0_draw_6_17_29 w n) (2 ^ i.toNatClampNeg) (by omega) ((65 - (0 : Int32).toInt).toNat + 1) 0 S (by decide) (by rw [kp_q0]; omega) h3 (by rw [kp_q0]; omega)
        rw [a1]
        have q0 : (0 : Int32).toNatClampNeg = 0 := rfl
        rw [q0] at a3 a4
        have s3 : S'.1 6 3 = S.1 6 3 := by rw [(a2 6 (by decide)).1]
        have hsl := kw_shl1 _ (S'.1 6 3) rfl (by rw [s3, h3]; omega) (by rw [s3, h3]; omega)
        refine ih (i + Int32.ofInt 1) _ (by omega) (by omega) (kw_F_ui (hF.tr a2 (by decide)) (by decide)) ?_ ?_ (fun s hs2 => ?_) (by omega)
        · rw [kp_ui, if_neg (by decide), (a2 6 (by decide)).1]; exact h2
        · rw [kp_ui, if_pos ⟨rfl, rfl⟩, hsl, s3, h3, en, p2]; omega
        · rw [en] at hs2 ⊢
          have k1 : (kw_ui S' 6 3 (S'.1 6 3 <<< ((1 : Int32) &&& 31))).1 22 s = S'.1 22 s := by rw [kp_ui, if_neg (by omega)]
          have k2 : (kw_ui S' 6 3 (S'.1 6 3 <<< ((1 : Int32) &&& 31))).1 23 s = S'.1 23 s := by rw [kp_ui, if_neg (by omega)]
          rw [k1, k2]
          by_cases hlt : s < 2 ^ i.toNatClampNeg
          · obtain ⟨u1, u2⟩ := a3 s (by omega)
            obtain ⟨v1, v2⟩ := hs s hlt
            obtain ⟨w1, w2⟩ := kc_lo x w s i.toNatClampNeg hlt
            rw [u1, u2, v1, v2, w1, w2]
            exact ⟨rfl, rfl⟩
          · obtain ⟨d, rfl⟩ : ∃ d : Nat, s = 2 ^ i.toNatClampNeg + d := ⟨s - 2 ^ i.toNatClampNeg, by omega⟩
            obtain ⟨u1, u2⟩ := a4 d (by omega) (by omega)
            obtain ⟨v1, v2⟩ := hs d (by omega)
            obtain ⟨w1, w2⟩ := kc_hi x w d i.toNatClampNeg (by omega)
            rw [kd_ofNat i i0] at w1 w2
            rw [u1, u2, v1, v2, w1, w2]
            exact ⟨rfl, rfl⟩
      · rw [if_neg hi]
        have e : i.toNatClampNeg = (x.1 17 5).toNatClampNeg := by omega
        rw [e] at h3 hs
        exact ⟨hF, h3, h2, hs⟩
  rw [f_X0_draw_6_17_u]
  have q0 : (0 : Int32).toNatClampNeg = 0 := rfl
  refine L _ 0 _ (by decide) (by rw [kp_q0]; exact l0) (kw_F_ui (kw_F_ui (kw_F_ui (kw_F_ui kw_F.rf (by decide)) (by decide)) (by decide)) (by decide)) (by simp [kp_ui]) (by rw [q0]; simp [kp_ui]) (fun s hs => ?_) (by rw [kp_q0]; omega)
  rw [q0] at hs ⊢
  have : s = 0 := by simpa using hs
  subst this
  exact ⟨by simp [kp_ui, kc_sp], by simp [kp_ui, kc_st]⟩
theorem kc_cm6 (x S : kw_S) (w s : Int32) (l0 : 0 ≤ (x.1 17 5).toInt) (l6 : (x.1 17 5).toInt ≤ 6) (hS : ∀ a : Nat, a = 22 ∨ a = 23 → S.1 a = (f_X0_draw_6_17 x w).1 a) (s0 : 0 ≤ s.toInt) (s1 : s.toInt < (2 ^ (x.1 17 5).toNatClampNeg : Nat)) : f_X0_milesOf_6 S s = f_X1_milesOf_17 x s w ∧ f_X0_turnBy_6 S s = f_X1_turnOf_17 x s w := by
  have cl := kw_clampI l0
  have cs := kw_clampI s0
  have pw := kc_pow (x.1 17 5).toNatClampNeg (by omega)
  obtain ⟨-, -, -, d4⟩ := kc_draw6 x w l0 l6
  obtain ⟨u1, u2⟩ := d4 s.toNatClampNeg (by omega)
  have q64 : (64 : Int32).toInt = 64 := rfl
  rw [f_X0_milesOf_6_u, f_X0_turnBy_6_u]
  simp only [kf_lx]
  rw [if_neg (show ¬ s.toInt < 0 by omega), if_pos (show s.toInt < (64 : Int32).toInt by omega), if_neg (show ¬ s.toInt < 0 by omega), if_pos (show s.toInt < (64 : Int32).toInt by omega), hS 22 (Or.inl rfl), hS 23 (Or.inr rfl), u1, u2, kc_miles x s w l0 l6 s0 (by omega), kc_turn x s w l0 l6 s0 (by omega)]
  exact ⟨rfl, rfl⟩
end
section
theorem kr_fast {x m s t : kw_S} {r q : Int32} (hL : kr_L x m) (hD : kr_D x m) (k : Int32) (e1 : (r, s) = f_X7_fast_0 x k) (e2 : (q, t) = f_X8_fast_0 m k) : r = q ∧ (r ≠ -1 → r ≠ -4 → True) := by
  have l2 := hL.2.1
  have q99 : (99 : Int32).toInt = 99 := rfl
  rw [f_X7_fast_0_u, f_X5_isEmpty_4_u] at e1
  rw [f_X8_fast_0_u] at e2
  simp only [kf_lx, kp_in] at e1 e2
  refine ⟨?_, fun _ _ => trivial⟩
  by_cases h1 : (0 : Int32).toInt ≤ k.toInt ∧ k.toInt ≤ (99 : Int32).toInt
  · have h1' : 0 ≤ k.toInt ∧ k.toInt ≤ 99 := h1
    rw [if_neg (show ¬ k.toInt < 0 by omega), if_neg (show ¬ (99 : Int32).toInt < k.toInt by omega)] at e1
    simp only [if_pos h1] at e2
    rw [if_neg (show ¬ (1 : Int32).toInt = 0 by decide), ← hL.1] at e2
    by_cases h0 : (x.1 17 5).toInt < (1 : Int32).toInt
    · have h0' : (x.1 17 5).toInt < 1 := h0
      simp only [if_pos h0] at e1
      rw [if_neg (show ¬ (1 : Int32).toInt = 0 by decide)] at e1
      rw [if_pos (show (x.1 17 5).toInt = 0 by omega)] at e2
      cases e1; cases e2
      rfl
    · have h0' : ¬ (x.1 17 5).toInt < 1 := h0
      simp only [if_neg h0] at e1
      rw [if_pos (show (0 : Int32).toInt = 0 from rfl)] at e1
      rw [if_neg (show ¬ (x.1 17 5).toInt = 0 by omega), ← kd_windNow hL hD] at e2
      generalize f_X5_windNow_4 x = w at *
      have cl := kw_clampI l2.1
      have pw := kc_pow (x.1 17 5).toNatClampNeg (by omega)
      have p1 := kc_pow1 (x.1 17 5) l2.1 l2.2
      obtain ⟨d1, d2, d3, -⟩ := kc_draw6 x w l2.1 l2.2
      have cm := kc_cm6 x (f_X0_draw_6_17 x w) w
      generalize f_X0_draw_6_17 x w = S3 at *
      have lay : kd_lay x S3 := kd_lay.of d1 (by decide)
      have hLS : kr_L S3 m := hL.cong (fun a ha => lay a ha) (fun _ _ => rfl) rfl rfl
      have L : ∀ (n n' : Nat) (b i : Int32), 0 ≤ b.toInt → b.toInt < (2 ^ (x.1 17 5).toNatClampNeg : Nat) → 0 ≤ i.toInt → i.toInt ≤ (2 ^ (x.1 17 5).toNatClampNeg : Nat) → ((2 ^ (x.1 17 5).toNatClampNeg : Nat) - i.toInt).toNat < n → ((2 ^ (x.1 17 5).toNatClampNeg : Nat) - i.toInt).toNat < n' → (l_X7_fast_0_50 k S3 n b i).1 = (l_X8_fast_0_36 k w m n' b i).1 := by
        intro n
        induction n with
        | zero => intro n' b i _ _ _ _ h _; exact absurd h (Nat.not_lt_zero _)
        | succ n ih =>
          intro n' b i b0 b1 i0 i1 g1 g2
          cases n' with
          | zero => exact absurd g2 (Nat.not_lt_zero _)
          | succ n' =>
            rw [l_X7_fast_0_50_s, l_X8_fast_0_36_s, ← hL.1]
            simp only [kf_lx, kf_bx]
            have mb := (cm b l2.1 l2.2 (fun _ _ => rfl) b0 b1).1
            by_cases hi : i.toInt < (2 ^ (x.1 17 5).toNatClampNeg : Nat)
            · have z := kp_inc i (by omega)
              have mi := (cm i l2.1 l2.2 (fun _ _ => rfl) i0 hi).1
              rw [if_pos (show i.toInt < (S3.1 6 3).toInt by rw [d2]; exact hi), if_pos (show i.toInt < ((1 : Int32) <<< (x.1 17 5 &&& 31)).toInt by rw [p1]; exact hi), kt_linen hLS]
              by_cases hk : k.toInt < (f_X8_linenOf_0 m i).toInt
              · rw [if_pos hk, if_pos hk]
                exact ih n' _ _ b0 b1 (by omega) (by omega) (by omega) (by omega)
              · rw [if_neg hk, if_neg hk, mi, mb, kt_miles hL, kt_miles hL]
                by_cases hm : (f_X8_milesBy_0 m b w).toInt < (f_X8_milesBy_0 m i w).toInt
                · rw [if_pos hm, if_pos hm]
                  exact ih n' _ _ i0 hi (by omega) (by omega) (by omega) (by omega)
                · rw [if_neg hm, if_neg hm]
                  exact ih n' _ _ b0 b1 (by omega) (by omega) (by omega) (by omega)
            · rw [if_neg (show ¬ i.toInt < (S3.1 6 3).toInt by rw [d2]; exact hi), if_neg (show ¬ i.toInt < ((1 : Int32) <<< (x.1 17 5 &&& 31)).toInt by rw [p1]; exact hi), f_X4_answer_8_u, f_X8_ask_0_u]
              have e8 : ∀ v : Int32, f_X0_milesOf_6 (kw_ui S3 8 2 v) b = f_X0_milesOf_6 S3 b := fun v => by
                rw [f_X0_milesOf_6_u, f_X0_milesOf_6_u, show (kw_ui S3 8 2 v).1 22 = S3.1 22 by funext j; simp [kp_ui]]
              show f_X0_milesOf_6 (kw_ui S3 8 2 b) b = f_X8_milesBy_0 m b w
              rw [e8, mb, kt_miles hL]
      have hh := L ((((S3.1 6 3)).toInt - (1 : Int32).toInt).toNat + 1) ((65 - (1 : Int32).toInt).toNat + 1) 0 1 (by decide) (by rw [kp_q0]; omega) (by decide) (by rw [kp_q1]; omega) (by rw [d2, kp_q1]; omega) (by rw [kp_q1]; omega)
      rw [← e1, ← e2] at hh
      exact hh
  · have h1' : ¬ (0 ≤ k.toInt ∧ k.toInt ≤ 99) := h1
    simp only [if_neg h1] at e2
    rw [if_pos (show (0 : Int32).toInt = 0 from rfl)] at e2
    cases e2
    by_cases h2 : k.toInt < 0
    · rw [if_pos h2] at e1
      cases e1
      rfl
    · rw [if_neg h2, if_pos (show (99 : Int32).toInt < k.toInt by omega)] at e1
      cases e1
      rfl
end
section
/-! ===== the most miles: the sum of the pulls above 0 is the most of all sets ===== -/
theorem kc_pull378 : ∀ k : Nat, k < 6 → ∀ a : Nat, a < 10 → ∀ w : Nat, w < 7 → -120 ≤ (f_X7_pull kz0 (Int32.ofNat k) (Int32.ofNat a) (Int32.ofNat w)).toInt ∧ (f_X7_pull kz0 (Int32.ofNat k) (Int32.ofNat a) (Int32.ofNat w)).toInt ≤ 120 := by decide +kernel
theorem kc_pb {x m : kw_S} (hL : kr_L x m) (i w : Int32) (w0 : 0 ≤ w.toInt) (w1 : w.toInt ≤ 6) (i0 : 0 ≤ i.toInt) : -120 ≤ (f_X1_pullOf_17 x i w).toInt ∧ (f_X1_pullOf_17 x i w).toInt ≤ 120 := by
  rw [f_X1_pullOf_17_u, f_X1_hasLine_17_u]
  simp only [kf_lx]
  have ci := kw_clampI i0
  rw [if_neg (show ¬ i.toInt < 0 by omega)]
  by_cases h1 : i.toInt < (x.1 17 5).toInt
  · obtain ⟨-, -, -, -, b1, -, b3, -⟩ := hL.2.2.2 i.toNatClampNeg (by omega)
    have c1 := kw_clampI b1.1
    have c3 := kw_clampI (x := x.1 46 i.toNatClampNeg) (by omega)
    have cw := kw_clampI w0
    rw [if_pos h1, if_neg (by decide)]
    have h := kc_pull378 (x.1 44 i.toNatClampNeg).toNatClampNeg (by omega) (x.1 46 i.toNatClampNeg).toNatClampNeg (by omega) w.toNatClampNeg (by omega)
    rw [kd_ofNat _ b1.1, kd_ofNat _ (by omega), kd_ofNat w w0] at h
    exact h
  · rw [if_neg h1, if_pos (show (0 : Int32).toInt = 0 from rfl)]
    decide
noncomputable def kz_s (x : kw_S) (w : Int32) (s : Nat) : Nat → Int
  | 0 => 0
  | j + 1 => if s.testBit j = true then kz_s x w s j + (f_X1_pullOf_17 x (Int32.ofNat j) w).toInt else kz_s x w s j
noncomputable def kz_p (x : kw_S) (w : Int32) : Nat → Int
  | 0 => 0
  | j + 1 => if 0 < (f_X1_pullOf_17 x (Int32.ofNat j) w).toInt then kz_p x w j + (f_X1_pullOf_17 x (Int32.ofNat j) w).toInt else kz_p x w j
noncomputable def kz_b (x : kw_S) (w : Int32) : Nat → Nat
  | 0 => 0
  | j + 1 => if 0 < (f_X1_pullOf_17 x (Int32.ofNat j) w).toInt then 2 ^ j + kz_b x w j else kz_b x w j
theorem kz_sS (x : kw_S) (w : Int32) (s j : Nat) : kz_s x w s (j + 1) = if s.testBit j = true then kz_s x w s j + (f_X1_pullOf_17 x (Int32.ofNat j) w).toInt else kz_s x w s j := rfl
theorem kz_pS (x : kw_S) (w : Int32) (j : Nat) : kz_p x w (j + 1) = if 0 < (f_X1_pullOf_17 x (Int32.ofNat j) w).toInt then kz_p x w j + (f_X1_pullOf_17 x (Int32.ofNat j) w).toInt else kz_p x w j := rfl
theorem kz_bS (x : kw_S) (w : Int32) (j : Nat) : kz_b x w (j + 1) = if 0 < (f_X1_pullOf_17 x (Int32.ofNat j) w).toInt then 2 ^ j + kz_b x w j else kz_b x w j := rfl
theorem kz_cong (x : kw_S) (w : Int32) (s s' : Nat) : ∀ n : Nat, (∀ j : Nat, j < n → s.testBit j = s'.testBit j) → kz_s x w s n = kz_s x w s' n
  | 0, _ => rfl
  | n + 1, h => by rw [kz_sS, kz_sS, h n (by omega), kz_cong x w s s' n (fun j hj => h j (by omega))]
theorem kz_ofNatI (j : Nat) (h : j < 1000) : (Int32.ofNat j).toInt = j := nI_toInt (by omega)
theorem kz_bound {x m : kw_S} (hL : kr_L x m) (w : Int32) (w0 : 0 ≤ w.toInt) (w1 : w.toInt ≤ 6) (s : Nat) : ∀ n : Nat, n ≤ 6 → (kc_sp x w s n).toInt = kz_s x w s n ∧ -120 * (n : Int) ≤ kz_s x w s n ∧ kz_s x w s n ≤ kz_p x w n ∧ 0 ≤ kz_p x w n ∧ kz_p x w n ≤ 120 * (n : Int) ∧ kz_b x w n < 2 ^ n ∧ kz_s x w (kz_b x w n) n = kz_p x w n
  | 0, _ => ⟨rfl, by show -120 * ((0 : Nat) : Int) ≤ 0; omega, Int.le_refl 0, Int.le_refl 0, by show (0 : Int) ≤ 120 * ((0 : Nat) : Int); omega, by show 0 < 2 ^ 0; decide, rfl⟩
  | n + 1, hn => by
    obtain ⟨a1, a2, a3, a4, a5, a6, a7⟩ := kz_bound hL w w0 w1 s n (by omega)
    have pb := kc_pb hL (Int32.ofNat n) w w0 w1 (by rw [kz_ofNatI n (by omega)]; omega)
    have p2 : 2 ^ (n + 1) = 2 * 2 ^ n := by rw [Nat.pow_succ]; omega
    rw [kc_spS, kz_sS, kz_pS, kz_bS]
    generalize hp : f_X1_pullOf_17 x (Int32.ofNat n) w = p at *
    have e : (kc_sp x w s n + p).toInt = (kc_sp x w s n).toInt + p.toInt := by rw [kw_addI]; omega
    refine ⟨?_, ?_, ?_, ?_, ?_, ?_, ?_⟩
    · by_cases h : s.testBit n = true
      · rw [if_pos h, if_pos h, e, a1]
      · rw [if_neg h, if_neg h, a1]
    · by_cases h : s.testBit n = true
      · rw [if_pos h]; omega
      · rw [if_neg h]; omega
    · by_cases h : s.testBit n = true
      · rw [if_pos h]
        by_cases h0 : 0 < p.toInt
        · rw [if_pos h0]; omega
        · rw [if_neg h0]; omega
      · rw [if_neg h]
        by_cases h0 : 0 < p.toInt
        · rw [if_pos h0]; omega
        · rw [if_neg h0]; omega
    · by_cases h0 : 0 < p.toInt
      · rw [if_pos h0]; omega
      · rw [if_neg h0]; omega
    · by_cases h0 : 0 < p.toInt
      · rw [if_pos h0]; omega
      · rw [if_neg h0]; omega
    · by_cases h0 : 0 < p.toInt
      · rw [if_pos h0]; omega
      · rw [if_neg h0]; omega
    · by_cases h0 : 0 < p.toInt
      · rw [if_pos h0, if_pos h0, kz_sS, hp]
        have hb : (2 ^ n + kz_b x w n).testBit n = true := by rw [Nat.testBit_two_pow_add_eq, Nat.testBit_lt_two_pow a6]; rfl
        rw [if_pos hb, kz_cong x w (2 ^ n + kz_b x w n) (kz_b x w n) n (fun j hj => Nat.testBit_two_pow_add_gt hj _), a7]
      · rw [if_neg h0, if_neg h0, kz_sS, Nat.testBit_lt_two_pow a6, if_neg (by decide), a7]
theorem kz_div4 (a : Int32) (h0 : -1000000 ≤ a.toInt) (h1 : a.toInt ≤ 1000000) : (a / 4).toInt = a.toInt.tdiv 4 := by
  rw [Int32.toInt_div, show (4 : Int32).toInt = 4 from rfl]
  have h2 : a.toInt.tdiv 4 ≤ 1000000 ∧ -1000000 ≤ a.toInt.tdiv 4 := by
    by_cases h : 0 ≤ a.toInt
    · rw [Int.tdiv_eq_ediv_of_nonneg h]; omega
    · have e : a.toInt.tdiv 4 = -((-a.toInt).tdiv 4) := by rw [Int.neg_tdiv, Int.neg_neg]
      rw [e, Int.tdiv_eq_ediv_of_nonneg (by omega)]; omega
  exact Int.bmod_eq_of_le (by omega) (by omega)
theorem kz_mono (a b : Int) (h : a ≤ b) : a.tdiv 4 ≤ b.tdiv 4 := by
  by_cases ha : 0 ≤ a
  · rw [Int.tdiv_eq_ediv_of_nonneg ha, Int.tdiv_eq_ediv_of_nonneg (by omega)]; omega
  · have ea : a.tdiv 4 = -((-a).tdiv 4) := by rw [Int.neg_tdiv, Int.neg_neg]
    rw [ea, Int.tdiv_eq_ediv_of_nonneg (by omega)]
    by_cases hb : 0 ≤ b
    · rw [Int.tdiv_eq_ediv_of_nonneg hb]; omega
    · have eb : b.tdiv 4 = -((-b).tdiv 4) := by rw [Int.neg_tdiv, Int.neg_neg]
      rw [eb, Int.tdiv_eq_ediv_of_nonneg (by omega)]; omega
/-- miles of a set, as a whole number -/
theorem kz_miles {x m : kw_S} (hL : kr_L x m) (w : Int32) (w0 : 0 ≤ w.toInt) (w1 : w.toInt ≤ 6) (s : Int32) (s0 : 0 ≤ s.toInt) (s1 : s.toInt ≤ 63) : (f_X1_milesOf_17 x s w).toInt = (kz_s x w s.toNatClampNeg (x.1 17 5).toNatClampNeg).tdiv 4 := by
  have l2 := hL.2.1
  have cl := kw_clampI l2.1
  obtain ⟨a1, a2, a3, a4, a5, -, -⟩ := kz_bound hL w w0 w1 s.toNatClampNeg (x.1 17 5).toNatClampNeg (by omega)
  rw [kc_miles x s w l2.1 l2.2 s0 s1, kz_div4 _ (by omega) (by omega), a1]
theorem kz_allbits : ∀ l : Nat, l < 7 → ∀ i : Nat, i < l → (((((1 : Int32) <<< (Int32.ofNat l &&& 31)) - 1) >>> (Int32.ofNat i &&& 31)) &&& 1).toInt = 1 := by decide +kernel
theorem kz_most {x m : kw_S} (hL : kr_L x m) (w : Int32) (w0 : 0 ≤ w.toInt) (w1 : w.toInt ≤ 6) : (f_X1_mostMilesOf_17 x (f_X1_allLines_17 x) w).toInt = (kz_p x w (x.1 17 5).toNatClampNeg).tdiv 4 := by
  have l2 := hL.2.1
  have cl := kw_clampI l2.1
  have B := kz_bound hL w w0 w1 0
  have hall := kz_allbits (x.1 17 5).toNatClampNeg (by omega)
  rw [kd_ofNat _ l2.1] at hall
  rw [f_X1_allLines_17_u]
  simp only [kf_lx]
  generalize ((1 : Int32) <<< (x.1 17 5 &&& 31)) - 1 = A at *
  have L : ∀ (n : Nat) (a i : Int32), 0 ≤ i.toInt → i.toInt ≤ (x.1 17 5).toInt → a.toInt = kz_p x w i.toNatClampNeg → (6 - i.toInt).toNat < n → (l_X1_mostMilesOf_17_5 A w x n a i).toInt = (kz_p x w (x.1 17 5).toNatClampNeg).tdiv 4 := by
    intro n
    induction n with
    | zero => intro a i _ _ _ h; exact absurd h (Nat.not_lt_zero _)
    | succ n ih =>
      intro a i i0 i1 ha h1
      have ci := kw_clampI i0
      obtain ⟨-, -, -, b4, b5, -, -⟩ := B i.toNatClampNeg (by omega)
      rw [l_X1_mostMilesOf_17_5_s]
      simp only [kf_lx]
      by_cases hi : i.toInt < (x.1 17 5).toInt
      · have z := kp_inc i (by omega)
        have c1 := kw_clampI (x := i + Int32.ofInt 1) (by omega)
        have en : (i + Int32.ofInt 1).toNatClampNeg = i.toNatClampNeg + 1 := by omega
        have hb := hall i.toNatClampNeg (by omega)
        rw [kd_ofNat i i0] at hb
        have pb := kc_pb hL i w w0 w1 i0
        rw [if_pos hi, if_pos (show ((A >>> (i &&& 31)) &&& 1).toInt = (1 : Int32).toInt from hb)]
        refine ih _ _ (by omega) (by omega) ?_ (by omega)
        rw [en, kz_pS, kd_ofNat i i0]
        by_cases h0 : 0 < (f_X1_pullOf_17 x i w).toInt
        · rw [if_pos (show (0 : Int32) < f_X1_pullOf_17 x i w from Int32.lt_iff_toInt_lt.mpr (by rw [kp_q0]; exact h0)), if_pos h0, kw_addI]
          omega
        · rw [if_neg (show ¬ (0 : Int32) < f_X1_pullOf_17 x i w from fun q => h0 (by have := kw_ltI q; rw [kp_q0] at this; exact this)), if_neg h0, kw_addI, kp_q0]
          omega
      · have e : i.toNatClampNeg = (x.1 17 5).toNatClampNeg := by omega
        rw [if_neg hi, kz_div4 a (by omega) (by omega), ha, e]
  rw [f_X1_mostMilesOf_17_u]
  exact L _ _ _ (by decide) (by rw [kp_q0]; exact l2.1) rfl (by rw [kp_q0]; omega)
end
section
/-! ===== the reference's rows of miles and turns by hour and set; the soonest ===== -/
def kh_T (x S : kw_S) (k s : Nat) : Prop := S.1 18 (64 * k + s) = f_X1_milesOf_17 x (Int32.ofNat s) (f_X1_windAt_17 x (x.1 4 5 + Int32.ofNat k)) ∧ S.1 19 (64 * k + s) = f_X1_turnOf_17 x (Int32.ofNat s) (f_X1_windAt_17 x (x.1 4 5 + Int32.ofNat k))
theorem kh_in {x m : kw_S} (hL : kr_L x m) (hD : kr_D x m) (k : Int32) (k0 : 0 ≤ k.toInt) (k1 : k.toInt < 3) (kk : Int32 → kw_S → kw_S) : ∀ (n : Nat) (y : Int32) (S : kw_S), 0 ≤ y.toInt → y.toInt ≤ (2 ^ (x.1 17 5).toNatClampNeg : Nat) → kw_FM [18, 19] m S → (∀ s : Nat, (s : Int) < y.toInt → kh_T x S k.toNatClampNeg s) → (∀ q s : Nat, q < k.toNatClampNeg → s < 2 ^ (x.1 17 5).toNatClampNeg → kh_T x S q s) → (64 - y.toInt).toNat < n → ∃ S' : kw_S, l_X8_setHours_0_9 kk k n y S = kk (k + Int32.ofInt 1) S' ∧ kw_FM [18, 19] m S' ∧ ∀ q s : Nat, q < k.toNatClampNeg + 1 → s < 2 ^ (x.1 17 5).toNatClampNeg → kh_T x S' q s := by
  have l2 := hL.2.1
  have cl := kw_clampI l2.1
  have pw := kc_pow (x.1 17 5).toNatClampNeg (by omega)
  have p1 := kc_pow1 (x.1 17 5) l2.1 l2.2
  have n1 := (kd_now hL hD).1
  have ck := kw_clampI k0
  have e22 : m.1 0 22 = x.1 4 5 := hD.2.2.2.2.1.1
  have ek : (x.1 4 5 + k).toInt = (x.1 4 5).toInt + k.toInt := by rw [kw_addI]; omega
  intro n
  induction n with
  | zero => intro y S _ _ _ _ _ h; exact absurd h (Nat.not_lt_zero _)
  | succ n ih =>
    intro y S y0 y1 hF hs hq h1
    have cy := kw_clampI y0
    have hLS : kr_L x S := hL.cong (fun _ _ => rfl) (fun a ha => hF.1 a (by omega) (by simp; omega)) (hF.2.1 10 (by decide)) (hF.2.1 11 (by decide))
    rw [l_X8_setHours_0_9_s, ← hLS.1]
    simp only [kf_lx]
    by_cases hy : y.toInt < (2 ^ (x.1 17 5).toNatClampNeg : Nat)
    · have z := kp_inc y (by omega)
      rw [if_pos (show y.toInt < ((1 : Int32) <<< (x.1 17 5 &&& 31)).toInt by rw [p1]; exact hy), kp_idx 64 64 k y rfl (by decide) k0 (by omega) y0 (by omega), hF.2.1 22 (by decide), e22, ← kt_windAt hLS (x.1 4 5 + k) (by omega), ← kt_miles hLS]
      have hLU : ∀ v : Int32, kr_L x (kw_ui S 18 (64 * k.toNatClampNeg + y.toNatClampNeg) v) := fun v => hLS.cong (fun _ _ => rfl) (fun a ha => by funext j; rw [kp_ui, if_neg (by omega)]) (by rw [kp_ui, if_neg (by omega)]) (by rw [kp_ui, if_neg (by omega)])
      rw [← kt_windAt (hLU _) (x.1 4 5 + k) (by omega), ← kt_turn (hLU _)]
      generalize hU : kw_ui (kw_ui S 18 (64 * k.toNatClampNeg + y.toNatClampNeg) (f_X1_milesOf_17 x y (f_X1_windAt_17 x (x.1 4 5 + k)))) 19 (64 * k.toNatClampNeg + y.toNatClampNeg) (f_X1_turnOf_17 x y (f_X1_windAt_17 x (x.1 4 5 + k))) = U
      have v18 : ∀ j : Nat, j ≠ 64 * k.toNatClampNeg + y.toNatClampNeg → U.1 18 j = S.1 18 j ∧ U.1 19 j = S.1 19 j := fun j hj => by
        rw [← hU]
        exact ⟨by rw [kp_ui, if_neg (by omega), kp_ui, if_neg (by omega)], by rw [kp_ui, if_neg (by omega), kp_ui, if_neg (by omega)]⟩
      refine ih (y + Int32.ofInt 1) U (by omega) (by omega) (by rw [← hU]; exact kw_FM_ui (kw_FM_ui hF (by decide) (by decide)) (by decide) (by decide)) (fun s hs2 => ?_) (fun q s g1 g2 => ?_) (by omega)
      · by_cases e : s = y.toNatClampNeg
        · unfold kh_T
          rw [e, kd_ofNat y y0, kd_ofNat k k0, ← hU]
          exact ⟨by rw [kp_ui, if_neg (by omega), kp_ui, if_pos ⟨rfl, rfl⟩], by rw [kp_ui, if_pos ⟨rfl, rfl⟩]⟩
        · obtain ⟨u1, u2⟩ := v18 (64 * k.toNatClampNeg + s) (by omega)
          unfold kh_T
          rw [u1, u2]
          exact hs s (by omega)
      · obtain ⟨u1, u2⟩ := v18 (64 * q + s) (by omega)
        unfold kh_T
        rw [u1, u2]
        exact hq q s g1 g2
    · rw [if_neg (show ¬ y.toInt < ((1 : Int32) <<< (x.1 17 5 &&& 31)).toInt by rw [p1]; exact hy)]
      refine ⟨S, rfl, hF, fun q s g1 g2 => ?_⟩
      by_cases e : q = k.toNatClampNeg
      · rw [e]; exact hs s (by omega)
      · exact hq q s (by omega) g2
theorem kh_set {x m : kw_S} (hL : kr_L x m) (hD : kr_D x m) : kw_FM [18, 19] m (f_X8_setHours_0 m) ∧ ∀ q s : Nat, q < 3 → s < 2 ^ (x.1 17 5).toNatClampNeg → kh_T x (f_X8_setHours_0 m) q s := by
  have l2 := hL.2.1
  have cl := kw_clampI l2.1
  have pw := kc_pow (x.1 17 5).toNatClampNeg (by omega)
  have L : ∀ (n : Nat) (k : Int32) (S : kw_S), 0 ≤ k.toInt → k.toInt ≤ 3 → kw_FM [18, 19] m S → (∀ q s : Nat, q < k.toNatClampNeg → s < 2 ^ (x.1 17 5).toNatClampNeg → kh_T x S q s) → (3 - k.toInt).toNat < n → kw_FM [18, 19] m (l_X8_setHours_0_2 n k S) ∧ ∀ q s : Nat, q < 3 → s < 2 ^ (x.1 17 5).toNatClampNeg → kh_T x (l_X8_setHours_0_2 n k S) q s := by
    intro n
    induction n with
    | zero => intro k S _ _ _ _ h; exact absurd h (Nat.not_lt_zero _)
    | succ n ih =>
      intro k S k0 k1 hF hq h1
      have ck := kw_clampI k0
      rw [l_X8_setHours_0_2_s]
      by_cases hk : k.toInt < 3
      · have z := kp_inc k (by omega)
        have c1 := kw_clampI (x := k + Int32.ofInt 1) (by omega)
        rw [if_pos (show k.toInt < (3 : Int32).toInt from hk)]
        obtain ⟨S', a1, a2, a3⟩ := kh_in hL hD k k0 hk (l_X8_setHours_0_2 n) ((65 - (0 : Int32).toInt).toNat + 1) 0 S (by decide) (by rw [kp_q0]; omega) hF (fun s hs => by rw [kp_q0] at hs; omega) hq (by rw [kp_q0]; omega)
        rw [a1]
        exact ih (k + Int32.ofInt 1) S' (by omega) (by omega) a2 (fun q s g1 g2 => a3 q s (by omega) g2) (by omega)
      · rw [if_neg (show ¬ k.toInt < (3 : Int32).toInt from hk)]
        exact ⟨hF, fun q s g1 g2 => hq q s (by omega) g2⟩
  rw [f_X8_setHours_0_u]
  exact L _ 0 m (by decide) (by decide) kw_FM.rf (fun q s g1 => by rw [show (0 : Int32).toNatClampNeg = 0 from rfl] at g1; omega) (by rw [kp_q0]; omega)
theorem kh_down : ∀ l : Nat, l < 7 → ∀ s : Nat, s < 64 → s < 2 ^ l → 0 < s → ((Int32.ofNat s - 1) &&& (((1 : Int32) <<< (Int32.ofNat l &&& 31)) - 1)) = Int32.ofNat (s - 1) := by decide +kernel
/-- the reference's most of an hour, over all lines, is the class's -/
theorem kh_most {x S : kw_S} (hL : kr_L x S) (k : Int32) (k0 : 0 ≤ k.toInt) (k1 : k.toInt < 3) (w0 : 0 ≤ (f_X1_windAt_17 x (x.1 4 5 + k)).toInt) (w1 : (f_X1_windAt_17 x (x.1 4 5 + k)).toInt ≤ 6) (hT : ∀ s : Nat, s < 2 ^ (x.1 17 5).toNatClampNeg → kh_T x S k.toNatClampNeg s) : f_X8_mostOf_0 S k (((1 : Int32) <<< (x.1 17 5 &&& 31)) - 1) = f_X1_mostMilesOf_17 x (f_X1_allLines_17 x) (f_X1_windAt_17 x (x.1 4 5 + k)) := by
  have l2 := hL.2.1
  have cl := kw_clampI l2.1
  have pw := kc_pow (x.1 17 5).toNatClampNeg (by omega)
  have p1 := kc_pow1 (x.1 17 5) l2.1 l2.2
  have ck := kw_clampI k0
  have hd := kh_down (x.1 17 5).toNatClampNeg (by omega)
  rw [kd_ofNat _ l2.1] at hd
  have eA : (((1 : Int32) <<< (x.1 17 5 &&& 31)) - 1).toInt = (2 ^ (x.1 17 5).toNatClampNeg : Nat) - 1 := by rw [kw_subI, p1, kp_q1]; omega
  generalize hA : ((1 : Int32) <<< (x.1 17 5 &&& 31)) - 1 = A at *
  generalize hw : f_X1_windAt_17 x (x.1 4 5 + k) = w at *
  have tb : ∀ s : Int32, 0 ≤ s.toInt → s.toInt < (2 ^ (x.1 17 5).toNatClampNeg : Nat) → S.1 18 (64 * k.toNatClampNeg + s.toNatClampNeg) = f_X1_milesOf_17 x s w := fun s s0 s1 => by
    have cs := kw_clampI s0
    have := (hT s.toNatClampNeg (by omega)).1
    rw [kd_ofNat s s0, kd_ofNat k k0, hw] at this
    exact this
  have L : ∀ (n : Nat) (a s : Int32), 0 ≤ s.toInt → s.toInt < (2 ^ (x.1 17 5).toNatClampNeg : Nat) → s.toInt.toNat < n → a.toInt ≤ (l_X8_mostOf_0_5 k A S n a s).toInt ∧ (∀ q : Int32, 1 ≤ q.toInt → q.toInt ≤ s.toInt → (f_X1_milesOf_17 x q w).toInt ≤ (l_X8_mostOf_0_5 k A S n a s).toInt) ∧ (l_X8_mostOf_0_5 k A S n a s = a ∨ ∃ q : Int32, 1 ≤ q.toInt ∧ q.toInt ≤ s.toInt ∧ l_X8_mostOf_0_5 k A S n a s = f_X1_milesOf_17 x q w) := by
    intro n
    induction n with
    | zero => intro a s _ _ h; exact absurd h (Nat.not_lt_zero _)
    | succ n ih =>
      intro a s s0 s1 h1
      have cs := kw_clampI s0
      rw [l_X8_mostOf_0_5_s]
      simp only [kf_lx]
      by_cases hs : 0 < s.toInt
      · have dn := hd s.toNatClampNeg (by omega) (by omega) (by omega)
        rw [kd_ofNat s s0] at dn
        have ds : (Int32.ofNat (s.toNatClampNeg - 1)).toInt = s.toInt - 1 := by rw [kz_ofNatI _ (by omega)]; omega
        rw [if_pos hs, kp_idx 64 64 k s rfl (by decide) k0 (by omega) s0 (by omega), tb s s0 s1, dn, f_X8_greater_u]
        have fork : ∀ b : Int32, a.toInt ≤ b.toInt → (f_X1_milesOf_17 x s w).toInt ≤ b.toInt → (b = a ∨ b = f_X1_milesOf_17 x s w) → a.toInt ≤ (l_X8_mostOf_0_5 k A S n b (Int32.ofNat (s.toNatClampNeg - 1))).toInt ∧ (∀ q : Int32, 1 ≤ q.toInt → q.toInt ≤ s.toInt → (f_X1_milesOf_17 x q w).toInt ≤ (l_X8_mostOf_0_5 k A S n b (Int32.ofNat (s.toNatClampNeg - 1))).toInt) ∧ (l_X8_mostOf_0_5 k A S n b (Int32.ofNat (s.toNatClampNeg - 1)) = a ∨ ∃ q : Int32, 1 ≤ q.toInt ∧ q.toInt ≤ s.toInt ∧ l_X8_mostOf_0_5 k A S n b (Int32.ofNat (s.toNatClampNeg - 1)) = f_X1_milesOf_17 x q w) := by
          intro b b1 b2 b3
          obtain ⟨a1, a2, a3⟩ := ih b (Int32.ofNat (s.toNatClampNeg - 1)) (by omega) (by omega) (by omega)
          refine ⟨by omega, fun q q0 q1 => ?_, ?_⟩
          · by_cases e : q.toInt = s.toInt
            · rw [Int32.toInt_inj.mp e]; omega
            · exact a2 q q0 (by omega)
          · rcases a3 with a3 | ⟨q, q0, q1, a3⟩
            · rcases b3 with b3 | b3
              · exact Or.inl (a3.trans b3)
              · exact Or.inr ⟨s, by omega, Int.le_refl _, a3.trans b3⟩
            · exact Or.inr ⟨q, q0, by omega, a3⟩
        by_cases hg : (f_X1_milesOf_17 x s w).toInt < a.toInt
        · rw [if_pos hg]
          exact fork a (Int.le_refl _) (by omega) (Or.inl rfl)
        · rw [if_neg hg]
          exact fork _ (by omega) (Int.le_refl _) (Or.inr rfl)
      · rw [if_neg hs]
        exact ⟨Int.le_refl _, fun q q0 q1 => by omega, Or.inl rfl⟩
  rw [f_X8_mostOf_0_u]
  obtain ⟨a1, a2, a3⟩ := L (A.toInt.toNat + 1) 0 A (by omega) (by omega) (Nat.lt_succ_self _)
  generalize l_X8_mostOf_0_5 k A S (A.toInt.toNat + 1) 0 A = r at *
  have hm := kz_most hL w w0 w1
  apply Int32.toInt_inj.mp
  rw [hm]
  have B := kz_bound hL w w0 w1
  rw [kp_q0] at a1
  obtain ⟨-, -, -, b4, b5, b6, b7⟩ := B 0 (x.1 17 5).toNatClampNeg (by omega)
  have hge : 0 ≤ (kz_p x w (x.1 17 5).toNatClampNeg).tdiv 4 := Int.tdiv_nonneg b4 (by decide)
  have hle : ∀ q : Int32, 1 ≤ q.toInt → q.toInt ≤ A.toInt → (f_X1_milesOf_17 x q w).toInt ≤ (kz_p x w (x.1 17 5).toNatClampNeg).tdiv 4 := fun q q0 q1 => by
    rw [kz_miles hL w w0 w1 q (by omega) (by omega)]
    exact kz_mono _ _ (B q.toNatClampNeg (x.1 17 5).toNatClampNeg (by omega)).2.2.1
  have up : r.toInt ≤ (kz_p x w (x.1 17 5).toNatClampNeg).tdiv 4 := by
    rcases a3 with rfl | ⟨q, q0, q1, rfl⟩
    · rw [kp_q0]; exact hge
    · exact hle q q0 q1
  have lo : (kz_p x w (x.1 17 5).toNatClampNeg).tdiv 4 ≤ r.toInt := by
    by_cases hb : kz_b x w (x.1 17 5).toNatClampNeg = 0
    · rw [hb] at b7
      have e0 : ∀ n : Nat, kz_s x w 0 n = 0 := by
        intro n
        induction n with
        | zero => rfl
        | succ n ih => rw [kz_sS, Nat.zero_testBit, if_neg (by decide), ih]
      rw [← b7, e0]
      exact a1
    · have eb := kz_ofNatI (kz_b x w (x.1 17 5).toNatClampNeg) (by omega)
      have cb := kw_clampI (x := Int32.ofNat (kz_b x w (x.1 17 5).toNatClampNeg)) (by omega)
      have := a2 (Int32.ofNat (kz_b x w (x.1 17 5).toNatClampNeg)) (by omega) (by omega)
      rw [kz_miles hL w w0 w1 _ (by omega) (by omega), show (Int32.ofNat (kz_b x w (x.1 17 5).toNatClampNeg)).toNatClampNeg = kz_b x w (x.1 17 5).toNatClampNeg by omega, b7] at this
      exact this
  omega
theorem kh_wind {x m : kw_S} (hL : kr_L x m) (k : Int32) (k0 : 0 ≤ k.toInt) : 0 ≤ (f_X1_windAt_17 x k).toInt ∧ (f_X1_windAt_17 x k).toInt ≤ 5 := by
  rw [f_X1_windAt_17_u]
  simp only [kf_lx]
  rcases hL.2.2.1 with ⟨-, h6, -, -⟩ | ⟨-, -, g1, g2, gw⟩
  · rw [h6, if_pos (by decide)]; decide
  · have e := kw_remI k (x.1 17 6) _ rfl k0 (by omega)
    have c := kw_clampI e.1
    rw [if_neg (show ¬ (x.1 17 6).toInt < (1 : Int32).toInt by rw [kp_q1]; omega), if_neg (show ¬ k.toInt < 0 by omega)]
    exact (gw _ (by omega)).2
theorem kr_soon {x m t : kw_S} {r q : Int32} (hL : kr_L x m) (hD : kr_D x m) (k : Int32) (e1 : r = f_X7_soon_0 x k) (e2 : (q, t) = f_X8_soon_0 m k) : r = q := by
  have l2 := hL.2.1
  have n1 := (kd_now hL hD).1
  have qm : (-999 : Int32).toInt = -999 := rfl
  have q9 : (999 : Int32).toInt = 999 := rfl
  rw [f_X7_soon_0_u, f_X5_isEmpty_4_u] at e1
  rw [f_X8_soon_0_u] at e2
  simp only [kf_lx, kp_in] at e1 e2
  by_cases h1 : (-999 : Int32).toInt ≤ k.toInt ∧ k.toInt ≤ (999 : Int32).toInt
  · have h1' : -999 ≤ k.toInt ∧ k.toInt ≤ 999 := h1
    rw [if_neg (show ¬ k.toInt < (-999 : Int32).toInt by omega), if_neg (show ¬ (999 : Int32).toInt < k.toInt by omega)] at e1
    simp only [if_pos h1] at e2
    rw [if_neg (show ¬ (1 : Int32).toInt = 0 by decide), ← hL.1] at e2
    by_cases h0 : (x.1 17 5).toInt < (1 : Int32).toInt
    · have h0' : (x.1 17 5).toInt < 1 := h0
      simp only [if_pos h0] at e1
      rw [if_neg (show ¬ (1 : Int32).toInt = 0 by decide)] at e1
      rw [if_pos (show (x.1 17 5).toInt = 0 by omega)] at e2
      cases e2
      exact e1
    · have h0' : ¬ (x.1 17 5).toInt < 1 := h0
      simp only [if_neg h0] at e1
      rw [if_pos (show (0 : Int32).toInt = 0 from rfl)] at e1
      rw [if_neg (show ¬ (x.1 17 5).toInt = 0 by omega)] at e2
      obtain ⟨s1, s2⟩ := kh_set hL hD
      generalize f_X8_setHours_0 m = S at *
      have hLS : kr_L x S := hL.cong (fun _ _ => rfl) (fun a ha => s1.1 a (by omega) (by simp; omega)) (s1.2.1 10 (by decide)) (s1.2.1 11 (by decide))
      have e23 : S.1 0 23 = x.1 4 6 := by rw [s1.2.1 23 (by decide)]; exact hD.2.2.2.2.1.2.1
      rw [e23] at e2
      have L : ∀ (n n' : Nat) (a i : Int32), 0 ≤ i.toInt → i.toInt ≤ 3 → (4 - i.toInt).toNat < n → (3 - i.toInt).toNat < n' → l_X7_soon_0_51 k (f_X1_allLines_17 x) x n a i = (l_X8_soon_0_36 k S n' a i).1 := by
        intro n
        induction n with
        | zero => intro n' a i _ _ h _; exact absurd h (Nat.not_lt_zero _)
        | succ n ih =>
          intro n' a i i0 i1 g1 g2
          cases n' with
          | zero => exact absurd g2 (Nat.not_lt_zero _)
          | succ n' =>
            have ci := kw_clampI i0
            have z := kp_inc i (by omega)
            rw [l_X7_soon_0_51_s, l_X8_soon_0_36_s, if_neg (show ¬ (3 : Int32).toInt < i.toInt by rw [show (3 : Int32).toInt = 3 from rfl]; omega)]
            simp only [kf_lx]
            by_cases hi : i.toInt < 3
            · rw [if_pos (show i.toInt < (3 : Int32).toInt from hi)]
              by_cases ha : a.toInt < k.toInt
              · rw [if_pos ha, if_pos ha, f_X5_windAhead_4_u]
                simp only [kf_lx]
                have ek : (x.1 4 5 + i).toInt = (x.1 4 5).toInt + i.toInt := by rw [kw_addI]; omega
                have wb := kh_wind hL (x.1 4 5 + i) (by omega)
                rw [← hLS.1, kh_most hLS i i0 hi wb.1 (by omega) (fun s hs => s2 _ s (by omega) hs)]
                exact ih n' _ _ (by omega) (by omega) (by omega) (by omega)
              · rw [if_neg ha, if_neg ha, if_neg ha]
            · rw [if_neg (show ¬ i.toInt < (3 : Int32).toInt from hi)]
              by_cases ha : a.toInt < k.toInt
              · rw [if_pos ha, if_pos ha]
                cases n with
                | zero => omega
                | succ n => rw [l_X7_soon_0_51_s, if_pos (show (3 : Int32).toInt < (i + Int32.ofInt 1).toInt by rw [show (3 : Int32).toInt = 3 from rfl]; omega)]
              · rw [if_neg ha, if_neg ha, Int32.toInt_inj.mp (show i.toInt = i.toInt from rfl)]
      have hh := L ((5 - (0 : Int32).toInt).toNat + 1) ((4 - (0 : Int32).toInt).toNat + 1) (x.1 4 6) 0 (by decide) (by decide) (by rw [kp_q0]; omega) (by rw [kp_q0]; omega)
      rw [← e1, ← e2] at hh
      exact hh
  · have h1' : ¬ (-999 ≤ k.toInt ∧ k.toInt ≤ 999) := h1
    simp only [if_neg h1] at e2
    rw [if_pos (show (0 : Int32).toInt = 0 from rfl)] at e2
    cases e2
    by_cases h2 : k.toInt < (-999 : Int32).toInt
    · rw [if_pos h2] at e1
      exact e1
    · rw [if_neg h2, if_pos (show (999 : Int32).toInt < k.toInt by omega)] at e1
      exact e1
end
section
theorem kr_townD {x m s t : kw_S} {r q : Int32} (hX : kw_I bX x) (hT : kr_T x m) (hL : kr_L x m) (hD : kr_D x m) (k : Int32) (e1 : (r, s) = f_X7_town_0 x k) (e2 : (q, t) = f_X8_town_0 m k) : kr_D s t := by
  obtain ⟨-, hL', hc⟩ := kr_town hX hT hL k e1 e2
  rcases hc with ⟨FX, FM⟩ | ⟨z3, z4, z5, z6, z7, z19, z21, t22, t23, t24, t25, t27, t14, t16, l1, zhi⟩
  · exact hD.fr hL FX FM (by decide) (by decide)
  · have q0 : (0 : Int32).toNatClampNeg = 0 := rfl
    have d2 := hD.2.1
    have cn := kw_clampI d2.1
    obtain ⟨-, -, w3⟩ := kd_run_ok hL.2.1.2 (x.1 18) (x.1 4 3).toNatClampNeg (by omega) hD.2.2.2.1
    rw [← hD.2.2.1] at w3
    have eg : kd_get s = (0, 0, 0, 0, fun _ => 0) := kd_getE z5 z6 z7 z4 (fun j => by
      by_cases hj : j < 6
      · exact z19 j hj
      · rw [zhi j (by omega)]; exact (w3 j).2 (by omega))
    refine ⟨by rw [z3, t27], by rw [z3]; decide, ?_, ?_, ?_, ?_, fun k hk => Or.inl ⟨by rw [z21 k hk]; decide, t16 k hk⟩⟩
    · rw [z3, q0]; exact eg
    · rw [z3, q0]; intro d hd; omega
    · rw [eg]; exact ⟨t22, t23, t24, t25, fun i hi => t14 i hi⟩
    · rw [z3, q0]; intro d hd; omega
theorem kr_miles {x m s t : kw_S} {r q : Int32} (hD : kr_D x m) (e1 : (r, s) = f_X7_miles_0 x) (e2 : (q, t) = f_X8_miles_0 m) : r = q := by
  have h := hD.2.2.2.2.1.2.1
  rw [f_X7_miles_0_u] at e1
  rw [f_X8_miles_0_u] at e2
  simp only [kf_lx, kf_bx] at e1 e2
  obtain ⟨r1, -⟩ := Prod.mk.inj e1
  obtain ⟨r2, -⟩ := Prod.mk.inj e2
  have e23 : ∀ z : Int64, (f_X8_part_0 m z 1).2.1 0 23 = m.1 0 23 := fun z => (kp_part1 m z).1.2.1 23 (by decide)
  rw [r1, r2, e23, h]
  rfl
abbrev kr_R (x m : kw_S) : Prop := kr_T x m ∧ kr_L x m ∧ kr_D x m
theorem kr_R.fr {L L' : List Nat} {x x' m m' : kw_S} (h : kr_R x m) (F1 : kw_F L x x') (F2 : kw_FM L' m m') (h1 : ∀ a ∈ L, ¬ (a = 15 ∨ 35 ≤ a ∧ a < 39) ∧ ¬ (a = 17 ∨ 44 ≤ a ∧ a ≤ 48) ∧ ¬ (a = 4 ∨ a = 18 ∨ a = 19 ∨ a = 21 ∨ 49 ≤ a ∧ a ≤ 51 ∨ a = 17 ∨ 44 ≤ a ∧ a ≤ 48)) (h2 : ∀ a ∈ L', ¬ (a = 5 ∨ a = 6) ∧ (¬ (7 ≤ a ∧ a ≤ 11) ∧ a ≠ 1010 ∧ a ≠ 1011) ∧ ¬ (14 ≤ a ∧ a ≤ 17 ∨ a = 1022 ∨ a = 1023 ∨ a = 1024 ∨ a = 1025 ∨ a = 1027)) : kr_R x' m' :=
  ⟨h.1.fr F1 F2 (fun a q => (h1 a q).1) (fun a q => (h2 a q).1), h.2.1.fr F1 F2 (fun a q => (h1 a q).2.1) (fun a q => (h2 a q).2.1), h.2.2.fr h.2.1 F1 F2 (fun a q => (h1 a q).2.2) (fun a q => (h2 a q).2.2)⟩
end
