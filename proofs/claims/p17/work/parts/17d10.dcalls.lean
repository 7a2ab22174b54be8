/-! ===== the calls that do deeds ===== -/
def kz0 : kw_S := (fun _ _ => 0, fun _ _ => 0)
theorem kd_bits0 (τ : kw_S) (h : Int32) : f_X8_bits τ h = f_X8_bits kz0 h := by
  have L : ∀ (n : Nat) (a b : Int32), l_X8_bits_4 h τ n a b = l_X8_bits_4 h kz0 n a b := by
    intro n
    induction n with
    | zero => intro a b; rfl
    | succ n ih =>
      intro a b
      rw [l_X8_bits_4_s, l_X8_bits_4_s]
      simp only [kf_lx, ih]
  rw [f_X8_bits_u, f_X8_bits_u]
  exact L _ _ _
theorem kd_bits64 : ∀ k : Nat, k < 64 → f_J6_bitCount_0f7a4 kz0 (Int32.ofNat k) = f_X8_bits kz0 (Int32.ofNat k) := by decide +kernel
theorem kd_bits (σ τ : kw_S) (h : Int32) (h0 : 0 ≤ h.toInt) (h1 : h.toInt ≤ 63) : f_J6_bitCount_0f7a4 σ h = f_X8_bits τ h := by
  have c := kw_clampI h0
  rw [kd_bits0, show f_J6_bitCount_0f7a4 σ h = f_J6_bitCount_0f7a4 kz0 h from rfl, ← kd_ofNat h h0]
  exact kd_bits64 _ (by omega)
theorem kd_isHung {x m : kw_S} (hD : kr_D x m) (i : Int32) : f_X5_isHung_4 x i = f_X8_has m (m.1 0 25) i := by
  rw [f_X5_isHung_4_u, f_X8_has_u]
  simp only [kf_lx]
  rw [show m.1 0 25 = x.1 4 4 from hD.2.2.2.2.1.2.2.2.1]
theorem kd_room {x m : kw_S} (hD : kr_D x m) : (f_X5_hasRoomFor_4 x 1).toInt = 0 ↔ (m.1 0 27).toInt = (40 : Int32).toInt := by
  rw [f_X5_hasRoomFor_4_u]
  simp only [kf_lx]
  have h2 := hD.2.1
  have z := kp_add1 (x.1 4 3) (by omega)
  have q40 : (40 : Int32).toInt = 40 := rfl
  rw [← hD.1]
  by_cases h : (40 : Int32).toInt < (x.1 4 3 + 1).toInt
  · rw [if_pos h]
    exact ⟨fun _ => by omega, fun _ => rfl⟩
  · rw [if_neg h]
    exact ⟨fun q => absurd q (by decide), fun q => by omega⟩
theorem kd_lineIn {x : kw_S} (i : Int32) (h : ¬ (f_X1_hasLine_17 x i).toInt = 0) : 0 ≤ i.toInt ∧ i.toInt < (x.1 17 5).toInt := by
  rw [f_X1_hasLine_17_u] at h
  by_cases h0 : i.toInt < 0
  · rw [if_pos h0] at h; exact absurd rfl h
  · rw [if_neg h0] at h
    by_cases h1 : i.toInt < (x.1 17 5).toInt
    · exact ⟨by omega, h1⟩
    · rw [if_neg h1] at h; exact absurd rfl h
theorem kr_hang {x m s t : kw_S} {r q : Int32} (hL : kr_L x m) (hD : kr_D x m) (i : Int32) (e1 : (r, s) = f_X7_hang_0 x i) (e2 : (q, t) = f_X8_hang_0 m i) : kr_D s t ∧ r = q := by
  rw [f_X7_hang_0_u] at e1
  rw [f_X8_hang_0_u] at e2
  simp only [kf_lx] at e1 e2
  rw [kd_isHung hD] at e1
  have hr := kd_room hD
  by_cases h0 : (f_X1_hasLine_17 x i).toInt = 0
  · rw [if_pos h0] at e1
    rw [← kt_isLine hL, if_pos h0] at e2
    cases e1; cases e2
    exact ⟨hD, rfl⟩
  · have hi := kd_lineIn i h0
    rw [if_neg h0] at e1
    rw [← kt_isLine hL, if_neg h0] at e2
    by_cases h1 : (f_X8_has m (m.1 0 25) i).toInt = 0
    · rw [if_pos h1] at e1 e2
      by_cases h2 : (f_X5_hasRoomFor_4 x 1).toInt = 0
      · rw [if_pos h2] at e1
        rw [if_pos (hr.mp h2)] at e2
        cases e1; cases e2
        exact ⟨hD, rfl⟩
      · have h3 : ¬ (m.1 0 27).toInt = (40 : Int32).toInt := fun z => h2 (hr.mpr z)
        rw [if_neg h2] at e1
        rw [if_neg h3] at e2
        have q40 : (40 : Int32).toInt = 40 := rfl
        have d2 := hD.2.1
        have h39 : (x.1 4 3).toInt ≤ 39 := by have e43 := congrArg Int32.toInt hD.1; omega
        obtain ⟨a1, a2, a3, a4, a5⟩ := kd_deed hL hD h39 i ⟨hi.1, Or.inl hi.2⟩ (kd_mturn hL hD h39 i hi.1 hi.2)
        obtain ⟨r1, s1⟩ := Prod.mk.inj e1
        obtain ⟨r2, s2⟩ := Prod.mk.inj e2
        rw [← s1] at a1 a2 r1
        rw [← s2] at a1 a2 r2
        refine ⟨a2, ?_⟩
        have cn := kw_clampI a2.2.1.1
        obtain ⟨-, g2, -⟩ := kd_run_ok a1.2.1.2 (s.1 18) (s.1 4 3).toNatClampNeg (by have := a2.2.1.2; omega) a2.2.2.2.1
        rw [← a2.2.2.1] at g2
        rw [r1, r2, show t.1 0 25 = s.1 4 4 from a2.2.2.2.2.1.2.2.2.1]
        exact kd_bits _ _ _ g2.1 g2.2
    · rw [if_neg h1] at e1 e2
      cases e1; cases e2
      exact ⟨hD, rfl⟩
theorem kr_take {x m s t : kw_S} {r q : Int32} (hL : kr_L x m) (hD : kr_D x m) (i : Int32) (e1 : (r, s) = f_X7_take_0 x i) (e2 : (q, t) = f_X8_take_0 m i) : kr_D s t ∧ r = q := by
  rw [f_X7_take_0_u] at e1
  rw [f_X8_take_0_u] at e2
  simp only [kf_lx] at e1 e2
  rw [kd_isHung hD] at e1
  have hr := kd_room hD
  by_cases h0 : (f_X1_hasLine_17 x i).toInt = 0
  · rw [if_pos h0] at e1
    rw [← kt_isLine hL, if_pos h0] at e2
    cases e1; cases e2
    exact ⟨hD, rfl⟩
  · have hi := kd_lineIn i h0
    rw [if_neg h0] at e1
    rw [← kt_isLine hL, if_neg h0] at e2
    by_cases h1 : (f_X8_has m (m.1 0 25) i).toInt = 0
    · rw [if_pos h1] at e1 e2
      cases e1; cases e2
      exact ⟨hD, rfl⟩
    · rw [if_neg h1] at e1 e2
      by_cases h2 : (f_X5_hasRoomFor_4 x 1).toInt = 0
      · rw [if_pos h2] at e1
        rw [if_pos (hr.mp h2)] at e2
        cases e1; cases e2
        exact ⟨hD, rfl⟩
      · have h3 : ¬ (m.1 0 27).toInt = (40 : Int32).toInt := fun z => h2 (hr.mpr z)
        rw [if_neg h2] at e1
        rw [if_neg h3] at e2
        have q40 : (40 : Int32).toInt = 40 := rfl
        have d2 := hD.2.1
        have h39 : (x.1 4 3).toInt ≤ 39 := by have e43 := congrArg Int32.toInt hD.1; omega
        obtain ⟨a1, a2, a3, a4, a5⟩ := kd_deed hL hD h39 i ⟨hi.1, Or.inl hi.2⟩ (kd_mturn hL hD h39 i hi.1 hi.2)
        obtain ⟨r1, s1⟩ := Prod.mk.inj e1
        obtain ⟨r2, s2⟩ := Prod.mk.inj e2
        rw [← s1] at a1 a2 a4 r1
        rw [← s2] at a1 a2 r2
        refine ⟨a2, ?_⟩
        have ci := kw_clampI hi.1
        have e17 : s.1 17 5 = x.1 17 5 := by rw [(a4 17 (by decide)).1]
        rw [r1, r2]
        exact (a2.2.2.2.2.1.2.2.2.2 i.toNatClampNeg (by rw [e17]; omega)).symm
theorem kp_part1 (S : kw_S) (z : Int64) : kw_FM [2003, 2004] S (f_X8_part_0 S z 1).2 ∧ (f_X8_part_0 S z 1).1 = 1 := by
  have L : ∀ (a : Int64), kw_FM [2003, 2004] S (l_X8_part_0_17 z 1 S 2 a 1).2 ∧ (l_X8_part_0_17 z 1 S 2 a 1).1 = 1 := by
    intro a
    rw [l_X8_part_0_17_s]
    simp only [kf_lx]
    have h := kw_lcmpI 1 0
    rw [if_neg (show ¬ (lg_cmp 1 0).toInt = 0 from fun q => absurd (h.2.2.mp q) (by decide)), l_X8_part_0_17_s]
    simp only [kf_lx]
    have e : a - a / 1 * 1 = 0 := by rw [Int64.div_one, Int64.mul_one, Int64.sub_self]
    rw [e]
    have h2 := kw_lcmpI 0 0
    rw [if_pos (h2.2.2.mpr rfl)]
    exact ⟨kw_FM_ul0 (kw_FM_ul0 kw_FM.rf (by decide)) (by decide), rfl⟩
  rw [f_X8_part_0_u]
  simp only [kf_lx]
  have f : ((if 0 ≤ (1 : Int64).toInt then (1 : Int64).toInt else -(1 : Int64).toInt)).toNat + 1 = 2 := by decide
  rw [f]
  by_cases h : (lg_cmp z 0).toInt < 0
  · rw [if_pos h]; exact L _
  · rw [if_neg h]; exact L _
theorem kr_hour {x m s t : kw_S} {r q : Int32} (hL : kr_L x m) (hD : kr_D x m) (e1 : (r, s) = f_X7_hour_0 x) (e2 : (q, t) = f_X8_hour_0 m) : kr_D s t ∧ r = q := by
  rw [f_X7_hour_0_u, f_X5_isEmpty_4_u] at e1
  rw [f_X8_hour_0_u] at e2
  simp only [kf_lx, kf_bx] at e1 e2
  have hr := kd_room hD
  have l2 := hL.2.1
  by_cases h0 : (x.1 17 5).toInt < (1 : Int32).toInt
  · have h0' : (x.1 17 5).toInt < 1 := h0
    simp only [if_pos h0] at e1
    rw [if_neg (by decide)] at e1
    rw [← hL.1, if_pos (show (x.1 17 5).toInt = 0 by omega)] at e2
    cases e1; cases e2
    exact ⟨hD, rfl⟩
  · have h0' : ¬ (x.1 17 5).toInt < 1 := h0
    simp only [if_neg h0] at e1
    rw [if_pos (show (0 : Int32).toInt = 0 from rfl)] at e1
    rw [← hL.1, if_neg (show ¬ (x.1 17 5).toInt = 0 by omega)] at e2
    by_cases h2 : (f_X5_hasRoomFor_4 x 1).toInt = 0
    · rw [if_pos h2] at e1
      rw [if_pos (hr.mp h2)] at e2
      cases e1; cases e2
      exact ⟨hD, rfl⟩
    · have h3 : ¬ (m.1 0 27).toInt = (40 : Int32).toInt := fun z => h2 (hr.mpr z)
      rw [if_neg h2] at e1
      rw [if_neg h3] at e2
      have q40 : (40 : Int32).toInt = 40 := rfl
      have d2 := hD.2.1
      have h39 : (x.1 4 3).toInt ≤ 39 := by have e43 := congrArg Int32.toInt hD.1; omega
      obtain ⟨a1, a2, -, -, -⟩ := kd_deed hL hD h39 6 ⟨by decide, Or.inr rfl⟩ (kd_mhour hL hD h39)
      obtain ⟨r1, s1⟩ := Prod.mk.inj e1
      obtain ⟨r2, s2⟩ := Prod.mk.inj e2
      refine ⟨?_, by rw [r1, r2]; rfl⟩
      refine a2.fr a1 (L := [8]) (L' := [1002, 2003, 2004]) ?_ ?_ (by decide) (by decide)
      · rw [s1]
        show kw_F [8] _ (kw_ui (kw_ul (kw_ul _ 8 3 _) 8 4 1) 8 2 _)
        exact kw_F_ui (kw_F_ul (kw_F_ul kw_F.rf (by decide)) (by decide)) (by decide)
      · rw [s2]
        show kw_FM _ _ (kw_ui _ 0 2 _)
        exact kw_FM_ui0 (kw_FM.tr kw_FM.rf (kp_part1 _ _).1 (by decide)) (by decide)
theorem kr_undo {x m s t : kw_S} {r q : Int32} (hL : kr_L x m) (hD : kr_D x m) (n : Int32) (e1 : (r, s) = f_X7_undo_0 x n) (e2 : (q, t) = f_X8_undo_0 m n) : kr_D s t ∧ r = q := by
  rw [f_X7_undo_0_u] at e1
  rw [f_X8_undo_0_u] at e2
  simp only [kf_lx, kp_in] at e1 e2
  rw [← hD.1] at e2
  have l2 := hL.2.1
  obtain ⟨d1, d2, d3, d4, d5, d6, d7⟩ := id hD
  have cn := kw_clampI d2.1
  by_cases h0 : (0 : Int32).toInt ≤ n.toInt ∧ n.toInt ≤ (x.1 4 3).toInt
  · have h0' : 0 ≤ n.toInt ∧ n.toInt ≤ (x.1 4 3).toInt := h0
    have c := kw_clampI h0'.1
    rw [if_neg (by omega), if_neg (by omega)] at e1
    simp only [if_pos h0] at e2
    rw [if_neg (show ¬ (1 : Int32).toInt = 0 by decide)] at e2
    have es : (x.1 4 3 - n).toInt = (x.1 4 3).toInt - n.toInt := by rw [kw_subI]; omega
    obtain ⟨r1, r2, r3⟩ := kd_run_ok l2.2 (x.1 18) (x.1 4 3).toNatClampNeg (by omega) d4
    rw [← d3] at r3
    obtain ⟨a1, a2, a3, a4⟩ := kd_replay x n h0'.1 (by omega) (fun j hj => (r3 j).2 hj)
    obtain ⟨re1, se1⟩ := Prod.mk.inj e1
    rw [← se1] at a1 a2 a3 a4
    have lay : kd_lay x s := kd_lay.of a4 (by decide)
    have e17 : s.1 17 5 = x.1 17 5 := by rw [lay 17 (Or.inl rfl)]
    have fin : ∀ t : kw_S, kw_FM [14, 1022, 1023, 1024, 1025, 1027] m t → t.1 0 27 = n → kd_cur t (kd_get s) (x.1 17 5).toInt → kr_D s t := by
      intro t F h27 hc
      refine ⟨by rw [a1, h27], by rw [a1]; omega, ?_, ?_, by rw [e17]; exact hc, ?_, fun k hk => (d7 k hk).to l2.2 lay (by rw [(a4 21 (by decide)).1]) ((a4 (49 + k) (by simp; omega)).1) (by rw [F.1 16 (by decide) (by decide)]) (fun j _ => by rw [F.1 17 (by decide) (by decide)])⟩
      · rw [a1, a2, kd_run_cong lay _ (fun _ _ => rfl)]; exact a3
      · rw [a1, a2]
        intro d hd
        rw [e17]
        exact d4 d (by omega)
      · intro d hd
        rw [a1] at hd
        rw [a2, e17, kd_run_cong lay _ (fun _ _ => rfl)]
        exact (d6 d (by omega)).to l2.2 15 (fun j _ => by rw [F.1 15 (by decide) (by decide)])
    by_cases h1 : 0 < (x.1 4 3 - n).toInt
    · rw [if_pos h1] at e2
      obtain ⟨p1, p2⟩ := kp_mul 10 10 n rfl (by decide) h0'.1 (by omega)
      obtain ⟨b1, b2, b3, b4, b5, b6⟩ := kd_read15 m (10 * n) (by rw [p2]; omega) (by rw [p2]; omega)
      rw [p1] at b2 b3 b4 b5 b6
      generalize f_X8_read_0_15 m (10 * n) = U at *
      obtain ⟨re2, se2⟩ := Prod.mk.inj e2
      refine ⟨fin t (by rw [se2]; exact kw_FM_ui0 (kw_FM.tr kw_FM.rf b1 (by decide)) (by decide)) (by rw [se2]; simp [kp_ui]) ?_, by rw [re1, re2]⟩
      have ha := d6 n.toNatClampNeg (by omega)
      rw [a3, se2]
      refine ⟨?_, ?_, ?_, ?_, fun i hi => ?_⟩
      · rw [kp_ui, if_neg (by decide), b2]; exact ha.1
      · rw [kp_ui, if_neg (by decide), b3]; exact ha.2.1
      · rw [kp_ui, if_neg (by decide), b4]; exact ha.2.2.1
      · rw [kp_ui, if_neg (by decide), b5]; exact ha.2.2.2.1
      · rw [kp_ui, if_neg (by omega), b6 i (by omega)]; exact ha.2.2.2.2 i hi
    · rw [if_neg h1] at e2
      obtain ⟨re2, se2⟩ := Prod.mk.inj e2
      have en : n = x.1 4 3 := Int32.toInt_inj.mp (by omega)
      refine ⟨fin t (by rw [se2]; exact kw_FM.rf) (by rw [se2, en]; exact d1.symm) ?_, by rw [re1, re2]⟩
      rw [se2, a3, en, ← d3]
      exact d5
  · have h0' : ¬ (0 ≤ n.toInt ∧ n.toInt ≤ (x.1 4 3).toInt) := h0
    simp only [if_neg h0] at e2
    rw [if_pos (show (0 : Int32).toInt = 0 from rfl)] at e2
    cases e2
    by_cases h1 : n.toInt < 0
    · rw [if_pos h1] at e1
      cases e1
      exact ⟨hD, rfl⟩
    · rw [if_neg h1, if_pos (by omega)] at e1
      cases e1
      exact ⟨hD, rfl⟩
