/-! ===== towns kept, gone on from; days by lots ===== -/
theorem kd_keepL {x : kw_S} (k : Int32) (hk0 : 0 ≤ k.toInt) (hk1 : k.toInt < 3) (c0 : 0 ≤ (x.1 4 3).toInt) (c1 : (x.1 4 3).toInt ≤ 40) : ∀ (n : Nat) (y : Int32) (S : kw_S), 0 ≤ y.toInt → y.toInt ≤ (x.1 4 3).toInt → S.1 4 = x.1 4 → S.1 18 = x.1 18 → S.1 21 k.toNatClampNeg = x.1 4 3 → (∀ j : Nat, -1 ≤ (S.1 21 j).toInt ∧ (S.1 21 j).toInt ≤ 40) → (∀ d : Nat, (d : Int) < y.toInt → S.1 (49 + k.toNatClampNeg) d = x.1 18 d) → (40 - y.toInt).toNat < n → ∃ S' : kw_S, l_X7_keep_0_44 k n y S = (x.1 4 3, S') ∧ (∀ a : Nat, a ≠ 49 + k.toNatClampNeg → S'.1 a = S.1 a) ∧ ∀ d : Nat, (d : Int) < (x.1 4 3).toInt → S'.1 (49 + k.toNatClampNeg) d = x.1 18 d := by
  intro n
  induction n with
  | zero => intro y S _ _ _ _ _ _ _ h; exact absurd h (Nat.not_lt_zero _)
  | succ n ih =>
    intro y S y0 y1 s4 s18 s21 hb hd hm
    have cy := kw_clampI y0
    have ck := kw_clampI hk0
    rw [l_X7_keep_0_44_s, s4]
    by_cases hy : y.toInt < (x.1 4 3).toInt
    · have z := kp_inc y (by omega)
      rw [if_pos hy]
      simp only [kf_lx]
      rw [kp_change5 S hb, if_pos (show 0 ≤ k.toInt ∧ k.toInt < 3 ∧ 0 ≤ y.toInt ∧ y.toInt < (S.1 21 k.toNatClampNeg).toInt by rw [s21]; omega)]
      obtain ⟨S', e1, e2, e3⟩ := ih (y + Int32.ofInt 1) (kw_ui S (49 + k.toNatClampNeg) y.toNatClampNeg (S.1 18 y.toNatClampNeg)) (by omega) (by omega) (by rw [← s4]; funext j; rw [kp_ui, if_neg (by omega)]) (by rw [← s18]; funext j; rw [kp_ui, if_neg (by omega)]) (by rw [← s21, kp_ui, if_neg (by omega)]) (fun j => by rw [kp_ui, if_neg (by omega)]; exact hb j) (fun d hd2 => by
        rw [kp_ui]
        by_cases e : d = y.toNatClampNeg
        · rw [if_pos ⟨rfl, e⟩, s18, e]
        · rw [if_neg (fun q => e q.2)]; exact hd d (by omega)) (by omega)
      refine ⟨S', e1, fun a ha => ?_, e3⟩
      rw [e2 a ha]
      funext j
      rw [kp_ui, if_neg (fun q => ha q.1)]
    · rw [if_neg hy]
      exact ⟨S, rfl, fun _ _ => rfl, fun d hd2 => hd d (by omega)⟩
theorem kd_mkeepL {m : kw_S} (k p : Int32) (hk0 : 0 ≤ k.toInt) (hk1 : k.toInt < 3) (hp : p.toInt = 411 * k.toInt) (c0 : 0 ≤ (m.1 0 27).toInt) (c1 : (m.1 0 27).toInt ≤ 40) : ∀ (n : Nat) (y : Int32) (S : kw_S), 0 ≤ y.toInt → y.toInt ≤ 10 * (m.1 0 27).toInt → kw_FM [17] m S → (∀ j : Nat, (j : Int) < y.toInt → S.1 17 (411 * k.toNatClampNeg + j) = m.1 15 j) → (∀ j : Nat, j < 411 * k.toNatClampNeg ∨ 411 * k.toNatClampNeg + 411 ≤ j → S.1 17 j = m.1 17 j) → (400 - y.toInt).toNat < n → ∃ S' : kw_S, l_X8_keep_0_29 k p n y S = (m.1 0 27, S') ∧ kw_FM [16, 17] m S' ∧ (∀ j : Nat, (j : Int) < 10 * (m.1 0 27).toInt → S'.1 17 (411 * k.toNatClampNeg + j) = m.1 15 j) ∧ (∀ j : Nat, j < 411 * k.toNatClampNeg ∨ 411 * k.toNatClampNeg + 411 ≤ j → S'.1 17 j = m.1 17 j) ∧ S'.1 17 (411 * k.toNatClampNeg + 410) = m.1 0 27 ∧ (S'.1 17 (411 * k.toNatClampNeg + 400) = m.1 0 22 ∧ S'.1 17 (411 * k.toNatClampNeg + 400 + 1) = m.1 0 23 ∧ S'.1 17 (411 * k.toNatClampNeg + 400 + 2) = m.1 0 24 ∧ S'.1 17 (411 * k.toNatClampNeg + 400 + 3) = m.1 0 25 ∧ ∀ i : Nat, i < 6 → S'.1 17 (411 * k.toNatClampNeg + 400 + 4 + i) = m.1 14 i) ∧ S'.1 16 k.toNatClampNeg = 1 ∧ ∀ j : Nat, j ≠ k.toNatClampNeg → S'.1 16 j = m.1 16 j := by
  intro n
  induction n with
  | zero => intro y S _ _ _ _ _ h; exact absurd h (Nat.not_lt_zero _)
  | succ n ih =>
    intro y S y0 y1 hF hd ho hm
    have cy := kw_clampI y0
    have ck := kw_clampI hk0
    have cp := kw_clampI (x := p) (by omega)
    have ep : p.toNatClampNeg = 411 * k.toNatClampNeg := by omega
    have s27 : S.1 0 27 = m.1 0 27 := hF.2.1 27 (by decide)
    obtain ⟨-, t2⟩ := kp_mul 10 10 (m.1 0 27) rfl (by decide) c0 (by omega)
    have t2' : ((10 : Int32) * m.1 0 27).toInt = 10 * (m.1 0 27).toInt := t2
    rw [l_X8_keep_0_29_s]
    simp only [kf_lx]
    rw [s27]
    by_cases hy : y.toInt < ((10 : Int32) * m.1 0 27).toInt
    · have z := kp_inc y (by omega)
      rw [if_pos hy]
      have e5 : (p + y).toInt = p.toInt + y.toInt := by rw [kw_addI]; omega
      have c5 := kw_clampI (x := p + y) (by omega)
      have i5 : (p + y).toNatClampNeg = 411 * k.toNatClampNeg + y.toNatClampNeg := by omega
      have s15 : S.1 15 = m.1 15 := hF.1 15 (by decide) (by decide)
      rw [i5]
      refine ih (y + Int32.ofInt 1) (kw_ui S 17 (411 * k.toNatClampNeg + y.toNatClampNeg) (S.1 15 y.toNatClampNeg)) (by omega) (by omega) (kw_FM_ui hF (by decide) (by decide)) (fun j hj => ?_) (fun j hj => ?_) (by omega)
      · rw [kp_ui]
        by_cases e : j = y.toNatClampNeg
        · rw [if_pos ⟨rfl, by omega⟩, s15, e]
        · rw [if_neg (by omega)]; exact hd j (by omega)
      · rw [kp_ui, if_neg (by omega)]; exact ho j hj
    · rw [if_neg hy]
      have i4 := kp_off p 400 400 rfl (by omega) (by omega) (by decide)
      have i41 := kp_off p 410 410 rfl (by omega) (by omega) (by decide)
      have e4 : (p + 400).toInt = p.toInt + 400 := by rw [kw_addI, show (400 : Int32).toInt = 400 from rfl]; omega
      obtain ⟨a1, a2, a3, a4, a5, a6, a7⟩ := kd_write17 S (p + 400) (by omega) (by omega)
      rw [i4, ep] at a2 a3 a4 a5 a6 a7
      rw [i41, ep]
      generalize f_X8_write_0_17 S (p + 400) = U at *
      have u27 : U.1 0 27 = m.1 0 27 := by rw [a1.2.1 27 (by decide), s27]
      rw [u27]
      have n17 : ∀ j : Nat, j ≠ 411 * k.toNatClampNeg + 410 → (kw_ui (kw_ui U 17 (411 * k.toNatClampNeg + 410) (m.1 0 27)) 16 k.toNatClampNeg 1).1 17 j = U.1 17 j := fun j hj => by rw [kp_ui, if_neg (by omega), kp_ui, if_neg (by omega)]
      refine ⟨_, rfl, kw_FM_ui (kw_FM_ui ((kw_FM.tr kw_FM.rf hF (by decide)).tr a1 (by decide)) (by decide) (by decide)) (by decide) (by decide), fun j hj => ?_, fun j hj => ?_, ?_, ⟨?_, ?_, ?_, ?_, fun i hi => ?_⟩, ?_, fun j hj => ?_⟩
      · rw [n17 _ (by omega), a7 _ (by omega)]; exact hd j (by omega)
      · rw [n17 _ (by omega), a7 _ (by omega)]; exact ho j hj
      · rw [kp_ui, if_neg (by omega), kp_ui, if_pos ⟨rfl, rfl⟩]
      · rw [n17 _ (by omega), a2, hF.2.1 22 (by decide)]
      · rw [n17 _ (by omega), a3, hF.2.1 23 (by decide)]
      · rw [n17 _ (by omega), a4, hF.2.1 24 (by decide)]
      · rw [n17 _ (by omega), a5, hF.2.1 25 (by decide)]
      · rw [n17 _ (by omega), a6 i hi, hF.1 14 (by decide) (by decide)]
      · rw [kp_ui, if_pos ⟨rfl, rfl⟩]
      · rw [kp_ui, if_neg (by omega), kp_ui, if_neg (by omega), a1.1 16 (by decide) (by decide), hF.1 16 (by decide) (by decide)]
theorem kr_keep {x m s t : kw_S} {r q : Int32} (hX : kw_I bX x) (hL : kr_L x m) (hD : kr_D x m) (k : Int32) (e1 : (r, s) = f_X7_keep_0 x k) (e2 : (q, t) = f_X8_keep_0 m k) : kr_D s t ∧ r = q := by
  rw [f_X7_keep_0_u, f_X5_isEmpty_4_u] at e1
  rw [f_X8_keep_0_u] at e2
  simp only [kf_lx, kp_has5] at e1
  simp only [kf_lx, kp_in] at e2
  have l2 := hL.2.1
  obtain ⟨d1, d2, d3, d4, d5, d6, d7⟩ := id hD
  have q2 : (2 : Int32).toInt = 2 := rfl
  by_cases hk : 0 ≤ k.toInt ∧ k.toInt < 3
  · have hk2 : (0 : Int32).toInt ≤ k.toInt ∧ k.toInt ≤ (2 : Int32).toInt := by rw [kp_q0]; omega
    simp only [if_pos hk] at e1
    simp only [if_pos hk2] at e2
    rw [if_neg (show ¬ (1 : Int32).toInt = 0 by decide)] at e1 e2
    by_cases h0 : (x.1 17 5).toInt < (1 : Int32).toInt
    · have h0' : (x.1 17 5).toInt < 1 := h0
      simp only [if_pos h0] at e1
      rw [if_neg (show ¬ (1 : Int32).toInt = 0 by decide)] at e1
      rw [← hL.1, if_pos (show (x.1 17 5).toInt = 0 by omega)] at e2
      cases e1; cases e2
      exact ⟨hD, rfl⟩
    · have h0' : ¬ (x.1 17 5).toInt < 1 := h0
      simp only [if_neg h0] at e1
      rw [if_pos (show (0 : Int32).toInt = 0 from rfl)] at e1
      rw [← hL.1, if_neg (show ¬ (x.1 17 5).toInt = 0 by omega)] at e2
      have ck := kw_clampI hk.1
      have cn := kw_clampI d2.1
      have hr : 40 ≤ (x.1 5 0).toInt ∧ (x.1 5 0).toInt ≤ 40 := hX 5 0
      rw [kp_make5 x (by omega) k (x.1 4 3) 0 hk.1 hk.2 d2.1 d2.2] at e1
      generalize hS3 : kw_ua (kw_ui x 21 k.toNatClampNeg (x.1 4 3)) (49 + k.toNatClampNeg) (fun j => if j < 40 then 0 else x.1 (49 + k.toNatClampNeg) j) = S3 at e1
      have f21 : ∀ j : Nat, S3.1 21 j = if j = k.toNatClampNeg then x.1 4 3 else x.1 21 j := fun j => by
        rw [← hS3, kp_ua, if_neg (by omega), kp_ui]
        by_cases e : j = k.toNatClampNeg
        · rw [if_pos ⟨rfl, e⟩, if_pos e]
        · rw [if_neg (fun q => e q.2), if_neg e]
      have fo : ∀ a : Nat, a ≠ 21 → a ≠ 49 + k.toNatClampNeg → S3.1 a = x.1 a := fun a h1 h2 => by
        funext j
        rw [← hS3, kp_ua, if_neg h2, kp_ui, if_neg (fun q => h1 q.1)]
      obtain ⟨S', g1, g2, g3⟩ := kd_keepL (x := x) k hk.1 hk.2 d2.1 d2.2 ((41 - (0 : Int32).toInt).toNat + 1) 0 S3 (by decide) (by rw [kp_q0]; exact d2.1) (fo 4 (by decide) (by omega)) (fo 18 (by decide) (by omega)) (by rw [f21, if_pos rfl]) (fun j => by
        rw [f21]
        by_cases e : j = k.toNatClampNeg
        · rw [if_pos e]; omega
        · rw [if_neg e]; exact hX 21 j) (fun d hd => by rw [kp_q0] at hd; omega) (by rw [kp_q0]; omega)
      rw [g1] at e1
      obtain ⟨p1, p2⟩ := kp_mul 411 411 k rfl (by decide) hk.1 (by omega)
      have e27 := congrArg Int32.toInt d1
      obtain ⟨T', m1, m2, m3, m4, m5, m6, m7, m8⟩ := kd_mkeepL (m := m) k (411 * k) hk.1 hk.2 p2 (by omega) (by omega) ((401 - (0 : Int32).toInt).toNat + 1) 0 m (by decide) (by rw [kp_q0]; omega) kw_FM.rf (fun j hj => by rw [kp_q0] at hj; omega) (fun _ _ => rfl) (by rw [kp_q0]; omega)
      rw [m1] at e2
      obtain ⟨r1, s1⟩ := Prod.mk.inj e1
      obtain ⟨r2, s2⟩ := Prod.mk.inj e2
      rw [← s1] at g2 g3
      rw [← s2] at m2 m3 m4 m5 m6 m7 m8
      have so : ∀ a : Nat, a ≠ 21 → a ≠ 49 + k.toNatClampNeg → s.1 a = x.1 a := fun a h1 h2 => by rw [g2 a h2, fo a h1 h2]
      have s21 : ∀ j : Nat, s.1 21 j = if j = k.toNatClampNeg then x.1 4 3 else x.1 21 j := fun j => by rw [g2 21 (by omega), f21]
      have lay : kd_lay x s := fun b hb => so b (by omega) (by omega)
      have e17 : s.1 17 5 = x.1 17 5 := by rw [lay 17 (Or.inl rfl)]
      have e4 := so 4 (by decide) (by omega)
      have e18 := so 18 (by decide) (by omega)
      have eg : kd_get s = kd_get x := by unfold kd_get; rw [e4, so 19 (by decide) (by omega)]
      refine ⟨⟨by rw [e4, m2.2.1 27 (by decide)]; exact d1, by rw [e4]; exact d2, ?_, ?_, ?_, ?_, fun j hj => ?_⟩, by rw [r1, r2]; exact d1⟩
      · rw [eg, e4, e18, kd_run_cong lay _ (fun _ _ => rfl)]; exact d3
      · rw [e4, e18]
        intro d hd
        rw [e17]
        exact d4 d hd
      · rw [eg, e17]
        exact d5.to (m2.2.1 22 (by decide)) (m2.2.1 23 (by decide)) (m2.2.1 24 (by decide)) (m2.2.1 25 (by decide)) (m2.1 14 (by decide) (by decide))
      · intro d hd
        rw [e4] at hd
        rw [e17, e18, kd_run_cong lay _ (fun _ _ => rfl)]
        exact (d6 d hd).to l2.2 15 (fun j _ => by rw [m2.1 15 (by decide) (by decide)])
      · by_cases e : j = k.toNatClampNeg
        · subst e
          have run : ∀ d : Nat, d ≤ (x.1 4 3).toNatClampNeg → kd_run s (s.1 (49 + k.toNatClampNeg)) d = kd_run x (x.1 18) d := fun d hd => kd_run_cong lay d (fun q hq => g3 q (by omega))
          have ss : s.1 21 k.toNatClampNeg = x.1 4 3 := by rw [s21, if_pos rfl]
          refine Or.inr ⟨m7, by rw [ss]; exact d2, by rw [ss, m5]; exact d1.symm, ?_, ?_, ?_⟩
          · rw [ss]
            intro d hd
            rw [e17, g3 d (by omega)]
            exact d4 d hd
          · rw [ss, e17, run _ (Nat.le_refl _), ← d3]
            obtain ⟨v1, v2, v3, v4, v5⟩ := m6
            refine ⟨v1.trans d5.1, v2.trans d5.2.1, v3.trans d5.2.2.1, v4.trans d5.2.2.2.1, fun i hi => (v5 i (by omega)).trans (d5.2.2.2.2 i hi)⟩
          · intro d hd
            rw [ss] at hd
            rw [e17, run d (by omega)]
            exact (d6 d hd).to l2.2 17 (fun j hj => by rw [Nat.add_assoc]; exact m3 (10 * d + j) (by omega))
        · exact (d7 j hj).to l2.2 lay (by rw [s21, if_neg e]) (so (49 + j) (by omega) (by omega)) (m8 j e) (fun i hi => m4 _ (by omega))
  · have hk2 : ¬ ((0 : Int32).toInt ≤ k.toInt ∧ k.toInt ≤ (2 : Int32).toInt) := by rw [kp_q0]; omega
    simp only [if_neg hk] at e1
    simp only [if_neg hk2] at e2
    rw [if_pos (show (0 : Int32).toInt = 0 from rfl)] at e1 e2
    cases e1; cases e2
    exact ⟨hD, rfl⟩
