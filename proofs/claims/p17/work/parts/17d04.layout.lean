/-! ===== the town's lines and winds: the class's layout (17) and the reference's rows ===== -/
def kr_L (x m : kw_S) : Prop := x.1 17 5 = m.1 0 10 ∧ (0 ≤ (x.1 17 5).toInt ∧ (x.1 17 5).toInt ≤ 6) ∧ ((x.1 17 5).toInt = 0 ∧ x.1 17 6 = 0 ∧ m.1 0 11 = 1 ∧ m.1 7 0 = 0 ∨ 1 ≤ (x.1 17 5).toInt ∧ x.1 17 6 = m.1 0 11 ∧ 1 ≤ (x.1 17 6).toInt ∧ (x.1 17 6).toInt ≤ 8 ∧ ∀ j : Nat, (j : Int) < (x.1 17 6).toInt → x.1 48 j = m.1 7 j ∧ 0 ≤ (x.1 48 j).toInt ∧ (x.1 48 j).toInt ≤ 5) ∧ ∀ i : Nat, (i : Int) < (x.1 17 5).toInt → x.1 44 i = m.1 8 i ∧ x.1 45 i = m.1 9 i ∧ x.1 46 i = m.1 10 i ∧ x.1 47 i = m.1 11 i ∧ (0 ≤ (x.1 44 i).toInt ∧ (x.1 44 i).toInt ≤ 5) ∧ (-4 ≤ (x.1 45 i).toInt ∧ (x.1 45 i).toInt ≤ 4) ∧ (1 ≤ (x.1 46 i).toInt ∧ (x.1 46 i).toInt ≤ 9) ∧ 0 ≤ (x.1 47 i).toInt ∧ (x.1 47 i).toInt ≤ 9
theorem kr_L.cong {x x' m m' : kw_S} (h : kr_L x m) (hx : ∀ a : Nat, a = 17 ∨ 44 ≤ a ∧ a ≤ 48 → x'.1 a = x.1 a) (hm : ∀ a : Nat, 7 ≤ a ∧ a ≤ 11 → m'.1 a = m.1 a) (h10 : m'.1 0 10 = m.1 0 10) (h11 : m'.1 0 11 = m.1 0 11) : kr_L x' m' := by
  unfold kr_L
  rw [hx 17 (Or.inl rfl), hx 44 (by omega), hx 45 (by omega), hx 46 (by omega), hx 47 (by omega), hx 48 (by omega), hm 7 (by omega), hm 8 (by omega), hm 9 (by omega), hm 10 (by omega), hm 11 (by omega), h10, h11]
  exact h
theorem kr_L.fr {L L' : List Nat} {x x' m m' : kw_S} (h : kr_L x m) (F1 : kw_F L x x') (F2 : kw_FM L' m m') (h1 : ∀ a ∈ L, ¬ (a = 17 ∨ 44 ≤ a ∧ a ≤ 48)) (h2 : ∀ a ∈ L', ¬ (7 ≤ a ∧ a ≤ 11) ∧ a ≠ 1010 ∧ a ≠ 1011) : kr_L x' m' :=
  h.cong (fun a ha => (F1 a (fun q => h1 a q ha)).1) (fun a ha => F2.1 a (by omega) (fun q => (h2 a q).1 ha)) (F2.2.1 10 (fun q => (h2 _ q).2.1 rfl)) (F2.2.1 11 (fun q => (h2 _ q).2.2 rfl))
theorem kr_L.mix {σ s t : kw_S} (h : kr_L s t) : kr_L (kw_mixM (kw_mixX σ s) t) t :=
  h.cong (fun a ha => by simp [kw_mixM, kw_mixX, show a < 61 by omega]) (fun _ _ => rfl) rfl rfl
/-! the reference's own loops of town() -/
theorem kt_tw183 (a b : Int32) : ∀ (n : Nat) (x : Int32) (S : kw_S), 0 ≤ x.toInt → x.toInt ≤ 3 → (∀ k : Nat, (k : Int) < x.toInt → S.1 16 k = 0) → (3 - x.toInt).toNat < n → ∃ S' : kw_S, l_X8_town_0_183 a b n x S = (S.1 0 10, S') ∧ kw_FM [16] S S' ∧ ∀ k : Nat, k < 3 → S'.1 16 k = 0 := by
  intro n
  induction n with
  | zero => intro x S _ _ _ h; exact absurd h (Nat.not_lt_zero _)
  | succ n ih =>
    intro x S h0 h1 hk h2
    have c := kw_clampI h0
    rw [l_X8_town_0_183_s]
    by_cases hx : x.toInt < 3
    · have z := kp_inc x (by omega)
      rw [if_pos (show x.toInt < (3 : Int32).toInt from hx)]
      simp only [kf_lx]
      obtain ⟨S', e1, e2, e3⟩ := ih (x + Int32.ofInt 1) (kw_ui S 16 x.toNatClampNeg 0) (by omega) (by omega) (fun k hk2 => by
        rw [kp_ui]
        by_cases e : k = x.toNatClampNeg
        · rw [if_pos ⟨rfl, e⟩]
        · rw [if_neg (fun q => e q.2)]; exact hk k (by omega)) (by omega)
      refine ⟨S', ?_, kw_FM.tr (kw_FM_ui kw_FM.rf (by decide) (by decide)) e2 (fun _ h => h), e3⟩
      rw [e1, show (kw_ui S 16 x.toNatClampNeg 0).1 0 10 = S.1 0 10 by simp [kp_ui]]
    · rw [if_neg (show ¬ x.toInt < (3 : Int32).toInt from hx)]
      exact ⟨S, rfl, kw_FM.rf, fun k hk2 => hk k (by omega)⟩
def kt_Q (S R : kw_S) (i : Nat) : Prop := S.1 8 i = R.1 13 (4 * i) ∧ S.1 9 i = R.1 13 (4 * i + 1) - 4 ∧ S.1 10 i = R.1 13 (4 * i + 2) ∧ S.1 11 i = R.1 13 (4 * i + 3) ∧ S.1 14 i = 0
theorem kt_tw71 (a b : Int32) (R : kw_S) : ∀ (n : Nat) (x : Int32) (S : kw_S), 0 ≤ x.toInt → x.toInt ≤ (S.1 0 10).toInt → (S.1 0 10).toInt ≤ 6 → kw_FM [8, 9, 10, 11, 14] R S → (∀ i : Nat, (i : Int) < x.toInt → kt_Q S R i) → (6 - x.toInt).toNat < n → ∃ S' : kw_S, l_X8_town_0_71 a b n x S = l_X8_town_0_183 a b ((4 - (0 : Int32).toInt).toNat + 1) (0 : Int32) (kw_ui (kw_ui (kw_ui (kw_ui (kw_ui S' 0 22 0) 0 23 0) 0 24 0) 0 25 0) 0 27 0) ∧ kw_FM [8, 9, 10, 11, 14] R S' ∧ ∀ i : Nat, (i : Int) < (S.1 0 10).toInt → kt_Q S' R i := by
  intro n
  induction n with
  | zero => intro x S _ _ _ _ _ h; exact absurd h (Nat.not_lt_zero _)
  | succ n ih =>
    intro x S h0 h1 h6 hF hq h2
    have c := kw_clampI h0
    rw [l_X8_town_0_71_s]
    by_cases hx : x.toInt < (S.1 0 10).toInt
    · have z := kp_inc x (by omega)
      rw [if_pos hx]
      simp only [kf_lx]
      obtain ⟨i0, i1, i2, i3⟩ := kt_idx4 x h0 (by omega)
      rw [i0, i1, i2, i3]
      have r13 : S.1 13 = R.1 13 := hF.1 13 (by decide) (by decide)
      generalize hS1 : kw_ui (kw_ui (kw_ui (kw_ui (kw_ui S 8 x.toNatClampNeg (S.1 13 (4 * x.toNatClampNeg))) 9 x.toNatClampNeg ((kw_ui S 8 x.toNatClampNeg (S.1 13 (4 * x.toNatClampNeg))).1 13 (4 * x.toNatClampNeg + 1) - 4)) 10 x.toNatClampNeg ((kw_ui (kw_ui S 8 x.toNatClampNeg (S.1 13 (4 * x.toNatClampNeg))) 9 x.toNatClampNeg ((kw_ui S 8 x.toNatClampNeg (S.1 13 (4 * x.toNatClampNeg))).1 13 (4 * x.toNatClampNeg + 1) - 4)).1 13 (4 * x.toNatClampNeg + 2))) 11 x.toNatClampNeg ((kw_ui (kw_ui (kw_ui S 8 x.toNatClampNeg (S.1 13 (4 * x.toNatClampNeg))) 9 x.toNatClampNeg ((kw_ui S 8 x.toNatClampNeg (S.1 13 (4 * x.toNatClampNeg))).1 13 (4 * x.toNatClampNeg + 1) - 4)) 10 x.toNatClampNeg ((kw_ui (kw_ui S 8 x.toNatClampNeg (S.1 13 (4 * x.toNatClampNeg))) 9 x.toNatClampNeg ((kw_ui S 8 x.toNatClampNeg (S.1 13 (4 * x.toNatClampNeg))).1 13 (4 * x.toNatClampNeg + 1) - 4)).1 13 (4 * x.toNatClampNeg + 2))).1 13 (4 * x.toNatClampNeg + 3))) 14 x.toNatClampNeg 0 = S1
      have m10 : S1.1 0 10 = S.1 0 10 := by rw [← hS1]; simp [kp_ui]
      have F1 : kw_FM [8, 9, 10, 11, 14] R S1 := by
        rw [← hS1]
        exact kw_FM_ui (kw_FM_ui (kw_FM_ui (kw_FM_ui (kw_FM_ui hF (by decide) (by decide)) (by decide) (by decide)) (by decide) (by decide)) (by decide) (by decide)) (by decide) (by decide)
      obtain ⟨S', e1, e2, e3⟩ := ih (x + Int32.ofInt 1) S1 (by omega) (by rw [m10]; omega) (by rw [m10]; exact h6) F1 (fun i hi => by
        by_cases e : i = x.toNatClampNeg
        · subst e
          rw [← hS1]
          unfold kt_Q
          simp [kp_ui, r13]
        · obtain ⟨g1, g2, g3, g4, g5⟩ := hq i (by omega)
          rw [← hS1]
          unfold kt_Q
          simp [kp_ui, e, g1, g2, g3, g4, g5]) (by omega)
      exact ⟨S', e1, e2, by rw [m10] at e3; exact e3⟩
    · rw [if_neg hx]
      exact ⟨S, rfl, hF, fun i hi => hq i (by omega)⟩
theorem kt_tw43 (a b : Int32) (R : kw_S) : ∀ (n : Nat) (x : Int32) (S : kw_S), 0 ≤ x.toInt → x.toInt ≤ (S.1 0 11).toInt → (S.1 0 11).toInt ≤ 8 → kw_FM [7] R S → (∀ j : Nat, (j : Int) < x.toInt → S.1 7 j = R.1 12 j) → (8 - x.toInt).toNat < n → ∃ S' : kw_S, l_X8_town_0_43 a b n x S = l_X8_town_0_71 a b ((7 - (0 : Int32).toInt).toNat + 1) (0 : Int32) S' ∧ kw_FM [7] R S' ∧ ∀ j : Nat, (j : Int) < (S.1 0 11).toInt → S'.1 7 j = R.1 12 j := by
  intro n
  induction n with
  | zero => intro x S _ _ _ _ _ h; exact absurd h (Nat.not_lt_zero _)
  | succ n ih =>
    intro x S h0 h1 h8 hF hq h2
    have c := kw_clampI h0
    rw [l_X8_town_0_43_s]
    by_cases hx : x.toInt < (S.1 0 11).toInt
    · have z := kp_inc x (by omega)
      rw [if_pos hx]
      simp only [kf_lx]
      have r12 : S.1 12 = R.1 12 := hF.1 12 (by decide) (by decide)
      have m11 : (kw_ui S 7 x.toNatClampNeg (S.1 12 x.toNatClampNeg)).1 0 11 = S.1 0 11 := by simp [kp_ui]
      obtain ⟨S', e1, e2, e3⟩ := ih (x + Int32.ofInt 1) (kw_ui S 7 x.toNatClampNeg (S.1 12 x.toNatClampNeg)) (by omega) (by rw [m11]; omega) (by rw [m11]; exact h8) (kw_FM_ui hF (by decide) (by decide)) (fun j hj => by
        rw [kp_ui]
        by_cases e : j = x.toNatClampNeg
        · rw [if_pos ⟨rfl, e⟩, r12, e]
        · rw [if_neg (fun q => e q.2)]; exact hq j (by omega)) (by omega)
      exact ⟨S', e1, e2, by rw [m11] at e3; exact e3⟩
    · rw [if_neg hx]
      exact ⟨S, rfl, hF, fun j hj => hq j (by omega)⟩
/-! the class's own -/
theorem kt_drop (S : kw_S) (k : Int32) (h0 : 0 ≤ k.toInt) (h1 : k.toInt < 3) : f_X3_drop_5 S k = kw_ui S 21 k.toNatClampNeg (-1) := by
  rw [f_X3_drop_5_u]
  simp only [kf_lx, kp_has5]
  rw [if_pos (show 0 ≤ k.toInt ∧ k.toInt < 3 from ⟨h0, h1⟩), if_neg (by decide)]
theorem kt_town80 (a : Int32) : ∀ (n : Nat) (x : Int32) (S : kw_S), 0 ≤ x.toInt → x.toInt ≤ 3 → (∀ k : Nat, (k : Int) < x.toInt → S.1 21 k = -1) → (3 - x.toInt).toNat < n → ∃ S' : kw_S, l_X7_town_0_80 a n x S = (S.1 17 5, S') ∧ kw_F [21] S S' ∧ ∀ k : Nat, k < 3 → S'.1 21 k = -1 := by
  intro n
  induction n with
  | zero => intro x S _ _ _ h; exact absurd h (Nat.not_lt_zero _)
  | succ n ih =>
    intro x S h0 h1 hk h2
    have c := kw_clampI h0
    rw [l_X7_town_0_80_s]
    by_cases hx : x.toInt < 3
    · have z := kp_inc x (by omega)
      rw [if_pos (show x.toInt < (3 : Int32).toInt from hx)]
      simp only [kf_lx]
      rw [kt_drop S x h0 hx]
      obtain ⟨S', e1, e2, e3⟩ := ih (x + Int32.ofInt 1) (kw_ui S 21 x.toNatClampNeg (-1)) (by omega) (by omega) (fun k hk2 => by
        rw [kp_ui]
        by_cases e : k = x.toNatClampNeg
        · rw [if_pos ⟨rfl, e⟩]
        · rw [if_neg (fun q => e q.2)]; exact hk k (by omega)) (by omega)
      refine ⟨S', ?_, kw_F.tr (kw_F_ui kw_F.rf (by decide)) e2 (fun _ h => h), e3⟩
      rw [e1, show (kw_ui S 21 x.toNatClampNeg (-1)).1 17 5 = S.1 17 5 by simp [kp_ui]]
    · rw [if_neg (show ¬ x.toInt < (3 : Int32).toInt from hx)]
      exact ⟨S, rfl, kw_F.rf, fun k hk2 => hk k (by omega)⟩
theorem kt_replay0 (S : kw_S) : f_X5_replay_4 S 0 = kw_ui (kw_ui (kw_ui (kw_ui (kw_ui (kw_ua S 19 (fun j => if j < 6 then 0 else S.1 19 j)) 4 3 0) 4 4 0) 4 5 0) 4 6 0) 4 7 0 := by
  rw [f_X5_replay_4_u, kp_fill19]
  simp only [kf_lx]
  show l_X5_replay_4_35 0 42 0 _ = _
  rw [l_X5_replay_4_35_s, if_neg (by decide)]
theorem kt_copy (S : kw_S) : (f_X1_copyFrom_17_16 S).1 17 5 = S.1 16 5 ∧ (f_X1_copyFrom_17_16 S).1 17 6 = S.1 16 6 ∧ (∀ i : Nat, i < 6 → (f_X1_copyFrom_17_16 S).1 44 i = S.1 39 i ∧ (f_X1_copyFrom_17_16 S).1 45 i = S.1 40 i ∧ (f_X1_copyFrom_17_16 S).1 46 i = S.1 41 i ∧ (f_X1_copyFrom_17_16 S).1 47 i = S.1 42 i) ∧ (∀ j : Nat, j < 8 → (f_X1_copyFrom_17_16 S).1 48 j = S.1 43 j) ∧ kw_F [17, 44, 45, 46, 47, 48] S (f_X1_copyFrom_17_16 S) := by
  have q0 : (0 : Int32).toNatClampNeg = 0 := rfl
  have q6 : (6 : Int32).toNatClampNeg = 6 := rfl
  have q8 : (8 : Int32).toNatClampNeg = 8 := rfl
  rw [f_X1_copyFrom_17_16_u]
  simp only [kf_lx, q0, q6, q8]
  refine ⟨by simp [kp_ui, kp_ua], by simp [kp_ui, kp_ua], fun i hi => ⟨by simp [kp_ui, kp_ua, va_cpy, hi], by simp [kp_ui, kp_ua, va_cpy, hi], by simp [kp_ui, kp_ua, va_cpy, hi], by simp [kp_ui, kp_ua, va_cpy, hi]⟩, fun j hj => by simp [kp_ui, kp_ua, va_cpy, hj], ?_⟩
  exact kw_F_ui (kw_F_ui (kw_F_ua (kw_F_ua (kw_F_ua (kw_F_ua (kw_F_ua kw_F.rf (by decide)) (by decide)) (by decide)) (by decide)) (by decide)) (by decide)) (by decide)
theorem kr_fault {x m s t : kw_S} {r q : Int32} (hX : kw_I bX x) (h : kr_T x m) (k : Int32) (e1 : (r, s) = f_X7_fault_0 x k) (e2 : (q, t) = f_X8_fault_0 m k) : r = q := by
  rw [f_X7_fault_0_u] at e1
  rw [f_X8_fault_0_u] at e2
  simp only [kf_lx, kf_bx, kp_has2, kp_miss2] at e1
  simp only [kf_lx, kf_bx, kp_askedText] at e2
  by_cases hk : 0 ≤ k.toInt ∧ k.toInt < 4
  · rw [if_pos hk, if_neg (by decide)] at e1
    have hk3 : 0 ≤ k.toInt ∧ k.toInt ≤ 3 := by omega
    simp only [if_pos hk3] at e2
    have c := kw_clampI hk.1
    rcases h.1 k.toNatClampNeg (by omega) with ⟨g1, g2⟩ | ⟨g1, g2⟩
    · rw [if_neg (show ¬ (0 ≤ k.toInt ∧ k.toInt < 4 ∧ 0 ≤ (x.1 15 k.toNatClampNeg).toInt) by omega), if_neg (by decide)] at e1
      simp only [if_pos g2] at e2
      rw [if_pos (by rw [kp_meet1]; decide)] at e2
      cases e1; cases e2
      exact (kp_refuse1 _ _).trans (kp_meet1 _ _).symm
    · rw [if_pos (show 0 ≤ k.toInt ∧ k.toInt < 4 ∧ 0 ≤ (x.1 15 k.toNatClampNeg).toInt by omega), if_pos (by decide)] at e1
      have g3 : ¬ (m.1 5 k.toNatClampNeg).toInt < 0 := by rw [← g1]; omega
      simp only [if_neg g3] at e2
      rw [if_neg (by decide)] at e2
      obtain ⟨r0, S4, U4, f1, f2, -, -, -⟩ := kt_fault h hk3 (fun j => hX 15 j) g2
      rw [f1] at e1
      rw [f2] at e2
      cases e1; cases e2
      rfl
  · rw [if_neg hk, if_pos (by decide)] at e1
    have hk3 : ¬ (0 ≤ k.toInt ∧ k.toInt ≤ 3) := by omega
    simp only [if_neg hk3] at e2
    rw [if_pos (by decide)] at e2
    cases e1; cases e2
    rfl
set_option maxHeartbeats 2000000 in
/-- a town by a text: refused on both sides, the state as it was; or both have the text's lines and winds, and begin anew -/
theorem kr_town {x m s t : kw_S} {r q : Int32} (hX : kw_I bX x) (h : kr_T x m) (hL : kr_L x m) (k : Int32) (e1 : (r, s) = f_X7_town_0 x k) (e2 : (q, t) = f_X8_town_0 m k) : r = q ∧ kr_L s t ∧ (kw_F [8, 28, 3, 16, 39, 40, 41, 42, 43] x s ∧ kw_FM [1, 12, 13, 1000, 1017, 1018, 1019] m t ∨ s.1 4 3 = 0 ∧ s.1 4 4 = 0 ∧ s.1 4 5 = 0 ∧ s.1 4 6 = 0 ∧ s.1 4 7 = 0 ∧ (∀ j : Nat, j < 6 → s.1 19 j = 0) ∧ (∀ j : Nat, j < 3 → s.1 21 j = -1) ∧ t.1 0 22 = 0 ∧ t.1 0 23 = 0 ∧ t.1 0 24 = 0 ∧ t.1 0 25 = 0 ∧ t.1 0 27 = 0 ∧ (∀ i : Nat, (i : Int) < (s.1 17 5).toInt → t.1 14 i = 0) ∧ (∀ k : Nat, k < 3 → t.1 16 k = 0) ∧ 1 ≤ (s.1 17 5).toInt ∧ ∀ j : Nat, 6 ≤ j → s.1 19 j = x.1 19 j) := by
  rw [f_X7_town_0_u] at e1
  rw [f_X8_town_0_u] at e2
  simp only [kf_lx, kf_bx, kp_has2, kp_miss2] at e1
  simp only [kf_lx, kf_bx, kp_askedText] at e2
  by_cases hk : 0 ≤ k.toInt ∧ k.toInt < 4
  · rw [if_pos hk, if_neg (by decide)] at e1
    have hk3 : 0 ≤ k.toInt ∧ k.toInt ≤ 3 := by omega
    simp only [if_pos hk3] at e2
    have c := kw_clampI hk.1
    rcases h.1 k.toNatClampNeg (by omega) with ⟨g1, g2⟩ | ⟨g1, g2⟩
    · rw [if_neg (show ¬ (0 ≤ k.toInt ∧ k.toInt < 4 ∧ 0 ≤ (x.1 15 k.toNatClampNeg).toInt) by omega), if_neg (by decide)] at e1
      simp only [if_pos g2] at e2
      rw [if_pos (by rw [kp_meet1]; decide)] at e2
      cases e1; cases e2
      have FX : kw_F [8, 28, 3, 16, 39, 40, 41, 42, 43] x (f_X4_refuse_8 x 1).2 := by
        show kw_F _ x (kw_ui (kw_ui x 8 1 1) 28 _ _)
        exact kw_F_ui (kw_F_ui kw_F.rf (by decide)) (by decide)
      have FM : kw_FM [1, 12, 13, 1000, 1017, 1018, 1019] m (f_X8_meet_0 m 1).2 := by
        show kw_FM _ m (kw_ui (kw_ui m 0 0 1) 1 _ _)
        exact kw_FM_ui (kw_FM_ui0 kw_FM.rf (by decide)) (by decide) (by decide)
      exact ⟨(kp_refuse1 _ _).trans (kp_meet1 _ _).symm, hL.fr FX FM (by decide) (by decide), Or.inl ⟨FX, FM⟩⟩
    · rw [if_pos (show 0 ≤ k.toInt ∧ k.toInt < 4 ∧ 0 ≤ (x.1 15 k.toNatClampNeg).toInt by omega), if_pos (by decide)] at e1
      have g3 : ¬ (m.1 5 k.toNatClampNeg).toInt < 0 := by rw [← g1]; omega
      simp only [if_neg g3] at e2
      rw [if_neg (by decide)] at e2
      obtain ⟨r0, S4, U4, f1, f2, hE, fx, fm⟩ := kt_fault h hk3 (fun j => hX 15 j) g2
      rw [f1] at e1
      rw [f2] at e2
      simp only at e1 e2
      have FX : kw_F [8, 28, 3, 16, 39, 40, 41, 42, 43] x S4 := kw_F.tr kw_F.rf fx (by decide)
      have FM : kw_FM [1, 12, 13, 1000, 1017, 1018, 1019] m U4 := kw_FM.tr kw_FM.rf fm (by decide)
      by_cases h9 : r0.toInt = (-9 : Int32).toInt
      · rw [if_pos h9] at e1 e2
        obtain ⟨hW, hN, hl1, hh1⟩ := hE (Int32.toInt_inj.mp h9)
        obtain ⟨w1, w2, w3, w4⟩ := hW
        obtain ⟨n1, n2, n3, n4⟩ := hN
        -- the class
        obtain ⟨c1, c2, c3, c4, c5⟩ := kt_copy S4
        generalize f_X1_copyFrom_17_16 S4 = S5 at *
        rw [kt_replay0] at e1
        obtain ⟨S7, d1, d2, d3⟩ := kt_town80 k ((4 - (0 : Int32).toInt).toNat + 1) 0 (kw_ui (kw_ui (kw_ui (kw_ui (kw_ui (kw_ua S5 19 (fun j => if j < 6 then 0 else S5.1 19 j)) 4 3 0) 4 4 0) 4 5 0) 4 6 0) 4 7 0) (by decide) (by decide) (fun k hk => by rw [kp_q0] at hk; omega) (by rw [kp_q0]; omega)
        rw [d1] at e1
        have F6 : kw_F [4, 19] S5 (kw_ui (kw_ui (kw_ui (kw_ui (kw_ui (kw_ua S5 19 (fun j => if j < 6 then 0 else S5.1 19 j)) 4 3 0) 4 4 0) 4 5 0) 4 6 0) 4 7 0) := kw_F_ui (kw_F_ui (kw_F_ui (kw_F_ui (kw_F_ui (kw_F_ua kw_F.rf (by decide)) (by decide)) (by decide)) (by decide)) (by decide)) (by decide)
        have F7 : kw_F [4, 19, 21] S5 S7 := (kw_F.tr kw_F.rf F6 (by decide)).tr d2 (by decide)
        have x17 : S7.1 17 = S5.1 17 := (F7 17 (by decide)).1
        -- the reference
        have b11 : (kw_ui (kw_ui U4 0 10 (U4.1 0 19)) 0 11 (U4.1 0 18)).1 0 11 = U4.1 0 18 := by simp [kp_ui]
        have b10 : (kw_ui (kw_ui U4 0 10 (U4.1 0 19)) 0 11 (U4.1 0 18)).1 0 10 = U4.1 0 19 := by simp [kp_ui]
        have b12 : (kw_ui (kw_ui U4 0 10 (U4.1 0 19)) 0 11 (U4.1 0 18)).1 12 = U4.1 12 := by funext j; simp [kp_ui]
        have b13 : (kw_ui (kw_ui U4 0 10 (U4.1 0 19)) 0 11 (U4.1 0 18)).1 13 = U4.1 13 := by funext j; simp [kp_ui]
        generalize kw_ui (kw_ui U4 0 10 (U4.1 0 19)) 0 11 (U4.1 0 18) = U5 at *
        obtain ⟨U6, m1, m2, m3⟩ := kt_tw43 k 0 U5 ((9 - (0 : Int32).toInt).toNat + 1) 0 U5 (by decide) (by rw [b11, ← w1, kp_q0]; exact w2) (by rw [b11, ← w1]; exact w3) kw_FM.rf (fun j hj => by rw [kp_q0] at hj; omega) (by rw [kp_q0]; omega)
        have a10 : U6.1 0 10 = U5.1 0 10 := m2.2.1 10 (by decide)
        have a11 : U6.1 0 11 = U5.1 0 11 := m2.2.1 11 (by decide)
        obtain ⟨U7, m4, m5, m6⟩ := kt_tw71 k 0 U6 ((7 - (0 : Int32).toInt).toNat + 1) 0 U6 (by decide) (by rw [a10, b10, ← n1, kp_q0]; exact n2) (by rw [a10, b10, ← n1]; exact n3) kw_FM.rf (fun j hj => by rw [kp_q0] at hj; omega) (by rw [kp_q0]; omega)
        obtain ⟨U8, m7, m8, m9⟩ := kt_tw183 k 0 ((4 - (0 : Int32).toInt).toNat + 1) 0 (kw_ui (kw_ui (kw_ui (kw_ui (kw_ui U7 0 22 0) 0 23 0) 0 24 0) 0 25 0) 0 27 0) (by decide) (by decide) (fun k hk => by rw [kp_q0] at hk; omega) (by rw [kp_q0]; omega)
        rw [m1, m4, m7] at e2
        have M7 : kw_FM [1022, 1023, 1024, 1025, 1027] U7 (kw_ui (kw_ui (kw_ui (kw_ui (kw_ui U7 0 22 0) 0 23 0) 0 24 0) 0 25 0) 0 27 0) := kw_FM_ui0 (kw_FM_ui0 (kw_FM_ui0 (kw_FM_ui0 (kw_FM_ui0 kw_FM.rf (by decide)) (by decide)) (by decide)) (by decide)) (by decide)
        have M8 : kw_FM [16, 1022, 1023, 1024, 1025, 1027] U7 U8 := (kw_FM.tr kw_FM.rf M7 (by decide)).tr m8 (by decide)
        have y10 : U8.1 0 10 = U4.1 0 19 := by rw [M8.2.1 10 (by decide), m5.2.1 10 (by decide), a10, b10]
        have y11 : U8.1 0 11 = U4.1 0 18 := by rw [M8.2.1 11 (by decide), m5.2.1 11 (by decide), a11, b11]
        have z : ∀ j : Nat, (kw_ui (kw_ui (kw_ui (kw_ui (kw_ui U7 0 22 0) 0 23 0) 0 24 0) 0 25 0) 0 27 0).1 0 j = if j = 22 ∨ j = 23 ∨ j = 24 ∨ j = 25 ∨ j = 27 then 0 else U7.1 0 j := by
          intro j
          simp only [kp_ui, true_and]
          by_cases j27 : j = 27
          · simp [j27]
          by_cases j25 : j = 25
          · simp [j25]
          by_cases j24 : j = 24
          · simp [j24]
          by_cases j23 : j = 23
          · simp [j23]
          by_cases j22 : j = 22
          · simp [j22]
          simp [j22, j23, j24, j25, j27]
        have e10 : (kw_ui (kw_ui (kw_ui (kw_ui (kw_ui U7 0 22 0) 0 23 0) 0 24 0) 0 25 0) 0 27 0).1 0 10 = U4.1 0 19 := by rw [z 10, if_neg (by decide), m5.2.1 10 (by decide), a10, b10]
        have t0 : ∀ j : Nat, U8.1 0 j = (kw_ui (kw_ui (kw_ui (kw_ui (kw_ui U7 0 22 0) 0 23 0) 0 24 0) 0 25 0) 0 27 0).1 0 j := fun j => m8.2.1 j (by simp; omega)
        have l17 : (kw_ui (kw_ui (kw_ui (kw_ui (kw_ui (kw_ua S5 19 (fun j => if j < 6 then 0 else S5.1 19 j)) 4 3 0) 4 4 0) 4 5 0) 4 6 0) 4 7 0).1 17 5 = S4.1 16 5 := by rw [(F6 17 (by decide)).1]; exact c1
        have s4 : ∀ j : Nat, S7.1 4 j = (kw_ui (kw_ui (kw_ui (kw_ui (kw_ui (kw_ua S5 19 (fun j => if j < 6 then 0 else S5.1 19 j)) 4 3 0) 4 4 0) 4 5 0) 4 6 0) 4 7 0).1 4 j := fun j => by rw [(d2 4 (by decide)).1]
        have s19 : ∀ j : Nat, S7.1 19 j = (kw_ui (kw_ui (kw_ui (kw_ui (kw_ui (kw_ua S5 19 (fun j => if j < 6 then 0 else S5.1 19 j)) 4 3 0) 4 4 0) 4 5 0) 4 6 0) 4 7 0).1 19 j := fun j => by rw [(d2 19 (by decide)).1]
        rw [l17] at e1
        rw [e10] at e2
        cases e1; cases e2
        refine ⟨n1, ⟨?_, ?_, Or.inr ⟨?_, ?_, ?_, ?_, ?_⟩, ?_⟩, Or.inr ⟨?_, ?_, ?_, ?_, ?_, ?_, d3, ?_, ?_, ?_, ?_, ?_, ?_, m9, ?_, ?_⟩⟩
        · rw [x17, c1, y10]; exact n1
        · rw [x17, c1]; exact ⟨n2, n3⟩
        · rw [x17, c1]; exact hl1
        · rw [x17, c2, y11]; exact w1
        · rw [x17, c2]; exact hh1
        · rw [x17, c2]; exact w3
        · intro j hj
          rw [x17, c2] at hj
          rw [(F7 48 (by decide)).1, c4 j (by omega), M8.1 7 (by decide) (by decide), m5.1 7 (by decide) (by decide), m3 j (by rw [b11, ← w1]; exact hj), b12]
          exact w4 j hj
        · intro i hi
          rw [x17, c1] at hi
          obtain ⟨o1, o2, o3, o4⟩ := c3 i (by omega)
          obtain ⟨v1, v2, v3, v4, v5, v6, v7, v8⟩ := n4 i hi
          obtain ⟨y1, y2, y3, y4, y5⟩ := m6 i (by rw [a10, b10, ← n1]; exact hi)
          have u13 : U6.1 13 = U4.1 13 := by rw [m2.1 13 (by decide) (by decide), b13]
          rw [u13] at y1 y2 y3 y4
          rw [(F7 44 (by decide)).1, (F7 45 (by decide)).1, (F7 46 (by decide)).1, (F7 47 (by decide)).1, o1, o2, o3, o4, M8.1 8 (by decide) (by decide), M8.1 9 (by decide) (by decide), M8.1 10 (by decide) (by decide), M8.1 11 (by decide) (by decide), y1, y2, y3, y4]
          exact ⟨v1, v2, v3, v4, v5, v6, v7, v8⟩
        · rw [s4]; simp [kp_ui]
        · rw [s4]; simp [kp_ui]
        · rw [s4]; simp [kp_ui]
        · rw [s4]; simp [kp_ui]
        · rw [s4]; simp [kp_ui]
        · intro j hj
          rw [s19]; simp [kp_ui, kp_ua, hj]
        · rw [t0, z]; simp
        · rw [t0, z]; simp
        · rw [t0, z]; simp
        · rw [t0, z]; simp
        · rw [t0, z]; simp
        · intro i hi
          rw [x17, c1] at hi
          rw [M8.1 14 (by decide) (by decide)]
          exact (m6 i (by rw [a10, b10, ← n1]; exact hi)).2.2.2.2
        · rw [x17, c1]; exact hl1
        · intro j hj
          have e19 : (kw_ui (kw_ui (kw_ui (kw_ui (kw_ui (kw_ua S5 19 (fun j => if j < 6 then 0 else S5.1 19 j)) 4 3 0) 4 4 0) 4 5 0) 4 6 0) 4 7 0).1 19 j = S5.1 19 j := by simp [kp_ui, kp_ua, show ¬ j < 6 by omega]
          rw [s19, e19, (c5 19 (by decide)).1, (FX 19 (by decide)).1]
      · rw [if_neg h9] at e1 e2
        cases e1; cases e2
        exact ⟨rfl, hL.fr FX FM (by decide) (by decide), Or.inl ⟨FX, FM⟩⟩
  · rw [if_neg hk, if_pos (by decide)] at e1
    have hk3 : ¬ (0 ≤ k.toInt ∧ k.toInt ≤ 3) := by omega
    simp only [if_neg hk3] at e2
    rw [if_pos (by decide)] at e2
    cases e1; cases e2
    exact ⟨rfl, hL, Or.inl ⟨kw_F.rf, kw_FM.rf⟩⟩
