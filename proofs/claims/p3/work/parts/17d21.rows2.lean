/-! ===== rows 2: lay, tear, copy, mean ===== -/
theorem kp_nofind (x : kw_S) (hb : ∀ j : Nat, -1 ≤ (x.1 13 j).toInt ∧ (x.1 13 j).toInt ≤ 40) (k i : Int32) (k0 : 0 ≤ k.toInt) (k1 : k.toInt < 6) (hi : ¬ (0 ≤ i.toInt ∧ i.toInt < (x.1 13 k.toNatClampNeg).toInt)) : ¬ (f_X3_findingAt_1 x k i).toInt = 0 := by
  rw [kp_find1 x hb k i k0 k1]
  by_cases g : (x.1 13 k.toNatClampNeg).toInt < 0
  · rw [if_pos g]; decide
  · rw [if_neg g, if_neg hi]; decide
theorem kp_yesfind (x : kw_S) (hb : ∀ j : Nat, -1 ≤ (x.1 13 j).toInt ∧ (x.1 13 j).toInt ≤ 40) (k i : Int32) (k0 : 0 ≤ k.toInt) (k1 : k.toInt < 6) (hi : 0 ≤ i.toInt ∧ i.toInt < (x.1 13 k.toNatClampNeg).toInt) : (f_X3_findingAt_1 x k i).toInt = 0 := by
  rw [kp_find1 x hb k i k0 k1, if_neg (by omega), if_pos hi]
  rfl
theorem kr_W.no {x m : kw_S} (h : kr_W x m) (f g : Int32) : kr_W (f_X4_refuse_8 x f).2 (f_X8_meet_0 m g).2 :=
  h.cong (fun a ha => kp_refuse2 _ _ a (by omega) (by omega)) (fun a ha => kp_meet2 _ _ a (by omega) (by omega))
theorem kr_W_lay {x m s t : kw_S} {r q : Int32} (hX : kw_I bX x) (h : kr_W x m) (k i v : Int32) (e1 : (r, s) = f_X7_lay_0 x k i v) (e2 : (q, t) = f_X8_lay_0 m k i v) : kr_W s t ∧ r = q := by
  have hb : ∀ j : Nat, -1 ≤ (x.1 13 j).toInt ∧ (x.1 13 j).toInt ≤ 40 := fun j => hX 13 j
  rw [f_X7_lay_0_u] at e1
  rw [f_X8_lay_0_u] at e2
  simp only [kf_lx, kf_bx, kp_has1] at e1
  simp only [kf_lx, kf_bx] at e2
  rcases kp_at hX h k i with ⟨hk, hi, f, -, b, -⟩ | ⟨-, b, hk⟩ | ⟨k0, k1, i0, i1, i2, -, b⟩
  · rw [if_pos hk, if_neg (show ¬ (1 : Int32).toInt = 0 by decide), if_neg (kp_nofind x hb k i hk.1 hk.2 hi)] at e1
    rw [b, if_pos (by rw [kp_meet1]; decide)] at e2
    obtain ⟨r1, s1⟩ := Prod.mk.inj e1
    obtain ⟨r2, s2⟩ := Prod.mk.inj e2
    rw [s1, s2, r1, r2, kp_refuse1, kp_meet1]
    exact ⟨h.no _ _, rfl⟩
  · rw [if_neg hk, if_pos (show (0 : Int32).toInt = 0 from rfl)] at e1
    rw [b] at e2
    dsimp only at e2
    rw [if_pos (show (-1 : Int32).toInt < 0 by decide)] at e2
    obtain ⟨r1, s1⟩ := Prod.mk.inj e1
    obtain ⟨r2, s2⟩ := Prod.mk.inj e2
    rw [s1, s2, r1, r2]
    exact ⟨h, rfl⟩
  · have hk : 0 ≤ k.toInt ∧ k.toInt < 6 := ⟨k0, k1⟩
    have hc : 0 ≤ k.toInt ∧ k.toInt < 6 ∧ 0 ≤ i.toInt ∧ i.toInt < (x.1 13 k.toNatClampNeg).toInt := ⟨k0, k1, i0, i1⟩
    have ck := kw_clampI k0
    have ci := kw_clampI i0
    rw [if_pos hk, if_neg (show ¬ (1 : Int32).toInt = 0 by decide), if_pos (kp_yesfind x hb k i k0 k1 ⟨i0, i1⟩), kp_change1 x hb, if_pos hc, f_X4_answer_8_u] at e1
    rw [b] at e2
    dsimp only at e2
    rw [if_neg (show ¬ (1 : Int32).toInt < 0 by decide), kp_setRow _ k i v k0 (by omega) i0 (by omega)] at e2
    obtain ⟨r1, s1⟩ := Prod.mk.inj e1
    obtain ⟨r2, s2⟩ := Prod.mk.inj e2
    dsimp only at s1 r1
    rw [r1, r2]
    refine ⟨⟨fun c hc => ?_, fun c j hc hj => ?_⟩, rfl⟩
    · have a1 : s.1 13 c = x.1 13 c := by rw [s1, kp_ui, if_neg (by omega), kp_ui, if_neg (by omega)]
      have a2 : t.1 2 c = m.1 2 c := by rw [s2, kp_ui, if_neg (by omega), kp_ui, if_neg (by omega)]
      rw [a1, a2]
      exact h.1 c hc
    · rw [s1, s2, kp_ui, if_neg (by omega), kp_ui, kp_ui]
      by_cases e : c = k.toNatClampNeg ∧ j = i.toNatClampNeg
      · rw [if_pos (by omega), if_pos (by omega)]
      · rw [if_neg (by omega), if_neg (by omega), kp_ui, if_neg (by omega)]
        exact h.2 c j hc hj
theorem kr_W_tear {x m s t : kw_S} {r q : Int32} (h : kr_W x m) (k : Int32) (e1 : (r, s) = f_X7_tear_0 x k) (e2 : (q, t) = f_X8_tear_0 m k) : kr_W s t ∧ r = q := by
  rw [f_X7_tear_0_u] at e1
  rw [f_X8_tear_0_u] at e2
  simp only [kf_lx, kf_bx, kp_has1, kp_miss1] at e1
  simp only [kf_lx, kf_bx, kp_askedRow] at e2
  by_cases hk : 0 ≤ k.toInt ∧ k.toInt < 6
  · have hk5 : 0 ≤ k.toInt ∧ k.toInt ≤ 5 := by omega
    have c := kw_clampI hk.1
    simp only [if_pos hk5] at e2
    rw [if_pos hk, if_neg (show ¬ (1 : Int32).toInt = 0 by decide)] at e1
    rcases h.1 k.toNatClampNeg (by omega) with ⟨g1, g2⟩ | ⟨g1, g2⟩
    · rw [if_neg (show ¬ (0 ≤ k.toInt ∧ k.toInt < 6 ∧ 0 ≤ (x.1 13 k.toNatClampNeg).toInt) by omega), if_neg (show ¬ (1 : Int32).toInt = 0 by decide)] at e1
      simp only [if_pos g2] at e2
      rw [if_pos (by rw [kp_meet1]; decide)] at e2
      obtain ⟨r1, s1⟩ := Prod.mk.inj e1
      obtain ⟨r2, s2⟩ := Prod.mk.inj e2
      rw [s1, s2, r1, r2, kp_refuse1, kp_meet1]
      exact ⟨h.no _ _, rfl⟩
    · have g3 : ¬ (m.1 2 k.toNatClampNeg).toInt < 0 := by rw [← g1]; omega
      simp only [if_neg g3] at e2
      rw [if_neg (show ¬ (0 : Int32).toInt < 0 by decide)] at e2
      rw [if_pos (show 0 ≤ k.toInt ∧ k.toInt < 6 ∧ 0 ≤ (x.1 13 k.toNatClampNeg).toInt from ⟨hk.1, hk.2, g2⟩), if_pos (show (0 : Int32).toInt = 0 from rfl), f_X3_drop_1_u] at e1
      simp only [kf_lx, kp_has1] at e1
      rw [if_pos hk, if_neg (show ¬ (1 : Int32).toInt = 0 by decide)] at e1
      obtain ⟨r1, s1⟩ := Prod.mk.inj e1
      obtain ⟨r2, s2⟩ := Prod.mk.inj e2
      rw [r1, r2]
      refine ⟨⟨fun c hc => ?_, fun c j hc hj => ?_⟩, rfl⟩
      · rw [s1, s2, kp_ui, kp_ui]
        by_cases e : c = k.toNatClampNeg
        · rw [if_pos ⟨rfl, e⟩, if_pos ⟨rfl, e⟩]
          exact Or.inl ⟨by decide, by decide⟩
        · rw [if_neg (fun z => e z.2), if_neg (fun z => e z.2)]
          exact h.1 c hc
      · rw [s1, s2, kp_ui, if_neg (by omega), kp_ui, if_neg (by omega)]
        exact h.2 c j hc hj
  · have hk5 : ¬ (0 ≤ k.toInt ∧ k.toInt ≤ 5) := by omega
    simp only [if_neg hk5] at e2
    rw [if_pos (show (-1 : Int32).toInt < 0 by decide)] at e2
    rw [if_neg hk, if_pos (show (0 : Int32).toInt = 0 from rfl)] at e1
    obtain ⟨r1, s1⟩ := Prod.mk.inj e1
    obtain ⟨r2, s2⟩ := Prod.mk.inj e2
    rw [s1, s2, r1, r2]
    exact ⟨h, rfl⟩
theorem kp_placesB (σ : kw_S) (hb : ∀ j : Nat, -1 ≤ (σ.1 13 j).toInt ∧ (σ.1 13 j).toInt ≤ 40) (k f n : Int32) (hn : 0 ≤ n.toInt) : f_X3_hasPlaces_1 σ k f n = if 0 ≤ k.toInt ∧ k.toInt < 6 ∧ 0 ≤ f.toInt ∧ f.toInt + n.toInt ≤ (σ.1 13 k.toNatClampNeg).toInt then 1 else 0 := by
  rw [f_X3_hasPlaces_1_u]
  simp only [kf_lx, kp_has1]
  have hb := hb k.toNatClampNeg
  have hr := kw_rng n
  have e := kw_subI (σ.1 13 k.toNatClampNeg) n
  by_cases h : 0 ≤ k.toInt ∧ k.toInt < 6
  · rw [if_pos h, if_neg (by decide)]
    by_cases hf : f.toInt < 0
    · rw [if_pos hf, if_neg (by omega)]
    · rw [if_neg hf, if_neg (by omega)]
      by_cases h3 : (σ.1 13 k.toNatClampNeg - n).toInt < f.toInt
      · rw [if_pos h3, if_neg (by omega)]
      · rw [if_neg h3, if_pos (by omega)]
  · rw [if_neg h, if_pos (by decide), if_neg (by omega)]
theorem kp_move1 (σ : kw_S) (hb : ∀ j : Nat, -1 ≤ (σ.1 13 j).toInt ∧ (σ.1 13 j).toInt ≤ 40) (k i t j n : Int32) (k0 : 0 ≤ k.toInt) (k1 : k.toInt < 6) (t0 : 0 ≤ t.toInt) (t1 : t.toInt < 6) (n0 : 0 ≤ n.toInt) (i0 : 0 ≤ i.toInt) (i1 : i.toInt + n.toInt ≤ (σ.1 13 k.toNatClampNeg).toInt) (j0 : 0 ≤ j.toInt) (j1 : j.toInt + n.toInt ≤ (σ.1 13 t.toNatClampNeg).toInt) : f_X3_move_1 σ k i t j n = kw_ua σ (29 + t.toNatClampNeg) (va_cpy (σ.1 (29 + k.toNatClampNeg)) (σ.1 (29 + t.toNatClampNeg)) i.toNatClampNeg j.toNatClampNeg n.toNatClampNeg) := by
  rw [f_X3_move_1_u]
  simp only [kf_lx]
  rw [kp_placesB σ hb k i n n0, if_pos (show 0 ≤ k.toInt ∧ k.toInt < 6 ∧ 0 ≤ i.toInt ∧ i.toInt + n.toInt ≤ (σ.1 13 k.toNatClampNeg).toInt from ⟨k0, k1, i0, i1⟩), if_neg (show ¬ (1 : Int32).toInt = 0 by decide), kp_placesB σ hb t j n n0, if_pos (show 0 ≤ t.toInt ∧ t.toInt < 6 ∧ 0 ≤ j.toInt ∧ j.toInt + n.toInt ≤ (σ.1 13 t.toNatClampNeg).toInt from ⟨t0, t1, j0, j1⟩), if_neg (show ¬ (1 : Int32).toInt = 0 by decide)]
  have inner : ∀ a : Nat, (if t.toInt = 0 then kw_ua σ 29 (va_cpy (σ.1 a) (σ.1 29) i.toNatClampNeg j.toNatClampNeg n.toNatClampNeg) else if t.toInt = 1 then kw_ua σ 30 (va_cpy (σ.1 a) (σ.1 30) i.toNatClampNeg j.toNatClampNeg n.toNatClampNeg) else if t.toInt = 2 then kw_ua σ 31 (va_cpy (σ.1 a) (σ.1 31) i.toNatClampNeg j.toNatClampNeg n.toNatClampNeg) else if t.toInt = 3 then kw_ua σ 32 (va_cpy (σ.1 a) (σ.1 32) i.toNatClampNeg j.toNatClampNeg n.toNatClampNeg) else if t.toInt = 4 then kw_ua σ 33 (va_cpy (σ.1 a) (σ.1 33) i.toNatClampNeg j.toNatClampNeg n.toNatClampNeg) else if t.toInt = 5 then kw_ua σ 34 (va_cpy (σ.1 a) (σ.1 34) i.toNatClampNeg j.toNatClampNeg n.toNatClampNeg) else σ) = kw_ua σ (29 + t.toNatClampNeg) (va_cpy (σ.1 a) (σ.1 (29 + t.toNatClampNeg)) i.toNatClampNeg j.toNatClampNeg n.toNatClampNeg) :=
    fun a => kp_row1 t t0 t1 (fun b => kw_ua σ b (va_cpy (σ.1 a) (σ.1 b) i.toNatClampNeg j.toNatClampNeg n.toNatClampNeg)) σ
  simp only [inner]
  exact kp_row1 k k0 k1 (fun a => kw_ua σ (29 + t.toNatClampNeg) (va_cpy (σ.1 a) (σ.1 (29 + t.toNatClampNeg)) i.toNatClampNeg j.toNatClampNeg n.toNatClampNeg)) σ
theorem kp_copyB (a i t j n : Int32) (t0 : 0 ≤ t.toInt) (t1 : t.toInt ≤ 5) (j0 : 0 ≤ j.toInt) (j1 : j.toInt + n.toInt ≤ 40) : ∀ (f : Nat) (x : Int32) (S : kw_S), 0 ≤ x.toInt → x.toInt ≤ n.toInt → (n.toInt - x.toInt).toNat < f → l_X8_copy_0_136 a i t j n f x S = (1, kw_ua S 3 (fun p => if 40 * t.toNatClampNeg + j.toNatClampNeg + x.toNatClampNeg ≤ p ∧ p < 40 * t.toNatClampNeg + j.toNatClampNeg + n.toNatClampNeg then S.1 4 (p - (40 * t.toNatClampNeg + j.toNatClampNeg)) else S.1 3 p)) := by
  intro f
  have cj := kw_clampI j0
  induction f with
  | zero => intro x S _ _ h; exact absurd h (Nat.not_lt_zero _)
  | succ f ih =>
    intro x S h0 h1 h2
    have c := kw_clampI h0
    have cn := kw_clampI (x := n) (by omega)
    rw [l_X8_copy_0_136_s]
    by_cases hx : x.toInt < n.toInt
    · have z := kp_inc x (by omega)
      have c1 := kw_clampI (x := x + Int32.ofInt 1) (by omega)
      have ej : (j + x).toInt = j.toInt + x.toInt := by rw [kw_addI]; omega
      have cx := kw_clampI (x := j + x) (by omega)
      rw [if_pos hx]
      simp only [kf_lx]
      rw [ih _ _ (by omega) (by omega) (by omega), kp_setRow S t (j + x) _ t0 t1 (by omega) (by omega)]
      refine congrArg (Prod.mk (1 : Int32)) (kp_ext (fun c p => ?_) (fun _ _ => rfl))
      simp only [kp_ua, kp_ui]
      by_cases hb : c = 3
      · subst hb
        simp only [if_true, true_and, show ¬ (4 : Nat) = 3 by decide, false_and, if_false]
        by_cases hj : p = 40 * t.toNatClampNeg + (j + x).toNatClampNeg
        · rw [if_neg (by omega), if_pos hj, if_pos (by omega), show p - (40 * t.toNatClampNeg + j.toNatClampNeg) = x.toNatClampNeg by omega]
        · by_cases h3 : 40 * t.toNatClampNeg + j.toNatClampNeg + x.toNatClampNeg ≤ p ∧ p < 40 * t.toNatClampNeg + j.toNatClampNeg + n.toNatClampNeg
          · rw [if_pos (by omega), if_pos h3]
          · rw [if_neg (by omega), if_neg hj, if_neg h3]
      · simp [hb]
    · rw [if_neg hx]
      refine congrArg (Prod.mk (1 : Int32)) (kp_ext (fun c p => ?_) (fun _ _ => rfl))
      simp only [kp_ua]
      by_cases hb : c = 3
      · subst hb
        rw [if_pos rfl, if_neg (by omega)]
      · rw [if_neg hb]
theorem kp_copyA (a i t j n : Int32) (a0 : 0 ≤ a.toInt) (a1 : a.toInt ≤ 5) (i0 : 0 ≤ i.toInt) (i1 : i.toInt + n.toInt ≤ 40) : ∀ (f : Nat) (x : Int32) (S : kw_S), 0 ≤ x.toInt → x.toInt ≤ n.toInt → (n.toInt - x.toInt).toNat < f → l_X8_copy_0_104 a i t j n f x S = l_X8_copy_0_136 a i t j n ((n.toInt - (0 : Int32).toInt).toNat + 1) 0 (kw_ua S 4 (fun p => if x.toNatClampNeg ≤ p ∧ p < n.toNatClampNeg then S.1 3 (40 * a.toNatClampNeg + (i.toNatClampNeg + p)) else S.1 4 p)) := by
  intro f
  have ci := kw_clampI i0
  induction f with
  | zero => intro x S _ _ h; exact absurd h (Nat.not_lt_zero _)
  | succ f ih =>
    intro x S h0 h1 h2
    have c := kw_clampI h0
    have cn := kw_clampI (x := n) (by omega)
    rw [l_X8_copy_0_104_s]
    by_cases hx : x.toInt < n.toInt
    · have z := kp_inc x (by omega)
      have c1 := kw_clampI (x := x + Int32.ofInt 1) (by omega)
      have ej : (i + x).toInt = i.toInt + x.toInt := by rw [kw_addI]; omega
      have cx := kw_clampI (x := i + x) (by omega)
      rw [if_pos hx]
      simp only [kf_lx]
      rw [ih _ _ (by omega) (by omega) (by omega), kp_rowAt S a (i + x) a0 a1 (by omega) (by omega)]
      refine congrArg (l_X8_copy_0_136 a i t j n ((n.toInt - (0 : Int32).toInt).toNat + 1) 0) (kp_ext (fun c p => ?_) (fun _ _ => rfl))
      simp only [kp_ua, kp_ui]
      by_cases hb : c = 4
      · subst hb
        simp only [if_true, true_and, show ¬ (3 : Nat) = 4 by decide, false_and, if_false]
        by_cases hj : p = x.toNatClampNeg
        · rw [if_neg (by omega), if_pos hj, if_pos (by omega), show i.toNatClampNeg + p = (i + x).toNatClampNeg by omega]
        · by_cases h3 : x.toNatClampNeg ≤ p ∧ p < n.toNatClampNeg
          · rw [if_pos (by omega), if_pos h3]
          · rw [if_neg (by omega), if_neg hj, if_neg h3]
      · simp [hb]
    · rw [if_neg hx]
      refine congrArg (l_X8_copy_0_136 a i t j n ((n.toInt - (0 : Int32).toInt).toNat + 1) 0) (kp_ext (fun c p => ?_) (fun _ _ => rfl))
      simp only [kp_ua]
      by_cases hb : c = 4
      · subst hb
        rw [if_pos rfl, if_neg (by omega)]
      · rw [if_neg hb]
theorem kp_past (i n z : Int32) (i0 : 0 ≤ i.toInt) (n0 : 0 ≤ n.toInt) : 0 < (lg_cmp (i.toInt64 + n.toInt64) z.toInt64).toInt ↔ z.toInt < i.toInt + n.toInt := by
  have h := (kw_lcmpI (i.toInt64 + n.toInt64) z.toInt64).2.1
  have r1 := kw_rng i
  have r2 := kw_rng n
  have e := kw_addL i.toInt64 n.toInt64
  rw [kw_i2lI, kw_i2lI] at e
  rw [kw_i2lI, e] at h
  rw [h]
  constructor <;> intro _ <;> omega
theorem kr_W_copy {x m s t : kw_S} {r q : Int32} (hX : kw_I bX x) (h : kr_W x m) (k i l j n : Int32) (e1 : (r, s) = f_X7_copy_0 x k i l j n) (e2 : (q, t) = f_X8_copy_0 m k i l j n) : kr_W s t ∧ r = q := by
  have hb : ∀ j : Nat, -1 ≤ (x.1 13 j).toInt ∧ (x.1 13 j).toInt ≤ 40 := fun j => hX 13 j
  have no : ∀ f g : Int32, (r, s) = ((f_X4_refuse_8 x f).1, (f_X4_refuse_8 x f).2) → (q, t) = ((f_X8_meet_0 m g).1, (f_X8_meet_0 m g).2) → kr_W s t ∧ r = q := by
    intro f g e1 e2
    obtain ⟨r1, s1⟩ := Prod.mk.inj e1
    obtain ⟨r2, s2⟩ := Prod.mk.inj e2
    rw [s1, s2, r1, r2, kp_refuse1, kp_meet1]
    exact ⟨h.no _ _, rfl⟩
  have bad : (r, s) = ((-1 : Int32), x) → (q, t) = ((-1 : Int32), m) → kr_W s t ∧ r = q := by
    intro e1 e2
    obtain ⟨r1, s1⟩ := Prod.mk.inj e1
    obtain ⟨r2, s2⟩ := Prod.mk.inj e2
    rw [s1, s2, r1, r2]
    exact ⟨h, rfl⟩
  have z0 : (0 : Int32).toInt = 0 := rfl
  have z1 : ¬ (1 : Int32).toInt = 0 := by decide
  rw [f_X7_copy_0_u] at e1
  rw [f_X8_copy_0_u] at e2
  simp only [kf_lx, kf_bx, kp_has1, kp_miss1] at e1
  simp only [kf_lx, kf_bx, kp_isRow] at e2
  by_cases hk : 0 ≤ k.toInt ∧ k.toInt < 6
  case neg =>
    rw [if_neg hk, if_pos z0] at e1
    rw [if_neg (show ¬ (0 ≤ k.toInt ∧ k.toInt ≤ 5) by omega), if_pos z0] at e2
    exact bad e1 e2
  rw [if_pos hk, if_neg z1] at e1
  rw [if_pos (show 0 ≤ k.toInt ∧ k.toInt ≤ 5 by omega), if_neg z1] at e2
  by_cases hl : 0 ≤ l.toInt ∧ l.toInt < 6
  case neg =>
    rw [if_neg hl, if_pos z0] at e1
    rw [if_neg (show ¬ (0 ≤ l.toInt ∧ l.toInt ≤ 5) by omega), if_pos z0] at e2
    exact bad e1 e2
  rw [if_pos hl, if_neg z1] at e1
  rw [if_pos (show 0 ≤ l.toInt ∧ l.toInt ≤ 5 by omega), if_neg z1] at e2
  by_cases hn : n.toInt < 0
  · rw [if_pos hn] at e1 e2
    exact no _ _ e1 e2
  rw [if_neg hn] at e1 e2
  have n0 : 0 ≤ n.toInt := by omega
  have ck := kw_clampI hk.1
  have cl := kw_clampI hl.1
  rcases h.1 k.toNatClampNeg (by omega) with ⟨g1, g2⟩ | ⟨g1, g2⟩
  · rw [if_neg (show ¬ (0 ≤ k.toInt ∧ k.toInt < 6 ∧ 0 ≤ (x.1 13 k.toNatClampNeg).toInt) by omega), if_neg z1] at e1
    rw [if_pos g2] at e2
    exact no _ _ e1 e2
  rw [if_pos (show 0 ≤ k.toInt ∧ k.toInt < 6 ∧ 0 ≤ (x.1 13 k.toNatClampNeg).toInt from ⟨hk.1, hk.2, g2⟩), if_pos z0] at e1
  rw [if_neg (show ¬ (m.1 2 k.toNatClampNeg).toInt < 0 by rw [← g1]; omega)] at e2
  rcases h.1 l.toNatClampNeg (by omega) with ⟨g3, g4⟩ | ⟨g3, g4⟩
  · rw [if_neg (show ¬ (0 ≤ l.toInt ∧ l.toInt < 6 ∧ 0 ≤ (x.1 13 l.toNatClampNeg).toInt) by omega), if_neg z1] at e1
    rw [if_pos g4] at e2
    exact no _ _ e1 e2
  rw [if_pos (show 0 ≤ l.toInt ∧ l.toInt < 6 ∧ 0 ≤ (x.1 13 l.toNatClampNeg).toInt from ⟨hl.1, hl.2, g4⟩), if_pos z0, kp_placesB x hb k i n n0] at e1
  rw [if_neg (show ¬ (m.1 2 l.toNatClampNeg).toInt < 0 by rw [← g3]; omega), ← g1, ← g3] at e2
  by_cases hi : 0 ≤ i.toInt ∧ i.toInt + n.toInt ≤ (x.1 13 k.toNatClampNeg).toInt
  case neg =>
    rw [if_neg (show ¬ (0 ≤ k.toInt ∧ k.toInt < 6 ∧ 0 ≤ i.toInt ∧ i.toInt + n.toInt ≤ (x.1 13 k.toNatClampNeg).toInt) by omega), if_pos z0] at e1
    by_cases i0 : i.toInt < 0
    · rw [if_pos i0] at e2
      exact no _ _ e1 e2
    · rw [if_neg i0] at e2
      by_cases j0 : j.toInt < 0
      · rw [if_pos j0] at e2
        exact no _ _ e1 e2
      · rw [if_neg j0, if_pos ((kp_past i n _ (by omega) n0).mpr (by omega))] at e2
        exact no _ _ e1 e2
  rw [if_pos (show 0 ≤ k.toInt ∧ k.toInt < 6 ∧ 0 ≤ i.toInt ∧ i.toInt + n.toInt ≤ (x.1 13 k.toNatClampNeg).toInt from ⟨hk.1, hk.2, hi.1, hi.2⟩), if_neg z1, kp_placesB x hb l j n n0] at e1
  rw [if_neg (show ¬ i.toInt < 0 by omega)] at e2
  by_cases hj : 0 ≤ j.toInt ∧ j.toInt + n.toInt ≤ (x.1 13 l.toNatClampNeg).toInt
  case neg =>
    rw [if_neg (show ¬ (0 ≤ l.toInt ∧ l.toInt < 6 ∧ 0 ≤ j.toInt ∧ j.toInt + n.toInt ≤ (x.1 13 l.toNatClampNeg).toInt) by omega), if_pos z0] at e1
    by_cases j0 : j.toInt < 0
    · rw [if_pos j0] at e2
      exact no _ _ e1 e2
    · rw [if_neg j0, if_neg (fun z => absurd ((kp_past i n _ hi.1 n0).mp z) (by omega)), if_pos ((kp_past j n _ (by omega) n0).mpr (by omega))] at e2
      exact no _ _ e1 e2
  have b1 := hb k.toNatClampNeg
  have b2 := hb l.toNatClampNeg
  have q0 : (0 : Int32).toNatClampNeg = 0 := rfl
  rw [if_pos (show 0 ≤ l.toInt ∧ l.toInt < 6 ∧ 0 ≤ j.toInt ∧ j.toInt + n.toInt ≤ (x.1 13 l.toNatClampNeg).toInt from ⟨hl.1, hl.2, hj.1, hj.2⟩), if_neg z1, kp_move1 x hb k i l j n hk.1 hk.2 hl.1 hl.2 n0 hi.1 hi.2 hj.1 hj.2] at e1
  rw [if_neg (show ¬ j.toInt < 0 by omega), if_neg (fun z => absurd ((kp_past i n _ hi.1 n0).mp z) (by omega)), if_neg (fun z => absurd ((kp_past j n _ hj.1 n0).mp z) (by omega)), kp_copyA k i l j n hk.1 (by omega) hi.1 (by omega) _ _ _ (by decide) (by rw [kp_q0]; omega) (by rw [kp_q0]; omega), kp_copyB k i l j n hl.1 (by omega) hj.1 (by omega) _ _ _ (by decide) (by rw [kp_q0]; omega) (by rw [kp_q0]; omega), q0] at e2
  obtain ⟨r1, s1⟩ := Prod.mk.inj e1
  obtain ⟨r2, s2⟩ := Prod.mk.inj e2
  have ci := kw_clampI hi.1
  have cj := kw_clampI hj.1
  have cn := kw_clampI n0
  rw [r1, r2]
  refine ⟨⟨fun c hc => ?_, fun c p hc hp => ?_⟩, rfl⟩
  · have a1 : s.1 13 c = x.1 13 c := by rw [s1, kp_ua, if_neg (by omega)]
    have a2 : t.1 2 c = m.1 2 c := by rw [s2, kp_ua, if_neg (by omega), kp_ua, if_neg (by omega)]
    rw [a1, a2]
    exact h.1 c hc
  · have a2 : t.1 3 (40 * c + p) = if 40 * l.toNatClampNeg + j.toNatClampNeg ≤ 40 * c + p ∧ 40 * c + p < 40 * l.toNatClampNeg + j.toNatClampNeg + n.toNatClampNeg then m.1 3 (40 * k.toNatClampNeg + (i.toNatClampNeg + (40 * c + p - (40 * l.toNatClampNeg + j.toNatClampNeg)))) else m.1 3 (40 * c + p) := by
      rw [s2, kp_ua, if_pos rfl]
      by_cases e : 40 * l.toNatClampNeg + j.toNatClampNeg ≤ 40 * c + p ∧ 40 * c + p < 40 * l.toNatClampNeg + j.toNatClampNeg + n.toNatClampNeg
      · rw [if_pos e, if_pos (by omega), kp_ua, if_pos rfl, if_pos (by omega)]
      · rw [if_neg e, if_neg (by omega), kp_ua, if_neg (by decide)]
    rw [a2, s1, kp_ua]
    by_cases e : c = l.toNatClampNeg
    · subst e
      rw [if_pos rfl]
      show (if j.toNatClampNeg ≤ p ∧ p < j.toNatClampNeg + n.toNatClampNeg then x.1 (29 + k.toNatClampNeg) (i.toNatClampNeg + (p - j.toNatClampNeg)) else x.1 (29 + l.toNatClampNeg) p) = _
      by_cases g : j.toNatClampNeg ≤ p ∧ p < j.toNatClampNeg + n.toNatClampNeg
      · rw [if_pos g, if_pos (by omega), h.2 k.toNatClampNeg _ (by omega) (by omega), show 40 * l.toNatClampNeg + p - (40 * l.toNatClampNeg + j.toNatClampNeg) = p - j.toNatClampNeg by omega]
      · rw [if_neg g, if_neg (by omega), h.2 l.toNatClampNeg p (by omega) hp]
    · rw [if_neg (by omega), if_neg (by omega)]
      exact h.2 c p hc hp
/-- mean: both refuse alike, or both tell the same number -/
theorem kp_meanL {x m : kw_S} (hb : ∀ j : Nat, -1 ≤ (x.1 13 j).toInt ∧ (x.1 13 j).toInt ≤ 40) (h : kr_W x m) (k : Int32) (k0 : 0 ≤ k.toInt) (k1 : k.toInt < 6) (g : m.1 2 k.toNatClampNeg = x.1 13 k.toNatClampNeg) (g1 : 1 ≤ (x.1 13 k.toNatClampNeg).toInt) (u : Int32) : ∀ (f : Nat) (w : Int64) (y : Int32), 0 ≤ y.toInt → y.toInt ≤ (x.1 13 k.toNatClampNeg).toInt → (41 - y.toInt).toNat < f → ∃ v : Int32, l_X7_mean_0_61 k (x.1 13 k.toNatClampNeg) x f w y = (1, kw_ui x 8 2 v) ∧ l_X8_mean_0_17 k u m f w y = (1, kw_ui m 0 2 v) := by
  intro f
  have ck := kw_clampI k0
  have hb1 := hb k.toNatClampNeg
  induction f with
  | zero => intro w y _ _ h; exact absurd h (Nat.not_lt_zero _)
  | succ f ih =>
    intro w y y0 y1 hf
    have cy := kw_clampI y0
    rw [l_X7_mean_0_61_s, l_X8_mean_0_17_s]
    simp only [kf_lx, kf_bx, g]
    by_cases hy : y.toInt < (x.1 13 k.toNatClampNeg).toInt
    · have z := kp_inc y (by omega)
      rw [if_pos hy, if_pos hy, kp_value1 x hb, if_pos (show 0 ≤ k.toInt ∧ k.toInt < 6 ∧ 0 ≤ y.toInt ∧ y.toInt < (x.1 13 k.toNatClampNeg).toInt from ⟨k0, k1, y0, hy⟩), kp_rowAt m k y k0 (by omega) y0 (by omega), ← h.2 k.toNatClampNeg y.toNatClampNeg (by omega) (by omega)]
      exact ih _ _ (by omega) (by omega) (by omega)
    · rw [if_neg hy, if_neg hy, if_neg (show ¬ (x.1 13 k.toNatClampNeg).toInt = 0 by omega), f_X4_answer_8_u, f_X8_ask_0_u]
      exact ⟨_, rfl, rfl⟩
theorem kp_mean {x m : kw_S} (hX : kw_I bX x) (h : kr_W x m) (k : Int32) : (∃ f : Int32, f_X7_mean_0 x k = f_X4_refuse_8 x f ∧ f_X8_mean_0 m k = f_X8_meet_0 m f ∧ (f = 1 ∨ f = 4)) ∨ (f_X7_mean_0 x k = (-1, x) ∧ f_X8_mean_0 m k = (-1, m)) ∨ ∃ v : Int32, f_X7_mean_0 x k = (1, kw_ui x 8 2 v) ∧ f_X8_mean_0 m k = (1, kw_ui m 0 2 v) := by
  have hb : ∀ j : Nat, -1 ≤ (x.1 13 j).toInt ∧ (x.1 13 j).toInt ≤ 40 := fun j => hX 13 j
  have z0 : (0 : Int32).toInt = 0 := rfl
  have z1 : ¬ (1 : Int32).toInt = 0 := by decide
  rw [f_X7_mean_0_u, f_X8_mean_0_u]
  simp only [kf_lx, kf_bx, kp_has1, kp_miss1, kp_size1, kp_askedRow]
  by_cases hk : 0 ≤ k.toInt ∧ k.toInt < 6
  · have hk5 : 0 ≤ k.toInt ∧ k.toInt ≤ 5 := by omega
    have ck := kw_clampI hk.1
    have hb1 := hb k.toNatClampNeg
    simp only [if_pos hk5]
    rw [if_pos hk, if_neg z1, if_pos hk]
    rcases h.1 k.toNatClampNeg (by omega) with ⟨g1, g2⟩ | ⟨g1, g2⟩
    · left
      refine ⟨1, ?_, ?_, Or.inl rfl⟩
      · rw [if_neg (show ¬ (0 ≤ k.toInt ∧ k.toInt < 6 ∧ 0 ≤ (x.1 13 k.toNatClampNeg).toInt) by omega), if_neg z1]
      · simp only [if_pos g2]
        rw [if_pos (by rw [kp_meet1]; decide)]
    · have g3 : ¬ (m.1 2 k.toNatClampNeg).toInt < 0 := by rw [← g1]; omega
      simp only [if_neg g3]
      rw [if_pos (show 0 ≤ k.toInt ∧ k.toInt < 6 ∧ 0 ≤ (x.1 13 k.toNatClampNeg).toInt from ⟨hk.1, hk.2, g2⟩), if_pos z0, if_neg (show ¬ (0 : Int32).toInt < 0 by decide)]
      by_cases hs : (x.1 13 k.toNatClampNeg).toInt < (1 : Int32).toInt
      · left
        have hs2 := hs
        rw [kp_q1] at hs2
        refine ⟨4, ?_, ?_, Or.inr rfl⟩
        · rw [if_pos hs]
        · rw [l_X8_mean_0_17_s]
          simp only [kf_lx, kf_bx]
          rw [← g1, if_neg (show ¬ (0 : Int32).toInt < (x.1 13 k.toNatClampNeg).toInt by rw [kp_q0]; omega), if_pos (show (x.1 13 k.toNatClampNeg).toInt = 0 by omega)]
      · right; right
        have hs2 := hs
        rw [kp_q1] at hs2
        rw [if_neg hs]
        exact kp_meanL hb h k hk.1 hk.2 g1.symm (by omega) _ _ _ _ (by decide) (by rw [kp_q0]; omega) (by rw [kp_q0]; omega)
  · right; left
    have hk5 : ¬ (0 ≤ k.toInt ∧ k.toInt ≤ 5) := by omega
    simp only [if_neg hk5]
    rw [if_neg hk, if_pos z0, if_pos (show (-1 : Int32).toInt < 0 by decide)]
    exact ⟨rfl, rfl⟩
theorem kr_W_mean {x m s t : kw_S} {r q : Int32} (hX : kw_I bX x) (h : kr_W x m) (k : Int32) (e1 : (r, s) = f_X7_mean_0 x k) (e2 : (q, t) = f_X8_mean_0 m k) : r = q := by
  rcases kp_mean hX h k with ⟨f, a, b, -⟩ | ⟨a, b⟩ | ⟨v, a, b⟩
  · rw [a] at e1; rw [b] at e2
    have r1 := congrArg Prod.fst e1
    have r2 := congrArg Prod.fst e2
    exact (r1.trans (kp_refuse1 _ _)).trans (r2.trans (kp_meet1 _ _)).symm
  · rw [a] at e1; rw [b] at e2
    exact (Prod.mk.inj e1).1.trans (Prod.mk.inj e2).1.symm
  · rw [a] at e1; rw [b] at e2
    exact (Prod.mk.inj e1).1.trans (Prod.mk.inj e2).1.symm
