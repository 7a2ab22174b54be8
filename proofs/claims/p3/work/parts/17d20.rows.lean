/-! ===== rows: the class's shelf 1 and the reference's row of rows ===== -/
theorem kp_askedRow (σ : kw_S) (a : Int32) : f_X8_askedRow_0 σ a = if 0 ≤ a.toInt ∧ a.toInt ≤ 5 then (if (σ.1 2 a.toNatClampNeg).toInt < 0 then f_X8_meet_0 σ 1 else (0, σ)) else (-1, σ) := by
  rw [f_X8_askedRow_0_u]
  simp only [kf_lx, kf_bx, kp_isRow]
  by_cases h : 0 ≤ a.toInt ∧ a.toInt ≤ 5
  · rw [if_pos h, if_neg (by decide), if_pos h]
  · rw [if_neg h, if_pos (by decide), if_neg h]
theorem kp_rowAt (σ : kw_S) (a i : Int32) (a0 : 0 ≤ a.toInt) (a1 : a.toInt ≤ 5) (i0 : 0 ≤ i.toInt) (i1 : i.toInt ≤ 1000) : f_X8_rowAt_0 σ a i = σ.1 3 (40 * a.toNatClampNeg + i.toNatClampNeg) := by
  rw [f_X8_rowAt_0_u]
  simp only [kf_lx]
  rw [kp_idx 40 40 a i rfl (by decide) a0 (by omega) i0 (by omega)]
theorem kp_setRow (σ : kw_S) (a i v : Int32) (a0 : 0 ≤ a.toInt) (a1 : a.toInt ≤ 5) (i0 : 0 ≤ i.toInt) (i1 : i.toInt ≤ 1000) : f_X8_setRow_0 σ a i v = kw_ui σ 3 (40 * a.toNatClampNeg + i.toNatClampNeg) v := by
  rw [f_X8_setRow_0_u]
  simp only [kf_lx]
  rw [kp_idx 40 40 a i rfl (by decide) a0 (by omega) i0 (by omega)]
theorem kp_rowL (a b : Int32) (ha0 : 0 ≤ a.toInt) (ha1 : a.toInt ≤ 5) : ∀ (n : Nat) (x : Int32) (S : kw_S), 0 ≤ x.toInt → x.toInt ≤ 40 → (40 - x.toInt).toNat < n → l_X8_row_0_34 a b n x S = (b, kw_ua S 3 (fun j => if 40 * a.toNatClampNeg + x.toNatClampNeg ≤ j ∧ j < 40 * a.toNatClampNeg + 40 then 0 else S.1 3 j)) := by
  intro n
  induction n with
  | zero => intro x S _ _ h; exact absurd h (Nat.not_lt_zero _)
  | succ n ih =>
    intro x S h0 h1 h2
    have c := kw_clampI h0
    rw [l_X8_row_0_34_s]
    by_cases hx : x.toInt < 40
    · have z := kp_inc x (by omega)
      have c1 := kw_clampI (x := x + Int32.ofInt 1) (by omega)
      rw [if_pos (show x.toInt < (40 : Int32).toInt from hx)]
      simp only [kf_lx]
      rw [ih _ _ (by omega) (by omega) (by omega), kp_setRow S a x 0 ha0 ha1 h0 (by omega)]
      refine congrArg (Prod.mk b) (kp_ext (fun c j => ?_) (fun _ _ => rfl))
      simp only [kp_ua, kp_ui]
      by_cases hb : c = 3
      · subst hb
        simp only [if_true, true_and]
        by_cases hj : j = 40 * a.toNatClampNeg + x.toNatClampNeg
        · rw [if_neg (by omega), if_pos hj, if_pos (by omega)]
        · by_cases h3 : 40 * a.toNatClampNeg + x.toNatClampNeg ≤ j ∧ j < 40 * a.toNatClampNeg + 40
          · rw [if_pos (by omega), if_pos h3]
          · rw [if_neg (by omega), if_neg hj, if_neg h3]
      · simp [hb]
    · rw [if_neg (show ¬ x.toInt < (40 : Int32).toInt from hx)]
      refine congrArg (Prod.mk b) (kp_ext (fun c j => ?_) (fun _ _ => rfl))
      simp only [kp_ua]
      by_cases hb : c = 3
      · subst hb
        rw [if_pos rfl, if_neg (by omega)]
      · rw [if_neg hb]
def kr_W (x m : kw_S) : Prop := (∀ t : Nat, t < 6 → (x.1 13 t).toInt < 0 ∧ (m.1 2 t).toInt < 0 ∨ x.1 13 t = m.1 2 t ∧ 0 ≤ (x.1 13 t).toInt) ∧ ∀ t i : Nat, t < 6 → i < 40 → x.1 (29 + t) i = m.1 3 (40 * t + i)
theorem kr_W.cong {x x' m m' : kw_S} (h : kr_W x m) (hx : ∀ a : Nat, a = 13 ∨ 29 ≤ a ∧ a < 35 → x'.1 a = x.1 a) (hm : ∀ a : Nat, a = 2 ∨ a = 3 → m'.1 a = m.1 a) : kr_W x' m' := by
  refine ⟨fun t ht => ?_, fun t i ht hi => ?_⟩
  · rw [hx 13 (Or.inl rfl), hm 2 (Or.inl rfl)]
    exact h.1 t ht
  · rw [hx (29 + t) (by omega), hm 3 (Or.inr rfl)]
    exact h.2 t i ht hi
theorem kr_W.fr {L L' : List Nat} {x x' m m' : kw_S} (h : kr_W x m) (F1 : kw_F L x x') (F2 : kw_FM L' m m') (h1 : ∀ a ∈ L, ¬ (a = 13 ∨ 29 ≤ a ∧ a < 35)) (h2 : ∀ a ∈ L', ¬ (a = 2 ∨ a = 3)) : kr_W x' m' :=
  h.cong (fun a ha => (F1 a (fun q => h1 a q ha)).1) (fun a ha => F2.1 a (by omega) (fun q => h2 a q ha))
theorem kr_W.mix {σ s t : kw_S} (h : kr_W s t) : kr_W (kw_mixM (kw_mixX σ s) t) t :=
  h.cong (fun a ha => by simp [kw_mixM, kw_mixX, show a < 61 by omega]) (fun _ _ => rfl)
/-- a row is made on both sides -/
theorem kr_W_make {x m : kw_S} (h : kr_W x m) (k n : Int32) (k0 : 0 ≤ k.toInt) (k1 : k.toInt < 6) (n0 : 0 ≤ n.toInt) {s t : kw_S} (hs13 : ∀ j : Nat, s.1 13 j = if j = k.toNatClampNeg then n else x.1 13 j) (hs : ∀ r j : Nat, r < 6 → j < 40 → s.1 (29 + r) j = if r = k.toNatClampNeg then 0 else x.1 (29 + r) j) (ht2 : ∀ j : Nat, t.1 2 j = if j = k.toNatClampNeg then n else m.1 2 j) (ht : ∀ r j : Nat, r < 6 → j < 40 → t.1 3 (40 * r + j) = if r = k.toNatClampNeg then 0 else m.1 3 (40 * r + j)) : kr_W s t := by
  refine ⟨fun r hr => ?_, fun r i hr hi => ?_⟩
  · rw [hs13, ht2]
    by_cases e : r = k.toNatClampNeg
    · rw [if_pos e, if_pos e]; exact Or.inr ⟨rfl, n0⟩
    · rw [if_neg e, if_neg e]; exact h.1 r hr
  · rw [hs r i hr hi, ht r i hr hi]
    by_cases e : r = k.toNatClampNeg
    · rw [if_pos e, if_pos e]
    · rw [if_neg e, if_neg e]; exact h.2 r i hr hi
theorem kr_W_row {x m s t : kw_S} {r q : Int32} (hX : kw_I bX x) (h : kr_W x m) (k n : Int32) (e1 : (r, s) = f_X7_row_0 x k n) (e2 : (q, t) = f_X8_row_0 m k n) : kr_W s t ∧ r = q := by
  rw [f_X7_row_0_u] at e1
  simp only [kf_bx] at e1
  rw [f_X7_makeOn_0_1_u] at e1
  rw [f_X8_row_0_u] at e2
  have q40 : (40 : Int32).toInt = 40 := rfl
  have hr : 40 ≤ (x.1 1 0).toInt ∧ (x.1 1 0).toInt ≤ 40 := hX 1 0
  simp only [kf_lx, kf_bx, kp_has1] at e1
  simp only [kf_lx, kf_bx, kp_isRow] at e2
  by_cases hk : 0 ≤ k.toInt ∧ k.toInt < 6
  · rw [if_pos hk, if_neg (by decide)] at e1
    rw [if_pos (show 0 ≤ k.toInt ∧ k.toInt ≤ 5 by omega), if_neg (by decide)] at e2
    by_cases hn : 40 < n.toInt
    · rw [if_pos (by omega)] at e1
      rw [if_pos (by omega)] at e2
      cases e1; cases e2
      exact ⟨h, rfl⟩
    · rw [if_neg (by omega)] at e1
      rw [if_neg (by omega)] at e2
      by_cases h0 : n.toInt < 0
      · rw [if_pos h0] at e1 e2
        cases e1; cases e2
        exact ⟨h.cong (fun a ha => kp_refuse2 _ _ a (by omega) (by omega)) (fun a ha => kp_meet2 _ _ a (by omega) (by omega)), (kp_refuse1 _ _).trans (kp_meet1 _ _).symm⟩
      · rw [if_neg h0] at e1 e2
        rw [kp_make1 x (by omega) k n 0 hk.1 hk.2 (by omega) (by omega)] at e1
        rw [kp_rowL k n hk.1 (by omega) _ _ _ (by decide) (by decide) (by rw [kp_q0]; omega)] at e2
        have c := kw_clampI hk.1
        have q0 : (0 : Int32).toNatClampNeg = 0 := rfl
        obtain ⟨r1, s1⟩ := Prod.mk.inj e1
        obtain ⟨r2, s2⟩ := Prod.mk.inj e2
        refine ⟨kr_W_make h k n hk.1 hk.2 (by omega) (fun j => ?_) (fun r j hr hj => ?_) (fun j => ?_) (fun r j hr hj => ?_), by rw [r1, r2]⟩
        · rw [s1, kp_ua, if_neg (by omega), kp_ui]
          by_cases e : j = k.toNatClampNeg
          · rw [if_pos ⟨rfl, e⟩, if_pos e]
          · rw [if_neg (fun z => e z.2), if_neg e]
        · rw [s1, kp_ua, kp_ui, if_neg (show ¬ (29 + r = 13 ∧ j = k.toNatClampNeg) by omega)]
          by_cases e : r = k.toNatClampNeg
          · rw [if_pos (show 29 + r = 29 + k.toNatClampNeg by omega), if_pos (show j < 40 from hj), if_pos e]
          · rw [if_neg (show ¬ 29 + r = 29 + k.toNatClampNeg by omega), if_neg e]
        · rw [s2, kp_ua, if_neg (show ¬ 2 = 3 by decide), kp_ui]
          by_cases e : j = k.toNatClampNeg
          · rw [if_pos (show 2 = 2 ∧ j = k.toNatClampNeg from ⟨rfl, e⟩), if_pos e]
          · rw [if_neg (show ¬ (2 = 2 ∧ j = k.toNatClampNeg) from fun z => e z.2), if_neg e]
        · rw [s2, kp_ua, if_pos rfl, kp_ui, if_neg (show ¬ (3 = 2 ∧ 40 * r + j = k.toNatClampNeg) by omega), q0]
          by_cases e : r = k.toNatClampNeg
          · rw [if_pos (show 40 * k.toNatClampNeg + 0 ≤ 40 * r + j ∧ 40 * r + j < 40 * k.toNatClampNeg + 40 by omega), if_pos e]
          · rw [if_neg (show ¬ (40 * k.toNatClampNeg + 0 ≤ 40 * r + j ∧ 40 * r + j < 40 * k.toNatClampNeg + 40) by omega), if_neg e]
  · rw [if_neg hk, if_pos (by decide)] at e1
    rw [if_neg (show ¬ (0 ≤ k.toInt ∧ k.toInt ≤ 5) by omega), if_pos (by decide)] at e2
    cases e1; cases e2
    exact ⟨h, rfl⟩
theorem kw_FM_meet (m : kw_S) (w : Int32) : kw_FM [1, 1000] m (f_X8_meet_0 m w).2 := by
  rw [f_X8_meet_0_u]
  simp only [kf_lx]
  exact kw_FM_ui (kw_FM_ui0 kw_FM.rf (by decide)) (by decide) (by decide)
/-- at: refused on both sides alike, or the same number told -/
theorem kp_at {x m : kw_S} (hX : kw_I bX x) (h : kr_W x m) (k i : Int32) : ((0 ≤ k.toInt ∧ k.toInt < 6) ∧ ¬ (0 ≤ i.toInt ∧ i.toInt < (x.1 13 k.toNatClampNeg).toInt) ∧ ∃ f : Int32, f_X7_at_0 x k i = (f_X4_refuse_8 x f) ∧ f_X8_at_0 m k i = f_X8_meet_0 m f ∧ (f = 1 ∨ f = 2)) ∨ (f_X7_at_0 x k i = (-1, x) ∧ f_X8_at_0 m k i = (-1, m) ∧ ¬ (0 ≤ k.toInt ∧ k.toInt < 6)) ∨ (0 ≤ k.toInt ∧ k.toInt < 6 ∧ 0 ≤ i.toInt ∧ i.toInt < (x.1 13 k.toNatClampNeg).toInt ∧ (x.1 13 k.toNatClampNeg).toInt ≤ 40 ∧ f_X7_at_0 x k i = (1, kw_ui x 8 2 (x.1 (29 + k.toNatClampNeg) i.toNatClampNeg)) ∧ f_X8_at_0 m k i = (1, kw_ui m 0 2 (x.1 (29 + k.toNatClampNeg) i.toNatClampNeg))) := by
  have hb : ∀ j : Nat, -1 ≤ (x.1 13 j).toInt ∧ (x.1 13 j).toInt ≤ 40 := fun j => hX 13 j
  rw [f_X7_at_0_u, f_X8_at_0_u]
  simp only [kf_lx, kf_bx, kp_has1, kp_askedRow]
  by_cases hk : 0 ≤ k.toInt ∧ k.toInt < 6
  · have hk5 : 0 ≤ k.toInt ∧ k.toInt ≤ 5 := by omega
    have c := kw_clampI hk.1
    have hbk := hb k.toNatClampNeg
    rw [if_pos hk, if_neg (by decide), kp_find1 x hb k i hk.1 hk.2]
    simp only [if_pos hk5]
    rcases h.1 k.toNatClampNeg (by omega) with ⟨g1, g2⟩ | ⟨g1, g2⟩
    · simp only [if_pos g1, if_pos g2]
      left
      refine ⟨hk, by omega, 1, ?_, ?_, Or.inl rfl⟩
      · rw [if_neg (by decide)]
      · rw [if_pos (by rw [kp_meet1]; decide)]
    · have g3 : ¬ (m.1 2 k.toNatClampNeg).toInt < 0 := by rw [← g1]; omega
      have g4 : ¬ (x.1 13 k.toNatClampNeg).toInt < 0 := by omega
      simp only [if_neg g3, if_neg g4]
      rw [if_neg (show ¬ (0 : Int32).toInt < 0 by decide), ← g1, kp_in]
      have es : (x.1 13 k.toNatClampNeg - 1).toInt = (x.1 13 k.toNatClampNeg).toInt - 1 := by rw [kw_subI, kp_q1]; omega
      by_cases hi : 0 ≤ i.toInt ∧ i.toInt < (x.1 13 k.toNatClampNeg).toInt
      · right; right
        have ci := kw_clampI hi.1
        have hi2 : (0 : Int32).toInt ≤ i.toInt ∧ i.toInt ≤ (x.1 13 k.toNatClampNeg - 1).toInt := by rw [kp_q0]; omega
        simp only [if_pos hi, if_pos hi2]
        rw [if_pos (show (0 : Int32).toInt = 0 from rfl), if_neg (show ¬ (1 : Int32).toInt = 0 by decide), kp_value1 x hb, if_pos (show 0 ≤ k.toInt ∧ k.toInt < 6 ∧ 0 ≤ i.toInt ∧ i.toInt < (x.1 13 k.toNatClampNeg).toInt by omega), kp_rowAt m k i hk.1 hk5.2 hi.1 (by omega), ← h.2 k.toNatClampNeg i.toNatClampNeg (by omega) (by omega), f_X4_answer_8_u, f_X8_ask_0_u]
        exact ⟨hk.1, hk.2, hi.1, hi.2, hbk.2, rfl, rfl⟩
      · left
        have hi2 : ¬ ((0 : Int32).toInt ≤ i.toInt ∧ i.toInt ≤ (x.1 13 k.toNatClampNeg - 1).toInt) := by rw [kp_q0]; omega
        simp only [if_neg hi, if_neg hi2]
        refine ⟨hk, hi, 2, ?_, ?_, Or.inr rfl⟩
        · rw [if_neg (by decide)]
        · rw [if_pos (show (0 : Int32).toInt = 0 from rfl)]
  · right; left
    have hk5 : ¬ (0 ≤ k.toInt ∧ k.toInt ≤ 5) := by omega
    simp only [if_neg hk, if_neg hk5]
    refine ⟨?_, ?_, hk⟩
    · rw [if_pos (show (0 : Int32).toInt = 0 from rfl)]
    · rw [if_pos (by decide)]
theorem kr_W_at {x m s t : kw_S} {r q : Int32} (hX : kw_I bX x) (h : kr_W x m) (k i : Int32) (e1 : (r, s) = f_X7_at_0 x k i) (e2 : (q, t) = f_X8_at_0 m k i) : r = q := by
  rcases kp_at hX h k i with ⟨-, -, f, a, b, -⟩ | ⟨a, b, -⟩ | ⟨-, -, -, -, -, a, b⟩
  · rw [a] at e1; rw [b] at e2
    have r1 := congrArg Prod.fst e1
    have r2 := congrArg Prod.fst e2
    exact (r1.trans (kp_refuse1 _ _)).trans (r2.trans (kp_meet1 _ _)).symm
  · rw [a] at e1; rw [b] at e2
    cases e1; cases e2; rfl
  · rw [a] at e1; rw [b] at e2
    cases e1; cases e2; rfl
