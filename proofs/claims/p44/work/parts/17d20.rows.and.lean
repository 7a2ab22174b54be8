section
/-! ===== rows: the class's shelf 1 and the reference's row of rows ===== -/
theorem kp_askedRow (σ : kw_S) (a : Int32) : f_X8_askedRow_0 σ a = if 0 ≤ a.toInt ∧ a.toInt ≤ 5 then (if (σ.1 2 a.toNatClampNeg).toInt < 0 then f_X8_meet_0 σ 1 else (0, σ)) else (-1, σ) := by
  rw [f_X8_askedRow_0_u]
  simp only [kf_lx, kf_bx, kp_isRow]
  by_cases h : 0 ≤ a.toInt ∧ a.toInt ≤ 5
  · rw [if_pos h, if_neg (by decide), if_pos h]
  · rw [if_neg h, if_pos (by decide), if_neg h]
theorem kp_rowAt (σ : kw_S) (a i : Int32) (a0 : 0 ≤ a.toInt) (a1 : a.toInt ≤ 5) (i0 : 0 ≤ i.toInt) (i1 : i.toInt ≤ 1000) : f_X8_rowAt_0 σ a i = σ.1 3 (40 * a.toNatClampNeg + i.toNatClampNeg) := by
  rw [f_X8_rowAt_0_u]
  simp only [kf_lx]
  rw [kp_idx 40 40 a i rfl (by decide) a0 (by omega) i0 (by omega)]
theorem kp_setRow (σ : kw_S) (a i v : Int32) (a0 : 0 ≤ a.toInt) (a1 : a.toInt ≤ 5) (i0 : 0 ≤ i.toInt) (i1 : i.toInt ≤ 1000) : f_X8_setRow_0 σ a i v = kw_ui σ 3 (40 * a.toNatClampNeg + i.toNatClampNeg) v := by
  rw [f_X8_setRow_0_u]
  simp only [kf_lx]
  rw [kp_idx 40 40 a i rfl (by decide) a0 (by omega) i0 (by omega)]
theorem kp_rowL (a b : Int32) (ha0 : 0 ≤ a.toInt) (ha1 : a.toInt ≤ 5) : ∀ (n : Nat) (x : Int32) (S : kw_S), 0 ≤ x.toInt → x.toInt ≤ 40 → (40 - x.toInt).toNat < n → l_X8_row_0_34 a b n x S = (b, kw_ua S 3 (fun j => if 40 * a.toNatClampNeg + x.toNatClampNeg ≤ j ∧ j < 40 * a.toNatClampNeg + 40 then 0 else S.1 3 j)) := by
  intro n
  induction n with
  | zero => intro x S _ _ h; exact absurd h (Nat.not_lt_zero _)
  | succ n ih =>
    intro x S h0 h1 h2
    have c := kw_clampI h0
    rw [l_X8_row_0_34_s]
    by_cases hx : x.toInt < 40
    · have z := kp_inc x (by omega)
      have c1 := kw_clampI (x := x + Int32.ofInt 1) (by omega)
      rw [if_pos (show x.toInt < (40 : Int32).toInt from hx)]
      simp only [kf_lx]
      rw [ih _ _ (by omega) (by omega) (by omega), kp_setRow S a x 0 ha0 ha1 h0 (by omega)]
      refine congrArg (Prod.mk b) (kp_ext (fun c j => ?_) (fun _ _ => rfl))
      simp only [kp_ua, kp_ui]
      by_cases hb : c = 3
      · subst hb
        simp only [if_true, true_and]
        by_cases hj : j = 40 * a.toNatClampNeg + x.toNatClampNeg
        · rw [if_neg (by omega), if_pos hj, if_pos (by omega)]
        · by_cases h3 : 40 * a.toNatClampNeg + x.toNatClampNeg ≤ j ∧ j < 40 * a.toNatClampNeg + 40
          · rw [if_pos (by omega), if_pos h3]
          · rw [if_neg (by omega), if_neg hj, if_neg h3]
      · simp [hb]
    · rw [if_neg (show ¬ x.toInt < (40 : Int32).toInt from hx)]
      refine congrArg (Prod.mk b) (kp_ext (fun c j => ?_) (fun _ _ => rfl))
      simp only [kp_ua]
      by_cases hb : c = 3
      · subst hb
        rw [if_pos rfl, if_neg (by omega)]
      · rw [if_neg hb]
def kr_W (x m : kw_S) : Prop := (∀ t : Nat, t < 6 → (x.1 13 t).toInt < 0 ∧ (m.1 2 t).toInt < 0 ∨ x.1 13 t = m.1 2 t ∧ 0 ≤ (x.1 13 t).toInt) ∧ ∀ t i : Nat, t < 6 → i < 40 → x.1 (29 + t) i = m.1 3 (40 * t + i)
theorem kr_W.cong {x x' m m' : kw_S} (h : kr_W x m) (hx : ∀ a : Nat, a = 13 ∨ 29 ≤ a ∧ a < 35 → x'.1 a = x.1 a) (hm : ∀ a : Nat, a = 2 ∨ a = 3 → m'.1 a = m.1 a) : kr_W x' m' := by
  refine ⟨fun t ht => ?_, fun t i ht hi => ?_⟩
  · rw [hx 13 (Or.inl rfl), hm 2 (Or.inl rfl)]
    exact h.1 t ht
  · rw [hx (29 + t) (by omega), hm 3 (Or.inr rfl)]
    exact h.2 t i ht hi
theorem kr_W.fr {L L' : List Nat} {x x' m m' : kw_S} (h : kr_W x m) (F1 : kw_F L x x') (F2 : kw_FM L' m m') (h1 : ∀ a ∈ L, ¬ (a = 13 ∨ 29 ≤ a ∧ a < 35)) (h2 : ∀ a ∈ L', ¬ (a = 2 ∨ a = 3)) : kr_W x' m' :=
  h.cong (fun a ha => (F1 a (fun q => h1 a q ha)).1) (fun a ha => F2.1 a (by omega) (fun q => h2 a q ha))
theorem kr_W.mix {σ s t : kw_S} (h : kr_W s t) : kr_W (kw_mixM (kw_mixX σ s) t) t :=
  h.cong (fun a ha => by simp [kw_mixM, kw_mixX, show a < 61 by omega]) (fun _ _ => rfl)
/-- a row is made on both sides -/
theorem kr_W_make {x m : kw_S} (h : kr_W x m) (k n : Int32) (k0 : 0 ≤ k.toInt) (k1 : k.toInt < 6) (n0 : 0 ≤ n.toInt) {s t : kw_S} (hs13 : ∀ j : Nat, s.1 13 j = if j = k.toNatClampNeg then n else x.1 13 j) (hs : ∀ r j : Nat, r < 6 → j < 40 → s.1 (29 + r) j = if r = k.toNatClampNeg then 0 else x.1 (29 + r) j) (ht2 : ∀ j : Nat, t.1 2 j = if j = k.toNatClampNeg then n else m.1 2 j) (ht : ∀ r j : Nat, r < 6 → j < 40 → t.1 3 (40 * r + j) = if r = k.toNatClampNeg then 0 else m.1 3 (40 * r + j)) : kr_W s t := by
  refine ⟨fun r hr => ?_, fun r i hr hi => ?_⟩
  · rw [hs13, ht2]
    by_cases e : r = k.toNatClampNeg
    · rw [if_pos e, if_pos e]; exact Or.inr ⟨rfl, n0⟩
    · rw [if_neg e, if_neg e]; exact h.1 r hr
  · rw [hs r i hr hi, ht r i hr hi]
    by_cases e : r = k.toNatClampNeg
    · rw [if_pos e, if_pos e]
    · rw [if_neg e, if_neg e]; exact h.2 r i hr hi
theorem kr_W_row {x m s t : kw_S} {r q : Int32} (hX : kw_I bX x) (h : kr_W x m) (k n : Int32) (e1 : (r, s) = f_X7_row_0 x k n) (e2 : (q, t) = f_X8_row_0 m k n) : kr_W s t ∧ r = q := by
  rw [f_X7_row_0_u] at e1
  simp only [kf_bx] at e1
  rw [f_X7_makeOn_0_1_u] at e1
  rw [f_X8_row_0_u] at e2
  have q40 : (40 : Int32).toInt = 40 := rfl
  have hr : 40 ≤ (x.1 1 0).toInt ∧ (x.1 1 0).toInt ≤ 40 := hX 1 0
  simp only [kf_lx, kf_bx, kp_has1] at e1
  simp only [kf_lx, kf_bx, kp_isRow] at e2
  by_cases hk : 0 ≤ k.toInt ∧ k.toInt < 6
  · rw [if_pos hk, if_neg (by decide)] at e1
    rw [if_pos (show 0 ≤ k.toInt ∧ k.toInt ≤ 5 by omega), if_neg (by decide)] at e2
    by_cases hn : 40 < n.toInt
    · rw [if_pos (by omega)] at e1
      rw [if_pos (by omega)] at e2
      cases e1; cases e2
      exact ⟨h, rfl⟩
    · rw [if_neg (by omega)] at e1
      rw [if_neg (by omega)] at e2
      by_cases h0 : n.toInt < 0
      · rw [if_pos h0] at e1 e2
        cases e1; cases e2
        exact ⟨h.cong (fun a ha => kp_refuse2 _ _ a (by omega) (by omega)) (fun a ha => kp_meet2 _ _ a (by omega) (by omega)), (kp_refuse1 _ _).trans (kp_meet1 _ _).symm⟩
      · rw [if_neg h0] at e1 e2
        rw [kp_make1 x (by omega) k n 0 hk.1 hk.2 (by omega) (by omega)] at e1
        rw [kp_rowL k n hk.1 (by omega) _ _ _ (by decide) (by decide) (by rw [kp_q0]; omega)] at e2
        have c := kw_clampI hk.1
        have q0 : (0 : Int32).toNatClampNeg = 0 := rfl
        obtain ⟨r1, s1⟩ := Prod.mk.inj e1
        obtain ⟨r2, s2⟩ := Prod.mk.inj e2
        refine ⟨kr_W_make h k n hk.1 hk.2 (by omega) (fun j => ?_) (fun r j hr hj => ?_) (fun j => ?_) (fun r j hr hj => ?_), by rw [r1, r2]⟩
        · rw [s1, kp_ua, if_neg (by omega), kp_ui]
          by_cases e : j = k.toNatClampNeg
          · rw [if_pos ⟨rfl, e⟩, if_pos e]
          · rw [if_neg (fun z => e z.2), if_neg e]
        · rw [s1, kp_ua, kp_ui, if_neg (show ¬ (29 + r = 13 ∧ j = k.toNatClampNeg) by omega)]
          by_cases e : r = k.toNatClampNeg
          · rw [if_pos (show 29 + r = 29 + k.toNatClampNeg by omega), if_pos (show j < 40 from hj), if_pos e]
          · rw [if_neg (show ¬ 29 + r = 29 + k.toNatClampNeg by omega), if_neg e]
        · rw [s2, kp_ua, if_neg (show ¬ 2 = 3 by decide), kp_ui]
          by_cases e : j = k.toNatClampNeg
          · rw [if_pos (show 2 = 2 ∧ j = k.toNatClampNeg from ⟨rfl, e⟩), if_pos e]
          · rw [if_neg (show ¬ (2 = 2 ∧ j = k.toNatClampNeg) from fun z => e z.2), if_neg e]
        · rw [s2, kp_ua, if_pos rfl, kp_ui, if_neg (show ¬ (3 = 2 ∧ 40 * r + j = k.toNatClampNeg) by omega), q0]
          by_cases e : r = k.toNatClampNeg
          · rw [if_pos (show 40 * k.toNatClampNeg + 0 ≤ 40 * r + j ∧ 40 * r + j < 40 * k.toNatClampNeg + 40 by omega), if_pos e]
          · rw [if_neg (show ¬ (40 * k.toNatClampNeg + 0 ≤ 40 * r + j ∧ 40 * r + j < 40 * k.toNatClampNeg + 40) by omega), if_neg e]
  · rw [if_neg hk, if_pos (by decide)] at e1
    rw [if_neg (show ¬ (0 ≤ k.toInt ∧ k.toInt ≤ 5) by omega), if_pos (by decide)] at e2
    cases e1; cases e2
    exact ⟨h, rfl⟩
theorem kw_FM_meet (m : kw_S) (w : Int32) : kw_FM [1, 1000] m (f_X8_meet_0 m w).2 := by
  rw [f_X8_meet_0_u]
  simp only [kf_lx]
  exact kw_FM_ui (kw_FM_ui0 kw_FM.rf (by decide)) (by decide) (by decide)
/-- at: refused on both sides alike, or the same number told -/
theorem kp_at {x m : kw_S} (hX : kw_I bX x) (h : kr_W x m) (k i : Int32) : ((0 ≤ k.toInt ∧ k.toInt < 6) ∧ ¬ (0 ≤ i.toInt ∧ i.toInt < (x.1 13 k.toNatClampNeg).toInt) ∧ ∃ f : Int32, f_X7_at_0 x k i = (f_X4_refuse_8 x f) ∧ f_X8_at_0 m k i = f_X8_meet_0 m f ∧ (f = 1 ∨ f = 2)) ∨ (f_X7_at_0 x k i = (-1, x) ∧ f_X8_at_0 m k i = (-1, m) ∧ ¬ (0 ≤ k.toInt ∧ k.toInt < 6)) ∨ (0 ≤ k.toInt ∧ k.toInt < 6 ∧ 0 ≤ i.toInt ∧ i.toInt < (x.1 13 k.toNatClampNeg).toInt ∧ (x.1 13 k.toNatClampNeg).toInt ≤ 40 ∧ f_X7_at_0 x k i = (1, kw_ui x 8 2 (x.1 (29 + k.toNatClampNeg) i.toNatClampNeg)) ∧ f_X8_at_0 m k i = (1, kw_ui m 0 2 (x.1 (29 + k.toNatClampNeg) i.toNatClampNeg))) := by
  have hb : ∀ j : Nat, -1 ≤ (x.1 13 j).toInt ∧ (x.1 13 j).toInt ≤ 40 := fun j => hX 13 j
  rw [f_X7_at_0_u, f_X8_at_0_u]
  simp only [kf_lx, kf_bx, kp_has1, kp_askedRow]
  by_cases hk : 0 ≤ k.toInt ∧ k.toInt < 6
  · have hk5 : 0 ≤ k.toInt ∧ k.toInt ≤ 5 := by omega
    have c := kw_clampI hk.1
    have hbk := hb k.toNatClampNeg
    rw [if_pos hk, if_neg (by decide), kp_find1 x hb k i hk.1 hk.2]
    simp only [if_pos hk5]
    rcases h.1 k.toNatClampNeg (by omega) with ⟨g1, g2⟩ | ⟨g1, g2⟩
    · simp only [if_pos g1, if_pos g2]
      left
      refine ⟨hk, by omega, 1, ?_, ?_, Or.inl rfl⟩
      · rw [if_neg (by decide)]
      · rw [if_pos (by rw [kp_meet1]; decide)]
    · have g3 : ¬ (m.1 2 k.toNatClampNeg).toInt < 0 := by rw [← g1]; omega
      have g4 : ¬ (x.1 13 k.toNatClampNeg).toInt < 0 := by omega
      simp only [if_neg g3, if_neg g4]
      rw [if_neg (show ¬ (0 : Int32).toInt < 0 by decide), ← g1, kp_in]
      have es : (x.1 13 k.toNatClampNeg - 1).toInt = (x.1 13 k.toNatClampNeg).toInt - 1 := by rw [kw_subI, kp_q1]; omega
      by_cases hi : 0 ≤ i.toInt ∧ i.toInt < (x.1 13 k.toNatClampNeg).toInt
      · right; right
        have ci := kw_clampI hi.1
        have hi2 : (0 : Int32).toInt ≤ i.toInt ∧ i.toInt ≤ (x.1 13 k.toNatClampNeg - 1).toInt := by rw [kp_q0]; omega
        simp only [if_pos hi, if_pos hi2]
        rw [if_pos (show (0 : Int32).toInt = 0 from rfl), if_neg (show ¬ (1 : Int32).toInt = 0 by decide), kp_value1 x hb, if_pos (show 0 ≤ k.toInt ∧ k.toInt < 6 ∧ 0 ≤ i.toInt ∧ i.toInt < (x.1 13 k.toNatClampNeg).toInt by omega), kp_rowAt m k i hk.1 hk5.2 hi.1 (by omega), ← h.2 k.toNatClampNeg i.toNatClampNeg (by omega) (by omega), f_X4_answer_8_u, f_X8_ask_0_u]
        exact ⟨hk.1, hk.2, hi.1, hi.2, hbk.2, rfl, rfl⟩
      · left
        have hi2 : ¬ ((0 : Int32).toInt ≤ i.toInt ∧ i.toInt ≤ (x.1 13 k.toNatClampNeg - 1).toInt) := by rw [kp_q0]; omega
        simp only [if_neg hi, if_neg hi2]
        refine ⟨hk, hi, 2, ?_, ?_, Or.inr rfl⟩
        · rw [if_neg (by decide)]
        · rw [if_pos (show (0 : Int32).toInt = 0 from rfl)]
  · right; left
    have hk5 : ¬ (0 ≤ k.toInt ∧ k.toInt ≤ 5) := by omega
    simp only [if_neg hk, if_neg hk5]
    refine ⟨?_, ?_, hk⟩
    · rw [if_pos (show (0 : Int32).toInt = 0 from rfl)]
    · rw [if_pos (by decide)]
theorem kr_W_at {x m s t : kw_S} {r q : Int32} (hX : kw_I bX x) (h : kr_W x m) (k i : Int32) (e1 : (r, s) = f_X7_at_0 x k i) (e2 : (q, t) = f_X8_at_0 m k i) : r = q := by
  rcases kp_at hX h k i with ⟨-, -, f, a, b, -⟩ | ⟨a, b, -⟩ | ⟨-, -, -, -, -, a, b⟩
  · rw [a] at e1; rw [b] at e2
    have r1 := congrArg Prod.fst e1
    have r2 := congrArg Prod.fst e2
    exact (r1.trans (kp_refuse1 _ _)).trans (r2.trans (kp_meet1 _ _)).symm
  · rw [a] at e1; rw [b] at e2
    cases e1; cases e2; rfl
  · rw [a] at e1; rw [b] at e2
    cases e1; cases e2; rfl
end
section
/-! ===== rows 2: lay, tear, copy, mean ===== -/
theorem kp_nofind (x : kw_S) (hb : ∀ j : Nat, -1 ≤ (x.1 13 j).toInt ∧ (x.1 13 j).toInt ≤ 40) (k i : Int32) (k0 : 0 ≤ k.toInt) (k1 : k.toInt < 6) (hi : ¬ (0 ≤ i.toInt ∧ i.toInt < (x.1 13 k.toNatClampNeg).toInt)) : ¬ (f_X3_findingAt_1 x k i).toInt = 0 := by
  rw [kp_find1 x hb k i k0 k1]
  by_cases g : (x.1 13 k.toNatClampNeg).toInt < 0
  · rw [if_pos g]; decide
  · rw [if_neg g, if_neg hi]; decide
theorem kp_yesfind (x : kw_S) (hb : ∀ j : Nat, -1 ≤ (x.1 13 j).toInt ∧ (x.1 13 j).toInt ≤ 40) (k i : Int32) (k0 : 0 ≤ k.toInt) (k1 : k.toInt < 6) (hi : 0 ≤ i.toInt ∧ i.toInt < (x.1 13 k.toNatClampNeg).toInt) : (f_X3_findingAt_1 x k i).toInt = 0 := by
  rw [kp_find1 x hb k i k0 k1, if_neg (by omega), if_pos hi]
  rfl
theorem kr_W.no {x m : kw_S} (h : kr_W x m) (f g : Int32) : kr_W (f_X4_refuse_8 x f).2 (f_X8_meet_0 m g).2 :=
  h.cong (fun a ha => kp_refuse2 _ _ a (by omega) (by omega)) (fun a ha => kp_meet2 _ _ a (by omega) (by omega))
theorem kr_W_lay {x m s t : kw_S} {r q : Int32} (hX : kw_I bX x) (h : kr_W x m) (k i v : Int32) (e1 : (r, s) = f_X7_lay_0 x k i v) (e2 : (q, t) = f_X8_lay_0 m k i v) : kr_W s t ∧ r = q := by
  have hb : ∀ j : Nat, -1 ≤ (x.1 13 j).toInt ∧ (x.1 13 j).toInt ≤ 40 := fun j => hX 13 j
  rw [f_X7_lay_0_u] at e1
  rw [f_X8_lay_0_u] at e2
  simp only [kf_lx, kf_bx, kp_has1] at e1
  simp only [kf_lx, kf_bx] at e2
  rcases kp_at hX h k i with ⟨hk, hi, f, -, b, -⟩ | ⟨-, b, hk⟩ | ⟨k0, k1, i0, i1, i2, -, b⟩
  · rw [if_pos hk, if_neg (show ¬ (1 : Int32).toInt = 0 by decide), if_neg (kp_nofind x hb k i hk.1 hk.2 hi)] at e1
    rw [b, if_pos (by rw [kp_meet1]; decide)] at e2
    obtain ⟨r1, s1⟩ := Prod.mk.inj e1
    obtain ⟨r2, s2⟩ := Prod.mk.inj e2
    rw [s1, s2, r1, r2, kp_refuse1, kp_meet1]
    exact ⟨h.no _ _, rfl⟩
  · rw [if_neg hk, if_pos (show (0 : Int32).toInt = 0 from rfl)] at e1
    rw [b] at e2
    dsimp only at e2
    rw [if_pos (show (-1 : Int32).toInt < 0 by decide)] at e2
    obtain ⟨r1, s1⟩ := Prod.mk.inj e1
    obtain ⟨r2, s2⟩ := Prod.mk.inj e2
    rw [s1, s2, r1, r2]
    exact ⟨h, rfl⟩
  · have hk : 0 ≤ k.toInt ∧ k.toInt < 6 := ⟨k0, k1⟩
    have hc : 0 ≤ k.toInt ∧ k.toInt < 6 ∧ 0 ≤ i.toInt ∧ i.toInt < (x.1 13 k.toNatClampNeg).toInt := ⟨k0, k1, i0, i1⟩
    have ck := kw_clampI k0
    have ci := kw_clampI i0
    rw [if_pos hk, if_neg (show ¬ (1 : Int32).toInt = 0 by decide), if_pos (kp_yesfind x hb k i k0 k1 ⟨i0, i1⟩), kp_change1 x hb, if_pos hc, f_X4_answer_8_u] at e1
    rw [b] at e2
    dsimp only at e2
    rw [if_neg (show ¬ (1 : Int32).toInt < 0 by decide), kp_setRow _ k i v k0 (by omega) i0 (by omega)] at e2
    obtain ⟨r1, s1⟩ := Prod.mk.inj e1
    obtain ⟨r2, s2⟩ := Prod.mk.inj e2
    dsimp only at s1 r1
    rw [r1, r2]
    refine ⟨⟨fun c hc => ?_, fun c j hc hj => ?_⟩, rfl⟩
    · have a1 : s.1 13 c = x.1 13 c := by rw [s1, kp_ui, if_neg (by omega), kp_ui, if_neg (by omega)]
      have a2 : t.1 2 c = m.1 2 c := by rw [s2, kp_ui, if_neg (by omega), kp_ui, if_neg (by omega)]
      rw [a1, a2]
      exact h.1 c hc
    · rw [s1, s2, kp_ui, if_neg (by omega), kp_ui, kp_ui]
      by_cases e : c = k.toNatClampNeg ∧ j = i.toNatClampNeg
      · rw [if_pos (by omega), if_pos (by omega)]
      · rw [if_neg (by omega), if_neg (by omega), kp_ui, if_neg (by omega)]
        exact h.2 c j hc hj
theorem kr_W_tear {x m s t : kw_S} {r q : Int32} (h : kr_W x m) (k : Int32) (e1 : (r, s) = f_X7_tear_0 x k) (e2 : (q, t) = f_X8_tear_0 m k) : kr_W s t ∧ r = q := by
  rw [f_X7_tear_0_u] at e1
  rw [f_X8_tear_0_u] at e2
  simp only [kf_lx, kf_bx, kp_has1, kp_miss1] at e1
  simp only [kf_lx, kf_bx, kp_askedRow] at e2
  by_cases hk : 0 ≤ k.toInt ∧ k.toInt < 6
  · have hk5 : 0 ≤ k.toInt ∧ k.toInt ≤ 5 := by omega
    have c := kw_clampI hk.1
    simp only [if_pos hk5] at e2
    rw [if_pos hk, if_neg (show ¬ (1 : Int32).toInt = 0 by decide)] at e1
    rcases h.1 k.toNatClampNeg (by omega) with ⟨g1, g2⟩ | ⟨g1, g2⟩
    · rw [if_neg (show ¬ (0 ≤ k.toInt ∧ k.toInt < 6 ∧ 0 ≤ (x.1 13 k.toNatClampNeg).toInt) by omega), if_neg (show ¬ (1 : Int32).toInt = 0 by decide)] at e1
      simp only [if_pos g2] at e2
      rw [if_pos (by rw [kp_meet1]; decide)] at e2
      obtain ⟨r1, s1⟩ := Prod.mk.inj e1
      obtain ⟨r2, s2⟩ := Prod.mk.inj e2
      rw [s1, s2, r1, r2, kp_refuse1, kp_meet1]
      exact ⟨h.no _ _, rfl⟩
    · have g3 : ¬ (m.1 2 k.toNatClampNeg).toInt < 0 := by rw [← g1]; omega
      simp only [if_neg g3] at e2
      rw [if_neg (show ¬ (0 : Int32).toInt < 0 by decide)] at e2
      rw [if_pos (show 0 ≤ k.toInt ∧ k.toInt < 6 ∧ 0 ≤ (x.1 13 k.toNatClampNeg).toInt from ⟨hk.1, hk.2, g2⟩), if_pos (show (0 : Int32).toInt = 0 from rfl), f_X3_drop_1_u] at e1
      simp only [kf_lx, kp_has1] at e1
      rw [if_pos hk, if_neg (show ¬ (1 : Int32).toInt = 0 by decide)] at e1
      obtain ⟨r1, s1⟩ := Prod.mk.inj e1
      obtain ⟨r2, s2⟩ := Prod.mk.inj e2
      rw [r1, r2]
      refine ⟨⟨fun c hc => ?_, fun c j hc hj => ?_⟩, rfl⟩
      · rw [s1, s2, kp_ui, kp_ui]
        by_cases e : c = k.toNatClampNeg
        · rw [if_pos ⟨rfl, e⟩, if_pos ⟨rfl, e⟩]
          exact Or.inl ⟨by decide, by decide⟩
        · rw [if_neg (fun z => e z.2), if_neg (fun z => e z.2)]
          exact h.1 c hc
      · rw [s1, s2, kp_ui, if_neg (by omega), kp_ui, if_neg (by omega)]
        exact h.2 c j hc hj
  · have hk5 : ¬ (0 ≤ k.toInt ∧ k.toInt ≤ 5) := by omega
    simp only [if_neg hk5] at e2
    rw [if_pos (show (-1 : Int32).toInt < 0 by decide)] at e2
    rw [if_neg hk, if_pos (show (0 : Int32).toInt = 0 from rfl)] at e1
    obtain ⟨r1, s1⟩ := Prod.mk.inj e1
    obtain ⟨r2, s2⟩ := Prod.mk.inj e2
    rw [s1, s2, r1, r2]
    exact ⟨h, rfl⟩
theorem kp_placesB (σ : kw_S) (hb : ∀ j : Nat, -1 ≤ (σ.1 13 j).toInt ∧ (σ.1 13 j).toInt ≤ 40) (k f n : Int32) (hn : 0 ≤ n.toInt) : f_X3_hasPlaces_1 σ k f n = if 0 ≤ k.toInt ∧ k.toInt < 6 ∧ 0 ≤ f.toInt ∧ f.toInt + n.toInt ≤ (σ.1 13 k.toNatClampNeg).toInt then 1 else 0 := by
  rw [f_X3_hasPlaces_1_u]
  simp only [kf_lx, kp_has1]
  have hb := hb k.toNatClampNeg
  have hr := kw_rng n
  have e := kw_subI (σ.1 13 k.toNatClampNeg) n
  by_cases h : 0 ≤ k.toInt ∧ k.toInt < 6
  · rw [if_pos h, if_neg (by decide)]
    by_cases hf : f.toInt < 0
    · rw [if_pos hf, if_neg (by omega)]
    · rw [if_neg hf, if_neg (by omega)]
      by_cases h3 : (σ.1 13 k.toNatClampNeg - n).toInt < f.toInt
      · rw [if_pos h3, if_neg (by omega)]
      · rw [if_neg h3, if_pos (by omega)]
  · rw [if_neg h, if_pos (by decide), if_neg (by omega)]
theorem kp_move1 (σ : kw_S) (hb : ∀ j : Nat, -1 ≤ (σ.1 13 j).toInt ∧ (σ.1 13 j).toInt ≤ 40) (k i t j n : Int32) (k0 : 0 ≤ k.toInt) (k1 : k.toInt < 6) (t0 : 0 ≤ t.toInt) (t1 : t.toInt < 6) (n0 : 0 ≤ n.toInt) (i0 : 0 ≤ i.toInt) (i1 : i.toInt + n.toInt ≤ (σ.1 13 k.toNatClampNeg).toInt) (j0 : 0 ≤ j.toInt) (j1 : j.toInt + n.toInt ≤ (σ.1 13 t.toNatClampNeg).toInt) : f_X3_move_1 σ k i t j n = kw_ua σ (29 + t.toNatClampNeg) (va_cpy (σ.1 (29 + k.toNatClampNeg)) (σ.1 (29 + t.toNatClampNeg)) i.toNatClampNeg j.toNatClampNeg n.toNatClampNeg) := by
  rw [f_X3_move_1_u]
  simp only [kf_lx]
  rw [kp_placesB σ hb k i n n0, if_pos (show 0 ≤ k.toInt ∧ k.toInt < 6 ∧ 0 ≤ i.toInt ∧ i.toInt + n.toInt ≤ (σ.1 13 k.toNatClampNeg).toInt from ⟨k0, k1, i0, i1⟩), if_neg (show ¬ (1 : Int32).toInt = 0 by decide), kp_placesB σ hb t j n n0, if_pos (show 0 ≤ t.toInt ∧ t.toInt < 6 ∧ 0 ≤ j.toInt ∧ j.toInt + n.toInt ≤ (σ.1 13 t.toNatClampNeg).toInt from ⟨t0, t1, j0, j1⟩), if_neg (show ¬ (1 : Int32).toInt = 0 by decide)]
  have inner : ∀ a : Nat, (if t.toInt = 0 then kw_ua σ 29 (va_cpy (σ.1 a) (σ.1 29) i.toNatClampNeg j.toNatClampNeg n.toNatClampNeg) else if t.toInt = 1 then kw_ua σ 30 (va_cpy (σ.1 a) (σ.1 30) i.toNatClampNeg j.toNatClampNeg n.toNatClampNeg) else if t.toInt = 2 then kw_ua σ 31 (va_cpy (σ.1 a) (σ.1 31) i.toNatClampNeg j.toNatClampNeg n.toNatClampNeg) else if t.toInt = 3 then kw_ua σ 32 (va_cpy (σ.1 a) (σ.1 32) i.toNatClampNeg j.toNatClampNeg n.toNatClampNeg) else if t.toInt = 4 then kw_ua σ 33 (va_cpy (σ.1 a) (σ.1 33) i.toNatClampNeg j.toNatClampNeg n.toNatClampNeg) else if t.toInt = 5 then kw_ua σ 34 (va_cpy (σ.1 a) (σ.1 34) i.toNatClampNeg j.toNatClampNeg n.toNatClampNeg) else σ) = kw_ua σ (29 + t.toNatClampNeg) (va_cpy (σ.1 a) (σ.1 (29 + t.toNatClampNeg)) i.toNatClampNeg j.toNatClampNeg n.toNatClampNeg) :=
    fun a => kp_row1 t t0 t1 (fun b => kw_ua σ b (va_cpy (σ.1 a) (σ.1 b) i.toNatClampNeg j.toNatClampNeg n.toNatClampNeg)) σ
  simp only [inner]
  exact kp_row1 k k0 k1 (fun a => kw_ua σ (29 + t.toNatClampNeg) (va_cpy (σ.1 a) (σ.1 (29 + t.toNatClampNeg)) i.toNatClampNeg j.toNatClampNeg n.toNatClampNeg)) σ
theorem kp_copyB (a i t j n : Int32) (t0 : 0 ≤ t.toInt) (t1 : t.toInt ≤ 5) (j0 : 0 ≤ j.toInt) (j1 : j.toInt + n.toInt ≤ 40) : ∀ (f : Nat) (x : Int32) (S : kw_S), 0 ≤ x.toInt → x.toInt ≤ n.toInt → (n.toInt - x.toInt).toNat < f → l_X8_copy_0_136 a i t j n f x S = (1, kw_ua S 3 (fun p => if 40 * t.toNatClampNeg + j.toNatClampNeg + x.toNatClampNeg ≤ p ∧ p < 40 * t.toNatClampNeg + j.toNatClampNeg + n.toNatClampNeg then S.1 4 (p - (40 * t.toNatClampNeg + j.toNatClampNeg)) else S.1 3 p)) := by
  intro f
  have cj := kw_clampI j0
  induction f with
  | zero => intro x S _ _ h; exact absurd h (Nat.not_lt_zero _)
  | succ f ih =>
    intro x S h0 h1 h2
    have c := kw_clampI h0
    have cn := kw_clampI (x := n) (by omega)
    rw [l_X8_copy_0_136_s]
    by_cases hx : x.toInt < n.toInt
    · have z := kp_inc x (by omega)
      have c1 := kw_clampI (x := x + Int32.ofInt 1) (by omega)
      have ej : (j + x).toInt = j.toInt + x.toInt := by rw [kw_addI]; omega
      have cx := kw_clampI (x := j + x) (by omega)
      rw [if_pos hx]
      simp only [kf_lx]
      rw [ih _ _ (by omega) (by omega) (by omega), kp_setRow S t (j + x) _ t0 t1 (by omega) (by omega)]
      refine congrArg (Prod.mk (1 : Int32)) (kp_ext (fun c p => ?_) (fun _ _ => rfl))
      simp only [kp_ua, kp_ui]
      by_cases hb : c = 3
      · subst hb
        simp only [if_true, true_and, show ¬ (4 : Nat) = 3 by decide, false_and, if_false]
        by_cases hj : p = 40 * t.toNatClampNeg + (j + x).toNatClampNeg
        · rw [if_neg (by omega), if_pos hj, if_pos (by omega), show p - (40 * t.toNatClampNeg + j.toNatClampNeg) = x.toNatClampNeg by omega]
        · by_cases h3 : 40 * t.toNatClampNeg + j.toNatClampNeg + x.toNatClampNeg ≤ p ∧ p < 40 * t.toNatClampNeg + j.toNatClampNeg + n.toNatClampNeg
          · rw [if_pos (by omega), if_pos h3]
          · rw [if_neg (by omega), if_neg hj, if_neg h3]
      · simp [hb]
    · rw [if_neg hx]
      refine congrArg (Prod.mk (1 : Int32)) (kp_ext (fun c p => ?_) (fun _ _ => rfl))
      simp only [kp_ua]
      by_cases hb : c = 3
      · subst hb
        rw [if_pos rfl, if_neg (by omega)]
      · rw [if_neg hb]
theorem kp_copyA (a i t j n : Int32) (a0 : 0 ≤ a.toInt) (a1 : a.toInt ≤ 5) (i0 : 0 ≤ i.toInt) (i1 : i.toInt + n.toInt ≤ 40) : ∀ (f : Nat) (x : Int32) (S : kw_S), 0 ≤ x.toInt → x.toInt ≤ n.toInt → (n.toInt - x.toInt).toNat < f → l_X8_copy_0_104 a i t j n f x S = l_X8_copy_0_136 a i t j n ((n.toInt - (0 : Int32).toInt).toNat + 1) 0 (kw_ua S 4 (fun p => if x.toNatClampNeg ≤ p ∧ p < n.toNatClampNeg then S.1 3 (40 * a.toNatClampNeg + (i.toNatClampNeg + p)) else S.1 4 p)) := by
  intro f
  have ci := kw_clampI i0
  induction f with
  | zero => intro x S _ _ h; exact absurd h (Nat.not_lt_zero _)
  | succ f ih =>
    intro x S h0 h1 h2
    have c := kw_clampI h0
    have cn := kw_clampI (x := n) (by omega)
    rw [l_X8_copy_0_104_s]
    by_cases hx : x.toInt < n.toInt
    · have z := kp_inc x (by omega)
      have c1 := kw_clampI (x := x + Int32.ofInt 1) (by omega)
      have ej : (i + x).toInt = i.toInt + x.toInt := by rw [kw_addI]; omega
      have cx := kw_clampI (x := i + x) (by omega)
      rw [if_pos hx]
      simp only [kf_lx]
      rw [ih _ _ (by omega) (by omega) (by omega), kp_rowAt S a (i + x) a0 a1 (by omega) (by omega)]
      refine congrArg (l_X8_copy_0_136 a i t j n ((n.toInt - (0 : Int32).toInt).toNat + 1) 0) (kp_ext (fun c p => ?_) (fun _ _ => rfl))
      simp only [kp_ua, kp_ui]
      by_cases hb : c = 4
      · subst hb
        simp only [if_true, true_and, show ¬ (3 : Nat) = 4 by decide, false_and, if_false]
        by_cases hj : p = x.toNatClampNeg
        · rw [if_neg (by omega), if_pos hj, if_pos (by omega), show i.toNatClampNeg + p = (i + x).toNatClampNeg by omega]
        · by_cases h3 : x.toNatClampNeg ≤ p ∧ p < n.toNatClampNeg
          · rw [if_pos (by omega), if_pos h3]
          · rw [if_neg (by omega), if_neg hj, if_neg h3]
      · simp [hb]
    · rw [if_neg hx]
      refine congrArg (l_X8_copy_0_136 a i t j n ((n.toInt - (0 : Int32).toInt).toNat + 1) 0) (kp_ext (fun c p => ?_) (fun _ _ => rfl))
      simp only [kp_ua]
      by_cases hb : c = 4
      · subst hb
        rw [if_pos rfl, if_neg (by omega)]
      · rw [if_neg hb]
theorem kp_past (i n z : Int32) (i0 : 0 ≤ i.toInt) (n0 : 0 ≤ n.toInt) : 0 < (lg_cmp (i.toInt64 + n.toInt64) z.toInt64).toInt ↔ z.toInt < i.toInt + n.toInt := by
  have h := (kw_lcmpI (i.toInt64 + n.toInt64) z.toInt64).2.1
  have r1 := kw_rng i
  have r2 := kw_rng n
  have e := kw_addL i.toInt64 n.toInt64
  rw [kw_i2lI, kw_i2lI] at e
  rw [kw_i2lI, e] at h
  rw [h]
  constructor <;> intro _ <;> omega
theorem kr_W_copy {x m s t : kw_S} {r q : Int32} (hX : kw_I bX x) (h : kr_W x m) (k i l j n : Int32) (e1 : (r, s) = f_X7_copy_0 x k i l j n) (e2 : (q, t) = f_X8_copy_0 m k i l j n) : kr_W s t ∧ r = q := by
  have hb : ∀ j : Nat, -1 ≤ (x.1 13 j).toInt ∧ (x.1 13 j).toInt ≤ 40 := fun j => hX 13 j
  have no : ∀ f g : Int32, (r, s) = ((f_X4_refuse_8 x f).1, (f_X4_refuse_8 x f).2) → (q, t) = ((f_X8_meet_0 m g).1, (f_X8_meet_0 m g).2) → kr_W s t ∧ r = q := by
    intro f g e1 e2
    obtain ⟨r1, s1⟩ := Prod.mk.inj e1
    obtain ⟨r2, s2⟩ := Prod.mk.inj e2
    rw [s1, s2, r1, r2, kp_refuse1, kp_meet1]
    exact ⟨h.no _ _, rfl⟩
  have bad : (r, s) = ((-1 : Int32), x) → (q, t) = ((-1 : Int32), m) → kr_W s t ∧ r = q := by
    intro e1 e2
    obtain ⟨r1, s1⟩ := Prod.mk.inj e1
    obtain ⟨r2, s2⟩ := Prod.mk.inj e2
    rw [s1, s2, r1, r2]
    exact ⟨h, rfl⟩
  have z0 : (0 : Int32).toInt = 0 := rfl
  have z1 : ¬ (1 : Int32).toInt = 0 := by decide
  rw [f_X7_copy_0_u] at e1
  rw [f_X8_copy_0_u] at e2
  simp only [kf_lx, kf_bx, kp_has1, kp_miss1] at e1
  simp only [kf_lx, kf_bx, kp_isRow] at e2
  by_cases hk : 0 ≤ k.toInt ∧ k.toInt < 6
  case neg =>
    rw [if_neg hk, if_pos z0] at e1
    rw [if_neg (show ¬ (0 ≤ k.toInt ∧ k.toInt ≤ 5) by omega), if_pos z0] at e2
    exact bad e1 e2
  rw [if_pos hk, if_neg z1] at e1
  rw [if_pos (show 0 ≤ k.toInt ∧ k.toInt ≤ 5 by omega), if_neg z1] at e2
  by_cases hl : 0 ≤ l.toInt ∧ l.toInt < 6
  case neg =>
    rw [if_neg hl, if_pos z0] at e1
    rw [if_neg (show ¬ (0 ≤ l.toInt ∧ l.toInt ≤ 5) by omega), if_pos z0] at e2
    exact bad e1 e2
  rw [if_pos hl, if_neg z1] at e1
  rw [if_pos (show 0 ≤ l.toInt ∧ l.toInt ≤ 5 by omega), if_neg z1] at e2
  by_cases hn : n.toInt < 0
  · rw [if_pos hn] at e1 e2
    exact no _ _ e1 e2
  rw [if_neg hn] at e1 e2
  have n0 : 0 ≤ n.toInt := by omega
  have ck := kw_clampI hk.1
  have cl := kw_clampI hl.1
  rcases h.1 k.toNatClampNeg (by omega) with ⟨g1, g2⟩ | ⟨g1, g2⟩
  · rw [if_neg (show ¬ (0 ≤ k.toInt ∧ k.toInt < 6 ∧ 0 ≤ (x.1 13 k.toNatClampNeg).toInt) by omega), if_neg z1] at e1
    rw [if_pos g2] at e2
    exact no _ _ e1 e2
  rw [if_pos (show 0 ≤ k.toInt ∧ k.toInt < 6 ∧ 0 ≤ (x.1 13 k.toNatClampNeg).toInt from ⟨hk.1, hk.2, g2⟩), if_pos z0] at e1
  rw [if_neg (show ¬ (m.1 2 k.toNatClampNeg).toInt < 0 by rw [← g1]; omega)] at e2
  rcases h.1 l.toNatClampNeg (by omega) with ⟨g3, g4⟩ | ⟨g3, g4⟩
  · rw [if_neg (show ¬ (0 ≤ l.toInt ∧ l.toInt < 6 ∧ 0 ≤ (x.1 13 l.toNatClampNeg).toInt) by omega), if_neg z1] at e1
    rw [if_pos g4] at e2
    exact no _ _ e1 e2
  rw [if_pos (show 0 ≤ l.toInt ∧ l.toInt < 6 ∧ 0 ≤ (x.1 13 l.toNatClampNeg).toInt from ⟨hl.1, hl.2, g4⟩), if_pos z0, kp_placesB x hb k i n n0] at e1
  rw [if_neg (show ¬ (m.1 2 l.toNatClampNeg).toInt < 0 by rw [← g3]; omega), ← g1, ← g3] at e2
  by_cases hi : 0 ≤ i.toInt ∧ i.toInt + n.toInt ≤ (x.1 13 k.toNatClampNeg).toInt
  case neg =>
    rw [if_neg (show ¬ (0 ≤ k.toInt ∧ k.toInt < 6 ∧ 0 ≤ i.toInt ∧ i.toInt + n.toInt ≤ (x.1 13 k.toNatClampNeg).toInt) by omega), if_pos z0] at e1
    by_cases i0 : i.toInt < 0
    · rw [if_pos i0] at e2
      exact no _ _ e1 e2
    · rw [if_neg i0] at e2
      by_cases j0 : j.toInt < 0
      · rw [if_pos j0] at e2
        exact no _ _ e1 e2
      · rw [if_neg j0, if_pos ((kp_past i n _ (by omega) n0).mpr (by omega))] at e2
        exact no _ _ e1 e2
  rw [if_pos (show 0 ≤ k.toInt ∧ k.toInt < 6 ∧ 0 ≤ i.toInt ∧ i.toInt + n.toInt ≤ (x.1 13 k.toNatClampNeg).toInt from ⟨hk.1, hk.2, hi.1, hi.2⟩), if_neg z1, kp_placesB x hb l j n n0] at e1
  rw [if_neg (show ¬ i.toInt < 0 by omega)] at e2
  by_cases hj : 0 ≤ j.toInt ∧ j.toInt + n.toInt ≤ (x.1 13 l.toNatClampNeg).toInt
  case neg =>
    rw [if_neg (show ¬ (0 ≤ l.toInt ∧ l.toInt < 6 ∧ 0 ≤ j.toInt ∧ j.toInt + n.toInt ≤ (x.1 13 l.toNatClampNeg).toInt) by omega), if_pos z0] at e1
    by_cases j0 : j.toInt < 0
    · rw [if_pos j0] at e2
      exact no _ _ e1 e2
    · rw [if_neg j0, if_neg (fun z => absurd ((kp_past i n _ hi.1 n0).mp z) (by omega)), if_pos ((kp_past j n _ (by omega) n0).mpr (by omega))] at e2
      exact no _ _ e1 e2
  have b1 := hb k.toNatClampNeg
  have b2 := hb l.toNatClampNeg
  have q0 : (0 : Int32).toNatClampNeg = 0 := rfl
  rw [if_pos (show 0 ≤ l.toInt ∧ l.toInt < 6 ∧ 0 ≤ j.toInt ∧ j.toInt + n.toInt ≤ (x.1 13 l.toNatClampNeg).toInt from ⟨hl.1, hl.2, hj.1, hj.2⟩), if_neg z1, kp_move1 x hb k i l j n hk.1 hk.2 hl.1 hl.2 n0 hi.1 hi.2 hj.1 hj.2] at e1
  rw [if_neg (show ¬ j.toInt < 0 by omega), if_neg (fun z => absurd ((kp_past i n _ hi.1 n0).mp z) (by omega)), if_neg (fun z => absurd ((kp_past j n _ hj.1 n0).mp z) (by omega)), kp_copyA k i l j n hk.1 (by omega) hi.1 (by omega) _ _ _ (by decide) (by rw [kp_q0]; omega) (by rw [kp_q0]; omega), kp_copyB k i l j n hl.1 (by omega) hj.1 (by omega) _ _ _ (by decide) (by rw [kp_q0]; omega) (by rw [kp_q0]; omega), q0] at e2
  obtain ⟨r1, s1⟩ := Prod.mk.inj e1
  obtain ⟨r2, s2⟩ := Prod.mk.inj e2
  have ci := kw_clampI hi.1
  have cj := kw_clampI hj.1
  have cn := kw_clampI n0
  rw [r1, r2]
  refine ⟨⟨fun c hc => ?_, fun c p hc hp => ?_⟩, rfl⟩
  · have a1 : s.1 13 c = x.1 13 c := by rw [s1, kp_ua, if_neg (by omega)]
    have a2 : t.1 2 c = m.1 2 c := by rw [s2, kp_ua, if_neg (by omega), kp_ua, if_neg (by omega)]
    rw [a1, a2]
    exact h.1 c hc
  · have a2 : t.1 3 (40 * c + p) = if 40 * l.toNatClampNeg + j.toNatClampNeg ≤ 40 * c + p ∧ 40 * c + p < 40 * l.toNatClampNeg + j.toNatClampNeg + n.toNatClampNeg then m.1 3 (40 * k.toNatClampNeg + (i.toNatClampNeg + (40 * c + p - (40 * l.toNatClampNeg + j.toNatClampNeg)))) else m.1 3 (40 * c + p) := by
      rw [s2, kp_ua, if_pos rfl]
      by_cases e : 40 * l.toNatClampNeg + j.toNatClampNeg ≤ 40 * c + p ∧ 40 * c + p < 40 * l.toNatClampNeg + j.toNatClampNeg + n.toNatClampNeg
      · rw [if_pos e, if_pos (by omega), kp_ua, if_pos rfl, if_pos (by omega)]
      · rw [if_neg e, if_neg (by omega), kp_ua, if_neg (by decide)]
    rw [a2, s1, kp_ua]
    by_cases e : c = l.toNatClampNeg
    · subst e
      rw [if_pos rfl]
      show (if j.toNatClampNeg ≤ p ∧ p < j.toNatClampNeg + n.toNatClampNeg then x.1 (29 + k.toNatClampNeg) (i.toNatClampNeg + (p - j.toNatClampNeg)) else x.1 (29 + l.toNatClampNeg) p) = _
      by_cases g : j.toNatClampNeg ≤ p ∧ p < j.toNatClampNeg + n.toNatClampNeg
      · rw [if_pos g, if_pos (by omega), h.2 k.toNatClampNeg _ (by omega) (by omega), show 40 * l.toNatClampNeg + p - (40 * l.toNatClampNeg + j.toNatClampNeg) = p - j.toNatClampNeg by omega]
      · rw [if_neg g, if_neg (by omega), h.2 l.toNatClampNeg p (by omega) hp]
    · rw [if_neg (by omega), if_neg (by omega)]
      exact h.2 c p hc hp
/-- mean: both refuse alike, or both tell the same number -/
theorem kp_meanL {x m : kw_S} (hb : ∀ j : Nat, -1 ≤ (x.1 13 j).toInt ∧ (x.1 13 j).toInt ≤ 40) (h : kr_W x m) (k : Int32) (k0 : 0 ≤ k.toInt) (k1 : k.toInt < 6) (g : m.1 2 k.toNatClampNeg = x.1 13 k.toNatClampNeg) (g1 : 1 ≤ (x.1 13 k.toNatClampNeg).toInt) (u : Int32) : ∀ (f : Nat) (w : Int64) (y : Int32), 0 ≤ y.toInt → y.toInt ≤ (x.1 13 k.toNatClampNeg).toInt → (41 - y.toInt).toNat < f → ∃ v : Int32, l_X7_mean_0_61 k (x.1 13 k.toNatClampNeg) x f w y = (1, kw_ui x 8 2 v) ∧ l_X8_mean_0_17 k u m f w y = (1, kw_ui m 0 2 v) := by
  intro f
  have ck := kw_clampI k0
  have hb1 := hb k.toNatClampNeg
  induction f with
  | zero => intro w y _ _ h; exact absurd h (Nat.not_lt_zero _)
  | succ f ih =>
    intro w y y0 y1 hf
    have cy := kw_clampI y0
    rw [l_X7_mean_0_61_s, l_X8_mean_0_17_s]
    simp only [kf_lx, kf_bx, g]
    by_cases hy : y.toInt < (x.1 13 k.toNatClampNeg).toInt
    · have z := kp_inc y (by omega)
      rw [if_pos hy, if_pos hy, kp_value1 x hb, if_pos (show 0 ≤ k.toInt ∧ k.toInt < 6 ∧ 0 ≤ y.toInt ∧ y.toInt < (x.1 13 k.toNatClampNeg).toInt from ⟨k0, k1, y0, hy⟩), kp_rowAt m k y k0 (by omega) y0 (by omega), ← h.2 k.toNatClampNeg y.toNatClampNeg (by omega) (by omega)]
      exact ih _ _ (by omega) (by omega) (by omega)
    · rw [if_neg hy, if_neg hy, if_neg (show ¬ (x.1 13 k.toNatClampNeg).toInt = 0 by omega), f_X4_answer_8_u, f_X8_ask_0_u]
      exact ⟨_, rfl, rfl⟩
theorem kp_mean {x m : kw_S} (hX : kw_I bX x) (h : kr_W x m) (k : Int32) : (∃ f : Int32, f_X7_mean_0 x k = f_X4_refuse_8 x f ∧ f_X8_mean_0 m k = f_X8_meet_0 m f ∧ (f = 1 ∨ f = 4)) ∨ (f_X7_mean_0 x k = (-1, x) ∧ f_X8_mean_0 m k = (-1, m)) ∨ ∃ v : Int32, f_X7_mean_0 x k = (1, kw_ui x 8 2 v) ∧ f_X8_mean_0 m k = (1, kw_ui m 0 2 v) := by
  have hb : ∀ j : Nat, -1 ≤ (x.1 13 j).toInt ∧ (x.1 13 j).toInt ≤ 40 := fun j => hX 13 j
  have z0 : (0 : Int32).toInt = 0 := rfl
  have z1 : ¬ (1 : Int32).toInt = 0 := by decide
  rw [f_X7_mean_0_u, f_X8_mean_0_u]
  simp only [kf_lx, kf_bx, kp_has1, kp_miss1, kp_size1, kp_askedRow]
  by_cases hk : 0 ≤ k.toInt ∧ k.toInt < 6
  · have hk5 : 0 ≤ k.toInt ∧ k.toInt ≤ 5 := by omega
    have ck := kw_clampI hk.1
    have hb1 := hb k.toNatClampNeg
    simp only [if_pos hk5]
    rw [if_pos hk, if_neg z1, if_pos hk]
    rcases h.1 k.toNatClampNeg (by omega) with ⟨g1, g2⟩ | ⟨g1, g2⟩
    · left
      refine ⟨1, ?_, ?_, Or.inl rfl⟩
      · rw [if_neg (show ¬ (0 ≤ k.toInt ∧ k.toInt < 6 ∧ 0 ≤ (x.1 13 k.toNatClampNeg).toInt) by omega), if_neg z1]
      · simp only [if_pos g2]
        rw [if_pos (by rw [kp_meet1]; decide)]
    · have g3 : ¬ (m.1 2 k.toNatClampNeg).toInt < 0 := by rw [← g1]; omega
      simp only [if_neg g3]
      rw [if_pos (show 0 ≤ k.toInt ∧ k.toInt < 6 ∧ 0 ≤ (x.1 13 k.toNatClampNeg).toInt from ⟨hk.1, hk.2, g2⟩), if_pos z0, if_neg (show ¬ (0 : Int32).toInt < 0 by decide)]
      by_cases hs : (x.1 13 k.toNatClampNeg).toInt < (1 : Int32).toInt
      · left
        have hs2 := hs
        rw [kp_q1] at hs2
        refine ⟨4, ?_, ?_, Or.inr rfl⟩
        · rw [if_pos hs]
        · rw [l_X8_mean_0_17_s]
          simp only [kf_lx, kf_bx]
          rw [← g1, if_neg (show ¬ (0 : Int32).toInt < (x.1 13 k.toNatClampNeg).toInt by rw [kp_q0]; omega), if_pos (show (x.1 13 k.toNatClampNeg).toInt = 0 by omega)]
      · right; right
        have hs2 := hs
        rw [kp_q1] at hs2
        rw [if_neg hs]
        exact kp_meanL hb h k hk.1 hk.2 g1.symm (by omega) _ _ _ _ (by decide) (by rw [kp_q0]; omega) (by rw [kp_q0]; omega)
  · right; left
    have hk5 : ¬ (0 ≤ k.toInt ∧ k.toInt ≤ 5) := by omega
    simp only [if_neg hk5]
    rw [if_neg hk, if_pos z0, if_pos (show (-1 : Int32).toInt < 0 by decide)]
    exact ⟨rfl, rfl⟩
theorem kr_W_mean {x m s t : kw_S} {r q : Int32} (hX : kw_I bX x) (h : kr_W x m) (k : Int32) (e1 : (r, s) = f_X7_mean_0 x k) (e2 : (q, t) = f_X8_mean_0 m k) : r = q := by
  rcases kp_mean hX h k with ⟨f, a, b, -⟩ | ⟨a, b⟩ | ⟨v, a, b⟩
  · rw [a] at e1; rw [b] at e2
    have r1 := congrArg Prod.fst e1
    have r2 := congrArg Prod.fst e2
    exact (r1.trans (kp_refuse1 _ _)).trans (r2.trans (kp_meet1 _ _)).symm
  · rw [a] at e1; rw [b] at e2
    exact (Prod.mk.inj e1).1.trans (Prod.mk.inj e2).1.symm
  · rw [a] at e1; rw [b] at e2
    exact (Prod.mk.inj e1).1.trans (Prod.mk.inj e2).1.symm
end
section
/-! ===== far: the search, without states ===== -/
abbrev kg_B := Option (Int32 × (Nat → Int32))
def kg_up (mi : Int32) (p : Nat → Int32) : kg_B → kg_B
  | none => some (mi, p)
  | some (c, q) => if c.toInt < mi.toInt then some (mi, p) else some (c, q)
def kg_loop (g : Nat → kg_B → kg_B) : Nat → Nat → kg_B → kg_B
  | 0, _, b => b
  | c + 1, s, b => kg_loop g c (s + 1) (g s b)
def kg_S (M T : Nat → Nat → Int32) (lim : Int32) (N : Nat) : Nat → Nat → Int32 → Int32 → (Nat → Int32) → kg_B → kg_B
  | 0, _, mi, _, p, b => kg_up mi p b
  | d + 1, k, mi, tu, p, b => kg_loop (fun s b => if -lim.toInt ≤ (tu + T k s).toInt ∧ (tu + T k s).toInt ≤ lim.toInt then kg_S M T lim N d (k + 1) (mi + M k s) (tu + T k s) (upd p k (Int32.ofNat s)) b else b) N 0 b
def kg_g (M T : Nat → Nat → Int32) (lim : Int32) (N d k : Nat) (mi tu : Int32) (p : Nat → Int32) : Nat → kg_B → kg_B := fun s b => if -lim.toInt ≤ (tu + T k s).toInt ∧ (tu + T k s).toInt ≤ lim.toInt then kg_S M T lim N d (k + 1) (mi + M k s) (tu + T k s) (upd p k (Int32.ofNat s)) b else b
theorem kg_SS (M T : Nat → Nat → Int32) (lim : Int32) (N d k : Nat) (mi tu : Int32) (p : Nat → Int32) (b : kg_B) : kg_S M T lim N (d + 1) k mi tu p b = kg_loop (kg_g M T lim N d k mi tu p) N 0 b := rfl
theorem kg_same (g : Nat → kg_B → kg_B) (b : kg_B) (N : Nat) (h : ∀ s : Nat, s < N → g s b = b) : ∀ c s : Nat, s + c ≤ N → kg_loop g c s b = b
  | 0, _, _ => rfl
  | c + 1, s, hs => by
    show kg_loop g c (s + 1) (g s b) = b
    rw [h s (by omega)]
    exact kg_same g b N h c (s + 1) (by omega)
def kg_U (U : Nat → Int) : Nat → Nat → Int
  | 0, _ => 0
  | d + 1, k => U k + kg_U U d (k + 1)
def kg_ok (M : Nat → Nat → Int32) (U : Nat → Int) (N n : Nat) : Prop := (∀ k s : Nat, k < n → s < N → -180 ≤ (M k s).toInt ∧ (M k s).toInt ≤ U k) ∧ ∀ k : Nat, k < n → 0 ≤ U k ∧ U k ≤ 180
def kg_mi (k : Nat) (mi : Int32) : Prop := -7200 - 180 * (k : Int) ≤ mi.toInt ∧ mi.toInt ≤ 7200 + 180 * (k : Int)
theorem kg_add {k : Nat} {mi a : Int32} (h : kg_mi k mi) (hk : k ≤ 3) (a0 : -180 ≤ a.toInt) (a1 : a.toInt ≤ 180) : (mi + a).toInt = mi.toInt + a.toInt ∧ kg_mi (k + 1) (mi + a) := by
  have e : (mi + a).toInt = mi.toInt + a.toInt := by
    have h1 := h.1
    have h2 := h.2
    rw [kw_addI]; omega
  refine ⟨e, ?_⟩
  have h1 := h.1
  have h2 := h.2
  unfold kg_mi
  rw [e]
  omega
theorem kg_Ub (U : Nat → Int) (n : Nat) (h : ∀ k : Nat, k < n → 0 ≤ U k ∧ U k ≤ 180) : ∀ d k : Nat, k + d ≤ n → 0 ≤ kg_U U d k ∧ kg_U U d k ≤ 180 * (d : Int)
  | 0, _, _ => ⟨Int.le_refl _, Int.le_refl _⟩
  | d + 1, k, hk => by
    have a := kg_Ub U n h d (k + 1) (by omega)
    have b := h k (by omega)
    show 0 ≤ U k + kg_U U d (k + 1) ∧ U k + kg_U U d (k + 1) ≤ 180 * ((d + 1 : Nat) : Int)
    omega
theorem kg_prune {M T : Nat → Nat → Int32} {lim : Int32} {N n : Nat} {U : Nat → Int} (hM : kg_ok M U N n) (hn : n ≤ 3) (c : Int32) (q : Nat → Int32) : ∀ (d k : Nat) (mi tu : Int32) (p : Nat → Int32), k + d = n → kg_mi k mi → mi.toInt + kg_U U d k ≤ c.toInt → kg_S M T lim N d k mi tu p (some (c, q)) = some (c, q)
  | 0, k, mi, tu, p, hk, hm, hc => by
    have hc2 : mi.toInt + 0 ≤ c.toInt := hc
    show (if c.toInt < mi.toInt then some (mi, p) else some (c, q)) = some (c, q)
    rw [if_neg (by omega)]
  | d + 1, k, mi, tu, p, hk, hm, hc => by
    have hc2 : mi.toInt + (U k + kg_U U d (k + 1)) ≤ c.toInt := hc
    rw [kg_SS]
    refine kg_same _ _ N (fun s hs => ?_) N 0 (by omega)
    unfold kg_g
    by_cases ht : -lim.toInt ≤ (tu + T k s).toInt ∧ (tu + T k s).toInt ≤ lim.toInt
    · rw [if_pos ht]
      have a := hM.1 k s (by omega) hs
      have u := hM.2 k (by omega)
      obtain ⟨e, hm2⟩ := kg_add hm (by omega) a.1 (by omega)
      exact kg_prune hM hn c q d (k + 1) _ _ _ (by omega) hm2 (by omega)
    · rw [if_neg ht]
/-! ===== the class's search by it ===== -/
def kg_E (M T : Nat → Nat → Int32) (U : Nat → Int) (N n : Nat) (lim : Int32) (S : kw_S) : Prop := ((S.1 7 6).toInt = n) ∧ (S.1 7 7 = lim) ∧ (∀ j : Nat, j ≤ n → (S.1 26 j).toInt = kg_U U (n - j) j) ∧ (0 < n → (S.1 52 3).toInt = N ∧ ∀ s : Int32, 0 ≤ s.toInt → s.toInt < N → f_X0_milesOf_52 S s = M 0 s.toNatClampNeg ∧ f_X0_turnBy_52 S s = T 0 s.toNatClampNeg) ∧ (1 < n → (S.1 53 3).toInt = N ∧ ∀ s : Int32, 0 ≤ s.toInt → s.toInt < N → f_X0_milesOf_53 S s = M 1 s.toNatClampNeg ∧ f_X0_turnBy_53 S s = T 1 s.toNatClampNeg) ∧ (2 < n → (S.1 54 3).toInt = N ∧ ∀ s : Int32, 0 ≤ s.toInt → s.toInt < N → f_X0_milesOf_54 S s = M 2 s.toNatClampNeg ∧ f_X0_turnBy_54 S s = T 2 s.toNatClampNeg)
theorem kg_E.h6 {M T : Nat → Nat → Int32} {U : Nat → Int} {N n : Nat} {lim : Int32} {S : kw_S} (h : kg_E M T U N n lim S) : (S.1 7 6).toInt = n := h.1
theorem kg_E.h7 {M T : Nat → Nat → Int32} {U : Nat → Int} {N n : Nat} {lim : Int32} {S : kw_S} (h : kg_E M T U N n lim S) : S.1 7 7 = lim := h.2.1
theorem kg_E.h26 {M T : Nat → Nat → Int32} {U : Nat → Int} {N n : Nat} {lim : Int32} {S : kw_S} (h : kg_E M T U N n lim S) : ∀ j : Nat, j ≤ n → (S.1 26 j).toInt = kg_U U (n - j) j := h.2.2.1
theorem kg_E.c0 {M T : Nat → Nat → Int32} {U : Nat → Int} {N n : Nat} {lim : Int32} {S : kw_S} (h : kg_E M T U N n lim S) : 0 < n → (S.1 52 3).toInt = N ∧ ∀ s : Int32, 0 ≤ s.toInt → s.toInt < N → f_X0_milesOf_52 S s = M 0 s.toNatClampNeg ∧ f_X0_turnBy_52 S s = T 0 s.toNatClampNeg := h.2.2.2.1
theorem kg_E.c1 {M T : Nat → Nat → Int32} {U : Nat → Int} {N n : Nat} {lim : Int32} {S : kw_S} (h : kg_E M T U N n lim S) : 1 < n → (S.1 53 3).toInt = N ∧ ∀ s : Int32, 0 ≤ s.toInt → s.toInt < N → f_X0_milesOf_53 S s = M 1 s.toNatClampNeg ∧ f_X0_turnBy_53 S s = T 1 s.toNatClampNeg := h.2.2.2.2.1
theorem kg_E.c2 {M T : Nat → Nat → Int32} {U : Nat → Int} {N n : Nat} {lim : Int32} {S : kw_S} (h : kg_E M T U N n lim S) : 2 < n → (S.1 54 3).toInt = N ∧ ∀ s : Int32, 0 ≤ s.toInt → s.toInt < N → f_X0_milesOf_54 S s = M 2 s.toNatClampNeg ∧ f_X0_turnBy_54 S s = T 2 s.toNatClampNeg := h.2.2.2.2.2
theorem kg_E.cong {M T : Nat → Nat → Int32} {U : Nat → Int} {N n : Nat} {lim : Int32} {S S' : kw_S} (h : kg_E M T U N n lim S) (h1 : ∀ a : Nat, a = 26 ∨ 52 ≤ a ∧ a ≤ 60 → S'.1 a = S.1 a) (h6 : S'.1 7 6 = S.1 7 6) (h7 : S'.1 7 7 = S.1 7 7) : kg_E M T U N n lim S' := by
  refine ⟨by rw [h6]; exact h.h6, by rw [h7]; exact h.h7, fun j hj => by rw [h1 26 (by omega)]; exact h.h26 j hj, fun q => ?_, fun q => ?_, fun q => ?_⟩
  · refine ⟨by rw [h1 52 (by omega)]; exact (h.c0 q).1, fun s a b => ?_⟩
    have e := (h.c0 q).2 s a b
    rw [f_X0_milesOf_52_u, f_X0_turnBy_52_u] at e ⊢
    rw [h1 55 (by omega), h1 56 (by omega)]
    exact e
  · refine ⟨by rw [h1 53 (by omega)]; exact (h.c1 q).1, fun s a b => ?_⟩
    have e := (h.c1 q).2 s a b
    rw [f_X0_milesOf_53_u, f_X0_turnBy_53_u] at e ⊢
    rw [h1 57 (by omega), h1 58 (by omega)]
    exact e
  · refine ⟨by rw [h1 54 (by omega)]; exact (h.c2 q).1, fun s a b => ?_⟩
    have e := (h.c2 q).2 s a b
    rw [f_X0_milesOf_54_u, f_X0_turnBy_54_u] at e ⊢
    rw [h1 59 (by omega), h1 60 (by omega)]
    exact e
def kg_Bx (n : Nat) (S : kw_S) : kg_B → Prop
  | none => (S.1 7 5).toInt = 0
  | some (c, q) => ¬ (S.1 7 5).toInt = 0 ∧ S.1 7 1 = c ∧ ∀ j : Nat, j < n → S.1 24 j = q j
def kg_X (M T : Nat → Nat → Int32) (U : Nat → Int) (N n : Nat) (lim : Int32) (k : Nat) (p : Nat → Int32) (b : kg_B) (S : kw_S) : Prop := kg_E M T U N n lim S ∧ (∀ j : Nat, j < k → S.1 27 j = p j) ∧ kg_Bx n S b
def kg_rc (M T : Nat → Nat → Int32) (U : Nat → Int) (N n : Nat) (lim : Int32) (d k : Nat) (rc : kw_S → Int32 → Int32 → Int32 → kw_S) : Prop := ∀ (S : kw_S) (k' mi tu : Int32) (p : Nat → Int32) (b : kg_B), k'.toInt = k → kg_X M T U N n lim k p b S → (∀ c q, b = some (c, q) → c.toInt < mi.toInt + kg_U U d k) → kg_mi k mi → kg_X M T U N n lim k p (kg_S M T lim N d k mi tu p b) (rc S k' mi tu) ∧ kw_F [7, 24, 27] S (rc S k' mi tu)
theorem kg_L0 {M T : Nat → Nat → Int32} {U : Nat → Int} {N n : Nat} {lim : Int32} (hM : kg_ok M U N n) (hn : n ≤ 3) (hN : N ≤ 64) (l0 : 0 ≤ lim.toInt) (d : Nat) (hk : 0 + (d + 1) = n) (rc : kw_S → Int32 → Int32 → Int32 → kw_S) (hrc : kg_rc M T U N n lim d (0 + 1) rc) (k' mi tu : Int32) (ek : k'.toInt = 0) (p : Nat → Int32) (hm : kg_mi 0 mi) : ∀ (f : Nat) (y : Int32) (S : kw_S) (b : kg_B), 0 ≤ y.toInt → y.toInt ≤ N → ((N : Int) - y.toInt).toNat < f → kg_X M T U N n lim 0 p b S → kg_X M T U N n lim 0 p (kg_loop (kg_g M T lim N d 0 mi tu p) (N - y.toNatClampNeg) y.toNatClampNeg b) (l_X6_sailFrom_7_49 rc k' mi tu f y S) ∧ kw_F [7, 24, 27] S (l_X6_sailFrom_7_49 rc k' mi tu f y S) := by
  intro f
  induction f with
  | zero => intro y S b _ _ h; exact absurd h (Nat.not_lt_zero _)
  | succ f ih =>
    intro y S b y0 y1 hf hX
    obtain ⟨hE, hp, hB⟩ := hX
    have cy := kw_clampI y0
    obtain ⟨cN, cM⟩ := hE.c0 (by omega)
    rw [l_X6_sailFrom_7_49_s]
    simp only [kf_lx]
    by_cases hy : y.toInt < (S.1 52 3).toInt
    · have z := kp_inc y (by omega)
      have c1 := kw_clampI (x := y + Int32.ofInt 1) (by omega)
      obtain ⟨m1, m2⟩ := cM y y0 (by omega)
      have eN : N - y.toNatClampNeg = (N - (y + Int32.ofInt 1).toNatClampNeg) + 1 := by omega
      have ey : y.toNatClampNeg + 1 = (y + Int32.ofInt 1).toNatClampNeg := by omega
      rw [if_pos hy, m1, m2, hE.h7, eN]
      show kg_X M T U N n lim 0 p (kg_loop (kg_g M T lim N d 0 mi tu p) (N - (y + Int32.ofInt 1).toNatClampNeg) (y.toNatClampNeg + 1) (kg_g M T lim N d 0 mi tu p y.toNatClampNeg b)) _ ∧ _
      rw [ey]
      have bM := hM.1 0 y.toNatClampNeg (by omega) (by omega)
      have bU := hM.2 0 (by omega)
      obtain ⟨ea, hm2⟩ := kg_add (a := M 0 y.toNatClampNeg) hm (by omega) bM.1 (by omega)
      have e1 : (k' + 1).toInt = ((0 + 1 : Nat) : Int) := by rw [kw_addI, kp_q1, ek]; rfl
      have c2 := kw_clampI (x := k' + 1) (by omega)
      have en1 : (k' + 1).toNatClampNeg = 0 + 1 := by omega
      have ck := kw_clampI (x := k') (by omega)
      have enk : k'.toNatClampNeg = 0 := by omega
      have h26 := hE.h26 (0 + 1) (by omega)
      have eD : n - (0 + 1) = d := by omega
      rw [eD] at h26
      have bD := kg_Ub U n hM.2 d (0 + 1) (by omega)
      have hm2a := hm2.1
      have hm2b := hm2.2
      have e26 : (mi + M 0 y.toNatClampNeg + S.1 26 (0 + 1)).toInt = (mi + M 0 y.toNatClampNeg).toInt + kg_U U d (0 + 1) := by rw [kw_addI, h26]; omega
      have nl : (-lim).toInt = -lim.toInt := by
        have := kw_rng lim
        rw [kw_negI]; omega
      rw [en1, enk, nl]
      have step : ∀ b' : kg_B, kg_Bx n S b' → (∀ c q, b' = some (c, q) → c.toInt < (mi + M 0 y.toNatClampNeg).toInt + kg_U U d (0 + 1)) → kg_X M T U N n lim 0 p (kg_loop (kg_g M T lim N d 0 mi tu p) (N - (y + Int32.ofInt 1).toNatClampNeg) (y + Int32.ofInt 1).toNatClampNeg (kg_g M T lim N d 0 mi tu p y.toNatClampNeg b')) (if lim.toInt < (tu + T 0 y.toNatClampNeg).toInt then l_X6_sailFrom_7_49 rc k' mi tu f (y + Int32.ofInt 1) S else if (tu + T 0 y.toNatClampNeg).toInt < -lim.toInt then l_X6_sailFrom_7_49 rc k' mi tu f (y + Int32.ofInt 1) S else l_X6_sailFrom_7_49 rc k' mi tu f (y + Int32.ofInt 1) (rc (kw_ui S 27 0 y) (k' + 1) (mi + M 0 y.toNatClampNeg) (tu + T 0 y.toNatClampNeg))) ∧ kw_F [7, 24, 27] S (if lim.toInt < (tu + T 0 y.toNatClampNeg).toInt then l_X6_sailFrom_7_49 rc k' mi tu f (y + Int32.ofInt 1) S else if (tu + T 0 y.toNatClampNeg).toInt < -lim.toInt then l_X6_sailFrom_7_49 rc k' mi tu f (y + Int32.ofInt 1) S else l_X6_sailFrom_7_49 rc k' mi tu f (y + Int32.ofInt 1) (rc (kw_ui S 27 0 y) (k' + 1) (mi + M 0 y.toNatClampNeg) (tu + T 0 y.toNatClampNeg))) := by
        intro b' hB' hpre
        by_cases t1 : lim.toInt < (tu + T 0 y.toNatClampNeg).toInt
        · rw [if_pos t1, show kg_g M T lim N d 0 mi tu p y.toNatClampNeg b' = b' from if_neg (by omega)]
          exact ih _ S b' (by omega) (by omega) (by omega) ⟨hE, hp, hB'⟩
        · rw [if_neg t1]
          by_cases t2 : (tu + T 0 y.toNatClampNeg).toInt < -lim.toInt
          · rw [if_pos t2, show kg_g M T lim N d 0 mi tu p y.toNatClampNeg b' = b' from if_neg (by omega)]
            exact ih _ S b' (by omega) (by omega) (by omega) ⟨hE, hp, hB'⟩
          · rw [if_neg t2, show kg_g M T lim N d 0 mi tu p y.toNatClampNeg b' = kg_S M T lim N d (0 + 1) (mi + M 0 y.toNatClampNeg) (tu + T 0 y.toNatClampNeg) (upd p 0 (Int32.ofNat y.toNatClampNeg)) b' from if_pos (by omega), kd_ofNat y y0]
            have F1 : kw_F [7, 24, 27] S (kw_ui S 27 0 y) := kw_F_ui kw_F.rf (by decide)
            have X1 : kg_X M T U N n lim (0 + 1) (upd p 0 y) b' (kw_ui S 27 0 y) := by
              refine ⟨hE.cong (fun a ha => (F1 a (by intro q; simp at q; omega)).1) (by rw [kp_ui, if_neg (by decide)]) (by rw [kp_ui, if_neg (by decide)]), fun j hj => ?_, ?_⟩
              · rw [kp_ui]
                by_cases e : j = 0
                · rw [if_pos ⟨rfl, e⟩, e]; simp [upd]
                · rw [if_neg (fun w => e w.2), hp j (by omega)]; simp [upd, e]
              · rcases b' with _ | ⟨c, q⟩
                · show ((kw_ui S 27 0 y).1 7 5).toInt = 0
                  rw [kp_ui, if_neg (by decide)]; exact hB'
                · refine ⟨?_, ?_, fun j hj => ?_⟩
                  · rw [kp_ui, if_neg (by decide)]; exact hB'.1
                  · rw [kp_ui, if_neg (by decide)]; exact hB'.2.1
                  · rw [kp_ui, if_neg (by omega)]; exact hB'.2.2 j hj
            obtain ⟨X2, F2⟩ := hrc (kw_ui S 27 0 y) (k' + 1) (mi + M 0 y.toNatClampNeg) (tu + T 0 y.toNatClampNeg) (upd p 0 y) b' e1 X1 hpre hm2
            obtain ⟨X3, F3⟩ := ih (y + Int32.ofInt 1) _ _ (by omega) (by omega) (by omega) (show kg_X M T U N n lim 0 p _ _ from ⟨X2.1, fun j hj => (X2.2.1 j (by omega)).trans (by simp [upd, show ¬ j = 0 by omega]), X2.2.2⟩)
            exact ⟨X3, (F1.tr F2 (fun _ h => h)).tr F3 (fun _ h => h)⟩
      rcases b with _ | ⟨c, q⟩
      · rw [if_pos (show (S.1 7 5).toInt = 0 from hB)]
        exact step none hB (fun c q e => by cases e)
      · rw [if_neg hB.1, hB.2.1, e26]
        by_cases pr : c.toInt < (mi + M 0 y.toNatClampNeg).toInt + kg_U U d (0 + 1)
        · rw [if_pos pr]
          exact step (some (c, q)) hB (fun c' q' e => by cases e; exact pr)
        · rw [if_neg pr]
          have es : kg_g M T lim N d 0 mi tu p y.toNatClampNeg (some (c, q)) = some (c, q) := by
            unfold kg_g
            by_cases ht : -lim.toInt ≤ (tu + T 0 y.toNatClampNeg).toInt ∧ (tu + T 0 y.toNatClampNeg).toInt ≤ lim.toInt
            · rw [if_pos ht]
              exact kg_prune hM hn c q d (0 + 1) _ _ _ (by omega) hm2 (by omega)
            · rw [if_neg ht]
          rw [es]
          exact ih _ S (some (c, q)) (by omega) (by omega) (by omega) ⟨hE, hp, hB⟩
    · rw [if_neg hy, show N - y.toNatClampNeg = 0 by omega]
      exact ⟨⟨hE, hp, hB⟩, kw_F.rf⟩
theorem kg_L1 {M T : Nat → Nat → Int32} {U : Nat → Int} {N n : Nat} {lim : Int32} (hM : kg_ok M U N n) (hn : n ≤ 3) (hN : N ≤ 64) (l0 : 0 ≤ lim.toInt) (d : Nat) (hk : 1 + (d + 1) = n) (rc : kw_S → Int32 → Int32 → Int32 → kw_S) (hrc : kg_rc M T U N n lim d (1 + 1) rc) (k' mi tu : Int32) (ek : k'.toInt = 1) (p : Nat → Int32) (hm : kg_mi 1 mi) : ∀ (f : Nat) (y : Int32) (S : kw_S) (b : kg_B), 0 ≤ y.toInt → y.toInt ≤ N → ((N : Int) - y.toInt).toNat < f → kg_X M T U N n lim 1 p b S → kg_X M T U N n lim 1 p (kg_loop (kg_g M T lim N d 1 mi tu p) (N - y.toNatClampNeg) y.toNatClampNeg b) (l_X6_sailFrom_7_49a rc k' mi tu f y S) ∧ kw_F [7, 24, 27] S (l_X6_sailFrom_7_49a rc k' mi tu f y S) := by
  intro f
  induction f with
  | zero => intro y S b _ _ h; exact absurd h (Nat.not_lt_zero _)
  | succ f ih =>
    intro y S b y0 y1 hf hX
    obtain ⟨hE, hp, hB⟩ := hX
    have cy := kw_clampI y0
    obtain ⟨cN, cM⟩ := hE.c1 (by omega)
    rw [l_X6_sailFrom_7_49a_s]
    simp only [kf_lx]
    by_cases hy : y.toInt < (S.1 53 3).toInt
    · have z := kp_inc y (by omega)
      have c1 := kw_clampI (x := y + Int32.ofInt 1) (by omega)
      obtain ⟨m1, m2⟩ := cM y y0 (by omega)
      have eN : N - y.toNatClampNeg = (N - (y + Int32.ofInt 1).toNatClampNeg) + 1 := by omega
      have ey : y.toNatClampNeg + 1 = (y + Int32.ofInt 1).toNatClampNeg := by omega
      rw [if_pos hy, m1, m2, hE.h7, eN]
      show kg_X M T U N n lim 1 p (kg_loop (kg_g M T lim N d 1 mi tu p) (N - (y + Int32.ofInt 1).toNatClampNeg) (y.toNatClampNeg + 1) (kg_g M T lim N d 1 mi tu p y.toNatClampNeg b)) _ ∧ _
      rw [ey]
      have bM := hM.1 1 y.toNatClampNeg (by omega) (by omega)
      have bU := hM.2 1 (by omega)
      obtain ⟨ea, hm2⟩ := kg_add (a := M 1 y.toNatClampNeg) hm (by omega) bM.1 (by omega)
      have e1 : (k' + 1).toInt = ((1 + 1 : Nat) : Int) := by rw [kw_addI, kp_q1, ek]; rfl
      have c2 := kw_clampI (x := k' + 1) (by omega)
      have en1 : (k' + 1).toNatClampNeg = 1 + 1 := by omega
      have ck := kw_clampI (x := k') (by omega)
      have enk : k'.toNatClampNeg = 1 := by omega
      have h26 := hE.h26 (1 + 1) (by omega)
      have eD : n - (1 + 1) = d := by omega
      rw [eD] at h26
      have bD := kg_Ub U n hM.2 d (1 + 1) (by omega)
      have hm2a := hm2.1
      have hm2b := hm2.2
      have e26 : (mi + M 1 y.toNatClampNeg + S.1 26 (1 + 1)).toInt = (mi + M 1 y.toNatClampNeg).toInt + kg_U U d (1 + 1) := by rw [kw_addI, h26]; omega
      have nl : (-lim).toInt = -lim.toInt := by
        have := kw_rng lim
        rw [kw_negI]; omega
      rw [en1, enk, nl]
      have step : ∀ b' : kg_B, kg_Bx n S b' → (∀ c q, b' = some (c, q) → c.toInt < (mi + M 1 y.toNatClampNeg).toInt + kg_U U d (1 + 1)) → kg_X M T U N n lim 1 p (kg_loop (kg_g M T lim N d 1 mi tu p) (N - (y + Int32.ofInt 1).toNatClampNeg) (y + Int32.ofInt 1).toNatClampNeg (kg_g M T lim N d 1 mi tu p y.toNatClampNeg b')) (if lim.toInt < (tu + T 1 y.toNatClampNeg).toInt then l_X6_sailFrom_7_49a rc k' mi tu f (y + Int32.ofInt 1) S else if (tu + T 1 y.toNatClampNeg).toInt < -lim.toInt then l_X6_sailFrom_7_49a rc k' mi tu f (y + Int32.ofInt 1) S else l_X6_sailFrom_7_49a rc k' mi tu f (y + Int32.ofInt 1) (rc (kw_ui S 27 1 y) (k' + 1) (mi + M 1 y.toNatClampNeg) (tu + T 1 y.toNatClampNeg))) ∧ kw_F [7, 24, 27] S (if lim.toInt < (tu + T 1 y.toNatClampNeg).toInt then l_X6_sailFrom_7_49a rc k' mi tu f (y + Int32.ofInt 1) S else if (tu + T 1 y.toNatClampNeg).toInt < -lim.toInt then l_X6_sailFrom_7_49a rc k' mi tu f (y + Int32.ofInt 1) S else l_X6_sailFrom_7_49a rc k' mi tu f (y + Int32.ofInt 1) (rc (kw_ui S 27 1 y) (k' + 1) (mi + M 1 y.toNatClampNeg) (tu + T 1 y.toNatClampNeg))) := by
        intro b' hB' hpre
        by_cases t1 : lim.toInt < (tu + T 1 y.toNatClampNeg).toInt
        · rw [if_pos t1, show kg_g M T lim N d 1 mi tu p y.toNatClampNeg b' = b' from if_neg (by omega)]
          exact ih _ S b' (by omega) (by omega) (by omega) ⟨hE, hp, hB'⟩
        · rw [if_neg t1]
          by_cases t2 : (tu + T 1 y.toNatClampNeg).toInt < -lim.toInt
          · rw [if_pos t2, show kg_g M T lim N d 1 mi tu p y.toNatClampNeg b' = b' from if_neg (by omega)]
            exact ih _ S b' (by omega) (by omega) (by omega) ⟨hE, hp, hB'⟩
          · rw [if_neg t2, show kg_g M T lim N d 1 mi tu p y.toNatClampNeg b' = kg_S M T lim N d (1 + 1) (mi + M 1 y.toNatClampNeg) (tu + T 1 y.toNatClampNeg) (upd p 1 (Int32.ofNat y.toNatClampNeg)) b' from if_pos (by omega), kd_ofNat y y0]
            have F1 : kw_F [7, 24, 27] S (kw_ui S 27 1 y) := kw_F_ui kw_F.rf (by decide)
            have X1 : kg_X M T U N n lim (1 + 1) (upd p 1 y) b' (kw_ui S 27 1 y) := by
              refine ⟨hE.cong (fun a ha => (F1 a (by intro q; simp at q; omega)).1) (by rw [kp_ui, if_neg (by decide)]) (by rw [kp_ui, if_neg (by decide)]), fun j hj => ?_, ?_⟩
              · rw [kp_ui]
                by_cases e : j = 1
                · rw [if_pos ⟨rfl, e⟩, e]; simp [upd]
                · rw [if_neg (fun w => e w.2), hp j (by omega)]; simp [upd, e]
              · rcases b' with _ | ⟨c, q⟩
                · show ((kw_ui S 27 1 y).1 7 5).toInt = 0
                  rw [kp_ui, if_neg (by decide)]; exact hB'
                · refine ⟨?_, ?_, fun j hj => ?_⟩
                  · rw [kp_ui, if_neg (by decide)]; exact hB'.1
                  · rw [kp_ui, if_neg (by decide)]; exact hB'.2.1
                  · rw [kp_ui, if_neg (by omega)]; exact hB'.2.2 j hj
            obtain ⟨X2, F2⟩ := hrc (kw_ui S 27 1 y) (k' + 1) (mi + M 1 y.toNatClampNeg) (tu + T 1 y.toNatClampNeg) (upd p 1 y) b' e1 X1 hpre hm2
            obtain ⟨X3, F3⟩ := ih (y + Int32.ofInt 1) _ _ (by omega) (by omega) (by omega) (show kg_X M T U N n lim 1 p _ _ from ⟨X2.1, fun j hj => (X2.2.1 j (by omega)).trans (by simp [upd, show ¬ j = 1 by omega]), X2.2.2⟩)
            exact ⟨X3, (F1.tr F2 (fun _ h => h)).tr F3 (fun _ h => h)⟩
      rcases b with _ | ⟨c, q⟩
      · rw [if_pos (show (S.1 7 5).toInt = 0 from hB)]
        exact step none hB (fun c q e => by cases e)
      · rw [if_neg hB.1, hB.2.1, e26]
        by_cases pr : c.toInt < (mi + M 1 y.toNatClampNeg).toInt + kg_U U d (1 + 1)
        · rw [if_pos pr]
          exact step (some (c, q)) hB (fun c' q' e => by cases e; exact pr)
        · rw [if_neg pr]
          have es : kg_g M T lim N d 1 mi tu p y.toNatClampNeg (some (c, q)) = some (c, q) := by
            unfold kg_g
            by_cases ht : -lim.toInt ≤ (tu + T 1 y.toNatClampNeg).toInt ∧ (tu + T 1 y.toNatClampNeg).toInt ≤ lim.toInt
            · rw [if_pos ht]
              exact kg_prune hM hn c q d (1 + 1) _ _ _ (by omega) hm2 (by omega)
            · rw [if_neg ht]
          rw [es]
          exact ih _ S (some (c, q)) (by omega) (by omega) (by omega) ⟨hE, hp, hB⟩
    · rw [if_neg hy, show N - y.toNatClampNeg = 0 by omega]
      exact ⟨⟨hE, hp, hB⟩, kw_F.rf⟩
theorem kg_L2 {M T : Nat → Nat → Int32} {U : Nat → Int} {N n : Nat} {lim : Int32} (hM : kg_ok M U N n) (hn : n ≤ 3) (hN : N ≤ 64) (l0 : 0 ≤ lim.toInt) (d : Nat) (hk : 2 + (d + 1) = n) (rc : kw_S → Int32 → Int32 → Int32 → kw_S) (hrc : kg_rc M T U N n lim d (2 + 1) rc) (k' mi tu : Int32) (ek : k'.toInt = 2) (p : Nat → Int32) (hm : kg_mi 2 mi) : ∀ (f : Nat) (y : Int32) (S : kw_S) (b : kg_B), 0 ≤ y.toInt → y.toInt ≤ N → ((N : Int) - y.toInt).toNat < f → kg_X M T U N n lim 2 p b S → kg_X M T U N n lim 2 p (kg_loop (kg_g M T lim N d 2 mi tu p) (N - y.toNatClampNeg) y.toNatClampNeg b) (l_X6_sailFrom_7_49b rc k' mi tu f y S) ∧ kw_F [7, 24, 27] S (l_X6_sailFrom_7_49b rc k' mi tu f y S) := by
  intro f
  induction f with
  | zero => intro y S b _ _ h; exact absurd h (Nat.not_lt_zero _)
  | succ f ih =>
    intro y S b y0 y1 hf hX
    obtain ⟨hE, hp, hB⟩ := hX
    have cy := kw_clampI y0
    obtain ⟨cN, cM⟩ := hE.c2 (by omega)
    rw [l_X6_sailFrom_7_49b_s]
    simp only [kf_lx]
    by_cases hy : y.toInt < (S.1 54 3).toInt
    · have z := kp_inc y (by omega)
      have c1 := kw_clampI (x := y + Int32.ofInt 1) (by omega)
      obtain ⟨m1, m2⟩ := cM y y0 (by omega)
      have eN : N - y.toNatClampNeg = (N - (y + Int32.ofInt 1).toNatClampNeg) + 1 := by omega
      have ey : y.toNatClampNeg + 1 = (y + Int32.ofInt 1).toNatClampNeg := by omega
      rw [if_pos hy, m1, m2, hE.h7, eN]
      show kg_X M T U N n lim 2 p (kg_loop (kg_g M T lim N d 2 mi tu p) (N - (y + Int32.ofInt 1).toNatClampNeg) (y.toNatClampNeg + 1) (kg_g M T lim N d 2 mi tu p y.toNatClampNeg b)) _ ∧ _
      rw [ey]
      have bM := hM.1 2 y.toNatClampNeg (by omega) (by omega)
      have bU := hM.2 2 (by omega)
      obtain ⟨ea, hm2⟩ := kg_add (a := M 2 y.toNatClampNeg) hm (by omega) bM.1 (by omega)
      have e1 : (k' + 1).toInt = ((2 + 1 : Nat) : Int) := by rw [kw_addI, kp_q1, ek]; rfl
      have c2 := kw_clampI (x := k' + 1) (by omega)
      have en1 : (k' + 1).toNatClampNeg = 2 + 1 := by omega
      have ck := kw_clampI (x := k') (by omega)
      have enk : k'.toNatClampNeg = 2 := by omega
      have h26 := hE.h26 (2 + 1) (by omega)
      have eD : n - (2 + 1) = d := by omega
      rw [eD] at h26
      have bD := kg_Ub U n hM.2 d (2 + 1) (by omega)
      have hm2a := hm2.1
      have hm2b := hm2.2
      have e26 : (mi + M 2 y.toNatClampNeg + S.1 26 (2 + 1)).toInt = (mi + M 2 y.toNatClampNeg).toInt + kg_U U d (2 + 1) := by rw [kw_addI, h26]; omega
      have nl : (-lim).toInt = -lim.toInt := by
        have := kw_rng lim
        rw [kw_negI]; omega
      rw [en1, enk, nl]
      have step : ∀ b' : kg_B, kg_Bx n S b' → (∀ c q, b' = some (c, q) → c.toInt < (mi + M 2 y.toNatClampNeg).toInt + kg_U U d (2 + 1)) → kg_X M T U N n lim 2 p (kg_loop (kg_g M T lim N d 2 mi tu p) (N - (y + Int32.ofInt 1).toNatClampNeg) (y + Int32.ofInt 1).toNatClampNeg (kg_g M T lim N d 2 mi tu p y.toNatClampNeg b')) (if lim.toInt < (tu + T 2 y.toNatClampNeg).toInt then l_X6_sailFrom_7_49b rc k' mi tu f (y + Int32.ofInt 1) S else if (tu + T 2 y.toNatClampNeg).toInt < -lim.toInt then l_X6_sailFrom_7_49b rc k' mi tu f (y + Int32.ofInt 1) S else l_X6_sailFrom_7_49b rc k' mi tu f (y + Int32.ofInt 1) (rc (kw_ui S 27 2 y) (k' + 1) (mi + M 2 y.toNatClampNeg) (tu + T 2 y.toNatClampNeg))) ∧ kw_F [7, 24, 27] S (if lim.toInt < (tu + T 2 y.toNatClampNeg).toInt then l_X6_sailFrom_7_49b rc k' mi tu f (y + Int32.ofInt 1) S else if (tu + T 2 y.toNatClampNeg).toInt < -lim.toInt then l_X6_sailFrom_7_49b rc k' mi tu f (y + Int32.ofInt 1) S else l_X6_sailFrom_7_49b rc k' mi tu f (y + Int32.ofInt 1) (rc (kw_ui S 27 2 y) (k' + 1) (mi + M 2 y.toNatClampNeg) (tu + T 2 y.toNatClampNeg))) := by
        intro b' hB' hpre
        by_cases t1 : lim.toInt < (tu + T 2 y.toNatClampNeg).toInt
        · rw [if_pos t1, show kg_g M T lim N d 2 mi tu p y.toNatClampNeg b' = b' from if_neg (by omega)]
          exact ih _ S b' (by omega) (by omega) (by omega) ⟨hE, hp, hB'⟩
        · rw [if_neg t1]
          by_cases t2 : (tu + T 2 y.toNatClampNeg).toInt < -lim.toInt
          · rw [if_pos t2, show kg_g M T lim N d 2 mi tu p y.toNatClampNeg b' = b' from if_neg (by omega)]
            exact ih _ S b' (by omega) (by omega) (by omega) ⟨hE, hp, hB'⟩
          · rw [if_neg t2, show kg_g M T lim N d 2 mi tu p y.toNatClampNeg b' = kg_S M T lim N d (2 + 1) (mi + M 2 y.toNatClampNeg) (tu + T 2 y.toNatClampNeg) (upd p 2 (Int32.ofNat y.toNatClampNeg)) b' from if_pos (by omega), kd_ofNat y y0]
            have F1 : kw_F [7, 24, 27] S (kw_ui S 27 2 y) := kw_F_ui kw_F.rf (by decide)
            have X1 : kg_X M T U N n lim (2 + 1) (upd p 2 y) b' (kw_ui S 27 2 y) := by
              refine ⟨hE.cong (fun a ha => (F1 a (by intro q; simp at q; omega)).1) (by rw [kp_ui, if_neg (by decide)]) (by rw [kp_ui, if_neg (by decide)]), fun j hj => ?_, ?_⟩
              · rw [kp_ui]
                by_cases e : j = 2
                · rw [if_pos ⟨rfl, e⟩, e]; simp [upd]
                · rw [if_neg (fun w => e w.2), hp j (by omega)]; simp [upd, e]
              · rcases b' with _ | ⟨c, q⟩
                · show ((kw_ui S 27 2 y).1 7 5).toInt = 0
                  rw [kp_ui, if_neg (by decide)]; exact hB'
                · refine ⟨?_, ?_, fun j hj => ?_⟩
                  · rw [kp_ui, if_neg (by decide)]; exact hB'.1
                  · rw [kp_ui, if_neg (by decide)]; exact hB'.2.1
                  · rw [kp_ui, if_neg (by omega)]; exact hB'.2.2 j hj
            obtain ⟨X2, F2⟩ := hrc (kw_ui S 27 2 y) (k' + 1) (mi + M 2 y.toNatClampNeg) (tu + T 2 y.toNatClampNeg) (upd p 2 y) b' e1 X1 hpre hm2
            obtain ⟨X3, F3⟩ := ih (y + Int32.ofInt 1) _ _ (by omega) (by omega) (by omega) (show kg_X M T U N n lim 2 p _ _ from ⟨X2.1, fun j hj => (X2.2.1 j (by omega)).trans (by simp [upd, show ¬ j = 2 by omega]), X2.2.2⟩)
            exact ⟨X3, (F1.tr F2 (fun _ h => h)).tr F3 (fun _ h => h)⟩
      rcases b with _ | ⟨c, q⟩
      · rw [if_pos (show (S.1 7 5).toInt = 0 from hB)]
        exact step none hB (fun c q e => by cases e)
      · rw [if_neg hB.1, hB.2.1, e26]
        by_cases pr : c.toInt < (mi + M 2 y.toNatClampNeg).toInt + kg_U U d (2 + 1)
        · rw [if_pos pr]
          exact step (some (c, q)) hB (fun c' q' e => by cases e; exact pr)
        · rw [if_neg pr]
          have es : kg_g M T lim N d 2 mi tu p y.toNatClampNeg (some (c, q)) = some (c, q) := by
            unfold kg_g
            by_cases ht : -lim.toInt ≤ (tu + T 2 y.toNatClampNeg).toInt ∧ (tu + T 2 y.toNatClampNeg).toInt ≤ lim.toInt
            · rw [if_pos ht]
              exact kg_prune hM hn c q d (2 + 1) _ _ _ (by omega) hm2 (by omega)
            · rw [if_neg ht]
          rw [es]
          exact ih _ S (some (c, q)) (by omega) (by omega) (by omega) ⟨hE, hp, hB⟩
    · rw [if_neg hy, show N - y.toNatClampNeg = 0 by omega]
      exact ⟨⟨hE, hp, hB⟩, kw_F.rf⟩
theorem kg_leaf {M T : Nat → Nat → Int32} {U : Nat → Int} {N n : Nat} {lim : Int32} (hn : n ≤ 3) (S : kw_S) (mi tu : Int32) (p : Nat → Int32) (b : kg_B) (hX : kg_X M T U N n lim n p b S) (hpre : ∀ c q, b = some (c, q) → c.toInt < mi.toInt + kg_U U 0 n) : kg_X M T U N n lim n p (kg_S M T lim N 0 n mi tu p b) (kw_ua (kw_ui (kw_ui S 7 5 1) 7 1 mi) 24 (va_cpy ((kw_ui (kw_ui S 7 5 1) 7 1 mi).1 27) ((kw_ui (kw_ui S 7 5 1) 7 1 mi).1 24) ((0 : Int32).toNatClampNeg) ((0 : Int32).toNatClampNeg) ((3 : Int32).toNatClampNeg))) ∧ kw_F [7, 24, 27] S (kw_ua (kw_ui (kw_ui S 7 5 1) 7 1 mi) 24 (va_cpy ((kw_ui (kw_ui S 7 5 1) 7 1 mi).1 27) ((kw_ui (kw_ui S 7 5 1) 7 1 mi).1 24) ((0 : Int32).toNatClampNeg) ((0 : Int32).toNatClampNeg) ((3 : Int32).toNatClampNeg))) := by
  obtain ⟨hE, hp, hB⟩ := hX
  have F : kw_F [7, 24, 27] S (kw_ua (kw_ui (kw_ui S 7 5 1) 7 1 mi) 24 (va_cpy ((kw_ui (kw_ui S 7 5 1) 7 1 mi).1 27) ((kw_ui (kw_ui S 7 5 1) 7 1 mi).1 24) ((0 : Int32).toNatClampNeg) ((0 : Int32).toNatClampNeg) ((3 : Int32).toNatClampNeg))) := kw_F_ua (kw_F_ui (kw_F_ui kw_F.rf (by decide)) (by decide)) (by decide)
  have e : kg_S M T lim N 0 n mi tu p b = some (mi, p) := by
    rcases b with _ | ⟨c, q⟩
    · rfl
    · have h : c.toInt < mi.toInt + 0 := hpre c q rfl
      show (if c.toInt < mi.toInt then some (mi, p) else some (c, q)) = some (mi, p)
      rw [if_pos (by omega)]
  rw [e]
  have p27 : ∀ j : Nat, (kw_ui (kw_ui S 7 5 1) 7 1 mi).1 27 j = S.1 27 j := fun j => by rw [kp_ui, if_neg (by omega), kp_ui, if_neg (by omega)]
  refine ⟨⟨hE.cong (fun a ha => (F a (by intro q; simp at q; omega)).1) ?_ ?_, fun j hj => ?_, ?_, ?_, fun j hj => ?_⟩, F⟩
  · rw [kp_ua, if_neg (by decide), kp_ui, if_neg (by decide), kp_ui, if_neg (by decide)]
  · rw [kp_ua, if_neg (by decide), kp_ui, if_neg (by decide), kp_ui, if_neg (by decide)]
  · rw [kp_ua, if_neg (by decide), p27]; exact hp j hj
  · rw [kp_ua, if_neg (by decide), kp_ui, if_neg (by decide), kp_ui, if_pos ⟨rfl, rfl⟩]; decide
  · rw [kp_ua, if_neg (by decide), kp_ui, if_pos ⟨rfl, rfl⟩]
  · rw [kp_ua, if_pos rfl]
    have a0 : (0 : Int32).toNatClampNeg = 0 := rfl
    have a3 : (3 : Int32).toNatClampNeg = 3 := rfl
    rw [a0, a3]
    show (if 0 ≤ j ∧ j < 0 + 3 then (kw_ui (kw_ui S 7 5 1) 7 1 mi).1 27 (0 + (j - 0)) else _) = p j
    rw [if_pos (by omega), show 0 + (j - 0) = j by omega, p27]
    exact hp j hj
theorem kg_sail {M T : Nat → Nat → Int32} {U : Nat → Int} {N n : Nat} {lim : Int32} (hM : kg_ok M U N n) (hn : n ≤ 3) (hN : N ≤ 64) (l0 : 0 ≤ lim.toInt) : ∀ (d k f : Nat), k + d = n → d ≤ f → kg_rc M T U N n lim d k (f_X6_sailFrom_7 f)
  | 0, k, f, hk, hf => by
    intro S k' mi tu p b ek hX hpre hm
    have h6 := hX.1.h6
    have e : k = n := by omega
    subst e
    cases f with
    | zero =>
      rw [f_X6_sailFrom_7_u0]
      simp only [kf_lx]
      rw [if_neg (show ¬ k'.toInt < (S.1 7 6).toInt by omega)]
      exact kg_leaf hn S mi tu p b hX hpre
    | succ f =>
      rw [f_X6_sailFrom_7_u1]
      simp only [kf_lx]
      rw [if_neg (show ¬ k'.toInt < (S.1 7 6).toInt by omega)]
      exact kg_leaf hn S mi tu p b hX hpre
  | d + 1, k, f, hk, hf => by
    intro S k' mi tu p b ek hX hpre hm
    have h6 := hX.1.h6
    cases f with
    | zero => exact absurd hf (by omega)
    | succ f =>
      have ih := kg_sail (T := T) (lim := lim) hM hn hN l0 d (k + 1) f (by omega) (by omega)
      have q0 : (0 : Int32).toNatClampNeg = 0 := rfl
      rw [f_X6_sailFrom_7_u1, kg_SS]
      rw [if_pos (show k'.toInt < (S.1 7 6).toInt by omega), if_pos (show k'.toInt < (3 : Int32).toInt by rw [show (3 : Int32).toInt = 3 from rfl]; omega)]
      by_cases k0 : k = 0
      · subst k0
        have h := kg_L0 hM hn hN l0 d hk (f_X6_sailFrom_7 f) ih k' mi tu ek p hm (((S.1 52 3).toInt - (0 : Int32).toInt).toNat + 1) 0 S b (by decide) (by rw [kp_q0]; omega) (by rw [(hX.1.c0 (by omega)).1, kp_q0]; omega) hX
        rw [q0] at h
        rw [if_pos (show k'.toInt = 0 from ek)]
        exact h
      · by_cases k1 : k = 1
        · subst k1
          have h := kg_L1 hM hn hN l0 d hk (f_X6_sailFrom_7 f) ih k' mi tu ek p hm (((S.1 53 3).toInt - (0 : Int32).toInt).toNat + 1) 0 S b (by decide) (by rw [kp_q0]; omega) (by rw [(hX.1.c1 (by omega)).1, kp_q0]; omega) hX
          rw [q0] at h
          rw [if_neg (show ¬ k'.toInt = 0 by omega), if_pos (show k'.toInt = 1 from ek)]
          exact h
        · have k2 : k = 2 := by omega
          subst k2
          have h := kg_L2 hM hn hN l0 d hk (f_X6_sailFrom_7 f) ih k' mi tu ek p hm (((S.1 54 3).toInt - (0 : Int32).toInt).toNat + 1) 0 S b (by decide) (by rw [kp_q0]; omega) (by rw [(hX.1.c2 (by omega)).1, kp_q0]; omega) hX
          rw [q0] at h
          rw [if_neg (show ¬ k'.toInt = 0 by omega), if_neg (show ¬ k'.toInt = 1 by omega), if_pos (show k'.toInt = 2 from ek)]
          exact h
end
section
/-! ===== far 2: the class's find ===== -/
noncomputable def kg_W (x : kw_S) (k : Nat) : Int32 := f_X1_windAt_17 x (x.1 4 5 + Int32.ofNat k)
noncomputable def kg_M (x : kw_S) (k s : Nat) : Int32 := f_X1_milesOf_17 x (Int32.ofNat s) (kg_W x k)
noncomputable def kg_T (x : kw_S) (k s : Nat) : Int32 := f_X1_turnOf_17 x (Int32.ofNat s) (kg_W x k)
noncomputable def kg_Un (x : kw_S) (k : Nat) : Int := (kz_p x (kg_W x k) (x.1 17 5).toNatClampNeg).tdiv 4
theorem kg_plus (a : Int32) (k : Nat) (a0 : 0 ≤ a.toInt) (a1 : a.toInt ≤ 1000) (hk : k < 10) : (a + Int32.ofNat k).toInt = a.toInt + k := by
  rw [kw_addI, kz_ofNatI k (by omega)]; omega
theorem kg_wind {x m : kw_S} (hL : kr_L x m) (hD : kr_D x m) (k : Nat) (hk : k < 10) : 0 ≤ (kg_W x k).toInt ∧ (kg_W x k).toInt ≤ 5 := by
  have n1 := (kd_now hL hD).1
  have e := kg_plus (x.1 4 5) k (by omega) (by omega) hk
  exact kh_wind hL _ (by omega)
theorem kg_isok {x m : kw_S} (hL : kr_L x m) (hD : kr_D x m) (n : Nat) (hn : n ≤ 3) : kg_ok (kg_M x) (kg_Un x) (2 ^ (x.1 17 5).toNatClampNeg) n := by
  have l2 := hL.2.1
  have cl := kw_clampI l2.1
  have pw := kc_pow (x.1 17 5).toNatClampNeg (by omega)
  refine ⟨fun k s hk hs => ?_, fun k hk => ?_⟩
  · have wb := kg_wind hL hD k (by omega)
    have es := kz_ofNatI s (by omega)
    have cs := kw_clampI (x := Int32.ofNat s) (by omega)
    have h := kz_miles hL (kg_W x k) wb.1 (by omega) (Int32.ofNat s) (by omega) (by omega)
    have b := kz_bound hL (kg_W x k) wb.1 (by omega) (Int32.ofNat s).toNatClampNeg (x.1 17 5).toNatClampNeg (by omega)
    have b2 := b.2.1
    have b3 := kz_mono _ _ b.2.2.1
    have b4 := kz_mono (-720) _ (show -720 ≤ kz_s x (kg_W x k) (Int32.ofNat s).toNatClampNeg (x.1 17 5).toNatClampNeg by omega)
    have b5 : Int.tdiv (-720) 4 = -180 := rfl
    unfold kg_M kg_Un
    rw [h]
    exact ⟨by omega, b3⟩
  · have wb := kg_wind hL hD k (by omega)
    have b := kz_bound hL (kg_W x k) wb.1 (by omega) 0 (x.1 17 5).toNatClampNeg (by omega)
    have b3 := kz_mono 0 _ b.2.2.2.1
    have b4 := kz_mono _ 720 (show kz_p x (kg_W x k) (x.1 17 5).toNatClampNeg ≤ 720 by have := b.2.2.2.2.1; omega)
    have b5 : Int.tdiv 720 4 = 180 := rfl
    have b6 : Int.tdiv 0 4 = 0 := rfl
    unfold kg_Un
    omega
theorem kz_p_lay {x y : kw_S} (h : kd_lay x y) (w : Int32) : ∀ n : Nat, kz_p y w n = kz_p x w n
  | 0 => rfl
  | n + 1 => by rw [kz_pS, kz_pS, kz_p_lay h w n, h.pullOf]
def kg_Ey (x : kw_S) (n : Nat) (lim : Int32) (y : Int) (S : kw_S) : Prop := (kw_F [7, 26, 52, 53, 54, 55, 56, 57, 58, 59, 60] x S) ∧ ((S.1 7 6).toInt = n) ∧ (S.1 7 7 = lim) ∧ ((S.1 7 5).toInt = 0) ∧ (∀ j : Nat, j ≤ n → y < (j : Int) → (S.1 26 j).toInt = kg_U (kg_Un x) (n - j) j) ∧ (0 < n → y < 0 → (S.1 52 3).toInt = (2 ^ (x.1 17 5).toNatClampNeg : Nat) ∧ ∀ s : Int32, 0 ≤ s.toInt → s.toInt < (2 ^ (x.1 17 5).toNatClampNeg : Nat) → f_X0_milesOf_52 S s = kg_M x 0 s.toNatClampNeg ∧ f_X0_turnBy_52 S s = kg_T x 0 s.toNatClampNeg) ∧ (1 < n → y < 1 → (S.1 53 3).toInt = (2 ^ (x.1 17 5).toNatClampNeg : Nat) ∧ ∀ s : Int32, 0 ≤ s.toInt → s.toInt < (2 ^ (x.1 17 5).toNatClampNeg : Nat) → f_X0_milesOf_53 S s = kg_M x 1 s.toNatClampNeg ∧ f_X0_turnBy_53 S s = kg_T x 1 s.toNatClampNeg) ∧ (2 < n → y < 2 → (S.1 54 3).toInt = (2 ^ (x.1 17 5).toNatClampNeg : Nat) ∧ ∀ s : Int32, 0 ≤ s.toInt → s.toInt < (2 ^ (x.1 17 5).toNatClampNeg : Nat) → f_X0_milesOf_54 S s = kg_M x 2 s.toNatClampNeg ∧ f_X0_turnBy_54 S s = kg_T x 2 s.toNatClampNeg)
theorem kg_Ey.fr {x : kw_S} {n : Nat} {lim : Int32} {y : Int} {S : kw_S} (h : kg_Ey x n lim y S) : kw_F [7, 26, 52, 53, 54, 55, 56, 57, 58, 59, 60] x S := h.1
theorem kg_Ey.h6 {x : kw_S} {n : Nat} {lim : Int32} {y : Int} {S : kw_S} (h : kg_Ey x n lim y S) : (S.1 7 6).toInt = n := h.2.1
theorem kg_Ey.h7 {x : kw_S} {n : Nat} {lim : Int32} {y : Int} {S : kw_S} (h : kg_Ey x n lim y S) : S.1 7 7 = lim := h.2.2.1
theorem kg_Ey.h5 {x : kw_S} {n : Nat} {lim : Int32} {y : Int} {S : kw_S} (h : kg_Ey x n lim y S) : (S.1 7 5).toInt = 0 := h.2.2.2.1
theorem kg_Ey.h26 {x : kw_S} {n : Nat} {lim : Int32} {y : Int} {S : kw_S} (h : kg_Ey x n lim y S) : ∀ j : Nat, j ≤ n → y < (j : Int) → (S.1 26 j).toInt = kg_U (kg_Un x) (n - j) j := h.2.2.2.2.1
theorem kg_Ey.c0 {x : kw_S} {n : Nat} {lim : Int32} {y : Int} {S : kw_S} (h : kg_Ey x n lim y S) : 0 < n → y < 0 → (S.1 52 3).toInt = (2 ^ (x.1 17 5).toNatClampNeg : Nat) ∧ ∀ s : Int32, 0 ≤ s.toInt → s.toInt < (2 ^ (x.1 17 5).toNatClampNeg : Nat) → f_X0_milesOf_52 S s = kg_M x 0 s.toNatClampNeg ∧ f_X0_turnBy_52 S s = kg_T x 0 s.toNatClampNeg := h.2.2.2.2.2.1
theorem kg_Ey.c1 {x : kw_S} {n : Nat} {lim : Int32} {y : Int} {S : kw_S} (h : kg_Ey x n lim y S) : 1 < n → y < 1 → (S.1 53 3).toInt = (2 ^ (x.1 17 5).toNatClampNeg : Nat) ∧ ∀ s : Int32, 0 ≤ s.toInt → s.toInt < (2 ^ (x.1 17 5).toNatClampNeg : Nat) → f_X0_milesOf_53 S s = kg_M x 1 s.toNatClampNeg ∧ f_X0_turnBy_53 S s = kg_T x 1 s.toNatClampNeg := h.2.2.2.2.2.2.1
theorem kg_Ey.c2 {x : kw_S} {n : Nat} {lim : Int32} {y : Int} {S : kw_S} (h : kg_Ey x n lim y S) : 2 < n → y < 2 → (S.1 54 3).toInt = (2 ^ (x.1 17 5).toNatClampNeg : Nat) ∧ ∀ s : Int32, 0 ≤ s.toInt → s.toInt < (2 ^ (x.1 17 5).toNatClampNeg : Nat) → f_X0_milesOf_54 S s = kg_M x 2 s.toNatClampNeg ∧ f_X0_turnBy_54 S s = kg_T x 2 s.toNatClampNeg := h.2.2.2.2.2.2.2
theorem kg_Ey.env {x S : kw_S} {n : Nat} {lim : Int32} {y : Int} (h : kg_Ey x n lim y S) (hy : y < 0) : kg_E (kg_M x) (kg_T x) (kg_Un x) (2 ^ (x.1 17 5).toNatClampNeg) n lim S :=
  ⟨h.h6, h.h7, fun j hj => h.h26 j hj (by omega), fun q => h.c0 q hy, fun q => h.c1 q (by omega), fun q => h.c2 q (by omega)⟩
theorem kg_draw0 {x m S : kw_S} (hL : kr_L x m) (hD : kr_D x m) {n : Nat} {lim : Int32} (hn : n ≤ 3) (hk : 0 < n) (h : kg_Ey x n lim 0 S) : kg_Ey x n lim (0 - 1) (kw_ui (f_X0_draw_52_17 S (f_X5_windAhead_4 S 0)) 26 0 ((f_X0_draw_52_17 S (f_X5_windAhead_4 S 0)).1 26 (0 + 1) + f_X1_mostMilesOf_17 (f_X0_draw_52_17 S (f_X5_windAhead_4 S 0)) (f_X1_allLines_17 (f_X0_draw_52_17 S (f_X5_windAhead_4 S 0))) (f_X5_windAhead_4 S 0))) := by
  have l2 := hL.2.1
  have lay : kd_lay x S := kd_lay.of h.fr (by decide)
  have ew : f_X5_windAhead_4 S 0 = kg_W x 0 := by
    rw [f_X5_windAhead_4_u]
    simp only [kf_lx]
    rw [lay.windAt, (h.fr 4 (by decide)).1]
    rfl
  have e5 : S.1 17 5 = x.1 17 5 := by rw [(h.fr 17 (by decide)).1]
  have wb := kg_wind hL hD 0 (by omega)
  rw [ew]
  obtain ⟨d1, d2, -, -⟩ := kc_draw52 S (kg_W x 0) (by rw [e5]; omega) (by rw [e5]; omega)
  have dm := fun s : Int32 => kc_cm52 S (f_X0_draw_52_17 S (kg_W x 0)) (kg_W x 0) s (by rw [e5]; omega) (by rw [e5]; omega) (fun _ _ => rfl)
  generalize f_X0_draw_52_17 S (kg_W x 0) = S5 at *
  have lay5 : kd_lay x S5 := lay.tr (kd_lay.of d1 (by decide))
  have hL5 : kr_L S5 m := hL.cong (fun a ha => lay5 a ha) (fun _ _ => rfl) rfl rfl
  have e55 : S5.1 17 5 = x.1 17 5 := by rw [lay5 17 (by omega)]
  have em : (f_X1_mostMilesOf_17 S5 (f_X1_allLines_17 S5) (kg_W x 0)).toInt = kg_Un x 0 := by
    rw [kz_most hL5 (kg_W x 0) wb.1 (by omega), e55, kz_p_lay lay5]
    rfl
  have e26 : (S5.1 26 (0 + 1)).toInt = kg_U (kg_Un x) (n - (0 + 1)) (0 + 1) := by
    rw [(d1 26 (by decide)).1]
    exact h.h26 (0 + 1) (by omega) (by omega)
  have ok := kg_isok hL hD n hn
  have b1 := ok.2 0 hk
  have b2 := kg_Ub (kg_Un x) n ok.2 (n - (0 + 1)) (0 + 1) (by omega)
  generalize hv : S5.1 26 (0 + 1) + f_X1_mostMilesOf_17 S5 (f_X1_allLines_17 S5) (kg_W x 0) = v
  have ev : v.toInt = kg_U (kg_Un x) (n - 0) 0 := by
    rw [← hv, kw_addI, e26, em, show n - 0 = (n - (0 + 1)) + 1 by omega]
    show _ = kg_Un x 0 + kg_U (kg_Un x) (n - (0 + 1)) (0 + 1)
    omega
  have F : kw_F [7, 26, 52, 53, 54, 55, 56, 57, 58, 59, 60] x (kw_ui S5 26 0 v) := kw_F_ui (h.fr.tr d1 (by decide)) (by decide)
  have other : ∀ a : Nat, ¬ a = 26 → (kw_ui S5 26 0 v).1 a = S5.1 a := fun a ha => by
    funext j
    rw [kp_ui, if_neg (fun z => ha z.1)]
  refine ⟨F, ?_, ?_, ?_, fun j hj hy => ?_, fun q hy => ?_, fun q hy => ?_, fun q hy => ?_⟩
  · rw [other 7 (by decide), (d1 7 (by decide)).1]; exact h.h6
  · rw [other 7 (by decide), (d1 7 (by decide)).1]; exact h.h7
  · rw [other 7 (by decide), (d1 7 (by decide)).1]; exact h.h5
  · rw [kp_ui]
    by_cases e : j = 0
    · rw [if_pos ⟨rfl, e⟩, e]; exact ev
    · rw [if_neg (fun z => e z.2), (d1 26 (by decide)).1]
      exact h.h26 j hj (by omega)
  · rw [other 52 (by decide)]
    refine ⟨by rw [d2, e5], fun s s0 s1 => ?_⟩
    have u := dm s s0 (by rw [e5]; exact s1)
    have cs := kd_ofNat s s0
    rw [f_X0_milesOf_52_u, f_X0_turnBy_52_u] at u ⊢
    rw [other 55 (by decide), other 56 (by decide), u.1, u.2, lay.miles, lay.turn]
    unfold kg_M kg_T
    rw [cs]
    exact ⟨rfl, rfl⟩
  · have u := h.c1 q (by omega)
    rw [other 53 (by decide), (d1 53 (by decide)).1]
    refine ⟨u.1, fun s s0 s1 => ?_⟩
    have v := u.2 s s0 s1
    rw [f_X0_milesOf_53_u, f_X0_turnBy_53_u] at v ⊢
    rw [other 57 (by decide), other 58 (by decide), (d1 57 (by decide)).1, (d1 58 (by decide)).1]
    exact v
  · have u := h.c2 q (by omega)
    rw [other 54 (by decide), (d1 54 (by decide)).1]
    refine ⟨u.1, fun s s0 s1 => ?_⟩
    have v := u.2 s s0 s1
    rw [f_X0_milesOf_54_u, f_X0_turnBy_54_u] at v ⊢
    rw [other 59 (by decide), other 60 (by decide), (d1 59 (by decide)).1, (d1 60 (by decide)).1]
    exact v
theorem kg_draw1 {x m S : kw_S} (hL : kr_L x m) (hD : kr_D x m) {n : Nat} {lim : Int32} (hn : n ≤ 3) (hk : 1 < n) (h : kg_Ey x n lim 1 S) : kg_Ey x n lim (1 - 1) (kw_ui (f_X0_draw_53_17 S (f_X5_windAhead_4 S 1)) 26 1 ((f_X0_draw_53_17 S (f_X5_windAhead_4 S 1)).1 26 (1 + 1) + f_X1_mostMilesOf_17 (f_X0_draw_53_17 S (f_X5_windAhead_4 S 1)) (f_X1_allLines_17 (f_X0_draw_53_17 S (f_X5_windAhead_4 S 1))) (f_X5_windAhead_4 S 1))) := by
  have l2 := hL.2.1
  have lay : kd_lay x S := kd_lay.of h.fr (by decide)
  have ew : f_X5_windAhead_4 S 1 = kg_W x 1 := by
    rw [f_X5_windAhead_4_u]
    simp only [kf_lx]
    rw [lay.windAt, (h.fr 4 (by decide)).1]
    rfl
  have e5 : S.1 17 5 = x.1 17 5 := by rw [(h.fr 17 (by decide)).1]
  have wb := kg_wind hL hD 1 (by omega)
  rw [ew]
  obtain ⟨d1, d2, -, -⟩ := kc_draw53 S (kg_W x 1) (by rw [e5]; omega) (by rw [e5]; omega)
  have dm := fun s : Int32 => kc_cm53 S (f_X0_draw_53_17 S (kg_W x 1)) (kg_W x 1) s (by rw [e5]; omega) (by rw [e5]; omega) (fun _ _ => rfl)
  generalize f_X0_draw_53_17 S (kg_W x 1) = S5 at *
  have lay5 : kd_lay x S5 := lay.tr (kd_lay.of d1 (by decide))
  have hL5 : kr_L S5 m := hL.cong (fun a ha => lay5 a ha) (fun _ _ => rfl) rfl rfl
  have e55 : S5.1 17 5 = x.1 17 5 := by rw [lay5 17 (by omega)]
  have em : (f_X1_mostMilesOf_17 S5 (f_X1_allLines_17 S5) (kg_W x 1)).toInt = kg_Un x 1 := by
    rw [kz_most hL5 (kg_W x 1) wb.1 (by omega), e55, kz_p_lay lay5]
    rfl
  have e26 : (S5.1 26 (1 + 1)).toInt = kg_U (kg_Un x) (n - (1 + 1)) (1 + 1) := by
    rw [(d1 26 (by decide)).1]
    exact h.h26 (1 + 1) (by omega) (by omega)
  have ok := kg_isok hL hD n hn
  have b1 := ok.2 1 hk
  have b2 := kg_Ub (kg_Un x) n ok.2 (n - (1 + 1)) (1 + 1) (by omega)
  generalize hv : S5.1 26 (1 + 1) + f_X1_mostMilesOf_17 S5 (f_X1_allLines_17 S5) (kg_W x 1) = v
  have ev : v.toInt = kg_U (kg_Un x) (n - 1) 1 := by
    rw [← hv, kw_addI, e26, em, show n - 1 = (n - (1 + 1)) + 1 by omega]
    show _ = kg_Un x 1 + kg_U (kg_Un x) (n - (1 + 1)) (1 + 1)
    omega
  have F : kw_F [7, 26, 52, 53, 54, 55, 56, 57, 58, 59, 60] x (kw_ui S5 26 1 v) := kw_F_ui (h.fr.tr d1 (by decide)) (by decide)
  have other : ∀ a : Nat, ¬ a = 26 → (kw_ui S5 26 1 v).1 a = S5.1 a := fun a ha => by
    funext j
    rw [kp_ui, if_neg (fun z => ha z.1)]
  refine ⟨F, ?_, ?_, ?_, fun j hj hy => ?_, fun q hy => ?_, fun q hy => ?_, fun q hy => ?_⟩
  · rw [other 7 (by decide), (d1 7 (by decide)).1]; exact h.h6
  · rw [other 7 (by decide), (d1 7 (by decide)).1]; exact h.h7
  · rw [other 7 (by decide), (d1 7 (by decide)).1]; exact h.h5
  · rw [kp_ui]
    by_cases e : j = 1
    · rw [if_pos ⟨rfl, e⟩, e]; exact ev
    · rw [if_neg (fun z => e z.2), (d1 26 (by decide)).1]
      exact h.h26 j hj (by omega)
  · exact absurd hy (by omega)
  · rw [other 53 (by decide)]
    refine ⟨by rw [d2, e5], fun s s0 s1 => ?_⟩
    have u := dm s s0 (by rw [e5]; exact s1)
    have cs := kd_ofNat s s0
    rw [f_X0_milesOf_53_u, f_X0_turnBy_53_u] at u ⊢
    rw [other 57 (by decide), other 58 (by decide), u.1, u.2, lay.miles, lay.turn]
    unfold kg_M kg_T
    rw [cs]
    exact ⟨rfl, rfl⟩
  · have u := h.c2 q (by omega)
    rw [other 54 (by decide), (d1 54 (by decide)).1]
    refine ⟨u.1, fun s s0 s1 => ?_⟩
    have v := u.2 s s0 s1
    rw [f_X0_milesOf_54_u, f_X0_turnBy_54_u] at v ⊢
    rw [other 59 (by decide), other 60 (by decide), (d1 59 (by decide)).1, (d1 60 (by decide)).1]
    exact v
theorem kg_draw2 {x m S : kw_S} (hL : kr_L x m) (hD : kr_D x m) {n : Nat} {lim : Int32} (hn : n ≤ 3) (hk : 2 < n) (h : kg_Ey x n lim 2 S) : kg_Ey x n lim (2 - 1) (kw_ui (f_X0_draw_54_17 S (f_X5_windAhead_4 S 2)) 26 2 ((f_X0_draw_54_17 S (f_X5_windAhead_4 S 2)).1 26 (2 + 1) + f_X1_mostMilesOf_17 (f_X0_draw_54_17 S (f_X5_windAhead_4 S 2)) (f_X1_allLines_17 (f_X0_draw_54_17 S (f_X5_windAhead_4 S 2))) (f_X5_windAhead_4 S 2))) := by
  have l2 := hL.2.1
  have lay : kd_lay x S := kd_lay.of h.fr (by decide)
  have ew : f_X5_windAhead_4 S 2 = kg_W x 2 := by
    rw [f_X5_windAhead_4_u]
    simp only [kf_lx]
    rw [lay.windAt, (h.fr 4 (by decide)).1]
    rfl
  have e5 : S.1 17 5 = x.1 17 5 := by rw [(h.fr 17 (by decide)).1]
  have wb := kg_wind hL hD 2 (by omega)
  rw [ew]
  obtain ⟨d1, d2, -, -⟩ := kc_draw54 S (kg_W x 2) (by rw [e5]; omega) (by rw [e5]; omega)
  have dm := fun s : Int32 => kc_cm54 S (f_X0_draw_54_17 S (kg_W x 2)) (kg_W x 2) s (by rw [e5]; omega) (by rw [e5]; omega) (fun _ _ => rfl)
  generalize f_X0_draw_54_17 S (kg_W x 2) = S5 at *
  have lay5 : kd_lay x S5 := lay.tr (kd_lay.of d1 (by decide))
  have hL5 : kr_L S5 m := hL.cong (fun a ha => lay5 a ha) (fun _ _ => rfl) rfl rfl
  have e55 : S5.1 17 5 = x.1 17 5 := by rw [lay5 17 (by omega)]
  have em : (f_X1_mostMilesOf_17 S5 (f_X1_allLines_17 S5) (kg_W x 2)).toInt = kg_Un x 2 := by
    rw [kz_most hL5 (kg_W x 2) wb.1 (by omega), e55, kz_p_lay lay5]
    rfl
  have e26 : (S5.1 26 (2 + 1)).toInt = kg_U (kg_Un x) (n - (2 + 1)) (2 + 1) := by
    rw [(d1 26 (by decide)).1]
    exact h.h26 (2 + 1) (by omega) (by omega)
  have ok := kg_isok hL hD n hn
  have b1 := ok.2 2 hk
  have b2 := kg_Ub (kg_Un x) n ok.2 (n - (2 + 1)) (2 + 1) (by omega)
  generalize hv : S5.1 26 (2 + 1) + f_X1_mostMilesOf_17 S5 (f_X1_allLines_17 S5) (kg_W x 2) = v
  have ev : v.toInt = kg_U (kg_Un x) (n - 2) 2 := by
    rw [← hv, kw_addI, e26, em, show n - 2 = (n - (2 + 1)) + 1 by omega]
    show _ = kg_Un x 2 + kg_U (kg_Un x) (n - (2 + 1)) (2 + 1)
    omega
  have F : kw_F [7, 26, 52, 53, 54, 55, 56, 57, 58, 59, 60] x (kw_ui S5 26 2 v) := kw_F_ui (h.fr.tr d1 (by decide)) (by decide)
  have other : ∀ a : Nat, ¬ a = 26 → (kw_ui S5 26 2 v).1 a = S5.1 a := fun a ha => by
    funext j
    rw [kp_ui, if_neg (fun z => ha z.1)]
  refine ⟨F, ?_, ?_, ?_, fun j hj hy => ?_, fun q hy => ?_, fun q hy => ?_, fun q hy => ?_⟩
  · rw [other 7 (by decide), (d1 7 (by decide)).1]; exact h.h6
  · rw [other 7 (by decide), (d1 7 (by decide)).1]; exact h.h7
  · rw [other 7 (by decide), (d1 7 (by decide)).1]; exact h.h5
  · rw [kp_ui]
    by_cases e : j = 2
    · rw [if_pos ⟨rfl, e⟩, e]; exact ev
    · rw [if_neg (fun z => e z.2), (d1 26 (by decide)).1]
      exact h.h26 j hj (by omega)
  · exact absurd hy (by omega)
  · exact absurd hy (by omega)
  · rw [other 54 (by decide)]
    refine ⟨by rw [d2, e5], fun s s0 s1 => ?_⟩
    have u := dm s s0 (by rw [e5]; exact s1)
    have cs := kd_ofNat s s0
    rw [f_X0_milesOf_54_u, f_X0_turnBy_54_u] at u ⊢
    rw [other 59 (by decide), other 60 (by decide), u.1, u.2, lay.miles, lay.turn]
    unfold kg_M kg_T
    rw [cs]
    exact ⟨rfl, rfl⟩
theorem kg_find {x m s : kw_S} {r : Int32} (hL : kr_L x m) (hD : kr_D x m) (hb : -7200 ≤ (x.1 4 6).toInt ∧ (x.1 4 6).toInt ≤ 7200) (n t : Int32) (n0 : 0 ≤ n.toInt) (n3 : n.toInt ≤ 3) (t0 : 0 ≤ t.toInt) (e : (r, s) = f_X6_find_7_4 x n t) : kg_Bx n.toNatClampNeg s (kg_S (kg_M x) (kg_T x) t (2 ^ (x.1 17 5).toNatClampNeg) n.toNatClampNeg 0 (x.1 4 6) (x.1 4 7) (fun _ => 0) none) ∧ r = s.1 7 5 ∧ kw_F [7, 24, 26, 27, 52, 53, 54, 55, 56, 57, 58, 59, 60] x s := by
  have l2 := hL.2.1
  have cl := kw_clampI l2.1
  have cn := kw_clampI n0
  have pw := kc_pow (x.1 17 5).toNatClampNeg (by omega)
  have L : ∀ (f : Nat) (y : Int32) (S : kw_S), -1 ≤ y.toInt → y.toInt < n.toInt → (y.toInt + 1).toNat < f → kg_Ey x n.toNatClampNeg t y.toInt S → ∃ S' : kw_S, l_X6_find_7_4_37 n t f y S = ((f_X6_sailFrom_7 3 S' 0 (S'.1 4 6) (S'.1 4 7)).1 7 5, f_X6_sailFrom_7 3 S' 0 (S'.1 4 6) (S'.1 4 7)) ∧ kg_Ey x n.toNatClampNeg t (-1) S' := by
    intro f
    induction f with
    | zero => intro y S _ _ h; exact absurd h (Nat.not_lt_zero _)
    | succ f ih =>
      intro y S y0 y1 hf hE
      rw [l_X6_find_7_4_37_s]
      simp only [kf_lx]
      by_cases hy : y.toInt < 0
      · rw [if_pos hy]
        exact ⟨S, rfl, by rw [show y.toInt = -1 by omega] at hE; exact hE⟩
      · rw [if_neg hy]
        have ed : (y + Int32.ofInt (-1)).toInt = y.toInt - 1 := by rw [kw_addI, show (Int32.ofInt (-1)).toInt = -1 from rfl]; omega
        by_cases h0 : y.toInt = 0
        · have ey : y = 0 := Int32.toInt_inj.mp h0
          subst ey
          rw [if_pos h0]
          exact ih _ _ (by omega) (by omega) (by omega) (by rw [ed]; exact kg_draw0 hL hD (by omega) (by omega) hE)
        · rw [if_neg h0]
          by_cases h1 : y.toInt = 1
          · have ey : y = 1 := Int32.toInt_inj.mp h1
            subst ey
            rw [if_pos h1]
            exact ih _ _ (by omega) (by omega) (by omega) (by rw [ed]; exact kg_draw1 hL hD (by omega) (by omega) hE)
          · rw [if_neg h1]
            have h2 : y.toInt = 2 := by clear hE ih pw; omega
            have ey : y = 2 := Int32.toInt_inj.mp h2
            subst ey
            rw [if_pos h2]
            exact ih _ _ (by omega) (by omega) (by omega) (by rw [ed]; exact kg_draw2 hL hD (by omega) (by omega) hE)
  rw [f_X6_find_7_4_u] at e
  simp only [kf_lx] at e
  have en : (if (3 : Int32) < n then (3 : Int32) else n) = n := by
    rw [if_neg (fun q => absurd (Int32.lt_iff_toInt_lt.mp q) (by rw [show (3 : Int32).toInt = 3 from rfl]; omega))]
  have e1 : (n - 1).toInt = n.toInt - 1 := by rw [kw_subI, kp_q1]; omega
  rw [en] at e
  have E0 : kg_Ey x n.toNatClampNeg t (n - 1).toInt (kw_ui (kw_ui (kw_ui (kw_ui x 7 6 n) 7 7 t) 7 5 0) 26 n.toNatClampNeg 0) := by
    refine ⟨kw_F_ui (kw_F_ui (kw_F_ui (kw_F_ui kw_F.rf (by decide)) (by decide)) (by decide)) (by decide), ?_, ?_, ?_, fun j hj hy => ?_, fun q hy => ?_, fun q hy => ?_, fun q hy => ?_⟩
    · rw [kp_ui, if_neg (by omega), kp_ui, if_neg (by omega), kp_ui, if_neg (by omega), kp_ui, if_pos ⟨rfl, rfl⟩]; omega
    · rw [kp_ui, if_neg (by omega), kp_ui, if_neg (by omega), kp_ui, if_pos ⟨rfl, rfl⟩]
    · rw [kp_ui, if_neg (by omega), kp_ui, if_pos ⟨rfl, rfl⟩]; rfl
    · have ej : j = n.toNatClampNeg := by omega
      rw [kp_ui, if_pos ⟨rfl, ej⟩, ej, Nat.sub_self]; rfl
    · exact absurd hy (by omega)
    · exact absurd hy (by omega)
    · exact absurd hy (by omega)
  obtain ⟨S', a1, a2⟩ := L (((n - 1).toInt + 2).toNat + 1) (n - 1) _ (by omega) (by omega) (by omega) E0
  rw [a1] at e
  obtain ⟨r1, s1⟩ := Prod.mk.inj e
  have f4 := (a2.fr 4 (by decide)).1
  rw [f4] at s1 r1
  have ok := kg_isok hL hD n.toNatClampNeg (by omega)
  obtain ⟨X, F⟩ := kg_sail (T := kg_T x) (lim := t) ok (by omega) pw.1 t0 n.toNatClampNeg 0 3 (by omega) (by omega) S' 0 (x.1 4 6) (x.1 4 7) (fun _ => 0) none rfl ⟨a2.env (by omega), fun j hj => absurd hj (Nat.not_lt_zero _), a2.h5⟩ (fun c q z => by cases z) ⟨by omega, by omega⟩
  rw [← s1] at X F r1
  refine ⟨X.2.2, r1, ?_⟩
  exact ((kw_F.rf (L := [7, 24, 26, 27, 52, 53, 54, 55, 56, 57, 58, 59, 60])).tr a2.fr (by decide)).tr F (by decide)
end
section
/-! ===== far 3: the reference's loops ===== -/
def kg_Bm (n : Nat) (w : Int32) (S : kw_S) : kg_B → Prop
  | none => w = -1048576
  | some (c, q) => w = c ∧ kg_mi 3 c ∧ ∀ j : Nat, j < n → S.1 20 j = q j
theorem kg_mi.up {k : Nat} {a : Int32} (h : kg_mi k a) (hk : k ≤ 3) : kg_mi 3 a := by
  have h1 := h.1
  have h2 := h.2
  constructor <;> omega
theorem kg_leafm {n : Nat} (hn : n ≤ 3) {w z a0 a1 a2 : Int32} {S S0 : kw_S} {b : kg_B} (p : Nat → Int32) (hF : kw_FM [20] S0 S) (hB : kg_Bm n w S b) (hz : kg_mi 3 z) (p0 : 0 < n → p 0 = a0) (p1 : 1 < n → p 1 = a1) (p2 : 2 < n → p 2 = a2) : (w.toInt < z.toInt → kw_FM [20] S0 (kw_ui (kw_ui (kw_ui S 20 0 a0) 20 1 a1) 20 2 a2) ∧ kg_Bm n z (kw_ui (kw_ui (kw_ui S 20 0 a0) 20 1 a1) 20 2 a2) (kg_up z p b)) ∧ (¬ w.toInt < z.toInt → kg_Bm n w S (kg_up z p b)) := by
  have qm : (-1048576 : Int32).toInt = -1048576 := rfl
  have v : ∀ j : Nat, j < n → (kw_ui (kw_ui (kw_ui S 20 0 a0) 20 1 a1) 20 2 a2).1 20 j = p j := by
    intro j hj
    have hj3 : j = 0 ∨ j = 1 ∨ j = 2 := by omega
    rcases hj3 with rfl | rfl | rfl
    · rw [kp_ui, if_neg (by decide), kp_ui, if_neg (by decide), kp_ui, if_pos ⟨rfl, rfl⟩, p0 hj]
    · rw [kp_ui, if_neg (by decide), kp_ui, if_pos ⟨rfl, rfl⟩, p1 hj]
    · rw [kp_ui, if_pos ⟨rfl, rfl⟩, p2 hj]
  refine ⟨fun h => ⟨kw_FM_ui (kw_FM_ui (kw_FM_ui hF (by decide) (by decide)) (by decide) (by decide)) (by decide) (by decide), ?_⟩, fun h => ?_⟩
  · have e : kg_up z p b = some (z, p) := by
      rcases b with _ | ⟨c, q⟩
      · rfl
      · have hc : w = c := hB.1
        show (if c.toInt < z.toInt then some (z, p) else some (c, q)) = some (z, p)
        rw [if_pos (by rw [← hc]; exact h)]
    rw [e]
    exact ⟨rfl, hz, v⟩
  · rcases b with _ | ⟨c, q⟩
    · have hw : w = -1048576 := hB
      have h1 := hz.1
      rw [hw, qm] at h
      omega
    · have hc : w = c := hB.1
      have e : kg_up z p (some (c, q)) = some (c, q) := by
        show (if c.toInt < z.toInt then some (z, p) else some (c, q)) = some (c, q)
        rw [if_neg (by rw [← hc]; exact h)]
      rw [e]
      exact hB
theorem kg_isTurn (S : kw_S) (z t : Int32) (t0 : 0 ≤ t.toInt) : f_X8_isTurn S z t = if -t.toInt ≤ z.toInt ∧ z.toInt ≤ t.toInt then 1 else 0 := by
  have r := kw_rng t
  have e : (-t).toInt = -t.toInt := by rw [kw_negI]; omega
  rw [f_X8_isTurn_u]
  simp only [kf_lx, e]
  by_cases h1 : z.toInt < -t.toInt
  · rw [if_pos h1, if_neg (by omega)]
  · rw [if_neg h1]
    by_cases h2 : t.toInt < z.toInt
    · rw [if_pos h2, if_neg (by omega)]
    · rw [if_neg h2, if_pos (by omega)]
/-- what the loops read of the tables -/
def kg_Tm (M T : Nat → Nat → Int32) (N n : Nat) (S : kw_S) : Prop := ∀ k s : Nat, k < n → s < N → S.1 18 (64 * k + s) = M k s ∧ S.1 19 (64 * k + s) = T k s
theorem kg_Tm.fr {M T : Nat → Nat → Int32} {N n : Nat} {S S' : kw_S} (h : kg_Tm M T N n S) (F : kw_FM [20] S S') : kg_Tm M T N n S' := by
  intro k s hk hs
  rw [F.1 18 (by decide) (by decide), F.1 19 (by decide) (by decide)]
  exact h k s hk hs
theorem kg_at64 (c : Nat) (k y : Int32) (hk : k.toInt = c) (hc : c ≤ 1000) (y0 : 0 ≤ y.toInt) (y1 : y.toInt ≤ 64) : (k + y).toNatClampNeg = c + y.toNatClampNeg := by
  have cy := kw_clampI y0
  have e : (k + y).toInt = c + y.toInt := by rw [kw_addI, hk]; omega
  have ce := kw_clampI (x := k + y) (by omega)
  omega
theorem kg_i0 {S0 : kw_S} (k14 k95 : Int32 → Int32 → kw_S → Int32 × kw_S) (a2 a3 a5 a6 a7 a9 a10 a11 : Int32) (p : Nat → Int32) (hz : kg_mi 3 a11) (p0 : 0 < 0 → p 0 = a5) (p1 : 1 < 0 → p 1 = a9) (f : Nat) (w : Int32) (S : kw_S) (b : kg_B) (hF : kw_FM [20] S0 S) (hB : kg_Bm 0 w S b) : ∃ (w' : Int32) (S' : kw_S), l_X8_farByvn0_0_187 k14 k95 a2 a3 a5 a6 a7 a9 a10 a11 (f + 1 + 1) w 0 S = k95 w' (a9 + Int32.ofInt 1) S' ∧ kw_FM [20] S0 S' ∧ kg_Bm 0 w' S' (kg_up a11 p b) := by
  have h1 : ¬ (1 : Int32).toInt = 0 := by decide
  have h2 : ¬ (2 : Int32).toInt < (0 : Int32).toInt := by decide
  have h3 : (0 : Int32).toInt < (3 : Int32).toInt := by decide
  have h4 : (0 : Int32).toInt < (1 : Int32).toInt := by decide
  have h5 : ¬ ((0 : Int32) + Int32.ofInt 1).toInt < (1 : Int32).toInt := by decide
  have q0 : (0 : Int32).toNatClampNeg = 0 := rfl
  have q1 : (1 : Int32).toNatClampNeg = 1 := rfl
  have q2 : (2 : Int32).toNatClampNeg = 2 := rfl
  have lf := kg_leafm (n := 0) (by decide) (a0 := a5) (a1 := a9) (a2 := 0) p hF hB hz p0 p1 (fun q => absurd q (by decide))
  rw [l_X8_farByvn0_0_187_s]
  simp only [kf_lx, if_neg h1, if_neg h2, if_pos h3, if_pos h4, Int32.add_zero, q0, q1, q2]
  by_cases hw : w.toInt < a11.toInt
  · rw [if_pos hw, l_X8_farByvn0_0_187_s]
    simp only [kf_lx, if_neg h1, if_neg h2, if_neg h5]
    exact ⟨_, _, rfl, (lf.1 hw).1, (lf.1 hw).2⟩
  · rw [if_neg hw, l_X8_farByvn0_0_187_s]
    simp only [kf_lx, if_neg h1, if_neg h2, if_neg h5]
    exact ⟨_, _, rfl, hF, lf.2 hw⟩
theorem kg_i1 {S0 : kw_S} (k14 k95 : Int32 → Int32 → kw_S → Int32 × kw_S) (a2 a3 a5 a6 a7 a9 a10 a11 : Int32) (p : Nat → Int32) (hz : kg_mi 3 a11) (p0 : 0 < 1 → p 0 = a5) (p1 : 1 < 1 → p 1 = a9) (f : Nat) (w : Int32) (S : kw_S) (b : kg_B) (hF : kw_FM [20] S0 S) (hB : kg_Bm 1 w S b) : ∃ (w' : Int32) (S' : kw_S), l_X8_farByvn1_0_187 k14 k95 a2 a3 a5 a6 a7 a9 a10 a11 (f + 1 + 1) w 0 S = k95 w' (a9 + Int32.ofInt 1) S' ∧ kw_FM [20] S0 S' ∧ kg_Bm 1 w' S' (kg_up a11 p b) := by
  have h1 : ¬ (1 : Int32).toInt = 0 := by decide
  have h2 : ¬ (2 : Int32).toInt < (1 : Int32).toInt := by decide
  have h3 : (1 : Int32).toInt < (3 : Int32).toInt := by decide
  have h4 : (0 : Int32).toInt < (1 : Int32).toInt := by decide
  have h5 : ¬ ((0 : Int32) + Int32.ofInt 1).toInt < (1 : Int32).toInt := by decide
  have q0 : (0 : Int32).toNatClampNeg = 0 := rfl
  have q1 : (1 : Int32).toNatClampNeg = 1 := rfl
  have q2 : (2 : Int32).toNatClampNeg = 2 := rfl
  have lf := kg_leafm (n := 1) (by decide) (a0 := a5) (a1 := a9) (a2 := 0) p hF hB hz p0 p1 (fun q => absurd q (by decide))
  rw [l_X8_farByvn1_0_187_s]
  simp only [kf_lx, if_neg h1, if_neg h2, if_pos h3, if_pos h4, Int32.add_zero, q0, q1, q2]
  by_cases hw : w.toInt < a11.toInt
  · rw [if_pos hw, l_X8_farByvn1_0_187_s]
    simp only [kf_lx, if_neg h1, if_neg h2, if_neg h5]
    exact ⟨_, _, rfl, (lf.1 hw).1, (lf.1 hw).2⟩
  · rw [if_neg hw, l_X8_farByvn1_0_187_s]
    simp only [kf_lx, if_neg h1, if_neg h2, if_neg h5]
    exact ⟨_, _, rfl, hF, lf.2 hw⟩
theorem kg_i2 {S0 : kw_S} (k14 k95 : Int32 → Int32 → kw_S → Int32 × kw_S) (a2 a3 a5 a6 a7 a9 a10 a11 : Int32) (p : Nat → Int32) (hz : kg_mi 3 a11) (p0 : 0 < 2 → p 0 = a5) (p1 : 1 < 2 → p 1 = a9) (f : Nat) (w : Int32) (S : kw_S) (b : kg_B) (hF : kw_FM [20] S0 S) (hB : kg_Bm 2 w S b) : ∃ (w' : Int32) (S' : kw_S), l_X8_farByvn2_0_187a k14 k95 a2 a3 a5 a6 a7 a9 a10 a11 (f + 1 + 1) w 0 S = k95 w' (a9 + Int32.ofInt 1) S' ∧ kw_FM [20] S0 S' ∧ kg_Bm 2 w' S' (kg_up a11 p b) := by
  have h1 : ¬ (1 : Int32).toInt = 0 := by decide
  have h2 : ¬ (2 : Int32).toInt < (2 : Int32).toInt := by decide
  have h3 : (2 : Int32).toInt < (3 : Int32).toInt := by decide
  have h4 : (0 : Int32).toInt < (1 : Int32).toInt := by decide
  have h5 : ¬ ((0 : Int32) + Int32.ofInt 1).toInt < (1 : Int32).toInt := by decide
  have q0 : (0 : Int32).toNatClampNeg = 0 := rfl
  have q1 : (1 : Int32).toNatClampNeg = 1 := rfl
  have q2 : (2 : Int32).toNatClampNeg = 2 := rfl
  have lf := kg_leafm (n := 2) (by decide) (a0 := a5) (a1 := a9) (a2 := 0) p hF hB hz p0 p1 (fun q => absurd q (by decide))
  rw [l_X8_farByvn2_0_187a_s]
  simp only [kf_lx, if_neg h1, if_neg h2, if_pos h3, if_pos h4, Int32.add_zero, q0, q1, q2]
  by_cases hw : w.toInt < a11.toInt
  · rw [if_pos hw, l_X8_farByvn2_0_187a_s]
    simp only [kf_lx, if_neg h1, if_neg h2, if_neg h5]
    exact ⟨_, _, rfl, (lf.1 hw).1, (lf.1 hw).2⟩
  · rw [if_neg hw, l_X8_farByvn2_0_187a_s]
    simp only [kf_lx, if_neg h1, if_neg h2, if_neg h5]
    exact ⟨_, _, rfl, hF, lf.2 hw⟩
theorem kg_skipi2 (k14 k95 : Int32 → Int32 → kw_S → Int32 × kw_S) (a2 a3 a5 a6 a7 a9 a10 a11 : Int32) (f : Nat) (w : Int32) (S : kw_S) : l_X8_farByvn2_0_187 k14 k95 a2 a3 a5 a6 a7 a9 a10 a11 (f + 1) w 0 S = k95 w (a9 + Int32.ofInt 1) S := by
  rw [l_X8_farByvn2_0_187_s]
  simp only [kf_lx, if_pos (show (0 : Int32).toInt = 0 from rfl)]
theorem kg_skipi3 (k14 k95 : Int32 → Int32 → kw_S → Int32 × kw_S) (a2 a3 a5 a6 a7 a9 a10 a11 : Int32) (f : Nat) (w : Int32) (S : kw_S) : l_X8_farByvn3_0_187 k14 k95 a2 a3 a5 a6 a7 a9 a10 a11 (f + 1) w 0 S = k95 w (a9 + Int32.ofInt 1) S := by
  rw [l_X8_farByvn3_0_187_s]
  simp only [kf_lx, if_pos (show (0 : Int32).toInt = 0 from rfl)]
theorem kg_skipm1 (k14 : Int32 → Int32 → kw_S → Int32 × kw_S) (a2 a3 a5 a6 a7 : Int32) (f : Nat) (w : Int32) (S : kw_S) : l_X8_farByvn1_0_95 k14 a2 a3 a5 a6 a7 (f + 1) w 0 S = k14 w (a5 + Int32.ofInt 1) S := by
  rw [l_X8_farByvn1_0_95_s]
  simp only [kf_lx, if_pos (show (0 : Int32).toInt = 0 from rfl)]
theorem kg_skipm2 (k14 : Int32 → Int32 → kw_S → Int32 × kw_S) (a2 a3 a5 a6 a7 : Int32) (f : Nat) (w : Int32) (S : kw_S) : l_X8_farByvn2_0_95 k14 a2 a3 a5 a6 a7 (f + 1) w 0 S = k14 w (a5 + Int32.ofInt 1) S := by
  rw [l_X8_farByvn2_0_95_s]
  simp only [kf_lx, if_pos (show (0 : Int32).toInt = 0 from rfl)]
theorem kg_skipm3 (k14 : Int32 → Int32 → kw_S → Int32 × kw_S) (a2 a3 a5 a6 a7 : Int32) (f : Nat) (w : Int32) (S : kw_S) : l_X8_farByvn3_0_95 k14 a2 a3 a5 a6 a7 (f + 1) w 0 S = k14 w (a5 + Int32.ofInt 1) S := by
  rw [l_X8_farByvn3_0_95_s]
  simp only [kf_lx, if_pos (show (0 : Int32).toInt = 0 from rfl)]
theorem kg_m0 {S0 : kw_S} (k14 : Int32 → Int32 → kw_S → Int32 × kw_S) (a2 a3 a5 a6 a7 : Int32) (p : Nat → Int32) (hz : kg_mi 3 a7) (p0 : 0 < 0 → p 0 = a5) (f : Nat) (w : Int32) (S : kw_S) (b : kg_B) (hF : kw_FM [20] S0 S) (hB : kg_Bm 0 w S b) : ∃ (w' : Int32) (S' : kw_S), l_X8_farByvn0_0_95 k14 a2 a3 a5 a6 a7 (f + 1 + 1) w 0 S = k14 w' (a5 + Int32.ofInt 1) S' ∧ kw_FM [20] S0 S' ∧ kg_Bm 0 w' S' (kg_up a7 p b) := by
  have h1 : ¬ (1 : Int32).toInt = 0 := by decide
  have h2 : ¬ (1 : Int32).toInt < (0 : Int32).toInt := by decide
  have h3 : (0 : Int32).toInt < (2 : Int32).toInt := by decide
  have h4 : (0 : Int32).toInt < (1 : Int32).toInt := by decide
  have h5 : ¬ ((0 : Int32) + Int32.ofInt 1).toInt < (1 : Int32).toInt := by decide
  rw [l_X8_farByvn0_0_95_s]
  simp only [kf_lx, if_neg h1, if_neg h2, if_pos h3, if_pos h4, Int32.add_zero]
  obtain ⟨w', S', e, F, B⟩ := kg_i0 (S0 := S0) k14 (l_X8_farByvn0_0_95 k14 a2 a3 a5 a6 a7 (f + 1)) a2 a3 a5 a6 a7 0 a6 a7 p hz p0 (fun q => absurd q (by decide)) 64 w S b hF hB
  rw [show ((65 - (0 : Int32).toInt).toNat + 1) = 64 + 1 + 1 from rfl, e, l_X8_farByvn0_0_95_s]
  simp only [kf_lx, if_neg h1, if_neg h2, if_neg h5]
  exact ⟨_, _, rfl, F, B⟩
theorem kg_m1 {S0 : kw_S} (k14 : Int32 → Int32 → kw_S → Int32 × kw_S) (a2 a3 a5 a6 a7 : Int32) (p : Nat → Int32) (hz : kg_mi 3 a7) (p0 : 0 < 1 → p 0 = a5) (f : Nat) (w : Int32) (S : kw_S) (b : kg_B) (hF : kw_FM [20] S0 S) (hB : kg_Bm 1 w S b) : ∃ (w' : Int32) (S' : kw_S), l_X8_farByvn1_0_95a k14 a2 a3 a5 a6 a7 (f + 1 + 1) w 0 S = k14 w' (a5 + Int32.ofInt 1) S' ∧ kw_FM [20] S0 S' ∧ kg_Bm 1 w' S' (kg_up a7 p b) := by
  have h1 : ¬ (1 : Int32).toInt = 0 := by decide
  have h2 : ¬ (1 : Int32).toInt < (1 : Int32).toInt := by decide
  have h3 : (1 : Int32).toInt < (2 : Int32).toInt := by decide
  have h4 : (0 : Int32).toInt < (1 : Int32).toInt := by decide
  have h5 : ¬ ((0 : Int32) + Int32.ofInt 1).toInt < (1 : Int32).toInt := by decide
  rw [l_X8_farByvn1_0_95a_s]
  simp only [kf_lx, if_neg h1, if_neg h2, if_pos h3, if_pos h4, Int32.add_zero]
  obtain ⟨w', S', e, F, B⟩ := kg_i1 (S0 := S0) k14 (l_X8_farByvn1_0_95a k14 a2 a3 a5 a6 a7 (f + 1)) a2 a3 a5 a6 a7 0 a6 a7 p hz p0 (fun q => absurd q (by decide)) 64 w S b hF hB
  rw [show ((65 - (0 : Int32).toInt).toNat + 1) = 64 + 1 + 1 from rfl, e, l_X8_farByvn1_0_95a_s]
  simp only [kf_lx, if_neg h1, if_neg h2, if_neg h5]
  exact ⟨_, _, rfl, F, B⟩
theorem kg_o0 {S0 : kw_S} (a2 a3 : Int32) (hz : kg_mi 3 (S0.1 0 23)) (p : Nat → Int32) (f : Nat) (w : Int32) (b : kg_B) (hB : kg_Bm 0 w S0 b) : ∃ (w' : Int32) (S' : kw_S), l_X8_farByvn0_0_14 a2 a3 (f + 1 + 1) w 0 S0 = (w', S') ∧ kw_FM [20] S0 S' ∧ kg_Bm 0 w' S' (kg_up (S0.1 0 23) p b) := by
  have h2 : ¬ (0 : Int) < (0 : Int32).toInt := by decide
  have h3 : (0 : Int32).toInt = 0 := rfl
  have h4 : (0 : Int32).toInt < (1 : Int32).toInt := by decide
  have h5 : ¬ ((0 : Int32) + Int32.ofInt 1).toInt < (1 : Int32).toInt := by decide
  rw [l_X8_farByvn0_0_14_s]
  simp only [kf_lx, if_neg h2, if_pos h3, if_pos h4, Int32.add_zero]
  obtain ⟨w', S', e, F, B⟩ := kg_m0 (S0 := S0) (l_X8_farByvn0_0_14 a2 a3 (f + 1)) a2 a3 0 (S0.1 0 24) (S0.1 0 23) p hz (fun q => absurd q (by decide)) 64 w S0 b kw_FM.rf hB
  rw [show ((65 - (0 : Int32).toInt).toNat + 1) = 64 + 1 + 1 from rfl, e, l_X8_farByvn0_0_14_s]
  simp only [kf_lx, if_neg h2, if_neg h5]
  exact ⟨_, _, rfl, F, B⟩
theorem kg_i3 {M T : Nat → Nat → Int32} {U : Nat → Int} {N : Nat} {lim : Int32} {S0 : kw_S} (hM : kg_ok M U N 3) (hN : N ≤ 64) (l0 : 0 ≤ lim.toInt) (hT : kg_Tm M T N 3 S0) (k14 k95 : Int32 → Int32 → kw_S → Int32 × kw_S) (a3 a5 a6 a7 a9 a10 a11 : Int32) (e3 : a3.toInt = N) (p : Nat → Int32) (p0 : p 0 = a5) (p1 : p 1 = a9) (hm : kg_mi 2 a11) : ∀ (f : Nat) (y w : Int32) (S : kw_S) (b : kg_B), 0 ≤ y.toInt → y.toInt ≤ N → ((N : Int) - y.toInt).toNat < f → kw_FM [20] S0 S → kg_Bm 3 w S b → ∃ (w' : Int32) (S' : kw_S), l_X8_farByvn3_0_187a k14 k95 lim a3 a5 a6 a7 a9 a10 a11 f w y S = k95 w' (a9 + Int32.ofInt 1) S' ∧ kw_FM [20] S0 S' ∧ kg_Bm 3 w' S' (kg_loop (kg_g M T lim N 0 2 a11 a10 p) (N - y.toNatClampNeg) y.toNatClampNeg b) := by
  intro f
  induction f with
  | zero => intro y w S b _ _ h; exact absurd h (Nat.not_lt_zero _)
  | succ f ih =>
    intro y w S b y0 y1 hf hF hB
    have cy := kw_clampI y0
    have h1 : ¬ (1 : Int32).toInt = 0 := by decide
    have h2 : (2 : Int32).toInt < (3 : Int32).toInt := by decide
    have h2z : (0 : Int) < (3 : Int32).toInt := by decide
    have h3 : ¬ (3 : Int32).toInt < (3 : Int32).toInt := by decide
    have h3z : ¬ (3 : Int32).toInt = 0 := by decide
    rw [l_X8_farByvn3_0_187a_s]
    simp only [kf_lx, if_neg h1, if_pos h2, if_neg h3, if_pos h2z, if_neg h3z]
    by_cases hy : y.toInt < a3.toInt
    · have z := kp_inc y (by omega)
      have c1 := kw_clampI (x := y + Int32.ofInt 1) (by omega)
      have eN : N - y.toNatClampNeg = (N - (y + Int32.ofInt 1).toNatClampNeg) + 1 := by omega
      have ey : y.toNatClampNeg + 1 = (y + Int32.ofInt 1).toNatClampNeg := by omega
      obtain ⟨t1, t2⟩ := (hT.fr hF) 2 y.toNatClampNeg (by decide) (by omega)
      have ea := kg_at64 128 128 y rfl (by decide) y0 (by omega)
      rw [show 64 * 2 + y.toNatClampNeg = (128 + y).toNatClampNeg by omega] at t1 t2
      have bM := hM.1 2 y.toNatClampNeg (by decide) (by omega)
      have bU := hM.2 2 (by decide)
      obtain ⟨ea2, hm2⟩ := kg_add (a := M 2 y.toNatClampNeg) hm (by decide) bM.1 (by omega)
      rw [if_pos hy, t1, t2, kg_isTurn S _ lim l0, eN]
      show ∃ (w' : Int32) (S' : kw_S), _ ∧ _ ∧ kg_Bm 3 w' S' (kg_loop (kg_g M T lim N 0 2 a11 a10 p) (N - (y + Int32.ofInt 1).toNatClampNeg) (y.toNatClampNeg + 1) (kg_g M T lim N 0 2 a11 a10 p y.toNatClampNeg b))
      rw [ey]
      by_cases ht : -lim.toInt ≤ (a10 + T 2 y.toNatClampNeg).toInt ∧ (a10 + T 2 y.toNatClampNeg).toInt ≤ lim.toInt
      · rw [if_pos ht, if_neg h1, show kg_g M T lim N 0 2 a11 a10 p y.toNatClampNeg b = kg_S M T lim N 0 (2 + 1) (a11 + M 2 y.toNatClampNeg) (a10 + T 2 y.toNatClampNeg) (upd p 2 (Int32.ofNat y.toNatClampNeg)) b from if_pos ht, kd_ofNat y y0]
        have q0 : (0 : Int32).toNatClampNeg = 0 := rfl
        have q1 : (1 : Int32).toNatClampNeg = 1 := rfl
        have q2 : (2 : Int32).toNatClampNeg = 2 := rfl
        rw [q0, q1, q2]
        have lf := kg_leafm (n := 3) (by decide) (a0 := a5) (a1 := a9) (a2 := y) (upd p 2 y) hF hB (hm2.up (by decide)) (fun _ => (by simp [upd, p0])) (fun _ => (by simp [upd, p1])) (fun _ => (by simp [upd]))
        by_cases hw : w.toInt < (a11 + M 2 y.toNatClampNeg).toInt
        · rw [if_pos hw]
          exact ih _ _ _ _ (by omega) (by omega) (by omega) (lf.1 hw).1 (lf.1 hw).2
        · rw [if_neg hw]
          exact ih _ _ _ _ (by omega) (by omega) (by omega) hF (lf.2 hw)
      · rw [if_neg ht, if_pos (show (0 : Int32).toInt = 0 from rfl), show kg_g M T lim N 0 2 a11 a10 p y.toNatClampNeg b = b from if_neg ht]
        exact ih _ _ _ _ (by omega) (by omega) (by omega) hF hB
    · rw [if_neg hy, show N - y.toNatClampNeg = 0 by omega]
      exact ⟨_, _, rfl, hF, hB⟩
theorem kg_m2 {M T : Nat → Nat → Int32} {U : Nat → Int} {N : Nat} {lim : Int32} {S0 : kw_S} (hM : kg_ok M U N 2) (hN : N ≤ 64) (l0 : 0 ≤ lim.toInt) (hT : kg_Tm M T N 2 S0) (k14 : Int32 → Int32 → kw_S → Int32 × kw_S) (a3 a5 a6 a7 : Int32) (e3 : a3.toInt = N) (p : Nat → Int32) (p0 : p 0 = a5) (hm : kg_mi 1 a7) : ∀ (f : Nat) (y w : Int32) (S : kw_S) (b : kg_B), 0 ≤ y.toInt → y.toInt ≤ N → ((N : Int) - y.toInt).toNat < f → kw_FM [20] S0 S → kg_Bm 2 w S b → ∃ (w' : Int32) (S' : kw_S), l_X8_farByvn2_0_95a k14 lim a3 a5 a6 a7 f w y S = k14 w' (a5 + Int32.ofInt 1) S' ∧ kw_FM [20] S0 S' ∧ kg_Bm 2 w' S' (kg_loop (kg_g M T lim N 0 1 a7 a6 p) (N - y.toNatClampNeg) y.toNatClampNeg b) := by
  intro f
  induction f with
  | zero => intro y w S b _ _ h; exact absurd h (Nat.not_lt_zero _)
  | succ f ih =>
    intro y w S b y0 y1 hf hF hB
    have cy := kw_clampI y0
    have h1 : ¬ (1 : Int32).toInt = 0 := by decide
    have h2 : (1 : Int32).toInt < (2 : Int32).toInt := by decide
    have h2z : (0 : Int) < (2 : Int32).toInt := by decide
    have h3 : ¬ (2 : Int32).toInt < (2 : Int32).toInt := by decide
    have h3z : ¬ (2 : Int32).toInt = 0 := by decide
    rw [l_X8_farByvn2_0_95a_s]
    simp only [kf_lx, if_neg h1, if_pos h2, if_neg h3, if_pos h2z, if_neg h3z]
    by_cases hy : y.toInt < a3.toInt
    · have z := kp_inc y (by omega)
      have c1 := kw_clampI (x := y + Int32.ofInt 1) (by omega)
      have eN : N - y.toNatClampNeg = (N - (y + Int32.ofInt 1).toNatClampNeg) + 1 := by omega
      have ey : y.toNatClampNeg + 1 = (y + Int32.ofInt 1).toNatClampNeg := by omega
      obtain ⟨t1, t2⟩ := (hT.fr hF) 1 y.toNatClampNeg (by decide) (by omega)
      have ea := kg_at64 64 64 y rfl (by decide) y0 (by omega)
      rw [show 64 * 1 + y.toNatClampNeg = (64 + y).toNatClampNeg by omega] at t1 t2
      have bM := hM.1 1 y.toNatClampNeg (by decide) (by omega)
      have bU := hM.2 1 (by decide)
      obtain ⟨ea2, hm2⟩ := kg_add (a := M 1 y.toNatClampNeg) hm (by decide) bM.1 (by omega)
      rw [if_pos hy, t1, t2, kg_isTurn S _ lim l0, eN]
      show ∃ (w' : Int32) (S' : kw_S), _ ∧ _ ∧ kg_Bm 2 w' S' (kg_loop (kg_g M T lim N 0 1 a7 a6 p) (N - (y + Int32.ofInt 1).toNatClampNeg) (y.toNatClampNeg + 1) (kg_g M T lim N 0 1 a7 a6 p y.toNatClampNeg b))
      rw [ey]
      by_cases ht : -lim.toInt ≤ (a6 + T 1 y.toNatClampNeg).toInt ∧ (a6 + T 1 y.toNatClampNeg).toInt ≤ lim.toInt
      · rw [if_pos ht, if_neg h1, show kg_g M T lim N 0 1 a7 a6 p y.toNatClampNeg b = kg_S M T lim N 0 (1 + 1) (a7 + M 1 y.toNatClampNeg) (a6 + T 1 y.toNatClampNeg) (upd p 1 (Int32.ofNat y.toNatClampNeg)) b from if_pos ht, kd_ofNat y y0]
        obtain ⟨w1, S1, e, F, B⟩ := kg_i2 (S0 := S0) k14 (l_X8_farByvn2_0_95a k14 lim a3 a5 a6 a7 f) lim a3 a5 a6 a7 y (a6 + T 1 y.toNatClampNeg) (a7 + M 1 y.toNatClampNeg) (upd p 1 y) (hm2.up (by decide)) (fun _ => (by simp [upd, p0])) (fun _ => (by simp [upd])) 64 w S b hF hB
        rw [show ((65 - (0 : Int32).toInt).toNat + 1) = 64 + 1 + 1 from rfl, e]
        exact ih _ _ _ _ (by omega) (by omega) (by omega) F B
      · rw [if_neg ht, if_pos (show (0 : Int32).toInt = 0 from rfl), show kg_g M T lim N 0 1 a7 a6 p y.toNatClampNeg b = b from if_neg ht]
        rw [show ((65 - (0 : Int32).toInt).toNat + 1) = 65 + 1 from rfl, kg_skipi2]
        exact ih _ _ _ _ (by omega) (by omega) (by omega) hF hB
    · rw [if_neg hy, show N - y.toNatClampNeg = 0 by omega]
      exact ⟨_, _, rfl, hF, hB⟩
theorem kg_m3 {M T : Nat → Nat → Int32} {U : Nat → Int} {N : Nat} {lim : Int32} {S0 : kw_S} (hM : kg_ok M U N 3) (hN : N ≤ 64) (l0 : 0 ≤ lim.toInt) (hT : kg_Tm M T N 3 S0) (k14 : Int32 → Int32 → kw_S → Int32 × kw_S) (a3 a5 a6 a7 : Int32) (e3 : a3.toInt = N) (p : Nat → Int32) (p0 : p 0 = a5) (hm : kg_mi 1 a7) : ∀ (f : Nat) (y w : Int32) (S : kw_S) (b : kg_B), 0 ≤ y.toInt → y.toInt ≤ N → ((N : Int) - y.toInt).toNat < f → kw_FM [20] S0 S → kg_Bm 3 w S b → ∃ (w' : Int32) (S' : kw_S), l_X8_farByvn3_0_95a k14 lim a3 a5 a6 a7 f w y S = k14 w' (a5 + Int32.ofInt 1) S' ∧ kw_FM [20] S0 S' ∧ kg_Bm 3 w' S' (kg_loop (kg_g M T lim N 1 1 a7 a6 p) (N - y.toNatClampNeg) y.toNatClampNeg b) := by
  intro f
  induction f with
  | zero => intro y w S b _ _ h; exact absurd h (Nat.not_lt_zero _)
  | succ f ih =>
    intro y w S b y0 y1 hf hF hB
    have cy := kw_clampI y0
    have h1 : ¬ (1 : Int32).toInt = 0 := by decide
    have h2 : (1 : Int32).toInt < (3 : Int32).toInt := by decide
    have h2z : (0 : Int) < (3 : Int32).toInt := by decide
    have h3 : ¬ (3 : Int32).toInt < (2 : Int32).toInt := by decide
    have h3z : ¬ (3 : Int32).toInt = 0 := by decide
    rw [l_X8_farByvn3_0_95a_s]
    simp only [kf_lx, if_neg h1, if_pos h2, if_neg h3, if_pos h2z, if_neg h3z]
    by_cases hy : y.toInt < a3.toInt
    · have z := kp_inc y (by omega)
      have c1 := kw_clampI (x := y + Int32.ofInt 1) (by omega)
      have eN : N - y.toNatClampNeg = (N - (y + Int32.ofInt 1).toNatClampNeg) + 1 := by omega
      have ey : y.toNatClampNeg + 1 = (y + Int32.ofInt 1).toNatClampNeg := by omega
      obtain ⟨t1, t2⟩ := (hT.fr hF) 1 y.toNatClampNeg (by decide) (by omega)
      have ea := kg_at64 64 64 y rfl (by decide) y0 (by omega)
      rw [show 64 * 1 + y.toNatClampNeg = (64 + y).toNatClampNeg by omega] at t1 t2
      have bM := hM.1 1 y.toNatClampNeg (by decide) (by omega)
      have bU := hM.2 1 (by decide)
      obtain ⟨ea2, hm2⟩ := kg_add (a := M 1 y.toNatClampNeg) hm (by decide) bM.1 (by omega)
      rw [if_pos hy, t1, t2, kg_isTurn S _ lim l0, eN]
      show ∃ (w' : Int32) (S' : kw_S), _ ∧ _ ∧ kg_Bm 3 w' S' (kg_loop (kg_g M T lim N 1 1 a7 a6 p) (N - (y + Int32.ofInt 1).toNatClampNeg) (y.toNatClampNeg + 1) (kg_g M T lim N 1 1 a7 a6 p y.toNatClampNeg b))
      rw [ey]
      by_cases ht : -lim.toInt ≤ (a6 + T 1 y.toNatClampNeg).toInt ∧ (a6 + T 1 y.toNatClampNeg).toInt ≤ lim.toInt
      · rw [if_pos ht, if_neg h1, show kg_g M T lim N 1 1 a7 a6 p y.toNatClampNeg b = kg_S M T lim N 1 (1 + 1) (a7 + M 1 y.toNatClampNeg) (a6 + T 1 y.toNatClampNeg) (upd p 1 (Int32.ofNat y.toNatClampNeg)) b from if_pos ht, kd_ofNat y y0]
        obtain ⟨w1, S1, e, F, B⟩ := kg_i3 hM hN l0 hT k14 (l_X8_farByvn3_0_95a k14 lim a3 a5 a6 a7 f) a3 a5 a6 a7 y (a6 + T 1 y.toNatClampNeg) (a7 + M 1 y.toNatClampNeg) e3 (upd p 1 y) (by simp [upd, p0]) (by simp [upd]) hm2 ((65 - (0 : Int32).toInt).toNat + 1) 0 w S b (by decide) (by rw [kp_q0]; omega) (by rw [kp_q0]; omega) hF hB
        rw [e]
        exact ih _ _ _ _ (by omega) (by omega) (by omega) F B
      · rw [if_neg ht, if_pos (show (0 : Int32).toInt = 0 from rfl), show kg_g M T lim N 1 1 a7 a6 p y.toNatClampNeg b = b from if_neg ht]
        rw [show ((65 - (0 : Int32).toInt).toNat + 1) = 65 + 1 from rfl, kg_skipi3]
        exact ih _ _ _ _ (by omega) (by omega) (by omega) hF hB
    · rw [if_neg hy, show N - y.toNatClampNeg = 0 by omega]
      exact ⟨_, _, rfl, hF, hB⟩
theorem kg_o1 {M T : Nat → Nat → Int32} {U : Nat → Int} {N : Nat} {lim : Int32} {S0 : kw_S} (hM : kg_ok M U N 1) (hN : N ≤ 64) (l0 : 0 ≤ lim.toInt) (hT : kg_Tm M T N 1 S0) (a3 : Int32) (e3 : a3.toInt = N) (p : Nat → Int32)  (hm : kg_mi 0 (S0.1 0 23)) : ∀ (f : Nat) (y w : Int32) (S : kw_S) (b : kg_B), 0 ≤ y.toInt → y.toInt ≤ N → ((N : Int) - y.toInt).toNat < f → kw_FM [20] S0 S → kg_Bm 1 w S b → ∃ (w' : Int32) (S' : kw_S), l_X8_farByvn1_0_14 lim a3 f w y S = (w', S') ∧ kw_FM [20] S0 S' ∧ kg_Bm 1 w' S' (kg_loop (kg_g M T lim N 0 0 (S0.1 0 23) (S0.1 0 24) p) (N - y.toNatClampNeg) y.toNatClampNeg b) := by
  intro f
  induction f with
  | zero => intro y w S b _ _ h; exact absurd h (Nat.not_lt_zero _)
  | succ f ih =>
    intro y w S b y0 y1 hf hF hB
    have cy := kw_clampI y0
    have h1 : ¬ (1 : Int32).toInt = 0 := by decide
    have h2 : (0 : Int32).toInt < (1 : Int32).toInt := by decide
    have h2z : (0 : Int) < (1 : Int32).toInt := by decide
    have h3 : ¬ (1 : Int32).toInt < (1 : Int32).toInt := by decide
    have h3z : ¬ (1 : Int32).toInt = 0 := by decide
    rw [l_X8_farByvn1_0_14_s]
    simp only [kf_lx, if_neg h1, if_pos h2, if_neg h3, if_pos h2z, if_neg h3z]
    by_cases hy : y.toInt < a3.toInt
    · have z := kp_inc y (by omega)
      have c1 := kw_clampI (x := y + Int32.ofInt 1) (by omega)
      have eN : N - y.toNatClampNeg = (N - (y + Int32.ofInt 1).toNatClampNeg) + 1 := by omega
      have ey : y.toNatClampNeg + 1 = (y + Int32.ofInt 1).toNatClampNeg := by omega
      obtain ⟨t1, t2⟩ := (hT.fr hF) 0 y.toNatClampNeg (by decide) (by omega)
      rw [show 64 * 0 + y.toNatClampNeg = y.toNatClampNeg by omega] at t1 t2
      have bM := hM.1 0 y.toNatClampNeg (by decide) (by omega)
      have bU := hM.2 0 (by decide)
      obtain ⟨ea2, hm2⟩ := kg_add (a := M 0 y.toNatClampNeg) hm (by decide) bM.1 (by omega)
      rw [if_pos hy, t1, t2, hF.2.1 23 (by decide), hF.2.1 24 (by decide), kg_isTurn S _ lim l0, eN]
      show ∃ (w' : Int32) (S' : kw_S), _ ∧ _ ∧ kg_Bm 1 w' S' (kg_loop (kg_g M T lim N 0 0 (S0.1 0 23) (S0.1 0 24) p) (N - (y + Int32.ofInt 1).toNatClampNeg) (y.toNatClampNeg + 1) (kg_g M T lim N 0 0 (S0.1 0 23) (S0.1 0 24) p y.toNatClampNeg b))
      rw [ey]
      by_cases ht : -lim.toInt ≤ ((S0.1 0 24) + T 0 y.toNatClampNeg).toInt ∧ ((S0.1 0 24) + T 0 y.toNatClampNeg).toInt ≤ lim.toInt
      · rw [if_pos ht, if_neg h1, show kg_g M T lim N 0 0 (S0.1 0 23) (S0.1 0 24) p y.toNatClampNeg b = kg_S M T lim N 0 (0 + 1) ((S0.1 0 23) + M 0 y.toNatClampNeg) ((S0.1 0 24) + T 0 y.toNatClampNeg) (upd p 0 (Int32.ofNat y.toNatClampNeg)) b from if_pos ht, kd_ofNat y y0]
        obtain ⟨w1, S1, e, F, B⟩ := kg_m1 (S0 := S0) (l_X8_farByvn1_0_14 lim a3 f) lim a3 y ((S0.1 0 24) + T 0 y.toNatClampNeg) ((S0.1 0 23) + M 0 y.toNatClampNeg) (upd p 0 y) (hm2.up (by decide)) (fun _ => (by simp [upd])) 64 w S b hF hB
        rw [show ((65 - (0 : Int32).toInt).toNat + 1) = 64 + 1 + 1 from rfl, e]
        exact ih _ _ _ _ (by omega) (by omega) (by omega) F B
      · rw [if_neg ht, if_pos (show (0 : Int32).toInt = 0 from rfl), show kg_g M T lim N 0 0 (S0.1 0 23) (S0.1 0 24) p y.toNatClampNeg b = b from if_neg ht]
        rw [show ((65 - (0 : Int32).toInt).toNat + 1) = 65 + 1 from rfl, kg_skipm1]
        exact ih _ _ _ _ (by omega) (by omega) (by omega) hF hB
    · rw [if_neg hy, show N - y.toNatClampNeg = 0 by omega]
      exact ⟨_, _, rfl, hF, hB⟩
theorem kg_o2 {M T : Nat → Nat → Int32} {U : Nat → Int} {N : Nat} {lim : Int32} {S0 : kw_S} (hM : kg_ok M U N 2) (hN : N ≤ 64) (l0 : 0 ≤ lim.toInt) (hT : kg_Tm M T N 2 S0) (a3 : Int32) (e3 : a3.toInt = N) (p : Nat → Int32)  (hm : kg_mi 0 (S0.1 0 23)) : ∀ (f : Nat) (y w : Int32) (S : kw_S) (b : kg_B), 0 ≤ y.toInt → y.toInt ≤ N → ((N : Int) - y.toInt).toNat < f → kw_FM [20] S0 S → kg_Bm 2 w S b → ∃ (w' : Int32) (S' : kw_S), l_X8_farByvn2_0_14 lim a3 f w y S = (w', S') ∧ kw_FM [20] S0 S' ∧ kg_Bm 2 w' S' (kg_loop (kg_g M T lim N 1 0 (S0.1 0 23) (S0.1 0 24) p) (N - y.toNatClampNeg) y.toNatClampNeg b) := by
  intro f
  induction f with
  | zero => intro y w S b _ _ h; exact absurd h (Nat.not_lt_zero _)
  | succ f ih =>
    intro y w S b y0 y1 hf hF hB
    have cy := kw_clampI y0
    have h1 : ¬ (1 : Int32).toInt = 0 := by decide
    have h2 : (0 : Int32).toInt < (2 : Int32).toInt := by decide
    have h2z : (0 : Int) < (2 : Int32).toInt := by decide
    have h3 : ¬ (2 : Int32).toInt < (1 : Int32).toInt := by decide
    have h3z : ¬ (2 : Int32).toInt = 0 := by decide
    rw [l_X8_farByvn2_0_14_s]
    simp only [kf_lx, if_neg h1, if_pos h2, if_neg h3, if_pos h2z, if_neg h3z]
    by_cases hy : y.toInt < a3.toInt
    · have z := kp_inc y (by omega)
      have c1 := kw_clampI (x := y + Int32.ofInt 1) (by omega)
      have eN : N - y.toNatClampNeg = (N - (y + Int32.ofInt 1).toNatClampNeg) + 1 := by omega
      have ey : y.toNatClampNeg + 1 = (y + Int32.ofInt 1).toNatClampNeg := by omega
      obtain ⟨t1, t2⟩ := (hT.fr hF) 0 y.toNatClampNeg (by decide) (by omega)
      rw [show 64 * 0 + y.toNatClampNeg = y.toNatClampNeg by omega] at t1 t2
      have bM := hM.1 0 y.toNatClampNeg (by decide) (by omega)
      have bU := hM.2 0 (by decide)
      obtain ⟨ea2, hm2⟩ := kg_add (a := M 0 y.toNatClampNeg) hm (by decide) bM.1 (by omega)
      rw [if_pos hy, t1, t2, hF.2.1 23 (by decide), hF.2.1 24 (by decide), kg_isTurn S _ lim l0, eN]
      show ∃ (w' : Int32) (S' : kw_S), _ ∧ _ ∧ kg_Bm 2 w' S' (kg_loop (kg_g M T lim N 1 0 (S0.1 0 23) (S0.1 0 24) p) (N - (y + Int32.ofInt 1).toNatClampNeg) (y.toNatClampNeg + 1) (kg_g M T lim N 1 0 (S0.1 0 23) (S0.1 0 24) p y.toNatClampNeg b))
      rw [ey]
      by_cases ht : -lim.toInt ≤ ((S0.1 0 24) + T 0 y.toNatClampNeg).toInt ∧ ((S0.1 0 24) + T 0 y.toNatClampNeg).toInt ≤ lim.toInt
      · rw [if_pos ht, if_neg h1, show kg_g M T lim N 1 0 (S0.1 0 23) (S0.1 0 24) p y.toNatClampNeg b = kg_S M T lim N 1 (0 + 1) ((S0.1 0 23) + M 0 y.toNatClampNeg) ((S0.1 0 24) + T 0 y.toNatClampNeg) (upd p 0 (Int32.ofNat y.toNatClampNeg)) b from if_pos ht, kd_ofNat y y0]
        obtain ⟨w1, S1, e, F, B⟩ := kg_m2 hM hN l0 hT (l_X8_farByvn2_0_14 lim a3 f) a3 y ((S0.1 0 24) + T 0 y.toNatClampNeg) ((S0.1 0 23) + M 0 y.toNatClampNeg) e3 (upd p 0 y) (by simp [upd]) hm2 ((65 - (0 : Int32).toInt).toNat + 1) 0 w S b (by decide) (by rw [kp_q0]; omega) (by rw [kp_q0]; omega) hF hB
        rw [e]
        exact ih _ _ _ _ (by omega) (by omega) (by omega) F B
      · rw [if_neg ht, if_pos (show (0 : Int32).toInt = 0 from rfl), show kg_g M T lim N 1 0 (S0.1 0 23) (S0.1 0 24) p y.toNatClampNeg b = b from if_neg ht]
        rw [show ((65 - (0 : Int32).toInt).toNat + 1) = 65 + 1 from rfl, kg_skipm2]
        exact ih _ _ _ _ (by omega) (by omega) (by omega) hF hB
    · rw [if_neg hy, show N - y.toNatClampNeg = 0 by omega]
      exact ⟨_, _, rfl, hF, hB⟩
theorem kg_o3 {M T : Nat → Nat → Int32} {U : Nat → Int} {N : Nat} {lim : Int32} {S0 : kw_S} (hM : kg_ok M U N 3) (hN : N ≤ 64) (l0 : 0 ≤ lim.toInt) (hT : kg_Tm M T N 3 S0) (a3 : Int32) (e3 : a3.toInt = N) (p : Nat → Int32)  (hm : kg_mi 0 (S0.1 0 23)) : ∀ (f : Nat) (y w : Int32) (S : kw_S) (b : kg_B), 0 ≤ y.toInt → y.toInt ≤ N → ((N : Int) - y.toInt).toNat < f → kw_FM [20] S0 S → kg_Bm 3 w S b → ∃ (w' : Int32) (S' : kw_S), l_X8_farByvn3_0_14 lim a3 f w y S = (w', S') ∧ kw_FM [20] S0 S' ∧ kg_Bm 3 w' S' (kg_loop (kg_g M T lim N 2 0 (S0.1 0 23) (S0.1 0 24) p) (N - y.toNatClampNeg) y.toNatClampNeg b) := by
  intro f
  induction f with
  | zero => intro y w S b _ _ h; exact absurd h (Nat.not_lt_zero _)
  | succ f ih =>
    intro y w S b y0 y1 hf hF hB
    have cy := kw_clampI y0
    have h1 : ¬ (1 : Int32).toInt = 0 := by decide
    have h2 : (0 : Int32).toInt < (3 : Int32).toInt := by decide
    have h2z : (0 : Int) < (3 : Int32).toInt := by decide
    have h3 : ¬ (3 : Int32).toInt < (1 : Int32).toInt := by decide
    have h3z : ¬ (3 : Int32).toInt = 0 := by decide
    rw [l_X8_farByvn3_0_14_s]
    simp only [kf_lx, if_neg h1, if_pos h2, if_neg h3, if_pos h2z, if_neg h3z]
    by_cases hy : y.toInt < a3.toInt
    · have z := kp_inc y (by omega)
      have c1 := kw_clampI (x := y + Int32.ofInt 1) (by omega)
      have eN : N - y.toNatClampNeg = (N - (y + Int32.ofInt 1).toNatClampNeg) + 1 := by omega
      have ey : y.toNatClampNeg + 1 = (y + Int32.ofInt 1).toNatClampNeg := by omega
      obtain ⟨t1, t2⟩ := (hT.fr hF) 0 y.toNatClampNeg (by decide) (by omega)
      rw [show 64 * 0 + y.toNatClampNeg = y.toNatClampNeg by omega] at t1 t2
      have bM := hM.1 0 y.toNatClampNeg (by decide) (by omega)
      have bU := hM.2 0 (by decide)
      obtain ⟨ea2, hm2⟩ := kg_add (a := M 0 y.toNatClampNeg) hm (by decide) bM.1 (by omega)
      rw [if_pos hy, t1, t2, hF.2.1 23 (by decide), hF.2.1 24 (by decide), kg_isTurn S _ lim l0, eN]
      show ∃ (w' : Int32) (S' : kw_S), _ ∧ _ ∧ kg_Bm 3 w' S' (kg_loop (kg_g M T lim N 2 0 (S0.1 0 23) (S0.1 0 24) p) (N - (y + Int32.ofInt 1).toNatClampNeg) (y.toNatClampNeg + 1) (kg_g M T lim N 2 0 (S0.1 0 23) (S0.1 0 24) p y.toNatClampNeg b))
      rw [ey]
      by_cases ht : -lim.toInt ≤ ((S0.1 0 24) + T 0 y.toNatClampNeg).toInt ∧ ((S0.1 0 24) + T 0 y.toNatClampNeg).toInt ≤ lim.toInt
      · rw [if_pos ht, if_neg h1, show kg_g M T lim N 2 0 (S0.1 0 23) (S0.1 0 24) p y.toNatClampNeg b = kg_S M T lim N 2 (0 + 1) ((S0.1 0 23) + M 0 y.toNatClampNeg) ((S0.1 0 24) + T 0 y.toNatClampNeg) (upd p 0 (Int32.ofNat y.toNatClampNeg)) b from if_pos ht, kd_ofNat y y0]
        obtain ⟨w1, S1, e, F, B⟩ := kg_m3 hM hN l0 hT (l_X8_farByvn3_0_14 lim a3 f) a3 y ((S0.1 0 24) + T 0 y.toNatClampNeg) ((S0.1 0 23) + M 0 y.toNatClampNeg) e3 (upd p 0 y) (by simp [upd]) hm2 ((65 - (0 : Int32).toInt).toNat + 1) 0 w S b (by decide) (by rw [kp_q0]; omega) (by rw [kp_q0]; omega) hF hB
        rw [e]
        exact ih _ _ _ _ (by omega) (by omega) (by omega) F B
      · rw [if_neg ht, if_pos (show (0 : Int32).toInt = 0 from rfl), show kg_g M T lim N 2 0 (S0.1 0 23) (S0.1 0 24) p y.toNatClampNeg b = b from if_neg ht]
        rw [show ((65 - (0 : Int32).toInt).toNat + 1) = 65 + 1 from rfl, kg_skipm3]
        exact ih _ _ _ _ (by omega) (by omega) (by omega) hF hB
    · rw [if_neg hy, show N - y.toNatClampNeg = 0 by omega]
      exact ⟨_, _, rfl, hF, hB⟩
end
section
/-! ===== far 4: how far the raft can be, the reference's search, the call ===== -/
theorem kg_mb {x m : kw_S} (hL : kr_L x m) (w : Int32) (w0 : 0 ≤ w.toInt) (w1 : w.toInt ≤ 6) (s : Int32) (s0 : 0 ≤ s.toInt) (s1 : s.toInt ≤ 63) : -180 ≤ (f_X1_milesOf_17 x s w).toInt ∧ (f_X1_milesOf_17 x s w).toInt ≤ 180 := by
  have l2 := hL.2.1
  have cl := kw_clampI l2.1
  have h := kz_miles hL w w0 w1 s s0 s1
  have b := kz_bound hL w w0 w1 s.toNatClampNeg (x.1 17 5).toNatClampNeg (by omega)
  have b2 := b.2.1
  have b3 := b.2.2.1
  have b4 := b.2.2.2.2.1
  have b5 := kz_mono (-720) _ (show -720 ≤ kz_s x w s.toNatClampNeg (x.1 17 5).toNatClampNeg by omega)
  have b6 := kz_mono _ 720 (show kz_s x w s.toNatClampNeg (x.1 17 5).toNatClampNeg ≤ 720 by omega)
  have b7 : Int.tdiv (-720) 4 = -180 := rfl
  have b8 : Int.tdiv 720 4 = 180 := rfl
  rw [h]
  omega
theorem kg_run {x m : kw_S} (hL : kr_L x m) (D : Nat → Int32) : ∀ n : Nat, n ≤ 40 → kd_ok x D n → -180 * (n : Int) ≤ (kd_run x D n).2.1.toInt ∧ (kd_run x D n).2.1.toInt ≤ 180 * (n : Int)
  | 0, _, _ => ⟨by show -180 * ((0 : Nat) : Int) ≤ (0 : Int32).toInt; decide, by show (0 : Int32).toInt ≤ 180 * ((0 : Nat) : Int); decide⟩
  | n + 1, hn, ho => by
    have ih := kg_run hL D n (by omega) (fun d hd => ho d (by omega))
    obtain ⟨h1, h2, -⟩ := kd_run_ok hL.2.1.2 D n (by omega) (fun d hd => ho d (by omega))
    rw [show kd_run x D (n + 1) = kd_step x (kd_run x D n) (D n) from rfl]
    generalize kd_run x D n = s at *
    by_cases e6 : (D n).toInt = 6
    · rw [kd_step6 x s (D n) e6]
      have wb := kh_wind hL s.1 h1.1
      have mb := kg_mb hL (f_X1_windAt_17 x s.1) wb.1 (by omega) s.2.2.2.1 h2.1 h2.2
      have e : (s.2.1 + f_X1_milesOf_17 x s.2.2.2.1 (f_X1_windAt_17 x s.1)).toInt = s.2.1.toInt + (f_X1_milesOf_17 x s.2.2.2.1 (f_X1_windAt_17 x s.1)).toInt := by rw [kw_addI]; omega
      show -180 * ((n + 1 : Nat) : Int) ≤ (s.2.1 + f_X1_milesOf_17 x s.2.2.2.1 (f_X1_windAt_17 x s.1)).toInt ∧ (s.2.1 + f_X1_milesOf_17 x s.2.2.2.1 (f_X1_windAt_17 x s.1)).toInt ≤ 180 * ((n + 1 : Nat) : Int)
      rw [e]; omega
    · rw [kd_stepN x s (D n) e6]
      show -180 * ((n + 1 : Nat) : Int) ≤ s.2.1.toInt ∧ s.2.1.toInt ≤ 180 * ((n + 1 : Nat) : Int)
      omega
theorem kg_gone {x m : kw_S} (hL : kr_L x m) (hD : kr_D x m) : -7200 ≤ (x.1 4 6).toInt ∧ (x.1 4 6).toInt ≤ 7200 := by
  have d2 := hD.2.1
  have cn := kw_clampI d2.1
  have h := kg_run hL (x.1 18) (x.1 4 3).toNatClampNeg (by omega) hD.2.2.2.1
  rw [← hD.2.2.1] at h
  have e : (kd_get x).2.1 = x.1 4 6 := rfl
  rw [e] at h
  omega
theorem kg_by {x m : kw_S} (hL : kr_L x m) (hD : kr_D x m) (n t : Int32) (n0 : 0 ≤ n.toInt) (n3 : n.toInt ≤ 3) (t0 : 0 ≤ t.toInt) : ∃ (w : Int32) (S : kw_S), f_X8_farBy_0 (f_X8_setHours_0 m) n t = (w, S) ∧ kw_FM [20] (f_X8_setHours_0 m) S ∧ kg_Bm n.toNatClampNeg w S (kg_S (kg_M x) (kg_T x) t (2 ^ (x.1 17 5).toNatClampNeg) n.toNatClampNeg 0 (x.1 4 6) (x.1 4 7) (fun _ => 0) none) := by
  have l2 := hL.2.1
  have cl := kw_clampI l2.1
  have cn := kw_clampI n0
  have pw := kc_pow (x.1 17 5).toNatClampNeg (by omega)
  have p1 := kc_pow1 (x.1 17 5) l2.1 l2.2
  have gb := kg_gone hL hD
  obtain ⟨s1, s2⟩ := kh_set hL hD
  generalize f_X8_setHours_0 m = S0 at *
  have e23 : S0.1 0 23 = x.1 4 6 := by rw [s1.2.1 23 (by decide)]; exact hD.2.2.2.2.1.2.1
  have e24 : S0.1 0 24 = x.1 4 7 := by rw [s1.2.1 24 (by decide)]; exact hD.2.2.2.2.1.2.2.1
  have e10 : S0.1 0 10 = x.1 17 5 := by rw [s1.2.1 10 (by decide)]; exact hL.1.symm
  have hm : kg_mi 0 (S0.1 0 23) := by rw [e23]; exact ⟨by omega, by omega⟩
  have e3 : ((1 : Int32) <<< (S0.1 0 10 &&& 31)).toInt = ((2 ^ (x.1 17 5).toNatClampNeg : Nat) : Int) := by rw [e10]; exact p1
  have hT : ∀ n : Nat, n ≤ 3 → kg_Tm (kg_M x) (kg_T x) (2 ^ (x.1 17 5).toNatClampNeg) n S0 := fun n hn k s hk hs => s2 k s (by omega) hs
  have q0 : (0 : Int32).toNatClampNeg = 0 := rfl
  have z0 : (0 : Int32).toInt ≤ ((2 ^ (x.1 17 5).toNatClampNeg : Nat) : Int) := by rw [kp_q0]; omega
  have zf : (((2 ^ (x.1 17 5).toNatClampNeg : Nat) : Int) - (0 : Int32).toInt).toNat < (65 - (0 : Int32).toInt).toNat + 1 := by rw [kp_q0]; omega
  unfold f_X8_farBy_0
  rcases (show n.toInt = 0 ∨ n.toInt = 1 ∨ n.toInt = 2 ∨ n.toInt = 3 by omega) with h | h | h | h
  · have en : n.toNatClampNeg = 0 := by omega
    rw [if_pos h, en, f_X8_farByvn0_0_u]
    simp only [kf_lx]
    have o := kg_o0 (S0 := S0) t ((1 : Int32) <<< (S0.1 0 10 &&& 31)) (hm.up (by decide)) (fun _ => 0) 64 (-1048576) none rfl
    rw [e23] at o
    rw [show ((65 - (0 : Int32).toInt).toNat + 1) = 64 + 1 + 1 from rfl]
    exact o
  · have en : n.toNatClampNeg = 1 := by omega
    rw [if_neg (show ¬ n.toInt = 0 by omega), if_pos h, en, f_X8_farByvn1_0_u]
    simp only [kf_lx]
    have o := kg_o1 (kg_isok hL hD 1 (by decide)) pw.1 t0 (hT 1 (by decide)) _ e3 (fun _ => 0) hm ((65 - (0 : Int32).toInt).toNat + 1) 0 (-1048576) S0 none (by decide) z0 zf kw_FM.rf rfl
    rw [q0, e23, e24, Nat.sub_zero] at o
    exact o
  · have en : n.toNatClampNeg = 2 := by omega
    rw [if_neg (show ¬ n.toInt = 0 by omega), if_neg (show ¬ n.toInt = 1 by omega), if_pos h, en, f_X8_farByvn2_0_u]
    simp only [kf_lx]
    have o := kg_o2 (kg_isok hL hD 2 (by decide)) pw.1 t0 (hT 2 (by decide)) _ e3 (fun _ => 0) hm ((65 - (0 : Int32).toInt).toNat + 1) 0 (-1048576) S0 none (by decide) z0 zf kw_FM.rf rfl
    rw [q0, e23, e24, Nat.sub_zero] at o
    exact o
  · have en : n.toNatClampNeg = 3 := by omega
    rw [if_neg (show ¬ n.toInt = 0 by omega), if_neg (show ¬ n.toInt = 1 by omega), if_neg (show ¬ n.toInt = 2 by omega), en, f_X8_farByvn3_0_u]
    simp only [kf_lx]
    have o := kg_o3 (kg_isok hL hD 3 (by decide)) pw.1 t0 (hT 3 (by decide)) _ e3 (fun _ => 0) hm ((65 - (0 : Int32).toInt).toNat + 1) 0 (-1048576) S0 none (by decide) z0 zf kw_FM.rf rfl
    rw [q0, e23, e24, Nat.sub_zero] at o
    exact o
theorem kg_farX (n t a : Int32) (a0 : 0 ≤ a.toInt) (a5 : a.toInt < 6) (n0 : 0 ≤ n.toInt) : ∀ (f : Nat) (y : Int32) (S : kw_S), 0 ≤ y.toInt → y.toInt ≤ n.toInt → n.toInt ≤ 3 → (n.toInt - y.toInt).toNat < f → (∀ j : Nat, -1 ≤ (S.1 13 j).toInt ∧ (S.1 13 j).toInt ≤ 40) → S.1 13 a.toNatClampNeg = n → l_X7_far_0_78 n t a f y S = (1, kw_ui (kw_ua S (29 + a.toNatClampNeg) (fun j => if y.toNatClampNeg ≤ j ∧ j < n.toNatClampNeg then S.1 24 j else S.1 (29 + a.toNatClampNeg) j)) 8 2 (S.1 7 1)) := by
  intro f
  induction f with
  | zero => intro y S _ _ _ h; exact absurd h (Nat.not_lt_zero _)
  | succ f ih =>
    intro y S y0 y1 n3 hf hb hn
    have cy := kw_clampI y0
    have cn := kw_clampI n0
    have ca := kw_clampI a0
    rw [l_X7_far_0_78_s]
    by_cases hy : y.toInt < n.toInt
    · have z := kp_inc y (by omega)
      have c1 := kw_clampI (x := y + Int32.ofInt 1) (by omega)
      rw [if_pos hy]
      simp only [kf_lx]
      rw [kp_change1 S hb, if_pos (show 0 ≤ a.toInt ∧ a.toInt < 6 ∧ 0 ≤ y.toInt ∧ y.toInt < (S.1 13 a.toNatClampNeg).toInt by rw [hn]; omega)]
      generalize hS : kw_ui S (29 + a.toNatClampNeg) y.toNatClampNeg (S.1 24 y.toNatClampNeg) = S9
      have o : ∀ b : Nat, b < 29 → S9.1 b = S.1 b := fun b h => by funext j; rw [← hS, kp_ui, if_neg (by omega)]
      rw [ih _ S9 (by omega) (by omega) n3 (by omega) (by rw [o 13 (by decide)]; exact hb) (by rw [o 13 (by decide)]; exact hn), o 24 (by decide), o 7 (by decide)]
      refine congrArg (Prod.mk 1) (kp_ext (fun c j => ?_) (fun b j => by rw [← hS]; rfl))
      rw [kp_ui, kp_ua, kp_ui, kp_ua]
      by_cases hc : c = 8 ∧ j = 2
      · rw [if_pos hc, if_pos hc]
      · rw [if_neg hc, if_neg hc]
        by_cases hd : c = 29 + a.toNatClampNeg
        · rw [if_pos hd, if_pos hd, ← hS, kp_ui]
          by_cases hj : j = y.toNatClampNeg
          · rw [if_neg (show ¬ ((y + Int32.ofInt 1).toNatClampNeg ≤ j ∧ j < n.toNatClampNeg) by omega), if_pos ⟨rfl, hj⟩, if_pos (show y.toNatClampNeg ≤ j ∧ j < n.toNatClampNeg by omega), hj]
          · rw [if_neg (show ¬ (29 + a.toNatClampNeg = 29 + a.toNatClampNeg ∧ j = y.toNatClampNeg) from fun q => hj q.2)]
            by_cases h3 : y.toNatClampNeg ≤ j ∧ j < n.toNatClampNeg
            · rw [if_pos (show (y + Int32.ofInt 1).toNatClampNeg ≤ j ∧ j < n.toNatClampNeg by omega), if_pos h3]
            · rw [if_neg (show ¬ ((y + Int32.ofInt 1).toNatClampNeg ≤ j ∧ j < n.toNatClampNeg) by omega), if_neg h3]
        · rw [if_neg hd, if_neg hd, ← hS, kp_ui, if_neg (fun q => hd q.1)]
    · rw [if_neg hy]
      simp only [kf_bx]
      rw [f_X4_answer_8_u]
      refine congrArg (Prod.mk 1) (kp_ext (fun c j => ?_) (fun _ _ => rfl))
      show (kw_ui S 8 2 (S.1 7 1)).1 c j = _
      rw [kp_ui, kp_ui, kp_ua]
      by_cases hc : c = 8 ∧ j = 2
      · rw [if_pos hc, if_pos hc]
      · rw [if_neg hc, if_neg hc]
        by_cases hd : c = 29 + a.toNatClampNeg
        · rw [if_pos hd, if_neg (show ¬ (y.toNatClampNeg ≤ j ∧ j < n.toNatClampNeg) by omega), hd]
        · rw [if_neg hd]
theorem kg_farM (n t a c : Int32) (a0 : 0 ≤ a.toInt) (a5 : a.toInt ≤ 5) (n0 : 0 ≤ n.toInt) : ∀ (f : Nat) (y : Int32) (S : kw_S), 0 ≤ y.toInt → y.toInt ≤ 40 → (40 - y.toInt).toNat < f → l_X8_far_0_71 n t a c f y S = (1, kw_ui (kw_ua S 3 (fun j => if 40 * a.toNatClampNeg + y.toNatClampNeg ≤ j ∧ j < 40 * a.toNatClampNeg + 40 then (if j < 40 * a.toNatClampNeg + n.toNatClampNeg then S.1 20 (j - 40 * a.toNatClampNeg) else 0) else S.1 3 j)) 0 2 c) := by
  intro f
  induction f with
  | zero => intro y S _ _ h; exact absurd h (Nat.not_lt_zero _)
  | succ f ih =>
    intro y S y0 y1 hf
    have cy := kw_clampI y0
    have cn := kw_clampI n0
    have ca := kw_clampI a0
    rw [l_X8_far_0_71_s]
    by_cases hy : y.toInt < 40
    · have z := kp_inc y (by omega)
      have c1 := kw_clampI (x := y + Int32.ofInt 1) (by omega)
      rw [if_pos (show y.toInt < (40 : Int32).toInt from hy)]
      have key : ∀ v : Int32, v = (if y.toInt < n.toInt then S.1 20 y.toNatClampNeg else 0) → l_X8_far_0_71 n t a c f (y + Int32.ofInt 1) (f_X8_setRow_0 S a y v) = (1, kw_ui (kw_ua S 3 (fun j => if 40 * a.toNatClampNeg + y.toNatClampNeg ≤ j ∧ j < 40 * a.toNatClampNeg + 40 then (if j < 40 * a.toNatClampNeg + n.toNatClampNeg then S.1 20 (j - 40 * a.toNatClampNeg) else 0) else S.1 3 j)) 0 2 c) := by
        intro v hv
        rw [kp_setRow S a y v a0 a5 y0 (by omega)]
        generalize hS : kw_ui S 3 (40 * a.toNatClampNeg + y.toNatClampNeg) v = S9
        have o : S9.1 20 = S.1 20 := by funext j; rw [← hS, kp_ui, if_neg (by omega)]
        rw [ih _ S9 (by omega) (by omega) (by omega), o]
        refine congrArg (Prod.mk 1) (kp_ext (fun d j => ?_) (fun b j => by rw [← hS]; rfl))
        rw [kp_ui, kp_ua, kp_ui, kp_ua]
        by_cases hc : d = 0 ∧ j = 2
        · rw [if_pos hc, if_pos hc]
        · rw [if_neg hc, if_neg hc]
          by_cases hd : d = 3
          · rw [if_pos hd, if_pos hd, ← hS, kp_ui]
            by_cases hj : j = 40 * a.toNatClampNeg + y.toNatClampNeg
            · rw [if_neg (show ¬ (40 * a.toNatClampNeg + (y + Int32.ofInt 1).toNatClampNeg ≤ j ∧ j < 40 * a.toNatClampNeg + 40) by omega), if_pos ⟨rfl, hj⟩, if_pos (show 40 * a.toNatClampNeg + y.toNatClampNeg ≤ j ∧ j < 40 * a.toNatClampNeg + 40 by omega), hv]
              by_cases hn : y.toInt < n.toInt
              · rw [if_pos hn, if_pos (show j < 40 * a.toNatClampNeg + n.toNatClampNeg by omega), show j - 40 * a.toNatClampNeg = y.toNatClampNeg by omega]
              · rw [if_neg hn, if_neg (show ¬ j < 40 * a.toNatClampNeg + n.toNatClampNeg by omega)]
            · rw [if_neg (show ¬ (3 = 3 ∧ j = 40 * a.toNatClampNeg + y.toNatClampNeg) from fun q => hj q.2)]
              by_cases h3 : 40 * a.toNatClampNeg + y.toNatClampNeg ≤ j ∧ j < 40 * a.toNatClampNeg + 40
              · rw [if_pos (show 40 * a.toNatClampNeg + (y + Int32.ofInt 1).toNatClampNeg ≤ j ∧ j < 40 * a.toNatClampNeg + 40 by omega), if_pos h3]
              · rw [if_neg (show ¬ (40 * a.toNatClampNeg + (y + Int32.ofInt 1).toNatClampNeg ≤ j ∧ j < 40 * a.toNatClampNeg + 40) by omega), if_neg h3]
          · rw [if_neg hd, if_neg hd, ← hS, kp_ui, if_neg (fun q => hd q.1)]
      simp only [kf_lx]
      by_cases hn : y.toInt < n.toInt
      · rw [if_pos hn]
        exact key _ (by rw [if_pos hn])
      · rw [if_neg hn]
        exact key _ (by rw [if_neg hn])
    · rw [if_neg (show ¬ y.toInt < (40 : Int32).toInt from hy)]
      simp only [kf_bx]
      rw [f_X8_ask_0_u]
      refine congrArg (Prod.mk 1) (kp_ext (fun d j => ?_) (fun _ _ => rfl))
      show (kw_ui S 0 2 c).1 d j = _
      rw [kp_ui, kp_ui, kp_ua]
      by_cases hc : d = 0 ∧ j = 2
      · rw [if_pos hc, if_pos hc]
      · rw [if_neg hc, if_neg hc]
        by_cases hd : d = 3
        · rw [if_pos hd, if_neg (show ¬ (40 * a.toNatClampNeg + y.toNatClampNeg ≤ j ∧ j < 40 * a.toNatClampNeg + 40) by omega), hd]
        · rw [if_neg hd]
theorem kr_far {x m s u : kw_S} {r q : Int32} (hX : kw_I bX x) (hL : kr_L x m) (hD : kr_D x m) (hW : kr_W x m) (n t a : Int32) (e1 : (r, s) = f_X7_far_0 x n t a) (e2 : (q, u) = f_X8_far_0 m n t a) : kr_W s u ∧ r = q ∧ (x.1 8 2 = m.1 0 2 → s.1 8 2 = u.1 0 2) := by
  have l2 := hL.2.1
  have hb : ∀ j : Nat, -1 ≤ (x.1 13 j).toInt ∧ (x.1 13 j).toInt ≤ 40 := fun j => hX 13 j
  have hr : 40 ≤ (x.1 1 0).toInt ∧ (x.1 1 0).toInt ≤ 40 := hX 1 0
  have q3 : (3 : Int32).toInt = 3 := rfl
  have q9 : (999 : Int32).toInt = 999 := rfl
  have h10 : ¬ (1 : Int32).toInt = 0 := by decide
  have h00 : (0 : Int32).toInt = 0 := rfl
  have bad : ∀ b : Int32, (r, s) = (b, x) → (q, u) = (b, m) → kr_W s u ∧ r = q ∧ (x.1 8 2 = m.1 0 2 → s.1 8 2 = u.1 0 2) := by
    intro b g1 g2
    obtain ⟨a1, a2⟩ := Prod.mk.inj g1
    obtain ⟨b1, b2⟩ := Prod.mk.inj g2
    rw [a1, a2, b1, b2]
    exact ⟨hW, rfl, fun h => h⟩
  rw [f_X7_far_0_u, f_X5_isEmpty_4_u] at e1
  rw [f_X8_far_0_u] at e2
  simp only [kf_lx, kf_bx, kp_has1] at e1
  simp only [kf_lx, kf_bx, kp_in, kp_isRow] at e2
  by_cases hn : (0 : Int32).toInt ≤ n.toInt ∧ n.toInt ≤ (3 : Int32).toInt
  · have hn' : 0 ≤ n.toInt ∧ n.toInt ≤ 3 := hn
    simp only [if_pos hn] at e2
    rw [if_neg h10] at e2
    rw [if_neg (show ¬ n.toInt < 0 by omega), if_neg (show ¬ (3 : Int32).toInt < n.toInt by omega)] at e1
    by_cases ht : (0 : Int32).toInt ≤ t.toInt ∧ t.toInt ≤ (999 : Int32).toInt
    · have ht' : 0 ≤ t.toInt ∧ t.toInt ≤ 999 := ht
      simp only [if_pos ht] at e2
      rw [if_neg h10] at e2
      rw [if_neg (show ¬ t.toInt < 0 by omega), if_neg (show ¬ (999 : Int32).toInt < t.toInt by omega)] at e1
      by_cases ha : 0 ≤ a.toInt ∧ a.toInt < 6
      · have ha5 : 0 ≤ a.toInt ∧ a.toInt ≤ 5 := by omega
        simp only [if_pos ha] at e1
        simp only [if_pos ha5] at e2
        rw [if_neg h10] at e1 e2
        rw [← hL.1] at e2
        by_cases h0 : (x.1 17 5).toInt < (1 : Int32).toInt
        · have h0' : (x.1 17 5).toInt < 1 := h0
          simp only [if_pos h0] at e1
          rw [if_neg h10] at e1
          rw [if_pos (show (x.1 17 5).toInt = 0 by omega)] at e2
          exact bad _ e1 e2
        · have h0' : ¬ (x.1 17 5).toInt < 1 := h0
          simp only [if_neg h0] at e1
          rw [if_pos h00] at e1
          rw [if_neg (show ¬ (x.1 17 5).toInt = 0 by omega)] at e2
          generalize hf : f_X6_find_7_4 x n t = p at e1
          obtain ⟨z3, S4⟩ := p
          obtain ⟨B1, z5, F4⟩ := kg_find hL hD (kg_gone hL hD) n t hn'.1 hn'.2 ht'.1 hf.symm
          obtain ⟨w, S6, ew, F6, B2⟩ := kg_by hL hD n t hn'.1 hn'.2 ht'.1
          have FM6 : kw_FM [18, 19, 20] m S6 := ((kw_FM.rf (L := [18, 19, 20])).tr (kh_set hL hD).1 (by decide)).tr F6 (by decide)
          rw [ew] at e2
          dsimp only at e1 e2
          generalize kg_S (kg_M x) (kg_T x) t (2 ^ (x.1 17 5).toNatClampNeg) n.toNatClampNeg 0 (x.1 4 6) (x.1 4 7) (fun _ => 0) none = B at B1 B2
          have qm : (-1048576 : Int32).toInt = -1048576 := rfl
          rcases B with _ | ⟨c, p⟩
          · have B1' : (S4.1 7 5).toInt = 0 := B1
            have B2' : w = -1048576 := B2
            rw [z5, if_pos B1'] at e1
            rw [B2', if_pos rfl] at e2
            obtain ⟨a1, a2⟩ := Prod.mk.inj e1
            obtain ⟨b1, b2⟩ := Prod.mk.inj e2
            rw [a1, a2, b1, b2]
            refine ⟨hW.fr F4 FM6 (by decide) (by decide), rfl, fun h => ?_⟩
            rw [(F4 8 (by decide)).1, FM6.2.1 2 (by decide)]
            exact h
          · obtain ⟨B11, B12, B13⟩ := B1
            obtain ⟨B21, B22, B23⟩ := B2
            have c1 := B22.1
            have cn := kw_clampI hn'.1
            have ca := kw_clampI ha.1
            rw [z5, if_neg B11, kp_make1 S4 (by rw [(F4 1 (by decide)).1]; omega) a n 0 ha.1 ha.2 hn'.1 (by omega)] at e1
            rw [if_neg (show ¬ w.toInt = (-1048576 : Int32).toInt by rw [B21, qm]; omega), kg_farM n t a w ha.1 ha5.2 hn'.1 _ 0 _ (by decide) (by decide) (by rw [kp_q0]; omega)] at e2
            generalize hS5 : kw_ua (kw_ui S4 13 a.toNatClampNeg n) (29 + a.toNatClampNeg) (fun j => if j < 40 then (0 : Int32) else S4.1 (29 + a.toNatClampNeg) j) = S5 at e1
            have o13 : ∀ j : Nat, S5.1 13 j = if j = a.toNatClampNeg then n else x.1 13 j := fun j => by
              rw [← hS5, kp_ua, if_neg (by omega), kp_ui, (F4 13 (by decide)).1]
              by_cases e : j = a.toNatClampNeg
              · rw [if_pos ⟨rfl, e⟩, if_pos e]
              · rw [if_neg (fun z => e z.2), if_neg e]
            have oo : ∀ b : Nat, b < 29 → b ≠ 13 → S5.1 b = S4.1 b := fun b h h' => by
              funext j
              rw [← hS5, kp_ua, if_neg (by omega), kp_ui, if_neg (fun z => h' z.1)]
            have q0 : (0 : Int32).toNatClampNeg = 0 := rfl
            rw [kg_farX n t a ha.1 ha.2 hn'.1 _ 0 S5 (by decide) (by rw [kp_q0]; omega) hn'.2 (by rw [kp_q0]; omega) (fun j => by
              rw [o13]
              by_cases e : j = a.toNatClampNeg
              · rw [if_pos e]; omega
              · rw [if_neg e]; exact hb j) (by rw [o13, if_pos rfl]), oo 24 (by decide) (by decide), oo 7 (by decide) (by decide)] at e1
            obtain ⟨a1, a2⟩ := Prod.mk.inj e1
            obtain ⟨b1, b2⟩ := Prod.mk.inj e2
            rw [q0] at a2 b2
            refine ⟨⟨fun k hk => ?_, fun k i hk hi => ?_⟩, by rw [a1, b1], fun _ => ?_⟩
            · have s13 : s.1 13 k = if k = a.toNatClampNeg then n else x.1 13 k := by rw [a2, kp_ui, if_neg (by omega), kp_ua, if_neg (by omega), o13]
              have u2 : u.1 2 k = if k = a.toNatClampNeg then n else m.1 2 k := by
                rw [b2, kp_ui, if_neg (by omega), kp_ua, if_neg (by omega), kp_ui, FM6.1 2 (by decide) (by decide)]
                by_cases e : k = a.toNatClampNeg
                · rw [if_pos ⟨rfl, e⟩, if_pos e]
                · rw [if_neg (fun z => e z.2), if_neg e]
              rw [s13, u2]
              by_cases e : k = a.toNatClampNeg
              · rw [if_pos e, if_pos e]; exact Or.inr ⟨rfl, hn'.1⟩
              · rw [if_neg e, if_neg e]; exact hW.1 k hk
            · rw [a2, b2, kp_ui, if_neg (show ¬ (29 + k = 8 ∧ i = 2) by omega), kp_ua, kp_ui, if_neg (show ¬ (3 = 0 ∧ 40 * k + i = 2) by omega), kp_ua, if_pos (show 3 = 3 from rfl)]
              by_cases e : k = a.toNatClampNeg
              · rw [if_pos (show 29 + k = 29 + a.toNatClampNeg by omega), if_pos (show 40 * a.toNatClampNeg + 0 ≤ 40 * k + i ∧ 40 * k + i < 40 * a.toNatClampNeg + 40 by omega)]
                by_cases hi2 : i < n.toNatClampNeg
                · rw [if_pos (show 0 ≤ i ∧ i < n.toNatClampNeg from ⟨Nat.zero_le _, hi2⟩), if_pos (show 40 * k + i < 40 * a.toNatClampNeg + n.toNatClampNeg by omega), show 40 * k + i - 40 * a.toNatClampNeg = i by omega, B13 i hi2, kp_ui, if_neg (by omega), B23 i hi2]
                · rw [if_neg (show ¬ (0 ≤ i ∧ i < n.toNatClampNeg) from fun z => hi2 z.2), if_neg (show ¬ 40 * k + i < 40 * a.toNatClampNeg + n.toNatClampNeg by omega), ← hS5, kp_ua, if_pos rfl, if_pos hi]
              · rw [if_neg (show ¬ 29 + k = 29 + a.toNatClampNeg by omega), if_neg (show ¬ (40 * a.toNatClampNeg + 0 ≤ 40 * k + i ∧ 40 * k + i < 40 * a.toNatClampNeg + 40) by omega), ← hS5, kp_ua, if_neg (show ¬ 29 + k = 29 + a.toNatClampNeg by omega), kp_ui, if_neg (by omega), kp_ui, if_neg (by omega), FM6.1 3 (by decide) (by decide), (F4 (29 + k) (by simp; omega)).1]
                exact hW.2 k i hk hi
            · rw [a2, b2, kp_ui, if_pos ⟨rfl, rfl⟩, kp_ui, if_pos ⟨rfl, rfl⟩, B12, B21]
      · have ha5 : ¬ (0 ≤ a.toInt ∧ a.toInt ≤ 5) := by omega
        simp only [if_neg ha] at e1
        simp only [if_neg ha5] at e2
        rw [if_pos h00] at e1 e2
        exact bad _ e1 e2
    · have ht' : ¬ (0 ≤ t.toInt ∧ t.toInt ≤ 999) := ht
      simp only [if_neg ht] at e2
      rw [if_pos h00] at e2
      by_cases h2 : t.toInt < 0
      · rw [if_pos h2] at e1
        exact bad _ e1 e2
      · rw [if_neg h2, if_pos (show (999 : Int32).toInt < t.toInt by omega)] at e1
        exact bad _ e1 e2
  · have hn' : ¬ (0 ≤ n.toInt ∧ n.toInt ≤ 3) := hn
    simp only [if_neg hn] at e2
    rw [if_pos h00] at e2
    by_cases h2 : n.toInt < 0
    · rw [if_pos h2] at e1
      exact bad _ e1 e2
    · rw [if_neg h2, if_pos (show (3 : Int32).toInt < n.toInt by omega)] at e1
      exact bad _ e1 e2
end
section
/-! ===== told: finding, findings, asked, upper, lower ===== -/
theorem kq_at (σ : kw_S) (a i : Nat) (v : Int32) (j : Nat) : (kw_ui σ a i v).1 a j = if j = i then v else σ.1 a j := by
  rw [kp_ui]
  by_cases e : j = i
  · rw [if_pos ⟨rfl, e⟩, if_pos e]
  · rw [if_neg (fun q => e q.2), if_neg e]
theorem kq_off (σ : kw_S) (a i : Nat) (v : Int32) (b : Nat) (h : b ≠ a) : (kw_ui σ a i v).1 b = σ.1 b := by
  funext j
  rw [kp_ui, if_neg (fun q => h q.1)]
def kq_F (x m : kw_S) : Prop := x.1 8 1 = m.1 0 0 ∧ ∀ j : Nat, 1 ≤ j → j ≤ 5 → x.1 28 j = m.1 1 j
def kq_A (x m : kw_S) : Prop := x.1 8 2 = m.1 0 2
def kq_U (x m : kw_S) : Prop := x.2 8 3 = m.2 0 3 ∧ x.2 8 4 = m.2 0 4
def kq (x m s t : kw_S) : Prop := (kq_F x m → kq_F s t) ∧ (kq_A x m → kq_A s t) ∧ (kq_U x m → kq_U s t)
theorem kq.rf {x m : kw_S} : kq x m x m := ⟨fun h => h, fun h => h, fun h => h⟩
theorem kq.tr {x m s t u v : kw_S} (h : kq x m s t) (g : kq s t u v) : kq x m u v := ⟨fun a => g.1 (h.1 a), fun a => g.2.1 (h.2.1 a), fun a => g.2.2 (h.2.2 a)⟩
theorem kq.cong {x m s t : kw_S} (h8 : s.1 8 = x.1 8) (h28 : s.1 28 = x.1 28) (l8 : s.2 8 = x.2 8) (m0 : t.1 0 0 = m.1 0 0) (m2 : t.1 0 2 = m.1 0 2) (m1 : t.1 1 = m.1 1) (l3 : t.2 0 3 = m.2 0 3) (l4 : t.2 0 4 = m.2 0 4) : kq x m s t := by
  unfold kq kq_F kq_A kq_U
  rw [h8, h28, l8, m0, m2, m1, l3, l4]
  exact ⟨fun h => h, fun h => h, fun h => h⟩
theorem kq.fr {L L' : List Nat} {x m s t : kw_S} (F1 : kw_F L x s) (F2 : kw_FM L' m t) (h1 : 8 ∉ L ∧ 28 ∉ L) (h2 : 1 ∉ L' ∧ 1000 ∉ L' ∧ 1002 ∉ L' ∧ 2003 ∉ L' ∧ 2004 ∉ L') : kq x m s t :=
  kq.cong (F1 8 h1.1).1 (F1 28 h1.2).1 (F1 8 h1.1).2 (F2.2.1 0 h2.2.1) (F2.2.1 2 h2.2.2.1) (F2.1 1 (by decide) h2.1) (F2.2.2 3 h2.2.2.2.1) (F2.2.2 4 h2.2.2.2.2)
theorem kq.no (x m : kw_S) (f : Int32) (f0 : 1 ≤ f.toInt) (f5 : f.toInt ≤ 5) : kq x m (f_X4_refuse_8 x f).2 (f_X8_meet_0 m f).2 := by
  have c := kw_clampI (x := f) (by omega)
  rw [f_X4_refuse_8_u, f_X8_meet_0_u, if_neg (show ¬ f.toInt < (1 : Int32).toInt by rw [kp_q1]; omega), if_neg (show ¬ (5 : Int32).toInt < f.toInt by rw [show (5 : Int32).toInt = 5 from rfl]; omega)]
  simp only [kf_lx]
  refine ⟨fun h => ⟨?_, fun j j1 j5 => ?_⟩, fun h => ?_, fun h => h⟩
  · rw [kq_off _ 28 _ _ 8 (by decide), kq_at, if_pos rfl, kq_off _ 1 _ _ 0 (by decide), kq_at, if_pos rfl]
  · have hj := h.2 j j1 j5
    have hf := h.2 f.toNatClampNeg (by omega) (by omega)
    rw [kq_at, kq_at, kq_off _ 8 _ _ 28 (by decide), kq_off _ 0 _ _ 1 (by decide), hj, hf]
  · show (kw_ui (kw_ui x 8 1 f) 28 f.toNatClampNeg _).1 8 2 = (kw_ui (kw_ui m 0 0 f) 1 f.toNatClampNeg _).1 0 2
    rw [kq_off _ 28 _ _ 8 (by decide), kq_at, if_neg (by decide), kq_off _ 1 _ _ 0 (by decide), kq_at, if_neg (by decide)]
    exact h
theorem kq.ans (x m : kw_S) (v : Int32) : kq x m (kw_ui x 8 2 v) (kw_ui m 0 2 v) := by
  refine ⟨fun h => ⟨?_, fun j j1 j5 => ?_⟩, fun h => ?_, fun h => h⟩
  · rw [kq_at, if_neg (by decide), kq_at, if_neg (by decide)]; exact h.1
  · rw [kq_off _ 8 _ _ 28 (by decide), kq_off _ 0 _ _ 1 (by decide)]; exact h.2 j j1 j5
  · show (kw_ui x 8 2 v).1 8 2 = (kw_ui m 0 2 v).1 0 2
    rw [kq_at, if_pos rfl, kq_at, if_pos rfl]
theorem kq_ul {x m : kw_S} (a b : Int64) : kq x m (kw_ul (kw_ul x 8 3 a) 8 4 b) (kw_ul (kw_ul m 0 3 a) 0 4 b) := by
  refine ⟨fun h => h, fun h => h, fun h => ⟨?_, ?_⟩⟩
  · rw [kp_ul2, if_neg (by decide), kp_ul2, if_pos ⟨rfl, rfl⟩, kp_ul2, if_neg (by decide), kp_ul2, if_pos ⟨rfl, rfl⟩]
  · rw [kp_ul2, if_pos ⟨rfl, rfl⟩, kp_ul2, if_pos ⟨rfl, rfl⟩]
theorem kq_part (S : kw_S) (z : Int64) : f_X8_part_0 S z 1 = (1, kw_ul (kw_ul S 0 3 z) 0 4 1) := by
  have L : ∀ (a : Int64), l_X8_part_0_17 z 1 S 2 a 1 = (1, kw_ul (kw_ul S 0 3 z) 0 4 1) := by
    intro a
    rw [l_X8_part_0_17_s]
    simp only [kf_lx]
    have h := kw_lcmpI 1 0
    rw [if_neg (show ¬ (lg_cmp 1 0).toInt = 0 from fun q => absurd (h.2.2.mp q) (by decide)), l_X8_part_0_17_s]
    simp only [kf_lx]
    have e : a - a / 1 * 1 = 0 := by rw [Int64.div_one, Int64.mul_one, Int64.sub_self]
    rw [e]
    have h2 := kw_lcmpI 0 0
    rw [if_pos (h2.2.2.mpr rfl), Int64.div_one, Int64.div_one]
  rw [f_X8_part_0_u]
  simp only [kf_lx]
  have f : ((if 0 ≤ (1 : Int64).toInt then (1 : Int64).toInt else -(1 : Int64).toInt)).toNat + 1 = 2 := by decide
  rw [f]
  by_cases h : (lg_cmp z 0).toInt < 0
  · rw [if_pos h]; exact L _
  · rw [if_neg h]; exact L _
/-- a whole number and an answer, told alike -/
theorem kq.both (x m : kw_S) (v : Int64) (w : Int32) : kq x m (kw_ui (f_X4_tellWhole_8 x v) 8 2 w) (kw_ui (kw_ul (kw_ul m 0 3 v) 0 4 1) 0 2 w) := by
  rw [f_X4_tellWhole_8_u]
  exact (kq_ul v 1).tr (kq.ans _ _ w)
theorem kq_mixF {σ s t : kw_S} (h : kq_F s t) : kq_F (kw_mixM (kw_mixX σ s) t) t := h
theorem kq_mixA {σ s t : kw_S} (h : kq_A s t) : kq_A (kw_mixM (kw_mixX σ s) t) t := h
theorem kq_mixU {σ s t : kw_S} (h : kq_U s t) : kq_U (kw_mixM (kw_mixX σ s) t) t := h
end
section
/-! ===== plans: refused alike; sail, dry ===== -/
theorem kq_setIn {x m : kw_S} (hL : kr_L x m) (v : Int32) (h : ¬ (f_X1_hasSet_17 x v).toInt = 0) : 0 ≤ v.toInt ∧ v.toInt ≤ 63 := by
  have l2 := hL.2.1
  have cl := kw_clampI l2.1
  have pw := kc_pow (x.1 17 5).toNatClampNeg (by omega)
  have p1 := kc_pow1 (x.1 17 5) l2.1 l2.2
  rw [f_X1_hasSet_17_u, f_X1_allLines_17_u] at h
  simp only [kf_lx] at h
  have e : (((1 : Int32) <<< (x.1 17 5 &&& 31)) - 1).toInt = ((1 : Int32) <<< (x.1 17 5 &&& 31)).toInt - 1 := by rw [kw_subI, kp_q1]; omega
  by_cases h0 : v.toInt < 0
  · rw [if_pos h0] at h
    exact absurd rfl h
  · rw [if_neg h0] at h
    by_cases h1 : (((1 : Int32) <<< (x.1 17 5 &&& 31)) - 1).toInt < v.toInt
    · rw [if_pos h1] at h
      exact absurd rfl h
    · omega
theorem kq_val {x m : kw_S} (hb : ∀ j : Nat, -1 ≤ (x.1 13 j).toInt ∧ (x.1 13 j).toInt ≤ 40) (hW : kr_W x m) (a i : Int32) (a0 : 0 ≤ a.toInt) (a6 : a.toInt < 6) (i0 : 0 ≤ i.toInt) (i1 : i.toInt < (x.1 13 a.toNatClampNeg).toInt) : f_X3_valueAt_1 x a i = x.1 (29 + a.toNatClampNeg) i.toNatClampNeg ∧ f_X8_rowAt_0 m a i = x.1 (29 + a.toNatClampNeg) i.toNatClampNeg := by
  have ca := kw_clampI a0
  have ci := kw_clampI i0
  have hb := hb a.toNatClampNeg
  refine ⟨?_, ?_⟩
  · rw [kp_value1 x (by assumption), if_pos ⟨a0, a6, i0, i1⟩]
  · rw [kp_rowAt m a i a0 (by omega) i0 (by omega), ← hW.2 a.toNatClampNeg i.toNatClampNeg (by omega) (by omega)]
theorem kr_plan {x m : kw_S} (hX : kw_I bX x) (hL : kr_L x m) (hW : kr_W x m) (a : Int32) : (∃ f : Int32, 1 ≤ f.toInt ∧ f.toInt ≤ 5 ∧ f_X7_planRefusal_0 x a = f_X4_refuse_8 x f ∧ f_X8_askedPlan_0 m a = f_X8_meet_0 m f) ∨ (∃ b : Int32, b.toInt < 0 ∧ f_X7_planRefusal_0 x a = (b, x) ∧ f_X8_askedPlan_0 m a = (b, m)) ∨ (f_X7_planRefusal_0 x a = (0, x) ∧ f_X8_askedPlan_0 m a = (0, m) ∧ 0 ≤ a.toInt ∧ a.toInt < 6 ∧ 0 ≤ (x.1 13 a.toNatClampNeg).toInt ∧ (x.1 13 a.toNatClampNeg).toInt ≤ 6 ∧ m.1 2 a.toNatClampNeg = x.1 13 a.toNatClampNeg ∧ ∀ k : Nat, (k : Int) < (x.1 13 a.toNatClampNeg).toInt → 0 ≤ (x.1 (29 + a.toNatClampNeg) k).toInt ∧ (x.1 (29 + a.toNatClampNeg) k).toInt ≤ 63) := by
  have l2 := hL.2.1
  have hb : ∀ j : Nat, -1 ≤ (x.1 13 j).toInt ∧ (x.1 13 j).toInt ≤ 40 := fun j => hX 13 j
  have h10 : ¬ (1 : Int32).toInt = 0 := by decide
  have h00 : (0 : Int32).toInt = 0 := rfl
  have q6 : (6 : Int32).toInt = 6 := rfl
  rw [f_X7_planRefusal_0_u, f_X8_askedPlan_0_u, f_X5_isEmpty_4_u, ← hL.1]
  simp only [kf_lx, kf_bx, kp_has1, kp_isRow, kp_miss1, kp_size1]
  by_cases ha : 0 ≤ a.toInt ∧ a.toInt < 6
  · have ha5 : 0 ≤ a.toInt ∧ a.toInt ≤ 5 := by omega
    simp only [if_pos ha, if_pos ha5, if_neg h10]
    by_cases h0 : (x.1 17 5).toInt < (1 : Int32).toInt
    · have h0' : (x.1 17 5).toInt < 1 := h0
      simp only [if_pos h0, if_neg h10, if_pos (show (x.1 17 5).toInt = 0 by omega)]
      exact Or.inr (Or.inl ⟨-4, by decide, rfl, rfl⟩)
    · have h0' : ¬ (x.1 17 5).toInt < 1 := h0
      simp only [if_neg h0, if_pos h00, if_neg (show ¬ (x.1 17 5).toInt = 0 by omega)]
      have ca := kw_clampI ha.1
      rcases hW.1 a.toNatClampNeg (by omega) with ⟨g1, g2⟩ | ⟨g1, g2⟩
      · simp only [if_neg (show ¬ (0 ≤ a.toInt ∧ a.toInt < 6 ∧ 0 ≤ (x.1 13 a.toNatClampNeg).toInt) by omega), if_neg h10, if_pos g2]
        exact Or.inl ⟨1, by decide, by decide, rfl, rfl⟩
      · have g3 : ¬ (m.1 2 a.toNatClampNeg).toInt < 0 := by rw [← g1]; omega
        simp only [if_pos (show 0 ≤ a.toInt ∧ a.toInt < 6 ∧ 0 ≤ (x.1 13 a.toNatClampNeg).toInt by omega), if_pos h00, if_neg g3]
        by_cases hs : (6 : Int32).toInt < (x.1 13 a.toNatClampNeg).toInt
        · simp only [if_pos hs, if_pos (show (6 : Int32).toInt < (m.1 2 a.toNatClampNeg).toInt by rw [← g1]; exact hs)]
          exact Or.inl ⟨5, by decide, by decide, rfl, rfl⟩
        · have hs' : (x.1 13 a.toNatClampNeg).toInt ≤ 6 := by omega
          simp only [if_neg hs, if_neg (show ¬ (6 : Int32).toInt < (m.1 2 a.toNatClampNeg).toInt by rw [← g1]; exact hs)]
          have L : ∀ (n n' : Nat) (i : Int32), 0 ≤ i.toInt → i.toInt ≤ (x.1 13 a.toNatClampNeg).toInt → (7 - i.toInt).toNat < n → (7 - i.toInt).toNat < n' → (∀ k : Nat, (k : Int) < i.toInt → 0 ≤ (x.1 (29 + a.toNatClampNeg) k).toInt ∧ (x.1 (29 + a.toNatClampNeg) k).toInt ≤ 63) → (l_X7_planRefusal_0_70 a x n i = f_X4_refuse_8 x 3 ∧ l_X8_askedPlan_0_53 a m n' i = f_X8_meet_0 m 3) ∨ (l_X7_planRefusal_0_70 a x n i = (0, x) ∧ l_X8_askedPlan_0_53 a m n' i = (0, m) ∧ ∀ k : Nat, (k : Int) < (x.1 13 a.toNatClampNeg).toInt → 0 ≤ (x.1 (29 + a.toNatClampNeg) k).toInt ∧ (x.1 (29 + a.toNatClampNeg) k).toInt ≤ 63) := by
            intro n
            induction n with
            | zero => intro n' i _ _ h _ _; exact absurd h (Nat.not_lt_zero _)
            | succ n ih =>
              intro n' i i0 i1 f1 f2 hv
              cases n' with
              | zero => exact absurd f2 (Nat.not_lt_zero _)
              | succ n' =>
                have ci := kw_clampI i0
                rw [l_X7_planRefusal_0_70_s, l_X8_askedPlan_0_53_s, ← g1, kp_size1, if_pos ha]
                simp only [kf_lx, kf_bx]
                by_cases hi : i.toInt < (x.1 13 a.toNatClampNeg).toInt
                · have z := kp_inc i (by omega)
                  have c1 := kw_clampI (x := i + Int32.ofInt 1) (by omega)
                  obtain ⟨v1, v2⟩ := kq_val hb hW a i ha.1 ha.2 i0 hi
                  rw [if_pos hi, if_pos hi, v1, v2, ← kt_set hL]
                  by_cases hq : (f_X1_hasSet_17 x (x.1 (29 + a.toNatClampNeg) i.toNatClampNeg)).toInt = 0
                  · rw [if_pos hq, if_pos hq]
                    exact Or.inl ⟨rfl, rfl⟩
                  · rw [if_neg hq, if_neg hq]
                    refine ih n' _ (by omega) (by omega) (by omega) (by omega) (fun k hk => ?_)
                    by_cases e : k = i.toNatClampNeg
                    · rw [e]; exact kq_setIn hL _ hq
                    · exact hv k (by omega)
                · rw [if_neg hi, if_neg hi]
                  exact Or.inr ⟨rfl, rfl, fun k hk => hv k (by omega)⟩
          rcases L ((41 - (0 : Int32).toInt).toNat + 1) ((41 - (0 : Int32).toInt).toNat + 1) 0 (by decide) (by rw [kp_q0]; exact g2) (by decide) (by decide) (fun k hk => by rw [kp_q0] at hk; omega) with ⟨p1, p2⟩ | ⟨p1, p2, p3⟩
          · exact Or.inl ⟨3, by decide, by decide, p1, p2⟩
          · exact Or.inr (Or.inr ⟨p1, p2, ha.1, ha.2, g2, hs', g1.symm, p3⟩)
  · have ha5 : ¬ (0 ≤ a.toInt ∧ a.toInt ≤ 5) := by omega
    simp only [if_neg ha, if_neg ha5, if_pos h00]
    exact Or.inr (Or.inl ⟨-1, by decide, rfl, rfl⟩)
theorem kr_sail {x m s t : kw_S} {r q : Int32} (hX : kw_I bX x) (hL : kr_L x m) (hD : kr_D x m) (hW : kr_W x m) (a : Int32) (e1 : (r, s) = f_X7_sail_0 x a) (e2 : (q, t) = f_X8_sail_0 m a) : r = q ∧ kq x m s t := by
  have hb : ∀ j : Nat, -1 ≤ (x.1 13 j).toInt ∧ (x.1 13 j).toInt ≤ 40 := fun j => hX 13 j
  rw [f_X7_sail_0_u] at e1
  rw [f_X8_sail_0_u] at e2
  simp only [kf_bx] at e1 e2
  rcases kr_plan hX hL hW a with ⟨f, f1, f5, p1, p2⟩ | ⟨b, b0, p1, p2⟩ | ⟨p1, p2, a0, a6, n0, n6, g, hv⟩
  · rw [p1, if_neg (by rw [kp_refuse1]; decide)] at e1
    rw [p2, if_pos (by rw [kp_meet1]; decide)] at e2
    obtain ⟨r1, s1⟩ := Prod.mk.inj e1
    obtain ⟨r2, s2⟩ := Prod.mk.inj e2
    rw [r1, s1, r2, s2]
    exact ⟨(kp_refuse1 _ _).trans (kp_meet1 _ _).symm, kq.no x m f f1 f5⟩
  · rw [p1] at e1
    rw [p2] at e2
    dsimp only at e1 e2
    rw [if_neg (by omega)] at e1
    rw [if_pos b0] at e2
    obtain ⟨r1, s1⟩ := Prod.mk.inj e1
    obtain ⟨r2, s2⟩ := Prod.mk.inj e2
    rw [r1, s1, r2, s2]
    exact ⟨rfl, kq.rf⟩
  · rw [p1] at e1
    rw [p2] at e2
    dsimp only at e1 e2
    rw [if_pos (show (0 : Int32).toInt = 0 from rfl)] at e1
    rw [if_neg (show ¬ (0 : Int32).toInt < 0 by decide)] at e2
    rw [show m.1 0 23 = x.1 4 6 from hD.2.2.2.2.1.2.1, show m.1 0 24 = x.1 4 7 from hD.2.2.2.2.1.2.2.1] at e2
    have L : ∀ (n n' : Nat) (u v i : Int32), 0 ≤ i.toInt → i.toInt ≤ (x.1 13 a.toNatClampNeg).toInt → (7 - i.toInt).toNat < n → (7 - i.toInt).toNat < n' → ∃ (w : Int64) (z : Int32), l_X7_sail_0_32 a 0 x n u v i = (1, kw_ui (f_X4_tellWhole_8 x w) 8 2 z) ∧ l_X8_sail_0_26 a 0 m n' u v i = (1, kw_ui (kw_ul (kw_ul m 0 3 w) 0 4 1) 0 2 z) := by
      intro n
      induction n with
      | zero => intro n' u v i _ _ h _; exact absurd h (Nat.not_lt_zero _)
      | succ n ih =>
        intro n' u v i i0 i1 f1 f2
        cases n' with
        | zero => exact absurd f2 (Nat.not_lt_zero _)
        | succ n' =>
          have ci := kw_clampI i0
          rw [l_X7_sail_0_32_s, l_X8_sail_0_26_s, g, kp_size1, if_pos ⟨a0, a6⟩]
          simp only [kf_lx, kf_bx]
          by_cases hi : i.toInt < (x.1 13 a.toNatClampNeg).toInt
          · have z := kp_inc i (by omega)
            obtain ⟨v1, v2⟩ := kq_val hb hW a i a0 a6 i0 hi
            rw [if_pos hi, if_pos hi, v1, v2, kd_windAhead hL hD i i0 (by omega), kt_miles hL, kt_turn hL]
            exact ih n' _ _ _ (by omega) (by omega) (by omega) (by omega)
          · rw [if_neg hi, if_neg hi, kq_part, f_X4_answer_8_u, f_X8_ask_0_u]
            exact ⟨_, _, rfl, rfl⟩
    obtain ⟨w, z, l1, l2⟩ := L ((41 - (0 : Int32).toInt).toNat + 1) ((41 - (0 : Int32).toInt).toNat + 1) (x.1 4 6) (x.1 4 7) 0 (by decide) (by rw [kp_q0]; exact n0) (by decide) (by decide)
    rw [l1] at e1
    rw [l2] at e2
    obtain ⟨r1, s1⟩ := Prod.mk.inj e1
    obtain ⟨r2, s2⟩ := Prod.mk.inj e2
    rw [r1, s1, r2, s2]
    exact ⟨rfl, kq.both x m w z⟩
end
section
/-! ===== dry ===== -/
theorem kd_weather9 (S : kw_S) (hung w : Int32) : f_X7_weather_9 S hung w = kw_ua S 9 (kd_wets hung w (S.1 9)) := by
  have L : ∀ (n : Nat) (x : Int32) (S : kw_S), 0 ≤ x.toInt → x.toInt ≤ 6 → (6 - x.toInt).toNat < n → l_X7_weather_9_2 hung w n x S = kw_ua S 9 (fun i => if x.toNatClampNeg ≤ i then kd_wets hung w (S.1 9) i else S.1 9 i) := by
    intro n
    induction n with
    | zero => intro x S _ _ h; exact absurd h (Nat.not_lt_zero _)
    | succ n ih =>
      intro x S h0 h1 h2
      have c := kw_clampI h0
      rw [l_X7_weather_9_2_s]
      simp only [kf_lx]
      by_cases hx : x.toInt < 6
      · have z := kp_inc x (by omega)
        have c1 := kw_clampI (x := x + Int32.ofInt 1) (by omega)
        have en := kd_ofNat x h0
        rw [if_pos (show x.toInt < (6 : Int32).toInt from hx), if_pos (show x.toInt < (6 : Int32).toInt from hx)]
        by_cases hb : ((hung >>> (x &&& 31)) &&& 1).toInt = 0
        · rw [if_pos hb, ih _ _ (by omega) (by omega) (by omega)]
          refine kp_ext (fun b j => ?_) (fun _ _ => rfl)
          simp only [kp_ua]
          by_cases hb2 : b = 9
          · rw [if_pos hb2, if_pos hb2]
            by_cases hj : j = x.toNatClampNeg
            · subst hj
              rw [if_neg (by omega), if_pos (Nat.le_refl _)]
              unfold kd_wets
              rw [en, if_neg (fun q => q.2 hb)]
            · by_cases h3 : x.toNatClampNeg ≤ j
              · rw [if_pos (by omega), if_pos h3]
              · rw [if_neg (by omega), if_neg h3]
          · rw [if_neg hb2, if_neg hb2]
        · rw [if_neg hb]
          have key : ∀ v : Int32, kd_dry w (S.1 9 x.toNatClampNeg) = v → l_X7_weather_9_2 hung w n (x + Int32.ofInt 1) (kw_ui S 9 x.toNatClampNeg v) = kw_ua S 9 (fun i => if x.toNatClampNeg ≤ i then kd_wets hung w (S.1 9) i else S.1 9 i) := by
            intro v hv
            rw [ih _ _ (by omega) (by omega) (by omega)]
            refine kp_ext (fun b j => ?_) (fun _ _ => rfl)
            simp only [kp_ua]
            by_cases hb2 : b = 9
            · rw [if_pos hb2, if_pos hb2]
              by_cases hj : j = x.toNatClampNeg
              · subst hj
                rw [if_neg (by omega), if_pos (Nat.le_refl _), kp_ui, if_pos ⟨rfl, rfl⟩]
                unfold kd_wets
                rw [en, if_pos ⟨by omega, hb⟩, hv]
              · have e9 : (kw_ui S 9 x.toNatClampNeg v).1 9 j = S.1 9 j := by rw [kp_ui, if_neg (fun q => hj q.2)]
                by_cases h3 : x.toNatClampNeg ≤ j
                · rw [if_pos (by omega), if_pos h3]
                  unfold kd_wets
                  rw [e9]
                · rw [if_neg (by omega), if_neg h3, e9]
            · rw [if_neg hb2, if_neg hb2, kp_ui, if_neg (fun q => hb2 q.1)]
          by_cases hw : 0 < w.toInt
          · rw [if_pos hw]
            exact key _ (by unfold kd_dry; rw [if_pos hw])
          · rw [if_neg hw]
            exact key _ (by unfold kd_dry; rw [if_neg hw])
      · rw [if_neg (show ¬ x.toInt < (6 : Int32).toInt from hx)]
        refine kp_ext (fun b j => ?_) (fun _ _ => rfl)
        simp only [kp_ua]
        by_cases hb2 : b = 9
        · subst hb2
          rw [if_pos rfl]
          by_cases h3 : x.toNatClampNeg ≤ j
          · rw [if_pos h3]
            unfold kd_wets
            rw [if_neg (fun q => by omega)]
          · rw [if_neg h3]
        · rw [if_neg hb2]
  rw [f_X7_weather_9_u, L _ _ _ (by decide) (by decide) (by rw [kp_q0]; omega)]
  rw [show (0 : Int32).toNatClampNeg = 0 from rfl]
  simp
theorem kd_drySet9 (S : kw_S) (l0 : 0 ≤ (S.1 17 5).toInt) (l6 : (S.1 17 5).toInt ≤ 6) : f_X7_drySet_0_9 S = kb_or (fun i => decide ((S.1 9 i).toInt = 0)) (S.1 17 5).toNatClampNeg := by
  have cl := kw_clampI l0
  have L : ∀ (n : Nat) (a i : Int32), 0 ≤ i.toInt → i.toInt ≤ (S.1 17 5).toInt → a = kb_or (fun i => decide ((S.1 9 i).toInt = 0)) i.toNatClampNeg → (6 - i.toInt).toNat < n → l_X7_drySet_0_9_4 S n a i = kb_or (fun i => decide ((S.1 9 i).toInt = 0)) (S.1 17 5).toNatClampNeg := by
    intro n
    induction n with
    | zero => intro a i _ _ _ h; exact absurd h (Nat.not_lt_zero _)
    | succ n ih =>
      intro a i i0 i1 ha h1
      have ci := kw_clampI i0
      rw [l_X7_drySet_0_9_4_s]
      simp only [kf_lx]
      by_cases hi : i.toInt < (S.1 17 5).toInt
      · have z := kp_inc i (by omega)
        have c1 := kw_clampI (x := i + Int32.ofInt 1) (by omega)
        have en : (i + Int32.ofInt 1).toNatClampNeg = i.toNatClampNeg + 1 := by omega
        rw [if_pos hi]
        by_cases hw : (S.1 9 i.toNatClampNeg).toInt = 0
        · rw [if_pos hw]
          refine ih _ _ (by omega) (by omega) ?_ (by omega)
          rw [en]
          show _ = if decide ((S.1 9 i.toNatClampNeg).toInt = 0) = true then _ else _
          rw [if_pos (decide_eq_true hw), kd_ofNat i i0, ha]
        · rw [if_neg hw]
          refine ih _ _ (by omega) (by omega) ?_ (by omega)
          rw [en]
          show _ = if decide ((S.1 9 i.toNatClampNeg).toInt = 0) = true then _ else _
          rw [if_neg (fun q => hw (of_decide_eq_true q)), ha]
      · rw [if_neg hi, ha, show i.toNatClampNeg = (S.1 17 5).toNatClampNeg by omega]
  rw [f_X7_drySet_0_9_u]
  exact L _ _ _ (by decide) (by rw [kp_q0]; exact l0) rfl (by rw [kp_q0]; omega)
/-- a line's wetness behind so many hours of a plan -/
def kq_dw (V W : Nat → Int32) (i : Nat) (w0 : Int32) : Nat → Int32
  | 0 => w0
  | k + 1 => if ((V k >>> (Int32.ofNat i &&& 31)) &&& 1).toInt = 0 then kq_dw V W i w0 k else kd_dry (W k) (kq_dw V W i w0 k)
theorem kq_dwS (V W : Nat → Int32) (i : Nat) (w0 : Int32) (k : Nat) : kq_dw V W i w0 (k + 1) = if ((V k >>> (Int32.ofNat i &&& 31)) &&& 1).toInt = 0 then kq_dw V W i w0 k else kd_dry (W k) (kq_dw V W i w0 k) := rfl
theorem kq_dwB (V W : Nat → Int32) (i : Nat) (w0 : Int32) (h : 0 ≤ w0.toInt ∧ w0.toInt ≤ 9) : ∀ k : Nat, 0 ≤ (kq_dw V W i w0 k).toInt ∧ (kq_dw V W i w0 k).toInt ≤ 9
  | 0 => h
  | k + 1 => by
    rw [kq_dwS]
    by_cases e : ((V k >>> (Int32.ofNat i &&& 31)) &&& 1).toInt = 0
    · rw [if_pos e]; exact kq_dwB V W i w0 h k
    · rw [if_neg e]; exact kd_dryB _ _ (kq_dwB V W i w0 h k)
theorem kr_dry {x m s t : kw_S} {r q : Int32} (hX : kw_I bX x) (hL : kr_L x m) (hD : kr_D x m) (hW : kr_W x m) (a : Int32) (e1 : (r, s) = f_X7_dry_0 x a) (e2 : (q, t) = f_X8_dry_0 m a) : r = q ∧ kq x m s t := by
  have hb : ∀ j : Nat, -1 ≤ (x.1 13 j).toInt ∧ (x.1 13 j).toInt ≤ 40 := fun j => hX 13 j
  have l2 := hL.2.1
  have cl := kw_clampI l2.1
  rw [f_X7_dry_0_u] at e1
  rw [f_X8_dry_0_u] at e2
  simp only [kf_bx, kf_lx] at e1 e2
  rcases kr_plan hX hL hW a with ⟨f, f1, f5, p1, p2⟩ | ⟨b, b0, p1, p2⟩ | ⟨p1, p2, a0, a6, n0, n6, g, hv⟩
  · rw [p1, if_neg (by rw [kp_refuse1]; decide)] at e1
    rw [p2, if_pos (by rw [kp_meet1]; decide)] at e2
    obtain ⟨r1, s1⟩ := Prod.mk.inj e1
    obtain ⟨r2, s2⟩ := Prod.mk.inj e2
    rw [r1, s1, r2, s2]
    exact ⟨(kp_refuse1 _ _).trans (kp_meet1 _ _).symm, kq.no x m f f1 f5⟩
  · rw [p1] at e1
    rw [p2] at e2
    dsimp only at e1 e2
    rw [if_neg (by omega)] at e1
    rw [if_pos b0] at e2
    obtain ⟨r1, s1⟩ := Prod.mk.inj e1
    obtain ⟨r2, s2⟩ := Prod.mk.inj e2
    rw [r1, s1, r2, s2]
    exact ⟨rfl, kq.rf⟩
  · rw [p1] at e1
    rw [p2] at e2
    dsimp only at e1 e2
    rw [if_pos (show (0 : Int32).toInt = 0 from rfl)] at e1
    rw [if_neg (show ¬ (0 : Int32).toInt < 0 by decide)] at e2
    have ca := kw_clampI a0
    have n3 := (kd_now hL hD).2.2
    have n1 := (kd_now hL hD).1
    have q0 : (0 : Int32).toNatClampNeg = 0 := rfl
    have q6 : (6 : Int32).toNatClampNeg = 6 := rfl
    generalize hV : (fun k : Nat => x.1 (29 + a.toNatClampNeg) k) = V
    generalize hWd : (fun k : Nat => f_X8_windAt_0 m (m.1 0 22 + Int32.ofNat k)) = Wd
    have w0 : ∀ k : Nat, k < 10 → 0 ≤ (Wd k).toInt := fun k hk => by
      have e := kz_ofNatI k (by omega)
      rw [← hWd]
      show 0 ≤ (f_X8_windAt_0 m (m.1 0 22 + Int32.ofNat k)).toInt
      rw [← kd_windAhead hL hD (Int32.ofNat k) (by omega) (by omega), f_X5_windAhead_4_u]
      simp only [kf_lx]
      exact (kh_wind hL _ (by rw [kw_addI, e]; omega)).1
    -- the class: the forecast behind y hours
    have LX : ∀ (n : Nat) (y : Int32) (S : kw_S), 0 ≤ y.toInt → y.toInt ≤ (x.1 13 a.toNatClampNeg).toInt → (7 - y.toInt).toNat < n → kw_F [9] x S → (∀ i : Nat, i < 6 → S.1 9 i = kq_dw V Wd i (x.1 19 i) y.toNatClampNeg) → ∃ S' : kw_S, l_X7_dry_0_32 a 0 n y S = (kb_or (fun i => decide ((S'.1 9 i).toInt = 0)) (x.1 17 5).toNatClampNeg, S') ∧ kw_F [9] x S' ∧ ∀ i : Nat, i < 6 → S'.1 9 i = kq_dw V Wd i (x.1 19 i) (x.1 13 a.toNatClampNeg).toNatClampNeg := by
      intro n
      induction n with
      | zero => intro y S _ _ h; exact absurd h (Nat.not_lt_zero _)
      | succ n ih =>
        intro y S y0 y1 hf F h9
        have cy := kw_clampI y0
        have cs := kw_clampI n0
        have f13 : S.1 13 = x.1 13 := (F 13 (by decide)).1
        have fLay : kd_lay x S := kd_lay.of F (by decide)
        rw [l_X7_dry_0_32_s, kp_size1, if_pos ⟨a0, a6⟩, f13]
        simp only [kf_lx]
        by_cases hy : y.toInt < (x.1 13 a.toNatClampNeg).toInt
        · have z := kp_inc y (by omega)
          have c1 := kw_clampI (x := y + Int32.ofInt 1) (by omega)
          have en : (y + Int32.ofInt 1).toNatClampNeg = y.toNatClampNeg + 1 := by omega
          have ev : f_X3_valueAt_1 S a y = V y.toNatClampNeg := by
            rw [kp_value1 S (by rw [f13]; exact hb), f13, if_pos ⟨a0, a6, y0, hy⟩, ← hV, (F (29 + a.toNatClampNeg) (by simp; omega)).1]
          have ew : f_X5_windAhead_4 S y = Wd y.toNatClampNeg := by
            rw [← hWd]
            show f_X5_windAhead_4 S y = f_X8_windAt_0 m (m.1 0 22 + Int32.ofNat y.toNatClampNeg)
            rw [kd_ofNat y y0, ← kd_windAhead hL hD y y0 (by omega), f_X5_windAhead_4_u, f_X5_windAhead_4_u]
            simp only [kf_lx]
            rw [fLay.windAt, (F 4 (by decide)).1]
          rw [if_pos hy, ev, ew, kd_weather9]
          refine ih _ _ (by omega) (by omega) (by omega) (kw_F_ua F (by decide)) (fun i hi => ?_)
          rw [kp_ua, if_pos rfl, en, kq_dwS, ← h9 i hi]
          unfold kd_wets
          by_cases e : ((V y.toNatClampNeg >>> (Int32.ofNat i &&& 31)) &&& 1).toInt = 0
          · rw [if_neg (fun w => w.2 e), if_pos e]
          · rw [if_pos ⟨hi, e⟩, if_neg e]
        · rw [if_neg hy, kd_drySet9 S (by rw [(F 17 (by decide)).1]; exact l2.1) (by rw [(F 17 (by decide)).1]; exact l2.2), (F 17 (by decide)).1]
          refine ⟨S, rfl, F, fun i hi => ?_⟩
          rw [h9 i hi, show y.toNatClampNeg = (x.1 13 a.toNatClampNeg).toNatClampNeg by omega]
    -- the reference: a line behind another
    have LM : ∀ (k17 : Int32 → Int32 → Int32 × kw_S) (c i : Int32), 0 ≤ i.toInt → i.toInt < 6 → ∀ (n : Nat) (y : Int32), 0 ≤ y.toInt → y.toInt ≤ (x.1 13 a.toNatClampNeg).toInt → (7 - y.toInt).toNat < n → l_X8_dry_0_38 k17 a 0 c i m n (kq_dw V Wd i.toNatClampNeg (x.1 19 i.toNatClampNeg) y.toNatClampNeg) y = if (kq_dw V Wd i.toNatClampNeg (x.1 19 i.toNatClampNeg) (x.1 13 a.toNatClampNeg).toNatClampNeg).toInt = 0 then k17 (c ||| ((1 : Int32) <<< (i &&& 31))) (i + Int32.ofInt 1) else k17 c (i + Int32.ofInt 1) := by
      intro k17 c i i0 i6 n
      induction n with
      | zero => intro y _ _ h; exact absurd h (Nat.not_lt_zero _)
      | succ n ih =>
        intro y y0 y1 hf
        have cy := kw_clampI y0
        have cs := kw_clampI n0
        rw [l_X8_dry_0_38_s, g]
        simp only [kf_lx, kp_has8]
        by_cases hy : y.toInt < (x.1 13 a.toNatClampNeg).toInt
        · have z := kp_inc y (by omega)
          have c1 := kw_clampI (x := y + Int32.ofInt 1) (by omega)
          have en : (y + Int32.ofInt 1).toNatClampNeg = y.toNatClampNeg + 1 := by omega
          have ih' := ih (y + Int32.ofInt 1) (by omega) (by omega) (by omega)
          rw [en, kq_dwS] at ih'
          have ev : f_X8_rowAt_0 m a y = V y.toNatClampNeg := by rw [(kq_val hb hW a y a0 a6 y0 hy).2, ← hV]
          have ew : f_X8_windAt_0 m (m.1 0 22 + y) = Wd y.toNatClampNeg := by
            rw [← hWd]
            show _ = f_X8_windAt_0 m (m.1 0 22 + Int32.ofNat y.toNatClampNeg)
            rw [kd_ofNat y y0]
          have ei := kd_ofNat i i0
          rw [if_pos hy, ev, ew, kd_wetB m _ _ (kq_dwB V Wd _ _ (n3 _) _) (w0 _ (by omega))]
          rw [ei] at ih'
          have b01 := kp_bit01 (V y.toNatClampNeg) i
          by_cases e : ((V y.toNatClampNeg >>> (i &&& 31)) &&& 1).toInt = 0
          · rw [if_pos e] at ih'
            simp only [if_neg (show ¬ ((V y.toNatClampNeg >>> (i &&& 31)) &&& 1).toInt = 1 by omega)]
            rw [if_pos (show (0 : Int32).toInt = 0 from rfl)]
            exact ih'
          · rw [if_neg e] at ih'
            simp only [if_pos (show ((V y.toNatClampNeg >>> (i &&& 31)) &&& 1).toInt = 1 by omega)]
            rw [if_neg (show ¬ (1 : Int32).toInt = 0 by decide)]
            exact ih'
        · rw [if_neg hy, show y.toNatClampNeg = (x.1 13 a.toNatClampNeg).toNatClampNeg by omega, Int32.or_zero]
    have LO : ∀ (n : Nat) (c i : Int32), 0 ≤ i.toInt → i.toInt ≤ (x.1 17 5).toInt → (6 - i.toInt).toNat < n → c = kb_or (fun i => decide ((kq_dw V Wd i (x.1 19 i) (x.1 13 a.toNatClampNeg).toNatClampNeg).toInt = 0)) i.toNatClampNeg → l_X8_dry_0_17 a 0 m n c i = (kb_or (fun i => decide ((kq_dw V Wd i (x.1 19 i) (x.1 13 a.toNatClampNeg).toNatClampNeg).toInt = 0)) (x.1 17 5).toNatClampNeg, m) := by
      intro n
      induction n with
      | zero => intro c i _ _ h; exact absurd h (Nat.not_lt_zero _)
      | succ n ih =>
        intro c i i0 i1 hf hc
        have ci := kw_clampI i0
        rw [l_X8_dry_0_17_s, ← hL.1]
        simp only [kf_lx]
        by_cases hi : i.toInt < (x.1 17 5).toInt
        · have z := kp_inc i (by omega)
          have c1 := kw_clampI (x := i + Int32.ofInt 1) (by omega)
          have en : (i + Int32.ofInt 1).toNatClampNeg = i.toNatClampNeg + 1 := by omega
          have ew : m.1 14 i.toNatClampNeg = x.1 19 i.toNatClampNeg := hD.2.2.2.2.1.2.2.2.2 i.toNatClampNeg (by omega)
          have lm := LM (l_X8_dry_0_17 a 0 m n) c i i0 (by omega) ((41 - (0 : Int32).toInt).toNat + 1) 0 (by decide) (by rw [kp_q0]; exact n0) (by decide)
          rw [q0] at lm
          have lm2 : l_X8_dry_0_38 (l_X8_dry_0_17 a 0 m n) a 0 c i m ((41 - (0 : Int32).toInt).toNat + 1) (x.1 19 i.toNatClampNeg) 0 = _ := lm
          rw [if_pos hi, ew, lm2]
          by_cases e : (kq_dw V Wd i.toNatClampNeg (x.1 19 i.toNatClampNeg) (x.1 13 a.toNatClampNeg).toNatClampNeg).toInt = 0
          · rw [if_pos e]
            refine ih _ _ (by omega) (by omega) (by omega) ?_
            rw [en]
            show _ = if decide ((kq_dw V Wd i.toNatClampNeg (x.1 19 i.toNatClampNeg) (x.1 13 a.toNatClampNeg).toNatClampNeg).toInt = 0) = true then _ else _
            rw [if_pos (decide_eq_true e), kd_ofNat i i0, hc]
          · rw [if_neg e]
            refine ih _ _ (by omega) (by omega) (by omega) ?_
            rw [en]
            show _ = if decide ((kq_dw V Wd i.toNatClampNeg (x.1 19 i.toNatClampNeg) (x.1 13 a.toNatClampNeg).toNatClampNeg).toInt = 0) = true then _ else _
            rw [if_neg (fun w => e (of_decide_eq_true w)), hc]
        · rw [if_neg hi, hc, show i.toNatClampNeg = (x.1 17 5).toNatClampNeg by omega]
    have F0 : kw_F [9] x (kw_ua x 9 (va_cpy (x.1 19) (x.1 9) ((0 : Int32).toNatClampNeg) ((0 : Int32).toNatClampNeg) ((6 : Int32).toNatClampNeg))) := kw_F_ua kw_F.rf (by decide)
    obtain ⟨S', lx, FX, h9⟩ := LX ((41 - (0 : Int32).toInt).toNat + 1) 0 _ (by decide) (by rw [kp_q0]; exact n0) (by decide) F0 (fun i hi => by
      rw [kp_ua, if_pos rfl, q0, q6]
      show (if 0 ≤ i ∧ i < 0 + 6 then x.1 19 (0 + (i - 0)) else x.1 9 i) = x.1 19 i
      rw [if_pos (by omega), show 0 + (i - 0) = i by omega])
    rw [lx] at e1
    rw [LO ((7 - (0 : Int32).toInt).toNat + 1) 0 0 (by decide) (by rw [kp_q0]; exact l2.1) (by decide) rfl] at e2
    obtain ⟨r1, s1⟩ := Prod.mk.inj e1
    obtain ⟨r2, s2⟩ := Prod.mk.inj e2
    refine ⟨?_, ?_⟩
    · rw [r1, r2]
      exact kb_or_cong _ (fun i hi => by rw [h9 i (by omega)])
    · rw [s1, s2]
      exact kq.fr FX (kw_FM.rf (L := [])) (by decide) (by decide)
end
section
/-! ===== pairs: kinds, areas ===== -/
theorem kq_even : ∀ n : Nat, n < 41 → (Int32.ofNat n - Int32.ofNat n / 2 * 2).toInt = 0 → n % 2 = 0 := by decide +kernel
theorem kq_inc2 (x : Int32) (h : x.toInt ≤ 1000000) : (x + Int32.ofInt 2).toInt = x.toInt + 2 := by
  have := kw_rng x
  rw [kw_addI, show (Int32.ofInt 2).toInt = 2 from rfl]
  omega
theorem kr_pairs {x m : kw_S} (hX : kw_I bX x) (hL : kr_L x m) (hW : kr_W x m) (i a : Int32) : (∃ f : Int32, 1 ≤ f.toInt ∧ f.toInt ≤ 5 ∧ f_X7_pairsRefusal_0 x i a = f_X4_refuse_8 x f ∧ f_X8_askedPulls_0 m i a = f_X8_meet_0 m f) ∨ (f_X7_pairsRefusal_0 x i a = (-1, x) ∧ f_X8_askedPulls_0 m i a = (-1, m)) ∨ (f_X7_pairsRefusal_0 x i a = (0, x) ∧ f_X8_askedPulls_0 m i a = (0, m) ∧ (0 ≤ i.toInt ∧ i.toInt < (x.1 17 5).toInt) ∧ 0 ≤ a.toInt ∧ a.toInt < 6 ∧ 0 ≤ (x.1 13 a.toNatClampNeg).toInt ∧ (x.1 13 a.toNatClampNeg).toInt ≤ 20 ∧ m.1 2 a.toNatClampNeg = x.1 13 a.toNatClampNeg ∧ (x.1 13 a.toNatClampNeg).toNatClampNeg % 2 = 0) := by
  have l2 := hL.2.1
  have hb : ∀ j : Nat, -1 ≤ (x.1 13 j).toInt ∧ (x.1 13 j).toInt ≤ 40 := fun j => hX 13 j
  have h10 : ¬ (1 : Int32).toInt = 0 := by decide
  have h00 : (0 : Int32).toInt = 0 := rfl
  have hm1 : (-1 : Int32).toInt < 0 := by decide
  have q20 : (20 : Int32).toInt = 20 := rfl
  have q6 : (6 : Int32).toInt = 6 := rfl
  rw [f_X7_pairsRefusal_0_u, f_X8_askedPulls_0_u, ← kt_isLine hL]
  simp only [kf_lx, kf_bx, kp_has1, kp_miss1, kp_size1, kp_askedRow]
  by_cases hi0 : (f_X1_hasLine_17 x i).toInt = 0
  · simp only [if_pos hi0, if_pos hm1]
    exact Or.inr (Or.inl ⟨trivial, trivial⟩)
  · have hi := kd_lineIn i hi0
    simp only [if_neg hi0]
    by_cases ha : 0 ≤ a.toInt ∧ a.toInt < 6
    · have ha5 : 0 ≤ a.toInt ∧ a.toInt ≤ 5 := by omega
      have ca := kw_clampI ha.1
      have hba := hb a.toNatClampNeg
      simp only [if_pos ha, if_pos ha5, if_neg h10]
      rcases hW.1 a.toNatClampNeg (by omega) with ⟨g1, g2⟩ | ⟨g1, g2⟩
      · simp only [if_neg (show ¬ (0 ≤ a.toInt ∧ a.toInt < 6 ∧ 0 ≤ (x.1 13 a.toNatClampNeg).toInt) by omega), if_neg h10, if_pos g2, kp_meet1]
        rw [if_pos (by decide)]
        exact Or.inl ⟨1, by decide, by decide, rfl, rfl⟩
      · have g4 : ¬ (x.1 13 a.toNatClampNeg).toInt < 0 := by omega
        simp only [if_pos (show 0 ≤ a.toInt ∧ a.toInt < 6 ∧ 0 ≤ (x.1 13 a.toNatClampNeg).toInt by omega), if_pos h00, if_neg g4, ← g1]
        rw [if_neg (show ¬ (0 : Int32).toInt < 0 by decide)]
        by_cases hp : (x.1 13 a.toNatClampNeg - x.1 13 a.toNatClampNeg / 2 * 2).toInt = 0
        · simp only [if_pos hp]
          have cs := kw_clampI g2
          have he := kq_even (x.1 13 a.toNatClampNeg).toNatClampNeg (by omega) (by rw [kd_ofNat _ g2]; exact hp)
          by_cases hs : (20 : Int32).toInt < (x.1 13 a.toNatClampNeg).toInt
          · simp only [if_pos hs]
            exact Or.inl ⟨5, by decide, by decide, rfl, rfl⟩
          · simp only [if_neg hs]
            have L : ∀ (n n' : Nat) (k : Int32), 0 ≤ k.toInt → k.toInt ≤ 40 → ((x.1 13 a.toNatClampNeg).toInt - k.toInt).toNat < n → ((x.1 13 a.toNatClampNeg).toInt - k.toInt).toNat < n' → (l_X7_pairsRefusal_0_80 i a (x.1 13 a.toNatClampNeg) x n k = f_X4_refuse_8 x 3 ∧ l_X8_askedPulls_0_55 i a 0 m n' k = f_X8_meet_0 m 3) ∨ (l_X7_pairsRefusal_0_80 i a (x.1 13 a.toNatClampNeg) x n k = (0, x) ∧ l_X8_askedPulls_0_55 i a 0 m n' k = (0, m)) := by
              intro n
              induction n with
              | zero => intro n' k _ _ h _; exact absurd h (Nat.not_lt_zero _)
              | succ n ih =>
                intro n' k k0 k1 f1 f2
                cases n' with
                | zero => exact absurd f2 (Nat.not_lt_zero _)
                | succ n' =>
                  rw [l_X7_pairsRefusal_0_80_s, l_X8_askedPulls_0_55_s, ← g1]
                  simp only [kf_lx, kf_bx, kp_in]
                  by_cases hk : k.toInt < (x.1 13 a.toNatClampNeg).toInt
                  · have z := kq_inc2 k (by omega)
                    obtain ⟨v1, v2⟩ := kq_val hb hW a k ha.1 ha.2 k0 hk
                    rw [if_pos hk, if_pos hk, v1, v2]
                    by_cases hv : (0 : Int32).toInt ≤ (x.1 (29 + a.toNatClampNeg) k.toNatClampNeg).toInt ∧ (x.1 (29 + a.toNatClampNeg) k.toNatClampNeg).toInt ≤ (6 : Int32).toInt
                    · have hv' : 0 ≤ (x.1 (29 + a.toNatClampNeg) k.toNatClampNeg).toInt ∧ (x.1 (29 + a.toNatClampNeg) k.toNatClampNeg).toInt ≤ 6 := hv
                      simp only [if_pos hv]
                      rw [if_neg (show ¬ (x.1 (29 + a.toNatClampNeg) k.toNatClampNeg).toInt < 0 by omega), if_neg (show ¬ (6 : Int32).toInt < (x.1 (29 + a.toNatClampNeg) k.toNatClampNeg).toInt by omega), if_neg h10]
                      exact ih n' _ (by omega) (by omega) (by omega) (by omega)
                    · have hv' : ¬ (0 ≤ (x.1 (29 + a.toNatClampNeg) k.toNatClampNeg).toInt ∧ (x.1 (29 + a.toNatClampNeg) k.toNatClampNeg).toInt ≤ 6) := hv
                      simp only [if_neg hv]
                      rw [if_pos h00]
                      by_cases h1 : (x.1 (29 + a.toNatClampNeg) k.toNatClampNeg).toInt < 0
                      · rw [if_pos h1]
                        exact Or.inl ⟨rfl, rfl⟩
                      · rw [if_neg h1, if_pos (show (6 : Int32).toInt < (x.1 (29 + a.toNatClampNeg) k.toNatClampNeg).toInt by omega)]
                        exact Or.inl ⟨rfl, rfl⟩
                  · rw [if_neg hk, if_neg hk]
                    exact Or.inr ⟨rfl, rfl⟩
            rcases L (((x.1 13 a.toNatClampNeg).toInt - (0 : Int32).toInt).toNat + 1) ((41 - (0 : Int32).toInt).toNat + 1) 0 (by decide) (by decide) (by omega) (by rw [kp_q0]; omega) with ⟨p1, p2⟩ | ⟨p1, p2⟩
            · exact Or.inl ⟨3, by decide, by decide, p1, p2⟩
            · exact Or.inr (Or.inr ⟨p1, p2, hi, ha.1, ha.2, g2, by omega, (by first | exact g1.symm | trivial), he⟩)
        · simp only [if_neg hp]
          exact Or.inl ⟨5, by decide, by decide, rfl, rfl⟩
    · have ha5 : ¬ (0 ≤ a.toInt ∧ a.toInt ≤ 5) := by omega
      simp only [if_neg ha, if_neg ha5, if_pos h00]
      rw [if_pos hm1]
      exact Or.inr (Or.inl ⟨trivial, rfl⟩)
theorem kq_pulled {x m : kw_S} (hb : ∀ j : Nat, -1 ≤ (x.1 13 j).toInt ∧ (x.1 13 j).toInt ≤ 40) (hW : kr_W x m) (a : Int32) (a0 : 0 ≤ a.toInt) (a6 : a.toInt < 6) (n0 : 0 ≤ (x.1 13 a.toNatClampNeg).toInt) (n20 : (x.1 13 a.toNatClampNeg).toInt ≤ 20) (g : m.1 2 a.toNatClampNeg = x.1 13 a.toNatClampNeg) (he : (x.1 13 a.toNatClampNeg).toNatClampNeg % 2 = 0) (kind area : Int32) : f_X7_pulledSo_0 x a kind area = f_X8_pullsSo_0 m kind area a := by
  have cs := kw_clampI n0
  have Z : ∀ (n : Nat) (k : Int32), 0 ≤ k.toInt → k.toInt ≤ 40 → ((x.1 13 a.toNatClampNeg).toInt - k.toInt).toNat < n → l_X8_pullsSo_0_6 kind area a m n 0 k = 0 := by
    intro n
    induction n with
    | zero => intro k _ _ h; exact absurd h (Nat.not_lt_zero _)
    | succ n ih =>
      intro k k0 k1 f1
      rw [l_X8_pullsSo_0_6_s, g]
      simp only [kf_lx]
      by_cases hk : k.toInt < (x.1 13 a.toNatClampNeg).toInt
      · have z := kq_inc2 k (by omega)
        rw [if_pos hk, if_pos (show (0 : Int32).toInt = 0 from rfl)]
        exact ih _ (by omega) (by omega) (by omega)
      · rw [if_neg hk]
  have L : ∀ (n n' : Nat) (k : Int32), 0 ≤ k.toInt → k.toInt ≤ 40 → k.toNatClampNeg % 2 = 0 → ((x.1 13 a.toNatClampNeg).toInt - k.toInt).toNat < n → ((x.1 13 a.toNatClampNeg).toInt - k.toInt).toNat < n' → l_X7_pulledSo_0_3 a kind area x n k = l_X8_pullsSo_0_6 kind area a m n' 1 k := by
    intro n
    induction n with
    | zero => intro n' k _ _ _ h _; exact absurd h (Nat.not_lt_zero _)
    | succ n ih =>
      intro n' k k0 k1 k2 f1 f2
      cases n' with
      | zero => exact absurd f2 (Nat.not_lt_zero _)
      | succ n' =>
        have ck := kw_clampI k0
        have z1 := kp_add1 k (by omega)
        rw [l_X7_pulledSo_0_3_s, l_X8_pullsSo_0_6_s, g, kp_size1, if_pos ⟨a0, a6⟩]
        simp only [kf_lx]
        by_cases hk : k.toInt < (x.1 13 a.toNatClampNeg).toInt
        · have hk1 : (k + 1).toInt < (x.1 13 a.toNatClampNeg).toInt := by omega
          have z := kq_inc2 k (by omega)
          have c2 := kw_clampI (x := k + Int32.ofInt 2) (by omega)
          obtain ⟨v1, v2⟩ := kq_val hb hW a k a0 a6 k0 hk
          obtain ⟨w1, w2⟩ := kq_val hb hW a (k + 1) a0 a6 (by omega) hk1
          rw [if_pos hk1, if_pos hk, if_neg (show ¬ (1 : Int32).toInt = 0 by decide), v1, v2, w1, w2, kt_pull x m]
          by_cases hp : (f_X8_pullBy m kind area (x.1 (29 + a.toNatClampNeg) k.toNatClampNeg)).toInt = (x.1 (29 + a.toNatClampNeg) (k + 1).toNatClampNeg).toInt
          · rw [if_pos hp, if_pos hp]
            exact ih n' _ (by omega) (by omega) (by omega) (by omega) (by omega)
          · rw [if_neg hp, if_neg hp, Z n' _ (by omega) (by omega) (by omega)]
        · rw [if_neg (show ¬ (k + 1).toInt < (x.1 13 a.toNatClampNeg).toInt by omega), if_neg hk]
  rw [f_X7_pulledSo_0_u, f_X8_pullsSo_0_u]
  exact L _ _ _ (by decide) (by decide) (by decide) (by rw [kp_q0]; omega) (by rw [kp_q0]; omega)
theorem kr_kinds {x m s t : kw_S} {r q : Int32} (hX : kw_I bX x) (hL : kr_L x m) (hW : kr_W x m) (i a : Int32) (e1 : (r, s) = f_X7_kinds_0 x i a) (e2 : (q, t) = f_X8_kinds_0 m i a) : r = q ∧ kq x m s t := by
  have hb : ∀ j : Nat, -1 ≤ (x.1 13 j).toInt ∧ (x.1 13 j).toInt ≤ 40 := fun j => hX 13 j
  rw [f_X7_kinds_0_u] at e1
  rw [f_X8_kinds_0_u] at e2
  simp only [kf_bx] at e1 e2
  rcases kr_pairs hX hL hW i a with ⟨f, f1, f5, p1, p2⟩ | ⟨p1, p2⟩ | ⟨p1, p2, hi, a0, a6, n0, n20, g, he⟩
  · rw [p1, if_neg (by rw [kp_refuse1]; decide)] at e1
    rw [p2, if_pos (by rw [kp_meet1]; decide)] at e2
    obtain ⟨r1, s1⟩ := Prod.mk.inj e1
    obtain ⟨r2, s2⟩ := Prod.mk.inj e2
    rw [r1, s1, r2, s2]
    exact ⟨(kp_refuse1 _ _).trans (kp_meet1 _ _).symm, kq.no x m f f1 f5⟩
  · rw [p1] at e1
    rw [p2] at e2
    dsimp only at e1 e2
    rw [if_neg (show ¬ (-1 : Int32).toInt = 0 by decide)] at e1
    rw [if_pos (show (-1 : Int32).toInt < 0 by decide)] at e2
    obtain ⟨r1, s1⟩ := Prod.mk.inj e1
    obtain ⟨r2, s2⟩ := Prod.mk.inj e2
    rw [r1, s1, r2, s2]
    exact ⟨rfl, kq.rf⟩
  · rw [p1] at e1
    rw [p2] at e2
    dsimp only at e1 e2
    rw [if_pos (show (0 : Int32).toInt = 0 from rfl)] at e1
    rw [if_neg (show ¬ (0 : Int32).toInt < 0 by decide)] at e2
    have ci := kw_clampI hi.1
    have l2 := hL.2.1
    obtain ⟨g1, -, g3, -⟩ := hL.2.2.2 i.toNatClampNeg (by omega)
    have q6 : (6 : Int32).toInt = 6 := rfl
    have q5 : (5 : Int32).toInt = 5 := rfl
    have q9 : (9 : Int32).toInt = 9 := rfl
    have L : ∀ (n n' : Nat) (u k : Int32), 0 ≤ k.toInt → k.toInt ≤ 6 → (6 - k.toInt).toNat < n → (6 - k.toInt).toNat < n' → ∃ z : Int32, l_X7_kinds_0_19 i a 0 x n u k = (z, x) ∧ l_X8_kinds_0_19 i a 0 m n' u k = (z, m) := by
      intro n
      induction n with
      | zero => intro n' u k _ _ h _; exact absurd h (Nat.not_lt_zero _)
      | succ n ih =>
        intro n' u k k0 k1 f1 f2
        cases n' with
        | zero => exact absurd f2 (Nat.not_lt_zero _)
        | succ n' =>
          rw [l_X7_kinds_0_19_s, l_X8_kinds_0_19_s, ← g3]
          simp only [kf_lx]
          rw [kq_pulled hb hW a a0 a6 n0 n20 g he]
          by_cases hk : k.toInt < 6
          · have z := kp_inc k (by omega)
            rw [if_pos (show k.toInt < (6 : Int32).toInt from hk), if_neg (show ¬ (5 : Int32).toInt < k.toInt by omega)]
            by_cases hp : (f_X8_pullsSo_0 m k (x.1 46 i.toNatClampNeg) a).toInt = 0
            · rw [if_pos hp, if_pos hp, Int32.or_zero]
              exact ih n' _ _ (by omega) (by omega) (by omega) (by omega)
            · rw [if_neg hp, if_neg hp]
              exact ih n' _ _ (by omega) (by omega) (by omega) (by omega)
          · rw [if_neg (show ¬ k.toInt < (6 : Int32).toInt from hk), if_pos (show (5 : Int32).toInt < k.toInt by omega)]
            exact ⟨_, rfl, rfl⟩
    obtain ⟨z, z1, z2⟩ := L ((7 - (0 : Int32).toInt).toNat + 1) ((7 - (0 : Int32).toInt).toNat + 1) 0 0 (by decide) (by decide) (by decide) (by decide)
    rw [z1] at e1
    rw [z2] at e2
    obtain ⟨r1, s1⟩ := Prod.mk.inj e1
    obtain ⟨r2, s2⟩ := Prod.mk.inj e2
    rw [r1, s1, r2, s2]
    exact ⟨rfl, kq.rf⟩
theorem kr_areas {x m s t : kw_S} {r q : Int32} (hX : kw_I bX x) (hL : kr_L x m) (hW : kr_W x m) (i a : Int32) (e1 : (r, s) = f_X7_areas_0 x i a) (e2 : (q, t) = f_X8_areas_0 m i a) : r = q ∧ kq x m s t := by
  have hb : ∀ j : Nat, -1 ≤ (x.1 13 j).toInt ∧ (x.1 13 j).toInt ≤ 40 := fun j => hX 13 j
  rw [f_X7_areas_0_u] at e1
  rw [f_X8_areas_0_u] at e2
  simp only [kf_bx] at e1 e2
  rcases kr_pairs hX hL hW i a with ⟨f, f1, f5, p1, p2⟩ | ⟨p1, p2⟩ | ⟨p1, p2, hi, a0, a6, n0, n20, g, he⟩
  · rw [p1, if_neg (by rw [kp_refuse1]; decide)] at e1
    rw [p2, if_pos (by rw [kp_meet1]; decide)] at e2
    obtain ⟨r1, s1⟩ := Prod.mk.inj e1
    obtain ⟨r2, s2⟩ := Prod.mk.inj e2
    rw [r1, s1, r2, s2]
    exact ⟨(kp_refuse1 _ _).trans (kp_meet1 _ _).symm, kq.no x m f f1 f5⟩
  · rw [p1] at e1
    rw [p2] at e2
    dsimp only at e1 e2
    rw [if_neg (show ¬ (-1 : Int32).toInt = 0 by decide)] at e1
    rw [if_pos (show (-1 : Int32).toInt < 0 by decide)] at e2
    obtain ⟨r1, s1⟩ := Prod.mk.inj e1
    obtain ⟨r2, s2⟩ := Prod.mk.inj e2
    rw [r1, s1, r2, s2]
    exact ⟨rfl, kq.rf⟩
  · rw [p1] at e1
    rw [p2] at e2
    dsimp only at e1 e2
    rw [if_pos (show (0 : Int32).toInt = 0 from rfl)] at e1
    rw [if_neg (show ¬ (0 : Int32).toInt < 0 by decide)] at e2
    have ci := kw_clampI hi.1
    have l2 := hL.2.1
    obtain ⟨g1, -, g3, -⟩ := hL.2.2.2 i.toNatClampNeg (by omega)
    have q6 : (6 : Int32).toInt = 6 := rfl
    have q5 : (5 : Int32).toInt = 5 := rfl
    have q9 : (9 : Int32).toInt = 9 := rfl
    have L : ∀ (n n' : Nat) (u k : Int32), 0 ≤ k.toInt → k.toInt ≤ 10 → (10 - k.toInt).toNat < n → (10 - k.toInt).toNat < n' → ∃ z : Int32, l_X7_areas_0_19 i a 0 x n u k = (z, x) ∧ l_X8_areas_0_19 i a 0 m n' u k = (z, m) := by
      intro n
      induction n with
      | zero => intro n' u k _ _ h _; exact absurd h (Nat.not_lt_zero _)
      | succ n ih =>
        intro n' u k k0 k1 f1 f2
        cases n' with
        | zero => exact absurd f2 (Nat.not_lt_zero _)
        | succ n' =>
          rw [l_X7_areas_0_19_s, l_X8_areas_0_19_s, ← g1]
          simp only [kf_lx]
          rw [kq_pulled hb hW a a0 a6 n0 n20 g he]
          by_cases hk : k.toInt < 10
          · have z := kp_inc k (by omega)
            rw [if_neg (show ¬ (9 : Int32).toInt < k.toInt by omega), if_neg (show ¬ (9 : Int32).toInt < k.toInt by omega)]
            by_cases hp : (f_X8_pullsSo_0 m (x.1 44 i.toNatClampNeg) k a).toInt = 0
            · rw [if_pos hp, if_pos hp, Int32.or_zero]
              exact ih n' _ _ (by omega) (by omega) (by omega) (by omega)
            · rw [if_neg hp, if_neg hp]
              exact ih n' _ _ (by omega) (by omega) (by omega) (by omega)
          · rw [if_pos (show (9 : Int32).toInt < k.toInt by omega), if_pos (show (9 : Int32).toInt < k.toInt by omega)]
            exact ⟨_, rfl, rfl⟩
    obtain ⟨z, z1, z2⟩ := L ((10 - (1 : Int32).toInt).toNat + 1) ((11 - (1 : Int32).toInt).toNat + 1) 0 1 (by decide) (by decide) (by decide) (by decide)
    rw [z1] at e1
    rw [z2] at e2
    obtain ⟨r1, s1⟩ := Prod.mk.inj e1
    obtain ⟨r2, s2⟩ := Prod.mk.inj e2
    rw [r1, s1, r2, s2]
    exact ⟨rfl, kq.rf⟩
end
