section
/-! ===== texts: the class's shelf 2 and the reference's rows of bytes ===== -/
theorem kp_refuse1 (σ : kw_S) (f : Int32) : (f_X4_refuse_8 σ f).1 = -3 := by
  rw [f_X4_refuse_8_u]
  split
  · rfl
  · split
    · rfl
    · rfl
theorem kp_refuse2 (σ : kw_S) (f : Int32) (a : Nat) (h1 : a ≠ 8) (h2 : a ≠ 28) : (f_X4_refuse_8 σ f).2.1 a = σ.1 a := by
  rw [f_X4_refuse_8_u]
  split
  · rfl
  · split
    · rfl
    · simp only [kf_lx]
      funext j
      rw [kp_ui, if_neg (by omega), kp_ui, if_neg (by omega)]
theorem kp_meet1 (σ : kw_S) (f : Int32) : (f_X8_meet_0 σ f).1 = -3 := rfl
theorem kp_meet2 (σ : kw_S) (f : Int32) (a : Nat) (h1 : a ≠ 0) (h2 : a ≠ 1) : (f_X8_meet_0 σ f).2.1 a = σ.1 a := by
  rw [f_X8_meet_0_u]
  simp only [kf_lx]
  funext j
  rw [kp_ui, if_neg (by omega), kp_ui, if_neg (by omega)]
theorem kp_in (σ : kw_S) (v lo hi : Int32) : f_X8_in σ v lo hi = if lo.toInt ≤ v.toInt ∧ v.toInt ≤ hi.toInt then 1 else 0 := by
  rw [f_X8_in_u]
  by_cases h : v.toInt < lo.toInt
  · rw [if_pos h, if_neg (by omega)]
  · rw [if_neg h]
    by_cases h2 : hi.toInt < v.toInt
    · rw [if_pos h2, if_neg (by omega)]
    · rw [if_neg h2, if_pos (by omega)]
theorem kp_isText (σ : kw_S) (a : Int32) : f_X8_isText σ a = if 0 ≤ a.toInt ∧ a.toInt ≤ 3 then 1 else 0 := by
  rw [f_X8_isText_u]
  simp only [kf_lx, kp_in]
  rfl
theorem kp_isRow (σ : kw_S) (a : Int32) : f_X8_isRow σ a = if 0 ≤ a.toInt ∧ a.toInt ≤ 5 then 1 else 0 := by
  rw [f_X8_isRow_u]
  simp only [kf_lx, kp_in]
  rfl
theorem kp_askedText (σ : kw_S) (a : Int32) : f_X8_askedText_0 σ a = if 0 ≤ a.toInt ∧ a.toInt ≤ 3 then (if (σ.1 5 a.toNatClampNeg).toInt < 0 then f_X8_meet_0 σ 1 else (0, σ)) else (-1, σ) := by
  rw [f_X8_askedText_0_u]
  simp only [kf_lx, kf_bx, kp_isText]
  by_cases h : 0 ≤ a.toInt ∧ a.toInt ≤ 3
  · rw [if_pos h, if_neg (by decide), if_pos h]
  · rw [if_neg h, if_pos (by decide), if_neg h]
theorem kp_textL (a b : Int32) (ha0 : 0 ≤ a.toInt) (ha1 : a.toInt ≤ 3) : ∀ (n : Nat) (x : Int32) (S : kw_S), 0 ≤ x.toInt → x.toInt ≤ 60 → (60 - x.toInt).toNat < n → l_X8_text_0_34 a b n x S = (b, kw_ua S 6 (fun j => if 60 * a.toNatClampNeg + x.toNatClampNeg ≤ j ∧ j < 60 * a.toNatClampNeg + 60 then 32 else S.1 6 j)) := by
  intro n
  induction n with
  | zero => intro x S _ _ h; exact absurd h (Nat.not_lt_zero _)
  | succ n ih =>
    intro x S h0 h1 h2
    have c := kw_clampI h0
    rw [l_X8_text_0_34_s]
    by_cases hx : x.toInt < 60
    · have z := kp_inc x (by omega)
      have c1 := kw_clampI (x := x + Int32.ofInt 1) (by omega)
      rw [if_pos (show x.toInt < (60 : Int32).toInt from hx)]
      simp only [kf_lx]
      rw [ih _ _ (by omega) (by omega) (by omega), kp_idx 60 60 a x rfl (by decide) ha0 (by omega) h0 (by omega)]
      refine congrArg (Prod.mk b) (kp_ext (fun c j => ?_) (fun _ _ => rfl))
      simp only [kp_ua, kp_ui]
      by_cases hb : c = 6
      · subst hb
        simp only [if_true, true_and]
        by_cases hj : j = 60 * a.toNatClampNeg + x.toNatClampNeg
        · rw [if_neg (by omega), if_pos hj, if_pos (by omega)]
        · by_cases h3 : 60 * a.toNatClampNeg + x.toNatClampNeg ≤ j ∧ j < 60 * a.toNatClampNeg + 60
          · rw [if_pos (by omega), if_pos h3]
          · rw [if_neg (by omega), if_neg hj, if_neg h3]
      · simp [hb]
    · rw [if_neg (show ¬ x.toInt < (60 : Int32).toInt from hx)]
      refine congrArg (Prod.mk b) (kp_ext (fun c j => ?_) (fun _ _ => rfl))
      simp only [kp_ua]
      by_cases hb : c = 6
      · subst hb
        rw [if_pos rfl, if_neg (by omega)]
      · rw [if_neg hb]
def kr_T (x m : kw_S) : Prop := (∀ t : Nat, t < 4 → (x.1 15 t).toInt < 0 ∧ (m.1 5 t).toInt < 0 ∨ x.1 15 t = m.1 5 t ∧ 0 ≤ (x.1 15 t).toInt) ∧ ∀ t i : Nat, t < 4 → i < 60 → x.1 (35 + t) i = m.1 6 (60 * t + i)
theorem kr_T.cong {x x' m m' : kw_S} (h : kr_T x m) (hx : ∀ a : Nat, a = 15 ∨ 35 ≤ a ∧ a < 39 → x'.1 a = x.1 a) (hm : ∀ a : Nat, a = 5 ∨ a = 6 → m'.1 a = m.1 a) : kr_T x' m' := by
  refine ⟨fun t ht => ?_, fun t i ht hi => ?_⟩
  · rw [hx 15 (Or.inl rfl), hm 5 (Or.inl rfl)]
    exact h.1 t ht
  · rw [hx (35 + t) (by omega), hm 6 (Or.inr rfl)]
    exact h.2 t i ht hi
theorem kr_T.fr {L L' : List Nat} {x x' m m' : kw_S} (h : kr_T x m) (F1 : kw_F L x x') (F2 : kw_FM L' m m') (h1 : ∀ a ∈ L, ¬ (a = 15 ∨ 35 ≤ a ∧ a < 39)) (h2 : ∀ a ∈ L', ¬ (a = 5 ∨ a = 6)) : kr_T x' m' :=
  h.cong (fun a ha => (F1 a (fun q => h1 a q ha)).1) (fun a ha => F2.1 a (by omega) (fun q => h2 a q ha))
theorem kr_T.mix {σ s t : kw_S} (h : kr_T s t) : kr_T (kw_mixM (kw_mixX σ s) t) t :=
  h.cong (fun a ha => by simp [kw_mixM, kw_mixX, show a < 61 by omega]) (fun _ _ => rfl)
theorem kr_T_text {x m s t : kw_S} {r q : Int32} (hX : kw_I bX x) (h : kr_T x m) (k n : Int32) (e1 : (r, s) = f_X7_text_0 x k n) (e2 : (q, t) = f_X8_text_0 m k n) : kr_T s t ∧ r = q := by
  rw [f_X7_text_0_u] at e1
  simp only [kf_bx] at e1
  rw [f_X7_makeOn_0_2_u] at e1
  rw [f_X8_text_0_u] at e2
  have q60 : (60 : Int32).toInt = 60 := rfl
  have hr : 60 ≤ (x.1 2 0).toInt ∧ (x.1 2 0).toInt ≤ 60 := hX 2 0
  simp only [kf_lx, kf_bx, kp_has2] at e1
  simp only [kf_lx, kf_bx, kp_isText] at e2
  by_cases hk : 0 ≤ k.toInt ∧ k.toInt < 4
  · rw [if_pos hk, if_neg (by decide)] at e1
    rw [if_pos (show 0 ≤ k.toInt ∧ k.toInt ≤ 3 by omega), if_neg (by decide)] at e2
    by_cases hn : 60 < n.toInt
    · rw [if_pos (by omega)] at e1
      rw [if_pos (by omega)] at e2
      cases e1; cases e2
      exact ⟨h, rfl⟩
    · rw [if_neg (by omega)] at e1
      rw [if_neg (by omega)] at e2
      by_cases h0 : n.toInt < 0
      · rw [if_pos h0] at e1 e2
        cases e1; cases e2
        exact ⟨h.cong (fun a ha => kp_refuse2 _ _ a (by omega) (by omega)) (fun a ha => kp_meet2 _ _ a (by omega) (by omega)), (kp_refuse1 _ _).trans (kp_meet1 _ _).symm⟩
      · rw [if_neg h0] at e1 e2
        rw [kp_make2 x (by omega) k n 32 hk.1 hk.2 (by omega) (by omega)] at e1
        rw [kp_textL k n hk.1 (by omega) _ _ _ (by decide) (by decide) (by rw [kp_q0]; omega)] at e2
        have c := kw_clampI hk.1
        obtain ⟨r1, s1⟩ := Prod.mk.inj e1
        obtain ⟨r2, s2⟩ := Prod.mk.inj e2
        refine ⟨⟨fun t ht => ?_, fun t i ht hi => ?_⟩, by rw [r1, r2]⟩
        · have a1 : s.1 15 t = if t = k.toNatClampNeg then n else x.1 15 t := by
            rw [s1, kp_ua, if_neg (by omega), kp_ui]; simp
          rw [a1, s2, kp_ua, if_neg (show ¬ 5 = 6 by decide), kp_ui]
          by_cases e : t = k.toNatClampNeg
          · rw [if_pos e, if_pos (show 5 = 5 ∧ t = k.toNatClampNeg from ⟨rfl, e⟩)]
            exact Or.inr ⟨rfl, by omega⟩
          · rw [if_neg e, if_neg (show ¬ (5 = 5 ∧ t = k.toNatClampNeg) from fun z => e z.2)]
            exact h.1 t ht
        · have q0 : (0 : Int32).toNatClampNeg = 0 := rfl
          have a1 : s.1 (35 + t) i = if t = k.toNatClampNeg then 32 else x.1 (35 + t) i := by
            rw [s1, kp_ua, kp_ui, if_neg (show ¬ (35 + t = 15 ∧ i = k.toNatClampNeg) by omega)]
            by_cases e : t = k.toNatClampNeg
            · rw [if_pos (show 35 + t = 35 + k.toNatClampNeg by omega), if_pos (show i < 60 from hi), if_pos e]
            · rw [if_neg (show ¬ 35 + t = 35 + k.toNatClampNeg by omega), if_neg e]
          rw [a1, s2, kp_ua, if_pos rfl, kp_ui, if_neg (show ¬ (6 = 5 ∧ 60 * t + i = k.toNatClampNeg) by omega), q0]
          by_cases e : t = k.toNatClampNeg
          · rw [if_pos e, if_pos (by omega)]
          · rw [if_neg e, if_neg (by omega)]
            exact h.2 t i ht hi
  · rw [if_neg hk, if_pos (by decide)] at e1
    rw [if_neg (show ¬ (0 ≤ k.toInt ∧ k.toInt ≤ 3) by omega), if_pos (by decide)] at e2
    cases e1; cases e2
    exact ⟨h, rfl⟩
theorem kr_T_put {x m s t : kw_S} {r q : Int32} {T : Int} (hX : kw_I bX x) (hM : kw_I (bM T) m) (h : kr_T x m) (k i v : Int32) (e1 : (r, s) = f_X7_put_0 x k i v) (e2 : (q, t) = f_X8_put_0 m k i v) : kr_T s t ∧ r = q := by
  rw [f_X7_put_0_u] at e1
  rw [f_X8_put_0_u] at e2
  simp only [kf_lx, kf_bx, kp_has2] at e1
  simp only [kf_lx, kf_bx, kp_askedText] at e2
  by_cases hk : 0 ≤ k.toInt ∧ k.toInt < 4
  · rw [if_pos hk, if_neg (by decide), kp_find2 x (fun j => hX 15 j) k i hk.1 hk.2] at e1
    have hk3 : 0 ≤ k.toInt ∧ k.toInt ≤ 3 := by omega
    simp only [if_pos hk3] at e2
    have c := kw_clampI hk.1
    have hb : -1 ≤ (x.1 15 k.toNatClampNeg).toInt ∧ (x.1 15 k.toNatClampNeg).toInt ≤ 60 := hX 15 _
    rcases h.1 k.toNatClampNeg (by omega) with ⟨g1, g2⟩ | ⟨g1, g2⟩
    · rw [if_pos g1, if_neg (by decide)] at e1
      simp only [if_pos g2] at e2
      rw [if_pos (by rw [kp_meet1]; decide)] at e2
      cases e1; cases e2
      exact ⟨h.cong (fun a ha => kp_refuse2 _ _ a (by omega) (by omega)) (fun a ha => kp_meet2 _ _ a (by omega) (by omega)), (kp_refuse1 _ _).trans (kp_meet1 _ _).symm⟩
    · rw [if_neg (show ¬ (x.1 15 k.toNatClampNeg).toInt < 0 by omega)] at e1
      have g3 : ¬ (m.1 5 k.toNatClampNeg).toInt < 0 := by rw [← g1]; omega
      simp only [if_neg g3] at e2
      rw [if_neg (by decide), ← g1, kp_in] at e2
      have es : (x.1 15 k.toNatClampNeg - 1).toInt = (x.1 15 k.toNatClampNeg).toInt - 1 := by
        rw [kw_subI, kp_q1]; omega
      by_cases hi : 0 ≤ i.toInt ∧ i.toInt < (x.1 15 k.toNatClampNeg).toInt
      · rw [if_pos hi, if_pos (by decide), kp_value2 x (fun j => hX 15 j), kp_change2 x (fun j => hX 15 j), if_pos (show 0 ≤ k.toInt ∧ k.toInt < 4 ∧ 0 ≤ i.toInt ∧ i.toInt < (x.1 15 k.toNatClampNeg).toInt from ⟨hk.1, hk.2, hi⟩), if_pos (show 0 ≤ k.toInt ∧ k.toInt < 4 ∧ 0 ≤ i.toInt ∧ i.toInt < (x.1 15 k.toNatClampNeg).toInt from ⟨hk.1, hk.2, hi⟩)] at e1
        rw [if_pos (show (0 : Int32).toInt ≤ i.toInt ∧ i.toInt ≤ (x.1 15 k.toNatClampNeg - 1).toInt by rw [kp_q0]; omega), if_neg (by decide)] at e2
        rw [kp_idx 60 60 k i rfl (by decide) hk.1 (by omega) hi.1 (by omega)] at e2
        have ci := kw_clampI hi.1
        obtain ⟨r1, s1⟩ := Prod.mk.inj e1
        obtain ⟨r2, s2⟩ := Prod.mk.inj e2
        refine ⟨⟨fun t ht => ?_, fun t j ht hj => ?_⟩, ?_⟩
        · rw [s1, s2, kp_ui, if_neg (show ¬ (15 = 35 + k.toNatClampNeg ∧ t = i.toNatClampNeg) by omega), kp_ui, if_neg (by omega)]
          exact h.1 t ht
        · rw [s1, s2, kp_ui, kp_ui]
          by_cases e : t = k.toNatClampNeg ∧ j = i.toNatClampNeg
          · rw [if_pos (show 35 + t = 35 + k.toNatClampNeg ∧ j = i.toNatClampNeg by omega), if_pos (by omega)]
          · rw [if_neg (show ¬ (35 + t = 35 + k.toNatClampNeg ∧ j = i.toNatClampNeg) by omega), if_neg (by omega)]
            exact h.2 t j ht hj
        · rw [r1, r2, h.2 k.toNatClampNeg i.toNatClampNeg (by omega) (by omega)]
      · rw [if_neg hi, if_neg (by decide)] at e1
        rw [if_neg (show ¬ ((0 : Int32).toInt ≤ i.toInt ∧ i.toInt ≤ (x.1 15 k.toNatClampNeg - 1).toInt) by rw [kp_q0]; omega), if_pos (by decide)] at e2
        cases e1; cases e2
        exact ⟨h.cong (fun a ha => kp_refuse2 _ _ a (by omega) (by omega)) (fun a ha => kp_meet2 _ _ a (by omega) (by omega)), (kp_refuse1 _ _).trans (kp_meet1 _ _).symm⟩
  · rw [if_neg hk, if_pos (by decide)] at e1
    have hk3 : ¬ (0 ≤ k.toInt ∧ k.toInt ≤ 3) := by omega
    simp only [if_neg hk3] at e2
    rw [if_pos (by decide)] at e2
    cases e1; cases e2
    exact ⟨h, rfl⟩
end
section
abbrev kr_R (x m : kw_S) : Prop := kr_T x m
end
