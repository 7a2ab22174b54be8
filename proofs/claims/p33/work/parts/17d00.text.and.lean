section
/-! ===== texts: the class's shelf 2 and the reference's rows of bytes ===== -/
theorem kp_refuse1 (σ : kw_S) (f : Int32) : (f_X4_refuse_8 σ f).1 = -3 := by
  rw [f_X4_refuse_8_u]
  split
  · rfl
  · split
    · rfl
    · rfl
theorem kp_refuse2 (σ : kw_S) (f : Int32) (a : Nat) (h1 : a ≠ 8) (h2 : a ≠ 28) : (f_X4_refuse_8 σ f).2.1 a = σ.1 a := by
  rw [f_X4_refuse_8_u]
  split
  · rfl
  · split
    · rfl
    · simp only [kf_lx]
      funext j
      rw [kp_ui, if_neg (by omega), kp_ui, if_neg (by omega)]
theorem kp_meet1 (σ : kw_S) (f : Int32) : (f_X8_meet_0 σ f).1 = -3 := rfl
theorem kp_meet2 (σ : kw_S) (f : Int32) (a : Nat) (h1 : a ≠ 0) (h2 : a ≠ 1) : (f_X8_meet_0 σ f).2.1 a = σ.1 a := by
  rw [f_X8_meet_0_u]
  simp only [kf_lx]
  funext j
  rw [kp_ui, if_neg (by omega), kp_ui, if_neg (by omega)]
theorem kp_in (σ : kw_S) (v lo hi : Int32) : f_X8_in σ v lo hi = if lo.toInt ≤ v.toInt ∧ v.toInt ≤ hi.toInt then 1 else 0 := by
  rw [f_X8_in_u]
  by_cases h : v.toInt < lo.toInt
  · rw [if_pos h, if_neg (by omega)]
  · rw [if_neg h]
    by_cases h2 : hi.toInt < v.toInt
    · rw [if_pos h2, if_neg (by omega)]
    · rw [if_neg h2, if_pos (by omega)]
theorem kp_isText (σ : kw_S) (a : Int32) : f_X8_isText σ a = if 0 ≤ a.toInt ∧ a.toInt ≤ 3 then 1 else 0 := by
  rw [f_X8_isText_u]
  simp only [kf_lx, kp_in]
  rfl
theorem kp_isRow (σ : kw_S) (a : Int32) : f_X8_isRow σ a = if 0 ≤ a.toInt ∧ a.toInt ≤ 5 then 1 else 0 := by
  rw [f_X8_isRow_u]
  simp only [kf_lx, kp_in]
  rfl
theorem kp_askedText (σ : kw_S) (a : Int32) : f_X8_askedText_0 σ a = if 0 ≤ a.toInt ∧ a.toInt ≤ 3 then (if (σ.1 5 a.toNatClampNeg).toInt < 0 then f_X8_meet_0 σ 1 else (0, σ)) else (-1, σ) := by
  rw [f_X8_askedText_0_u]
  simp only [kf_lx, kf_bx, kp_isText]
  by_cases h : 0 ≤ a.toInt ∧ a.toInt ≤ 3
  · rw [if_pos h, if_neg (by decide), if_pos h]
  · rw [if_neg h, if_pos (by decide), if_neg h]
theorem kp_textL (a b : Int32) (ha0 : 0 ≤ a.toInt) (ha1 : a.toInt ≤ 3) : ∀ (n : Nat) (x : Int32) (S : kw_S), 0 ≤ x.toInt → x.toInt ≤ 60 → (60 - x.toInt).toNat < n → l_X8_text_0_34 a b n x S = (b, kw_ua S 6 (fun j => if 60 * a.toNatClampNeg + x.toNatClampNeg ≤ j ∧ j < 60 * a.toNatClampNeg + 60 then 32 else S.1 6 j)) := by
  intro n
  induction n with
  | zero => intro x S _ _ h; exact absurd h (Nat.not_lt_zero _)
  | succ n ih =>
    intro x S h0 h1 h2
    have c := kw_clampI h0
    rw [l_X8_text_0_34_s]
    by_cases hx : x.toInt < 60
    · have z := kp_inc x (by omega)
      have c1 := kw_clampI (x := x + Int32.ofInt 1) (by omega)
      rw [if_pos (show x.toInt < (60 : Int32).toInt from hx)]
      simp only [kf_lx]
      rw [ih _ _ (by omega) (by omega) (by omega), kp_idx 60 60 a x rfl (by decide) ha0 (by omega) h0 (by omega)]
      refine congrArg (Prod.mk b) (kp_ext (fun c j => ?_) (fun _ _ => rfl))
      simp only [kp_ua, kp_ui]
      by_cases hb : c = 6
      · subst hb
        simp only [if_true, true_and]
        by_cases hj : j = 60 * a.toNatClampNeg + x.toNatClampNeg
        · rw [if_neg (by omega), if_pos hj, if_pos (by omega)]
        · by_cases h3 : 60 * a.toNatClampNeg + x.toNatClampNeg ≤ j ∧ j < 60 * a.toNatClampNeg + 60
          · rw [if_pos (by omega), if_pos h3]
          · rw [if_neg (by omega), if_neg hj, if_neg h3]
      · simp [hb]
    · rw [if_neg (show ¬ x.toInt < (60 : Int32).toInt from hx)]
      refine congrArg (Prod.mk b) (kp_ext (fun c j => ?_) (fun _ _ => rfl))
      simp only [kp_ua]
      by_cases hb : c = 6
      · subst hb
        rw [if_pos rfl, if_neg (by omega)]
      · rw [if_neg hb]
def kr_T (x m : kw_S) : Prop := (∀ t : Nat, t < 4 → (x.1 15 t).toInt < 0 ∧ (m.1 5 t).toInt < 0 ∨ x.1 15 t = m.1 5 t ∧ 0 ≤ (x.1 15 t).toInt) ∧ ∀ t i : Nat, t < 4 → i < 60 → x.1 (35 + t) i = m.1 6 (60 * t + i)
theorem kr_T.cong {x x' m m' : kw_S} (h : kr_T x m) (hx : ∀ a : Nat, a = 15 ∨ 35 ≤ a ∧ a < 39 → x'.1 a = x.1 a) (hm : ∀ a : Nat, a = 5 ∨ a = 6 → m'.1 a = m.1 a) : kr_T x' m' := by
  refine ⟨fun t ht => ?_, fun t i ht hi => ?_⟩
  · rw [hx 15 (Or.inl rfl), hm 5 (Or.inl rfl)]
    exact h.1 t ht
  · rw [hx (35 + t) (by omega), hm 6 (Or.inr rfl)]
    exact h.2 t i ht hi
theorem kr_T.fr {L L' : List Nat} {x x' m m' : kw_S} (h : kr_T x m) (F1 : kw_F L x x') (F2 : kw_FM L' m m') (h1 : ∀ a ∈ L, ¬ (a = 15 ∨ 35 ≤ a ∧ a < 39)) (h2 : ∀ a ∈ L', ¬ (a = 5 ∨ a = 6)) : kr_T x' m' :=
  h.cong (fun a ha => (F1 a (fun q => h1 a q ha)).1) (fun a ha => F2.1 a (by omega) (fun q => h2 a q ha))
theorem kr_T.mix {σ s t : kw_S} (h : kr_T s t) : kr_T (kw_mixM (kw_mixX σ s) t) t :=
  h.cong (fun a ha => by simp [kw_mixM, kw_mixX, show a < 61 by omega]) (fun _ _ => rfl)
theorem kr_T_text {x m s t : kw_S} {r q : Int32} (hX : kw_I bX x) (h : kr_T x m) (k n : Int32) (e1 : (r, s) = f_X7_text_0 x k n) (e2 : (q, t) = f_X8_text_0 m k n) : kr_T s t ∧ r = q := by
  rw [f_X7_text_0_u] at e1
  simp only [kf_bx] at e1
  rw [f_X7_makeOn_0_2_u] at e1
  rw [f_X8_text_0_u] at e2
  have q60 : (60 : Int32).toInt = 60 := rfl
  have hr : 60 ≤ (x.1 2 0).toInt ∧ (x.1 2 0).toInt ≤ 60 := hX 2 0
  simp only [kf_lx, kf_bx, kp_has2] at e1
  simp only [kf_lx, kf_bx, kp_isText] at e2
  by_cases hk : 0 ≤ k.toInt ∧ k.toInt < 4
  · rw [if_pos hk, if_neg (by decide)] at e1
    rw [if_pos (show 0 ≤ k.toInt ∧ k.toInt ≤ 3 by omega), if_neg (by decide)] at e2
    by_cases hn : 60 < n.toInt
    · rw [if_pos (by omega)] at e1
      rw [if_pos (by omega)] at e2
      cases e1; cases e2
      exact ⟨h, rfl⟩
    · rw [if_neg (by omega)] at e1
      rw [if_neg (by omega)] at e2
      by_cases h0 : n.toInt < 0
      · rw [if_pos h0] at e1 e2
        cases e1; cases e2
        exact ⟨h.cong (fun a ha => kp_refuse2 _ _ a (by omega) (by omega)) (fun a ha => kp_meet2 _ _ a (by omega) (by omega)), (kp_refuse1 _ _).trans (kp_meet1 _ _).symm⟩
      · rw [if_neg h0] at e1 e2
        rw [kp_make2 x (by omega) k n 32 hk.1 hk.2 (by omega) (by omega)] at e1
        rw [kp_textL k n hk.1 (by omega) _ _ _ (by decide) (by decide) (by rw [kp_q0]; omega)] at e2
        have c := kw_clampI hk.1
        obtain ⟨r1, s1⟩ := Prod.mk.inj e1
        obtain ⟨r2, s2⟩ := Prod.mk.inj e2
        refine ⟨⟨fun t ht => ?_, fun t i ht hi => ?_⟩, by rw [r1, r2]⟩
        · have a1 : s.1 15 t = if t = k.toNatClampNeg then n else x.1 15 t := by
            rw [s1, kp_ua, if_neg (by omega), kp_ui]; simp
          rw [a1, s2, kp_ua, if_neg (show ¬ 5 = 6 by decide), kp_ui]
          by_cases e : t = k.toNatClampNeg
          · rw [if_pos e, if_pos (show 5 = 5 ∧ t = k.toNatClampNeg from ⟨rfl, e⟩)]
            exact Or.inr ⟨rfl, by omega⟩
          · rw [if_neg e, if_neg (show ¬ (5 = 5 ∧ t = k.toNatClampNeg) from fun z => e z.2)]
            exact h.1 t ht
        · have q0 : (0 : Int32).toNatClampNeg = 0 := rfl
          have a1 : s.1 (35 + t) i = if t = k.toNatClampNeg then 32 else x.1 (35 + t) i := by
            rw [s1, kp_ua, kp_ui, if_neg (show ¬ (35 + t = 15 ∧ i = k.toNatClampNeg) by omega)]
            by_cases e : t = k.toNatClampNeg
            · rw [if_pos (show 35 + t = 35 + k.toNatClampNeg by omega), if_pos (show i < 60 from hi), if_pos e]
            · rw [if_neg (show ¬ 35 + t = 35 + k.toNatClampNeg by omega), if_neg e]
          rw [a1, s2, kp_ua, if_pos rfl, kp_ui, if_neg (show ¬ (6 = 5 ∧ 60 * t + i = k.toNatClampNeg) by omega), q0]
          by_cases e : t = k.toNatClampNeg
          · rw [if_pos e, if_pos (by omega)]
          · rw [if_neg e, if_neg (by omega)]
            exact h.2 t i ht hi
  · rw [if_neg hk, if_pos (by decide)] at e1
    rw [if_neg (show ¬ (0 ≤ k.toInt ∧ k.toInt ≤ 3) by omega), if_pos (by decide)] at e2
    cases e1; cases e2
    exact ⟨h, rfl⟩
theorem kr_T_put {x m s t : kw_S} {r q : Int32} {T : Int} (hX : kw_I bX x) (hM : kw_I (bM T) m) (h : kr_T x m) (k i v : Int32) (e1 : (r, s) = f_X7_put_0 x k i v) (e2 : (q, t) = f_X8_put_0 m k i v) : kr_T s t ∧ r = q := by
  rw [f_X7_put_0_u] at e1
  rw [f_X8_put_0_u] at e2
  simp only [kf_lx, kf_bx, kp_has2] at e1
  simp only [kf_lx, kf_bx, kp_askedText] at e2
  by_cases hk : 0 ≤ k.toInt ∧ k.toInt < 4
  · rw [if_pos hk, if_neg (by decide), kp_find2 x (fun j => hX 15 j) k i hk.1 hk.2] at e1
    have hk3 : 0 ≤ k.toInt ∧ k.toInt ≤ 3 := by omega
    simp only [if_pos hk3] at e2
    have c := kw_clampI hk.1
    have hb : -1 ≤ (x.1 15 k.toNatClampNeg).toInt ∧ (x.1 15 k.toNatClampNeg).toInt ≤ 60 := hX 15 _
    rcases h.1 k.toNatClampNeg (by omega) with ⟨g1, g2⟩ | ⟨g1, g2⟩
    · rw [if_pos g1, if_neg (by decide)] at e1
      simp only [if_pos g2] at e2
      rw [if_pos (by rw [kp_meet1]; decide)] at e2
      cases e1; cases e2
      exact ⟨h.cong (fun a ha => kp_refuse2 _ _ a (by omega) (by omega)) (fun a ha => kp_meet2 _ _ a (by omega) (by omega)), (kp_refuse1 _ _).trans (kp_meet1 _ _).symm⟩
    · rw [if_neg (show ¬ (x.1 15 k.toNatClampNeg).toInt < 0 by omega)] at e1
      have g3 : ¬ (m.1 5 k.toNatClampNeg).toInt < 0 := by rw [← g1]; omega
      simp only [if_neg g3] at e2
      rw [if_neg (by decide), ← g1, kp_in] at e2
      have es : (x.1 15 k.toNatClampNeg - 1).toInt = (x.1 15 k.toNatClampNeg).toInt - 1 := by
        rw [kw_subI, kp_q1]; omega
      by_cases hi : 0 ≤ i.toInt ∧ i.toInt < (x.1 15 k.toNatClampNeg).toInt
      · rw [if_pos hi, if_pos (by decide), kp_value2 x (fun j => hX 15 j), kp_change2 x (fun j => hX 15 j), if_pos (show 0 ≤ k.toInt ∧ k.toInt < 4 ∧ 0 ≤ i.toInt ∧ i.toInt < (x.1 15 k.toNatClampNeg).toInt from ⟨hk.1, hk.2, hi⟩), if_pos (show 0 ≤ k.toInt ∧ k.toInt < 4 ∧ 0 ≤ i.toInt ∧ i.toInt < (x.1 15 k.toNatClampNeg).toInt from ⟨hk.1, hk.2, hi⟩)] at e1
        rw [if_pos (show (0 : Int32).toInt ≤ i.toInt ∧ i.toInt ≤ (x.1 15 k.toNatClampNeg - 1).toInt by rw [kp_q0]; omega), if_neg (by decide)] at e2
        rw [kp_idx 60 60 k i rfl (by decide) hk.1 (by omega) hi.1 (by omega)] at e2
        have ci := kw_clampI hi.1
        obtain ⟨r1, s1⟩ := Prod.mk.inj e1
        obtain ⟨r2, s2⟩ := Prod.mk.inj e2
        refine ⟨⟨fun t ht => ?_, fun t j ht hj => ?_⟩, ?_⟩
        · rw [s1, s2, kp_ui, if_neg (show ¬ (15 = 35 + k.toNatClampNeg ∧ t = i.toNatClampNeg) by omega), kp_ui, if_neg (by omega)]
          exact h.1 t ht
        · rw [s1, s2, kp_ui, kp_ui]
          by_cases e : t = k.toNatClampNeg ∧ j = i.toNatClampNeg
          · rw [if_pos (show 35 + t = 35 + k.toNatClampNeg ∧ j = i.toNatClampNeg by omega), if_pos (by omega)]
          · rw [if_neg (show ¬ (35 + t = 35 + k.toNatClampNeg ∧ j = i.toNatClampNeg) by omega), if_neg (by omega)]
            exact h.2 t j ht hj
        · rw [r1, r2, h.2 k.toNatClampNeg i.toNatClampNeg (by omega) (by omega)]
      · rw [if_neg hi, if_neg (by decide)] at e1
        rw [if_neg (show ¬ ((0 : Int32).toInt ≤ i.toInt ∧ i.toInt ≤ (x.1 15 k.toNatClampNeg - 1).toInt) by rw [kp_q0]; omega), if_pos (by decide)] at e2
        cases e1; cases e2
        exact ⟨h.cong (fun a ha => kp_refuse2 _ _ a (by omega) (by omega)) (fun a ha => kp_meet2 _ _ a (by omega) (by omega)), (kp_refuse1 _ _).trans (kp_meet1 _ _).symm⟩
  · rw [if_neg hk, if_pos (by decide)] at e1
    have hk3 : ¬ (0 ≤ k.toInt ∧ k.toInt ≤ 3) := by omega
    simp only [if_neg hk3] at e2
    rw [if_pos (by decide)] at e2
    cases e1; cases e2
    exact ⟨h, rfl⟩
end
section
/-! ===== reading a town: the class's reader and the reference's, side by side ===== -/
theorem kp_self (σ : kw_S) (a i : Nat) : kw_ui σ a i (σ.1 a i) = σ := by
  refine kp_ext (fun b j => ?_) (fun _ _ => rfl)
  rw [kp_ui]
  split
  · rename_i h; rw [h.1, h.2]
  · rfl
theorem kp_uiui (σ : kw_S) (a i : Nat) (x y : Int32) : kw_ui (kw_ui σ a i x) a i y = kw_ui σ a i y := by
  refine kp_ext (fun b j => ?_) (fun _ _ => rfl)
  rw [kp_ui, kp_ui, kp_ui]
  split <;> rfl
theorem kp_add1 (x : Int32) (h : x.toInt ≤ 1000000) : (x + 1).toInt = x.toInt + 1 := by
  have := kw_rng x
  rw [kw_addI, kp_q1]
  omega
def kt_B (a : Int32) (S U : kw_S) : Prop :=
  kr_T S U ∧ (0 ≤ a.toInt ∧ a.toInt ≤ 3) ∧ (∀ j : Nat, -1 ≤ (S.1 15 j).toInt ∧ (S.1 15 j).toInt ≤ 60) ∧ 0 ≤ (S.1 15 a.toNatClampNeg).toInt ∧ S.1 3 1 = U.1 0 17 ∧ 0 ≤ (S.1 3 1).toInt ∧ (S.1 3 1).toInt ≤ (S.1 15 a.toNatClampNeg).toInt
theorem kt_B.to {a : Int32} {S U S' U' : kw_S} (h : kt_B a S U) (h15 : S'.1 15 = S.1 15) (h35 : ∀ b : Nat, 35 ≤ b → b < 39 → S'.1 b = S.1 b) (h5 : U'.1 5 = U.1 5) (h6 : U'.1 6 = U.1 6) (hp : S'.1 3 1 = U'.1 0 17) (p0 : 0 ≤ (S'.1 3 1).toInt) (p1 : (S'.1 3 1).toInt ≤ (S.1 15 a.toNatClampNeg).toInt) : kt_B a S' U' := by
  obtain ⟨hT, ha, hb, hs, -, -, -⟩ := h
  refine ⟨hT.cong (fun b hb => ?_) (fun b hb => ?_), ha, by rw [h15]; exact hb, by rw [h15]; exact hs, hp, p0, by rw [h15]; exact p1⟩
  · rcases hb with rfl | hb
    · exact h15
    · exact h35 b hb.1 hb.2
  · rcases hb with rfl | rfl
    · exact h5
    · exact h6
theorem kt_ch {a : Int32} {S U : kw_S} (h : kt_B a S U) : (S.1 3 1).toInt < (S.1 15 a.toNatClampNeg).toInt ∧ f_X3_valueAt_2 S a (S.1 3 1) = f_X8_here_0 U a ∨ (S.1 3 1).toInt = (S.1 15 a.toNatClampNeg).toInt ∧ f_X3_valueAt_2 S a (S.1 3 1) = 1000 ∧ f_X8_here_0 U a = -9 := by
  obtain ⟨hT, ha, hb, hs, hp, p0, p1⟩ := h
  have c := kw_clampI ha.1
  have cp := kw_clampI p0
  have g1 : S.1 15 a.toNatClampNeg = U.1 5 a.toNatClampNeg := by
    rcases hT.1 a.toNatClampNeg (by omega) with ⟨g, -⟩ | ⟨g, -⟩
    · omega
    · exact g
  have hb1 := hb a.toNatClampNeg
  rw [kp_value2 S hb, f_X8_here_0_u]
  simp only [kf_lx]
  rw [← g1, ← hp]
  by_cases hlt : (S.1 3 1).toInt < (S.1 15 a.toNatClampNeg).toInt
  · left
    refine ⟨hlt, ?_⟩
    rw [if_pos ⟨ha.1, by omega, p0, hlt⟩, if_pos hlt, kp_idx 60 60 a (S.1 3 1) rfl (by decide) ha.1 (by omega) p0 (by omega)]
    exact hT.2 a.toNatClampNeg (S.1 3 1).toNatClampNeg (by omega) (by omega)
  · right
    exact ⟨by omega, if_neg (by omega), if_neg hlt⟩
theorem kt_Bstep {a : Int32} {S U : kw_S} (h : kt_B a S U) (hlt : (S.1 3 1).toInt < (S.1 15 a.toNatClampNeg).toInt) : kt_B a (kw_ui S 3 1 (S.1 3 1 + 1)) (kw_ui U 0 17 (S.1 3 1 + 1)) := by
  have hb := h.2.2.1 a.toNatClampNeg
  have p0 := h.2.2.2.2.2.1
  have e := kp_add1 (S.1 3 1) (by omega)
  have e1 : (kw_ui S 3 1 (S.1 3 1 + 1)).1 3 1 = S.1 3 1 + 1 := by rw [kp_ui]; simp
  refine h.to (by funext j; rw [kp_ui]; simp) (fun b h1 h2 => by funext j; rw [kp_ui, if_neg (by omega)]) (by funext j; rw [kp_ui]; simp) (by funext j; rw [kp_ui]; simp) ?_ ?_ ?_
  · rw [e1, kp_ui]; simp
  · rw [e1]; omega
  · rw [e1]; omega
theorem kt_skip (a : Int32) : ∀ (n : Nat) (x : Int32) (S U : kw_S) (n' : Nat), kt_B a S U → 0 ≤ x.toInt → x.toInt ≤ 60 → x.toInt ≤ (S.1 3 1).toInt → (60 - x.toInt).toNat < n → (60 - (S.1 3 1).toInt).toNat < n' → ∃ p : Int32, l_X2_skipBlanks_3_2_2 a n x S = kw_ui S 3 1 p ∧ l_X8_skip_0_0 a n' U = kw_ui U 0 17 p ∧ (S.1 3 1).toInt ≤ p.toInt ∧ p.toInt ≤ (S.1 15 a.toNatClampNeg).toInt := by
  intro n
  induction n with
  | zero => intro x S U n' _ _ _ _ h _; exact absurd h (Nat.not_lt_zero _)
  | succ n ih =>
    intro x S U n' h x0 x1 xp h1 h2
    cases n' with
    | zero => exact absurd h2 (Nat.not_lt_zero _)
    | succ n' =>
      have hp := h.2.2.2.2.1
      have p0 := h.2.2.2.2.2.1
      have p1 := h.2.2.2.2.2.2
      have hb := h.2.2.1 a.toNatClampNeg
      have stay : ∃ p : Int32, S = kw_ui S 3 1 p ∧ U = kw_ui U 0 17 p ∧ (S.1 3 1).toInt ≤ p.toInt ∧ p.toInt ≤ (S.1 15 a.toNatClampNeg).toInt := ⟨S.1 3 1, (kp_self S 3 1).symm, by rw [hp]; exact (kp_self U 0 17).symm, Int.le_refl _, p1⟩
      rw [l_X2_skipBlanks_3_2_2_s, l_X8_skip_0_0_s]
      simp only [kf_lx]
      by_cases hx : x.toInt < 60
      · rw [if_pos (show x.toInt < (60 : Int32).toInt from hx)]
        rcases kt_ch h with ⟨hlt, e⟩ | ⟨hge, e1, e2⟩
        · rw [e]
          by_cases hq : (f_X8_here_0 U a).toInt = (32 : Int32).toInt
          · rw [if_pos hq, if_pos hq]
            have z := kp_inc x (by omega)
            have z1 := kp_add1 (S.1 3 1) (by omega)
            have hB := kt_Bstep h hlt
            have e1 : (kw_ui S 3 1 (S.1 3 1 + 1)).1 3 1 = S.1 3 1 + 1 := by rw [kp_ui]; simp
            have e15 : (kw_ui S 3 1 (S.1 3 1 + 1)).1 15 = S.1 15 := by funext j; rw [kp_ui]; simp
            obtain ⟨p, a1, a2, a3, a4⟩ := ih (x + Int32.ofInt 1) _ _ n' hB (by omega) (by omega) (by rw [e1]; omega) (by omega) (by rw [e1]; omega)
            rw [e1] at a3
            rw [e15] at a4
            rw [kp_uiui] at a1 a2
            refine ⟨p, a1, ?_, by omega, a4⟩
            rw [← hp]
            exact a2
          · rw [if_neg hq, if_neg hq]
            exact stay
        · rw [e1, e2, if_neg (by decide), if_neg (by decide)]
          exact stay
      · rw [if_neg (show ¬ x.toInt < (60 : Int32).toInt from hx)]
        rcases kt_ch h with ⟨hlt, e⟩ | ⟨hge, e1, e2⟩
        · omega
        · rw [e2, if_neg (by decide)]
          exact stay
theorem kt_skipF {a : Int32} {S U : kw_S} (h : kt_B a S U) : ∃ p : Int32, f_X2_skipBlanks_3_2 S a = kw_ui S 3 1 p ∧ f_X8_skip_0 U a = kw_ui U 0 17 p ∧ (S.1 3 1).toInt ≤ p.toInt ∧ p.toInt ≤ (S.1 15 a.toNatClampNeg).toInt := by
  have p0 := h.2.2.2.2.2.1
  have hp := h.2.2.2.2.1
  rw [f_X2_skipBlanks_3_2_u, f_X8_skip_0_u]
  exact kt_skip a _ 0 S U _ h (by decide) (by decide) (by rw [kp_q0]; exact p0) (by rw [kp_q0]; omega) (by rw [← hp]; omega)
theorem kt_Bat {a : Int32} {S U : kw_S} (h : kt_B a S U) (p : Int32) (h0 : 0 ≤ p.toInt) (h1 : p.toInt ≤ (S.1 15 a.toNatClampNeg).toInt) : kt_B a (kw_ui S 3 1 p) (kw_ui U 0 17 p) := by
  have e1 : (kw_ui S 3 1 p).1 3 1 = p := by rw [kp_ui]; simp
  refine h.to (by funext j; rw [kp_ui]; simp) (fun b h1 h2 => by funext j; rw [kp_ui, if_neg (by omega)]) (by funext j; rw [kp_ui]; simp) (by funext j; rw [kp_ui]; simp) ?_ ?_ ?_
  · rw [e1, kp_ui]; simp
  · rw [e1]; exact h0
  · rw [e1]; exact h1
theorem kt_fig {a : Int32} {S U : kw_S} (h : kt_B a S U) (to lo hi : Int32) (hlo : 0 ≤ lo.toInt) (hhi : hi.toInt ≤ 9) : f_X2_readFigure_3_2 S a lo hi = (-1, S) ∧ f_X8_figure_0 U a to lo hi = (0, U) ∨ ∃ v : Int32, lo.toInt ≤ v.toInt ∧ v.toInt ≤ hi.toInt ∧ (S.1 3 1).toInt < (S.1 15 a.toNatClampNeg).toInt ∧ f_X2_readFigure_3_2 S a lo hi = (v, kw_ui S 3 1 (S.1 3 1 + 1)) ∧ f_X8_figure_0 U a to lo hi = (1, kw_ui (kw_ui U 13 to.toNatClampNeg v) 0 17 (S.1 3 1 + 1)) := by
  have hp := h.2.2.2.2.1
  rw [f_X2_readFigure_3_2_u, f_X8_figure_0_u]
  simp only [kf_lx, kp_in]
  rw [← hp]
  rcases kt_ch h with ⟨hlt, e⟩ | ⟨hge, e1, e2⟩
  · rw [e]
    generalize f_X8_here_0 U a - 48 = v
    by_cases h1 : lo.toInt ≤ v.toInt ∧ v.toInt ≤ hi.toInt
    · right
      refine ⟨v, h1.1, h1.2, hlt, ?_, ?_⟩
      · rw [if_neg (by omega), if_neg (by omega)]
      · rw [if_pos h1, if_neg (by decide)]
    · left
      refine ⟨?_, ?_⟩
      · by_cases h2 : v.toInt < lo.toInt
        · rw [if_pos h2]
        · rw [if_neg h2, if_pos (by omega)]
      · rw [if_neg h1, if_pos (by decide)]
  · left
    have q1 : ((1000 : Int32) - 48).toInt = 952 := rfl
    have q2 : ((-9 : Int32) - 48).toInt = -57 := rfl
    rw [e1, e2]
    refine ⟨?_, ?_⟩
    · by_cases h2 : ((1000 : Int32) - 48).toInt < lo.toInt
      · rw [if_pos h2]
      · rw [if_neg h2, if_pos (by omega)]
    · rw [if_neg (show ¬ (lo.toInt ≤ ((-9 : Int32) - 48).toInt ∧ ((-9 : Int32) - 48).toInt ≤ hi.toInt) by omega), if_pos (by decide)]
abbrev kt_LX : List Nat := [3, 16, 39, 40, 41, 42, 43]
abbrev kt_LM : List Nat := [12, 13, 1017, 1018, 1019]
def kt_W (S U : kw_S) : Prop := S.1 16 6 = U.1 0 18 ∧ 0 ≤ (S.1 16 6).toInt ∧ (S.1 16 6).toInt ≤ 8 ∧ ∀ j : Nat, (j : Int) < (S.1 16 6).toInt → S.1 43 j = U.1 12 j ∧ 0 ≤ (S.1 43 j).toInt ∧ (S.1 43 j).toInt ≤ 5
theorem kt_W.to {S U S' U' : kw_S} (h : kt_W S U) (h1 : S'.1 16 6 = S.1 16 6) (h2 : U'.1 0 18 = U.1 0 18) (h3 : S'.1 43 = S.1 43) (h4 : U'.1 12 = U.1 12) : kt_W S' U' := by
  unfold kt_W
  rw [h1, h2, h3, h4]
  exact h
theorem kt_winds (a : Int32) : ∀ (n : Nat) (x : Int32) (S U : kw_S) (n' : Nat), kt_B a S U → kt_W S U → x = S.1 16 6 → (8 - x.toInt).toNat < n → (8 - x.toInt).toNat < n' → ∃ (S' U' : kw_S) (r : Int32), l_X2_readWinds_3_2_2 a n x S = S' ∧ l_X8_readsWinds_0_32 a n' U = (r, U') ∧ kt_B a S' U' ∧ kt_W S' U' ∧ (0 < (S'.1 16 6).toInt ∧ r = 1 ∨ (S'.1 16 6).toInt = 0 ∧ r = 0) ∧ S'.1 16 5 = S.1 16 5 ∧ U'.1 0 19 = U.1 0 19 ∧ kw_F kt_LX S S' ∧ kw_FM kt_LM U U' := by
  intro n
  induction n with
  | zero => intro x S U n' _ _ _ h _; exact absurd h (Nat.not_lt_zero _)
  | succ n ih =>
    intro x S U n' h hW hx h1 h2
    cases n' with
    | zero => exact absurd h2 (Nat.not_lt_zero _)
    | succ n' =>
      have hp := h.2.2.2.2.1
      have p0 := h.2.2.2.2.2.1
      have p1 := h.2.2.2.2.2.2
      have hb := h.2.2.1 a.toNatClampNeg
      obtain ⟨w1, w2, w3, w4⟩ := id hW
      have cx := kw_clampI w2
      have stay : ∃ (S' U' : kw_S) (r : Int32), S = S' ∧ (if 0 < (U.1 0 18).toInt then ((1 : Int32), U) else ((0 : Int32), U)) = (r, U') ∧ kt_B a S' U' ∧ kt_W S' U' ∧ (0 < (S'.1 16 6).toInt ∧ r = 1 ∨ (S'.1 16 6).toInt = 0 ∧ r = 0) ∧ S'.1 16 5 = S.1 16 5 ∧ U'.1 0 19 = U.1 0 19 ∧ kw_F kt_LX S S' ∧ kw_FM kt_LM U U' := by
        by_cases g : 0 < (U.1 0 18).toInt
        · exact ⟨S, U, 1, rfl, if_pos g, h, hW, Or.inl ⟨by rw [w1]; exact g, rfl⟩, rfl, rfl, kw_F.rf, kw_FM.rf⟩
        · exact ⟨S, U, 0, rfl, if_neg g, h, hW, Or.inr ⟨by rw [w1] at w2 ⊢; omega, rfl⟩, rfl, rfl, kw_F.rf, kw_FM.rf⟩
      rw [l_X2_readWinds_3_2_2_s, l_X8_readsWinds_0_32_s]
      simp only [kf_lx, kp_in]
      subst hx
      by_cases hx : (S.1 16 6).toInt < 8
      · rw [if_pos (show (S.1 16 6).toInt < (8 : Int32).toInt from hx), if_pos (show (U.1 0 18).toInt < (8 : Int32).toInt by rw [← w1]; exact hx)]
        rcases kt_ch h with ⟨hlt, e⟩ | ⟨hge, e1, e2⟩
        · rw [e]
          generalize f_X8_here_0 U a - 48 = v
          by_cases hv : (0 : Int32).toInt ≤ v.toInt ∧ v.toInt ≤ (5 : Int32).toInt
          · have hv' : 0 ≤ v.toInt ∧ v.toInt ≤ 5 := hv
            rw [if_neg (show ¬ v.toInt < 0 by omega), if_neg (show ¬ (5 : Int32).toInt < v.toInt by omega)]
            simp only [if_pos hv]
            rw [if_neg (by decide)]
            have z := kp_add1 (S.1 16 6) (by omega)
            have z1 := kp_add1 (S.1 3 1) (by omega)
            have ei : S.1 16 6 + Int32.ofInt 1 = S.1 16 6 + 1 := rfl
            rw [ei, ← w1, ← hp]
            have f16 : (kw_ui (kw_ui (kw_ui S 43 (S.1 16 6).toNatClampNeg v) 16 6 (S.1 16 6 + 1)) 3 1 (S.1 3 1 + 1)).1 16 6 = S.1 16 6 + 1 := by simp [kp_ui]
            have f3 : (kw_ui (kw_ui (kw_ui S 43 (S.1 16 6).toNatClampNeg v) 16 6 (S.1 16 6 + 1)) 3 1 (S.1 3 1 + 1)).1 3 1 = S.1 3 1 + 1 := by simp [kp_ui]
            have hB : kt_B a (kw_ui (kw_ui (kw_ui S 43 (S.1 16 6).toNatClampNeg v) 16 6 (S.1 16 6 + 1)) 3 1 (S.1 3 1 + 1)) (kw_ui (kw_ui (kw_ui U 12 (S.1 16 6).toNatClampNeg v) 0 18 (S.1 16 6 + 1)) 0 17 (S.1 3 1 + 1)) := by
              refine h.to (by funext j; simp [kp_ui]) (fun b h1 h2 => by funext j; rw [kp_ui, if_neg (by omega), kp_ui, if_neg (by omega), kp_ui, if_neg (by omega)]) (by funext j; simp [kp_ui]) (by funext j; simp [kp_ui]) ?_ ?_ ?_
              · rw [f3]; simp [kp_ui]
              · rw [f3]; omega
              · rw [f3]; omega
            have hW' : kt_W (kw_ui (kw_ui (kw_ui S 43 (S.1 16 6).toNatClampNeg v) 16 6 (S.1 16 6 + 1)) 3 1 (S.1 3 1 + 1)) (kw_ui (kw_ui (kw_ui U 12 (S.1 16 6).toNatClampNeg v) 0 18 (S.1 16 6 + 1)) 0 17 (S.1 3 1 + 1)) := by
              refine ⟨?_, ?_, ?_, fun j hj => ?_⟩
              · rw [f16]; simp [kp_ui]
              · rw [f16]; omega
              · rw [f16]; omega
              · rw [f16] at hj
                have fa : (kw_ui (kw_ui (kw_ui S 43 (S.1 16 6).toNatClampNeg v) 16 6 (S.1 16 6 + 1)) 3 1 (S.1 3 1 + 1)).1 43 j = if j = (S.1 16 6).toNatClampNeg then v else S.1 43 j := by simp [kp_ui]
                have fb : (kw_ui (kw_ui (kw_ui U 12 (S.1 16 6).toNatClampNeg v) 0 18 (S.1 16 6 + 1)) 0 17 (S.1 3 1 + 1)).1 12 j = if j = (S.1 16 6).toNatClampNeg then v else U.1 12 j := by simp [kp_ui]
                rw [fa, fb]
                by_cases hj2 : j = (S.1 16 6).toNatClampNeg
                · rw [if_pos hj2, if_pos hj2]
                  exact ⟨rfl, hv'⟩
                · rw [if_neg hj2, if_neg hj2]
                  exact w4 j (by omega)
            obtain ⟨S', U', r, a1, a2, a3, a4, a5, a6, a7, a8, a9⟩ := ih (S.1 16 6 + 1) _ _ n' hB hW' f16.symm (by omega) (by omega)
            refine ⟨S', U', r, a1, a2, a3, a4, a5, ?_, ?_, kw_F.tr (kw_F_ui (kw_F_ui (kw_F_ui kw_F.rf (by decide)) (by decide)) (by decide)) a8 (fun _ h => h), kw_FM.tr (kw_FM_ui0 (kw_FM_ui0 (kw_FM_ui kw_FM.rf (by decide) (by decide)) (by decide)) (by decide)) a9 (fun _ h => h)⟩
            · rw [a6]; simp [kp_ui]
            · rw [a7]; simp [kp_ui]
          · have hv' : ¬ (0 ≤ v.toInt ∧ v.toInt ≤ 5) := hv
            have q5 : (5 : Int32).toInt = 5 := rfl
            simp only [if_neg hv]
            rw [if_pos (show (0 : Int32).toInt = 0 from rfl)]
            by_cases h3 : v.toInt < 0
            · rw [if_pos h3]; exact stay
            · rw [if_neg h3, if_pos (by omega)]; exact stay
        · rw [e1, e2]
          have q1 : ¬ ((0 : Int32).toInt ≤ ((-9 : Int32) - 48).toInt ∧ ((-9 : Int32) - 48).toInt ≤ (5 : Int32).toInt) := by decide
          simp only [if_neg q1]
          rw [if_neg (by decide), if_pos (by decide), if_pos (show (0 : Int32).toInt = 0 from rfl)]
          exact stay
      · rw [if_neg (show ¬ (S.1 16 6).toInt < (8 : Int32).toInt from hx), if_neg (show ¬ (U.1 0 18).toInt < (8 : Int32).toInt by rw [← w1]; exact hx)]
        exact stay
end
section
theorem kt_kindOf (σ : kw_S) (c : Int32) : f_X2_kindOf σ c = if c.toInt = 108 then 0 else if c.toInt = 115 then 1 else if c.toInt = 98 then 2 else if c.toInt = 107 then 3 else if c.toInt = 111 then 4 else if c.toInt = 112 then 5 else -1 := by
  show l_X2_kindOf_2 c σ 8 0 = _
  have q0 : (kw_LT (0 : Int32).toNatClampNeg).toInt = 108 := rfl
  have q1 : (kw_LT ((0 : Int32) + Int32.ofInt 1).toNatClampNeg).toInt = 115 := rfl
  have q2 : (kw_LT ((0 : Int32) + Int32.ofInt 1 + Int32.ofInt 1).toNatClampNeg).toInt = 98 := rfl
  have q3 : (kw_LT ((0 : Int32) + Int32.ofInt 1 + Int32.ofInt 1 + Int32.ofInt 1).toNatClampNeg).toInt = 107 := rfl
  have q4 : (kw_LT ((0 : Int32) + Int32.ofInt 1 + Int32.ofInt 1 + Int32.ofInt 1 + Int32.ofInt 1).toNatClampNeg).toInt = 111 := rfl
  have q5 : (kw_LT ((0 : Int32) + Int32.ofInt 1 + Int32.ofInt 1 + Int32.ofInt 1 + Int32.ofInt 1 + Int32.ofInt 1).toNatClampNeg).toInt = 112 := rfl
  rw [l_X2_kindOf_2_s, if_pos (by decide)]
  simp only [kf_lx]
  rw [q0]
  by_cases h0 : c.toInt = 108
  · rw [if_pos h0.symm, if_pos h0]
  rw [if_neg (fun q => h0 q.symm), if_neg h0, l_X2_kindOf_2_s, if_pos (by decide)]
  simp only [kf_lx]
  rw [q1]
  by_cases h1 : c.toInt = 115
  · rw [if_pos h1.symm, if_pos h1]; rfl
  rw [if_neg (fun q => h1 q.symm), if_neg h1, l_X2_kindOf_2_s, if_pos (by decide)]
  simp only [kf_lx]
  rw [q2]
  by_cases h2 : c.toInt = 98
  · rw [if_pos h2.symm, if_pos h2]; rfl
  rw [if_neg (fun q => h2 q.symm), if_neg h2, l_X2_kindOf_2_s, if_pos (by decide)]
  simp only [kf_lx]
  rw [q3]
  by_cases h3 : c.toInt = 107
  · rw [if_pos h3.symm, if_pos h3]; rfl
  rw [if_neg (fun q => h3 q.symm), if_neg h3, l_X2_kindOf_2_s, if_pos (by decide)]
  simp only [kf_lx]
  rw [q4]
  by_cases h4 : c.toInt = 111
  · rw [if_pos h4.symm, if_pos h4]; rfl
  rw [if_neg (fun q => h4 q.symm), if_neg h4, l_X2_kindOf_2_s, if_pos (by decide)]
  simp only [kf_lx]
  rw [q5]
  by_cases h5 : c.toInt = 112
  · rw [if_pos h5.symm, if_pos h5]; rfl
  rw [if_neg (fun q => h5 q.symm), if_neg h5, l_X2_kindOf_2_s, if_neg (by decide)]
theorem kt_kindBy (σ : kw_S) (c : Int32) : f_X8_kindBy σ c = if c.toInt = 108 then 0 else if c.toInt = 115 then 1 else if c.toInt = 98 then 2 else if c.toInt = 107 then 3 else if c.toInt = 111 then 4 else if c.toInt = 112 then 5 else -9 := rfl
theorem kt_kind (σ τ : kw_S) (c : Int32) : f_X2_kindOf σ c = -1 ∧ f_X8_kindBy τ c = -9 ∨ ∃ k : Int32, f_X2_kindOf σ c = k ∧ f_X8_kindBy τ c = k ∧ 0 ≤ k.toInt ∧ k.toInt ≤ 5 := by
  rw [kt_kindOf, kt_kindBy]
  by_cases h0 : c.toInt = 108
  · rw [if_pos h0, if_pos h0]; exact Or.inr ⟨0, rfl, rfl, by decide, by decide⟩
  rw [if_neg h0, if_neg h0]
  by_cases h1 : c.toInt = 115
  · rw [if_pos h1, if_pos h1]; exact Or.inr ⟨1, rfl, rfl, by decide, by decide⟩
  rw [if_neg h1, if_neg h1]
  by_cases h2 : c.toInt = 98
  · rw [if_pos h2, if_pos h2]; exact Or.inr ⟨2, rfl, rfl, by decide, by decide⟩
  rw [if_neg h2, if_neg h2]
  by_cases h3 : c.toInt = 107
  · rw [if_pos h3, if_pos h3]; exact Or.inr ⟨3, rfl, rfl, by decide, by decide⟩
  rw [if_neg h3, if_neg h3]
  by_cases h4 : c.toInt = 111
  · rw [if_pos h4, if_pos h4]; exact Or.inr ⟨4, rfl, rfl, by decide, by decide⟩
  rw [if_neg h4, if_neg h4]
  by_cases h5 : c.toInt = 112
  · rw [if_pos h5, if_pos h5]; exact Or.inr ⟨5, rfl, rfl, by decide, by decide⟩
  rw [if_neg h5, if_neg h5]
  exact Or.inl ⟨rfl, rfl⟩
def kt_L (S U : kw_S) (i : Nat) : Prop := S.1 39 i = U.1 13 (4 * i) ∧ S.1 40 i = U.1 13 (4 * i + 1) - 4 ∧ S.1 41 i = U.1 13 (4 * i + 2) ∧ S.1 42 i = U.1 13 (4 * i + 3) ∧ (0 ≤ (S.1 39 i).toInt ∧ (S.1 39 i).toInt ≤ 5) ∧ (-4 ≤ (S.1 40 i).toInt ∧ (S.1 40 i).toInt ≤ 4) ∧ (1 ≤ (S.1 41 i).toInt ∧ (S.1 41 i).toInt ≤ 9) ∧ 0 ≤ (S.1 42 i).toInt ∧ (S.1 42 i).toInt ≤ 9
def kt_N (S U : kw_S) : Prop := S.1 16 5 = U.1 0 19 ∧ 0 ≤ (S.1 16 5).toInt ∧ (S.1 16 5).toInt ≤ 6 ∧ ∀ i : Nat, (i : Int) < (S.1 16 5).toInt → kt_L S U i
theorem kt_L.to {S U S' U' : kw_S} {i : Nat} (h : kt_L S U i) (h1 : S'.1 39 i = S.1 39 i) (h2 : S'.1 40 i = S.1 40 i) (h3 : S'.1 41 i = S.1 41 i) (h4 : S'.1 42 i = S.1 42 i) (h5 : ∀ c : Nat, c < 4 → U'.1 13 (4 * i + c) = U.1 13 (4 * i + c)) : kt_L S' U' i := by
  unfold kt_L
  rw [h1, h2, h3, h4, show U'.1 13 (4 * i) = U.1 13 (4 * i) from h5 0 (by decide), h5 1 (by decide), h5 2 (by decide), h5 3 (by decide)]
  exact h
/-- what a line that is being read may change -/
def kt_P (S U S' U' : kw_S) (l : Nat) : Prop := S'.1 15 = S.1 15 ∧ (∀ b : Nat, 35 ≤ b → b < 39 → S'.1 b = S.1 b) ∧ S'.1 16 = S.1 16 ∧ S'.1 43 = S.1 43 ∧ (∀ b j : Nat, 39 ≤ b → b ≤ 42 → j ≠ l → S'.1 b j = S.1 b j) ∧ U'.1 5 = U.1 5 ∧ U'.1 6 = U.1 6 ∧ U'.1 12 = U.1 12 ∧ U'.1 0 18 = U.1 0 18 ∧ U'.1 0 19 = U.1 0 19 ∧ ∀ j : Nat, j < 4 * l ∨ 4 * l + 3 < j → U'.1 13 j = U.1 13 j
theorem kt_P.N {S U S' U' : kw_S} {l : Nat} (h : kt_P S U S' U' l) (hN : kt_N S U) (hl : (l : Int) = (S.1 16 5).toInt) : kt_N S' U' := by
  obtain ⟨-, -, h16, -, hj, -, -, -, -, h19, h13⟩ := h
  obtain ⟨n1, n2, n3, n4⟩ := hN
  refine ⟨by rw [h16, h19]; exact n1, by rw [h16]; exact n2, by rw [h16]; exact n3, fun i hi => ?_⟩
  rw [h16] at hi
  exact (n4 i hi).to (hj 39 i (by decide) (by decide) (by omega)) (hj 40 i (by decide) (by decide) (by omega)) (hj 41 i (by decide) (by decide) (by omega)) (hj 42 i (by decide) (by decide) (by omega)) (fun c hc => h13 _ (by omega))
theorem kt_P.W {S U S' U' : kw_S} {l : Nat} (h : kt_P S U S' U' l) (hW : kt_W S U) : kt_W S' U' :=
  hW.to (by rw [h.2.2.1]) h.2.2.2.2.2.2.2.2.1 h.2.2.2.1 h.2.2.2.2.2.2.2.1
theorem kt_P.B {a : Int32} {S U S' U' : kw_S} {l : Nat} (h : kt_P S U S' U' l) (hB : kt_B a S U) (hp : S'.1 3 1 = U'.1 0 17) (p0 : 0 ≤ (S'.1 3 1).toInt) (p1 : (S'.1 3 1).toInt ≤ (S.1 15 a.toNatClampNeg).toInt) : kt_B a S' U' :=
  hB.to h.1 h.2.1 h.2.2.2.2.2.1 h.2.2.2.2.2.2.1 hp p0 p1
theorem kt_idx4 (l : Int32) (h0 : 0 ≤ l.toInt) (h1 : l.toInt ≤ 6) : ((4 : Int32) * l).toNatClampNeg = 4 * l.toNatClampNeg ∧ ((4 : Int32) * l + 1).toNatClampNeg = 4 * l.toNatClampNeg + 1 ∧ ((4 : Int32) * l + 2).toNatClampNeg = 4 * l.toNatClampNeg + 2 ∧ ((4 : Int32) * l + 3).toNatClampNeg = 4 * l.toNatClampNeg + 3 := by
  refine ⟨?_, kp_idx 4 4 l 1 rfl (by decide) h0 (by omega) (by decide) (by decide), kp_idx 4 4 l 2 rfl (by decide) h0 (by omega) (by decide) (by decide), kp_idx 4 4 l 3 rfl (by decide) h0 (by omega) (by decide) (by decide)⟩
  have := kp_idx 4 4 l 0 rfl (by decide) h0 (by omega) (by decide) (by decide)
  rw [show (4 : Int32) * l + 0 = 4 * l from Int32.add_zero _] at this
  rw [this]; rfl
set_option maxHeartbeats 2000000 in
theorem kt_line {a : Int32} {S U : kw_S} (hB : kt_B a S U) (hW : kt_W S U) (hN : kt_N S U) : ∃ (r : Int32) (S' U' : kw_S), f_X2_readLine_3_2 S a = (r, S') ∧ f_X8_readsLine_0 U a = (r, U') ∧ kt_B a S' U' ∧ kt_W S' U' ∧ kt_N S' U' ∧ (r = 0 ∨ r = 1 ∧ S'.1 16 5 = S.1 16 5 + 1 ∧ (S.1 16 5).toInt < 6 ∧ (S.1 3 1).toInt < (S'.1 3 1).toInt) ∧ S'.1 16 6 = S.1 16 6 ∧ S'.1 15 = S.1 15 ∧ kw_F kt_LX S S' ∧ kw_FM kt_LM U U' := by
  have hp := hB.2.2.2.2.1
  have p0 := hB.2.2.2.2.2.1
  have p1 := hB.2.2.2.2.2.2
  have hb := hB.2.2.1 a.toNatClampNeg
  obtain ⟨n1, n2, n3, n4⟩ := id hN
  have cl := kw_clampI n2
  have q6 : (6 : Int32).toInt = 6 := rfl
  have stay : ∃ (r : Int32) (S' U' : kw_S), ((0 : Int32), S) = (r, S') ∧ ((0 : Int32), U) = (r, U') ∧ kt_B a S' U' ∧ kt_W S' U' ∧ kt_N S' U' ∧ (r = 0 ∨ r = 1 ∧ S'.1 16 5 = S.1 16 5 + 1 ∧ (S.1 16 5).toInt < 6 ∧ (S.1 3 1).toInt < (S'.1 3 1).toInt) ∧ S'.1 16 6 = S.1 16 6 ∧ S'.1 15 = S.1 15 ∧ kw_F kt_LX S S' ∧ kw_FM kt_LM U U' := ⟨0, S, U, rfl, rfl, hB, hW, hN, Or.inl rfl, rfl, rfl, kw_F.rf, kw_FM.rf⟩
  rw [f_X2_readLine_3_2_u, f_X8_readsLine_0_u]
  simp only [kf_lx, kf_bx]
  rw [if_neg (show ¬ (S.1 16 5).toInt < 0 by omega)]
  by_cases h6 : (S.1 16 5).toInt < 6
  · rw [if_pos (show (S.1 16 5).toInt < (6 : Int32).toInt from h6), if_neg (show ¬ (U.1 0 19).toInt = (6 : Int32).toInt by rw [← n1]; omega)]
    rcases kt_ch hB with ⟨hlt, e⟩ | ⟨hge, e1, e2⟩
    · rw [e]
      rcases kt_kind S U (f_X8_here_0 U a) with ⟨k1, k2⟩ | ⟨k, k1, k2, k3, k4⟩
      · rw [k1, k2, if_pos (by decide), if_pos (by decide)]
        exact stay
      · rw [k1, k2, if_neg (show ¬ k.toInt < 0 by omega), if_neg (show ¬ k.toInt = (-9 : Int32).toInt by have : (-9 : Int32).toInt = -9 := rfl; omega), ← n1, ← hp]
        have z1 := kp_add1 (S.1 3 1) (by omega)
        obtain ⟨i0, i1, i2, i3⟩ := kt_idx4 (S.1 16 5) n2 n3
        rw [i0]
        generalize hl : (S.1 16 5).toNatClampNeg = l at *
        -- behind the letter
        generalize hS1 : kw_ui (kw_ui S 3 1 (S.1 3 1 + 1)) 39 l k = S1
        generalize hU1 : kw_ui (kw_ui U 13 (4 * l) k) 0 17 (S.1 3 1 + 1) = U1
        have s1p : S1.1 3 1 = S.1 3 1 + 1 := by rw [← hS1]; simp [kp_ui]
        have P1 : kt_P S U S1 U1 l := by
          rw [← hS1, ← hU1]
          refine ⟨by funext j; simp [kp_ui], fun b h1 h2 => by funext j; rw [kp_ui, if_neg (by omega), kp_ui, if_neg (by omega)], by funext j; simp [kp_ui], by funext j; simp [kp_ui], fun b j h1 h2 h3 => by rw [kp_ui, if_neg (by omega), kp_ui, if_neg (by omega)], by funext j; simp [kp_ui], by funext j; simp [kp_ui], by funext j; simp [kp_ui], by simp [kp_ui], by simp [kp_ui], fun j hj => by rw [kp_ui, if_neg (by omega), kp_ui, if_neg (by omega)]⟩
        have B1 : kt_B a S1 U1 := P1.B hB (by rw [s1p, ← hU1]; simp [kp_ui]) (by rw [s1p]; omega) (by rw [s1p]; omega)
        have FX1 : kw_F kt_LX S S1 := by rw [← hS1]; exact kw_F_ui (kw_F_ui kw_F.rf (by decide)) (by decide)
        have FM1 : kw_FM kt_LM U U1 := by rw [← hU1]; exact kw_FM_ui0 (kw_FM_ui kw_FM.rf (by decide) (by decide)) (by decide)
        have v39 : S1.1 39 l = k := by rw [← hS1]; simp [kp_ui]
        have v130 : U1.1 13 (4 * l) = k := by rw [← hU1]; simp [kp_ui]
        have e15 := P1.1
        rcases kt_fig B1 (4 * S.1 16 5 + 1) 0 8 (by decide) (by decide) with ⟨f1, f2⟩ | ⟨v, v1, v2, vlt, f1, f2⟩
        · rw [f1, f2]
          simp only
          have e5 : (kw_ui S1 40 l (-1 - 4)).1 40 l = -5 := by rw [kp_ui]; simp
          rw [e5, if_pos (by decide), if_pos (by decide)]
          have P2 : kt_P S U (kw_ui S1 40 l (-1 - 4)) U1 l := by
            obtain ⟨x1, x2, x3, x4, x5, x6⟩ := P1
            refine ⟨by rw [← x1]; funext j; simp [kp_ui], fun b h1 h2 => by rw [← x2 b h1 h2]; funext j; rw [kp_ui, if_neg (by omega)], by rw [← x3]; funext j; simp [kp_ui], by rw [← x4]; funext j; simp [kp_ui], fun b j h1 h2 h3 => by rw [← x5 b j h1 h2 h3, kp_ui, if_neg (by omega)], x6⟩
          have s2p : (kw_ui S1 40 l (-1 - 4)).1 3 1 = S1.1 3 1 := by simp [kp_ui]
          exact ⟨0, _, _, rfl, rfl, P2.B hB (by rw [s2p]; exact B1.2.2.2.2.1) (by rw [s2p, s1p]; omega) (by rw [s2p, s1p]; omega), P2.W hW, P2.N hN (by rw [← cl]), Or.inl rfl, by rw [P2.2.2.1], P2.1, kw_F_ui FX1 (by decide), FM1⟩
        · rw [f1, f2]
          simp only
          have v1' : 0 ≤ v.toInt := v1
          have v2' : v.toInt ≤ 8 := v2
          have z2 := kp_add1 (S1.1 3 1) (by rw [s1p]; omega)
          have zv : (v - 4).toInt = v.toInt - 4 := by rw [kw_subI, show (4 : Int32).toInt = 4 from rfl]; omega
          rw [e15] at vlt
          rw [i1, if_neg (show ¬ (1 : Int32).toInt = 0 by decide)]
          have e5 : (kw_ui (kw_ui S1 3 1 (S1.1 3 1 + 1)) 40 l (v - 4)).1 40 l = v - 4 := by rw [kp_ui]; simp
          rw [e5, if_neg (show ¬ (v - 4).toInt < (-4 : Int32).toInt by rw [zv, show (-4 : Int32).toInt = -4 from rfl]; omega)]
          generalize hS2 : kw_ui (kw_ui S1 3 1 (S1.1 3 1 + 1)) 40 l (v - 4) = S2
          generalize hU2 : kw_ui (kw_ui U1 13 (4 * l + 1) v) 0 17 (S1.1 3 1 + 1) = U2
          have s2p : S2.1 3 1 = S1.1 3 1 + 1 := by rw [← hS2]; simp [kp_ui]
          have P2 : kt_P S U S2 U2 l := by
            obtain ⟨x1, x2, x3, x4, x5, x6, x7, x8, x9, x10, x11⟩ := P1
            rw [← hS2, ← hU2]
            refine ⟨by rw [← x1]; funext j; simp [kp_ui], fun b h1 h2 => by rw [← x2 b h1 h2]; funext j; rw [kp_ui, if_neg (by omega), kp_ui, if_neg (by omega)], by rw [← x3]; funext j; simp [kp_ui], by rw [← x4]; funext j; simp [kp_ui], fun b j h1 h2 h3 => by rw [← x5 b j h1 h2 h3, kp_ui, if_neg (by omega), kp_ui, if_neg (by omega)], by rw [← x6]; funext j; simp [kp_ui], by rw [← x7]; funext j; simp [kp_ui], by rw [← x8]; funext j; simp [kp_ui], by rw [← x9]; simp [kp_ui], by rw [← x10]; simp [kp_ui], fun j hj => by rw [← x11 j hj, kp_ui, if_neg (by omega), kp_ui, if_neg (by omega)]⟩
          have B2 : kt_B a S2 U2 := P2.B hB (by rw [s2p, ← hU2]; simp [kp_ui]) (by rw [s2p, z2, s1p]; omega) (by rw [s2p]; omega)
          have FX2 : kw_F kt_LX S S2 := by rw [← hS2]; exact kw_F_ui (kw_F_ui FX1 (by decide)) (by decide)
          have FM2 : kw_FM kt_LM U U2 := by rw [← hU2]; exact kw_FM_ui0 (kw_FM_ui FM1 (by decide) (by decide)) (by decide)
          have w39 : S2.1 39 l = k := by rw [← hS2]; simp [kp_ui, v39]
          have w40 : S2.1 40 l = v - 4 := by rw [← hS2]; simp [kp_ui]
          have w130 : U2.1 13 (4 * l) = k := by rw [← hU2]; simp [kp_ui, v130]
          have w131 : U2.1 13 (4 * l + 1) = v := by rw [← hU2]; simp [kp_ui]
          have e15b := P2.1
          rcases kt_fig B2 (4 * S.1 16 5 + 2) 1 9 (by decide) (by decide) with ⟨f1, f2⟩ | ⟨u, u1, u2, ult, f1, f2⟩
          · rw [f1, f2]
            simp only
            have e6 : (kw_ui S2 41 l (-1)).1 41 l = -1 := by rw [kp_ui]; simp
            rw [e6, if_pos (by decide), if_pos (by decide)]
            have P3 : kt_P S U (kw_ui S2 41 l (-1)) U2 l := by
              obtain ⟨x1, x2, x3, x4, x5, x6⟩ := P2
              refine ⟨by rw [← x1]; funext j; simp [kp_ui], fun b h1 h2 => by rw [← x2 b h1 h2]; funext j; rw [kp_ui, if_neg (by omega)], by rw [← x3]; funext j; simp [kp_ui], by rw [← x4]; funext j; simp [kp_ui], fun b j h1 h2 h3 => by rw [← x5 b j h1 h2 h3, kp_ui, if_neg (by omega)], x6⟩
            have s3p : (kw_ui S2 41 l (-1)).1 3 1 = S2.1 3 1 := by simp [kp_ui]
            exact ⟨0, _, _, rfl, rfl, P3.B hB (by rw [s3p]; exact B2.2.2.2.2.1) (by rw [s3p]; exact B2.2.2.2.2.2.1) (by rw [s3p, s2p]; omega), P3.W hW, P3.N hN (by rw [← cl]), Or.inl rfl, by rw [P3.2.2.1], P3.1, kw_F_ui FX2 (by decide), FM2⟩
          · rw [f1, f2]
            simp only
            have u1' : 1 ≤ u.toInt := u1
            have u2' : u.toInt ≤ 9 := u2
            have z3 := kp_add1 (S2.1 3 1) (by rw [s2p, z2, s1p]; omega)
            rw [e15b] at ult
            rw [i2, if_neg (show ¬ (1 : Int32).toInt = 0 by decide)]
            have e6 : (kw_ui (kw_ui S2 3 1 (S2.1 3 1 + 1)) 41 l u).1 41 l = u := by rw [kp_ui]; simp
            rw [e6, if_neg (show ¬ u.toInt < 0 by omega)]
            generalize hS3 : kw_ui (kw_ui S2 3 1 (S2.1 3 1 + 1)) 41 l u = S3
            generalize hU3 : kw_ui (kw_ui U2 13 (4 * l + 2) u) 0 17 (S2.1 3 1 + 1) = U3
            have s3p : S3.1 3 1 = S2.1 3 1 + 1 := by rw [← hS3]; simp [kp_ui]
            have P3 : kt_P S U S3 U3 l := by
              obtain ⟨x1, x2, x3, x4, x5, x6, x7, x8, x9, x10, x11⟩ := P2
              rw [← hS3, ← hU3]
              refine ⟨by rw [← x1]; funext j; simp [kp_ui], fun b h1 h2 => by rw [← x2 b h1 h2]; funext j; rw [kp_ui, if_neg (by omega), kp_ui, if_neg (by omega)], by rw [← x3]; funext j; simp [kp_ui], by rw [← x4]; funext j; simp [kp_ui], fun b j h1 h2 h3 => by rw [← x5 b j h1 h2 h3, kp_ui, if_neg (by omega), kp_ui, if_neg (by omega)], by rw [← x6]; funext j; simp [kp_ui], by rw [← x7]; funext j; simp [kp_ui], by rw [← x8]; funext j; simp [kp_ui], by rw [← x9]; simp [kp_ui], by rw [← x10]; simp [kp_ui], fun j hj => by rw [← x11 j hj, kp_ui, if_neg (by omega), kp_ui, if_neg (by omega)]⟩
            have B3 : kt_B a S3 U3 := P3.B hB (by rw [s3p, ← hU3]; simp [kp_ui]) (by rw [s3p, z3, s2p, z2, s1p]; omega) (by rw [s3p]; omega)
            have FX3 : kw_F kt_LX S S3 := by rw [← hS3]; exact kw_F_ui (kw_F_ui FX2 (by decide)) (by decide)
            have FM3 : kw_FM kt_LM U U3 := by rw [← hU3]; exact kw_FM_ui0 (kw_FM_ui FM2 (by decide) (by decide)) (by decide)
            have y39 : S3.1 39 l = k := by rw [← hS3]; simp [kp_ui, w39]
            have y40 : S3.1 40 l = v - 4 := by rw [← hS3]; simp [kp_ui, w40]
            have y41 : S3.1 41 l = u := by rw [← hS3]; simp [kp_ui]
            have y130 : U3.1 13 (4 * l) = k := by rw [← hU3]; simp [kp_ui, w130]
            have y131 : U3.1 13 (4 * l + 1) = v := by rw [← hU3]; simp [kp_ui, w131]
            have y132 : U3.1 13 (4 * l + 2) = u := by rw [← hU3]; simp [kp_ui]
            have e15c := P3.1
            rcases kt_fig B3 (4 * S.1 16 5 + 3) 0 9 (by decide) (by decide) with ⟨f1, f2⟩ | ⟨t, t1, t2, tlt, f1, f2⟩
            · rw [f1, f2]
              simp only
              have e7 : (kw_ui S3 42 l (-1)).1 42 l = -1 := by rw [kp_ui]; simp
              rw [e7, if_pos (by decide), if_pos (by decide)]
              have P4 : kt_P S U (kw_ui S3 42 l (-1)) U3 l := by
                obtain ⟨x1, x2, x3, x4, x5, x6⟩ := P3
                refine ⟨by rw [← x1]; funext j; simp [kp_ui], fun b h1 h2 => by rw [← x2 b h1 h2]; funext j; rw [kp_ui, if_neg (by omega)], by rw [← x3]; funext j; simp [kp_ui], by rw [← x4]; funext j; simp [kp_ui], fun b j h1 h2 h3 => by rw [← x5 b j h1 h2 h3, kp_ui, if_neg (by omega)], x6⟩
              have s4p : (kw_ui S3 42 l (-1)).1 3 1 = S3.1 3 1 := by simp [kp_ui]
              exact ⟨0, _, _, rfl, rfl, P4.B hB (by rw [s4p]; exact B3.2.2.2.2.1) (by rw [s4p]; exact B3.2.2.2.2.2.1) (by rw [s4p, s3p]; omega), P4.W hW, P4.N hN (by rw [← cl]), Or.inl rfl, by rw [P4.2.2.1], P4.1, kw_F_ui FX3 (by decide), FM3⟩
            · rw [f1, f2]
              simp only
              have t1' : 0 ≤ t.toInt := t1
              have t2' : t.toInt ≤ 9 := t2
              have z4 := kp_add1 (S3.1 3 1) (by rw [s3p, z3, s2p, z2, s1p]; omega)
              have z5 := kp_add1 (S.1 16 5) (by omega)
              rw [e15c] at tlt
              rw [i3, if_neg (show ¬ (1 : Int32).toInt = 0 by decide)]
              have e7 : (kw_ui (kw_ui S3 3 1 (S3.1 3 1 + 1)) 42 l t).1 42 l = t := by rw [kp_ui]; simp
              rw [e7, if_neg (show ¬ t.toInt < 0 by omega)]
              have e19 : (kw_ui (kw_ui U3 13 (4 * l + 3) t) 0 17 (S3.1 3 1 + 1)).1 0 19 = S.1 16 5 := by rw [n1, ← P3.2.2.2.2.2.2.2.2.2.1]; simp [kp_ui]
              rw [e19]
              generalize hS4 : kw_ui (kw_ui (kw_ui S3 3 1 (S3.1 3 1 + 1)) 42 l t) 16 5 (S.1 16 5 + 1) = S4
              generalize hU4 : kw_ui (kw_ui (kw_ui U3 13 (4 * l + 3) t) 0 17 (S3.1 3 1 + 1)) 0 19 (S.1 16 5 + 1) = U4
              have s4p : S4.1 3 1 = S3.1 3 1 + 1 := by rw [← hS4]; simp [kp_ui]
              obtain ⟨x1, x2, x3, x4, x5, x6, x7, x8, x9, x10, x11⟩ := P3
              have l4 : S4.1 16 5 = S.1 16 5 + 1 := by rw [← hS4]; simp [kp_ui]
              have B4 : kt_B a S4 U4 := by
                refine hB.to (by rw [← hS4, ← x1]; funext j; simp [kp_ui]) (fun b h1 h2 => by rw [← x2 b h1 h2, ← hS4]; funext j; rw [kp_ui, if_neg (by omega), kp_ui, if_neg (by omega), kp_ui, if_neg (by omega)]) (by rw [← x6, ← hU4]; funext j; simp [kp_ui]) (by rw [← x7, ← hU4]; funext j; simp [kp_ui]) (by rw [s4p, ← hU4]; simp [kp_ui]) (by rw [s4p, z4, s3p, z3, s2p, z2, s1p]; omega) (by rw [s4p]; omega)
              have W4 : kt_W S4 U4 := hW.to (by rw [← hS4, ← x3]; simp [kp_ui]) (by rw [← hU4, ← x9]; simp [kp_ui]) (by rw [← hS4, ← x4]; funext j; simp [kp_ui]) (by rw [← hU4, ← x8]; funext j; simp [kp_ui])
              have N4 : kt_N S4 U4 := by
                refine ⟨by rw [l4, ← hU4]; simp [kp_ui], by rw [l4]; omega, by rw [l4]; omega, fun i hi => ?_⟩
                rw [l4, z5] at hi
                by_cases hil : i = l
                · subst hil
                  have o39 : S4.1 39 i = k := by rw [← hS4]; simp [kp_ui, y39]
                  have o40 : S4.1 40 i = v - 4 := by rw [← hS4]; simp [kp_ui, y40]
                  have o41 : S4.1 41 i = u := by rw [← hS4]; simp [kp_ui, y41]
                  have o42 : S4.1 42 i = t := by rw [← hS4]; simp [kp_ui]
                  refine ⟨?_, ?_, ?_, ?_, ?_, ?_, ?_, ?_⟩
                  · rw [o39, ← hU4]; simp [kp_ui, y130]
                  · rw [o40, ← hU4]; simp [kp_ui, y131]
                  · rw [o41, ← hU4]; simp [kp_ui, y132]
                  · rw [o42, ← hU4]; simp [kp_ui]
                  · rw [o39]; exact ⟨k3, k4⟩
                  · rw [o40, zv]; omega
                  · rw [o41]; exact ⟨u1', u2'⟩
                  · rw [o42]; exact ⟨t1', t2'⟩
                · refine (n4 i (by omega)).to ?_ ?_ ?_ ?_ (fun c hc => ?_)
                  · rw [← x5 39 i (by decide) (by decide) hil, ← hS4]; simp [kp_ui]
                  · rw [← x5 40 i (by decide) (by decide) hil, ← hS4]; simp [kp_ui]
                  · rw [← x5 41 i (by decide) (by decide) hil, ← hS4]; simp [kp_ui]
                  · rw [← x5 42 i (by decide) (by decide) hil, ← hS4]; simp [kp_ui, hil]
                  · rw [← x11 (4 * i + c) (by omega), ← hU4, kp_ui, if_neg (by omega), kp_ui, if_neg (by omega), kp_ui, if_neg (by omega)]
              exact ⟨1, S4, U4, rfl, rfl, B4, W4, N4, Or.inr ⟨rfl, l4, h6, by rw [s4p, z4, s3p, z3, s2p, z2, s1p]; omega⟩, by rw [← hS4, ← x3]; simp [kp_ui], by rw [← hS4, ← x1]; funext j; simp [kp_ui], by rw [← hS4]; exact kw_F_ui (kw_F_ui (kw_F_ui FX3 (by decide)) (by decide)) (by decide), by rw [← hU4]; exact kw_FM_ui0 (kw_FM_ui0 (kw_FM_ui FM3 (by decide) (by decide)) (by decide)) (by decide)⟩
    · have d1 : f_X2_kindOf S 1000 = -1 := by rw [kt_kindOf]; rfl
      have d2 : f_X8_kindBy U (-9) = -9 := rfl
      rw [e1, e2, d1, d2, if_pos (by decide), if_pos (by decide)]
      exact stay
  · rw [if_neg (show ¬ (S.1 16 5).toInt < (6 : Int32).toInt from h6), if_pos (show (U.1 0 19).toInt = (6 : Int32).toInt by rw [← n1]; omega)]
    by_cases hk : (f_X8_kindBy U (f_X8_here_0 U a)).toInt = (-9 : Int32).toInt
    · rw [if_pos hk]; exact stay
    · rw [if_neg hk]; exact stay
end
section
theorem kt_N.to {S U S' U' : kw_S} (h : kt_N S U) (h1 : S'.1 16 5 = S.1 16 5) (h2 : U'.1 0 19 = U.1 0 19) (h3 : ∀ b : Nat, 39 ≤ b → b ≤ 42 → S'.1 b = S.1 b) (h4 : U'.1 13 = U.1 13) : kt_N S' U' := by
  refine ⟨by rw [h1, h2]; exact h.1, by rw [h1]; exact h.2.1, by rw [h1]; exact h.2.2.1, fun i hi => ?_⟩
  rw [h1] at hi
  exact (h.2.2.2 i hi).to (by rw [h3 39 (by decide) (by decide)]) (by rw [h3 40 (by decide) (by decide)]) (by rw [h3 41 (by decide) (by decide)]) (by rw [h3 42 (by decide) (by decide)]) (fun c _ => by rw [h4])
set_option maxHeartbeats 2000000 in
theorem kt_loop (a : Int32) : ∀ (n : Nat) (x : Int32) (S U : kw_S) (n' : Nat), kt_B a S U → kt_W S U → kt_N S U → x = S.1 16 5 → (6 - x.toInt).toNat < n → (∀ U1 : kw_S, f_X8_skip_0 U a = U1 → (60 - (U1.1 0 17).toInt).toNat < n') → ∃ (r b : Int32) (S' U' : kw_S), l_X2_faultOf_3_2_79 a n x S = (r, S') ∧ l_X8_readsTown_0_25 a n' (f_X8_skip_0 U a) = (b, U') ∧ (b = 0 ∧ r = U'.1 0 17 ∧ 0 ≤ r.toInt ∨ b = 1 ∧ r = -9 ∧ kt_W S' U' ∧ kt_N S' U' ∧ 1 ≤ (S'.1 16 5).toInt ∧ S'.1 16 6 = S.1 16 6) ∧ kw_F kt_LX S S' ∧ kw_FM kt_LM U U' := by
  intro n
  induction n with
  | zero => intro x S U n' _ _ _ _ h _; exact absurd h (Nat.not_lt_zero _)
  | succ n ih =>
    intro x S U n' hB hW hN hx h1 h2
    have q6 : (6 : Int32).toInt = 6 := rfl
    have hxi := congrArg Int32.toInt hx
    obtain ⟨p, e1, e2, p2, p3⟩ := kt_skipF hB
    have p0 := hB.2.2.2.2.2.1
    have hb := hB.2.2.1 a.toNatClampNeg
    obtain ⟨n1, n2, n3, -⟩ := id hN
    have h2 := h2 _ e2
    cases n' with
    | zero => exact absurd h2 (Nat.not_lt_zero _)
    | succ n' =>
      rw [e2, l_X2_faultOf_3_2_79_s, l_X8_readsTown_0_25_s, if_neg (show ¬ (6 : Int32).toInt < x.toInt by rw [hx]; omega)]
      simp only [kf_lx, kf_bx]
      rw [e1]
      have B5 := kt_Bat hB p (by omega) p3
      have W5 : kt_W (kw_ui S 3 1 p) (kw_ui U 0 17 p) := hW.to (by simp [kp_ui]) (by simp [kp_ui]) (by funext j; simp [kp_ui]) (by funext j; simp [kp_ui])
      have N5 : kt_N (kw_ui S 3 1 p) (kw_ui U 0 17 p) := hN.to (by simp [kp_ui]) (by simp [kp_ui]) (fun b b1 b2 => by funext j; rw [kp_ui, if_neg (by omega)]) (by funext j; simp [kp_ui])
      have FX5 : kw_F kt_LX S (kw_ui S 3 1 p) := kw_F_ui kw_F.rf (by decide)
      have FM5 : kw_FM kt_LM U (kw_ui U 0 17 p) := kw_FM_ui0 kw_FM.rf (by decide)
      have s3 : (kw_ui S 3 1 p).1 3 1 = p := by simp [kp_ui]
      have s16 : (kw_ui S 3 1 p).1 16 = S.1 16 := by funext j; simp [kp_ui]
      have s15 : (kw_ui S 3 1 p).1 15 = S.1 15 := by funext j; simp [kp_ui]
      have u17 : (kw_ui U 0 17 p).1 0 17 = p := by simp [kp_ui]
      have u19 : (kw_ui U 0 17 p).1 0 19 = S.1 16 5 := by rw [n1]; simp [kp_ui]
      rw [u17] at h2
      generalize kw_ui S 3 1 p = S5 at *
      generalize kw_ui U 0 17 p = U5 at *
      have ha := B5.2.1
      have c := kw_clampI ha.1
      have hs5 := B5.2.2.2.1
      have g1 : S5.1 15 a.toNatClampNeg = U5.1 5 a.toNatClampNeg := by
        rcases B5.1.1 a.toNatClampNeg (by omega) with ⟨g, -⟩ | ⟨g, -⟩
        · omega
        · exact g
      rw [kp_size2, if_pos (show 0 ≤ a.toInt ∧ a.toInt < 4 by omega), s3, u17, ← g1, s15, u19]
      by_cases hend : p.toInt < (S.1 15 a.toNatClampNeg).toInt
      · rw [if_pos hend, if_pos hend]
        by_cases hx6 : x.toInt = 6
        · -- a seventh line
          have hm : f_X8_readsLine_0 U5 a = (0, U5) := by
            rw [f_X8_readsLine_0_u]
            simp only [kf_lx]
            rw [u19, ← hx]
            by_cases hk : (f_X8_kindBy U5 (f_X8_here_0 U5 a)).toInt = (-9 : Int32).toInt
            · rw [if_pos hk]
            · rw [if_neg hk, if_pos (by rw [hx6]; rfl)]
          rw [hm, if_pos (show 0 < x.toInt by omega), if_pos (show x.toInt = (6 : Int32).toInt by rw [hx6]; rfl)]
          simp only
          rw [if_pos (show (0 : Int32).toInt = 0 from rfl)]
          exact ⟨p, 0, S5, U5, rfl, rfl, Or.inl ⟨rfl, u17.symm, by omega⟩, FX5, FM5⟩
        · obtain ⟨r, S7, U7, k1, k2, B7, W7, N7, kr, k16, k15, FX7, FM7⟩ := kt_line B5 W5 N5
          rw [k1, k2]
          simp only
          have hne : ¬ x.toInt = (6 : Int32).toInt := hx6
          rw [if_neg hne]
          have fork : ∃ (r_1 b : Int32) (S' U' : kw_S), (if r.toInt = 0 then (S7.1 3 1, S7) else l_X2_faultOf_3_2_79 a n (x + Int32.ofInt 1) S7) = (r_1, S') ∧ (if r.toInt = 0 then ((0 : Int32), U7) else l_X8_readsTown_0_25 a n' (f_X8_skip_0 U7 a)) = (b, U') ∧ (b = 0 ∧ r_1 = U'.1 0 17 ∧ 0 ≤ r_1.toInt ∨ b = 1 ∧ r_1 = -9 ∧ kt_W S' U' ∧ kt_N S' U' ∧ 1 ≤ (S'.1 16 5).toInt ∧ S'.1 16 6 = S.1 16 6) ∧ kw_F kt_LX S S' ∧ kw_FM kt_LM U U' := by
            rcases kr with rfl | ⟨rfl, l7, l6, lp⟩
            · rw [if_pos (show (0 : Int32).toInt = 0 from rfl), if_pos (show (0 : Int32).toInt = 0 from rfl)]
              exact ⟨S7.1 3 1, 0, S7, U7, rfl, rfl, Or.inl ⟨rfl, B7.2.2.2.2.1, B7.2.2.2.2.2.1⟩, FX5.tr FX7 (fun _ h => h), FM5.tr FM7 (fun _ h => h)⟩
            · rw [if_neg (show ¬ (1 : Int32).toInt = 0 by decide), if_neg (show ¬ (1 : Int32).toInt = 0 by decide)]
              rw [s16] at l7 l6 k16
              have z := kp_inc x (by rw [hx]; omega)
              obtain ⟨r1, b1, S8, U8, j1, j2, j3, j4, j5⟩ := ih (x + Int32.ofInt 1) S7 U7 n' B7 W7 N7 (by rw [l7, hx]; rfl) (by omega) (fun U1 hU1 => by
                obtain ⟨p', -, t2, t3, -⟩ := kt_skipF B7
                rw [t2] at hU1
                rw [← hU1, show (kw_ui U7 0 17 p').1 0 17 = p' by simp [kp_ui]]
                rw [s3] at lp
                have := B7.2.2.2.2.2.2
                rw [k15] at this
                omega)
              exact ⟨r1, b1, S8, U8, j1, j2, by rw [← k16]; exact j3, (FX5.tr FX7 (fun _ h => h)).tr j4 (fun _ h => h), (FM5.tr FM7 (fun _ h => h)).tr j5 (fun _ h => h)⟩
          by_cases hx0 : 0 < x.toInt
          · rw [if_pos hx0]; exact fork
          · rw [if_neg hx0]; exact fork
      · rw [if_neg hend, if_neg hend]
        by_cases hx0 : 0 < x.toInt
        · rw [if_pos hx0, if_pos (by rw [← hx]; exact hx0)]
          exact ⟨-9, 1, S5, U5, rfl, rfl, Or.inr ⟨rfl, rfl, W5, N5, by rw [s16, ← hx]; omega, by rw [s16]⟩, FX5, FM5⟩
        · have hl : f_X2_readLine_3_2 S5 a = (0, S5) := by
            rw [f_X2_readLine_3_2_u]
            simp only [kf_lx, kf_bx]
            rcases kt_ch B5 with ⟨q1, -⟩ | ⟨-, q2, -⟩
            · rw [s3, s15] at q1; omega
            · rw [q2, s16, if_neg (show ¬ (S.1 16 5).toInt < 0 by omega), if_pos (show (S.1 16 5).toInt < (6 : Int32).toInt by rw [← hx]; omega), kt_kindOf, if_pos (by decide)]
          rw [if_neg hx0, if_neg (show ¬ 0 < (S.1 16 5).toInt by rw [← hx]; exact hx0), if_neg (show ¬ x.toInt = (6 : Int32).toInt by omega), hl]
          simp only
          rw [if_pos (show (0 : Int32).toInt = 0 from rfl), s3]
          exact ⟨p, 0, S5, U5, rfl, rfl, Or.inl ⟨rfl, u17.symm, by omega⟩, FX5, FM5⟩
theorem kt_x1 (U : kw_S) (a : Int32) : f_X8_readsWinds_0 U a = if (f_X8_here_0 (f_X8_skip_0 U a) a).toInt = (119 : Int32).toInt then l_X8_readsWinds_0_32 a ((9 - (0 : Int32).toInt).toNat + 1) (kw_ui (kw_ui (f_X8_skip_0 U a) 0 17 ((f_X8_skip_0 U a).1 0 17 + 1)) 0 18 0) else (0, f_X8_skip_0 U a) := by
  rw [f_X8_readsWinds_0_u]; simp only [kf_lx]
theorem kt_x2 (m : kw_S) (a : Int32) {r : Int32} {S : kw_S} (h : f_X8_readsWinds_0 (kw_ui (kw_ui m 0 17 0) 0 19 0) a = (r, S)) : f_X8_readsTown_0 m a = if r.toInt = 0 then (0, S) else l_X8_readsTown_0_25 a ((61 - ((f_X8_skip_0 S a).1 0 17).toInt).toNat + 1) (f_X8_skip_0 S a) := by
  rw [f_X8_readsTown_0_u, h]; simp only [kf_lx, kf_bx]
theorem kt_x3 (m : kw_S) (a : Int32) {r : Int32} {S : kw_S} (h : f_X8_readsTown_0 m a = (r, S)) : f_X8_goesOn_0 m a = if r.toInt = 0 then (S.1 0 17, S) else (-9, S) := by
  rw [f_X8_goesOn_0_u, h]; simp only [kf_bx]
theorem kt_x4 (x : kw_S) (a : Int32) {S1 : kw_S} (h : f_X2_skipBlanks_3_2 (kw_ui (kw_ui (kw_ui x 16 5 0) 16 6 0) 3 1 0) a = S1) : f_X2_faultOf_3_2 x a = if (f_X3_valueAt_2 S1 a (S1.1 3 1)).toInt = (119 : Int32).toInt then (if ((f_X2_readWinds_3_2 (kw_ui S1 3 1 (S1.1 3 1 + 1)) a).1 16 6).toInt = 0 then ((f_X2_readWinds_3_2 (kw_ui S1 3 1 (S1.1 3 1 + 1)) a).1 3 1, f_X2_readWinds_3_2 (kw_ui S1 3 1 (S1.1 3 1 + 1)) a) else l_X2_faultOf_3_2_79 a ((8 - (0 : Int32).toInt).toNat + 1) (0 : Int32) (f_X2_readWinds_3_2 (kw_ui S1 3 1 (S1.1 3 1 + 1)) a)) else (S1.1 3 1, S1) := by
  rw [f_X2_faultOf_3_2_u, h]; simp only [kf_lx]
theorem kt_wd {a : Int32} {S U : kw_S} (B0 : kt_B a S U) (f5 : S.1 16 5 = 0) (f6 : S.1 16 6 = 0) (g19 : U.1 0 19 = 0) : ∃ S1 : kw_S, f_X2_skipBlanks_3_2 S a = S1 ∧ (¬ (f_X3_valueAt_2 S1 a (S1.1 3 1)).toInt = (119 : Int32).toInt ∧ (∃ U1 : kw_S, f_X8_readsWinds_0 U a = (0, U1) ∧ S1.1 3 1 = U1.1 0 17 ∧ 0 ≤ (S1.1 3 1).toInt ∧ kw_F kt_LX S S1 ∧ kw_FM kt_LM U U1) ∨ (f_X3_valueAt_2 S1 a (S1.1 3 1)).toInt = (119 : Int32).toInt ∧ ∃ (S4 U4 : kw_S) (r4 : Int32), f_X2_readWinds_3_2 (kw_ui S1 3 1 (S1.1 3 1 + 1)) a = S4 ∧ f_X8_readsWinds_0 U a = (r4, U4) ∧ kt_B a S4 U4 ∧ kt_W S4 U4 ∧ kt_N S4 U4 ∧ S4.1 16 5 = 0 ∧ (0 < (S4.1 16 6).toInt ∧ r4 = 1 ∨ (S4.1 16 6).toInt = 0 ∧ r4 = 0) ∧ kw_F kt_LX S S4 ∧ kw_FM kt_LM U U4) := by
  obtain ⟨p, e1, e2, p2, p3⟩ := kt_skipF B0
  have p0 := B0.2.2.2.2.2.1
  have hb0 := B0.2.2.1 a.toNatClampNeg
  have B1 := kt_Bat B0 p (by omega) p3
  have FX1 : kw_F kt_LX S (kw_ui S 3 1 p) := kw_F_ui kw_F.rf (by decide)
  have FM1 : kw_FM kt_LM U (kw_ui U 0 17 p) := kw_FM_ui0 kw_FM.rf (by decide)
  have s3 : (kw_ui S 3 1 p).1 3 1 = p := by simp [kp_ui]
  have s15 : (kw_ui S 3 1 p).1 15 = S.1 15 := by funext j; simp [kp_ui]
  have u17 : (kw_ui U 0 17 p).1 0 17 = p := by simp [kp_ui]
  have h5 : (kw_ui S 3 1 p).1 16 5 = 0 := by rw [← f5]; simp [kp_ui]
  have h6 : (kw_ui S 3 1 p).1 16 6 = 0 := by rw [← f6]; simp [kp_ui]
  have h19 : (kw_ui U 0 17 p).1 0 19 = 0 := by rw [← g19]; simp [kp_ui]
  refine ⟨_, e1, ?_⟩
  rw [kt_x1, e2]
  generalize kw_ui S 3 1 p = S1 at *
  generalize kw_ui U 0 17 p = U1 at *
  rw [s3, u17]
  rcases kt_ch B1 with ⟨hlt, e⟩ | ⟨hge, d1, d2⟩
  · rw [s3] at e
    rw [s3, s15] at hlt
    rw [e]
    by_cases hw : (f_X8_here_0 U1 a).toInt = (119 : Int32).toInt
    · right
      refine ⟨hw, ?_⟩
      rw [if_pos hw]
      have z := kp_add1 p (by omega)
      have B2 : kt_B a (kw_ui S1 3 1 (p + 1)) (kw_ui (kw_ui U1 0 17 (p + 1)) 0 18 0) := by
        have t3 : (kw_ui S1 3 1 (p + 1)).1 3 1 = p + 1 := by simp [kp_ui]
        refine B1.to (by funext j; simp [kp_ui]) (fun b h1 h2 => by funext j; rw [kp_ui, if_neg (by omega)]) (by funext j; simp [kp_ui]) (by funext j; simp [kp_ui]) (by rw [t3]; simp [kp_ui]) (by rw [t3]; omega) (by rw [t3, s15]; omega)
      have FX2 : kw_F kt_LX S (kw_ui S1 3 1 (p + 1)) := kw_F_ui FX1 (by decide)
      have FM2 : kw_FM kt_LM U (kw_ui (kw_ui U1 0 17 (p + 1)) 0 18 0) := kw_FM_ui0 (kw_FM_ui0 FM1 (by decide)) (by decide)
      have l6 : (kw_ui S1 3 1 (p + 1)).1 16 6 = 0 := by rw [← h6]; simp [kp_ui]
      have l5 : (kw_ui S1 3 1 (p + 1)).1 16 5 = 0 := by rw [← h5]; simp [kp_ui]
      have m19 : (kw_ui (kw_ui U1 0 17 (p + 1)) 0 18 0).1 0 19 = 0 := by rw [← h19]; simp [kp_ui]
      have W2 : kt_W (kw_ui S1 3 1 (p + 1)) (kw_ui (kw_ui U1 0 17 (p + 1)) 0 18 0) := by
        refine ⟨by rw [l6]; simp [kp_ui], by rw [l6]; decide, by rw [l6]; decide, fun j hj => ?_⟩
        rw [l6, kp_q0] at hj
        omega
      rw [f_X2_readWinds_3_2_u]
      obtain ⟨S4, U4, r4, a1, a2, B4, W4, a5, a6, a7, a8, a9⟩ := kt_winds a ((9 - (0 : Int32).toInt).toNat + 1) 0 _ _ ((9 - (0 : Int32).toInt).toNat + 1) B2 W2 l6.symm (by rw [kp_q0]; omega) (by rw [kp_q0]; omega)
      refine ⟨S4, U4, r4, a1, a2, B4, W4, ?_, by rw [a6, l5], a5, FX2.tr a8 (fun _ h => h), FM2.tr a9 (fun _ h => h)⟩
      refine ⟨by rw [a6, a7, l5, m19], by rw [a6, l5]; decide, by rw [a6, l5]; decide, fun i hi => ?_⟩
      rw [a6, l5, kp_q0] at hi
      omega
    · left
      refine ⟨hw, U1, ?_, u17.symm, by omega, FX1, FM1⟩
      rw [if_neg hw]
  · rw [s3] at d1
    rw [d1, d2]
    left
    refine ⟨by decide, U1, ?_, u17.symm, by omega, FX1, FM1⟩
    rw [if_neg (show ¬ (-9 : Int32).toInt = (119 : Int32).toInt by decide)]
theorem kt_none9 (z : Int32) (h0 : 0 ≤ z.toInt) (h1 : z = -9) : False := by rw [h1] at h0; exact absurd h0 (by decide)
theorem kt_fault {a : Int32} {x m : kw_S} (hT : kr_T x m) (ha : 0 ≤ a.toInt ∧ a.toInt ≤ 3) (hb : ∀ j : Nat, -1 ≤ (x.1 15 j).toInt ∧ (x.1 15 j).toInt ≤ 60) (hs : 0 ≤ (x.1 15 a.toNatClampNeg).toInt) : ∃ (r : Int32) (S' U' : kw_S), f_X2_faultOf_3_2 x a = (r, S') ∧ f_X8_goesOn_0 m a = (r, U') ∧ (r = -9 → kt_W S' U' ∧ kt_N S' U' ∧ 1 ≤ (S'.1 16 5).toInt ∧ 1 ≤ (S'.1 16 6).toInt) ∧ kw_F kt_LX x S' ∧ kw_FM kt_LM m U' := by
  have B0 : kt_B a (kw_ui (kw_ui (kw_ui x 16 5 0) 16 6 0) 3 1 0) (kw_ui (kw_ui m 0 17 0) 0 19 0) := by
    have e15 : (kw_ui (kw_ui (kw_ui x 16 5 0) 16 6 0) 3 1 0).1 15 = x.1 15 := by funext j; simp [kp_ui]
    have e3 : (kw_ui (kw_ui (kw_ui x 16 5 0) 16 6 0) 3 1 0).1 3 1 = 0 := by simp [kp_ui]
    refine ⟨hT.cong (fun b hb => by funext j; rw [kp_ui, if_neg (by omega), kp_ui, if_neg (by omega), kp_ui, if_neg (by omega)]) (fun b hb => by funext j; rw [kp_ui, if_neg (by omega), kp_ui, if_neg (by omega)]), ha, by rw [e15]; exact hb, by rw [e15]; exact hs, by rw [e3]; simp [kp_ui], by rw [e3]; decide, by rw [e3, e15]; exact hs⟩
  have FX0 : kw_F kt_LX x (kw_ui (kw_ui (kw_ui x 16 5 0) 16 6 0) 3 1 0) := kw_F_ui (kw_F_ui (kw_F_ui kw_F.rf (by decide)) (by decide)) (by decide)
  have FM0 : kw_FM kt_LM m (kw_ui (kw_ui m 0 17 0) 0 19 0) := kw_FM_ui0 (kw_FM_ui0 kw_FM.rf (by decide)) (by decide)
  have f5 : (kw_ui (kw_ui (kw_ui x 16 5 0) 16 6 0) 3 1 0).1 16 5 = 0 := by simp [kp_ui]
  have f6 : (kw_ui (kw_ui (kw_ui x 16 5 0) 16 6 0) 3 1 0).1 16 6 = 0 := by simp [kp_ui]
  have g19 : (kw_ui (kw_ui m 0 17 0) 0 19 0).1 0 19 = 0 := by simp [kp_ui]
  obtain ⟨S1, e1, hc⟩ := kt_wd B0 f5 f6 g19
  rw [kt_x4 x a e1]
  rcases hc with ⟨hw, U1, w1, w2, w3, w4, w5⟩ | ⟨hw, S4, U4, r4, w1, w2, B4, W4, N4, l5, a5, w4, w5⟩
  · have hRT : f_X8_readsTown_0 m a = (0, U1) := by
      rw [kt_x2 m a w1, if_pos (show (0 : Int32).toInt = 0 from rfl)]
    rw [kt_x3 m a hRT, if_neg hw, if_pos (show (0 : Int32).toInt = 0 from rfl), ← w2]
    exact ⟨S1.1 3 1, S1, U1, rfl, rfl, fun h => (kt_none9 _ w3 h).elim, FX0.tr w4 (fun _ h => h), FM0.tr w5 (fun _ h => h)⟩
  · rw [if_pos hw, w1]
    rcases a5 with ⟨w0, rfl⟩ | ⟨w0, rfl⟩
    · obtain ⟨r, b, S', U', j1, j2, j3, j4, j5⟩ := kt_loop a ((8 - (0 : Int32).toInt).toNat + 1) 0 S4 U4 ((61 - ((f_X8_skip_0 U4 a).1 0 17).toInt).toNat + 1) B4 W4 N4 l5.symm (by rw [kp_q0]; omega) (fun V hV => by rw [hV]; omega)
      have hRT : f_X8_readsTown_0 m a = (b, U') := by
        rw [kt_x2 m a w2, if_neg (show ¬ (1 : Int32).toInt = 0 by decide)]
        exact j2
      rw [kt_x3 m a hRT, if_neg (show ¬ (S4.1 16 6).toInt = 0 by omega), j1]
      have JX := (FX0.tr w4 (fun _ h => h)).tr j4 (fun _ h => h)
      have JM := (FM0.tr w5 (fun _ h => h)).tr j5 (fun _ h => h)
      rcases j3 with ⟨rfl, k2, k3⟩ | ⟨rfl, k2, k3, k4, k5, k6⟩
      · rw [if_pos (show (0 : Int32).toInt = 0 from rfl), ← k2]
        exact ⟨r, S', U', rfl, rfl, fun h => (kt_none9 r k3 h).elim, JX, JM⟩
      · rw [if_neg (show ¬ (1 : Int32).toInt = 0 by decide), k2]
        exact ⟨-9, S', U', rfl, rfl, fun _ => ⟨k3, k4, k5, by rw [k6]; omega⟩, JX, JM⟩
    · have hRT : f_X8_readsTown_0 m a = (0, U4) := by
        rw [kt_x2 m a w2, if_pos (show (0 : Int32).toInt = 0 from rfl)]
      rw [kt_x3 m a hRT, if_pos (show (S4.1 16 6).toInt = 0 from w0), if_pos (show (0 : Int32).toInt = 0 from rfl), ← B4.2.2.2.2.1]
      exact ⟨S4.1 3 1, S4, U4, rfl, rfl, fun h => (kt_none9 _ B4.2.2.2.2.2.1 h).elim, FX0.tr w4 (fun _ h => h), FM0.tr w5 (fun _ h => h)⟩
end
section
/-! ===== the town's lines and winds: the class's layout (17) and the reference's rows ===== -/
def kr_L (x m : kw_S) : Prop := x.1 17 5 = m.1 0 10 ∧ (0 ≤ (x.1 17 5).toInt ∧ (x.1 17 5).toInt ≤ 6) ∧ ((x.1 17 5).toInt = 0 ∧ x.1 17 6 = 0 ∧ m.1 0 11 = 1 ∧ m.1 7 0 = 0 ∨ 1 ≤ (x.1 17 5).toInt ∧ x.1 17 6 = m.1 0 11 ∧ 1 ≤ (x.1 17 6).toInt ∧ (x.1 17 6).toInt ≤ 8 ∧ ∀ j : Nat, (j : Int) < (x.1 17 6).toInt → x.1 48 j = m.1 7 j ∧ 0 ≤ (x.1 48 j).toInt ∧ (x.1 48 j).toInt ≤ 5) ∧ ∀ i : Nat, (i : Int) < (x.1 17 5).toInt → x.1 44 i = m.1 8 i ∧ x.1 45 i = m.1 9 i ∧ x.1 46 i = m.1 10 i ∧ x.1 47 i = m.1 11 i ∧ (0 ≤ (x.1 44 i).toInt ∧ (x.1 44 i).toInt ≤ 5) ∧ (-4 ≤ (x.1 45 i).toInt ∧ (x.1 45 i).toInt ≤ 4) ∧ (1 ≤ (x.1 46 i).toInt ∧ (x.1 46 i).toInt ≤ 9) ∧ 0 ≤ (x.1 47 i).toInt ∧ (x.1 47 i).toInt ≤ 9
theorem kr_L.cong {x x' m m' : kw_S} (h : kr_L x m) (hx : ∀ a : Nat, a = 17 ∨ 44 ≤ a ∧ a ≤ 48 → x'.1 a = x.1 a) (hm : ∀ a : Nat, 7 ≤ a ∧ a ≤ 11 → m'.1 a = m.1 a) (h10 : m'.1 0 10 = m.1 0 10) (h11 : m'.1 0 11 = m.1 0 11) : kr_L x' m' := by
  unfold kr_L
  rw [hx 17 (Or.inl rfl), hx 44 (by omega), hx 45 (by omega), hx 46 (by omega), hx 47 (by omega), hx 48 (by omega), hm 7 (by omega), hm 8 (by omega), hm 9 (by omega), hm 10 (by omega), hm 11 (by omega), h10, h11]
  exact h
theorem kr_L.fr {L L' : List Nat} {x x' m m' : kw_S} (h : kr_L x m) (F1 : kw_F L x x') (F2 : kw_FM L' m m') (h1 : ∀ a ∈ L, ¬ (a = 17 ∨ 44 ≤ a ∧ a ≤ 48)) (h2 : ∀ a ∈ L', ¬ (7 ≤ a ∧ a ≤ 11) ∧ a ≠ 1010 ∧ a ≠ 1011) : kr_L x' m' :=
  h.cong (fun a ha => (F1 a (fun q => h1 a q ha)).1) (fun a ha => F2.1 a (by omega) (fun q => (h2 a q).1 ha)) (F2.2.1 10 (fun q => (h2 _ q).2.1 rfl)) (F2.2.1 11 (fun q => (h2 _ q).2.2 rfl))
theorem kr_L.mix {σ s t : kw_S} (h : kr_L s t) : kr_L (kw_mixM (kw_mixX σ s) t) t :=
  h.cong (fun a ha => by simp [kw_mixM, kw_mixX, show a < 61 by omega]) (fun _ _ => rfl) rfl rfl
/-! the reference's own loops of town() -/
theorem kt_tw183 (a b : Int32) : ∀ (n : Nat) (x : Int32) (S : kw_S), 0 ≤ x.toInt → x.toInt ≤ 3 → (∀ k : Nat, (k : Int) < x.toInt → S.1 16 k = 0) → (3 - x.toInt).toNat < n → ∃ S' : kw_S, l_X8_town_0_183 a b n x S = (S.1 0 10, S') ∧ kw_FM [16] S S' ∧ ∀ k : Nat, k < 3 → S'.1 16 k = 0 := by
  intro n
  induction n with
  | zero => intro x S _ _ _ h; exact absurd h (Nat.not_lt_zero _)
  | succ n ih =>
    intro x S h0 h1 hk h2
    have c := kw_clampI h0
    rw [l_X8_town_0_183_s]
    by_cases hx : x.toInt < 3
    · have z := kp_inc x (by omega)
      rw [if_pos (show x.toInt < (3 : Int32).toInt from hx)]
      simp only [kf_lx]
      obtain ⟨S', e1, e2, e3⟩ := ih (x + Int32.ofInt 1) (kw_ui S 16 x.toNatClampNeg 0) (by omega) (by omega) (fun k hk2 => by
        rw [kp_ui]
        by_cases e : k = x.toNatClampNeg
        · rw [if_pos ⟨rfl, e⟩]
        · rw [if_neg (fun q => e q.2)]; exact hk k (by omega)) (by omega)
      refine ⟨S', ?_, kw_FM.tr (kw_FM_ui kw_FM.rf (by decide) (by decide)) e2 (fun _ h => h), e3⟩
      rw [e1, show (kw_ui S 16 x.toNatClampNeg 0).1 0 10 = S.1 0 10 by simp [kp_ui]]
    · rw [if_neg (show ¬ x.toInt < (3 : Int32).toInt from hx)]
      exact ⟨S, rfl, kw_FM.rf, fun k hk2 => hk k (by omega)⟩
def kt_Q (S R : kw_S) (i : Nat) : Prop := S.1 8 i = R.1 13 (4 * i) ∧ S.1 9 i = R.1 13 (4 * i + 1) - 4 ∧ S.1 10 i = R.1 13 (4 * i + 2) ∧ S.1 11 i = R.1 13 (4 * i + 3) ∧ S.1 14 i = 0
theorem kt_tw71 (a b : Int32) (R : kw_S) : ∀ (n : Nat) (x : Int32) (S : kw_S), 0 ≤ x.toInt → x.toInt ≤ (S.1 0 10).toInt → (S.1 0 10).toInt ≤ 6 → kw_FM [8, 9, 10, 11, 14] R S → (∀ i : Nat, (i : Int) < x.toInt → kt_Q S R i) → (6 - x.toInt).toNat < n → ∃ S' : kw_S, l_X8_town_0_71 a b n x S = l_X8_town_0_183 a b ((4 - (0 : Int32).toInt).toNat + 1) (0 : Int32) (kw_ui (kw_ui (kw_ui (kw_ui (kw_ui S' 0 22 0) 0 23 0) 0 24 0) 0 25 0) 0 27 0) ∧ kw_FM [8, 9, 10, 11, 14] R S' ∧ ∀ i : Nat, (i : Int) < (S.1 0 10).toInt → kt_Q S' R i := by
  intro n
  induction n with
  | zero => intro x S _ _ _ _ _ h; exact absurd h (Nat.not_lt_zero _)
  | succ n ih =>
    intro x S h0 h1 h6 hF hq h2
    have c := kw_clampI h0
    rw [l_X8_town_0_71_s]
    by_cases hx : x.toInt < (S.1 0 10).toInt
    · have z := kp_inc x (by omega)
      rw [if_pos hx]
      simp only [kf_lx]
      obtain ⟨i0, i1, i2, i3⟩ := kt_idx4 x h0 (by omega)
      rw [i0, i1, i2, i3]
      have r13 : S.1 13 = R.1 13 := hF.1 13 (by decide) (by decide)
      generalize hS1 : kw_ui (kw_ui (kw_ui (kw_ui (kw_ui S 8 x.toNatClampNeg (S.1 13 (4 * x.toNatClampNeg))) 9 x.toNatClampNeg ((kw_ui S 8 x.toNatClampNeg (S.1 13 (4 * x.toNatClampNeg))).1 13 (4 * x.toNatClampNeg + 1) - 4)) 10 x.toNatClampNeg ((kw_ui (kw_ui S 8 x.toNatClampNeg (S.1 13 (4 * x.toNatClampNeg))) 9 x.toNatClampNeg ((kw_ui S 8 x.toNatClampNeg (S.1 13 (4 * x.toNatClampNeg))).1 13 (4 * x.toNatClampNeg + 1) - 4)).1 13 (4 * x.toNatClampNeg + 2))) 11 x.toNatClampNeg ((kw_ui (kw_ui (kw_ui S 8 x.toNatClampNeg (S.1 13 (4 * x.toNatClampNeg))) 9 x.toNatClampNeg ((kw_ui S 8 x.toNatClampNeg (S.1 13 (4 * x.toNatClampNeg))).1 13 (4 * x.toNatClampNeg + 1) - 4)) 10 x.toNatClampNeg ((kw_ui (kw_ui S 8 x.toNatClampNeg (S.1 13 (4 * x.toNatClampNeg))) 9 x.toNatClampNeg ((kw_ui S 8 x.toNatClampNeg (S.1 13 (4 * x.toNatClampNeg))).1 13 (4 * x.toNatClampNeg + 1) - 4)).1 13 (4 * x.toNatClampNeg + 2))).1 13 (4 * x.toNatClampNeg + 3))) 14 x.toNatClampNeg 0 = S1
      have m10 : S1.1 0 10 = S.1 0 10 := by rw [← hS1]; simp [kp_ui]
      have F1 : kw_FM [8, 9, 10, 11, 14] R S1 := by
        rw [← hS1]
        exact kw_FM_ui (kw_FM_ui (kw_FM_ui (kw_FM_ui (kw_FM_ui hF (by decide) (by decide)) (by decide) (by decide)) (by decide) (by decide)) (by decide) (by decide)) (by decide) (by decide)
      obtain ⟨S', e1, e2, e3⟩ := ih (x + Int32.ofInt 1) S1 (by omega) (by rw [m10]; omega) (by rw [m10]; exact h6) F1 (fun i hi => by
        by_cases e : i = x.toNatClampNeg
        · subst e
          rw [← hS1]
          unfold kt_Q
          simp [kp_ui, r13]
        · obtain ⟨g1, g2, g3, g4, g5⟩ := hq i (by omega)
          rw [← hS1]
          unfold kt_Q
          simp [kp_ui, e, g1, g2, g3, g4, g5]) (by omega)
      exact ⟨S', e1, e2, by rw [m10] at e3; exact e3⟩
    · rw [if_neg hx]
      exact ⟨S, rfl, hF, fun i hi => hq i (by omega)⟩
theorem kt_tw43 (a b : Int32) (R : kw_S) : ∀ (n : Nat) (x : Int32) (S : kw_S), 0 ≤ x.toInt → x.toInt ≤ (S.1 0 11).toInt → (S.1 0 11).toInt ≤ 8 → kw_FM [7] R S → (∀ j : Nat, (j : Int) < x.toInt → S.1 7 j = R.1 12 j) → (8 - x.toInt).toNat < n → ∃ S' : kw_S, l_X8_town_0_43 a b n x S = l_X8_town_0_71 a b ((7 - (0 : Int32).toInt).toNat + 1) (0 : Int32) S' ∧ kw_FM [7] R S' ∧ ∀ j : Nat, (j : Int) < (S.1 0 11).toInt → S'.1 7 j = R.1 12 j := by
  intro n
  induction n with
  | zero => intro x S _ _ _ _ _ h; exact absurd h (Nat.not_lt_zero _)
  | succ n ih =>
    intro x S h0 h1 h8 hF hq h2
    have c := kw_clampI h0
    rw [l_X8_town_0_43_s]
    by_cases hx : x.toInt < (S.1 0 11).toInt
    · have z := kp_inc x (by omega)
      rw [if_pos hx]
      simp only [kf_lx]
      have r12 : S.1 12 = R.1 12 := hF.1 12 (by decide) (by decide)
      have m11 : (kw_ui S 7 x.toNatClampNeg (S.1 12 x.toNatClampNeg)).1 0 11 = S.1 0 11 := by simp [kp_ui]
      obtain ⟨S', e1, e2, e3⟩ := ih (x + Int32.ofInt 1) (kw_ui S 7 x.toNatClampNeg (S.1 12 x.toNatClampNeg)) (by omega) (by rw [m11]; omega) (by rw [m11]; exact h8) (kw_FM_ui hF (by decide) (by decide)) (fun j hj => by
        rw [kp_ui]
        by_cases e : j = x.toNatClampNeg
        · rw [if_pos ⟨rfl, e⟩, r12, e]
        · rw [if_neg (fun q => e q.2)]; exact hq j (by omega)) (by omega)
      exact ⟨S', e1, e2, by rw [m11] at e3; exact e3⟩
    · rw [if_neg hx]
      exact ⟨S, rfl, hF, fun j hj => hq j (by omega)⟩
/-! the class's own -/
theorem kt_drop (S : kw_S) (k : Int32) (h0 : 0 ≤ k.toInt) (h1 : k.toInt < 3) : f_X3_drop_5 S k = kw_ui S 21 k.toNatClampNeg (-1) := by
  rw [f_X3_drop_5_u]
  simp only [kf_lx, kp_has5]
  rw [if_pos (show 0 ≤ k.toInt ∧ k.toInt < 3 from ⟨h0, h1⟩), if_neg (by decide)]
theorem kt_town80 (a : Int32) : ∀ (n : Nat) (x : Int32) (S : kw_S), 0 ≤ x.toInt → x.toInt ≤ 3 → (∀ k : Nat, (k : Int) < x.toInt → S.1 21 k = -1) → (3 - x.toInt).toNat < n → ∃ S' : kw_S, l_X7_town_0_80 a n x S = (S.1 17 5, S') ∧ kw_F [21] S S' ∧ ∀ k : Nat, k < 3 → S'.1 21 k = -1 := by
  intro n
  induction n with
  | zero => intro x S _ _ _ h; exact absurd h (Nat.not_lt_zero _)
  | succ n ih =>
    intro x S h0 h1 hk h2
    have c := kw_clampI h0
    rw [l_X7_town_0_80_s]
    by_cases hx : x.toInt < 3
    · have z := kp_inc x (by omega)
      rw [if_pos (show x.toInt < (3 : Int32).toInt from hx)]
      simp only [kf_lx]
      rw [kt_drop S x h0 hx]
      obtain ⟨S', e1, e2, e3⟩ := ih (x + Int32.ofInt 1) (kw_ui S 21 x.toNatClampNeg (-1)) (by omega) (by omega) (fun k hk2 => by
        rw [kp_ui]
        by_cases e : k = x.toNatClampNeg
        · rw [if_pos ⟨rfl, e⟩]
        · rw [if_neg (fun q => e q.2)]; exact hk k (by omega)) (by omega)
      refine ⟨S', ?_, kw_F.tr (kw_F_ui kw_F.rf (by decide)) e2 (fun _ h => h), e3⟩
      rw [e1, show (kw_ui S 21 x.toNatClampNeg (-1)).1 17 5 = S.1 17 5 by simp [kp_ui]]
    · rw [if_neg (show ¬ x.toInt < (3 : Int32).toInt from hx)]
      exact ⟨S, rfl, kw_F.rf, fun k hk2 => hk k (by omega)⟩
theorem kt_replay0 (S : kw_S) : f_X5_replay_4 S 0 = kw_ui (kw_ui (kw_ui (kw_ui (kw_ui (kw_ua S 19 (fun j => if j < 6 then 0 else S.1 19 j)) 4 3 0) 4 4 0) 4 5 0) 4 6 0) 4 7 0 := by
  rw [f_X5_replay_4_u, kp_fill19]
  simp only [kf_lx]
  show l_X5_replay_4_35 0 42 0 _ = _
  rw [l_X5_replay_4_35_s, if_neg (by decide)]
theorem kt_copy (S : kw_S) : (f_X1_copyFrom_17_16 S).1 17 5 = S.1 16 5 ∧ (f_X1_copyFrom_17_16 S).1 17 6 = S.1 16 6 ∧ (∀ i : Nat, i < 6 → (f_X1_copyFrom_17_16 S).1 44 i = S.1 39 i ∧ (f_X1_copyFrom_17_16 S).1 45 i = S.1 40 i ∧ (f_X1_copyFrom_17_16 S).1 46 i = S.1 41 i ∧ (f_X1_copyFrom_17_16 S).1 47 i = S.1 42 i) ∧ (∀ j : Nat, j < 8 → (f_X1_copyFrom_17_16 S).1 48 j = S.1 43 j) ∧ kw_F [17, 44, 45, 46, 47, 48] S (f_X1_copyFrom_17_16 S) := by
  have q0 : (0 : Int32).toNatClampNeg = 0 := rfl
  have q6 : (6 : Int32).toNatClampNeg = 6 := rfl
  have q8 : (8 : Int32).toNatClampNeg = 8 := rfl
  rw [f_X1_copyFrom_17_16_u]
  simp only [kf_lx, q0, q6, q8]
  refine ⟨by simp [kp_ui, kp_ua], by simp [kp_ui, kp_ua], fun i hi => ⟨by simp [kp_ui, kp_ua, va_cpy, hi], by simp [kp_ui, kp_ua, va_cpy, hi], by simp [kp_ui, kp_ua, va_cpy, hi], by simp [kp_ui, kp_ua, va_cpy, hi]⟩, fun j hj => by simp [kp_ui, kp_ua, va_cpy, hj], ?_⟩
  exact kw_F_ui (kw_F_ui (kw_F_ua (kw_F_ua (kw_F_ua (kw_F_ua (kw_F_ua kw_F.rf (by decide)) (by decide)) (by decide)) (by decide)) (by decide)) (by decide)) (by decide)
theorem kr_fault {x m s t : kw_S} {r q : Int32} (hX : kw_I bX x) (h : kr_T x m) (k : Int32) (e1 : (r, s) = f_X7_fault_0 x k) (e2 : (q, t) = f_X8_fault_0 m k) : r = q := by
  rw [f_X7_fault_0_u] at e1
  rw [f_X8_fault_0_u] at e2
  simp only [kf_lx, kf_bx, kp_has2, kp_miss2] at e1
  simp only [kf_lx, kf_bx, kp_askedText] at e2
  by_cases hk : 0 ≤ k.toInt ∧ k.toInt < 4
  · rw [if_pos hk, if_neg (by decide)] at e1
    have hk3 : 0 ≤ k.toInt ∧ k.toInt ≤ 3 := by omega
    simp only [if_pos hk3] at e2
    have c := kw_clampI hk.1
    rcases h.1 k.toNatClampNeg (by omega) with ⟨g1, g2⟩ | ⟨g1, g2⟩
    · rw [if_neg (show ¬ (0 ≤ k.toInt ∧ k.toInt < 4 ∧ 0 ≤ (x.1 15 k.toNatClampNeg).toInt) by omega), if_neg (by decide)] at e1
      simp only [if_pos g2] at e2
      rw [if_pos (by rw [kp_meet1]; decide)] at e2
      cases e1; cases e2
      exact (kp_refuse1 _ _).trans (kp_meet1 _ _).symm
    · rw [if_pos (show 0 ≤ k.toInt ∧ k.toInt < 4 ∧ 0 ≤ (x.1 15 k.toNatClampNeg).toInt by omega), if_pos (by decide)] at e1
      have g3 : ¬ (m.1 5 k.toNatClampNeg).toInt < 0 := by rw [← g1]; omega
      simp only [if_neg g3] at e2
      rw [if_neg (by decide)] at e2
      obtain ⟨r0, S4, U4, f1, f2, -, -, -⟩ := kt_fault h hk3 (fun j => hX 15 j) g2
      rw [f1] at e1
      rw [f2] at e2
      cases e1; cases e2
      rfl
  · rw [if_neg hk, if_pos (by decide)] at e1
    have hk3 : ¬ (0 ≤ k.toInt ∧ k.toInt ≤ 3) := by omega
    simp only [if_neg hk3] at e2
    rw [if_pos (by decide)] at e2
    cases e1; cases e2
    rfl
set_option maxHeartbeats 2000000 in
/-- a town by a text: refused on both sides, the state as it was; or both have the text's lines and winds, and begin anew -/
theorem kr_town {x m s t : kw_S} {r q : Int32} (hX : kw_I bX x) (h : kr_T x m) (hL : kr_L x m) (k : Int32) (e1 : (r, s) = f_X7_town_0 x k) (e2 : (q, t) = f_X8_town_0 m k) : r = q ∧ kr_L s t ∧ (kw_F [8, 28, 3, 16, 39, 40, 41, 42, 43] x s ∧ kw_FM [1, 12, 13, 1000, 1017, 1018, 1019] m t ∨ s.1 4 3 = 0 ∧ s.1 4 4 = 0 ∧ s.1 4 5 = 0 ∧ s.1 4 6 = 0 ∧ s.1 4 7 = 0 ∧ (∀ j : Nat, j < 6 → s.1 19 j = 0) ∧ (∀ j : Nat, j < 3 → s.1 21 j = -1) ∧ t.1 0 22 = 0 ∧ t.1 0 23 = 0 ∧ t.1 0 24 = 0 ∧ t.1 0 25 = 0 ∧ t.1 0 27 = 0 ∧ (∀ i : Nat, (i : Int) < (s.1 17 5).toInt → t.1 14 i = 0) ∧ (∀ k : Nat, k < 3 → t.1 16 k = 0) ∧ 1 ≤ (s.1 17 5).toInt ∧ ∀ j : Nat, 6 ≤ j → s.1 19 j = x.1 19 j) := by
  rw [f_X7_town_0_u] at e1
  rw [f_X8_town_0_u] at e2
  simp only [kf_lx, kf_bx, kp_has2, kp_miss2] at e1
  simp only [kf_lx, kf_bx, kp_askedText] at e2
  by_cases hk : 0 ≤ k.toInt ∧ k.toInt < 4
  · rw [if_pos hk, if_neg (by decide)] at e1
    have hk3 : 0 ≤ k.toInt ∧ k.toInt ≤ 3 := by omega
    simp only [if_pos hk3] at e2
    have c := kw_clampI hk.1
    rcases h.1 k.toNatClampNeg (by omega) with ⟨g1, g2⟩ | ⟨g1, g2⟩
    · rw [if_neg (show ¬ (0 ≤ k.toInt ∧ k.toInt < 4 ∧ 0 ≤ (x.1 15 k.toNatClampNeg).toInt) by omega), if_neg (by decide)] at e1
      simp only [if_pos g2] at e2
      rw [if_pos (by rw [kp_meet1]; decide)] at e2
      cases e1; cases e2
      have FX : kw_F [8, 28, 3, 16, 39, 40, 41, 42, 43] x (f_X4_refuse_8 x 1).2 := by
        show kw_F _ x (kw_ui (kw_ui x 8 1 1) 28 _ _)
        exact kw_F_ui (kw_F_ui kw_F.rf (by decide)) (by decide)
      have FM : kw_FM [1, 12, 13, 1000, 1017, 1018, 1019] m (f_X8_meet_0 m 1).2 := by
        show kw_FM _ m (kw_ui (kw_ui m 0 0 1) 1 _ _)
        exact kw_FM_ui (kw_FM_ui0 kw_FM.rf (by decide)) (by decide) (by decide)
      exact ⟨(kp_refuse1 _ _).trans (kp_meet1 _ _).symm, hL.fr FX FM (by decide) (by decide), Or.inl ⟨FX, FM⟩⟩
    · rw [if_pos (show 0 ≤ k.toInt ∧ k.toInt < 4 ∧ 0 ≤ (x.1 15 k.toNatClampNeg).toInt by omega), if_pos (by decide)] at e1
      have g3 : ¬ (m.1 5 k.toNatClampNeg).toInt < 0 := by rw [← g1]; omega
      simp only [if_neg g3] at e2
      rw [if_neg (by decide)] at e2
      obtain ⟨r0, S4, U4, f1, f2, hE, fx, fm⟩ := kt_fault h hk3 (fun j => hX 15 j) g2
      rw [f1] at e1
      rw [f2] at e2
      simp only at e1 e2
      have FX : kw_F [8, 28, 3, 16, 39, 40, 41, 42, 43] x S4 := kw_F.tr kw_F.rf fx (by decide)
      have FM : kw_FM [1, 12, 13, 1000, 1017, 1018, 1019] m U4 := kw_FM.tr kw_FM.rf fm (by decide)
      by_cases h9 : r0.toInt = (-9 : Int32).toInt
      · rw [if_pos h9] at e1 e2
        obtain ⟨hW, hN, hl1, hh1⟩ := hE (Int32.toInt_inj.mp h9)
        obtain ⟨w1, w2, w3, w4⟩ := hW
        obtain ⟨n1, n2, n3, n4⟩ := hN
        -- the class
        obtain ⟨c1, c2, c3, c4, c5⟩ := kt_copy S4
        generalize f_X1_copyFrom_17_16 S4 = S5 at *
        rw [kt_replay0] at e1
        obtain ⟨S7, d1, d2, d3⟩ := kt_town80 k ((4 - (0 : Int32).toInt).toNat + 1) 0 (kw_ui (kw_ui (kw_ui (kw_ui (kw_ui (kw_ua S5 19 (fun j => if j < 6 then 0 else S5.1 19 j)) 4 3 0) 4 4 0) 4 5 0) 4 6 0) 4 7 0) (by decide) (by decide) (fun k hk => by rw [kp_q0] at hk; omega) (by rw [kp_q0]; omega)
        rw [d1] at e1
        have F6 : kw_F [4, 19] S5 (kw_ui (kw_ui (kw_ui (kw_ui (kw_ui (kw_ua S5 19 (fun j => if j < 6 then 0 else S5.1 19 j)) 4 3 0) 4 4 0) 4 5 0) 4 6 0) 4 7 0) := kw_F_ui (kw_F_ui (kw_F_ui (kw_F_ui (kw_F_ui (kw_F_ua kw_F.rf (by decide)) (by decide)) (by decide)) (by decide)) (by decide)) (by decide)
        have F7 : kw_F [4, 19, 21] S5 S7 := (kw_F.tr kw_F.rf F6 (by decide)).tr d2 (by decide)
        have x17 : S7.1 17 = S5.1 17 := (F7 17 (by decide)).1
        -- the reference
        have b11 : (kw_ui (kw_ui U4 0 10 (U4.1 0 19)) 0 11 (U4.1 0 18)).1 0 11 = U4.1 0 18 := by simp [kp_ui]
        have b10 : (kw_ui (kw_ui U4 0 10 (U4.1 0 19)) 0 11 (U4.1 0 18)).1 0 10 = U4.1 0 19 := by simp [kp_ui]
        have b12 : (kw_ui (kw_ui U4 0 10 (U4.1 0 19)) 0 11 (U4.1 0 18)).1 12 = U4.1 12 := by funext j; simp [kp_ui]
        have b13 : (kw_ui (kw_ui U4 0 10 (U4.1 0 19)) 0 11 (U4.1 0 18)).1 13 = U4.1 13 := by funext j; simp [kp_ui]
        generalize kw_ui (kw_ui U4 0 10 (U4.1 0 19)) 0 11 (U4.1 0 18) = U5 at *
        obtain ⟨U6, m1, m2, m3⟩ := kt_tw43 k 0 U5 ((9 - (0 : Int32).toInt).toNat + 1) 0 U5 (by decide) (by rw [b11, ← w1, kp_q0]; exact w2) (by rw [b11, ← w1]; exact w3) kw_FM.rf (fun j hj => by rw [kp_q0] at hj; omega) (by rw [kp_q0]; omega)
        have a10 : U6.1 0 10 = U5.1 0 10 := m2.2.1 10 (by decide)
        have a11 : U6.1 0 11 = U5.1 0 11 := m2.2.1 11 (by decide)
        obtain ⟨U7, m4, m5, m6⟩ := kt_tw71 k 0 U6 ((7 - (0 : Int32).toInt).toNat + 1) 0 U6 (by decide) (by rw [a10, b10, ← n1, kp_q0]; exact n2) (by rw [a10, b10, ← n1]; exact n3) kw_FM.rf (fun j hj => by rw [kp_q0] at hj; omega) (by rw [kp_q0]; omega)
        obtain ⟨U8, m7, m8, m9⟩ := kt_tw183 k 0 ((4 - (0 : Int32).toInt).toNat + 1) 0 (kw_ui (kw_ui (kw_ui (kw_ui (kw_ui U7 0 22 0) 0 23 0) 0 24 0) 0 25 0) 0 27 0) (by decide) (by decide) (fun k hk => by rw [kp_q0] at hk; omega) (by rw [kp_q0]; omega)
        rw [m1, m4, m7] at e2
        have M7 : kw_FM [1022, 1023, 1024, 1025, 1027] U7 (kw_ui (kw_ui (kw_ui (kw_ui (kw_ui U7 0 22 0) 0 23 0) 0 24 0) 0 25 0) 0 27 0) := kw_FM_ui0 (kw_FM_ui0 (kw_FM_ui0 (kw_FM_ui0 (kw_FM_ui0 kw_FM.rf (by decide)) (by decide)) (by decide)) (by decide)) (by decide)
        have M8 : kw_FM [16, 1022, 1023, 1024, 1025, 1027] U7 U8 := (kw_FM.tr kw_FM.rf M7 (by decide)).tr m8 (by decide)
        have y10 : U8.1 0 10 = U4.1 0 19 := by rw [M8.2.1 10 (by decide), m5.2.1 10 (by decide), a10, b10]
        have y11 : U8.1 0 11 = U4.1 0 18 := by rw [M8.2.1 11 (by decide), m5.2.1 11 (by decide), a11, b11]
        have z : ∀ j : Nat, (kw_ui (kw_ui (kw_ui (kw_ui (kw_ui U7 0 22 0) 0 23 0) 0 24 0) 0 25 0) 0 27 0).1 0 j = if j = 22 ∨ j = 23 ∨ j = 24 ∨ j = 25 ∨ j = 27 then 0 else U7.1 0 j := by
          intro j
          simp only [kp_ui, true_and]
          by_cases j27 : j = 27
          · simp [j27]
          by_cases j25 : j = 25
          · simp [j25]
          by_cases j24 : j = 24
          · simp [j24]
          by_cases j23 : j = 23
          · simp [j23]
          by_cases j22 : j = 22
          · simp [j22]
          simp [j22, j23, j24, j25, j27]
        have e10 : (kw_ui (kw_ui (kw_ui (kw_ui (kw_ui U7 0 22 0) 0 23 0) 0 24 0) 0 25 0) 0 27 0).1 0 10 = U4.1 0 19 := by rw [z 10, if_neg (by decide), m5.2.1 10 (by decide), a10, b10]
        have t0 : ∀ j : Nat, U8.1 0 j = (kw_ui (kw_ui (kw_ui (kw_ui (kw_ui U7 0 22 0) 0 23 0) 0 24 0) 0 25 0) 0 27 0).1 0 j := fun j => m8.2.1 j (by simp; omega)
        have l17 : (kw_ui (kw_ui (kw_ui (kw_ui (kw_ui (kw_ua S5 19 (fun j => if j < 6 then 0 else S5.1 19 j)) 4 3 0) 4 4 0) 4 5 0) 4 6 0) 4 7 0).1 17 5 = S4.1 16 5 := by rw [(F6 17 (by decide)).1]; exact c1
        have s4 : ∀ j : Nat, S7.1 4 j = (kw_ui (kw_ui (kw_ui (kw_ui (kw_ui (kw_ua S5 19 (fun j => if j < 6 then 0 else S5.1 19 j)) 4 3 0) 4 4 0) 4 5 0) 4 6 0) 4 7 0).1 4 j := fun j => by rw [(d2 4 (by decide)).1]
        have s19 : ∀ j : Nat, S7.1 19 j = (kw_ui (kw_ui (kw_ui (kw_ui (kw_ui (kw_ua S5 19 (fun j => if j < 6 then 0 else S5.1 19 j)) 4 3 0) 4 4 0) 4 5 0) 4 6 0) 4 7 0).1 19 j := fun j => by rw [(d2 19 (by decide)).1]
        rw [l17] at e1
        rw [e10] at e2
        cases e1; cases e2
        refine ⟨n1, ⟨?_, ?_, Or.inr ⟨?_, ?_, ?_, ?_, ?_⟩, ?_⟩, Or.inr ⟨?_, ?_, ?_, ?_, ?_, ?_, d3, ?_, ?_, ?_, ?_, ?_, ?_, m9, ?_, ?_⟩⟩
        · rw [x17, c1, y10]; exact n1
        · rw [x17, c1]; exact ⟨n2, n3⟩
        · rw [x17, c1]; exact hl1
        · rw [x17, c2, y11]; exact w1
        · rw [x17, c2]; exact hh1
        · rw [x17, c2]; exact w3
        · intro j hj
          rw [x17, c2] at hj
          rw [(F7 48 (by decide)).1, c4 j (by omega), M8.1 7 (by decide) (by decide), m5.1 7 (by decide) (by decide), m3 j (by rw [b11, ← w1]; exact hj), b12]
          exact w4 j hj
        · intro i hi
          rw [x17, c1] at hi
          obtain ⟨o1, o2, o3, o4⟩ := c3 i (by omega)
          obtain ⟨v1, v2, v3, v4, v5, v6, v7, v8⟩ := n4 i hi
          obtain ⟨y1, y2, y3, y4, y5⟩ := m6 i (by rw [a10, b10, ← n1]; exact hi)
          have u13 : U6.1 13 = U4.1 13 := by rw [m2.1 13 (by decide) (by decide), b13]
          rw [u13] at y1 y2 y3 y4
          rw [(F7 44 (by decide)).1, (F7 45 (by decide)).1, (F7 46 (by decide)).1, (F7 47 (by decide)).1, o1, o2, o3, o4, M8.1 8 (by decide) (by decide), M8.1 9 (by decide) (by decide), M8.1 10 (by decide) (by decide), M8.1 11 (by decide) (by decide), y1, y2, y3, y4]
          exact ⟨v1, v2, v3, v4, v5, v6, v7, v8⟩
        · rw [s4]; simp [kp_ui]
        · rw [s4]; simp [kp_ui]
        · rw [s4]; simp [kp_ui]
        · rw [s4]; simp [kp_ui]
        · rw [s4]; simp [kp_ui]
        · intro j hj
          rw [s19]; simp [kp_ui, kp_ua, hj]
        · rw [t0, z]; simp
        · rw [t0, z]; simp
        · rw [t0, z]; simp
        · rw [t0, z]; simp
        · rw [t0, z]; simp
        · intro i hi
          rw [x17, c1] at hi
          rw [M8.1 14 (by decide) (by decide)]
          exact (m6 i (by rw [a10, b10, ← n1]; exact hi)).2.2.2.2
        · rw [x17, c1]; exact hl1
        · intro j hj
          have e19 : (kw_ui (kw_ui (kw_ui (kw_ui (kw_ui (kw_ua S5 19 (fun j => if j < 6 then 0 else S5.1 19 j)) 4 3 0) 4 4 0) 4 5 0) 4 6 0) 4 7 0).1 19 j = S5.1 19 j := by simp [kp_ui, kp_ua, show ¬ j < 6 by omega]
          rw [s19, e19, (c5 19 (by decide)).1, (FX 19 (by decide)).1]
      · rw [if_neg h9] at e1 e2
        cases e1; cases e2
        exact ⟨rfl, hL.fr FX FM (by decide) (by decide), Or.inl ⟨FX, FM⟩⟩
  · rw [if_neg hk, if_pos (by decide)] at e1
    have hk3 : ¬ (0 ≤ k.toInt ∧ k.toInt ≤ 3) := by omega
    simp only [if_neg hk3] at e2
    rw [if_pos (by decide)] at e2
    cases e1; cases e2
    exact ⟨rfl, hL, Or.inl ⟨kw_F.rf, kw_FM.rf⟩⟩
end
section
/-! ===== answers that hang on the lines and winds alone ===== -/
theorem kt_windAt {x m : kw_S} (h : kr_L x m) (k : Int32) (h0 : 0 ≤ k.toInt) : f_X1_windAt_17 x k = f_X8_windAt_0 m k := by
  rw [f_X1_windAt_17_u, f_X8_windAt_0_u]
  simp only [kf_lx]
  rcases h.2.2.1 with ⟨l0, h6, w1, w2⟩ | ⟨l1, h6, g1, g2, hw⟩
  · have e := kw_remI k (m.1 0 11) _ rfl h0 (by rw [w1]; decide)
    rw [w1] at e ⊢
    have c := kw_clampI e.1
    rw [h6, if_pos (by decide), show (k - k / 1 * 1).toNatClampNeg = 0 by rw [kp_q1] at e; omega, w2]
  · have e := kw_remI k (x.1 17 6) _ rfl h0 (by omega)
    have c := kw_clampI e.1
    rw [if_neg (show ¬ (x.1 17 6).toInt < (1 : Int32).toInt by rw [kp_q1]; omega), if_neg (show ¬ k.toInt < 0 by omega), ← h6]
    exact (hw _ (by omega)).1
theorem kr_wind {x m : kw_S} {r q : Int32} (h : kr_L x m) (k : Int32) (e1 : r = f_X7_wind_0 x k) (e2 : q = f_X8_wind_0 m k) : r = q := by
  rw [e1, e2, f_X7_wind_0_u, f_X8_wind_0_u, f_X5_isEmpty_4_u]
  simp only [kf_lx, kp_in]
  have q9 : (999 : Int32).toInt = 999 := rfl
  obtain ⟨l1, l2, -, -⟩ := id h
  by_cases hk : (0 : Int32).toInt ≤ k.toInt ∧ k.toInt ≤ (999 : Int32).toInt
  · have hk' : 0 ≤ k.toInt ∧ k.toInt ≤ 999 := hk
    rw [if_pos hk, if_neg (by omega), if_neg (by omega), if_neg (show ¬ (1 : Int32).toInt = 0 by decide)]
    by_cases hl : (x.1 17 5).toInt < (1 : Int32).toInt
    · have hl' : (x.1 17 5).toInt < 1 := hl
      rw [if_pos hl, if_neg (by decide), if_pos (by rw [← l1]; omega)]
    · have hl' : ¬ (x.1 17 5).toInt < 1 := hl
      rw [if_neg hl, if_pos (by decide), if_neg (by rw [← l1]; omega)]
      exact kt_windAt h k hk'.1
  · have hk' : ¬ (0 ≤ k.toInt ∧ k.toInt ≤ 999) := hk
    rw [if_neg hk, if_pos (show (0 : Int32).toInt = 0 from rfl)]
    by_cases h2 : k.toInt < 0
    · rw [if_pos h2]
    · rw [if_neg h2, if_pos (by omega)]
theorem kt_set {x m : kw_S} (h : kr_L x m) (k : Int32) : f_X1_hasSet_17 x k = f_X8_isSet_0 m k := by
  rw [f_X1_hasSet_17_u, f_X8_isSet_0_u, f_X1_allLines_17_u]
  simp only [kf_lx, kp_in]
  rw [← h.1]
  generalize ((1 : Int32) <<< (x.1 17 5 &&& 31)) - 1 = z
  by_cases h0 : k.toInt < 0
  · rw [if_pos h0, if_neg (by rw [kp_q0]; omega)]
  · rw [if_neg h0]
    by_cases h1 : z.toInt < k.toInt
    · rw [if_pos h1, if_neg (by omega)]
    · rw [if_neg h1, if_pos (by rw [kp_q0]; omega)]
theorem kr_goes {x m s t : kw_S} {r q : Int32} (h : kr_L x m) (k : Int32) (e1 : (r, s) = f_X7_goes_0 x k) (e2 : (q, t) = f_X8_goes_0 m k) : r = q := by
  rw [f_X7_goes_0_u] at e1
  rw [f_X8_goes_0_u] at e2
  simp only [kf_lx, kf_bx] at e1 e2
  rw [kt_set h] at e1
  by_cases h0 : (f_X8_isSet_0 m k).toInt = 0
  · rw [if_pos h0] at e1 e2
    cases e1; cases e2
    rfl
  · rw [if_neg h0] at e1 e2
    cases e1; cases e2
    rfl
theorem kt_isLine {x m : kw_S} (h : kr_L x m) (k : Int32) : f_X1_hasLine_17 x k = f_X8_isLine_0 m k := by
  rw [f_X1_hasLine_17_u, f_X8_isLine_0_u]
  simp only [kf_lx, kp_in]
  rw [← h.1]
  have l2 := h.2.1
  have e : (x.1 17 5 - 1).toInt = (x.1 17 5).toInt - 1 := by rw [kw_subI, kp_q1]; omega
  by_cases h0 : k.toInt < 0
  · rw [if_pos h0, if_neg (by rw [kp_q0]; omega)]
  · rw [if_neg h0]
    by_cases h1 : k.toInt < (x.1 17 5).toInt
    · rw [if_pos h1, if_pos (by rw [kp_q0]; omega)]
    · rw [if_neg h1, if_neg (by omega)]
theorem kr_line {x m s t : kw_S} {r q : Int32} (h : kr_L x m) (k w : Int32) (e1 : (r, s) = f_X7_line_0 x k w) (e2 : (q, t) = f_X8_line_0 m k w) : r = q := by
  rw [f_X7_line_0_u] at e1
  rw [f_X8_line_0_u] at e2
  simp only [kf_lx, kf_bx, kp_in] at e1 e2
  rw [kt_isLine h] at e1
  have q6 : (6 : Int32).toInt = 6 := rfl
  by_cases h0 : (f_X8_isLine_0 m k).toInt = 0
  · rw [if_pos h0] at e1 e2
    cases e1; cases e2
    rfl
  · rw [if_neg h0] at e1 e2
    by_cases h1 : (0 : Int32).toInt ≤ w.toInt ∧ w.toInt ≤ (6 : Int32).toInt
    · have h1' : 0 ≤ w.toInt ∧ w.toInt ≤ 6 := h1
      simp only [if_pos h1] at e2
      rw [if_neg (by decide)] at e2
      rw [if_neg (by omega), if_neg (by omega)] at e1
      cases e1; cases e2
      rfl
    · have h1' : ¬ (0 ≤ w.toInt ∧ w.toInt ≤ 6) := h1
      simp only [if_neg h1] at e2
      rw [if_pos (by decide)] at e2
      by_cases h2 : w.toInt < 0
      · rw [if_pos h2] at e1
        cases e1; cases e2
        rfl
      · rw [if_neg h2, if_pos (by omega)] at e1
        cases e1; cases e2
        rfl
end
section
abbrev kr_R (x m : kw_S) : Prop := kr_T x m ∧ kr_L x m
theorem kr_R.fr {L L' : List Nat} {x x' m m' : kw_S} (h : kr_R x m) (F1 : kw_F L x x') (F2 : kw_FM L' m m') (h1 : ∀ a ∈ L, ¬ (a = 15 ∨ 35 ≤ a ∧ a < 39) ∧ ¬ (a = 17 ∨ 44 ≤ a ∧ a ≤ 48)) (h2 : ∀ a ∈ L', ¬ (a = 5 ∨ a = 6) ∧ ¬ (7 ≤ a ∧ a ≤ 11) ∧ a ≠ 1010 ∧ a ≠ 1011) : kr_R x' m' :=
  ⟨h.1.fr F1 F2 (fun a q => (h1 a q).1) (fun a q => (h2 a q).1), h.2.fr F1 F2 (fun a q => (h1 a q).2) (fun a q => (h2 a q).2)⟩
end
