/-! ===== a town's deeds, notes and kept towns: class and reference ===== -/
theorem kd_dryB (w v : Int32) (hv : 0 ≤ v.toInt ∧ v.toInt ≤ 9) : 0 ≤ (kd_dry w v).toInt ∧ (kd_dry w v).toInt ≤ 9 := by
  have q9 : (9 : Int32).toInt = 9 := rfl
  have e1 : (v + 2).toInt = v.toInt + 2 := by rw [kw_addI, show (2 : Int32).toInt = 2 from rfl]; omega
  have e2 : (v - 1).toInt = v.toInt - 1 := by rw [kw_subI, kp_q1]; omega
  unfold kd_dry
  by_cases h : 0 < w.toInt
  · rw [if_pos h]
    by_cases g : (0 : Int32) < v - 1
    · have := kw_ltI g
      rw [kp_q0] at this
      rw [if_pos g]; omega
    · rw [if_neg g]; decide
  · rw [if_neg h]
    by_cases g : v + 2 < (9 : Int32)
    · have := kw_ltI g
      rw [if_pos g]; omega
    · rw [if_neg g]; decide
def kd_ok (x : kw_S) (D : Nat → Int32) (n : Nat) : Prop := ∀ d : Nat, d < n → 0 ≤ (D d).toInt ∧ ((D d).toInt < (x.1 17 5).toInt ∨ (D d).toInt = 6)
theorem kd_run_ok {x : kw_S} (hl : (x.1 17 5).toInt ≤ 6) (D : Nat → Int32) : ∀ n : Nat, n ≤ 40 → kd_ok x D n → (0 ≤ (kd_run x D n).1.toInt ∧ (kd_run x D n).1.toInt ≤ n) ∧ (0 ≤ (kd_run x D n).2.2.2.1.toInt ∧ (kd_run x D n).2.2.2.1.toInt ≤ 63) ∧ ∀ i : Nat, (0 ≤ ((kd_run x D n).2.2.2.2 i).toInt ∧ ((kd_run x D n).2.2.2.2 i).toInt ≤ 9) ∧ (6 ≤ i → (kd_run x D n).2.2.2.2 i = 0)
  | 0, _, _ => ⟨⟨by show 0 ≤ (0 : Int32).toInt; decide, by show (0 : Int32).toInt ≤ _; exact Int.le_refl 0⟩, ⟨by show 0 ≤ (0 : Int32).toInt; decide, by show (0 : Int32).toInt ≤ 63; decide⟩, fun i => ⟨⟨by show 0 ≤ (0 : Int32).toInt; decide, by show (0 : Int32).toInt ≤ 9; decide⟩, fun _ => rfl⟩⟩
  | n + 1, hn, ho => by
    obtain ⟨h1, h2, h3⟩ := kd_run_ok hl D n (by omega) (fun d hd => ho d (by omega))
    have he := ho n (by omega)
    rw [show kd_run x D (n + 1) = kd_step x (kd_run x D n) (D n) from rfl]
    generalize kd_run x D n = s at *
    unfold kd_step
    by_cases e6 : (D n).toInt = 6
    · rw [if_pos e6]
      have z := kp_add1 s.1 (by omega)
      refine ⟨⟨by show 0 ≤ (s.1 + 1).toInt; omega, by show (s.1 + 1).toInt ≤ _; omega⟩, h2, fun i => ?_⟩
      show (0 ≤ (kd_wets s.2.2.2.1 _ s.2.2.2.2 i).toInt ∧ (kd_wets s.2.2.2.1 _ s.2.2.2.2 i).toInt ≤ 9) ∧ (6 ≤ i → kd_wets s.2.2.2.1 _ s.2.2.2.2 i = 0)
      unfold kd_wets
      by_cases hi : i < 6 ∧ ¬ ((s.2.2.2.1 >>> (Int32.ofNat i &&& 31)) &&& 1).toInt = 0
      · rw [if_pos hi]
        exact ⟨kd_dryB _ _ (h3 i).1, fun h => by omega⟩
      · rw [if_neg hi]
        exact h3 i
    · rw [if_neg e6]
      have hs := kw_shlm (D n) _ rfl
      have s1 := hs.1 he.1 (by omega)
      have s2 := hs.2 he.1 (by omega)
      exact ⟨⟨h1.1, by show s.1.toInt ≤ _; omega⟩, kw_xor63 _ _ _ rfl h2.1 h2.2 (by omega) (by omega), h3⟩
def kd_kept (x m : kw_S) (k : Nat) : Prop := (x.1 21 k).toInt < 0 ∧ m.1 16 k = 0 ∨ m.1 16 k = 1 ∧ (0 ≤ (x.1 21 k).toInt ∧ (x.1 21 k).toInt ≤ 40) ∧ m.1 17 (411 * k + 410) = x.1 21 k ∧ kd_ok x (x.1 (49 + k)) (x.1 21 k).toNatClampNeg ∧ kd_at m 17 (411 * k + 400) (kd_run x (x.1 (49 + k)) (x.1 21 k).toNatClampNeg) (x.1 17 5).toInt ∧ ∀ d : Nat, d < (x.1 21 k).toNatClampNeg → kd_at m 17 (411 * k + 10 * d) (kd_run x (x.1 (49 + k)) d) (x.1 17 5).toInt
theorem kd_kept.to {x x' m m' : kw_S} {k : Nat} (h : kd_kept x m k) (hl : (x.1 17 5).toInt ≤ 6) (h1 : kd_lay x x') (h2 : x'.1 21 k = x.1 21 k) (h3 : x'.1 (49 + k) = x.1 (49 + k)) (h4 : m'.1 16 k = m.1 16 k) (h5 : ∀ j : Nat, j < 411 → m'.1 17 (411 * k + j) = m.1 17 (411 * k + j)) : kd_kept x' m' k := by
  have e17 : x'.1 17 5 = x.1 17 5 := by rw [h1 17 (Or.inl rfl)]
  rcases h with ⟨a, b⟩ | ⟨a1, a2, a3, a4, a5, a6⟩
  · exact Or.inl ⟨by rw [h2]; exact a, by rw [h4]; exact b⟩
  · have cn := kw_clampI a2.1
    refine Or.inr ⟨by rw [h4]; exact a1, by rw [h2]; exact a2, by rw [h2, h5 410 (by decide)]; exact a3, ?_, ?_, ?_⟩
    · rw [h2, h3]
      intro d hd
      rw [e17]
      exact a4 d hd
    · rw [h2, h3, e17, kd_run_cong h1 _ (fun _ _ => rfl)]
      exact a5.to hl 17 (fun j hj => by rw [Nat.add_assoc]; exact h5 (400 + j) (by omega))
    · intro d hd
      rw [h2] at hd
      rw [h3, e17, kd_run_cong h1 _ (fun _ _ => rfl)]
      exact (a6 d hd).to hl 17 (fun j hj => by rw [Nat.add_assoc]; exact h5 (10 * d + j) (by omega))
def kr_D (x m : kw_S) : Prop := x.1 4 3 = m.1 0 27 ∧ (0 ≤ (x.1 4 3).toInt ∧ (x.1 4 3).toInt ≤ 40) ∧ kd_get x = kd_run x (x.1 18) (x.1 4 3).toNatClampNeg ∧ kd_ok x (x.1 18) (x.1 4 3).toNatClampNeg ∧ kd_cur m (kd_get x) (x.1 17 5).toInt ∧ (∀ d : Nat, d < (x.1 4 3).toNatClampNeg → kd_at m 15 (10 * d) (kd_run x (x.1 18) d) (x.1 17 5).toInt) ∧ ∀ k : Nat, k < 3 → kd_kept x m k
theorem kr_D.cong {x x' m m' : kw_S} (h : kr_D x m) (hl : (x.1 17 5).toInt ≤ 6) (h1 : kd_lay x x') (hx : ∀ a : Nat, a = 4 ∨ a = 18 ∨ a = 19 ∨ a = 21 ∨ 49 ≤ a ∧ a ≤ 51 → x'.1 a = x.1 a) (hm : ∀ a : Nat, 14 ≤ a ∧ a ≤ 17 → m'.1 a = m.1 a) (hj : ∀ j : Nat, j = 22 ∨ j = 23 ∨ j = 24 ∨ j = 25 ∨ j = 27 → m'.1 0 j = m.1 0 j) : kr_D x' m' := by
  obtain ⟨a1, a2, a3, a4, a5, a6, a7⟩ := h
  have e17 : x'.1 17 5 = x.1 17 5 := by rw [h1 17 (Or.inl rfl)]
  have e4 := hx 4 (by omega)
  have e18 := hx 18 (by omega)
  have eg : kd_get x' = kd_get x := by unfold kd_get; rw [e4, hx 19 (by omega)]
  refine ⟨by rw [e4, hj 27 (by omega)]; exact a1, by rw [e4]; exact a2, ?_, ?_, ?_, ?_, fun k hk => (a7 k hk).to hl h1 (by rw [hx 21 (by omega)]) (hx (49 + k) (by omega)) (by rw [hm 16 (by omega)]) (fun j _ => by rw [hm 17 (by omega)])⟩
  · rw [eg, e4, e18, kd_run_cong h1 _ (fun _ _ => rfl)]; exact a3
  · rw [e4, e18]
    intro d hd
    rw [e17]
    exact a4 d hd
  · rw [eg, e17]
    exact a5.to (hj 22 (by omega)) (hj 23 (by omega)) (hj 24 (by omega)) (hj 25 (by omega)) (hm 14 (by omega))
  · intro d hd
    rw [e4] at hd
    rw [e17, e18, kd_run_cong h1 _ (fun _ _ => rfl)]
    exact (a6 d hd).to hl 15 (fun j _ => by rw [hm 15 (by omega)])
theorem kr_D.fr {L L' : List Nat} {x x' m m' : kw_S} (h : kr_D x m) (hL : kr_L x m) (F1 : kw_F L x x') (F2 : kw_FM L' m m') (h1 : ∀ a ∈ L, ¬ (a = 4 ∨ a = 18 ∨ a = 19 ∨ a = 21 ∨ 49 ≤ a ∧ a ≤ 51 ∨ a = 17 ∨ 44 ≤ a ∧ a ≤ 48)) (h2 : ∀ a ∈ L', ¬ (14 ≤ a ∧ a ≤ 17 ∨ a = 1022 ∨ a = 1023 ∨ a = 1024 ∨ a = 1025 ∨ a = 1027)) : kr_D x' m' :=
  h.cong hL.2.1.2 (kd_lay.of F1 (fun a q z => h1 a q (by omega))) (fun a ha => (F1 a (fun q => h1 a q (by omega))).1) (fun a ha => F2.1 a (by omega) (fun q => h2 a q (by omega))) (fun j hj => F2.2.1 j (fun q => h2 _ q (by omega)))
theorem kr_D.mix {σ s t : kw_S} (hL : kr_L s t) (h : kr_D s t) : kr_D (kw_mixM (kw_mixX σ s) t) t :=
  h.cong hL.2.1.2 (fun a ha => by simp [kw_mixM, kw_mixX, show a < 61 by omega]) (fun a ha => by simp [kw_mixM, kw_mixX, show a < 61 by omega]) (fun _ _ => rfl) (fun _ _ => rfl)
/-- what a deed does to the reference -/
def kd_M (x m m' : kw_S) (e : Int32) : Prop := kw_FM [14, 15, 1022, 1023, 1024, 1025, 1027] m m' ∧ m'.1 0 27 = m.1 0 27 + 1 ∧ kd_cur m' (kd_step x (kd_get x) e) (x.1 17 5).toInt ∧ kd_at m' 15 (10 * (m.1 0 27).toNatClampNeg) (kd_get x) (x.1 17 5).toInt ∧ ∀ j : Nat, j < 10 * (m.1 0 27).toNatClampNeg → m'.1 15 j = m.1 15 j
theorem kd_mturn {x m : kw_S} (hL : kr_L x m) (hD : kr_D x m) (h39 : (x.1 4 3).toInt ≤ 39) (i : Int32) (h0 : 0 ≤ i.toInt) (h1 : i.toInt < (x.1 17 5).toInt) : kd_M x m (f_X8_turnLine_0 m i) i := by
  have l2 := hL.2.1
  have e27 := hD.1
  obtain ⟨a1, a2, a3, a4⟩ := kd_note m (kd_get x) (x.1 17 5).toInt l2.2 (by rw [← e27]; exact hD.2.1.1) (by rw [← e27]; exact h39) hD.2.2.2.2.1
  rw [f_X8_turnLine_0_u]
  simp only [kf_lx]
  generalize f_X8_note_0 m = S at *
  have hc := hD.2.2.2.2.1
  have e25 : S.1 0 25 = (kd_get x).2.2.2.1 := by rw [a1.2.1 25 (by decide)]; exact hc.2.2.2.1
  refine ⟨kw_FM_ui0 (kw_FM.tr kw_FM.rf a1 (by decide)) (by decide), by rw [← a2]; simp [kp_ui], ?_, a3.to l2.2 15 (fun j _ => by simp [kp_ui]), fun j hj => by rw [← a4 j hj]; simp [kp_ui]⟩
  unfold kd_step
  rw [if_neg (show ¬ i.toInt = 6 by omega)]
  refine ⟨?_, ?_, ?_, ?_, fun j hj => ?_⟩
  · rw [kp_ui, if_neg (by decide), a1.2.1 22 (by decide)]; exact hc.1
  · rw [kp_ui, if_neg (by decide), a1.2.1 23 (by decide)]; exact hc.2.1
  · rw [kp_ui, if_neg (by decide), a1.2.1 24 (by decide)]; exact hc.2.2.1
  · rw [kp_ui, if_pos ⟨rfl, rfl⟩, e25]
  · rw [kp_ui, if_neg (by omega), a1.1 14 (by decide) (by decide)]; exact hc.2.2.2.2 j hj
theorem kd_mhour {x m : kw_S} (hL : kr_L x m) (hD : kr_D x m) (h39 : (x.1 4 3).toInt ≤ 39) : kd_M x m (f_X8_pass_0 (f_X8_note_0 m) ((f_X8_note_0 m).1 0 25)) 6 := by
  have l2 := hL.2.1
  have e27 := hD.1
  have cn := kw_clampI hD.2.1.1
  obtain ⟨a1, a2, a3, a4⟩ := kd_note m (kd_get x) (x.1 17 5).toInt l2.2 (by rw [← e27]; exact hD.2.1.1) (by rw [← e27]; exact h39) hD.2.2.2.2.1
  generalize f_X8_note_0 m = S at *
  have hc := hD.2.2.2.2.1
  have hLS : kr_L x S := hL.cong (fun _ _ => rfl) (fun a ha => a1.1 a (by omega) (by simp; omega)) (a1.2.1 10 (by decide)) (a1.2.1 11 (by decide))
  have hcS : kd_cur S (kd_get x) (x.1 17 5).toInt := hc.to (a1.2.1 22 (by decide)) (a1.2.1 23 (by decide)) (a1.2.1 24 (by decide)) (a1.2.1 25 (by decide)) (a1.1 14 (by decide) (by decide))
  obtain ⟨r1, r2, r3⟩ := kd_run_ok l2.2 (x.1 18) (x.1 4 3).toNatClampNeg (by omega) hD.2.2.2.1
  rw [← hD.2.2.1] at r1 r2 r3
  obtain ⟨b1, b2⟩ := kd_mpass hLS (kd_get x) hcS r1.1 (fun i _ => (r3 i).1)
  generalize f_X8_pass_0 S (S.1 0 25) = U at *
  have e15 : U.1 15 = S.1 15 := b1.1 15 (by decide) (by decide)
  refine ⟨(kw_FM.tr kw_FM.rf a1 (by decide)).tr b1 (by decide), by rw [b1.2.1 27 (by decide)]; exact a2, b2, a3.to l2.2 15 (fun j _ => by rw [e15]), fun j hj => by rw [e15]; exact a4 j hj⟩
/-- a deed done by both -/
theorem kd_deed {x m m' : kw_S} (hL : kr_L x m) (hD : kr_D x m) (h39 : (x.1 4 3).toInt ≤ 39) (e : Int32) (he : 0 ≤ e.toInt ∧ (e.toInt < (x.1 17 5).toInt ∨ e.toInt = 6)) (hM : kd_M x m m' e) : kr_L (f_X5_act_4 x e) m' ∧ kr_D (f_X5_act_4 x e) m' ∧ (f_X5_act_4 x e).1 4 3 = x.1 4 3 + 1 ∧ kw_F [4, 18, 19] x (f_X5_act_4 x e) ∧ kd_get (f_X5_act_4 x e) = kd_step x (kd_get x) e := by
  have l2 := hL.2.1
  have cn := kw_clampI hD.2.1.1
  obtain ⟨a1, a2, a3, a4⟩ := kd_act x e hD.2.1.1 h39
  obtain ⟨d1, d2, d3, d4, d5, d6, d7⟩ := id hD
  obtain ⟨m1, m2, m3, m4, m5⟩ := hM
  generalize f_X5_act_4 x e = y at *
  have z := kp_add1 (x.1 4 3) (by omega)
  have cn1 := kw_clampI (x := x.1 4 3 + 1) (by omega)
  have lay : kd_lay x y := kd_lay.of a4 (by decide)
  have e17 : y.1 17 5 = x.1 17 5 := by rw [lay 17 (Or.inl rfl)]
  have en : (x.1 4 3 + 1).toNatClampNeg = (x.1 4 3).toNatClampNeg + 1 := by omega
  have u1 : ∀ d : Nat, d < (x.1 4 3).toNatClampNeg → y.1 18 d = x.1 18 d := fun d hd => by rw [a2]; simp [upd, show ¬ d = (x.1 4 3).toNatClampNeg by omega]
  have u2 : y.1 18 (x.1 4 3).toNatClampNeg = e := by rw [a2]; simp [upd]
  have run : ∀ d : Nat, d ≤ (x.1 4 3).toNatClampNeg → kd_run y (y.1 18) d = kd_run x (x.1 18) d := fun d hd => kd_run_cong lay d (fun q hq => u1 q (by omega))
  refine ⟨hL.fr a4 m1 (by decide) (by decide), ⟨by rw [a1, m2, d1], by rw [a1]; omega, ?_, ?_, ?_, ?_, fun k hk => (d7 k hk).to l2.2 lay (by rw [(a4 21 (by decide)).1]) ((a4 (49 + k) (by simp; omega)).1) (by rw [m1.1 16 (by decide) (by decide)]) (fun j _ => by rw [m1.1 17 (by decide) (by decide)])⟩, a1, a4, a3⟩
  · rw [a1, en]
    show kd_get y = kd_step y (kd_run y (y.1 18) _) (y.1 18 _)
    rw [run _ (Nat.le_refl _), u2, kd_step_lay lay, ← d3]
    exact a3
  · rw [a1, en]
    intro d hd
    rw [e17]
    by_cases hq : d = (x.1 4 3).toNatClampNeg
    · rw [hq, u2]; exact he
    · rw [u1 d (by omega)]; exact d4 d (by omega)
  · rw [a3, e17]; exact m3
  · intro d hd
    rw [a1, en] at hd
    rw [e17, run d (by omega)]
    by_cases hq : d = (x.1 4 3).toNatClampNeg
    · rw [hq, ← d3, d1]; exact m4
    · exact (d6 d (by omega)).to l2.2 15 (fun j hj => m5 _ (by rw [← d1]; omega))
