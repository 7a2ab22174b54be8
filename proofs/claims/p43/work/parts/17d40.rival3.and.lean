section
theorem kq_rvtrue {m : kw_S} (l : Nat) (hl : l ≤ 6) (e10 : (m.1 0 10).toInt = l) (W : Nat → Int32) (k66 : Int32 → kw_S → Int32 × kw_S) (a1 a2 a3 : Int32) (U : kw_S) (FU : kw_FM [21, 22] m U) (hU : ∀ s : Nat, s < 2 ^ l → U.1 21 s = W s) : ∃ S' : kw_S, l_X8_rival_0_86a k66 a1 a2 a3 ((65 - (0 : Int32).toInt).toNat + 1) 0 U = k66 (a3 + Int32.ofInt (-1)) S' ∧ kw_FM [21, 22] m S' ∧ ∀ s : Nat, s < 2 ^ l → S'.1 21 s = kq_st true W s l := by
  have pw := kc_pow l hl
  have h10 : ¬ (1 : Int32).toInt = 0 := by decide
  have h00 : (0 : Int32).toInt = 0 := rfl
  have cm := kw_clampI (x := m.1 0 10) (by omega)
  have p1 : ((1 : Int32) <<< (m.1 0 10 &&& 31)).toInt = (2 ^ l : Nat) := by
    have p := kc_pow1 (m.1 0 10) (by omega) (by omega)
    rw [show (m.1 0 10).toNatClampNeg = l by omega] at p
    exact p
  -- the copy
  have C : ∀ (n : Nat) (y : Int32) (S : kw_S), 0 ≤ y.toInt → y.toInt ≤ (2 ^ l : Nat) → ((2 ^ l : Nat) - y.toInt).toNat < n → kw_FM [21, 22] m S → (∀ s : Nat, s < 2 ^ l → S.1 22 s = kq_st true W s l) → (∀ s : Nat, (s : Int) < y.toInt → S.1 21 s = kq_st true W s l) → ∃ S' : kw_S, l_X8_rival_0_199a k66 a1 a2 a3 n y S = k66 (a3 + Int32.ofInt (-1)) S' ∧ kw_FM [21, 22] m S' ∧ ∀ s : Nat, s < 2 ^ l → S'.1 21 s = kq_st true W s l := by
    intro n
    induction n with
    | zero => intro y S _ _ h; exact absurd h (Nat.not_lt_zero _)
    | succ n ih =>
      intro y S y0 y1 hn F h22 h21
      have cy := kw_clampI y0
      rw [l_X8_rival_0_199a_s, F.2.1 10 (by decide)]
      simp only [kf_lx]
      by_cases hy : y.toInt < (2 ^ l : Nat)
      · have z := kp_inc y (by omega)
        rw [if_pos (show y.toInt < ((1 : Int32) <<< (m.1 0 10 &&& 31)).toInt by rw [p1]; exact hy)]
        refine ih _ _ (by omega) (by omega) (by omega) (kw_FM_ui F (by decide) (by decide)) (fun s hs => ?_) (fun s hs => ?_)
        · rw [kq_off _ 21 _ _ 22 (by decide)]; exact h22 s hs
        · rw [kq_at]
          by_cases e : s = y.toNatClampNeg
          · rw [if_pos e, e, h22 _ (by omega)]
          · rw [if_neg e]; exact h21 s (by omega)
      · rw [if_neg (show ¬ y.toInt < ((1 : Int32) <<< (m.1 0 10 &&& 31)).toInt by rw [p1]; exact hy)]
        exact ⟨S, rfl, F, fun s hs => h21 s (by omega)⟩
  -- one set
  have I : ∀ (k86 : Int32 → kw_S → Int32 × kw_S) (u : Int32) (S : kw_S), 0 ≤ u.toInt → u.toInt < (2 ^ l : Nat) → kw_FM [21, 22] m S → (∀ s : Nat, s < 2 ^ l → S.1 21 s = W s) → ∀ (n : Nat) (v i : Int32), 0 ≤ i.toInt → i.toInt ≤ l → ((l : Int) - i.toInt).toNat < n → v = kq_st true W u.toNatClampNeg i.toNatClampNeg → l_X8_rival_0_109a k66 k86 a1 a2 a3 u S n v i = k86 (u + Int32.ofInt 1) (kw_ui S 22 u.toNatClampNeg (kq_st true W u.toNatClampNeg l)) := by
    intro k86 u S u0 u1 F h21 n
    have cu := kw_clampI u0
    induction n with
    | zero => intro v i _ _ h; exact absurd h (Nat.not_lt_zero _)
    | succ n ih =>
      intro v i i0 i1 hn hv
      have ci := kw_clampI i0
      rw [l_X8_rival_0_109a_s, F.2.1 10 (by decide), kp_has8]
      simp only [kf_lx, if_neg h10]
      by_cases hi : i.toInt < l
      · have z := kp_inc i (by omega)
        have c1 := kw_clampI (x := i + Int32.ofInt 1) (by omega)
        have en : (i + Int32.ofInt 1).toNatClampNeg = i.toNatClampNeg + 1 := by omega
        have b := kc_bit u i u0 (by omega) i0 (by omega)
        have x1 := (kq_xor u i u0 (by omega) i0 (by omega)).1
        have xl := kq_xorlt l (by omega) u.toNatClampNeg (by omega) (by omega) i.toNatClampNeg (by omega) (by omega)
        rw [if_pos (show i.toInt < (m.1 0 10).toInt by omega), x1, h21 _ xl]
        by_cases tb : u.toNatClampNeg.testBit i.toNatClampNeg = true
        · rw [if_pos tb] at b
          simp only [if_pos b]
          rw [if_pos trivial]
          exact ih _ _ (by omega) (by omega) (by omega) (by rw [en, kq_stS, if_pos tb, hv])
        · have tf : u.toNatClampNeg.testBit i.toNatClampNeg = false := by
            cases hq : u.toNatClampNeg.testBit i.toNatClampNeg with
            | true => exact absurd hq tb
            | false => rfl
          rw [if_neg tb] at b
          simp only [if_neg (show ¬ ((u >>> (i &&& 31)) &&& 1).toInt = 1 by omega)]
          rw [if_neg (show ¬ (0 : Int32).toInt = (1 : Int32).toInt by decide), f_X8_greater_u]
          refine ih _ _ (by omega) (by omega) (by omega) ?_
          rw [en, kq_stS, if_neg tb, if_pos rfl, ← hv]
          by_cases h1 : v.toInt < (W (u.toNatClampNeg ^^^ 2 ^ i.toNatClampNeg)).toInt
          · rw [if_pos h1, if_neg (show ¬ (W (u.toNatClampNeg ^^^ 2 ^ i.toNatClampNeg)).toInt < v.toInt by omega)]
          · rw [if_neg h1]
            by_cases h2 : (W (u.toNatClampNeg ^^^ 2 ^ i.toNatClampNeg)).toInt < v.toInt
            · rw [if_pos h2]
            · rw [if_neg h2]
              exact Int32.toInt_inj.mp (by omega)
      · rw [if_neg (show ¬ i.toInt < (m.1 0 10).toInt by omega), hv, show i.toNatClampNeg = l by omega]
  -- all sets
  have O : ∀ (n : Nat) (u : Int32) (S : kw_S), 0 ≤ u.toInt → u.toInt ≤ (2 ^ l : Nat) → ((2 ^ l : Nat) - u.toInt).toNat < n → kw_FM [21, 22] m S → (∀ s : Nat, s < 2 ^ l → S.1 21 s = W s) → (∀ s : Nat, (s : Int) < u.toInt → S.1 22 s = kq_st true W s l) → ∃ S' : kw_S, l_X8_rival_0_86a k66 a1 a2 a3 n u S = k66 (a3 + Int32.ofInt (-1)) S' ∧ kw_FM [21, 22] m S' ∧ ∀ s : Nat, s < 2 ^ l → S'.1 21 s = kq_st true W s l := by
    intro n
    induction n with
    | zero => intro u S _ _ h; exact absurd h (Nat.not_lt_zero _)
    | succ n ih =>
      intro u S u0 u1 hn F h21 h22
      have cu := kw_clampI u0
      rw [l_X8_rival_0_86a_s, F.2.1 10 (by decide)]
      simp only [kf_lx]
      by_cases hu : u.toInt < (2 ^ l : Nat)
      · have z := kp_inc u (by omega)
        rw [if_pos (show u.toInt < ((1 : Int32) <<< (m.1 0 10 &&& 31)).toInt by rw [p1]; exact hu), h21 _ (by omega), I (l_X8_rival_0_86a k66 a1 a2 a3 n) u S u0 hu F h21 ((7 - (0 : Int32).toInt).toNat + 1) (W u.toNatClampNeg) 0 (by decide) (by rw [kp_q0]; omega) (by rw [kp_q0]; omega) rfl]
        refine ih _ _ (by omega) (by omega) (by omega) (kw_FM_ui F (by decide) (by decide)) (fun s hs => ?_) (fun s hs => ?_)
        · rw [kq_off _ 22 _ _ 21 (by decide)]; exact h21 s hs
        · rw [kq_at]
          by_cases e : s = u.toNatClampNeg
          · rw [if_pos e, e]
          · rw [if_neg e]; exact h22 s (by omega)
      · rw [if_neg (show ¬ u.toInt < ((1 : Int32) <<< (m.1 0 10 &&& 31)).toInt by rw [p1]; exact hu)]
        exact C _ 0 S (by decide) (by rw [kp_q0]; omega) (by rw [kp_q0]; omega) F (fun s hs => h22 s (by omega)) (fun s hs => by rw [kp_q0] at hs; omega)
  exact O _ 0 U (by decide) (by rw [kp_q0]; omega) (by rw [kp_q0]; omega) FU hU (fun s hs => by rw [kp_q0] at hs; omega)
theorem kq_rvfalse {m : kw_S} (l : Nat) (hl : l ≤ 6) (e10 : (m.1 0 10).toInt = l) (W : Nat → Int32) (k66 : Int32 → kw_S → Int32 × kw_S) (a1 a2 a3 : Int32) (U : kw_S) (FU : kw_FM [21, 22] m U) (hU : ∀ s : Nat, s < 2 ^ l → U.1 21 s = W s) : ∃ S' : kw_S, l_X8_rival_0_86 k66 a1 a2 a3 ((65 - (0 : Int32).toInt).toNat + 1) 0 U = k66 (a3 + Int32.ofInt (-1)) S' ∧ kw_FM [21, 22] m S' ∧ ∀ s : Nat, s < 2 ^ l → S'.1 21 s = kq_st false W s l := by
  have pw := kc_pow l hl
  have h10 : ¬ (1 : Int32).toInt = 0 := by decide
  have h00 : (0 : Int32).toInt = 0 := rfl
  have cm := kw_clampI (x := m.1 0 10) (by omega)
  have p1 : ((1 : Int32) <<< (m.1 0 10 &&& 31)).toInt = (2 ^ l : Nat) := by
    have p := kc_pow1 (m.1 0 10) (by omega) (by omega)
    rw [show (m.1 0 10).toNatClampNeg = l by omega] at p
    exact p
  -- the copy
  have C : ∀ (n : Nat) (y : Int32) (S : kw_S), 0 ≤ y.toInt → y.toInt ≤ (2 ^ l : Nat) → ((2 ^ l : Nat) - y.toInt).toNat < n → kw_FM [21, 22] m S → (∀ s : Nat, s < 2 ^ l → S.1 22 s = kq_st false W s l) → (∀ s : Nat, (s : Int) < y.toInt → S.1 21 s = kq_st false W s l) → ∃ S' : kw_S, l_X8_rival_0_199 k66 a1 a2 a3 n y S = k66 (a3 + Int32.ofInt (-1)) S' ∧ kw_FM [21, 22] m S' ∧ ∀ s : Nat, s < 2 ^ l → S'.1 21 s = kq_st false W s l := by
    intro n
    induction n with
    | zero => intro y S _ _ h; exact absurd h (Nat.not_lt_zero _)
    | succ n ih =>
      intro y S y0 y1 hn F h22 h21
      have cy := kw_clampI y0
      rw [l_X8_rival_0_199_s, F.2.1 10 (by decide)]
      simp only [kf_lx]
      by_cases hy : y.toInt < (2 ^ l : Nat)
      · have z := kp_inc y (by omega)
        rw [if_pos (show y.toInt < ((1 : Int32) <<< (m.1 0 10 &&& 31)).toInt by rw [p1]; exact hy)]
        refine ih _ _ (by omega) (by omega) (by omega) (kw_FM_ui F (by decide) (by decide)) (fun s hs => ?_) (fun s hs => ?_)
        · rw [kq_off _ 21 _ _ 22 (by decide)]; exact h22 s hs
        · rw [kq_at]
          by_cases e : s = y.toNatClampNeg
          · rw [if_pos e, e, h22 _ (by omega)]
          · rw [if_neg e]; exact h21 s (by omega)
      · rw [if_neg (show ¬ y.toInt < ((1 : Int32) <<< (m.1 0 10 &&& 31)).toInt by rw [p1]; exact hy)]
        exact ⟨S, rfl, F, fun s hs => h21 s (by omega)⟩
  -- one set
  have I : ∀ (k86 : Int32 → kw_S → Int32 × kw_S) (u : Int32) (S : kw_S), 0 ≤ u.toInt → u.toInt < (2 ^ l : Nat) → kw_FM [21, 22] m S → (∀ s : Nat, s < 2 ^ l → S.1 21 s = W s) → ∀ (n : Nat) (v i : Int32), 0 ≤ i.toInt → i.toInt ≤ l → ((l : Int) - i.toInt).toNat < n → v = kq_st false W u.toNatClampNeg i.toNatClampNeg → l_X8_rival_0_109 k66 k86 a1 a2 a3 u S n v i = k86 (u + Int32.ofInt 1) (kw_ui S 22 u.toNatClampNeg (kq_st false W u.toNatClampNeg l)) := by
    intro k86 u S u0 u1 F h21 n
    have cu := kw_clampI u0
    induction n with
    | zero => intro v i _ _ h; exact absurd h (Nat.not_lt_zero _)
    | succ n ih =>
      intro v i i0 i1 hn hv
      have ci := kw_clampI i0
      rw [l_X8_rival_0_109_s, F.2.1 10 (by decide), kp_has8]
      simp only [kf_lx, if_pos h00]
      by_cases hi : i.toInt < l
      · have z := kp_inc i (by omega)
        have c1 := kw_clampI (x := i + Int32.ofInt 1) (by omega)
        have en : (i + Int32.ofInt 1).toNatClampNeg = i.toNatClampNeg + 1 := by omega
        have b := kc_bit u i u0 (by omega) i0 (by omega)
        have x1 := (kq_xor u i u0 (by omega) i0 (by omega)).1
        have xl := kq_xorlt l (by omega) u.toNatClampNeg (by omega) (by omega) i.toNatClampNeg (by omega) (by omega)
        rw [if_pos (show i.toInt < (m.1 0 10).toInt by omega), x1, h21 _ xl]
        by_cases tb : u.toNatClampNeg.testBit i.toNatClampNeg = true
        · rw [if_pos tb] at b
          simp only [if_pos b]
          rw [if_neg (show ¬ (1 : Int32).toInt = (0 : Int32).toInt by decide)]
          by_cases h1 : (W (u.toNatClampNeg ^^^ 2 ^ i.toNatClampNeg)).toInt < v.toInt
          · rw [if_pos h1]
            exact ih _ _ (by omega) (by omega) (by omega) (by rw [en, kq_stS, if_neg (show ¬ u.toNatClampNeg.testBit i.toNatClampNeg = false by rw [tb]; decide), if_neg (show ¬ (false = true) by decide), ← hv, if_pos h1])
          · rw [if_neg h1]
            exact ih _ _ (by omega) (by omega) (by omega) (by rw [en, kq_stS, if_neg (show ¬ u.toNatClampNeg.testBit i.toNatClampNeg = false by rw [tb]; decide), if_neg (show ¬ (false = true) by decide), ← hv, if_neg h1])
        · have tf : u.toNatClampNeg.testBit i.toNatClampNeg = false := by
            cases hq : u.toNatClampNeg.testBit i.toNatClampNeg with
            | true => exact absurd hq tb
            | false => rfl
          rw [if_neg tb] at b
          simp only [if_neg (show ¬ ((u >>> (i &&& 31)) &&& 1).toInt = 1 by omega)]
          rw [if_pos trivial]
          exact ih _ _ (by omega) (by omega) (by omega) (by rw [en, kq_stS, if_pos tf, hv])
      · rw [if_neg (show ¬ i.toInt < (m.1 0 10).toInt by omega), hv, show i.toNatClampNeg = l by omega]
  -- all sets
  have O : ∀ (n : Nat) (u : Int32) (S : kw_S), 0 ≤ u.toInt → u.toInt ≤ (2 ^ l : Nat) → ((2 ^ l : Nat) - u.toInt).toNat < n → kw_FM [21, 22] m S → (∀ s : Nat, s < 2 ^ l → S.1 21 s = W s) → (∀ s : Nat, (s : Int) < u.toInt → S.1 22 s = kq_st false W s l) → ∃ S' : kw_S, l_X8_rival_0_86 k66 a1 a2 a3 n u S = k66 (a3 + Int32.ofInt (-1)) S' ∧ kw_FM [21, 22] m S' ∧ ∀ s : Nat, s < 2 ^ l → S'.1 21 s = kq_st false W s l := by
    intro n
    induction n with
    | zero => intro u S _ _ h; exact absurd h (Nat.not_lt_zero _)
    | succ n ih =>
      intro u S u0 u1 hn F h21 h22
      have cu := kw_clampI u0
      rw [l_X8_rival_0_86_s, F.2.1 10 (by decide)]
      simp only [kf_lx]
      by_cases hu : u.toInt < (2 ^ l : Nat)
      · have z := kp_inc u (by omega)
        rw [if_pos (show u.toInt < ((1 : Int32) <<< (m.1 0 10 &&& 31)).toInt by rw [p1]; exact hu), h21 _ (by omega), I (l_X8_rival_0_86 k66 a1 a2 a3 n) u S u0 hu F h21 ((7 - (0 : Int32).toInt).toNat + 1) (W u.toNatClampNeg) 0 (by decide) (by rw [kp_q0]; omega) (by rw [kp_q0]; omega) rfl]
        refine ih _ _ (by omega) (by omega) (by omega) (kw_FM_ui F (by decide) (by decide)) (fun s hs => ?_) (fun s hs => ?_)
        · rw [kq_off _ 22 _ _ 21 (by decide)]; exact h21 s hs
        · rw [kq_at]
          by_cases e : s = u.toNatClampNeg
          · rw [if_pos e, e]
          · rw [if_neg e]; exact h22 s (by omega)
      · rw [if_neg (show ¬ u.toInt < ((1 : Int32) <<< (m.1 0 10 &&& 31)).toInt by rw [p1]; exact hu)]
        exact C _ 0 S (by decide) (by rw [kp_q0]; omega) (by rw [kp_q0]; omega) F (fun s hs => h22 s (by omega)) (fun s hs => by rw [kp_q0] at hs; omega)
  exact O _ 0 U (by decide) (by rw [kp_q0]; omega) (by rw [kp_q0]; omega) FU hU (fun s hs => by rw [kp_q0] at hs; omega)
end
section
theorem kq_rgo {m : kw_S} (l : Nat) (hl : l ≤ 6) (e10 : (m.1 0 10).toInt = l) (M : Nat → Int32) (c0 : 0 ≤ (m.1 0 25).toInt) (c1 : (m.1 0 25).toNatClampNeg < 2 ^ l) (n a2 : Int32) : ∀ (f d : Nat) (go : Int32) (U : kw_S), -1 ≤ go.toInt → go.toInt ≤ 3 → (go.toInt + 1).toNat < f → kw_FM [21, 22] m U → (∀ s : Nat, s < 2 ^ l → U.1 21 s = kq_V l M d s) → (d : Int) + go.toInt + 1 ≤ 4 → ((d : Int) + go.toInt) % 2 = 1 → ∃ S' : kw_S, kw_FM [21, 22] m S' ∧ l_X8_rival_0_66 n a2 f go U = (1, kw_ui S' 0 2 (kq_V l M (d + (go.toInt + 1).toNat) (m.1 0 25).toNatClampNeg)) := by
  intro f
  induction f with
  | zero => intro d go U _ _ h; exact absurd h (Nat.not_lt_zero _)
  | succ f ih =>
    intro d go U g0 g1 hf F hU hd hp
    rw [l_X8_rival_0_66_s]
    simp only [kf_lx, kf_bx]
    by_cases hg : go.toInt < 0
    · have e0 : d + (go.toInt + 1).toNat = d := by omega
      rw [if_pos hg, F.2.1 25 (by decide), hU _ c1, f_X8_ask_0_u, e0]
      exact ⟨U, F, rfl⟩
    · have gg : 0 ≤ go.toInt := by omega
      have ed := kq_dec go (by omega)
      generalize hg' : go + Int32.ofInt (-1) = g' at ed
      have ee : d + 1 + (g'.toInt + 1).toNat = d + (go.toInt + 1).toNat := by omega
      have u0 : -1 ≤ g'.toInt := by omega
      have u1 : g'.toInt ≤ 3 := by omega
      have u2 : (g'.toInt + 1).toNat < f := by omega
      have u3 : ((d + 1 : Nat) : Int) + g'.toInt + 1 ≤ 4 := by omega
      have u4 : (((d + 1 : Nat) : Int) + g'.toInt) % 2 = 1 := by omega
      rw [if_neg hg]
      by_cases hq : (go - go / 2 * 2).toInt = 0
      · have dp := (kq_parity go d gg g1 hp).1 hq
        obtain ⟨S', r1, r2, r3⟩ := kq_rvtrue l hl e10 (kq_V l M d) (l_X8_rival_0_66 n a2 f) n a2 go U F hU
        rw [hg'] at r1
        rw [if_pos hq, r1]
        obtain ⟨S2, q1, q2⟩ := ih (d + 1) g' S' u0 u1 u2 r2 (fun s hs => by rw [r3 s hs, kq_VS, dp]) u3 u4
        rw [ee] at q2
        exact ⟨S2, q1, q2⟩
      · have dp := (kq_parity go d gg g1 hp).2 hq
        obtain ⟨S', r1, r2, r3⟩ := kq_rvfalse l hl e10 (kq_V l M d) (l_X8_rival_0_66 n a2 f) n a2 go U F hU
        rw [hg'] at r1
        rw [if_neg hq, r1]
        obtain ⟨S2, q1, q2⟩ := ih (d + 1) g' S' u0 u1 u2 r2 (fun s hs => by rw [r3 s hs, kq_VS, dp]) u3 u4
        rw [ee] at q2
        exact ⟨S2, q1, q2⟩
end
section
theorem kq_rival {x m s t : kw_S} {r q : Int32} (hL : kr_L x m) (hD : kr_D x m) (k : Int32) (e1 : (r, s) = f_X7_rival_0 x k) (e2 : (q, t) = f_X8_rival_0 m k) : kq x m s t := by
  have l2 := hL.2.1
  have q99 : (99 : Int32).toInt = 99 := rfl
  have qm99 : (-99 : Int32).toInt = -99 := rfl
  have q9 : (999 : Int32).toInt = 999 := rfl
  have qm9 : (-999 : Int32).toInt = -999 := rfl
  have q2 : (2 : Int32).toInt = 2 := rfl
  have h10 : ¬ (1 : Int32).toInt = 0 := by decide
  have h00 : (0 : Int32).toInt = 0 := rfl
  rw [f_X7_rival_0_u, f_X5_isEmpty_4_u] at e1
  rw [f_X8_rival_0_u, ← hL.1] at e2
  simp only [kf_lx, kf_bx, kp_in] at e1 e2
  by_cases h1 : (0 : Int32).toInt ≤ k.toInt ∧ k.toInt ≤ (2 : Int32).toInt
  · have h1' : 0 ≤ k.toInt ∧ k.toInt ≤ 2 := h1
    rw [if_neg (show ¬ k.toInt < 0 by omega), if_neg (show ¬ (2 : Int32).toInt < k.toInt by omega)] at e1
    simp only [if_pos h1] at e2
    rw [if_neg h10] at e2
    by_cases h0 : (x.1 17 5).toInt < (1 : Int32).toInt
    · have h0' : (x.1 17 5).toInt < 1 := h0
      simp only [if_pos h0] at e1
      rw [if_neg h10] at e1
      rw [if_pos (show (x.1 17 5).toInt = 0 by omega)] at e2
      exact kq_bad e1 e2
    · have h0' : ¬ (x.1 17 5).toInt < 1 := h0
      simp only [if_neg h0] at e1
      rw [if_pos h00] at e1
      rw [if_neg (show ¬ (x.1 17 5).toInt = 0 by omega), ← kd_windNow hL hD] at e2
      generalize f_X5_windNow_4 x = w at *
      have cl := kw_clampI l2.1
      have pw := kc_pow (x.1 17 5).toNatClampNeg (by omega)
      have p1 := kc_pow1 (x.1 17 5) l2.1 l2.2
      obtain ⟨d1, d2, d3, -⟩ := kc_draw6 x w l2.1 l2.2
      have cm := kc_cm6 x (f_X0_draw_6_17 x w) w
      generalize f_X0_draw_6_17 x w = S3 at *
      have lay : kd_lay x S3 := kd_lay.of d1 (by decide)
      have hLS : kr_L S3 m := hL.cong (fun a ha => lay a ha) (fun _ _ => rfl) rfl rfl
      have n2 := (kd_now hL hD).2.1
      have hh := kq_hung hL hD
      have e44 : S3.1 4 4 = x.1 4 4 := by rw [(d1 4 (by decide)).1]
      have e25 : m.1 0 25 = x.1 4 4 := hD.2.2.2.2.1.2.2.2.1
      generalize hMd : (fun s : Nat => f_X8_milesBy_0 m (Int32.ofNat s) w) = M
      have hM : ∀ s : Nat, M s = f_X8_milesBy_0 m (Int32.ofNat s) w := fun s => by rw [← hMd]
      have ek : ((2 : Int32) * k).toInt = 2 * k.toInt := by rw [kw_mulI, q2]; omega
      generalize hk2 : (2 : Int32) * k = k2 at ek
      have ck := kw_clampI h1'.1
      have pl := kq_play (S := S3) (x.1 17 5).toNatClampNeg (by omega) (by rw [d3]; omega) M (fun h h0 hb => by
        have chh := kw_clampI h0
        rw [(cm h l2.1 l2.2 (fun _ _ => rfl) h0 (by omega)).1, kt_miles hL, hM, kd_ofNat h h0]) (2 * k.toNatClampNeg) 4 (by omega) (by omega) (x.1 4 4) k2 (by omega) n2.1 hh
      rw [e44, hk2, pl, f_X4_answer_8_u] at e1
      -- the reference: miles of all sets first
      have A : ∀ (n : Nat) (y : Int32) (S : kw_S), 0 ≤ y.toInt → y.toInt ≤ (2 ^ (x.1 17 5).toNatClampNeg : Nat) → ((2 ^ (x.1 17 5).toNatClampNeg : Nat) - y.toInt).toNat < n → kw_FM [21, 22] m S → (∀ s : Nat, (s : Int) < y.toInt → S.1 21 s = M s) → ∃ S' : kw_S, kw_FM [21, 22] m S' ∧ l_X8_rival_0_32 k w n y S = (1, kw_ui S' 0 2 (kq_V (x.1 17 5).toNatClampNeg M (2 * k.toNatClampNeg) (x.1 4 4).toNatClampNeg)) := by
        intro n
        induction n with
        | zero => intro y S _ _ h; exact absurd h (Nat.not_lt_zero _)
        | succ n ih =>
          intro y S y0 y1 hn F h21
          have cy := kw_clampI y0
          rw [l_X8_rival_0_32_s, F.2.1 10 (by decide), ← hL.1]
          simp only [kf_lx]
          by_cases hy : y.toInt < (2 ^ (x.1 17 5).toNatClampNeg : Nat)
          · have z := kp_inc y (by omega)
            have hLS2 : kr_L x S := hL.cong (fun _ _ => rfl) (fun a ha => F.1 a (by omega) (by simp; omega)) (F.2.1 10 (by decide)) (F.2.1 11 (by decide))
            have em : f_X8_milesBy_0 S y w = M y.toNatClampNeg := by rw [← kt_miles hLS2, kt_miles hL, hM, kd_ofNat y y0]
            rw [if_pos (show y.toInt < ((1 : Int32) <<< (x.1 17 5 &&& 31)).toInt by rw [p1]; exact hy), em]
            refine ih _ _ (by omega) (by omega) (by omega) (kw_FM_ui F (by decide) (by decide)) (fun s hs => ?_)
            rw [kq_at]
            by_cases e : s = y.toNatClampNeg
            · rw [if_pos e, e]
            · rw [if_neg e]; exact h21 s (by omega)
          · have eg : (k2 - 1).toInt = k2.toInt - 1 := by rw [kw_subI, kp_q1]; omega
            rw [if_neg (show ¬ y.toInt < ((1 : Int32) <<< (x.1 17 5 &&& 31)).toInt by rw [p1]; exact hy), hk2]
            generalize k2 - 1 = k3 at eg ⊢
            have v0 : -1 ≤ k3.toInt := by omega
            have v1 : k3.toInt ≤ 3 := by omega
            have v2 : (k3.toInt + 1).toNat < (k3.toInt + 2).toNat + 1 := by omega
            have v3 : ((0 : Nat) : Int) + k3.toInt + 1 ≤ 4 := by omega
            have v4 : (((0 : Nat) : Int) + k3.toInt) % 2 = 1 := by omega
            have v5 : 0 + (k3.toInt + 1).toNat = 2 * k.toNatClampNeg := by omega
            obtain ⟨S', q1, q2⟩ := kq_rgo (m := m) (x.1 17 5).toNatClampNeg (by omega) (by rw [← hL.1]; omega) M (by rw [e25]; exact n2.1) (by rw [e25]; exact hh) k w ((k3.toInt + 2).toNat + 1) 0 k3 S v0 v1 v2 F (fun s hs => h21 s (by omega)) v3 v4
            rw [v5, e25] at q2
            exact ⟨S', q1, q2⟩
      obtain ⟨S', q1, g2⟩ := A ((65 - (0 : Int32).toInt).toNat + 1) 0 m (by decide) (by rw [kp_q0]; omega) (by rw [kp_q0]; omega) kw_FM.rf (fun s hs => by rw [kp_q0] at hs; omega)
      rw [g2] at e2
      rw [(Prod.mk.inj e1).2, (Prod.mk.inj e2).2]
      exact (kq.fr d1 q1 (by decide) (by decide)).tr (kq.ans S3 S' _)
  · have h1' : ¬ (0 ≤ k.toInt ∧ k.toInt ≤ 2) := h1
    simp only [if_neg h1] at e2
    rw [if_pos h00] at e2
    by_cases h2 : k.toInt < 0
    · rw [if_pos h2] at e1
      exact kq_bad e1 e2
    · rw [if_neg h2, if_pos (show (2 : Int32).toInt < k.toInt by omega)] at e1
      exact kq_bad e1 e2
end
section
def kr_Q (x m : kw_S) : Prop := kq_F x m ∧ kq_A x m ∧ kq_U x m
theorem kq.go {x m s t : kw_S} (h : kq x m s t) (q : kr_Q x m) : kr_Q s t := ⟨h.1 q.1, h.2.1 q.2.1, h.2.2 q.2.2⟩
theorem kr_Q.mix {σ s t : kw_S} (h : kr_Q s t) : kr_Q (kw_mixM (kw_mixX σ s) t) t := ⟨kq_mixF h.1, kq_mixA h.2.1, kq_mixU h.2.2⟩
theorem kr_asked {x m : kw_S} {r q : Int32} (h : kr_Q x m) (e1 : r = f_X7_asked_0 x) (e2 : q = f_X8_asked_0 m) : r = q := by
  rw [e1, e2, f_X7_asked_0_u, f_X8_asked_0_u]
  exact h.2.1
theorem kr_upper {x m : kw_S} {r q : Int64} (h : kr_Q x m) (e1 : r = f_X7_upper_0 x) (e2 : q = f_X8_upper_0 m) : r = q := by
  rw [e1, e2, f_X7_upper_0_u, f_X8_upper_0_u]
  exact h.2.2.1
theorem kr_lower {x m : kw_S} {r q : Int64} (h : kr_Q x m) (e1 : r = f_X7_lower_0 x) (e2 : q = f_X8_lower_0 m) : r = q := by
  rw [e1, e2, f_X7_lower_0_u, f_X8_lower_0_u]
  exact h.2.2.2
theorem kr_finding {x m : kw_S} {r q : Int32} (h : kr_Q x m) (e1 : r = f_X7_finding_0 x) (e2 : q = f_X8_finding_0 m) : r = q := by
  rw [e1, e2, f_X7_finding_0_u, f_X8_finding_0_u]
  exact h.1.1
theorem kr_findings {x m : kw_S} {r q : Int32} (h : kr_Q x m) (f : Int32) (e1 : r = f_X7_findings_0 x f) (e2 : q = f_X8_findings_0 m f) : r = q := by
  have q5 : (5 : Int32).toInt = 5 := rfl
  rw [e1, e2, f_X7_findings_0_u, f_X8_findings_0_u]
  simp only [kf_lx, kp_in]
  by_cases h1 : (1 : Int32).toInt ≤ f.toInt ∧ f.toInt ≤ (5 : Int32).toInt
  · have h1' : 1 ≤ f.toInt ∧ f.toInt ≤ 5 := h1
    have c := kw_clampI (x := f) (by omega)
    simp only [if_pos h1]
    rw [if_neg (show ¬ f.toInt < (1 : Int32).toInt by rw [kp_q1]; omega), if_neg (show ¬ (5 : Int32).toInt < f.toInt by omega), if_neg (show ¬ (1 : Int32).toInt = 0 by decide)]
    exact h.1.2 f.toNatClampNeg (by omega) (by omega)
  · have h1' : ¬ (1 ≤ f.toInt ∧ f.toInt ≤ 5) := h1
    simp only [if_neg h1]
    rw [if_pos (show (0 : Int32).toInt = 0 from rfl)]
    by_cases h2 : f.toInt < (1 : Int32).toInt
    · rw [if_pos h2]
    · have h2' : ¬ f.toInt < 1 := h2
      rw [if_neg h2, if_pos (show (5 : Int32).toInt < f.toInt by omega)]
abbrev kr_R (x m : kw_S) : Prop := kr_T x m ∧ kr_L x m ∧ kr_D x m ∧ kr_W x m ∧ kr_Q x m
end
