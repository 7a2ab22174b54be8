/-! ===== digest ===== -/
theorem kq_ulul (m : kw_S) (h h' : Int64) : kw_ul (kw_ul m 0 36 h) 0 36 h' = kw_ul m 0 36 h' := by
  refine kp_ext (fun _ _ => rfl) (fun a j => ?_)
  rw [kp_ul2, kp_ul2, kp_ul2]
  by_cases e : a = 0 ∧ j = 36
  · rw [if_pos e, if_pos e]
  · rw [if_neg e, if_neg e, if_neg e]
theorem kq_mix (m : kw_S) (h : Int64) (v : Int32) : f_X8_mix_0 (kw_ul m 0 36 h) v = kw_ul m 0 36 (31 * h + v.toInt64) := by
  rw [f_X8_mix_0_u]
  simp only [kf_lx]
  rw [kp_ul2, if_pos ⟨rfl, rfl⟩, kq_ulul]
theorem kq_fold2a {x m : kw_S} (h : kr_T x m) (hX : kw_I bX x) (a : Int64) (c : Int32) (c0 : 0 ≤ c.toInt) (c1 : c.toInt < 4) (k5 : Int64 → Int32 → Int64) (kk : Int32 → kw_S → Int64 × kw_S) (G : Int64 → Int64 × kw_S) (hk : ∀ g : Int64, kk (c + Int32.ofInt 1) (kw_ul m 0 36 g) = G (k5 g (c + Int32.ofInt 1))) : ∀ (n n' : Nat) (g : Int64) (j : Int32), 0 ≤ j.toInt → j.toInt ≤ 60 → (60 - j.toInt).toNat < n → (60 - j.toInt).toNat < n' → l_X8_digest_0_131 kk c n' j (kw_ul m 0 36 g) = G (l_X3_fold_2_33 k5 a c x n g j) := by
  have cc := kw_clampI c0
  have bb : -1 ≤ (x.1 15 c.toNatClampNeg).toInt ∧ (x.1 15 c.toNatClampNeg).toInt ≤ 60 := hX 15 c.toNatClampNeg
  intro n
  induction n with
  | zero => intro n' g j _ _ f _; exact absurd f (Nat.not_lt_zero _)
  | succ n ih =>
    intro n' g j j0 j1 f1 f2
    cases n' with
    | zero => exact absurd f2 (Nat.not_lt_zero _)
    | succ n' =>
      have cj := kw_clampI j0
      rw [l_X8_digest_0_131_s, l_X3_fold_2_33_s]
      simp only [kf_lx]
      rw [show (kw_ul m 0 36 g).1 5 c.toNatClampNeg = m.1 5 c.toNatClampNeg from rfl]
      rcases h.1 c.toNatClampNeg (by omega) with ⟨g1, g2⟩ | ⟨g1, g2⟩
      · rw [if_neg (show ¬ j.toInt < (m.1 5 c.toNatClampNeg).toInt by omega), if_neg (show ¬ j.toInt < (x.1 15 c.toNatClampNeg).toInt by omega)]
        exact hk g
      · rw [← g1]
        by_cases hj : j.toInt < (x.1 15 c.toNatClampNeg).toInt
        · have z := kp_inc j (by omega)
          have e := kp_row2 c c0 c1 (fun b => l_X3_fold_2_33 k5 a c x n (31 * g + (x.1 b j.toNatClampNeg).toInt64) (j + Int32.ofInt 1)) 0
          rw [if_pos hj, if_pos hj, e]
          have ev : (kw_ul m 0 36 g).1 6 ((60 : Int32) * c + j).toNatClampNeg = x.1 (35 + c.toNatClampNeg) j.toNatClampNeg := by
            rw [kp_idx 60 60 c j rfl (by decide) c0 (by omega) j0 (by omega), h.2 c.toNatClampNeg j.toNatClampNeg (by omega) (by omega)]
            rfl
          rw [ev, kq_mix]
          exact ih n' _ _ (by omega) (by omega) (by omega) (by omega)
        · rw [if_neg hj, if_neg hj]
          exact hk g
theorem kq_fold2 {x m : kw_S} (h : kr_T x m) (hX : kw_I bX x) (a : Int64) (G : Int64 → Int64 × kw_S) (hG : ∀ g : Int64, ((kw_ul m 0 36 g).2 0 36, kw_ul m 0 36 g) = G g) : ∀ (n n' : Nat) (g : Int64) (c : Int32), 0 ≤ c.toInt → c.toInt ≤ 4 → (4 - c.toInt).toNat < n → (4 - c.toInt).toNat < n' → l_X8_digest_0_101 n' c (kw_ul m 0 36 g) = G (l_X3_fold_2_5 a x n g c) := by
  intro n
  induction n with
  | zero => intro n' g c _ _ f _; exact absurd f (Nat.not_lt_zero _)
  | succ n ih =>
    intro n' g c c0 c1 f1 f2
    cases n' with
    | zero => exact absurd f2 (Nat.not_lt_zero _)
    | succ n' =>
      have cc := kw_clampI c0
      rw [l_X8_digest_0_101_s, l_X3_fold_2_5_s]
      simp only [kf_lx]
      by_cases hc : c.toInt < 4
      · have z := kp_inc c (by omega)
        have bb : -1 ≤ (x.1 15 c.toNatClampNeg).toInt ∧ (x.1 15 c.toNatClampNeg).toInt ≤ 60 := hX 15 c.toNatClampNeg
        have A := kq_fold2a h hX a c c0 hc (l_X3_fold_2_5 a x n) (l_X8_digest_0_101 n') G (fun g => ih n' g _ (by omega) (by omega) (by omega) (by omega)) ((61 - (0 : Int32).toInt).toNat + 1) ((61 - (0 : Int32).toInt).toNat + 1)
        rw [if_pos (show c.toInt < (4 : Int32).toInt from hc), if_pos (show c.toInt < (4 : Int32).toInt from hc), show (kw_ul m 0 36 g).1 5 c.toNatClampNeg = m.1 5 c.toNatClampNeg from rfl, kq_mix, kq_mix]
        rcases h.1 c.toNatClampNeg (by omega) with ⟨g1, g2⟩ | ⟨g1, g2⟩
        · have e : x.1 15 c.toNatClampNeg = -1 := Int32.toInt_inj.mp (by rw [show (-1 : Int32).toInt = -1 from rfl]; omega)
          rw [if_pos g2, A _ 0 (by decide) (by decide) (by decide) (by decide), e]
        · rw [← g1, if_neg (show ¬ (x.1 15 c.toNatClampNeg).toInt < 0 by omega), A _ 0 (by decide) (by decide) (by decide) (by decide)]
      · rw [if_neg (show ¬ c.toInt < (4 : Int32).toInt from hc), if_neg (show ¬ c.toInt < (4 : Int32).toInt from hc)]
        exact hG g
theorem kq_fold1a {x m : kw_S} (h : kr_W x m) (hX : kw_I bX x) (a : Int64) (c : Int32) (c0 : 0 ≤ c.toInt) (c1 : c.toInt < 6) (k5 : Int64 → Int32 → Int64) (kk : Int32 → kw_S → Int64 × kw_S) (G : Int64 → Int64 × kw_S) (hk : ∀ g : Int64, kk (c + Int32.ofInt 1) (kw_ul m 0 36 g) = G (k5 g (c + Int32.ofInt 1))) : ∀ (n n' : Nat) (g : Int64) (j : Int32), 0 ≤ j.toInt → j.toInt ≤ 40 → (40 - j.toInt).toNat < n → (40 - j.toInt).toNat < n' → l_X8_digest_0_67 kk c n' j (kw_ul m 0 36 g) = G (l_X3_fold_1_33 k5 a c x n g j) := by
  have cc := kw_clampI c0
  have bb : -1 ≤ (x.1 13 c.toNatClampNeg).toInt ∧ (x.1 13 c.toNatClampNeg).toInt ≤ 40 := hX 13 c.toNatClampNeg
  intro n
  induction n with
  | zero => intro n' g j _ _ f _; exact absurd f (Nat.not_lt_zero _)
  | succ n ih =>
    intro n' g j j0 j1 f1 f2
    cases n' with
    | zero => exact absurd f2 (Nat.not_lt_zero _)
    | succ n' =>
      have cj := kw_clampI j0
      rw [l_X8_digest_0_67_s, l_X3_fold_1_33_s]
      simp only [kf_lx]
      rw [show (kw_ul m 0 36 g).1 2 c.toNatClampNeg = m.1 2 c.toNatClampNeg from rfl]
      rcases h.1 c.toNatClampNeg (by omega) with ⟨g1, g2⟩ | ⟨g1, g2⟩
      · rw [if_neg (show ¬ j.toInt < (m.1 2 c.toNatClampNeg).toInt by omega), if_neg (show ¬ j.toInt < (x.1 13 c.toNatClampNeg).toInt by omega)]
        exact hk g
      · rw [← g1]
        by_cases hj : j.toInt < (x.1 13 c.toNatClampNeg).toInt
        · have z := kp_inc j (by omega)
          have e := kp_row1 c c0 c1 (fun b => l_X3_fold_1_33 k5 a c x n (31 * g + (x.1 b j.toNatClampNeg).toInt64) (j + Int32.ofInt 1)) 0
          rw [if_pos hj, if_pos hj, e]
          have ev : f_X8_rowAt_0 (kw_ul m 0 36 g) c j = x.1 (29 + c.toNatClampNeg) j.toNatClampNeg := by
            rw [kp_rowAt _ c j c0 (by omega) j0 (by omega), h.2 c.toNatClampNeg j.toNatClampNeg (by omega) (by omega)]
            rfl
          rw [ev, kq_mix]
          exact ih n' _ _ (by omega) (by omega) (by omega) (by omega)
        · rw [if_neg hj, if_neg hj]
          exact hk g
theorem kq_fold1 {x m : kw_S} (h : kr_W x m) (hX : kw_I bX x) (a : Int64) (G : Int64 → Int64 × kw_S) (hG : ∀ g : Int64, l_X8_digest_0_101 ((5 - (0 : Int32).toInt).toNat + 1) (0 : Int32) (kw_ul m 0 36 g) = G g) : ∀ (n n' : Nat) (g : Int64) (c : Int32), 0 ≤ c.toInt → c.toInt ≤ 6 → (6 - c.toInt).toNat < n → (6 - c.toInt).toNat < n' → l_X8_digest_0_36 n' c (kw_ul m 0 36 g) = G (l_X3_fold_1_5 a x n g c) := by
  intro n
  induction n with
  | zero => intro n' g c _ _ f _; exact absurd f (Nat.not_lt_zero _)
  | succ n ih =>
    intro n' g c c0 c1 f1 f2
    cases n' with
    | zero => exact absurd f2 (Nat.not_lt_zero _)
    | succ n' =>
      have cc := kw_clampI c0
      rw [l_X8_digest_0_36_s, l_X3_fold_1_5_s]
      simp only [kf_lx]
      by_cases hc : c.toInt < 6
      · have z := kp_inc c (by omega)
        have bb : -1 ≤ (x.1 13 c.toNatClampNeg).toInt ∧ (x.1 13 c.toNatClampNeg).toInt ≤ 40 := hX 13 c.toNatClampNeg
        have A := kq_fold1a h hX a c c0 hc (l_X3_fold_1_5 a x n) (l_X8_digest_0_36 n') G (fun g => ih n' g _ (by omega) (by omega) (by omega) (by omega)) ((61 - (0 : Int32).toInt).toNat + 1) ((41 - (0 : Int32).toInt).toNat + 1)
        rw [if_pos (show c.toInt < (6 : Int32).toInt from hc), if_pos (show c.toInt < (6 : Int32).toInt from hc), show (kw_ul m 0 36 g).1 2 c.toNatClampNeg = m.1 2 c.toNatClampNeg from rfl, kq_mix, kq_mix]
        rcases h.1 c.toNatClampNeg (by omega) with ⟨g1, g2⟩ | ⟨g1, g2⟩
        · have e : x.1 13 c.toNatClampNeg = -1 := Int32.toInt_inj.mp (by rw [show (-1 : Int32).toInt = -1 from rfl]; omega)
          rw [if_pos g2, A _ 0 (by decide) (by decide) (by decide) (by decide), e]
        · rw [← g1, if_neg (show ¬ (x.1 13 c.toNatClampNeg).toInt < 0 by omega), A _ 0 (by decide) (by decide) (by decide) (by decide)]
      · rw [if_neg (show ¬ c.toInt < (6 : Int32).toInt from hc), if_neg (show ¬ c.toInt < (6 : Int32).toInt from hc)]
        exact hG g
theorem kq_kept {x m : kw_S} (hX : kw_I bX x) (hD : kr_D x m) : ∀ (n n' : Nat) (g : Int64) (k : Int32), 0 ≤ k.toInt → k.toInt ≤ 3 → (3 - k.toInt).toNat < n → (3 - k.toInt).toNat < n' → ∃ g' : Int64, l_X8_mixTown_0_58 n' k (kw_ul m 0 36 g) = kw_ul m 0 36 g' ∧ l_X7_digest_0_119 x n g k = f_X3_fold_2 x (f_X3_fold_1 x g') := by
  intro n
  induction n with
  | zero => intro n' g k _ _ f _; exact absurd f (Nat.not_lt_zero _)
  | succ n ih =>
    intro n' g k k0 k1 f1 f2
    cases n' with
    | zero => exact absurd f2 (Nat.not_lt_zero _)
    | succ n' =>
      have ck := kw_clampI k0
      rw [l_X8_mixTown_0_58_s, l_X7_digest_0_119_s]
      simp only [kf_lx]
      by_cases hk : k.toInt < 3
      · have z := kp_inc k (by omega)
        have bb : -1 ≤ (x.1 21 k.toNatClampNeg).toInt ∧ (x.1 21 k.toNatClampNeg).toInt ≤ 40 := hX 21 k.toNatClampNeg
        rw [if_pos (show k.toInt < (3 : Int32).toInt from hk), if_pos (show k.toInt < (3 : Int32).toInt from hk), kp_size5, if_pos (show 0 ≤ k.toInt ∧ k.toInt < 3 from ⟨k0, hk⟩), show (kw_ul m 0 36 g).1 16 k.toNatClampNeg = m.1 16 k.toNatClampNeg from rfl, kq_mix, kq_mix]
        rcases hD.2.2.2.2.2.2 k.toNatClampNeg (by omega) with ⟨b1, b2⟩ | ⟨b1, b2, b3, -⟩
        · have e : x.1 21 k.toNatClampNeg = -1 := Int32.toInt_inj.mp (by rw [show (-1 : Int32).toInt = -1 from rfl]; omega)
          rw [b2, if_neg (show ¬ (0 : Int32).toInt = (1 : Int32).toInt by decide), e]
          exact ih n' _ _ (by omega) (by omega) (by omega) (by omega)
        · have ei : ((411 : Int32) * k + 410).toNatClampNeg = 411 * k.toNatClampNeg + 410 := kp_idx 411 411 k 410 rfl (by decide) k0 (by omega) (by decide) (by decide)
          have ev : (kw_ul m 0 36 g).1 17 ((411 : Int32) * k + 410).toNatClampNeg = x.1 21 k.toNatClampNeg := by rw [ei]; exact b3
          rw [b1, if_pos rfl, ev]
          exact ih n' _ _ (by omega) (by omega) (by omega) (by omega)
      · rw [if_neg (show ¬ k.toInt < (3 : Int32).toInt from hk), if_neg (show ¬ k.toInt < (3 : Int32).toInt from hk)]
        exact ⟨g, rfl, rfl⟩
theorem kq_traits {x m : kw_S} (hL : kr_L x m) (hD : kr_D x m) (i : Int32) (i0 : 0 ≤ i.toInt) (i1 : i.toInt < (x.1 17 5).toInt) (k63 : Int64 → Int32 → Int64) (k18 : Int32 → kw_S → kw_S) (hk : ∀ g : Int64, ∃ g' : Int64, k18 (i + Int32.ofInt 1) (kw_ul m 0 36 g) = kw_ul m 0 36 g' ∧ k63 g (i + Int32.ofInt 1) = f_X3_fold_2 x (f_X3_fold_1 x g')) : ∀ (n n' : Nat) (g : Int64) (w : Int32), 0 ≤ w.toInt → w.toInt ≤ 7 → (7 - w.toInt).toNat < n → (7 - w.toInt).toNat < n' → ∃ g' : Int64, l_X8_mixTown_0_28 k18 i n' w (kw_ul m 0 36 g) = kw_ul m 0 36 g' ∧ l_X7_digest_0_80 k63 i x n g w = f_X3_fold_2 x (f_X3_fold_1 x g') := by
  have q6 : (6 : Int32).toInt = 6 := rfl
  intro n
  induction n with
  | zero => intro n' g w _ _ f _; exact absurd f (Nat.not_lt_zero _)
  | succ n ih =>
    intro n' g w w0 w1 f1 f2
    cases n' with
    | zero => exact absurd f2 (Nat.not_lt_zero _)
    | succ n' =>
      rw [l_X8_mixTown_0_28_s, l_X7_digest_0_80_s]
      simp only [kf_lx]
      by_cases hw : w.toInt < 7
      · have z := kp_inc w (by omega)
        have hL' : kr_L x (kw_ul m 0 36 g) := hL
        have hD' : kr_D x (kw_ul m 0 36 g) := hD
        rw [if_neg (show ¬ (6 : Int32).toInt < w.toInt by omega), if_neg (show ¬ (6 : Int32).toInt < w.toInt by omega), ← kt_trait hL' hD' i w i0 i1, kq_mix]
        exact ih n' _ _ (by omega) (by omega) (by omega) (by omega)
      · rw [if_pos (show (6 : Int32).toInt < w.toInt by omega), if_pos (show (6 : Int32).toInt < w.toInt by omega)]
        exact hk g
theorem kq_lines {x m : kw_S} (hX : kw_I bX x) (hL : kr_L x m) (hD : kr_D x m) : ∀ (n n' : Nat) (g : Int64) (i : Int32), 0 ≤ i.toInt → i.toInt ≤ (x.1 17 5).toInt → (6 - i.toInt).toNat < n → (6 - i.toInt).toNat < n' → ∃ g' : Int64, l_X8_mixTown_0_18 n' i (kw_ul m 0 36 g) = kw_ul m 0 36 g' ∧ l_X7_digest_0_63 x n g i = f_X3_fold_2 x (f_X3_fold_1 x g') := by
  have l2 := hL.2.1
  intro n
  induction n with
  | zero => intro n' g i _ _ f _; exact absurd f (Nat.not_lt_zero _)
  | succ n ih =>
    intro n' g i i0 i1 f1 f2
    cases n' with
    | zero => exact absurd f2 (Nat.not_lt_zero _)
    | succ n' =>
      rw [l_X8_mixTown_0_18_s, l_X7_digest_0_63_s, show (kw_ul m 0 36 g).1 0 10 = x.1 17 5 from hL.1.symm]
      by_cases hi : i.toInt < (x.1 17 5).toInt
      · have z := kp_inc i (by omega)
        rw [if_pos hi, if_pos hi]
        exact kq_traits hL hD i i0 hi _ _ (fun g => ih n' g _ (by omega) (by omega) (by omega) (by omega)) _ _ g 0 (by decide) (by decide) (by decide) (by decide)
      · rw [if_neg hi, if_neg hi]
        exact kq_kept hX hD _ _ g 0 (by decide) (by decide) (by decide) (by decide)
theorem kq_counts {x m : kw_S} (hX : kw_I bX x) (hT : kr_T x m) (hL : kr_L x m) (hD : kr_D x m) (hW : kr_W x m) : ∀ (n n' : Nat) (g : Int64) (w : Int32), 0 ≤ w.toInt → w.toInt ≤ 10 → (10 - w.toInt).toNat < n → (10 - w.toInt).toNat < n' → (l_X8_digest_0_9 n' w (kw_ul m 0 36 g)).1 = l_X7_digest_0_6 x n g w := by
  have q9 : (9 : Int32).toInt = 9 := rfl
  have l2 := hL.2.1
  intro n
  induction n with
  | zero => intro n' g w _ _ f _; exact absurd f (Nat.not_lt_zero _)
  | succ n ih =>
    intro n' g w w0 w1 f1 f2
    cases n' with
    | zero => exact absurd f2 (Nat.not_lt_zero _)
    | succ n' =>
      rw [l_X8_digest_0_9_s, l_X7_digest_0_6_s]
      simp only [kf_lx]
      by_cases hw : w.toInt < 10
      · have z := kp_inc w (by omega)
        have hT' : kr_T x (kw_ul m 0 36 g) := hT
        have hL' : kr_L x (kw_ul m 0 36 g) := hL
        have hD' : kr_D x (kw_ul m 0 36 g) := hD
        have hW' : kr_W x (kw_ul m 0 36 g) := hW
        rw [if_neg (show ¬ (9 : Int32).toInt < w.toInt by omega), if_neg (show ¬ (9 : Int32).toInt < w.toInt by omega), ← kt_count hT' hL' hD' hW' w w0 (by omega), kq_mix]
        exact ih n' _ _ (by omega) (by omega) (by omega) (by omega)
      · rw [if_pos (show (9 : Int32).toInt < w.toInt by omega), if_pos (show (9 : Int32).toInt < w.toInt by omega), f_X8_mixTown_0_u]
        simp only [kf_lx]
        rw [show (kw_ul m 0 36 g).1 0 23 = x.1 4 6 from hD.2.2.2.2.1.2.1, kq_mix, show ∀ v : Int64, (kw_ul m 0 36 v).1 0 24 = x.1 4 7 from fun _ => hD.2.2.2.2.1.2.2.1, kq_mix]
        obtain ⟨g', a1, a2⟩ := kq_lines hX hL hD ((7 - (0 : Int32).toInt).toNat + 1) ((7 - (0 : Int32).toInt).toNat + 1) (31 * (31 * g + (x.1 4 6).toInt64) + (x.1 4 7).toInt64) 0 (by decide) (by rw [kp_q0]; exact l2.1) (by decide) (by decide)
        rw [a1, a2, f_X3_fold_2_u, f_X3_fold_1_u]
        have A2 := fun g : Int64 => kq_fold2 hT hX (l_X3_fold_1_5 g' x ((10 - (0 : Int32).toInt).toNat + 1) g' 0) (fun g => (g, kw_ul m 0 36 g)) (fun g => by rw [kp_ul2, if_pos ⟨rfl, rfl⟩]) ((10 - (0 : Int32).toInt).toNat + 1) ((5 - (0 : Int32).toInt).toNat + 1) g 0 (by decide) (by decide) (by decide) (by decide)
        have A1 := kq_fold1 hW hX g' (fun g => l_X8_digest_0_101 ((5 - (0 : Int32).toInt).toNat + 1) 0 (kw_ul m 0 36 g)) (fun g => rfl) ((10 - (0 : Int32).toInt).toNat + 1) ((7 - (0 : Int32).toInt).toNat + 1) g' 0 (by decide) (by decide) (by decide) (by decide)
        rw [A1]
        show (l_X8_digest_0_101 ((5 - (0 : Int32).toInt).toNat + 1) 0 (kw_ul m 0 36 (l_X3_fold_1_5 g' x ((10 - (0 : Int32).toInt).toNat + 1) g' 0))).1 = _
        rw [A2]
theorem kr_digest {x m t : kw_S} {r q : Int64} (hX : kw_I bX x) (hT : kr_T x m) (hL : kr_L x m) (hD : kr_D x m) (hW : kr_W x m) (e1 : r = f_X7_digest_0 x) (e2 : (q, t) = f_X8_digest_0 m) : r = q := by
  rw [f_X7_digest_0_u] at e1
  rw [f_X8_digest_0_u] at e2
  have h := kq_counts hX hT hL hD hW ((11 - (0 : Int32).toInt).toNat + 1) ((11 - (0 : Int32).toInt).toNat + 1) 17 0 (by decide) (by decide) (by decide) (by decide)
  rw [← e2, ← e1] at h
  exact h.symm
