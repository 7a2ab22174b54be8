/-! ===== told: finding, findings, asked, upper, lower ===== -/
theorem kq_at (σ : kw_S) (a i : Nat) (v : Int32) (j : Nat) : (kw_ui σ a i v).1 a j = if j = i then v else σ.1 a j := by
  rw [kp_ui]
  by_cases e : j = i
  · rw [if_pos ⟨rfl, e⟩, if_pos e]
  · rw [if_neg (fun q => e q.2), if_neg e]
theorem kq_off (σ : kw_S) (a i : Nat) (v : Int32) (b : Nat) (h : b ≠ a) : (kw_ui σ a i v).1 b = σ.1 b := by
  funext j
  rw [kp_ui, if_neg (fun q => h q.1)]
def kq_F (x m : kw_S) : Prop := x.1 8 1 = m.1 0 0 ∧ ∀ j : Nat, 1 ≤ j → j ≤ 5 → x.1 28 j = m.1 1 j
def kq_A (x m : kw_S) : Prop := x.1 8 2 = m.1 0 2
def kq_U (x m : kw_S) : Prop := x.2 8 3 = m.2 0 3 ∧ x.2 8 4 = m.2 0 4
def kq (x m s t : kw_S) : Prop := (kq_F x m → kq_F s t) ∧ (kq_A x m → kq_A s t) ∧ (kq_U x m → kq_U s t)
theorem kq.rf {x m : kw_S} : kq x m x m := ⟨fun h => h, fun h => h, fun h => h⟩
theorem kq.tr {x m s t u v : kw_S} (h : kq x m s t) (g : kq s t u v) : kq x m u v := ⟨fun a => g.1 (h.1 a), fun a => g.2.1 (h.2.1 a), fun a => g.2.2 (h.2.2 a)⟩
theorem kq.cong {x m s t : kw_S} (h8 : s.1 8 = x.1 8) (h28 : s.1 28 = x.1 28) (l8 : s.2 8 = x.2 8) (m0 : t.1 0 0 = m.1 0 0) (m2 : t.1 0 2 = m.1 0 2) (m1 : t.1 1 = m.1 1) (l3 : t.2 0 3 = m.2 0 3) (l4 : t.2 0 4 = m.2 0 4) : kq x m s t := by
  unfold kq kq_F kq_A kq_U
  rw [h8, h28, l8, m0, m2, m1, l3, l4]
  exact ⟨fun h => h, fun h => h, fun h => h⟩
theorem kq.fr {L L' : List Nat} {x m s t : kw_S} (F1 : kw_F L x s) (F2 : kw_FM L' m t) (h1 : 8 ∉ L ∧ 28 ∉ L) (h2 : 1 ∉ L' ∧ 1000 ∉ L' ∧ 1002 ∉ L' ∧ 2003 ∉ L' ∧ 2004 ∉ L') : kq x m s t :=
  kq.cong (F1 8 h1.1).1 (F1 28 h1.2).1 (F1 8 h1.1).2 (F2.2.1 0 h2.2.1) (F2.2.1 2 h2.2.2.1) (F2.1 1 (by decide) h2.1) (F2.2.2 3 h2.2.2.2.1) (F2.2.2 4 h2.2.2.2.2)
theorem kq.no (x m : kw_S) (f : Int32) (f0 : 1 ≤ f.toInt) (f5 : f.toInt ≤ 5) : kq x m (f_X4_refuse_8 x f).2 (f_X8_meet_0 m f).2 := by
  have c := kw_clampI (x := f) (by omega)
  rw [f_X4_refuse_8_u, f_X8_meet_0_u, if_neg (show ¬ f.toInt < (1 : Int32).toInt by rw [kp_q1]; omega), if_neg (show ¬ (5 : Int32).toInt < f.toInt by rw [show (5 : Int32).toInt = 5 from rfl]; omega)]
  simp only [kf_lx]
  refine ⟨fun h => ⟨?_, fun j j1 j5 => ?_⟩, fun h => ?_, fun h => h⟩
  · rw [kq_off _ 28 _ _ 8 (by decide), kq_at, if_pos rfl, kq_off _ 1 _ _ 0 (by decide), kq_at, if_pos rfl]
  · have hj := h.2 j j1 j5
    have hf := h.2 f.toNatClampNeg (by omega) (by omega)
    rw [kq_at, kq_at, kq_off _ 8 _ _ 28 (by decide), kq_off _ 0 _ _ 1 (by decide), hj, hf]
  · show (kw_ui (kw_ui x 8 1 f) 28 f.toNatClampNeg _).1 8 2 = (kw_ui (kw_ui m 0 0 f) 1 f.toNatClampNeg _).1 0 2
    rw [kq_off _ 28 _ _ 8 (by decide), kq_at, if_neg (by decide), kq_off _ 1 _ _ 0 (by decide), kq_at, if_neg (by decide)]
    exact h
theorem kq.ans (x m : kw_S) (v : Int32) : kq x m (kw_ui x 8 2 v) (kw_ui m 0 2 v) := by
  refine ⟨fun h => ⟨?_, fun j j1 j5 => ?_⟩, fun h => ?_, fun h => h⟩
  · rw [kq_at, if_neg (by decide), kq_at, if_neg (by decide)]; exact h.1
  · rw [kq_off _ 8 _ _ 28 (by decide), kq_off _ 0 _ _ 1 (by decide)]; exact h.2 j j1 j5
  · show (kw_ui x 8 2 v).1 8 2 = (kw_ui m 0 2 v).1 0 2
    rw [kq_at, if_pos rfl, kq_at, if_pos rfl]
theorem kq_ul {x m : kw_S} (a b : Int64) : kq x m (kw_ul (kw_ul x 8 3 a) 8 4 b) (kw_ul (kw_ul m 0 3 a) 0 4 b) := by
  refine ⟨fun h => h, fun h => h, fun h => ⟨?_, ?_⟩⟩
  · rw [kp_ul2, if_neg (by decide), kp_ul2, if_pos ⟨rfl, rfl⟩, kp_ul2, if_neg (by decide), kp_ul2, if_pos ⟨rfl, rfl⟩]
  · rw [kp_ul2, if_pos ⟨rfl, rfl⟩, kp_ul2, if_pos ⟨rfl, rfl⟩]
theorem kq_part (S : kw_S) (z : Int64) : f_X8_part_0 S z 1 = (1, kw_ul (kw_ul S 0 3 z) 0 4 1) := by
  have L : ∀ (a : Int64), l_X8_part_0_17 z 1 S 2 a 1 = (1, kw_ul (kw_ul S 0 3 z) 0 4 1) := by
    intro a
    rw [l_X8_part_0_17_s]
    simp only [kf_lx]
    have h := kw_lcmpI 1 0
    rw [if_neg (show ¬ (lg_cmp 1 0).toInt = 0 from fun q => absurd (h.2.2.mp q) (by decide)), l_X8_part_0_17_s]
    simp only [kf_lx]
    have e : a - a / 1 * 1 = 0 := by rw [Int64.div_one, Int64.mul_one, Int64.sub_self]
    rw [e]
    have h2 := kw_lcmpI 0 0
    rw [if_pos (h2.2.2.mpr rfl), Int64.div_one, Int64.div_one]
  rw [f_X8_part_0_u]
  simp only [kf_lx]
  have f : ((if 0 ≤ (1 : Int64).toInt then (1 : Int64).toInt else -(1 : Int64).toInt)).toNat + 1 = 2 := by decide
  rw [f]
  by_cases h : (lg_cmp z 0).toInt < 0
  · rw [if_pos h]; exact L _
  · rw [if_neg h]; exact L _
/-- a whole number and an answer, told alike -/
theorem kq.both (x m : kw_S) (v : Int64) (w : Int32) : kq x m (kw_ui (f_X4_tellWhole_8 x v) 8 2 w) (kw_ui (kw_ul (kw_ul m 0 3 v) 0 4 1) 0 2 w) := by
  rw [f_X4_tellWhole_8_u]
  exact (kq_ul v 1).tr (kq.ans _ _ w)
theorem kq_mixF {σ s t : kw_S} (h : kq_F s t) : kq_F (kw_mixM (kw_mixX σ s) t) t := h
theorem kq_mixA {σ s t : kw_S} (h : kq_A s t) : kq_A (kw_mixM (kw_mixX σ s) t) t := h
theorem kq_mixU {σ s t : kw_S} (h : kq_U s t) : kq_U (kw_mixM (kw_mixX σ s) t) t := h
