theorem kw_sub {l : Launch} {d : Nat} {E : kw_E} {K : List kw_K1} {M : kw_M} {P : Option Value → kw_S → Prop} {pc : Nat} {lv lv' : List (Nat × Value)} {st : List Value} {σ : kw_S} (ks : List Nat) (hl : lv_pick lv ks = lv') (h : kw_AW l d E K M P pc lv' st σ) : kw_AW l d E K M P pc lv st σ := by
  intro p e R s m args below meth c H locs cells slots Q ls G A Cx Sx Rx Fx
  refine h p e R s m args below meth c H locs cells slots Q ls G A Cx ⟨Sx.1, Sx.2.1, Sx.2.2.1, lv_sub Sx.2.2.2 ks ?_⟩ Rx Fx
  rw [← hl]
  simp only [lv_pick, List.getElem?_map, List.map_filterMap]
theorem kw_iinc' {l : Launch} {d : Nat} {E : kw_E} {K : List kw_K1} {M : kw_M} {P : Option Value → kw_S → Prop} {pc : Nat} {lv : List (Nat × Value)} {st : List Value} {σ : kw_S} {i n k : Nat} {by_ : Int} {x : Int32} (lv' : Int32 → List (Nat × Value)) (hi : M.2[i]? = some (pc, .iinc n by_, 3)) (hk : lv[k]? = some (n, .int x)) (hn : n < M.1.2.2.2.1) (hb : (Int32.ofInt by_).toInt = by_) (hl : ∀ z : Int32, (n, .int z) :: lv.filter (fun q => !(q.1 == n) && !(q.1 + 1 == n && q.2.category == 2)) = lv' z) (h : ∀ z : Int32, z = x + Int32.ofInt by_ → z.toInt = (x.toInt + by_ + 2147483648) % 4294967296 - 2147483648 → kw_AW l d E K M P (pc + 3) (lv' z) st σ) : kw_AW l d E K M P pc lv st σ :=
  kw_iinc hi hk hn hb (fun z h1 h2 => by rw [hl z]; exact h z h1 h2)
theorem kw_remI (x y z : Int32) (h : z = x - x / y * y) : 0 ≤ x.toInt → 0 < y.toInt → 0 ≤ z.toInt ∧ z.toInt < y.toInt := by
  intro hx hy
  have e0 : (0 : Int32).toInt = 0 := rfl
  have hx' : ¬ x < 0 := fun q => by have := Int32.lt_iff_toInt_lt.mp q; omega
  have hy' : ¬ y < 0 := fun q => by have := Int32.lt_iff_toInt_lt.mp q; omega
  obtain ⟨a, ha, rfl⟩ := nI_of hx'
  obtain ⟨d, hd, rfl⟩ := nI_of hy'
  rw [nI_toInt hd] at hy ⊢
  have hd0 : 0 < d := by omega
  rw [pk_rem ha hd0 hd] at h
  subst h
  have hm := Nat.mod_lt a hd0
  rw [nI_toInt (by omega)]
  omega
theorem kw_mmax {l : Launch} {d : Nat} {E : kw_E} {K : List kw_K1} {M : kw_M} {P : Option Value → kw_S → Prop} {pc : Nat} {lv : List (Nat × Value)} {st : List Value} {σ : kw_S} {i idx : Nat} {x y : Int32} (hi : M.2[i]? = some (pc, .invokestatic idx, 3)) (hl : Cond.methodLink M.1.1 idx Lib.Math.max.name ∈ kw_ws ∧ Cond.static Lib.Math.max.name ∈ kw_ws ∧ Cond.initialized "java/lang/Math" ∈ kw_ws ∧ Cond.code Lib.Math.max.name Lib.Math.max.code 2 (some .int) ∈ kw_ws) (hd : 0 < d) (hc : (st.map fun v => v.category).sum ≤ 8)
    (h : ∀ z : Int32, z = (if x < y then y else x) → (z.toInt = x.toInt ∧ y.toInt ≤ x.toInt ∨ z.toInt = y.toInt ∧ x.toInt < y.toInt) → kw_AW l d E K M P (pc + 3) lv (.int z :: st) σ) : kw_AW l d E K M P pc lv (.int y :: .int x :: st) σ := by
  intro p e R s m args below meth c H locs cells slots Q ls G A Cx Sx Rx Fx
  have hts := Cx.2.2.2.2.2.2.1
  refine va_mmax Cx.1 Cx.2.1 (Cx.2.2.2.2.1.trans Sx.2.2.2.1.symm) Cx.2.2.2.2.2.1 (hts _ hl.1) (hts _ hl.2.1) (hts _ hl.2.2.1) (hts _ hl.2.2.2) (by omega) (by rw [kw_catsum]; omega) Rx.2.2.1 Rx.2.2.2 (kw_dec Cx hi) (h _ rfl ?_ p e R s m args below meth c H locs cells slots Q ls G A Cx Sx Rx Fx)
  by_cases q : x < y
  · rw [if_pos q]; exact Or.inr ⟨rfl, kw_ltI q⟩
  · rw [if_neg q]; exact Or.inl ⟨rfl, kw_nltI q⟩
theorem kw_mmin {l : Launch} {d : Nat} {E : kw_E} {K : List kw_K1} {M : kw_M} {P : Option Value → kw_S → Prop} {pc : Nat} {lv : List (Nat × Value)} {st : List Value} {σ : kw_S} {i idx : Nat} {x y : Int32} (hi : M.2[i]? = some (pc, .invokestatic idx, 3)) (hl : Cond.methodLink M.1.1 idx Lib.Math.min.name ∈ kw_ws ∧ Cond.static Lib.Math.min.name ∈ kw_ws ∧ Cond.initialized "java/lang/Math" ∈ kw_ws ∧ Cond.code Lib.Math.min.name Lib.Math.min.code 2 (some .int) ∈ kw_ws) (hd : 0 < d) (hc : (st.map fun v => v.category).sum ≤ 8)
    (h : ∀ z : Int32, z = (if y < x then y else x) → (z.toInt = x.toInt ∧ x.toInt ≤ y.toInt ∨ z.toInt = y.toInt ∧ y.toInt < x.toInt) → kw_AW l d E K M P (pc + 3) lv (.int z :: st) σ) : kw_AW l d E K M P pc lv (.int y :: .int x :: st) σ := by
  intro p e R s m args below meth c H locs cells slots Q ls G A Cx Sx Rx Fx
  have hts := Cx.2.2.2.2.2.2.1
  refine va_mmin Cx.1 Cx.2.1 (Cx.2.2.2.2.1.trans Sx.2.2.2.1.symm) Cx.2.2.2.2.2.1 (hts _ hl.1) (hts _ hl.2.1) (hts _ hl.2.2.1) (hts _ hl.2.2.2) (by omega) (by rw [kw_catsum]; omega) Rx.2.2.1 Rx.2.2.2 (kw_dec Cx hi) (h _ rfl ?_ p e R s m args below meth c H locs cells slots Q ls G A Cx Sx Rx Fx)
  by_cases q : y < x
  · rw [if_pos q]; exact Or.inr ⟨rfl, kw_ltI q⟩
  · rw [if_neg q]; exact Or.inl ⟨rfl, kw_nltI q⟩
theorem kw_mabsl {l : Launch} {d : Nat} {E : kw_E} {K : List kw_K1} {M : kw_M} {P : Option Value → kw_S → Prop} {pc : Nat} {lv : List (Nat × Value)} {st : List Value} {σ : kw_S} {i idx : Nat} {x : Int64} (hi : M.2[i]? = some (pc, .invokestatic idx, 3)) (hl : Cond.methodLink M.1.1 idx Lib.MathLoose.abs_long.x ∈ kw_ws ∧ Cond.static Lib.MathLoose.abs_long.x ∈ kw_ws ∧ Cond.initialized "java/lang/Math" ∈ kw_ws ∧ Cond.code Lib.MathLoose.abs_long.x Lib.MathLoose.abs_long.code 2 (some .long) ∈ kw_ws) (hd : 0 < d) (hc : (st.map fun v => v.category).sum ≤ 8)
    (h : ∀ z : Int64, z = (if 0 < x then x else -x) → kw_AW l d E K M P (pc + 3) lv (.long z :: st) σ) : kw_AW l d E K M P pc lv (.long x :: st) σ := by
  intro p e R s m args below meth c H locs cells slots Q ls G A Cx Sx Rx Fx
  have hts := Cx.2.2.2.2.2.2.1
  exact va_mabs_long Cx.1 Cx.2.1 (Cx.2.2.2.2.1.trans Sx.2.2.2.1.symm) Cx.2.2.2.2.2.1 (hts _ hl.1) (hts _ hl.2.1) (hts _ hl.2.2.1) (hts _ hl.2.2.2) (by omega) (by rw [kw_catsum]; omega) Rx.2.2.1 Rx.2.2.2 (kw_dec Cx hi) (h _ rfl p e R s m args below meth c H locs cells slots Q ls G A Cx Sx Rx Fx)
theorem jX7_352 : Cond.methodLink RX7 352 Lib.Math.max.name ∈ kw_ws ∧ Cond.static Lib.Math.max.name ∈ kw_ws ∧ Cond.initialized "java/lang/Math" ∈ kw_ws ∧ Cond.code Lib.Math.max.name Lib.Math.max.code 2 (some .int) ∈ kw_ws := ⟨kmX7_352, wTJ9_max_7cf53, wNJ9, wCJ9_max_7cf53⟩
theorem jX1_56 : Cond.methodLink RX1 56 Lib.Math.max.name ∈ kw_ws ∧ Cond.static Lib.Math.max.name ∈ kw_ws ∧ Cond.initialized "java/lang/Math" ∈ kw_ws ∧ Cond.code Lib.Math.max.name Lib.Math.max.code 2 (some .int) ∈ kw_ws := ⟨kmX1_56, wTJ9_max_7cf53, wNJ9, wCJ9_max_7cf53⟩
theorem jX7_357 : Cond.methodLink RX7 357 Lib.Math.min.name ∈ kw_ws ∧ Cond.static Lib.Math.min.name ∈ kw_ws ∧ Cond.initialized "java/lang/Math" ∈ kw_ws ∧ Cond.code Lib.Math.min.name Lib.Math.min.code 2 (some .int) ∈ kw_ws := ⟨kmX7_357, wTJ9_min_7cf53, wNJ9, wCJ9_min_7cf53⟩
theorem jX6_28 : Cond.methodLink RX6 28 Lib.Math.min.name ∈ kw_ws ∧ Cond.static Lib.Math.min.name ∈ kw_ws ∧ Cond.initialized "java/lang/Math" ∈ kw_ws ∧ Cond.code Lib.Math.min.name Lib.Math.min.code 2 (some .int) ∈ kw_ws := ⟨kmX6_28, wTJ9_min_7cf53, wNJ9, wCJ9_min_7cf53⟩
theorem jX4_29 : Cond.methodLink RX4 29 Lib.MathLoose.abs_long.x ∈ kw_ws ∧ Cond.static Lib.MathLoose.abs_long.x ∈ kw_ws ∧ Cond.initialized "java/lang/Math" ∈ kw_ws ∧ Cond.code Lib.MathLoose.abs_long.x Lib.MathLoose.abs_long.code 2 (some .long) ∈ kw_ws := ⟨kmX4_29, wTJ9_abs_067f4, wNJ9, wCJ9_abs_067f4⟩
theorem kw_shl1 (z x : Int32) (h : z = x <<< (1 &&& 31)) : 0 ≤ x.toInt → x.toInt ≤ 64 → z.toInt = 2 * x.toInt := by
  intro h0 h1
  have e0 : (0 : Int32).toInt = 0 := rfl
  have hx : ¬ x < 0 := fun q => by have := Int32.lt_iff_toInt_lt.mp q; omega
  obtain ⟨a, ha, rfl⟩ := nI_of hx
  rw [nI_toInt ha] at h1 ⊢
  subst h
  have key : ∀ a, a < 65 → (nI a <<< (1 &&& 31)).toInt = 2 * (a : Int) := by decide +kernel
  exact key a (by omega)
def kw_pw (i s : Int) : Prop := s = 2 ^ i.toNat
theorem kw_pw0 : kw_pw 0 1 := rfl
theorem kw_pwS {i s i' s' : Int} (h : kw_pw i s) (h0 : 0 ≤ i) (h1 : i' = i + 1) (h2 : s' = 2 * s) : kw_pw i' s' := by
  unfold kw_pw at h ⊢
  subst h1; subst h2; subst h
  rw [show (i + 1).toNat = i.toNat + 1 by omega, Int.pow_succ]
  omega
theorem kw_pwB {i s : Int} (h : kw_pw i s) (h0 : 0 ≤ i) (h1 : i ≤ 6) : 1 ≤ s ∧ s ≤ 64 := by
  unfold kw_pw at h
  subst h
  have key : ∀ n : Nat, n < 7 → 1 ≤ (2 : Int) ^ n ∧ (2 : Int) ^ n ≤ 64 := by decide +kernel
  exact key i.toNat (by omega)
