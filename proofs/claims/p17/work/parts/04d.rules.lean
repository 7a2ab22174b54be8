section KWR
variable {l : Launch} {d : Nat} {E : kw_E} {K : List kw_K1} {M : kw_M} {P : Option Value → kw_S → Prop} {pc : Nat} {lv : List (Nat × Value)} {st : List Value} {σ : kw_S}
theorem kw_iadd {i : Nat} {x y : Int32} (hi : M.2[i]? = some (pc, .iadd, 1))  (h : ∀ z : Int32, z = x + y → z.toInt = (x.toInt + y.toInt + 2147483648) % 4294967296 - 2147483648 → kw_AW l d E K M P (pc + 1) lv (.int z :: st) σ) : kw_AW l d E K M P pc lv (.int y :: .int x :: st) σ := by
  intro p e R s m args below meth c H locs cells slots Q ls G A Cx Sx Rx Fx
  exact lv_iadd Cx.1 Cx.2.1 (kw_dec Cx hi) (h _ rfl (kw_addI x y) p e R s m args below meth c H locs cells slots Q ls G A Cx Sx Rx Fx)
theorem kw_isub {i : Nat} {x y : Int32} (hi : M.2[i]? = some (pc, .isub, 1))  (h : ∀ z : Int32, z = x - y → z.toInt = (x.toInt - y.toInt + 2147483648) % 4294967296 - 2147483648 → kw_AW l d E K M P (pc + 1) lv (.int z :: st) σ) : kw_AW l d E K M P pc lv (.int y :: .int x :: st) σ := by
  intro p e R s m args below meth c H locs cells slots Q ls G A Cx Sx Rx Fx
  exact lv_isub Cx.1 Cx.2.1 (kw_dec Cx hi) (h _ rfl (kw_subI x y) p e R s m args below meth c H locs cells slots Q ls G A Cx Sx Rx Fx)
theorem kw_imul {i : Nat} {x y : Int32} (hi : M.2[i]? = some (pc, .imul, 1))  (h : ∀ z : Int32, z = x * y → z.toInt = (x.toInt * y.toInt + 2147483648) % 4294967296 - 2147483648 → kw_AW l d E K M P (pc + 1) lv (.int z :: st) σ) : kw_AW l d E K M P pc lv (.int y :: .int x :: st) σ := by
  intro p e R s m args below meth c H locs cells slots Q ls G A Cx Sx Rx Fx
  exact lv_imul Cx.1 Cx.2.1 (kw_dec Cx hi) (h _ rfl (kw_mulI x y) p e R s m args below meth c H locs cells slots Q ls G A Cx Sx Rx Fx)
theorem kw_ineg {i : Nat} {x : Int32} (hi : M.2[i]? = some (pc, .ineg, 1))  (h : ∀ z : Int32, z = -x → z.toInt = (-x.toInt + 2147483648) % 4294967296 - 2147483648 → kw_AW l d E K M P (pc + 1) lv (.int z :: st) σ) : kw_AW l d E K M P pc lv (.int x :: st) σ := by
  intro p e R s m args below meth c H locs cells slots Q ls G A Cx Sx Rx Fx
  exact lv_ineg Cx.1 Cx.2.1 (kw_dec Cx hi) (h _ rfl (kw_negI x) p e R s m args below meth c H locs cells slots Q ls G A Cx Sx Rx Fx)
theorem kw_iand {i : Nat} {x y : Int32} (hi : M.2[i]? = some (pc, .iand, 1))  (h : ∀ z : Int32, z = x &&& y → kw_AW l d E K M P (pc + 1) lv (.int z :: st) σ) : kw_AW l d E K M P pc lv (.int y :: .int x :: st) σ := by
  intro p e R s m args below meth c H locs cells slots Q ls G A Cx Sx Rx Fx
  exact lv_iand Cx.1 Cx.2.1 (kw_dec Cx hi) (h _ rfl p e R s m args below meth c H locs cells slots Q ls G A Cx Sx Rx Fx)
theorem kw_ior {i : Nat} {x y : Int32} (hi : M.2[i]? = some (pc, .ior, 1))  (h : ∀ z : Int32, z = x ||| y → kw_AW l d E K M P (pc + 1) lv (.int z :: st) σ) : kw_AW l d E K M P pc lv (.int y :: .int x :: st) σ := by
  intro p e R s m args below meth c H locs cells slots Q ls G A Cx Sx Rx Fx
  exact lv_ior Cx.1 Cx.2.1 (kw_dec Cx hi) (h _ rfl p e R s m args below meth c H locs cells slots Q ls G A Cx Sx Rx Fx)
theorem kw_ixor {i : Nat} {x y : Int32} (hi : M.2[i]? = some (pc, .ixor, 1))  (h : ∀ z : Int32, z = x ^^^ y → kw_AW l d E K M P (pc + 1) lv (.int z :: st) σ) : kw_AW l d E K M P pc lv (.int y :: .int x :: st) σ := by
  intro p e R s m args below meth c H locs cells slots Q ls G A Cx Sx Rx Fx
  exact lv_ixor Cx.1 Cx.2.1 (kw_dec Cx hi) (h _ rfl p e R s m args below meth c H locs cells slots Q ls G A Cx Sx Rx Fx)
theorem kw_ishl {i : Nat} {x y : Int32} (hi : M.2[i]? = some (pc, .ishl, 1))  (h : ∀ z : Int32, z = x <<< (y &&& 31) → kw_AW l d E K M P (pc + 1) lv (.int z :: st) σ) : kw_AW l d E K M P pc lv (.int y :: .int x :: st) σ := by
  intro p e R s m args below meth c H locs cells slots Q ls G A Cx Sx Rx Fx
  exact lv_ishl Cx.1 Cx.2.1 (kw_dec Cx hi) (h _ rfl p e R s m args below meth c H locs cells slots Q ls G A Cx Sx Rx Fx)
theorem kw_ishr {i : Nat} {x y : Int32} (hi : M.2[i]? = some (pc, .ishr, 1))  (h : ∀ z : Int32, z = x >>> (y &&& 31) → kw_AW l d E K M P (pc + 1) lv (.int z :: st) σ) : kw_AW l d E K M P pc lv (.int y :: .int x :: st) σ := by
  intro p e R s m args below meth c H locs cells slots Q ls G A Cx Sx Rx Fx
  exact lv_ishr Cx.1 Cx.2.1 (kw_dec Cx hi) (h _ rfl p e R s m args below meth c H locs cells slots Q ls G A Cx Sx Rx Fx)
theorem kw_iushr {i : Nat} {x y : Int32} (hi : M.2[i]? = some (pc, .iushr, 1))  (h : ∀ z : Int32, z = (x.toUInt32 >>> (y.toUInt32 &&& Int32.toUInt32 31)).toInt32 → kw_AW l d E K M P (pc + 1) lv (.int z :: st) σ) : kw_AW l d E K M P pc lv (.int y :: .int x :: st) σ := by
  intro p e R s m args below meth c H locs cells slots Q ls G A Cx Sx Rx Fx
  exact lv_iushr Cx.1 Cx.2.1 (kw_dec Cx hi) rfl (h _ rfl p e R s m args below meth c H locs cells slots Q ls G A Cx Sx Rx Fx)
theorem kw_ne0 {y : Int32} (h : y.toInt ≠ 0) : ¬ y = 0 := fun q => h (by rw [q]; rfl)
theorem kw_ne0L {y : Int64} (h : y.toInt ≠ 0) : ¬ y = 0 := fun q => h (by rw [q]; rfl)
theorem kw_idiv {i : Nat} {x y : Int32} (hi : M.2[i]? = some (pc, .idiv, 1)) (hy : y.toInt ≠ 0) (h : ∀ z : Int32, z = x / y → kw_AW l d E K M P (pc + 1) lv (.int z :: st) σ) : kw_AW l d E K M P pc lv (.int y :: .int x :: st) σ := by
  intro p e R s m args below meth c H locs cells slots Q ls G A Cx Sx Rx Fx
  exact lv_idiv Cx.1 Cx.2.1 (kw_dec Cx hi) (kw_ne0 hy) (h _ rfl p e R s m args below meth c H locs cells slots Q ls G A Cx Sx Rx Fx)
theorem kw_irem {i : Nat} {x y : Int32} (hi : M.2[i]? = some (pc, .irem, 1)) (hy : y.toInt ≠ 0) (h : ∀ z : Int32, z = x - x / y * y → kw_AW l d E K M P (pc + 1) lv (.int z :: st) σ) : kw_AW l d E K M P pc lv (.int y :: .int x :: st) σ := by
  intro p e R s m args below meth c H locs cells slots Q ls G A Cx Sx Rx Fx
  exact lv_irem Cx.1 Cx.2.1 (kw_dec Cx hi) (kw_ne0 hy) (h _ rfl p e R s m args below meth c H locs cells slots Q ls G A Cx Sx Rx Fx)
theorem kw_ladd {i : Nat} {x y : Int64} (hi : M.2[i]? = some (pc, .ladd, 1))  (h : ∀ z : Int64, z = x + y → kw_AW l d E K M P (pc + 1) lv (.long z :: st) σ) : kw_AW l d E K M P pc lv (.long y :: .long x :: st) σ := by
  intro p e R s m args below meth c H locs cells slots Q ls G A Cx Sx Rx Fx
  exact lv_ladd Cx.1 Cx.2.1 (kw_dec Cx hi) (h _ rfl p e R s m args below meth c H locs cells slots Q ls G A Cx Sx Rx Fx)
theorem kw_lsub {i : Nat} {x y : Int64} (hi : M.2[i]? = some (pc, .lsub, 1))  (h : ∀ z : Int64, z = x - y → kw_AW l d E K M P (pc + 1) lv (.long z :: st) σ) : kw_AW l d E K M P pc lv (.long y :: .long x :: st) σ := by
  intro p e R s m args below meth c H locs cells slots Q ls G A Cx Sx Rx Fx
  exact lv_lsub Cx.1 Cx.2.1 (kw_dec Cx hi) (h _ rfl p e R s m args below meth c H locs cells slots Q ls G A Cx Sx Rx Fx)
theorem kw_lmul {i : Nat} {x y : Int64} (hi : M.2[i]? = some (pc, .lmul, 1))  (h : ∀ z : Int64, z = x * y → kw_AW l d E K M P (pc + 1) lv (.long z :: st) σ) : kw_AW l d E K M P pc lv (.long y :: .long x :: st) σ := by
  intro p e R s m args below meth c H locs cells slots Q ls G A Cx Sx Rx Fx
  exact lv_lmul Cx.1 Cx.2.1 (kw_dec Cx hi) (h _ rfl p e R s m args below meth c H locs cells slots Q ls G A Cx Sx Rx Fx)
theorem kw_lneg {i : Nat} {x : Int64} (hi : M.2[i]? = some (pc, .lneg, 1))  (h : ∀ z : Int64, z = -x → kw_AW l d E K M P (pc + 1) lv (.long z :: st) σ) : kw_AW l d E K M P pc lv (.long x :: st) σ := by
  intro p e R s m args below meth c H locs cells slots Q ls G A Cx Sx Rx Fx
  exact lv_lneg Cx.1 Cx.2.1 (kw_dec Cx hi) (h _ rfl p e R s m args below meth c H locs cells slots Q ls G A Cx Sx Rx Fx)
theorem kw_ldiv {i : Nat} {x y : Int64} (hi : M.2[i]? = some (pc, .ldiv, 1)) (hy : y.toInt ≠ 0) (h : ∀ z : Int64, z = x / y → kw_AW l d E K M P (pc + 1) lv (.long z :: st) σ) : kw_AW l d E K M P pc lv (.long y :: .long x :: st) σ := by
  intro p e R s m args below meth c H locs cells slots Q ls G A Cx Sx Rx Fx
  exact lv_ldiv Cx.1 Cx.2.1 (kw_dec Cx hi) (kw_ne0L hy) (h _ rfl p e R s m args below meth c H locs cells slots Q ls G A Cx Sx Rx Fx)
theorem kw_lrem {i : Nat} {x y : Int64} (hi : M.2[i]? = some (pc, .lrem, 1)) (hy : y.toInt ≠ 0) (h : ∀ z : Int64, z = x - x / y * y → kw_AW l d E K M P (pc + 1) lv (.long z :: st) σ) : kw_AW l d E K M P pc lv (.long y :: .long x :: st) σ := by
  intro p e R s m args below meth c H locs cells slots Q ls G A Cx Sx Rx Fx
  exact lv_lrem Cx.1 Cx.2.1 (kw_dec Cx hi) (kw_ne0L hy) (h _ rfl p e R s m args below meth c H locs cells slots Q ls G A Cx Sx Rx Fx)
theorem kw_lcmp {i : Nat} {x y : Int64} (hi : M.2[i]? = some (pc, .lcmp, 1))  (h : ∀ z : Int32, z = lg_cmp x y → (z.toInt < 0 ↔ x.toInt < y.toInt) ∧ (0 < z.toInt ↔ y.toInt < x.toInt) ∧ (z.toInt = 0 ↔ x.toInt = y.toInt) → kw_AW l d E K M P (pc + 1) lv (.int z :: st) σ) : kw_AW l d E K M P pc lv (.long y :: .long x :: st) σ := by
  intro p e R s m args below meth c H locs cells slots Q ls G A Cx Sx Rx Fx
  exact W.lcmp Cx.1 Cx.2.1 (kw_dec Cx hi) (h _ rfl (kw_lcmpI x y) p e R s m args below meth c H locs cells slots Q ls G A Cx Sx Rx Fx)
theorem kw_i2l {i : Nat} {x : Int32} (hi : M.2[i]? = some (pc, .i2l, 1))  (h : ∀ z : Int64, z = x.toInt64 → z.toInt = x.toInt → kw_AW l d E K M P (pc + 1) lv (.long z :: st) σ) : kw_AW l d E K M P pc lv (.int x :: st) σ := by
  intro p e R s m args below meth c H locs cells slots Q ls G A Cx Sx Rx Fx
  exact lv_i2l Cx.1 Cx.2.1 (kw_dec Cx hi) rfl (h _ rfl (kw_i2lI x) p e R s m args below meth c H locs cells slots Q ls G A Cx Sx Rx Fx)
theorem kw_l2i {i : Nat} {x : Int64} (hi : M.2[i]? = some (pc, .l2i, 1))  (h : ∀ z : Int32, z = x.toInt32 → kw_AW l d E K M P (pc + 1) lv (.int z :: st) σ) : kw_AW l d E K M P pc lv (.long x :: st) σ := by
  intro p e R s m args below meth c H locs cells slots Q ls G A Cx Sx Rx Fx
  exact lv_l2i Cx.1 Cx.2.1 (kw_dec Cx hi) rfl (h _ rfl p e R s m args below meth c H locs cells slots Q ls G A Cx Sx Rx Fx)
theorem kw_i2b {i : Nat} {x : Int32} (hi : M.2[i]? = some (pc, .i2b, 1))  (h : ∀ z : Int32, z = x.toInt8.toInt32 → kw_AW l d E K M P (pc + 1) lv (.int z :: st) σ) : kw_AW l d E K M P pc lv (.int x :: st) σ := by
  intro p e R s m args below meth c H locs cells slots Q ls G A Cx Sx Rx Fx
  exact lv_i2b Cx.1 Cx.2.1 (kw_dec Cx hi) rfl (h _ rfl p e R s m args below meth c H locs cells slots Q ls G A Cx Sx Rx Fx)
theorem kw_dup {i : Nat} {v : Value} (hi : M.2[i]? = some (pc, .dup, 1)) (hv : v.category = 1) (h : kw_AW l d E K M P (pc + 1) lv (v :: v :: st) σ) : kw_AW l d E K M P pc lv (v :: st) σ := by
  intro p e R s m args below meth c H locs cells slots Q ls G A Cx Sx Rx Fx
  exact lv_dup Cx.1 Cx.2.1 (kw_dec Cx hi) (by rw [kw_cat]; exact hv) (h p e R s m args below meth c H locs cells slots Q ls G A Cx Sx Rx Fx)
theorem kw_pop {i : Nat} {v : Value} (hi : M.2[i]? = some (pc, .pop, 1)) (hv : v.category = 1) (h : kw_AW l d E K M P (pc + 1) lv (st) σ) : kw_AW l d E K M P pc lv (v :: st) σ := by
  intro p e R s m args below meth c H locs cells slots Q ls G A Cx Sx Rx Fx
  exact lv_pop Cx.1 Cx.2.1 (kw_dec Cx hi) (by rw [kw_cat]; exact hv) (h p e R s m args below meth c H locs cells slots Q ls G A Cx Sx Rx Fx)
theorem kw_pop2 {i : Nat} {v : Value} (hi : M.2[i]? = some (pc, .pop2, 1)) (hv : v.category = 2) (h : kw_AW l d E K M P (pc + 1) lv (st) σ) : kw_AW l d E K M P pc lv (v :: st) σ := by
  intro p e R s m args below meth c H locs cells slots Q ls G A Cx Sx Rx Fx
  exact lv_pop2_2 Cx.1 Cx.2.1 (kw_dec Cx hi) (by rw [kw_cat]; exact hv) (h p e R s m args below meth c H locs cells slots Q ls G A Cx Sx Rx Fx)
theorem kw_dup2 {i : Nat} {v w : Value} (hi : M.2[i]? = some (pc, .dup2, 1)) (hv : v.category = 1) (hw : w.category = 1) (h : kw_AW l d E K M P (pc + 1) lv (v :: w :: v :: w :: st) σ) : kw_AW l d E K M P pc lv (v :: w :: st) σ := by
  intro p e R s m args below meth c H locs cells slots Q ls G A Cx Sx Rx Fx
  exact lv_dup2_11 Cx.1 Cx.2.1 (kw_dec Cx hi) (by rw [kw_cat]; exact hv) (by rw [kw_cat]; exact hw) (h p e R s m args below meth c H locs cells slots Q ls G A Cx Sx Rx Fx)
end KWR
