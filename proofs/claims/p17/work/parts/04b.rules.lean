section KWR
variable {l : Launch} {d : Nat} {E : kw_E} {K : List kw_K1} {M : kw_M} {P : Option Value → kw_S → Prop} {pc : Nat} {lv : List (Nat × Value)} {st : List Value} {σ : kw_S}
theorem kw_iconst {i : Nat} {n : Int} {v : Int32} (hi : M.2[i]? = some (pc, .iconst n, 1)) (hv : Int32.ofInt n = v) (h : kw_AW l d E K M P (pc + 1) lv (.int v :: st) σ) : kw_AW l d E K M P pc lv (st) σ := by
  intro p e R s m args below meth c H locs cells slots Q ls G A Cx Sx Rx Fx
  exact lv_iconst Cx.1 Cx.2.1 (kw_dec Cx hi) hv (h p e R s m args below meth c H locs cells slots Q ls G A Cx Sx Rx Fx)
theorem kw_bipush {i : Nat} {n : Int} {v : Int32} (hi : M.2[i]? = some (pc, .bipush n, 2)) (hv : (Int8.ofInt n).toInt32 = v) (h : kw_AW l d E K M P (pc + 2) lv (.int v :: st) σ) : kw_AW l d E K M P pc lv (st) σ := by
  intro p e R s m args below meth c H locs cells slots Q ls G A Cx Sx Rx Fx
  exact lv_bipush Cx.1 Cx.2.1 (kw_dec Cx hi) hv (h p e R s m args below meth c H locs cells slots Q ls G A Cx Sx Rx Fx)
theorem kw_sipush {i : Nat} {n : Int} {v : Int32} (hi : M.2[i]? = some (pc, .sipush n, 3)) (hv : (Int16.ofInt n).toInt32 = v) (h : kw_AW l d E K M P (pc + 3) lv (.int v :: st) σ) : kw_AW l d E K M P pc lv (st) σ := by
  intro p e R s m args below meth c H locs cells slots Q ls G A Cx Sx Rx Fx
  exact lv_sipush Cx.1 Cx.2.1 (kw_dec Cx hi) hv (h p e R s m args below meth c H locs cells slots Q ls G A Cx Sx Rx Fx)
theorem kw_lconst {i : Nat} {n : Fin 2} {v : Int64} (hi : M.2[i]? = some (pc, .lconst n, 1)) (hv : Int64.ofNat (n : Nat) = v) (h : kw_AW l d E K M P (pc + 1) lv (.long v :: st) σ) : kw_AW l d E K M P pc lv (st) σ := by
  intro p e R s m args below meth c H locs cells slots Q ls G A Cx Sx Rx Fx
  exact lv_lconst Cx.1 Cx.2.1 (kw_dec Cx hi) hv (h p e R s m args below meth c H locs cells slots Q ls G A Cx Sx Rx Fx)
theorem kw_ldc {i : Nat} {v : Int32} {index : Nat} (hi : M.2[i]? = some (pc, .ldc index, 2)) (hc : Cond.constant M.1.1 index v ∈ kw_ws) (h : kw_AW l d E K M P (pc + 2) lv (.int v :: st) σ) : kw_AW l d E K M P pc lv (st) σ := by
  intro p e R s m args below meth c H locs cells slots Q ls G A Cx Sx Rx Fx
  exact lv_ldc Cx.1 Cx.2.1 Cx.2.2.2.2.2.1 (Cx.2.2.2.2.2.2.1 _ hc) (kw_dec Cx hi) (h p e R s m args below meth c H locs cells slots Q ls G A Cx Sx Rx Fx)
theorem kw_ldcw {i : Nat} {v : Int32} {index : Nat} (hi : M.2[i]? = some (pc, .ldc_w index, 3)) (hc : Cond.constant M.1.1 index v ∈ kw_ws) (h : kw_AW l d E K M P (pc + 3) lv (.int v :: st) σ) : kw_AW l d E K M P pc lv (st) σ := by
  intro p e R s m args below meth c H locs cells slots Q ls G A Cx Sx Rx Fx
  exact lv_ldcw Cx.1 Cx.2.1 Cx.2.2.2.2.2.1 (Cx.2.2.2.2.2.2.1 _ hc) (kw_dec Cx hi) (h p e R s m args below meth c H locs cells slots Q ls G A Cx Sx Rx Fx)
theorem kw_ldc2 {i : Nat} {v : Int64} {index : Nat} (hi : M.2[i]? = some (pc, .ldc2_w index, 3)) (hc : Cond.constantLong M.1.1 index v ∈ kw_ws) (h : kw_AW l d E K M P (pc + 3) lv (.long v :: st) σ) : kw_AW l d E K M P pc lv (st) σ := by
  intro p e R s m args below meth c H locs cells slots Q ls G A Cx Sx Rx Fx
  exact lv_ldc2 Cx.1 Cx.2.1 Cx.2.2.2.2.2.1 (Cx.2.2.2.2.2.2.1 _ hc) (kw_dec Cx hi) (h p e R s m args below meth c H locs cells slots Q ls G A Cx Sx Rx Fx)
theorem kw_iload_n {i : Nat} {j : Fin 4} {k n : Nat} {x : Int32} (hi : M.2[i]? = some (pc, .iload_n j, 1)) (hj : (j : Nat) = n) (hk : lv[k]? = some (n, .int x)) (h : kw_AW l d E K M P (pc + 1) lv (.int x :: st) σ) : kw_AW l d E K M P pc lv (st) σ := by
  intro p e R s m args below meth c H locs cells slots Q ls G A Cx Sx Rx Fx
  exact lv_iload_n Cx.1 Cx.2.1 (kw_dec Cx hi) hj (kw_find Sx.2.2.2 hk) (h p e R s m args below meth c H locs cells slots Q ls G A Cx Sx Rx Fx)
theorem kw_iload {i : Nat} {k n : Nat} {x : Int32} (hi : M.2[i]? = some (pc, .iload n, 2)) (hk : lv[k]? = some (n, .int x)) (h : kw_AW l d E K M P (pc + 2) lv (.int x :: st) σ) : kw_AW l d E K M P pc lv (st) σ := by
  intro p e R s m args below meth c H locs cells slots Q ls G A Cx Sx Rx Fx
  exact lv_iload Cx.1 Cx.2.1 (kw_dec Cx hi) (kw_find Sx.2.2.2 hk) (h p e R s m args below meth c H locs cells slots Q ls G A Cx Sx Rx Fx)
theorem kw_lload_n {i : Nat} {j : Fin 4} {k n : Nat} {x : Int64} (hi : M.2[i]? = some (pc, .lload_n j, 1)) (hj : (j : Nat) = n) (hk : lv[k]? = some (n, .long x)) (h : kw_AW l d E K M P (pc + 1) lv (.long x :: st) σ) : kw_AW l d E K M P pc lv (st) σ := by
  intro p e R s m args below meth c H locs cells slots Q ls G A Cx Sx Rx Fx
  exact lv_lload_n Cx.1 Cx.2.1 (kw_dec Cx hi) hj (kw_find Sx.2.2.2 hk) (h p e R s m args below meth c H locs cells slots Q ls G A Cx Sx Rx Fx)
theorem kw_lload {i : Nat} {k n : Nat} {x : Int64} (hi : M.2[i]? = some (pc, .lload n, 2)) (hk : lv[k]? = some (n, .long x)) (h : kw_AW l d E K M P (pc + 2) lv (.long x :: st) σ) : kw_AW l d E K M P pc lv (st) σ := by
  intro p e R s m args below meth c H locs cells slots Q ls G A Cx Sx Rx Fx
  exact lv_lload Cx.1 Cx.2.1 (kw_dec Cx hi) (kw_find Sx.2.2.2 hk) (h p e R s m args below meth c H locs cells slots Q ls G A Cx Sx Rx Fx)
theorem kw_aload_n {i : Nat} {j : Fin 4} {k n : Nat} {x : Nat} (hi : M.2[i]? = some (pc, .aload_n j, 1)) (hj : (j : Nat) = n) (hk : lv[k]? = some (n, .ref x)) (h : kw_AW l d E K M P (pc + 1) lv (.ref x :: st) σ) : kw_AW l d E K M P pc lv (st) σ := by
  intro p e R s m args below meth c H locs cells slots Q ls G A Cx Sx Rx Fx
  exact lv_aload_n Cx.1 Cx.2.1 (kw_dec Cx hi) hj (kw_find Sx.2.2.2 hk) (h p e R s m args below meth c H locs cells slots Q ls G A Cx Sx Rx Fx)
theorem kw_aload {i : Nat} {k n : Nat} {x : Nat} (hi : M.2[i]? = some (pc, .aload n, 2)) (hk : lv[k]? = some (n, .ref x)) (h : kw_AW l d E K M P (pc + 2) lv (.ref x :: st) σ) : kw_AW l d E K M P pc lv (st) σ := by
  intro p e R s m args below meth c H locs cells slots Q ls G A Cx Sx Rx Fx
  exact lv_aload Cx.1 Cx.2.1 (kw_dec Cx hi) (kw_find Sx.2.2.2 hk) (h p e R s m args below meth c H locs cells slots Q ls G A Cx Sx Rx Fx)
end KWR
