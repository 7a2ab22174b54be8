section KWR
variable {l : Launch} {d : Nat} {E : kw_E} {K : List kw_K1} {M : kw_M} {P : Option Value → kw_S → Prop} {pc : Nat} {lv : List (Nat × Value)} {st : List Value} {σ : kw_S}
theorem kw_eqI {x y : Int32} (h : x = y) : x.toInt = y.toInt := by rw [h]
theorem kw_neI {x y : Int32} (h : ¬ x = y) : x.toInt ≠ y.toInt := fun q => h (Int32.toInt_inj.mp q)
theorem kw_ltI {x y : Int32} (h : x < y) : x.toInt < y.toInt := Int32.lt_iff_toInt_lt.mp h
theorem kw_leI {x y : Int32} (h : x ≤ y) : x.toInt ≤ y.toInt := Int32.le_iff_toInt_le.mp h
theorem kw_nltI {x y : Int32} (h : ¬ x < y) : y.toInt ≤ x.toInt := Int.not_lt.mp fun q => h (Int32.lt_iff_toInt_lt.mpr q)
theorem kw_nleI {x y : Int32} (h : ¬ x ≤ y) : y.toInt < x.toInt := Int.not_le.mp fun q => h (Int32.le_iff_toInt_le.mpr q)
theorem kw_if_eq {i : Nat} {x : Int32} {off : Int} {tgt : Nat} (hi : M.2[i]? = some (pc, .ifCond .eq off, 3)) (ht : (pc : Int) + off = (tgt : Int)) (kt : x.toInt = 0 → kw_AW l d E K M P tgt lv st σ) (kf : x.toInt ≠ 0 → kw_AW l d E K M P (pc + 3) lv st σ) : kw_AW l d E K M P pc lv (.int x :: st) σ := by
  intro p e R s m args below meth c H locs cells slots Q ls G A Cx Sx Rx Fx
  exact lv_if_eq Cx.1 Cx.2.1 (kw_dec Cx hi) ht (fun q => kt (kw_eqI q) p e R s m args below meth c H locs cells slots Q ls G A Cx Sx Rx Fx) (fun q => kf (kw_neI q) p e R s m args below meth c H locs cells slots Q ls G A Cx Sx Rx Fx)
theorem kw_icmp_eq {i : Nat} {x y : Int32} {off : Int} {tgt : Nat} (hi : M.2[i]? = some (pc, .if_icmp .eq off, 3)) (ht : (pc : Int) + off = (tgt : Int)) (kt : x.toInt = y.toInt → kw_AW l d E K M P tgt lv st σ) (kf : x.toInt ≠ y.toInt → kw_AW l d E K M P (pc + 3) lv st σ) : kw_AW l d E K M P pc lv (.int y :: .int x :: st) σ := by
  intro p e R s m args below meth c H locs cells slots Q ls G A Cx Sx Rx Fx
  exact lv_icmp_eq Cx.1 Cx.2.1 (kw_dec Cx hi) ht (fun q => kt (kw_eqI q) p e R s m args below meth c H locs cells slots Q ls G A Cx Sx Rx Fx) (fun q => kf (kw_neI q) p e R s m args below meth c H locs cells slots Q ls G A Cx Sx Rx Fx)
theorem kw_if_ne {i : Nat} {x : Int32} {off : Int} {tgt : Nat} (hi : M.2[i]? = some (pc, .ifCond .ne off, 3)) (ht : (pc : Int) + off = (tgt : Int)) (kt : x.toInt ≠ 0 → kw_AW l d E K M P tgt lv st σ) (kf : x.toInt = 0 → kw_AW l d E K M P (pc + 3) lv st σ) : kw_AW l d E K M P pc lv (.int x :: st) σ := by
  intro p e R s m args below meth c H locs cells slots Q ls G A Cx Sx Rx Fx
  exact lv_if_ne Cx.1 Cx.2.1 (kw_dec Cx hi) ht (fun q => kt (kw_neI q) p e R s m args below meth c H locs cells slots Q ls G A Cx Sx Rx Fx) (fun q => kf (kw_eqI q) p e R s m args below meth c H locs cells slots Q ls G A Cx Sx Rx Fx)
theorem kw_icmp_ne {i : Nat} {x y : Int32} {off : Int} {tgt : Nat} (hi : M.2[i]? = some (pc, .if_icmp .ne off, 3)) (ht : (pc : Int) + off = (tgt : Int)) (kt : x.toInt ≠ y.toInt → kw_AW l d E K M P tgt lv st σ) (kf : x.toInt = y.toInt → kw_AW l d E K M P (pc + 3) lv st σ) : kw_AW l d E K M P pc lv (.int y :: .int x :: st) σ := by
  intro p e R s m args below meth c H locs cells slots Q ls G A Cx Sx Rx Fx
  exact lv_icmp_ne Cx.1 Cx.2.1 (kw_dec Cx hi) ht (fun q => kt (kw_neI q) p e R s m args below meth c H locs cells slots Q ls G A Cx Sx Rx Fx) (fun q => kf (kw_eqI q) p e R s m args below meth c H locs cells slots Q ls G A Cx Sx Rx Fx)
theorem kw_if_lt {i : Nat} {x : Int32} {off : Int} {tgt : Nat} (hi : M.2[i]? = some (pc, .ifCond .lt off, 3)) (ht : (pc : Int) + off = (tgt : Int)) (kt : x.toInt < 0 → kw_AW l d E K M P tgt lv st σ) (kf : 0 ≤ x.toInt → kw_AW l d E K M P (pc + 3) lv st σ) : kw_AW l d E K M P pc lv (.int x :: st) σ := by
  intro p e R s m args below meth c H locs cells slots Q ls G A Cx Sx Rx Fx
  exact lv_if_lt Cx.1 Cx.2.1 (kw_dec Cx hi) ht (fun q => kt (kw_ltI q) p e R s m args below meth c H locs cells slots Q ls G A Cx Sx Rx Fx) (fun q => kf (kw_nltI q) p e R s m args below meth c H locs cells slots Q ls G A Cx Sx Rx Fx)
theorem kw_icmp_lt {i : Nat} {x y : Int32} {off : Int} {tgt : Nat} (hi : M.2[i]? = some (pc, .if_icmp .lt off, 3)) (ht : (pc : Int) + off = (tgt : Int)) (kt : x.toInt < y.toInt → kw_AW l d E K M P tgt lv st σ) (kf : y.toInt ≤ x.toInt → kw_AW l d E K M P (pc + 3) lv st σ) : kw_AW l d E K M P pc lv (.int y :: .int x :: st) σ := by
  intro p e R s m args below meth c H locs cells slots Q ls G A Cx Sx Rx Fx
  exact lv_icmp_lt Cx.1 Cx.2.1 (kw_dec Cx hi) ht (fun q => kt (kw_ltI q) p e R s m args below meth c H locs cells slots Q ls G A Cx Sx Rx Fx) (fun q => kf (kw_nltI q) p e R s m args below meth c H locs cells slots Q ls G A Cx Sx Rx Fx)
theorem kw_if_ge {i : Nat} {x : Int32} {off : Int} {tgt : Nat} (hi : M.2[i]? = some (pc, .ifCond .ge off, 3)) (ht : (pc : Int) + off = (tgt : Int)) (kt : 0 ≤ x.toInt → kw_AW l d E K M P tgt lv st σ) (kf : x.toInt < 0 → kw_AW l d E K M P (pc + 3) lv st σ) : kw_AW l d E K M P pc lv (.int x :: st) σ := by
  intro p e R s m args below meth c H locs cells slots Q ls G A Cx Sx Rx Fx
  exact lv_if_ge Cx.1 Cx.2.1 (kw_dec Cx hi) ht (fun q => kt (kw_leI q) p e R s m args below meth c H locs cells slots Q ls G A Cx Sx Rx Fx) (fun q => kf (kw_nleI q) p e R s m args below meth c H locs cells slots Q ls G A Cx Sx Rx Fx)
theorem kw_icmp_ge {i : Nat} {x y : Int32} {off : Int} {tgt : Nat} (hi : M.2[i]? = some (pc, .if_icmp .ge off, 3)) (ht : (pc : Int) + off = (tgt : Int)) (kt : y.toInt ≤ x.toInt → kw_AW l d E K M P tgt lv st σ) (kf : x.toInt < y.toInt → kw_AW l d E K M P (pc + 3) lv st σ) : kw_AW l d E K M P pc lv (.int y :: .int x :: st) σ := by
  intro p e R s m args below meth c H locs cells slots Q ls G A Cx Sx Rx Fx
  exact lv_icmp_ge Cx.1 Cx.2.1 (kw_dec Cx hi) ht (fun q => kt (kw_leI q) p e R s m args below meth c H locs cells slots Q ls G A Cx Sx Rx Fx) (fun q => kf (kw_nleI q) p e R s m args below meth c H locs cells slots Q ls G A Cx Sx Rx Fx)
theorem kw_if_gt {i : Nat} {x : Int32} {off : Int} {tgt : Nat} (hi : M.2[i]? = some (pc, .ifCond .gt off, 3)) (ht : (pc : Int) + off = (tgt : Int)) (kt : 0 < x.toInt → kw_AW l d E K M P tgt lv st σ) (kf : x.toInt ≤ 0 → kw_AW l d E K M P (pc + 3) lv st σ) : kw_AW l d E K M P pc lv (.int x :: st) σ := by
  intro p e R s m args below meth c H locs cells slots Q ls G A Cx Sx Rx Fx
  exact lv_if_gt Cx.1 Cx.2.1 (kw_dec Cx hi) ht (fun q => kt (kw_ltI q) p e R s m args below meth c H locs cells slots Q ls G A Cx Sx Rx Fx) (fun q => kf (kw_nltI q) p e R s m args below meth c H locs cells slots Q ls G A Cx Sx Rx Fx)
theorem kw_icmp_gt {i : Nat} {x y : Int32} {off : Int} {tgt : Nat} (hi : M.2[i]? = some (pc, .if_icmp .gt off, 3)) (ht : (pc : Int) + off = (tgt : Int)) (kt : y.toInt < x.toInt → kw_AW l d E K M P tgt lv st σ) (kf : x.toInt ≤ y.toInt → kw_AW l d E K M P (pc + 3) lv st σ) : kw_AW l d E K M P pc lv (.int y :: .int x :: st) σ := by
  intro p e R s m args below meth c H locs cells slots Q ls G A Cx Sx Rx Fx
  exact lv_icmp_gt Cx.1 Cx.2.1 (kw_dec Cx hi) ht (fun q => kt (kw_ltI q) p e R s m args below meth c H locs cells slots Q ls G A Cx Sx Rx Fx) (fun q => kf (kw_nltI q) p e R s m args below meth c H locs cells slots Q ls G A Cx Sx Rx Fx)
theorem kw_if_le {i : Nat} {x : Int32} {off : Int} {tgt : Nat} (hi : M.2[i]? = some (pc, .ifCond .le off, 3)) (ht : (pc : Int) + off = (tgt : Int)) (kt : x.toInt ≤ 0 → kw_AW l d E K M P tgt lv st σ) (kf : 0 < x.toInt → kw_AW l d E K M P (pc + 3) lv st σ) : kw_AW l d E K M P pc lv (.int x :: st) σ := by
  intro p e R s m args below meth c H locs cells slots Q ls G A Cx Sx Rx Fx
  exact lv_if_le Cx.1 Cx.2.1 (kw_dec Cx hi) ht (fun q => kt (kw_leI q) p e R s m args below meth c H locs cells slots Q ls G A Cx Sx Rx Fx) (fun q => kf (kw_nleI q) p e R s m args below meth c H locs cells slots Q ls G A Cx Sx Rx Fx)
theorem kw_icmp_le {i : Nat} {x y : Int32} {off : Int} {tgt : Nat} (hi : M.2[i]? = some (pc, .if_icmp .le off, 3)) (ht : (pc : Int) + off = (tgt : Int)) (kt : x.toInt ≤ y.toInt → kw_AW l d E K M P tgt lv st σ) (kf : y.toInt < x.toInt → kw_AW l d E K M P (pc + 3) lv st σ) : kw_AW l d E K M P pc lv (.int y :: .int x :: st) σ := by
  intro p e R s m args below meth c H locs cells slots Q ls G A Cx Sx Rx Fx
  exact lv_icmp_le Cx.1 Cx.2.1 (kw_dec Cx hi) ht (fun q => kt (kw_leI q) p e R s m args below meth c H locs cells slots Q ls G A Cx Sx Rx Fx) (fun q => kf (kw_nleI q) p e R s m args below meth c H locs cells slots Q ls G A Cx Sx Rx Fx)
theorem kw_goto {i : Nat} {off : Int} {tgt : Nat} (hi : M.2[i]? = some (pc, .goto off, 3)) (ht : (pc : Int) + off = (tgt : Int)) (h : kw_AW l d E K M P tgt lv st σ) : kw_AW l d E K M P pc lv st σ := by
  intro p e R s m args below meth c H locs cells slots Q ls G A Cx Sx Rx Fx
  exact lv_goto Cx.1 Cx.2.1 (kw_dec Cx hi) ht (h p e R s m args below meth c H locs cells slots Q ls G A Cx Sx Rx Fx)
theorem kw_tableOut {i : Nat} {dflt lo hi_ : Int} {offs : Array Int} {len : Nat} {x : Int32} {tgt : Nat} (hi : M.2[i]? = some (pc, .tableswitch dflt lo hi_ offs, len)) (hx : x.toInt < lo ∨ hi_ < x.toInt) (ht : (pc : Int) + dflt = (tgt : Int)) (h : kw_AW l d E K M P tgt lv st σ) : kw_AW l d E K M P pc lv (.int x :: st) σ := by
  intro p e R s m args below meth c H locs cells slots Q ls G A Cx Sx Rx Fx
  exact lv_tableOut Cx.1 Cx.2.1 (kw_dec Cx hi) hx ht (h p e R s m args below meth c H locs cells slots Q ls G A Cx Sx Rx Fx)
theorem kw_tableIn {i : Nat} {dflt lo hi_ : Int} {offs : Array Int} {len : Nat} {x : Int32} {off : Int} {tgt : Nat} {k : Nat} (hi : M.2[i]? = some (pc, .tableswitch dflt lo hi_ offs, len)) (hx : x.toInt = lo + k) (hk : lo + (k : Int) ≤ hi_) (ho : offs[k]? = some off) (ht : (pc : Int) + off = (tgt : Int)) (h : kw_AW l d E K M P tgt lv st σ) : kw_AW l d E K M P pc lv (.int x :: st) σ := by
  intro p e R s m args below meth c H locs cells slots Q ls G A Cx Sx Rx Fx
  refine lv_tableIn Cx.1 Cx.2.1 (kw_dec Cx hi) (by omega) (by omega) (off := off) ?_ ht (h p e R s m args below meth c H locs cells slots Q ls G A Cx Sx Rx Fx)
  rw [show (x.toInt - lo).toNat = k by omega]
  exact ho
theorem kw_ireturn {i : Nat} {x : Int32} {ty : FieldType} (hi : M.2[i]? = some (pc, .ireturn, 1)) (hr : M.1.2.2.2.2 = some ty) (hn : narrow ty (.int x) = .int x) (hP : P (some (.int x)) σ) : kw_AW l d E K M P pc lv [.int x] σ := by
  intro p e R s m args below meth c H locs cells slots Q ls G A Cx Sx Rx Fx
  exact Fx (some (.int x)) σ H locs ls pc _ hP Sx.1 Sx.2.2.1 (kw_dec Cx hi) (Or.inr (Or.inl ⟨ty, x, rfl, hr, rfl, hn⟩))
theorem kw_lreturn {i : Nat} {x : Int64} (hi : M.2[i]? = some (pc, .lreturn, 1)) (hr : M.1.2.2.2.2 = some .long) (hP : P (some (.long x)) σ) : kw_AW l d E K M P pc lv [.long x] σ := by
  intro p e R s m args below meth c H locs cells slots Q ls G A Cx Sx Rx Fx
  exact Fx (some (.long x)) σ H locs ls pc _ hP Sx.1 Sx.2.2.1 (kw_dec Cx hi) (Or.inr (Or.inr ⟨x, rfl, hr, rfl⟩))
theorem kw_return {i : Nat} (hi : M.2[i]? = some (pc, .return_, 1)) (hr : M.1.2.2.2.2 = none) (hP : P none σ) : kw_AW l d E K M P pc lv [] σ := by
  intro p e R s m args below meth c H locs cells slots Q ls G A Cx Sx Rx Fx
  exact Fx none σ H locs ls pc _ hP Sx.1 Sx.2.2.1 (kw_dec Cx hi) (Or.inl ⟨rfl, hr, rfl⟩)
end KWR
