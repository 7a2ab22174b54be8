section KWR
variable {l : Launch} {d : Nat} {E : kw_E} {K : List kw_K1} {M : kw_M} {P : Option Value → kw_S → Prop} {pc : Nat} {lv : List (Nat × Value)} {st : List Value} {σ : kw_S}
theorem kw_dec {G : kw_G} {A : Nat → Prop} {p : Program} {s : State} {m : MethodId} {args : Array Value} {meth : Method} {c : Code} (C : kw_Cx E M G A p s m args meth c) {i pc len : Nat} {ins : Instr} (h : M.2[i]? = some (pc, ins, len)) : decode M.1.2.2.1 pc = .ok (ins, len) := C.2.2.2.2.2.2.2.2.2.2 (pc, ins, len) (List.mem_of_getElem? h)
theorem kw_find {G : kw_G} {ls : Array Slot} {n k : Nat} {i : Nat} {v : Value} (h : lv_has ls n (lv.map (fun q => (q.1, kw_rv G.1 q.2)))) (hk : lv[k]? = some (i, v)) : ls[i]? = some (.val (kw_rv G.1 v)) :=
  lv_at h k (by rw [List.getElem?_map, hk]; rfl)
theorem kw_fil1 (ad : Nat → Nat) (i : Nat) : ∀ l : List (Nat × Value), (l.map (fun q => (q.1, kw_rv ad q.2))).filter (fun q => !(q.1 == i) && !(q.1 + 1 == i && q.2.category == 2)) = (l.filter (fun q => !(q.1 == i) && !(q.1 + 1 == i && q.2.category == 2))).map (fun q => (q.1, kw_rv ad q.2))
  | [] => rfl
  | q :: l => by
    rw [List.map_cons, List.filter_cons, List.filter_cons, kw_fil1 ad i l]
    simp only [kw_cat]
    split <;> rfl
theorem kw_fil2 (ad : Nat → Nat) (i : Nat) : ∀ l : List (Nat × Value), (l.map (fun q => (q.1, kw_rv ad q.2))).filter (fun q => !(q.1 == i) && (!(q.1 == i + 1) && !(q.1 + 1 == i && q.2.category == 2))) = (l.filter (fun q => !(q.1 == i) && (!(q.1 == i + 1) && !(q.1 + 1 == i && q.2.category == 2)))).map (fun q => (q.1, kw_rv ad q.2))
  | [] => rfl
  | q :: l => by
    rw [List.map_cons, List.filter_cons, List.filter_cons, kw_fil2 ad i l]
    simp only [kw_cat]
    split <;> rfl
theorem kw_rng (x : Int32) : -2147483648 ≤ x.toInt ∧ x.toInt < 2147483648 := ⟨Int32.le_toInt x, Int32.toInt_lt x⟩
theorem kw_rngL (x : Int64) : -9223372036854775808 ≤ x.toInt ∧ x.toInt < 9223372036854775808 := ⟨Int64.le_toInt x, Int64.toInt_lt x⟩
theorem kw_bm (z : Int) : z.bmod (2 ^ 32) = (z + 2147483648) % 4294967296 - 2147483648 := by
  simp only [Int.bmod]; split <;> omega
theorem kw_bmL (z : Int) : z.bmod (2 ^ 64) = (z + 9223372036854775808) % 18446744073709551616 - 9223372036854775808 := by
  simp only [Int.bmod]; split <;> omega
theorem kw_addI (x y : Int32) : (x + y).toInt = (x.toInt + y.toInt + 2147483648) % 4294967296 - 2147483648 := by rw [Int32.toInt_add, kw_bm]
theorem kw_subI (x y : Int32) : (x - y).toInt = (x.toInt - y.toInt + 2147483648) % 4294967296 - 2147483648 := by rw [Int32.toInt_sub, kw_bm]
theorem kw_mulI (x y : Int32) : (x * y).toInt = (x.toInt * y.toInt + 2147483648) % 4294967296 - 2147483648 := by rw [Int32.toInt_mul, kw_bm]
theorem kw_negI (x : Int32) : (-x).toInt = (-x.toInt + 2147483648) % 4294967296 - 2147483648 := by rw [Int32.toInt_neg, kw_bm]
theorem kw_addL (x y : Int64) : (x + y).toInt = (x.toInt + y.toInt + 9223372036854775808) % 18446744073709551616 - 9223372036854775808 := by rw [Int64.toInt_add, kw_bmL]
theorem kw_i2lI (x : Int32) : x.toInt64.toInt = x.toInt := by simp
theorem kw_in {x : Int32} {n : Nat} (h0 : 0 ≤ x.toInt) (h1 : x.toInt < n) : vp_in x n := vp_in_iff.mpr ⟨h0, h1⟩
theorem kw_clamp {x : Int32} {n : Nat} (h0 : 0 ≤ x.toInt) (h1 : x.toInt < n) : x.toNatClampNeg < n := by
  have e : x.toNatClampNeg = x.toInt.toNat := rfl
  rw [e]; omega
theorem kw_clampI {x : Int32} (h0 : 0 ≤ x.toInt) : ((x.toNatClampNeg : Nat) : Int) = x.toInt := by
  have e : x.toNatClampNeg = x.toInt.toNat := rfl
  rw [e]; omega
theorem kw_lcmpI (x y : Int64) : ((lg_cmp x y).toInt < 0 ↔ x.toInt < y.toInt) ∧ (0 < (lg_cmp x y).toInt ↔ y.toInt < x.toInt) ∧ ((lg_cmp x y).toInt = 0 ↔ x.toInt = y.toInt) := by
  have e1 : (1 : Int32).toInt = 1 := rfl
  have e0 : (0 : Int32).toInt = 0 := rfl
  have em : (-1 : Int32).toInt = -1 := rfl
  unfold lg_cmp
  by_cases h1 : y < x
  · have h : y.toInt < x.toInt := Int64.lt_iff_toInt_lt.mp h1
    simp only [h1, if_true]
    rw [e1]
    refine ⟨⟨fun q => ?_, fun q => ?_⟩, ⟨fun q => ?_, fun q => ?_⟩, ⟨fun q => ?_, fun q => ?_⟩⟩ <;> omega
  · have h : ¬ y.toInt < x.toInt := fun q => h1 (Int64.lt_iff_toInt_lt.mpr q)
    by_cases h2 : x = y
    · subst h2
      have h1' : ¬ x < x := h1
      simp only [h1', if_false, if_true, e0, Int.lt_irrefl, iff_self, and_self]
    · have h3 : x.toInt ≠ y.toInt := fun q => h2 (Int64.toInt_inj.mp q)
      simp only [h1, h2, if_false]
      rw [em]
      refine ⟨⟨fun q => ?_, fun q => ?_⟩, ⟨fun q => ?_, fun q => ?_⟩, ⟨fun q => ?_, fun q => ?_⟩⟩ <;> omega
end KWR
