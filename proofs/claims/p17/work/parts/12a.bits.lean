noncomputable def f_J6_bitCount_0f7a4 (σ : kw_S) (x : Int32) : Int32 := kf_l (x.toUInt32 >>> ((1 : Int32).toUInt32 &&& Int32.toUInt32 31)).toInt32 fun z1 => kf_l (z1 &&& (1431655765 : Int32)) fun z2 => kf_l (x - z2) fun z3 => kf_l (z3 &&& (858993459 : Int32)) fun z4 => kf_l (z3.toUInt32 >>> ((2 : Int32).toUInt32 &&& Int32.toUInt32 31)).toInt32 fun z5 => kf_l (z5 &&& (858993459 : Int32)) fun z6 => kf_l (z4 + z6) fun z7 => kf_l (z7.toUInt32 >>> ((4 : Int32).toUInt32 &&& Int32.toUInt32 31)).toInt32 fun z8 => kf_l (z7 + z8) fun z9 => kf_l (z9 &&& (252645135 : Int32)) fun z10 => kf_l (z10.toUInt32 >>> ((8 : Int32).toUInt32 &&& Int32.toUInt32 31)).toInt32 fun z11 => kf_l (z10 + z11) fun z12 => kf_l (z12.toUInt32 >>> ((16 : Int32).toUInt32 &&& Int32.toUInt32 31)).toInt32 fun z13 => kf_l (z12 + z13) fun z14 => kf_l (z14 &&& (63 : Int32)) fun z15 => z15
theorem f_J6_bitCount_0f7a4_u (σ : kw_S) (x : Int32) : f_J6_bitCount_0f7a4 σ x = kf_l (x.toUInt32 >>> ((1 : Int32).toUInt32 &&& Int32.toUInt32 31)).toInt32 fun z1 => kf_l (z1 &&& (1431655765 : Int32)) fun z2 => kf_l (x - z2) fun z3 => kf_l (z3 &&& (858993459 : Int32)) fun z4 => kf_l (z3.toUInt32 >>> ((2 : Int32).toUInt32 &&& Int32.toUInt32 31)).toInt32 fun z5 => kf_l (z5 &&& (858993459 : Int32)) fun z6 => kf_l (z4 + z6) fun z7 => kf_l (z7.toUInt32 >>> ((4 : Int32).toUInt32 &&& Int32.toUInt32 31)).toInt32 fun z8 => kf_l (z7 + z8) fun z9 => kf_l (z9 &&& (252645135 : Int32)) fun z10 => kf_l (z10.toUInt32 >>> ((8 : Int32).toUInt32 &&& Int32.toUInt32 31)).toInt32 fun z11 => kf_l (z10 + z11) fun z12 => kf_l (z12.toUInt32 >>> ((16 : Int32).toUInt32 &&& Int32.toUInt32 31)).toInt32 fun z13 => kf_l (z12 + z13) fun z14 => kf_l (z14 &&& (63 : Int32)) fun z15 => z15 := rfl
abbrev p_J6_bitCount_0f7a4 (σ : kw_S) (x : Int32) : Option Value → kw_S → Prop := fun vv σ' => σ' = σ ∧ ∃ r : Int32, vv = some (.int r) ∧ r = f_J6_bitCount_0f7a4 σ x
set_option maxRecDepth 100000 in
set_option maxHeartbeats 4000000 in
theorem c_J6_bitCount_0f7a4 (l : Launch) (σ : kw_S) (hI : kw_I bX σ) (x : Int32) : kw_Met l 1 KX mJ6_bitCount_0f7a4 [.int x] σ (p_J6_bitCount_0f7a4 σ x) := by
  have r_x := kw_rng x
  have hF := (f_J6_bitCount_0f7a4_u σ x).symm
  have q_1 : (1 : Int32).toInt = 1 := rfl
  have q_2 : (2 : Int32).toInt = 2 := rfl
  have q_4 : (4 : Int32).toInt = 4 := rfl
  have q_8 : (8 : Int32).toInt = 8 := rfl
  have q_16 : (16 : Int32).toInt = 16 := rfl
  have q_63 : (63 : Int32).toInt = 63 := rfl
  have q_252645135 : (252645135 : Int32).toInt = 252645135 := rfl
  have q_858993459 : (858993459 : Int32).toInt = 858993459 := rfl
  have q_1431655765 : (1431655765 : Int32).toInt = 1431655765 := rfl
  refine kw_Met.of (by decide) rfl tJ6_bitCount_0f7a4 (Nat.le_of_ble_eq_true rfl) ?_
  show kw_AW l 1 kw_E0 KX mJ6_bitCount_0f7a4 (p_J6_bitCount_0f7a4 σ x) 0 [(0, .int x)] [] σ
  refine kw_iload_n (pc := 0) (i := 0) (k := 0) (n := 0) rfl rfl rfl ?_
  refine kw_iload_n (pc := 1) (i := 1) (k := 0) (n := 0) rfl rfl rfl ?_
  refine kw_iconst (pc := 2) (i := 2) (v := 1) rfl rfl ?_
  refine kw_iushr (pc := 3) (i := 3) rfl (fun z1 e_z1 => ?_)
  have r_z1 := kw_rng z1
  replace hF := kf_le e_z1 hF
  refine kw_ldcw (pc := 4) (i := 4) (v := 1431655765) rfl ckJ6_265 ?_
  refine kw_iand (pc := 7) (i := 5) rfl (fun z2 e_z2 => ?_)
  have r_z2 := kw_rng z2
  replace hF := kf_le e_z2 hF
  refine kw_isub (pc := 8) (i := 6) rfl (fun z3 e_z3 t_z3 => ?_)
  replace hF := kf_le e_z3 hF
  refine kw_istore_n (pc := 9) (i := 7) (n := 0) (lv' := [(0, .int z3)]) rfl rfl (by decide) rfl ?_
  refine kw_iload_n (pc := 10) (i := 8) (k := 0) (n := 0) rfl rfl rfl ?_
  refine kw_ldcw (pc := 11) (i := 9) (v := 858993459) rfl ckJ6_266 ?_
  refine kw_iand (pc := 14) (i := 10) rfl (fun z4 e_z4 => ?_)
  have r_z4 := kw_rng z4
  replace hF := kf_le e_z4 hF
  refine kw_iload_n (pc := 15) (i := 11) (k := 0) (n := 0) rfl rfl rfl ?_
  refine kw_iconst (pc := 16) (i := 12) (v := 2) rfl rfl ?_
  refine kw_iushr (pc := 17) (i := 13) rfl (fun z5 e_z5 => ?_)
  have r_z5 := kw_rng z5
  replace hF := kf_le e_z5 hF
  refine kw_ldcw (pc := 18) (i := 14) (v := 858993459) rfl ckJ6_266 ?_
  refine kw_iand (pc := 21) (i := 15) rfl (fun z6 e_z6 => ?_)
  have r_z6 := kw_rng z6
  replace hF := kf_le e_z6 hF
  refine kw_iadd (pc := 22) (i := 16) rfl (fun z7 e_z7 t_z7 => ?_)
  replace hF := kf_le e_z7 hF
  refine kw_istore_n (pc := 23) (i := 17) (n := 0) (lv' := [(0, .int z7)]) rfl rfl (by decide) rfl ?_
  refine kw_iload_n (pc := 24) (i := 18) (k := 0) (n := 0) rfl rfl rfl ?_
  refine kw_iload_n (pc := 25) (i := 19) (k := 0) (n := 0) rfl rfl rfl ?_
  refine kw_iconst (pc := 26) (i := 20) (v := 4) rfl rfl ?_
  refine kw_iushr (pc := 27) (i := 21) rfl (fun z8 e_z8 => ?_)
  have r_z8 := kw_rng z8
  replace hF := kf_le e_z8 hF
  refine kw_iadd (pc := 28) (i := 22) rfl (fun z9 e_z9 t_z9 => ?_)
  replace hF := kf_le e_z9 hF
  refine kw_ldcw (pc := 29) (i := 23) (v := 252645135) rfl ckJ6_267 ?_
  refine kw_iand (pc := 32) (i := 24) rfl (fun z10 e_z10 => ?_)
  have r_z10 := kw_rng z10
  replace hF := kf_le e_z10 hF
  refine kw_istore_n (pc := 33) (i := 25) (n := 0) (lv' := [(0, .int z10)]) rfl rfl (by decide) rfl ?_
  refine kw_iload_n (pc := 34) (i := 26) (k := 0) (n := 0) rfl rfl rfl ?_
  refine kw_iload_n (pc := 35) (i := 27) (k := 0) (n := 0) rfl rfl rfl ?_
  refine kw_bipush (pc := 36) (i := 28) (v := 8) rfl rfl ?_
  refine kw_iushr (pc := 38) (i := 29) rfl (fun z11 e_z11 => ?_)
  have r_z11 := kw_rng z11
  replace hF := kf_le e_z11 hF
  refine kw_iadd (pc := 39) (i := 30) rfl (fun z12 e_z12 t_z12 => ?_)
  replace hF := kf_le e_z12 hF
  refine kw_istore_n (pc := 40) (i := 31) (n := 0) (lv' := [(0, .int z12)]) rfl rfl (by decide) rfl ?_
  refine kw_iload_n (pc := 41) (i := 32) (k := 0) (n := 0) rfl rfl rfl ?_
  refine kw_iload_n (pc := 42) (i := 33) (k := 0) (n := 0) rfl rfl rfl ?_
  refine kw_bipush (pc := 43) (i := 34) (v := 16) rfl rfl ?_
  refine kw_iushr (pc := 45) (i := 35) rfl (fun z13 e_z13 => ?_)
  have r_z13 := kw_rng z13
  replace hF := kf_le e_z13 hF
  refine kw_iadd (pc := 46) (i := 36) rfl (fun z14 e_z14 t_z14 => ?_)
  replace hF := kf_le e_z14 hF
  refine kw_istore_n (pc := 47) (i := 37) (n := 0) (lv' := [(0, .int z14)]) rfl rfl (by decide) rfl ?_
  refine kw_iload_n (pc := 48) (i := 38) (k := 0) (n := 0) rfl rfl rfl ?_
  refine kw_bipush (pc := 49) (i := 39) (v := 63) rfl rfl ?_
  refine kw_iand (pc := 51) (i := 40) rfl (fun z15 e_z15 => ?_)
  have r_z15 := kw_rng z15
  replace hF := kf_le e_z15 hF
  exact kw_ireturn (pc := 52) (i := 41) (ty := .int) rfl rfl rfl ⟨rfl, _, rfl, hF⟩
