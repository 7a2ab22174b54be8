section
noncomputable def f_J6_bitCount_0f7a4 (σ : kw_S) (x : Int32) : Int32 := kf_l (x.toUInt32 >>> ((1 : Int32).toUInt32 &&& Int32.toUInt32 31)).toInt32 fun z1 => kf_l (z1 &&& (1431655765 : Int32)) fun z2 => kf_l (x - z2) fun z3 => kf_l (z3 &&& (858993459 : Int32)) fun z4 => kf_l (z3.toUInt32 >>> ((2 : Int32).toUInt32 &&& Int32.toUInt32 31)).toInt32 fun z5 => kf_l (z5 &&& (858993459 : Int32)) fun z6 => kf_l (z4 + z6) fun z7 => kf_l (z7.toUInt32 >>> ((4 : Int32).toUInt32 &&& Int32.toUInt32 31)).toInt32 fun z8 => kf_l (z7 + z8) fun z9 => kf_l (z9 &&& (252645135 : Int32)) fun z10 => kf_l (z10.toUInt32 >>> ((8 : Int32).toUInt32 &&& Int32.toUInt32 31)).toInt32 fun z11 => kf_l (z10 + z11) fun z12 => kf_l (z12.toUInt32 >>> ((16 : Int32).toUInt32 &&& Int32.toUInt32 31)).toInt32 fun z13 => kf_l (z12 + z13) fun z14 => kf_l (z14 &&& (63 : Int32)) fun z15 => z15
theorem f_J6_bitCount_0f7a4_u (σ : kw_S) (x : Int32) : f_J6_bitCount_0f7a4 σ x = kf_l (x.toUInt32 >>> ((1 : Int32).toUInt32 &&& Int32.toUInt32 31)).toInt32 fun z1 => kf_l (z1 &&& (1431655765 : Int32)) fun z2 => kf_l (x - z2) fun z3 => kf_l (z3 &&& (858993459 : Int32)) fun z4 => kf_l (z3.toUInt32 >>> ((2 : Int32).toUInt32 &&& Int32.toUInt32 31)).toInt32 fun z5 => kf_l (z5 &&& (858993459 : Int32)) fun z6 => kf_l (z4 + z6) fun z7 => kf_l (z7.toUInt32 >>> ((4 : Int32).toUInt32 &&& Int32.toUInt32 31)).toInt32 fun z8 => kf_l (z7 + z8) fun z9 => kf_l (z9 &&& (252645135 : Int32)) fun z10 => kf_l (z10.toUInt32 >>> ((8 : Int32).toUInt32 &&& Int32.toUInt32 31)).toInt32 fun z11 => kf_l (z10 + z11) fun z12 => kf_l (z12.toUInt32 >>> ((16 : Int32).toUInt32 &&& Int32.toUInt32 31)).toInt32 fun z13 => kf_l (z12 + z13) fun z14 => kf_l (z14 &&& (63 : Int32)) fun z15 => z15 := rfl
abbrev p_J6_bitCount_0f7a4 (σ : kw_S) (x : Int32) : Option Value → kw_S → Prop := fun vv σ' => σ' = σ ∧ ∃ r : Int32, vv = some (.int r) ∧ r = f_J6_bitCount_0f7a4 σ x
set_option maxRecDepth 100000 in
set_option maxHeartbeats 4000000 in
theorem c_J6_bitCount_0f7a4 (l : Launch) (σ : kw_S) (hI : kw_I bX σ) (x : Int32) : kw_Met l 1 KX mJ6_bitCount_0f7a4 [.int x] σ (p_J6_bitCount_0f7a4 σ x) := by
  have r_x := kw_rng x
  have hF := (f_J6_bitCount_0f7a4_u σ x).symm
  have q_1 : (1 : Int32).toInt = 1 := rfl
  have q_2 : (2 : Int32).toInt = 2 := rfl
  have q_4 : (4 : Int32).toInt = 4 := rfl
  have q_8 : (8 : Int32).toInt = 8 := rfl
  have q_16 : (16 : Int32).toInt = 16 := rfl
  have q_63 : (63 : Int32).toInt = 63 := rfl
  have q_252645135 : (252645135 : Int32).toInt = 252645135 := rfl
  have q_858993459 : (858993459 : Int32).toInt = 858993459 := rfl
  have q_1431655765 : (1431655765 : Int32).toInt = 1431655765 := rfl
  refine kw_Met.of (by decide) rfl tJ6_bitCount_0f7a4 (Nat.le_of_ble_eq_true rfl) ?_
  show kw_AW l 1 kw_E0 KX mJ6_bitCount_0f7a4 (p_J6_bitCount_0f7a4 σ x) 0 [(0, .int x)] [] σ
  refine kw_iload_n (pc := 0) (i := 0) (k := 0) (n := 0) rfl rfl rfl ?_
  refine kw_iload_n (pc := 1) (i := 1) (k := 0) (n := 0) rfl rfl rfl ?_
  refine kw_iconst (pc := 2) (i := 2) (v := 1) rfl rfl ?_
  refine kw_iushr (pc := 3) (i := 3) rfl (fun z1 e_z1 => ?_)
  have r_z1 := kw_rng z1
  replace hF := kf_le e_z1 hF
  refine kw_ldcw (pc := 4) (i := 4) (v := 1431655765) rfl ckJ6_265 ?_
  refine kw_iand (pc := 7) (i := 5) rfl (fun z2 e_z2 => ?_)
  have r_z2 := kw_rng z2
  replace hF := kf_le e_z2 hF
  refine kw_isub (pc := 8) (i := 6) rfl (fun z3 e_z3 t_z3 => ?_)
  replace hF := kf_le e_z3 hF
  refine kw_istore_n (pc := 9) (i := 7) (n := 0) (lv' := [(0, .int z3)]) rfl rfl (by decide) rfl ?_
  refine kw_iload_n (pc := 10) (i := 8) (k := 0) (n := 0) rfl rfl rfl ?_
  refine kw_ldcw (pc := 11) (i := 9) (v := 858993459) rfl ckJ6_266 ?_
  refine kw_iand (pc := 14) (i := 10) rfl (fun z4 e_z4 => ?_)
  have r_z4 := kw_rng z4
  replace hF := kf_le e_z4 hF
  refine kw_iload_n (pc := 15) (i := 11) (k := 0) (n := 0) rfl rfl rfl ?_
  refine kw_iconst (pc := 16) (i := 12) (v := 2) rfl rfl ?_
  refine kw_iushr (pc := 17) (i := 13) rfl (fun z5 e_z5 => ?_)
  have r_z5 := kw_rng z5
  replace hF := kf_le e_z5 hF
  refine kw_ldcw (pc := 18) (i := 14) (v := 858993459) rfl ckJ6_266 ?_
  refine kw_iand (pc := 21) (i := 15) rfl (fun z6 e_z6 => ?_)
  have r_z6 := kw_rng z6
  replace hF := kf_le e_z6 hF
  refine kw_iadd (pc := 22) (i := 16) rfl (fun z7 e_z7 t_z7 => ?_)
  replace hF := kf_le e_z7 hF
  refine kw_istore_n (pc := 23) (i := 17) (n := 0) (lv' := [(0, .int z7)]) rfl rfl (by decide) rfl ?_
  refine kw_iload_n (pc := 24) (i := 18) (k := 0) (n := 0) rfl rfl rfl ?_
  refine kw_iload_n (pc := 25) (i := 19) (k := 0) (n := 0) rfl rfl rfl ?_
  refine kw_iconst (pc := 26) (i := 20) (v := 4) rfl rfl ?_
  refine kw_iushr (pc := 27) (i := 21) rfl (fun z8 e_z8 => ?_)
  have r_z8 := kw_rng z8
  replace hF := kf_le e_z8 hF
  refine kw_iadd (pc := 28) (i := 22) rfl (fun z9 e_z9 t_z9 => ?_)
  replace hF := kf_le e_z9 hF
  refine kw_ldcw (pc := 29) (i := 23) (v := 252645135) rfl ckJ6_267 ?_
  refine kw_iand (pc := 32) (i := 24) rfl (fun z10 e_z10 => ?_)
  have r_z10 := kw_rng z10
  replace hF := kf_le e_z10 hF
  refine kw_istore_n (pc := 33) (i := 25) (n := 0) (lv' := [(0, .int z10)]) rfl rfl (by decide) rfl ?_
  refine kw_iload_n (pc := 34) (i := 26) (k := 0) (n := 0) rfl rfl rfl ?_
  refine kw_iload_n (pc := 35) (i := 27) (k := 0) (n := 0) rfl rfl rfl ?_
  refine kw_bipush (pc := 36) (i := 28) (v := 8) rfl rfl ?_
  refine kw_iushr (pc := 38) (i := 29) rfl (fun z11 e_z11 => ?_)
  have r_z11 := kw_rng z11
  replace hF := kf_le e_z11 hF
  refine kw_iadd (pc := 39) (i := 30) rfl (fun z12 e_z12 t_z12 => ?_)
  replace hF := kf_le e_z12 hF
  refine kw_istore_n (pc := 40) (i := 31) (n := 0) (lv' := [(0, .int z12)]) rfl rfl (by decide) rfl ?_
  refine kw_iload_n (pc := 41) (i := 32) (k := 0) (n := 0) rfl rfl rfl ?_
  refine kw_iload_n (pc := 42) (i := 33) (k := 0) (n := 0) rfl rfl rfl ?_
  refine kw_bipush (pc := 43) (i := 34) (v := 16) rfl rfl ?_
  refine kw_iushr (pc := 45) (i := 35) rfl (fun z13 e_z13 => ?_)
  have r_z13 := kw_rng z13
  replace hF := kf_le e_z13 hF
  refine kw_iadd (pc := 46) (i := 36) rfl (fun z14 e_z14 t_z14 => ?_)
  replace hF := kf_le e_z14 hF
  refine kw_istore_n (pc := 47) (i := 37) (n := 0) (lv' := [(0, .int z14)]) rfl rfl (by decide) rfl ?_
  refine kw_iload_n (pc := 48) (i := 38) (k := 0) (n := 0) rfl rfl rfl ?_
  refine kw_bipush (pc := 49) (i := 39) (v := 63) rfl rfl ?_
  refine kw_iand (pc := 51) (i := 40) rfl (fun z15 e_z15 => ?_)
  have r_z15 := kw_rng z15
  replace hF := kf_le e_z15 hF
  exact kw_ireturn (pc := 52) (i := 41) (ty := .int) rfl rfl rfl ⟨rfl, _, rfl, hF⟩
end
section
noncomputable def l_X6_sailFrom_7_49 (rc : kw_S → Int32 → Int32 → Int32 → kw_S) (a1 : Int32) (a2 : Int32) (a3 : Int32) : Nat → Int32 → kw_S → kw_S
  | 0, _, S => S
  | n + 1, x5, S => if x5.toInt < (S.1 52 3).toInt then (kf_l (f_X0_milesOf_52 S x5) fun z4 => kf_l (a2 + z4) fun z5 => if (S.1 7 5).toInt = 0 then (kf_l (f_X0_turnBy_52 S x5) fun z6 => kf_l (a3 + z6) fun z7 => if (S.1 7 7).toInt < z7.toInt then (kf_l (x5 + Int32.ofInt 1) fun z8 => l_X6_sailFrom_7_49 rc a1 a2 a3 n z8 S) else (kf_l (-(S.1 7 7)) fun z9 => if z7.toInt < z9.toInt then (kf_l (x5 + Int32.ofInt 1) fun z13 => l_X6_sailFrom_7_49 rc a1 a2 a3 n z13 S) else (kf_l (a1 + (1 : Int32)) fun z10 => kf_l (rc (kw_ui S 27 a1.toNatClampNeg x5) z10 z5 z7) fun S11 => kf_l (x5 + Int32.ofInt 1) fun z12 => l_X6_sailFrom_7_49 rc a1 a2 a3 n z12 S11))) else (kf_l (a1 + (1 : Int32)) fun z14 => kf_l (S.1 26 z14.toNatClampNeg) fun z15 => kf_l (z5 + z15) fun z16 => if (S.1 7 1).toInt < z16.toInt then (kf_l (f_X0_turnBy_52 S x5) fun z17 => kf_l (a3 + z17) fun z18 => if (S.1 7 7).toInt < z18.toInt then (kf_l (x5 + Int32.ofInt 1) fun z19 => l_X6_sailFrom_7_49 rc a1 a2 a3 n z19 S) else (kf_l (-(S.1 7 7)) fun z20 => if z18.toInt < z20.toInt then (kf_l (x5 + Int32.ofInt 1) fun z24 => l_X6_sailFrom_7_49 rc a1 a2 a3 n z24 S) else (kf_l (a1 + (1 : Int32)) fun z21 => kf_l (rc (kw_ui S 27 a1.toNatClampNeg x5) z21 z5 z18) fun S22 => kf_l (x5 + Int32.ofInt 1) fun z23 => l_X6_sailFrom_7_49 rc a1 a2 a3 n z23 S22))) else (kf_l (x5 + Int32.ofInt 1) fun z25 => l_X6_sailFrom_7_49 rc a1 a2 a3 n z25 S))) else (S)
theorem l_X6_sailFrom_7_49_s (rc : kw_S → Int32 → Int32 → Int32 → kw_S) (a1 : Int32) (a2 : Int32) (a3 : Int32) (n : Nat) (x5 : Int32) (S : kw_S) : l_X6_sailFrom_7_49 rc a1 a2 a3 (n + 1) x5 S = if x5.toInt < (S.1 52 3).toInt then (kf_l (f_X0_milesOf_52 S x5) fun z4 => kf_l (a2 + z4) fun z5 => if (S.1 7 5).toInt = 0 then (kf_l (f_X0_turnBy_52 S x5) fun z6 => kf_l (a3 + z6) fun z7 => if (S.1 7 7).toInt < z7.toInt then (kf_l (x5 + Int32.ofInt 1) fun z8 => l_X6_sailFrom_7_49 rc a1 a2 a3 n z8 S) else (kf_l (-(S.1 7 7)) fun z9 => if z7.toInt < z9.toInt then (kf_l (x5 + Int32.ofInt 1) fun z13 => l_X6_sailFrom_7_49 rc a1 a2 a3 n z13 S) else (kf_l (a1 + (1 : Int32)) fun z10 => kf_l (rc (kw_ui S 27 a1.toNatClampNeg x5) z10 z5 z7) fun S11 => kf_l (x5 + Int32.ofInt 1) fun z12 => l_X6_sailFrom_7_49 rc a1 a2 a3 n z12 S11))) else (kf_l (a1 + (1 : Int32)) fun z14 => kf_l (S.1 26 z14.toNatClampNeg) fun z15 => kf_l (z5 + z15) fun z16 => if (S.1 7 1).toInt < z16.toInt then (kf_l (f_X0_turnBy_52 S x5) fun z17 => kf_l (a3 + z17) fun z18 => if (S.1 7 7).toInt < z18.toInt then (kf_l (x5 + Int32.ofInt 1) fun z19 => l_X6_sailFrom_7_49 rc a1 a2 a3 n z19 S) else (kf_l (-(S.1 7 7)) fun z20 => if z18.toInt < z20.toInt then (kf_l (x5 + Int32.ofInt 1) fun z24 => l_X6_sailFrom_7_49 rc a1 a2 a3 n z24 S) else (kf_l (a1 + (1 : Int32)) fun z21 => kf_l (rc (kw_ui S 27 a1.toNatClampNeg x5) z21 z5 z18) fun S22 => kf_l (x5 + Int32.ofInt 1) fun z23 => l_X6_sailFrom_7_49 rc a1 a2 a3 n z23 S22))) else (kf_l (x5 + Int32.ofInt 1) fun z25 => l_X6_sailFrom_7_49 rc a1 a2 a3 n z25 S))) else (S) := rfl
noncomputable def l_X6_sailFrom_7_49a (rc : kw_S → Int32 → Int32 → Int32 → kw_S) (a1 : Int32) (a2 : Int32) (a3 : Int32) : Nat → Int32 → kw_S → kw_S
  | 0, _, S => S
  | n + 1, x5, S => if x5.toInt < (S.1 53 3).toInt then (kf_l (f_X0_milesOf_53 S x5) fun z26 => kf_l (a2 + z26) fun z27 => if (S.1 7 5).toInt = 0 then (kf_l (f_X0_turnBy_53 S x5) fun z28 => kf_l (a3 + z28) fun z29 => if (S.1 7 7).toInt < z29.toInt then (kf_l (x5 + Int32.ofInt 1) fun z30 => l_X6_sailFrom_7_49a rc a1 a2 a3 n z30 S) else (kf_l (-(S.1 7 7)) fun z31 => if z29.toInt < z31.toInt then (kf_l (x5 + Int32.ofInt 1) fun z35 => l_X6_sailFrom_7_49a rc a1 a2 a3 n z35 S) else (kf_l (a1 + (1 : Int32)) fun z32 => kf_l (rc (kw_ui S 27 a1.toNatClampNeg x5) z32 z27 z29) fun S33 => kf_l (x5 + Int32.ofInt 1) fun z34 => l_X6_sailFrom_7_49a rc a1 a2 a3 n z34 S33))) else (kf_l (a1 + (1 : Int32)) fun z36 => kf_l (S.1 26 z36.toNatClampNeg) fun z37 => kf_l (z27 + z37) fun z38 => if (S.1 7 1).toInt < z38.toInt then (kf_l (f_X0_turnBy_53 S x5) fun z39 => kf_l (a3 + z39) fun z40 => if (S.1 7 7).toInt < z40.toInt then (kf_l (x5 + Int32.ofInt 1) fun z41 => l_X6_sailFrom_7_49a rc a1 a2 a3 n z41 S) else (kf_l (-(S.1 7 7)) fun z42 => if z40.toInt < z42.toInt then (kf_l (x5 + Int32.ofInt 1) fun z46 => l_X6_sailFrom_7_49a rc a1 a2 a3 n z46 S) else (kf_l (a1 + (1 : Int32)) fun z43 => kf_l (rc (kw_ui S 27 a1.toNatClampNeg x5) z43 z27 z40) fun S44 => kf_l (x5 + Int32.ofInt 1) fun z45 => l_X6_sailFrom_7_49a rc a1 a2 a3 n z45 S44))) else (kf_l (x5 + Int32.ofInt 1) fun z47 => l_X6_sailFrom_7_49a rc a1 a2 a3 n z47 S))) else (S)
theorem l_X6_sailFrom_7_49a_s (rc : kw_S → Int32 → Int32 → Int32 → kw_S) (a1 : Int32) (a2 : Int32) (a3 : Int32) (n : Nat) (x5 : Int32) (S : kw_S) : l_X6_sailFrom_7_49a rc a1 a2 a3 (n + 1) x5 S = if x5.toInt < (S.1 53 3).toInt then (kf_l (f_X0_milesOf_53 S x5) fun z26 => kf_l (a2 + z26) fun z27 => if (S.1 7 5).toInt = 0 then (kf_l (f_X0_turnBy_53 S x5) fun z28 => kf_l (a3 + z28) fun z29 => if (S.1 7 7).toInt < z29.toInt then (kf_l (x5 + Int32.ofInt 1) fun z30 => l_X6_sailFrom_7_49a rc a1 a2 a3 n z30 S) else (kf_l (-(S.1 7 7)) fun z31 => if z29.toInt < z31.toInt then (kf_l (x5 + Int32.ofInt 1) fun z35 => l_X6_sailFrom_7_49a rc a1 a2 a3 n z35 S) else (kf_l (a1 + (1 : Int32)) fun z32 => kf_l (rc (kw_ui S 27 a1.toNatClampNeg x5) z32 z27 z29) fun S33 => kf_l (x5 + Int32.ofInt 1) fun z34 => l_X6_sailFrom_7_49a rc a1 a2 a3 n z34 S33))) else (kf_l (a1 + (1 : Int32)) fun z36 => kf_l (S.1 26 z36.toNatClampNeg) fun z37 => kf_l (z27 + z37) fun z38 => if (S.1 7 1).toInt < z38.toInt then (kf_l (f_X0_turnBy_53 S x5) fun z39 => kf_l (a3 + z39) fun z40 => if (S.1 7 7).toInt < z40.toInt then (kf_l (x5 + Int32.ofInt 1) fun z41 => l_X6_sailFrom_7_49a rc a1 a2 a3 n z41 S) else (kf_l (-(S.1 7 7)) fun z42 => if z40.toInt < z42.toInt then (kf_l (x5 + Int32.ofInt 1) fun z46 => l_X6_sailFrom_7_49a rc a1 a2 a3 n z46 S) else (kf_l (a1 + (1 : Int32)) fun z43 => kf_l (rc (kw_ui S 27 a1.toNatClampNeg x5) z43 z27 z40) fun S44 => kf_l (x5 + Int32.ofInt 1) fun z45 => l_X6_sailFrom_7_49a rc a1 a2 a3 n z45 S44))) else (kf_l (x5 + Int32.ofInt 1) fun z47 => l_X6_sailFrom_7_49a rc a1 a2 a3 n z47 S))) else (S) := rfl
noncomputable def l_X6_sailFrom_7_49b (rc : kw_S → Int32 → Int32 → Int32 → kw_S) (a1 : Int32) (a2 : Int32) (a3 : Int32) : Nat → Int32 → kw_S → kw_S
  | 0, _, S => S
  | n + 1, x5, S => if x5.toInt < (S.1 54 3).toInt then (kf_l (f_X0_milesOf_54 S x5) fun z48 => kf_l (a2 + z48) fun z49 => if (S.1 7 5).toInt = 0 then (kf_l (f_X0_turnBy_54 S x5) fun z50 => kf_l (a3 + z50) fun z51 => if (S.1 7 7).toInt < z51.toInt then (kf_l (x5 + Int32.ofInt 1) fun z52 => l_X6_sailFrom_7_49b rc a1 a2 a3 n z52 S) else (kf_l (-(S.1 7 7)) fun z53 => if z51.toInt < z53.toInt then (kf_l (x5 + Int32.ofInt 1) fun z57 => l_X6_sailFrom_7_49b rc a1 a2 a3 n z57 S) else (kf_l (a1 + (1 : Int32)) fun z54 => kf_l (rc (kw_ui S 27 a1.toNatClampNeg x5) z54 z49 z51) fun S55 => kf_l (x5 + Int32.ofInt 1) fun z56 => l_X6_sailFrom_7_49b rc a1 a2 a3 n z56 S55))) else (kf_l (a1 + (1 : Int32)) fun z58 => kf_l (S.1 26 z58.toNatClampNeg) fun z59 => kf_l (z49 + z59) fun z60 => if (S.1 7 1).toInt < z60.toInt then (kf_l (f_X0_turnBy_54 S x5) fun z61 => kf_l (a3 + z61) fun z62 => if (S.1 7 7).toInt < z62.toInt then (kf_l (x5 + Int32.ofInt 1) fun z63 => l_X6_sailFrom_7_49b rc a1 a2 a3 n z63 S) else (kf_l (-(S.1 7 7)) fun z64 => if z62.toInt < z64.toInt then (kf_l (x5 + Int32.ofInt 1) fun z68 => l_X6_sailFrom_7_49b rc a1 a2 a3 n z68 S) else (kf_l (a1 + (1 : Int32)) fun z65 => kf_l (rc (kw_ui S 27 a1.toNatClampNeg x5) z65 z49 z62) fun S66 => kf_l (x5 + Int32.ofInt 1) fun z67 => l_X6_sailFrom_7_49b rc a1 a2 a3 n z67 S66))) else (kf_l (x5 + Int32.ofInt 1) fun z69 => l_X6_sailFrom_7_49b rc a1 a2 a3 n z69 S))) else (S)
theorem l_X6_sailFrom_7_49b_s (rc : kw_S → Int32 → Int32 → Int32 → kw_S) (a1 : Int32) (a2 : Int32) (a3 : Int32) (n : Nat) (x5 : Int32) (S : kw_S) : l_X6_sailFrom_7_49b rc a1 a2 a3 (n + 1) x5 S = if x5.toInt < (S.1 54 3).toInt then (kf_l (f_X0_milesOf_54 S x5) fun z48 => kf_l (a2 + z48) fun z49 => if (S.1 7 5).toInt = 0 then (kf_l (f_X0_turnBy_54 S x5) fun z50 => kf_l (a3 + z50) fun z51 => if (S.1 7 7).toInt < z51.toInt then (kf_l (x5 + Int32.ofInt 1) fun z52 => l_X6_sailFrom_7_49b rc a1 a2 a3 n z52 S) else (kf_l (-(S.1 7 7)) fun z53 => if z51.toInt < z53.toInt then (kf_l (x5 + Int32.ofInt 1) fun z57 => l_X6_sailFrom_7_49b rc a1 a2 a3 n z57 S) else (kf_l (a1 + (1 : Int32)) fun z54 => kf_l (rc (kw_ui S 27 a1.toNatClampNeg x5) z54 z49 z51) fun S55 => kf_l (x5 + Int32.ofInt 1) fun z56 => l_X6_sailFrom_7_49b rc a1 a2 a3 n z56 S55))) else (kf_l (a1 + (1 : Int32)) fun z58 => kf_l (S.1 26 z58.toNatClampNeg) fun z59 => kf_l (z49 + z59) fun z60 => if (S.1 7 1).toInt < z60.toInt then (kf_l (f_X0_turnBy_54 S x5) fun z61 => kf_l (a3 + z61) fun z62 => if (S.1 7 7).toInt < z62.toInt then (kf_l (x5 + Int32.ofInt 1) fun z63 => l_X6_sailFrom_7_49b rc a1 a2 a3 n z63 S) else (kf_l (-(S.1 7 7)) fun z64 => if z62.toInt < z64.toInt then (kf_l (x5 + Int32.ofInt 1) fun z68 => l_X6_sailFrom_7_49b rc a1 a2 a3 n z68 S) else (kf_l (a1 + (1 : Int32)) fun z65 => kf_l (rc (kw_ui S 27 a1.toNatClampNeg x5) z65 z49 z62) fun S66 => kf_l (x5 + Int32.ofInt 1) fun z67 => l_X6_sailFrom_7_49b rc a1 a2 a3 n z67 S66))) else (kf_l (x5 + Int32.ofInt 1) fun z69 => l_X6_sailFrom_7_49b rc a1 a2 a3 n z69 S))) else (S) := rfl
noncomputable def f_X6_sailFrom_7 : Nat → kw_S → Int32 → Int32 → Int32 → kw_S
  | 0, σ, k, m, t => if k.toInt < (σ.1 7 6).toInt then (if k.toInt < (3 : Int32).toInt then (σ) else (kf_l (kw_ua (kw_ui (kw_ui σ 7 5 1) 7 1 m) 24 (va_cpy ((kw_ui (kw_ui σ 7 5 1) 7 1 m).1 27) ((kw_ui (kw_ui σ 7 5 1) 7 1 m).1 24) ((0 : Int32).toNatClampNeg) ((0 : Int32).toNatClampNeg) ((3 : Int32).toNatClampNeg))) fun S2 => S2)) else (kf_l (kw_ua (kw_ui (kw_ui σ 7 5 1) 7 1 m) 24 (va_cpy ((kw_ui (kw_ui σ 7 5 1) 7 1 m).1 27) ((kw_ui (kw_ui σ 7 5 1) 7 1 m).1 24) ((0 : Int32).toNatClampNeg) ((0 : Int32).toNatClampNeg) ((3 : Int32).toNatClampNeg))) fun S1 => S1)
  | n + 1, σ, k, m, t => if k.toInt < (σ.1 7 6).toInt then (if k.toInt < (3 : Int32).toInt then (if k.toInt = 0 then (l_X6_sailFrom_7_49 (f_X6_sailFrom_7 n) k m t (((σ.1 52 3).toInt - (0 : Int32).toInt).toNat + 1) (0 : Int32) σ) else if k.toInt = 1 then (l_X6_sailFrom_7_49a (f_X6_sailFrom_7 n) k m t (((σ.1 53 3).toInt - (0 : Int32).toInt).toNat + 1) (0 : Int32) σ) else if k.toInt = 2 then (l_X6_sailFrom_7_49b (f_X6_sailFrom_7 n) k m t (((σ.1 54 3).toInt - (0 : Int32).toInt).toNat + 1) (0 : Int32) σ) else σ) else (kf_l (kw_ua (kw_ui (kw_ui σ 7 5 1) 7 1 m) 24 (va_cpy ((kw_ui (kw_ui σ 7 5 1) 7 1 m).1 27) ((kw_ui (kw_ui σ 7 5 1) 7 1 m).1 24) ((0 : Int32).toNatClampNeg) ((0 : Int32).toNatClampNeg) ((3 : Int32).toNatClampNeg))) fun S70 => S70)) else (kf_l (kw_ua (kw_ui (kw_ui σ 7 5 1) 7 1 m) 24 (va_cpy ((kw_ui (kw_ui σ 7 5 1) 7 1 m).1 27) ((kw_ui (kw_ui σ 7 5 1) 7 1 m).1 24) ((0 : Int32).toNatClampNeg) ((0 : Int32).toNatClampNeg) ((3 : Int32).toNatClampNeg))) fun S3 => S3)
theorem f_X6_sailFrom_7_u0 (σ : kw_S) (k : Int32) (m : Int32) (t : Int32) : f_X6_sailFrom_7 0 σ k m t = if k.toInt < (σ.1 7 6).toInt then (if k.toInt < (3 : Int32).toInt then (σ) else (kf_l (kw_ua (kw_ui (kw_ui σ 7 5 1) 7 1 m) 24 (va_cpy ((kw_ui (kw_ui σ 7 5 1) 7 1 m).1 27) ((kw_ui (kw_ui σ 7 5 1) 7 1 m).1 24) ((0 : Int32).toNatClampNeg) ((0 : Int32).toNatClampNeg) ((3 : Int32).toNatClampNeg))) fun S2 => S2)) else (kf_l (kw_ua (kw_ui (kw_ui σ 7 5 1) 7 1 m) 24 (va_cpy ((kw_ui (kw_ui σ 7 5 1) 7 1 m).1 27) ((kw_ui (kw_ui σ 7 5 1) 7 1 m).1 24) ((0 : Int32).toNatClampNeg) ((0 : Int32).toNatClampNeg) ((3 : Int32).toNatClampNeg))) fun S1 => S1) := rfl
theorem f_X6_sailFrom_7_u1 (n : Nat) (σ : kw_S) (k : Int32) (m : Int32) (t : Int32) : f_X6_sailFrom_7 (n + 1) σ k m t = if k.toInt < (σ.1 7 6).toInt then (if k.toInt < (3 : Int32).toInt then (if k.toInt = 0 then (l_X6_sailFrom_7_49 (f_X6_sailFrom_7 n) k m t (((σ.1 52 3).toInt - (0 : Int32).toInt).toNat + 1) (0 : Int32) σ) else if k.toInt = 1 then (l_X6_sailFrom_7_49a (f_X6_sailFrom_7 n) k m t (((σ.1 53 3).toInt - (0 : Int32).toInt).toNat + 1) (0 : Int32) σ) else if k.toInt = 2 then (l_X6_sailFrom_7_49b (f_X6_sailFrom_7 n) k m t (((σ.1 54 3).toInt - (0 : Int32).toInt).toNat + 1) (0 : Int32) σ) else σ) else (kf_l (kw_ua (kw_ui (kw_ui σ 7 5 1) 7 1 m) 24 (va_cpy ((kw_ui (kw_ui σ 7 5 1) 7 1 m).1 27) ((kw_ui (kw_ui σ 7 5 1) 7 1 m).1 24) ((0 : Int32).toNatClampNeg) ((0 : Int32).toNatClampNeg) ((3 : Int32).toNatClampNeg))) fun S70 => S70)) else (kf_l (kw_ua (kw_ui (kw_ui σ 7 5 1) 7 1 m) 24 (va_cpy ((kw_ui (kw_ui σ 7 5 1) 7 1 m).1 27) ((kw_ui (kw_ui σ 7 5 1) 7 1 m).1 24) ((0 : Int32).toNatClampNeg) ((0 : Int32).toNatClampNeg) ((3 : Int32).toNatClampNeg))) fun S3 => S3) := rfl
abbrev p_X6_sailFrom_7 (n : Nat) (σ : kw_S) (k : Int32) (m : Int32) (t : Int32) : Option Value → kw_S → Prop := fun vv σ' => (kw_I bX σ' ∧ kw_F [7, 24, 27] σ σ') ∧ vv = none ∧ σ' = f_X6_sailFrom_7 n σ k m t
set_option maxRecDepth 100000 in
set_option maxHeartbeats 4000000 in
theorem c_X6_sailFrom_7 (l : Launch) : ∀ (n : Nat) (σ : kw_S) (hI : kw_I bX σ) (k : Int32) (m : Int32) (t : Int32) (hp0 : 0 ≤ k.toInt) (hp1 : 3 ≤ k.toInt + n), kw_Met l (3 + n) KX mX6_sailFrom [.ref 7, .int k, .int m, .int t] σ (p_X6_sailFrom_7 n σ k m t) := by
  intro n
  induction n with
  | zero =>
    intro σ hI k m t hp0 hp1
    have r_k := kw_rng k
    have r_m := kw_rng m
    have r_t := kw_rng t
    have hF0 : kw_F [7, 24, 27] σ σ := kw_F.rf
    have hF := (f_X6_sailFrom_7_u0 σ k m t).symm
    have q_0 : (0 : Int32).toInt = 0 := rfl
    have q_1 : (1 : Int32).toInt = 1 := rfl
    have q_3 : (3 : Int32).toInt = 3 := rfl
    refine kw_Met.of (by decide) rfl tX6_sailFrom (Nat.le_of_ble_eq_true rfl) ?_
    show kw_AW l (3 + 0) kw_E0 KX mX6_sailFrom (p_X6_sailFrom_7 0 σ k m t) 0 [(0, .ref 7), (1, .int k), (2, .int m), (3, .int t)] [] σ
    refine kw_iload_n (pc := 0) (i := 0) (k := 1) (n := 1) rfl rfl rfl ?_
    refine kw_aload_n (pc := 1) (i := 1) (k := 0) (n := 0) rfl rfl rfl ?_
    refine kw_get (pc := 2) (i := 2) (v := .int (σ.1 7 6)) rfl rfl rfl lkX6_34 (fun _ => rfl) ?_
    have b1 : 0 ≤ (σ.1 7 6).toInt ∧ (σ.1 7 6).toInt ≤ 3 := hI 7 6
    refine kw_icmp_ge (pc := 5) (i := 3) (tgt := 13) rfl rfl (fun c2 => ?_) (fun c2 => ?_)
    · replace hF := kf_nl c2 hF
      refine kw_aload_n (pc := 13) (i := 7) (k := 0) (n := 0) rfl rfl rfl ?_
      refine kw_iconst (pc := 14) (i := 8) (v := 1) rfl rfl ?_
      refine kw_puti (pc := 15) (i := 9) (z := 0) rfl rfl rfl lpX6_41 rfl rfl ?_
      have I3 : kw_I bX (kw_ui σ 7 5 1) := kw_I_ui hI (show 0 ≤ (1 : Int32).toInt by omega) (show (1 : Int32).toInt ≤ 1 by omega)
      have F4 : kw_F [7, 24, 27] σ (kw_ui σ 7 5 1) := kw_F_ui hF0 (by decide)
      refine kw_aload_n (pc := 18) (i := 10) (k := 0) (n := 0) rfl rfl rfl ?_
      refine kw_iload_n (pc := 19) (i := 11) (k := 2) (n := 2) rfl rfl rfl ?_
      refine kw_puti (pc := 20) (i := 12) (z := 0) rfl rfl rfl lpX6_78 rfl rfl ?_
      have I5 : kw_I bX (kw_ui (kw_ui σ 7 5 1) 7 1 m) := kw_I_ui I3 (kw_rng m).1 (Int.le_of_lt_add_one (kw_rng m).2)
      have F6 : kw_F [7, 24, 27] σ (kw_ui (kw_ui σ 7 5 1) 7 1 m) := kw_F_ui F4 (by decide)
      refine kw_aload_n (pc := 23) (i := 13) (k := 0) (n := 0) rfl rfl rfl ?_
      refine kw_get (pc := 24) (i := 14) (v := .ref 27) rfl rfl rfl lkX6_24 (fun _ => rfl) ?_
      refine kw_iconst (pc := 27) (i := 15) (v := 0) rfl rfl ?_
      refine kw_aload_n (pc := 28) (i := 16) (k := 0) (n := 0) rfl rfl rfl ?_
      refine kw_get (pc := 29) (i := 17) (v := .ref 24) rfl rfl rfl lkX6_9 (fun _ => rfl) ?_
      refine kw_iconst (pc := 32) (i := 18) (v := 0) rfl rfl ?_
      refine kw_iconst (pc := 33) (i := 19) (v := 3) rfl rfl ?_
      refine kw_copy (pc := 34) (i := 20) (n := 3) (m_ := 3) rfl laX6_81 rfl rfl (by omega) (by omega) (by omega) (by omega) (by omega) (by omega) (Nat.le_of_ble_eq_true rfl) ?_
      have I7 : kw_I bX (kw_ua (kw_ui (kw_ui σ 7 5 1) 7 1 m) 24 (va_cpy ((kw_ui (kw_ui σ 7 5 1) 7 1 m).1 27) ((kw_ui (kw_ui σ 7 5 1) 7 1 m).1 24) ((0 : Int32).toNatClampNeg) ((0 : Int32).toNatClampNeg) ((3 : Int32).toNatClampNeg))) := kw_I_ua I5 (fun j => ⟨(kw_rng _).1, Int.le_of_lt_add_one (kw_rng _).2⟩)
      have F8 : kw_F [7, 24, 27] σ (kw_ua (kw_ui (kw_ui σ 7 5 1) 7 1 m) 24 (va_cpy ((kw_ui (kw_ui σ 7 5 1) 7 1 m).1 27) ((kw_ui (kw_ui σ 7 5 1) 7 1 m).1 24) ((0 : Int32).toNatClampNeg) ((0 : Int32).toNatClampNeg) ((3 : Int32).toNatClampNeg))) := kw_F_ua F6 (by decide)
      generalize hS9 : (kw_ua (kw_ui (kw_ui σ 7 5 1) 7 1 m) 24 (va_cpy ((kw_ui (kw_ui σ 7 5 1) 7 1 m).1 27) ((kw_ui (kw_ui σ 7 5 1) 7 1 m).1 24) ((0 : Int32).toNatClampNeg) ((0 : Int32).toNatClampNeg) ((3 : Int32).toNatClampNeg))) = S9 at I7 F8 ⊢
      replace hF := kf_le hS9.symm hF
      exact kw_return (pc := 37) (i := 21) rfl rfl ⟨⟨I7, F8⟩, rfl, hF⟩
    · replace hF := kf_p c2 hF
      refine kw_iload_n (pc := 8) (i := 4) (k := 1) (n := 1) rfl rfl rfl ?_
      refine kw_iconst (pc := 9) (i := 5) (v := 3) rfl rfl ?_
      refine kw_icmp_lt (pc := 10) (i := 6) (tgt := 38) rfl rfl (fun c10 => ?_) (fun c10 => ?_)
      · exfalso; omega
      · replace hF := kf_nl c10 hF
        refine kw_aload_n (pc := 13) (i := 7) (k := 0) (n := 0) rfl rfl rfl ?_
        refine kw_iconst (pc := 14) (i := 8) (v := 1) rfl rfl ?_
        refine kw_puti (pc := 15) (i := 9) (z := 0) rfl rfl rfl lpX6_41 rfl rfl ?_
        have I11 : kw_I bX (kw_ui σ 7 5 1) := kw_I_ui hI (show 0 ≤ (1 : Int32).toInt by omega) (show (1 : Int32).toInt ≤ 1 by omega)
        have F12 : kw_F [7, 24, 27] σ (kw_ui σ 7 5 1) := kw_F_ui hF0 (by decide)
        refine kw_aload_n (pc := 18) (i := 10) (k := 0) (n := 0) rfl rfl rfl ?_
        refine kw_iload_n (pc := 19) (i := 11) (k := 2) (n := 2) rfl rfl rfl ?_
        refine kw_puti (pc := 20) (i := 12) (z := 0) rfl rfl rfl lpX6_78 rfl rfl ?_
        have I13 : kw_I bX (kw_ui (kw_ui σ 7 5 1) 7 1 m) := kw_I_ui I11 (kw_rng m).1 (Int.le_of_lt_add_one (kw_rng m).2)
        have F14 : kw_F [7, 24, 27] σ (kw_ui (kw_ui σ 7 5 1) 7 1 m) := kw_F_ui F12 (by decide)
        refine kw_aload_n (pc := 23) (i := 13) (k := 0) (n := 0) rfl rfl rfl ?_
        refine kw_get (pc := 24) (i := 14) (v := .ref 27) rfl rfl rfl lkX6_24 (fun _ => rfl) ?_
        refine kw_iconst (pc := 27) (i := 15) (v := 0) rfl rfl ?_
        refine kw_aload_n (pc := 28) (i := 16) (k := 0) (n := 0) rfl rfl rfl ?_
        refine kw_get (pc := 29) (i := 17) (v := .ref 24) rfl rfl rfl lkX6_9 (fun _ => rfl) ?_
        refine kw_iconst (pc := 32) (i := 18) (v := 0) rfl rfl ?_
        refine kw_iconst (pc := 33) (i := 19) (v := 3) rfl rfl ?_
        refine kw_copy (pc := 34) (i := 20) (n := 3) (m_ := 3) rfl laX6_81 rfl rfl (by omega) (by omega) (by omega) (by omega) (by omega) (by omega) (Nat.le_of_ble_eq_true rfl) ?_
        have I15 : kw_I bX (kw_ua (kw_ui (kw_ui σ 7 5 1) 7 1 m) 24 (va_cpy ((kw_ui (kw_ui σ 7 5 1) 7 1 m).1 27) ((kw_ui (kw_ui σ 7 5 1) 7 1 m).1 24) ((0 : Int32).toNatClampNeg) ((0 : Int32).toNatClampNeg) ((3 : Int32).toNatClampNeg))) := kw_I_ua I13 (fun j => ⟨(kw_rng _).1, Int.le_of_lt_add_one (kw_rng _).2⟩)
        have F16 : kw_F [7, 24, 27] σ (kw_ua (kw_ui (kw_ui σ 7 5 1) 7 1 m) 24 (va_cpy ((kw_ui (kw_ui σ 7 5 1) 7 1 m).1 27) ((kw_ui (kw_ui σ 7 5 1) 7 1 m).1 24) ((0 : Int32).toNatClampNeg) ((0 : Int32).toNatClampNeg) ((3 : Int32).toNatClampNeg))) := kw_F_ua F14 (by decide)
        generalize hS17 : (kw_ua (kw_ui (kw_ui σ 7 5 1) 7 1 m) 24 (va_cpy ((kw_ui (kw_ui σ 7 5 1) 7 1 m).1 27) ((kw_ui (kw_ui σ 7 5 1) 7 1 m).1 24) ((0 : Int32).toNatClampNeg) ((0 : Int32).toNatClampNeg) ((3 : Int32).toNatClampNeg))) = S17 at I15 F16 ⊢
        replace hF := kf_le hS17.symm hF
        exact kw_return (pc := 37) (i := 21) rfl rfl ⟨⟨I15, F16⟩, rfl, hF⟩
  | succ n ih =>
    intro σ hI k m t hp0 hp1
    have r_k := kw_rng k
    have r_m := kw_rng m
    have r_t := kw_rng t
    have hF0 : kw_F [7, 24, 27] σ σ := kw_F.rf
    have hF := (f_X6_sailFrom_7_u1 n σ k m t).symm
    have q_0 : (0 : Int32).toInt = 0 := rfl
    have q_1 : (1 : Int32).toInt = 1 := rfl
    have q_3 : (3 : Int32).toInt = 3 := rfl
    refine kw_Met.of (by decide) rfl tX6_sailFrom (Nat.le_of_ble_eq_true rfl) ?_
    show kw_AW l (3 + (n + 1)) kw_E0 KX mX6_sailFrom (p_X6_sailFrom_7 (n + 1) σ k m t) 0 [(0, .ref 7), (1, .int k), (2, .int m), (3, .int t)] [] σ
    refine kw_iload_n (pc := 0) (i := 0) (k := 1) (n := 1) rfl rfl rfl ?_
    refine kw_aload_n (pc := 1) (i := 1) (k := 0) (n := 0) rfl rfl rfl ?_
    refine kw_get (pc := 2) (i := 2) (v := .int (σ.1 7 6)) rfl rfl rfl lkX6_34 (fun _ => rfl) ?_
    have b18 : 0 ≤ (σ.1 7 6).toInt ∧ (σ.1 7 6).toInt ≤ 3 := hI 7 6
    refine kw_icmp_ge (pc := 5) (i := 3) (tgt := 13) rfl rfl (fun c19 => ?_) (fun c19 => ?_)
    · replace hF := kf_nl c19 hF
      refine kw_aload_n (pc := 13) (i := 7) (k := 0) (n := 0) rfl rfl rfl ?_
      refine kw_iconst (pc := 14) (i := 8) (v := 1) rfl rfl ?_
      refine kw_puti (pc := 15) (i := 9) (z := 0) rfl rfl rfl lpX6_41 rfl rfl ?_
      have I20 : kw_I bX (kw_ui σ 7 5 1) := kw_I_ui hI (show 0 ≤ (1 : Int32).toInt by omega) (show (1 : Int32).toInt ≤ 1 by omega)
      have F21 : kw_F [7, 24, 27] σ (kw_ui σ 7 5 1) := kw_F_ui hF0 (by decide)
      refine kw_aload_n (pc := 18) (i := 10) (k := 0) (n := 0) rfl rfl rfl ?_
      refine kw_iload_n (pc := 19) (i := 11) (k := 2) (n := 2) rfl rfl rfl ?_
      refine kw_puti (pc := 20) (i := 12) (z := 0) rfl rfl rfl lpX6_78 rfl rfl ?_
      have I22 : kw_I bX (kw_ui (kw_ui σ 7 5 1) 7 1 m) := kw_I_ui I20 (kw_rng m).1 (Int.le_of_lt_add_one (kw_rng m).2)
      have F23 : kw_F [7, 24, 27] σ (kw_ui (kw_ui σ 7 5 1) 7 1 m) := kw_F_ui F21 (by decide)
      refine kw_aload_n (pc := 23) (i := 13) (k := 0) (n := 0) rfl rfl rfl ?_
      refine kw_get (pc := 24) (i := 14) (v := .ref 27) rfl rfl rfl lkX6_24 (fun _ => rfl) ?_
      refine kw_iconst (pc := 27) (i := 15) (v := 0) rfl rfl ?_
      refine kw_aload_n (pc := 28) (i := 16) (k := 0) (n := 0) rfl rfl rfl ?_
      refine kw_get (pc := 29) (i := 17) (v := .ref 24) rfl rfl rfl lkX6_9 (fun _ => rfl) ?_
      refine kw_iconst (pc := 32) (i := 18) (v := 0) rfl rfl ?_
      refine kw_iconst (pc := 33) (i := 19) (v := 3) rfl rfl ?_
      refine kw_copy (pc := 34) (i := 20) (n := 3) (m_ := 3) rfl laX6_81 rfl rfl (by omega) (by omega) (by omega) (by omega) (by omega) (by omega) (Nat.le_of_ble_eq_true rfl) ?_
      have I24 : kw_I bX (kw_ua (kw_ui (kw_ui σ 7 5 1) 7 1 m) 24 (va_cpy ((kw_ui (kw_ui σ 7 5 1) 7 1 m).1 27) ((kw_ui (kw_ui σ 7 5 1) 7 1 m).1 24) ((0 : Int32).toNatClampNeg) ((0 : Int32).toNatClampNeg) ((3 : Int32).toNatClampNeg))) := kw_I_ua I22 (fun j => ⟨(kw_rng _).1, Int.le_of_lt_add_one (kw_rng _).2⟩)
      have F25 : kw_F [7, 24, 27] σ (kw_ua (kw_ui (kw_ui σ 7 5 1) 7 1 m) 24 (va_cpy ((kw_ui (kw_ui σ 7 5 1) 7 1 m).1 27) ((kw_ui (kw_ui σ 7 5 1) 7 1 m).1 24) ((0 : Int32).toNatClampNeg) ((0 : Int32).toNatClampNeg) ((3 : Int32).toNatClampNeg))) := kw_F_ua F23 (by decide)
      generalize hS26 : (kw_ua (kw_ui (kw_ui σ 7 5 1) 7 1 m) 24 (va_cpy ((kw_ui (kw_ui σ 7 5 1) 7 1 m).1 27) ((kw_ui (kw_ui σ 7 5 1) 7 1 m).1 24) ((0 : Int32).toNatClampNeg) ((0 : Int32).toNatClampNeg) ((3 : Int32).toNatClampNeg))) = S26 at I24 F25 ⊢
      replace hF := kf_le hS26.symm hF
      exact kw_return (pc := 37) (i := 21) rfl rfl ⟨⟨I24, F25⟩, rfl, hF⟩
    · replace hF := kf_p c19 hF
      refine kw_iload_n (pc := 8) (i := 4) (k := 1) (n := 1) rfl rfl rfl ?_
      refine kw_iconst (pc := 9) (i := 5) (v := 3) rfl rfl ?_
      refine kw_icmp_lt (pc := 10) (i := 6) (tgt := 38) rfl rfl (fun c27 => ?_) (fun c27 => ?_)
      · replace hF := kf_p c27 hF
        refine kw_aload_n (pc := 38) (i := 22) (k := 0) (n := 0) rfl rfl rfl ?_
        refine kw_get (pc := 39) (i := 23) (v := .ref 25) rfl rfl rfl lkX6_17 (fun _ => rfl) ?_
        refine kw_iload_n (pc := 42) (i := 24) (k := 1) (n := 1) rfl rfl rfl ?_
        have w28 : k.toInt = 0 ∨ k.toInt = 1 ∨ k.toInt = 2 := by omega
        rcases w28 with w28 | w28 | w28
        · replace hF := kf_p w28 hF
          have e_w28 : k.toNatClampNeg = 0 := by have := kw_clampI (x := k) (by omega); omega
          refine kw_aald (pc := 43) (i := 25) (b := 52) rfl rfl (by decide) (by omega) (by rw [e_w28]; rfl) ?_
          refine kw_astore (pc := 44) (i := 26) (n := 4) (lv' := [(4, .ref 52), (0, .ref 7), (1, .int k), (2, .int m), (3, .int t)]) rfl (by decide) rfl ?_
          refine kw_iconst (pc := 46) (i := 27) (v := 0) rfl rfl ?_
          refine kw_istore (pc := 47) (i := 28) (n := 5) (lv' := [(5, .int 0), (4, .ref 52), (0, .ref 7), (1, .int k), (2, .int m), (3, .int t)]) rfl (by decide) rfl ?_
          have L33 : ∀ (n37 : Nat) (x29 : Int32) (S30 : kw_S), kw_I bX S30 → kw_F [7, 24, 27] σ S30 → 0 ≤ x29.toInt → l_X6_sailFrom_7_49 (f_X6_sailFrom_7 n) k m t n37 x29 S30 = (f_X6_sailFrom_7 (n + 1) σ k m t) → ((σ.1 52 3).toInt - x29.toInt).toNat < n37 → kw_AW l (3 + (n + 1)) kw_E0 KX mX6_sailFrom (p_X6_sailFrom_7 (n + 1) σ k m t) 49 [(5, .int x29), (4, .ref 52), (0, .ref 7), (1, .int k), (2, .int m), (3, .int t)] [] S30 := by
            intro n37
            induction n37 with
            | zero => intro x29 S30 I31 F32 v35 hF m36; exact absurd m36 (Nat.not_lt_zero _)
            | succ n37 ih34 =>
              intro x29 S30 I31 F32 v35 hF m36
              replace hF := kf_st (l_X6_sailFrom_7_49_s _ _ _ _ _ _ _) hF
              have r_x29 := kw_rng x29
              have w_f := congrArg Int32.toInt (kw_F.at (a := 52) (j := 3) F32 (by decide))
              refine kw_iload (pc := 49) (i := 29) (k := 0) (n := 5) rfl rfl ?_
              refine kw_aload (pc := 51) (i := 30) (k := 1) (n := 4) rfl rfl ?_
              refine kw_get (pc := 53) (i := 31) (v := .int (S30.1 52 3)) rfl rfl rfl lkX6_87 (fun _ => rfl) ?_
              have b38 := kw_rng (S30.1 52 3)
              refine kw_icmp_ge (pc := 56) (i := 32) (tgt := 156) rfl rfl (fun c39 => ?_) (fun c39 => ?_)
              · replace hF := kf_nl c39 hF
                exact kw_return (pc := 156) (i := 84) rfl rfl ⟨⟨I31, F32⟩, rfl, hF⟩
              · replace hF := kf_p c39 hF
                refine kw_iload_n (pc := 59) (i := 33) (k := 4) (n := 2) rfl rfl rfl ?_
                refine kw_aload (pc := 60) (i := 34) (k := 1) (n := 4) rfl rfl ?_
                refine kw_iload (pc := 62) (i := 35) (k := 0) (n := 5) rfl rfl ?_
                refine kw_callV (pc := 64) (i := 36) (Y := mX0_milesOf) (a := 52) (As := [.int x29]) (st := [.int m]) kw_hE rfl rfl lvX6_90 arX0_milesOf (c_X0_milesOf_52 l S30 I31 x29 ) (by omega) (Nat.le_of_ble_eq_true rfl) rfl (fun v S41 p40 => ?_)
                obtain ⟨e44, z43, rfl, ef42⟩ := p40
                rw [e44]
                replace hF := kf_le ef42 hF
                have r_z43 := kw_rng z43
                show kw_AW l (3 + (n + 1)) kw_E0 KX mX6_sailFrom (p_X6_sailFrom_7 (n + 1) σ k m t) 67 [(5, .int x29), (4, .ref 52), (0, .ref 7), (1, .int k), (2, .int m), (3, .int t)] [.int z43, .int m] S30
                refine kw_iadd (pc := 67) (i := 37) rfl (fun z45 e_z45 t_z45 => ?_)
                replace hF := kf_le e_z45 hF
                refine kw_istore (pc := 68) (i := 38) (n := 6) (lv' := [(6, .int z45), (5, .int x29), (4, .ref 52), (0, .ref 7), (1, .int k), (2, .int m), (3, .int t)]) rfl (by decide) rfl ?_
                refine kw_aload_n (pc := 70) (i := 39) (k := 3) (n := 0) rfl rfl rfl ?_
                refine kw_get (pc := 71) (i := 40) (v := .int (S30.1 7 5)) rfl rfl rfl lkX6_41 (fun _ => rfl) ?_
                have b46 : 0 ≤ (S30.1 7 5).toInt ∧ (S30.1 7 5).toInt ≤ 1 := I31 7 5
                refine kw_if_eq (pc := 74) (i := 41) (tgt := 98) rfl rfl (fun c47 => ?_) (fun c47 => ?_)
                · replace hF := kf_p c47 hF
                  refine kw_iload_n (pc := 98) (i := 54) (k := 6) (n := 3) rfl rfl rfl ?_
                  refine kw_aload (pc := 99) (i := 55) (k := 2) (n := 4) rfl rfl ?_
                  refine kw_iload (pc := 101) (i := 56) (k := 1) (n := 5) rfl rfl ?_
                  refine kw_callV (pc := 103) (i := 57) (Y := mX0_turnBy) (a := 52) (As := [.int x29]) (st := [.int t]) kw_hE rfl rfl lvX6_93 arX0_turnBy (c_X0_turnBy_52 l S30 I31 x29 ) (by omega) (Nat.le_of_ble_eq_true rfl) rfl (fun v S49 p48 => ?_)
                  obtain ⟨e52, z51, rfl, ef50⟩ := p48
                  rw [e52]
                  replace hF := kf_le ef50 hF
                  have r_z51 := kw_rng z51
                  show kw_AW l (3 + (n + 1)) kw_E0 KX mX6_sailFrom (p_X6_sailFrom_7 (n + 1) σ k m t) 106 [(6, .int z45), (5, .int x29), (4, .ref 52), (0, .ref 7), (1, .int k), (2, .int m), (3, .int t)] [.int z51, .int t] S30
                  refine kw_iadd (pc := 106) (i := 58) rfl (fun z53 e_z53 t_z53 => ?_)
                  replace hF := kf_le e_z53 hF
                  refine kw_istore (pc := 107) (i := 59) (n := 7) (lv' := [(7, .int z53), (6, .int z45), (5, .int x29), (4, .ref 52), (0, .ref 7), (1, .int k), (2, .int m), (3, .int t)]) rfl (by decide) rfl ?_
                  refine kw_iload (pc := 109) (i := 60) (k := 0) (n := 7) rfl rfl ?_
                  refine kw_aload_n (pc := 111) (i := 61) (k := 4) (n := 0) rfl rfl rfl ?_
                  refine kw_get (pc := 112) (i := 62) (v := .int (S30.1 7 7)) rfl rfl rfl lkX6_38 (fun _ => rfl) ?_
                  have b54 := kw_rng (S30.1 7 7)
                  refine kw_icmp_gt (pc := 115) (i := 63) (tgt := 150) rfl rfl (fun c55 => ?_) (fun c55 => ?_)
                  · replace hF := kf_p c55 hF
                    refine kw_iinc' (pc := 150) (i := 82) (k := 2) (fun z => [(5, .int z), (7, .int z53), (6, .int z45), (4, .ref 52), (0, .ref 7), (1, .int k), (2, .int m), (3, .int t)]) rfl rfl (by decide) rfl (fun _ => rfl) (fun z56 e_z56 t_z56 => ?_)
                    replace hF := kf_le e_z56 hF
                    refine kw_goto (pc := 153) (i := 83) (tgt := 49) rfl rfl ?_
                    refine kw_sub (lv' := [(5, .int z56), (4, .ref 52), (0, .ref 7), (1, .int k), (2, .int m), (3, .int t)]) [0, 3, 4, 5, 6, 7] rfl ?_
                    exact ih34 z56 S30 I31 F32 (by omega) hF (by omega)
                  · replace hF := kf_nl c55 hF
                    refine kw_iload (pc := 118) (i := 64) (k := 0) (n := 7) rfl rfl ?_
                    refine kw_aload_n (pc := 120) (i := 65) (k := 4) (n := 0) rfl rfl rfl ?_
                    refine kw_get (pc := 121) (i := 66) (v := .int (S30.1 7 7)) rfl rfl rfl lkX6_38 (fun _ => rfl) ?_
                    refine kw_ineg (pc := 124) (i := 67) rfl (fun z57 e_z57 t_z57 => ?_)
                    replace hF := kf_le e_z57 hF
                    refine kw_icmp_ge (pc := 125) (i := 68) (tgt := 131) rfl rfl (fun c58 => ?_) (fun c58 => ?_)
                    · replace hF := kf_nl c58 hF
                      refine kw_aload_n (pc := 131) (i := 70) (k := 4) (n := 0) rfl rfl rfl ?_
                      refine kw_get (pc := 132) (i := 71) (v := .ref 27) rfl rfl rfl lkX6_24 (fun _ => rfl) ?_
                      refine kw_iload_n (pc := 135) (i := 72) (k := 5) (n := 1) rfl rfl rfl ?_
                      refine kw_iload (pc := 136) (i := 73) (k := 2) (n := 5) rfl rfl ?_
                      refine kw_iast (pc := 138) (i := 74) (n := 3) rfl rfl (by omega) (by omega) ?_
                      have I59 : kw_I bX (kw_ui S30 27 k.toNatClampNeg x29) := kw_I_ui I31 (kw_rng x29).1 (Int.le_of_lt_add_one (kw_rng x29).2)
                      have F60 : kw_F [7, 24, 27] σ (kw_ui S30 27 k.toNatClampNeg x29) := kw_F_ui F32 (by decide)
                      refine kw_aload_n (pc := 139) (i := 75) (k := 4) (n := 0) rfl rfl rfl ?_
                      refine kw_iload_n (pc := 140) (i := 76) (k := 5) (n := 1) rfl rfl rfl ?_
                      refine kw_iconst (pc := 141) (i := 77) (v := 1) rfl rfl ?_
                      refine kw_iadd (pc := 142) (i := 78) rfl (fun z61 e_z61 t_z61 => ?_)
                      replace hF := kf_le e_z61 hF
                      refine kw_iload (pc := 143) (i := 79) (k := 1) (n := 6) rfl rfl ?_
                      refine kw_iload (pc := 145) (i := 80) (k := 0) (n := 7) rfl rfl ?_
                      refine kw_callV (pc := 147) (i := 81) (Y := mX6_sailFrom) (a := 7) (As := [.int z61, .int z45, .int z53]) (st := []) kw_hE rfl rfl lvX6_74 arX6_sailFrom (ih (kw_ui S30 27 k.toNatClampNeg x29) I59 z61 z45 z53 (by first | omega | decide) (by first | omega | decide)) (by omega) (Nat.le_of_ble_eq_true rfl) rfl (fun v S63 p62 => ?_)
                      obtain ⟨⟨I65, F66⟩, rfl, ef64⟩ := p62
                      have F67 : kw_F [7, 24, 27] σ S63 := kw_F.tr F60 F66 (by decide)
                      replace hF := kf_le ef64 hF
                      show kw_AW l (3 + (n + 1)) kw_E0 KX mX6_sailFrom (p_X6_sailFrom_7 (n + 1) σ k m t) 150 [(7, .int z53), (6, .int z45), (5, .int x29), (4, .ref 52), (0, .ref 7), (1, .int k), (2, .int m), (3, .int t)] [] S63
                      refine kw_iinc' (pc := 150) (i := 82) (k := 2) (fun z => [(5, .int z), (7, .int z53), (6, .int z45), (4, .ref 52), (0, .ref 7), (1, .int k), (2, .int m), (3, .int t)]) rfl rfl (by decide) rfl (fun _ => rfl) (fun z68 e_z68 t_z68 => ?_)
                      replace hF := kf_le e_z68 hF
                      refine kw_goto (pc := 153) (i := 83) (tgt := 49) rfl rfl ?_
                      refine kw_sub (lv' := [(5, .int z68), (4, .ref 52), (0, .ref 7), (1, .int k), (2, .int m), (3, .int t)]) [0, 3, 4, 5, 6, 7] rfl ?_
                      exact ih34 z68 S63 I65 F67 (by omega) hF (by omega)
                    · replace hF := kf_p c58 hF
                      refine kw_goto (pc := 128) (i := 69) (tgt := 150) rfl rfl ?_
                      refine kw_iinc' (pc := 150) (i := 82) (k := 2) (fun z => [(5, .int z), (7, .int z53), (6, .int z45), (4, .ref 52), (0, .ref 7), (1, .int k), (2, .int m), (3, .int t)]) rfl rfl (by decide) rfl (fun _ => rfl) (fun z69 e_z69 t_z69 => ?_)
                      replace hF := kf_le e_z69 hF
                      refine kw_goto (pc := 153) (i := 83) (tgt := 49) rfl rfl ?_
                      refine kw_sub (lv' := [(5, .int z69), (4, .ref 52), (0, .ref 7), (1, .int k), (2, .int m), (3, .int t)]) [0, 3, 4, 5, 6, 7] rfl ?_
                      exact ih34 z69 S30 I31 F32 (by omega) hF (by omega)
                · replace hF := kf_n c47 hF
                  refine kw_iload (pc := 77) (i := 42) (k := 0) (n := 6) rfl rfl ?_
                  refine kw_aload_n (pc := 79) (i := 43) (k := 3) (n := 0) rfl rfl rfl ?_
                  refine kw_get (pc := 80) (i := 44) (v := .ref 26) rfl rfl rfl lkX6_21 (fun _ => rfl) ?_
                  refine kw_iload_n (pc := 83) (i := 45) (k := 4) (n := 1) rfl rfl rfl ?_
                  refine kw_iconst (pc := 84) (i := 46) (v := 1) rfl rfl ?_
                  refine kw_iadd (pc := 85) (i := 47) rfl (fun z70 e_z70 t_z70 => ?_)
                  replace hF := kf_le e_z70 hF
                  refine kw_iald (pc := 86) (i := 48) (n := 4) rfl rfl (by omega) (by omega) (fun z71 e_z71 => ?_)
                  replace hF := kf_le e_z71 hF
                  have t_z71 := congrArg Int32.toInt e_z71
                  have r_z71 := kw_rng z71
                  refine kw_iadd (pc := 87) (i := 49) rfl (fun z72 e_z72 t_z72 => ?_)
                  replace hF := kf_le e_z72 hF
                  refine kw_aload_n (pc := 88) (i := 50) (k := 3) (n := 0) rfl rfl rfl ?_
                  refine kw_get (pc := 89) (i := 51) (v := .int (S30.1 7 1)) rfl rfl rfl lkX6_78 (fun _ => rfl) ?_
                  have b73 := kw_rng (S30.1 7 1)
                  refine kw_icmp_gt (pc := 92) (i := 52) (tgt := 98) rfl rfl (fun c74 => ?_) (fun c74 => ?_)
                  · replace hF := kf_p c74 hF
                    refine kw_iload_n (pc := 98) (i := 54) (k := 6) (n := 3) rfl rfl rfl ?_
                    refine kw_aload (pc := 99) (i := 55) (k := 2) (n := 4) rfl rfl ?_
                    refine kw_iload (pc := 101) (i := 56) (k := 1) (n := 5) rfl rfl ?_
                    refine kw_callV (pc := 103) (i := 57) (Y := mX0_turnBy) (a := 52) (As := [.int x29]) (st := [.int t]) kw_hE rfl rfl lvX6_93 arX0_turnBy (c_X0_turnBy_52 l S30 I31 x29 ) (by omega) (Nat.le_of_ble_eq_true rfl) rfl (fun v S76 p75 => ?_)
                    obtain ⟨e79, z78, rfl, ef77⟩ := p75
                    rw [e79]
                    replace hF := kf_le ef77 hF
                    have r_z78 := kw_rng z78
                    show kw_AW l (3 + (n + 1)) kw_E0 KX mX6_sailFrom (p_X6_sailFrom_7 (n + 1) σ k m t) 106 [(6, .int z45), (5, .int x29), (4, .ref 52), (0, .ref 7), (1, .int k), (2, .int m), (3, .int t)] [.int z78, .int t] S30
                    refine kw_iadd (pc := 106) (i := 58) rfl (fun z80 e_z80 t_z80 => ?_)
                    replace hF := kf_le e_z80 hF
                    refine kw_istore (pc := 107) (i := 59) (n := 7) (lv' := [(7, .int z80), (6, .int z45), (5, .int x29), (4, .ref 52), (0, .ref 7), (1, .int k), (2, .int m), (3, .int t)]) rfl (by decide) rfl ?_
                    refine kw_iload (pc := 109) (i := 60) (k := 0) (n := 7) rfl rfl ?_
                    refine kw_aload_n (pc := 111) (i := 61) (k := 4) (n := 0) rfl rfl rfl ?_
                    refine kw_get (pc := 112) (i := 62) (v := .int (S30.1 7 7)) rfl rfl rfl lkX6_38 (fun _ => rfl) ?_
                    have b81 := kw_rng (S30.1 7 7)
                    refine kw_icmp_gt (pc := 115) (i := 63) (tgt := 150) rfl rfl (fun c82 => ?_) (fun c82 => ?_)
                    · replace hF := kf_p c82 hF
                      refine kw_iinc' (pc := 150) (i := 82) (k := 2) (fun z => [(5, .int z), (7, .int z80), (6, .int z45), (4, .ref 52), (0, .ref 7), (1, .int k), (2, .int m), (3, .int t)]) rfl rfl (by decide) rfl (fun _ => rfl) (fun z83 e_z83 t_z83 => ?_)
                      replace hF := kf_le e_z83 hF
                      refine kw_goto (pc := 153) (i := 83) (tgt := 49) rfl rfl ?_
                      refine kw_sub (lv' := [(5, .int z83), (4, .ref 52), (0, .ref 7), (1, .int k), (2, .int m), (3, .int t)]) [0, 3, 4, 5, 6, 7] rfl ?_
                      exact ih34 z83 S30 I31 F32 (by omega) hF (by omega)
                    · replace hF := kf_nl c82 hF
                      refine kw_iload (pc := 118) (i := 64) (k := 0) (n := 7) rfl rfl ?_
                      refine kw_aload_n (pc := 120) (i := 65) (k := 4) (n := 0) rfl rfl rfl ?_
                      refine kw_get (pc := 121) (i := 66) (v := .int (S30.1 7 7)) rfl rfl rfl lkX6_38 (fun _ => rfl) ?_
                      refine kw_ineg (pc := 124) (i := 67) rfl (fun z84 e_z84 t_z84 => ?_)
                      replace hF := kf_le e_z84 hF
                      refine kw_icmp_ge (pc := 125) (i := 68) (tgt := 131) rfl rfl (fun c85 => ?_) (fun c85 => ?_)
                      · replace hF := kf_nl c85 hF
                        refine kw_aload_n (pc := 131) (i := 70) (k := 4) (n := 0) rfl rfl rfl ?_
                        refine kw_get (pc := 132) (i := 71) (v := .ref 27) rfl rfl rfl lkX6_24 (fun _ => rfl) ?_
                        refine kw_iload_n (pc := 135) (i := 72) (k := 5) (n := 1) rfl rfl rfl ?_
                        refine kw_iload (pc := 136) (i := 73) (k := 2) (n := 5) rfl rfl ?_
                        refine kw_iast (pc := 138) (i := 74) (n := 3) rfl rfl (by omega) (by omega) ?_
                        have I86 : kw_I bX (kw_ui S30 27 k.toNatClampNeg x29) := kw_I_ui I31 (kw_rng x29).1 (Int.le_of_lt_add_one (kw_rng x29).2)
                        have F87 : kw_F [7, 24, 27] σ (kw_ui S30 27 k.toNatClampNeg x29) := kw_F_ui F32 (by decide)
                        refine kw_aload_n (pc := 139) (i := 75) (k := 4) (n := 0) rfl rfl rfl ?_
                        refine kw_iload_n (pc := 140) (i := 76) (k := 5) (n := 1) rfl rfl rfl ?_
                        refine kw_iconst (pc := 141) (i := 77) (v := 1) rfl rfl ?_
                        refine kw_iadd (pc := 142) (i := 78) rfl (fun z88 e_z88 t_z88 => ?_)
                        replace hF := kf_le e_z88 hF
                        refine kw_iload (pc := 143) (i := 79) (k := 1) (n := 6) rfl rfl ?_
                        refine kw_iload (pc := 145) (i := 80) (k := 0) (n := 7) rfl rfl ?_
                        refine kw_callV (pc := 147) (i := 81) (Y := mX6_sailFrom) (a := 7) (As := [.int z88, .int z45, .int z80]) (st := []) kw_hE rfl rfl lvX6_74 arX6_sailFrom (ih (kw_ui S30 27 k.toNatClampNeg x29) I86 z88 z45 z80 (by first | omega | decide) (by first | omega | decide)) (by omega) (Nat.le_of_ble_eq_true rfl) rfl (fun v S90 p89 => ?_)
                        obtain ⟨⟨I92, F93⟩, rfl, ef91⟩ := p89
                        have F94 : kw_F [7, 24, 27] σ S90 := kw_F.tr F87 F93 (by decide)
                        replace hF := kf_le ef91 hF
                        show kw_AW l (3 + (n + 1)) kw_E0 KX mX6_sailFrom (p_X6_sailFrom_7 (n + 1) σ k m t) 150 [(7, .int z80), (6, .int z45), (5, .int x29), (4, .ref 52), (0, .ref 7), (1, .int k), (2, .int m), (3, .int t)] [] S90
                        refine kw_iinc' (pc := 150) (i := 82) (k := 2) (fun z => [(5, .int z), (7, .int z80), (6, .int z45), (4, .ref 52), (0, .ref 7), (1, .int k), (2, .int m), (3, .int t)]) rfl rfl (by decide) rfl (fun _ => rfl) (fun z95 e_z95 t_z95 => ?_)
                        replace hF := kf_le e_z95 hF
                        refine kw_goto (pc := 153) (i := 83) (tgt := 49) rfl rfl ?_
                        refine kw_sub (lv' := [(5, .int z95), (4, .ref 52), (0, .ref 7), (1, .int k), (2, .int m), (3, .int t)]) [0, 3, 4, 5, 6, 7] rfl ?_
                        exact ih34 z95 S90 I92 F94 (by omega) hF (by omega)
                      · replace hF := kf_p c85 hF
                        refine kw_goto (pc := 128) (i := 69) (tgt := 150) rfl rfl ?_
                        refine kw_iinc' (pc := 150) (i := 82) (k := 2) (fun z => [(5, .int z), (7, .int z80), (6, .int z45), (4, .ref 52), (0, .ref 7), (1, .int k), (2, .int m), (3, .int t)]) rfl rfl (by decide) rfl (fun _ => rfl) (fun z96 e_z96 t_z96 => ?_)
                        replace hF := kf_le e_z96 hF
                        refine kw_goto (pc := 153) (i := 83) (tgt := 49) rfl rfl ?_
                        refine kw_sub (lv' := [(5, .int z96), (4, .ref 52), (0, .ref 7), (1, .int k), (2, .int m), (3, .int t)]) [0, 3, 4, 5, 6, 7] rfl ?_
                        exact ih34 z96 S30 I31 F32 (by omega) hF (by omega)
                  · replace hF := kf_nl c74 hF
                    refine kw_goto (pc := 95) (i := 53) (tgt := 150) rfl rfl ?_
                    refine kw_iinc' (pc := 150) (i := 82) (k := 1) (fun z => [(5, .int z), (6, .int z45), (4, .ref 52), (0, .ref 7), (1, .int k), (2, .int m), (3, .int t)]) rfl rfl (by decide) rfl (fun _ => rfl) (fun z97 e_z97 t_z97 => ?_)
                    replace hF := kf_le e_z97 hF
                    refine kw_goto (pc := 153) (i := 83) (tgt := 49) rfl rfl ?_
                    refine kw_sub (lv' := [(5, .int z97), (4, .ref 52), (0, .ref 7), (1, .int k), (2, .int m), (3, .int t)]) [0, 2, 3, 4, 5, 6] rfl ?_
                    exact ih34 z97 S30 I31 F32 (by omega) hF (by omega)
          exact L33 _ 0 σ hI hF0 (by omega) hF (Nat.lt_succ_self _)
        · replace hF := kf_n (fun q => absurd (w28.symm.trans q) (by decide)) hF
          replace hF := kf_p w28 hF
          have e_w28 : k.toNatClampNeg = 1 := by have := kw_clampI (x := k) (by omega); omega
          refine kw_aald (pc := 43) (i := 25) (b := 53) rfl rfl (by decide) (by omega) (by rw [e_w28]; rfl) ?_
          refine kw_astore (pc := 44) (i := 26) (n := 4) (lv' := [(4, .ref 53), (0, .ref 7), (1, .int k), (2, .int m), (3, .int t)]) rfl (by decide) rfl ?_
          refine kw_iconst (pc := 46) (i := 27) (v := 0) rfl rfl ?_
          refine kw_istore (pc := 47) (i := 28) (n := 5) (lv' := [(5, .int 0), (4, .ref 53), (0, .ref 7), (1, .int k), (2, .int m), (3, .int t)]) rfl (by decide) rfl ?_
          have L102 : ∀ (n106 : Nat) (x98 : Int32) (S99 : kw_S), kw_I bX S99 → kw_F [7, 24, 27] σ S99 → 0 ≤ x98.toInt → l_X6_sailFrom_7_49a (f_X6_sailFrom_7 n) k m t n106 x98 S99 = (f_X6_sailFrom_7 (n + 1) σ k m t) → ((σ.1 53 3).toInt - x98.toInt).toNat < n106 → kw_AW l (3 + (n + 1)) kw_E0 KX mX6_sailFrom (p_X6_sailFrom_7 (n + 1) σ k m t) 49 [(5, .int x98), (4, .ref 53), (0, .ref 7), (1, .int k), (2, .int m), (3, .int t)] [] S99 := by
            intro n106
            induction n106 with
            | zero => intro x98 S99 I100 F101 v104 hF m105; exact absurd m105 (Nat.not_lt_zero _)
            | succ n106 ih103 =>
              intro x98 S99 I100 F101 v104 hF m105
              replace hF := kf_st (l_X6_sailFrom_7_49a_s _ _ _ _ _ _ _) hF
              have r_x98 := kw_rng x98
              have w_f := congrArg Int32.toInt (kw_F.at (a := 53) (j := 3) F101 (by decide))
              refine kw_iload (pc := 49) (i := 29) (k := 0) (n := 5) rfl rfl ?_
              refine kw_aload (pc := 51) (i := 30) (k := 1) (n := 4) rfl rfl ?_
              refine kw_get (pc := 53) (i := 31) (v := .int (S99.1 53 3)) rfl rfl rfl lkX6_87 (fun _ => rfl) ?_
              have b107 := kw_rng (S99.1 53 3)
              refine kw_icmp_ge (pc := 56) (i := 32) (tgt := 156) rfl rfl (fun c108 => ?_) (fun c108 => ?_)
              · replace hF := kf_nl c108 hF
                exact kw_return (pc := 156) (i := 84) rfl rfl ⟨⟨I100, F101⟩, rfl, hF⟩
              · replace hF := kf_p c108 hF
                refine kw_iload_n (pc := 59) (i := 33) (k := 4) (n := 2) rfl rfl rfl ?_
                refine kw_aload (pc := 60) (i := 34) (k := 1) (n := 4) rfl rfl ?_
                refine kw_iload (pc := 62) (i := 35) (k := 0) (n := 5) rfl rfl ?_
                refine kw_callV (pc := 64) (i := 36) (Y := mX0_milesOf) (a := 53) (As := [.int x98]) (st := [.int m]) kw_hE rfl rfl lvX6_90 arX0_milesOf (c_X0_milesOf_53 l S99 I100 x98 ) (by omega) (Nat.le_of_ble_eq_true rfl) rfl (fun v S110 p109 => ?_)
                obtain ⟨e113, z112, rfl, ef111⟩ := p109
                rw [e113]
                replace hF := kf_le ef111 hF
                have r_z112 := kw_rng z112
                show kw_AW l (3 + (n + 1)) kw_E0 KX mX6_sailFrom (p_X6_sailFrom_7 (n + 1) σ k m t) 67 [(5, .int x98), (4, .ref 53), (0, .ref 7), (1, .int k), (2, .int m), (3, .int t)] [.int z112, .int m] S99
                refine kw_iadd (pc := 67) (i := 37) rfl (fun z114 e_z114 t_z114 => ?_)
                replace hF := kf_le e_z114 hF
                refine kw_istore (pc := 68) (i := 38) (n := 6) (lv' := [(6, .int z114), (5, .int x98), (4, .ref 53), (0, .ref 7), (1, .int k), (2, .int m), (3, .int t)]) rfl (by decide) rfl ?_
                refine kw_aload_n (pc := 70) (i := 39) (k := 3) (n := 0) rfl rfl rfl ?_
                refine kw_get (pc := 71) (i := 40) (v := .int (S99.1 7 5)) rfl rfl rfl lkX6_41 (fun _ => rfl) ?_
                have b115 : 0 ≤ (S99.1 7 5).toInt ∧ (S99.1 7 5).toInt ≤ 1 := I100 7 5
                refine kw_if_eq (pc := 74) (i := 41) (tgt := 98) rfl rfl (fun c116 => ?_) (fun c116 => ?_)
                · replace hF := kf_p c116 hF
                  refine kw_iload_n (pc := 98) (i := 54) (k := 6) (n := 3) rfl rfl rfl ?_
                  refine kw_aload (pc := 99) (i := 55) (k := 2) (n := 4) rfl rfl ?_
                  refine kw_iload (pc := 101) (i := 56) (k := 1) (n := 5) rfl rfl ?_
                  refine kw_callV (pc := 103) (i := 57) (Y := mX0_turnBy) (a := 53) (As := [.int x98]) (st := [.int t]) kw_hE rfl rfl lvX6_93 arX0_turnBy (c_X0_turnBy_53 l S99 I100 x98 ) (by omega) (Nat.le_of_ble_eq_true rfl) rfl (fun v S118 p117 => ?_)
                  obtain ⟨e121, z120, rfl, ef119⟩ := p117
                  rw [e121]
                  replace hF := kf_le ef119 hF
                  have r_z120 := kw_rng z120
                  show kw_AW l (3 + (n + 1)) kw_E0 KX mX6_sailFrom (p_X6_sailFrom_7 (n + 1) σ k m t) 106 [(6, .int z114), (5, .int x98), (4, .ref 53), (0, .ref 7), (1, .int k), (2, .int m), (3, .int t)] [.int z120, .int t] S99
                  refine kw_iadd (pc := 106) (i := 58) rfl (fun z122 e_z122 t_z122 => ?_)
                  replace hF := kf_le e_z122 hF
                  refine kw_istore (pc := 107) (i := 59) (n := 7) (lv' := [(7, .int z122), (6, .int z114), (5, .int x98), (4, .ref 53), (0, .ref 7), (1, .int k), (2, .int m), (3, .int t)]) rfl (by decide) rfl ?_
                  refine kw_iload (pc := 109) (i := 60) (k := 0) (n := 7) rfl rfl ?_
                  refine kw_aload_n (pc := 111) (i := 61) (k := 4) (n := 0) rfl rfl rfl ?_
                  refine kw_get (pc := 112) (i := 62) (v := .int (S99.1 7 7)) rfl rfl rfl lkX6_38 (fun _ => rfl) ?_
                  have b123 := kw_rng (S99.1 7 7)
                  refine kw_icmp_gt (pc := 115) (i := 63) (tgt := 150) rfl rfl (fun c124 => ?_) (fun c124 => ?_)
                  · replace hF := kf_p c124 hF
                    refine kw_iinc' (pc := 150) (i := 82) (k := 2) (fun z => [(5, .int z), (7, .int z122), (6, .int z114), (4, .ref 53), (0, .ref 7), (1, .int k), (2, .int m), (3, .int t)]) rfl rfl (by decide) rfl (fun _ => rfl) (fun z125 e_z125 t_z125 => ?_)
                    replace hF := kf_le e_z125 hF
                    refine kw_goto (pc := 153) (i := 83) (tgt := 49) rfl rfl ?_
                    refine kw_sub (lv' := [(5, .int z125), (4, .ref 53), (0, .ref 7), (1, .int k), (2, .int m), (3, .int t)]) [0, 3, 4, 5, 6, 7] rfl ?_
                    exact ih103 z125 S99 I100 F101 (by omega) hF (by omega)
                  · replace hF := kf_nl c124 hF
                    refine kw_iload (pc := 118) (i := 64) (k := 0) (n := 7) rfl rfl ?_
                    refine kw_aload_n (pc := 120) (i := 65) (k := 4) (n := 0) rfl rfl rfl ?_
                    refine kw_get (pc := 121) (i := 66) (v := .int (S99.1 7 7)) rfl rfl rfl lkX6_38 (fun _ => rfl) ?_
                    refine kw_ineg (pc := 124) (i := 67) rfl (fun z126 e_z126 t_z126 => ?_)
                    replace hF := kf_le e_z126 hF
                    refine kw_icmp_ge (pc := 125) (i := 68) (tgt := 131) rfl rfl (fun c127 => ?_) (fun c127 => ?_)
                    · replace hF := kf_nl c127 hF
                      refine kw_aload_n (pc := 131) (i := 70) (k := 4) (n := 0) rfl rfl rfl ?_
                      refine kw_get (pc := 132) (i := 71) (v := .ref 27) rfl rfl rfl lkX6_24 (fun _ => rfl) ?_
                      refine kw_iload_n (pc := 135) (i := 72) (k := 5) (n := 1) rfl rfl rfl ?_
                      refine kw_iload (pc := 136) (i := 73) (k := 2) (n := 5) rfl rfl ?_
                      refine kw_iast (pc := 138) (i := 74) (n := 3) rfl rfl (by omega) (by omega) ?_
                      have I128 : kw_I bX (kw_ui S99 27 k.toNatClampNeg x98) := kw_I_ui I100 (kw_rng x98).1 (Int.le_of_lt_add_one (kw_rng x98).2)
                      have F129 : kw_F [7, 24, 27] σ (kw_ui S99 27 k.toNatClampNeg x98) := kw_F_ui F101 (by decide)
                      refine kw_aload_n (pc := 139) (i := 75) (k := 4) (n := 0) rfl rfl rfl ?_
                      refine kw_iload_n (pc := 140) (i := 76) (k := 5) (n := 1) rfl rfl rfl ?_
                      refine kw_iconst (pc := 141) (i := 77) (v := 1) rfl rfl ?_
                      refine kw_iadd (pc := 142) (i := 78) rfl (fun z130 e_z130 t_z130 => ?_)
                      replace hF := kf_le e_z130 hF
                      refine kw_iload (pc := 143) (i := 79) (k := 1) (n := 6) rfl rfl ?_
                      refine kw_iload (pc := 145) (i := 80) (k := 0) (n := 7) rfl rfl ?_
                      refine kw_callV (pc := 147) (i := 81) (Y := mX6_sailFrom) (a := 7) (As := [.int z130, .int z114, .int z122]) (st := []) kw_hE rfl rfl lvX6_74 arX6_sailFrom (ih (kw_ui S99 27 k.toNatClampNeg x98) I128 z130 z114 z122 (by first | omega | decide) (by first | omega | decide)) (by omega) (Nat.le_of_ble_eq_true rfl) rfl (fun v S132 p131 => ?_)
                      obtain ⟨⟨I134, F135⟩, rfl, ef133⟩ := p131
                      have F136 : kw_F [7, 24, 27] σ S132 := kw_F.tr F129 F135 (by decide)
                      replace hF := kf_le ef133 hF
                      show kw_AW l (3 + (n + 1)) kw_E0 KX mX6_sailFrom (p_X6_sailFrom_7 (n + 1) σ k m t) 150 [(7, .int z122), (6, .int z114), (5, .int x98), (4, .ref 53), (0, .ref 7), (1, .int k), (2, .int m), (3, .int t)] [] S132
                      refine kw_iinc' (pc := 150) (i := 82) (k := 2) (fun z => [(5, .int z), (7, .int z122), (6, .int z114), (4, .ref 53), (0, .ref 7), (1, .int k), (2, .int m), (3, .int t)]) rfl rfl (by decide) rfl (fun _ => rfl) (fun z137 e_z137 t_z137 => ?_)
                      replace hF := kf_le e_z137 hF
                      refine kw_goto (pc := 153) (i := 83) (tgt := 49) rfl rfl ?_
                      refine kw_sub (lv' := [(5, .int z137), (4, .ref 53), (0, .ref 7), (1, .int k), (2, .int m), (3, .int t)]) [0, 3, 4, 5, 6, 7] rfl ?_
                      exact ih103 z137 S132 I134 F136 (by omega) hF (by omega)
                    · replace hF := kf_p c127 hF
                      refine kw_goto (pc := 128) (i := 69) (tgt := 150) rfl rfl ?_
                      refine kw_iinc' (pc := 150) (i := 82) (k := 2) (fun z => [(5, .int z), (7, .int z122), (6, .int z114), (4, .ref 53), (0, .ref 7), (1, .int k), (2, .int m), (3, .int t)]) rfl rfl (by decide) rfl (fun _ => rfl) (fun z138 e_z138 t_z138 => ?_)
                      replace hF := kf_le e_z138 hF
                      refine kw_goto (pc := 153) (i := 83) (tgt := 49) rfl rfl ?_
                      refine kw_sub (lv' := [(5, .int z138), (4, .ref 53), (0, .ref 7), (1, .int k), (2, .int m), (3, .int t)]) [0, 3, 4, 5, 6, 7] rfl ?_
                      exact ih103 z138 S99 I100 F101 (by omega) hF (by omega)
                · replace hF := kf_n c116 hF
                  refine kw_iload (pc := 77) (i := 42) (k := 0) (n := 6) rfl rfl ?_
                  refine kw_aload_n (pc := 79) (i := 43) (k := 3) (n := 0) rfl rfl rfl ?_
                  refine kw_get (pc := 80) (i := 44) (v := .ref 26) rfl rfl rfl lkX6_21 (fun _ => rfl) ?_
                  refine kw_iload_n (pc := 83) (i := 45) (k := 4) (n := 1) rfl rfl rfl ?_
                  refine kw_iconst (pc := 84) (i := 46) (v := 1) rfl rfl ?_
                  refine kw_iadd (pc := 85) (i := 47) rfl (fun z139 e_z139 t_z139 => ?_)
                  replace hF := kf_le e_z139 hF
                  refine kw_iald (pc := 86) (i := 48) (n := 4) rfl rfl (by omega) (by omega) (fun z140 e_z140 => ?_)
                  replace hF := kf_le e_z140 hF
                  have t_z140 := congrArg Int32.toInt e_z140
                  have r_z140 := kw_rng z140
                  refine kw_iadd (pc := 87) (i := 49) rfl (fun z141 e_z141 t_z141 => ?_)
                  replace hF := kf_le e_z141 hF
                  refine kw_aload_n (pc := 88) (i := 50) (k := 3) (n := 0) rfl rfl rfl ?_
                  refine kw_get (pc := 89) (i := 51) (v := .int (S99.1 7 1)) rfl rfl rfl lkX6_78 (fun _ => rfl) ?_
                  have b142 := kw_rng (S99.1 7 1)
                  refine kw_icmp_gt (pc := 92) (i := 52) (tgt := 98) rfl rfl (fun c143 => ?_) (fun c143 => ?_)
                  · replace hF := kf_p c143 hF
                    refine kw_iload_n (pc := 98) (i := 54) (k := 6) (n := 3) rfl rfl rfl ?_
                    refine kw_aload (pc := 99) (i := 55) (k := 2) (n := 4) rfl rfl ?_
                    refine kw_iload (pc := 101) (i := 56) (k := 1) (n := 5) rfl rfl ?_
                    refine kw_callV (pc := 103) (i := 57) (Y := mX0_turnBy) (a := 53) (As := [.int x98]) (st := [.int t]) kw_hE rfl rfl lvX6_93 arX0_turnBy (c_X0_turnBy_53 l S99 I100 x98 ) (by omega) (Nat.le_of_ble_eq_true rfl) rfl (fun v S145 p144 => ?_)
                    obtain ⟨e148, z147, rfl, ef146⟩ := p144
                    rw [e148]
                    replace hF := kf_le ef146 hF
                    have r_z147 := kw_rng z147
                    show kw_AW l (3 + (n + 1)) kw_E0 KX mX6_sailFrom (p_X6_sailFrom_7 (n + 1) σ k m t) 106 [(6, .int z114), (5, .int x98), (4, .ref 53), (0, .ref 7), (1, .int k), (2, .int m), (3, .int t)] [.int z147, .int t] S99
                    refine kw_iadd (pc := 106) (i := 58) rfl (fun z149 e_z149 t_z149 => ?_)
                    replace hF := kf_le e_z149 hF
                    refine kw_istore (pc := 107) (i := 59) (n := 7) (lv' := [(7, .int z149), (6, .int z114), (5, .int x98), (4, .ref 53), (0, .ref 7), (1, .int k), (2, .int m), (3, .int t)]) rfl (by decide) rfl ?_
                    refine kw_iload (pc := 109) (i := 60) (k := 0) (n := 7) rfl rfl ?_
                    refine kw_aload_n (pc := 111) (i := 61) (k := 4) (n := 0) rfl rfl rfl ?_
                    refine kw_get (pc := 112) (i := 62) (v := .int (S99.1 7 7)) rfl rfl rfl lkX6_38 (fun _ => rfl) ?_
                    have b150 := kw_rng (S99.1 7 7)
                    refine kw_icmp_gt (pc := 115) (i := 63) (tgt := 150) rfl rfl (fun c151 => ?_) (fun c151 => ?_)
                    · replace hF := kf_p c151 hF
                      refine kw_iinc' (pc := 150) (i := 82) (k := 2) (fun z => [(5, .int z), (7, .int z149), (6, .int z114), (4, .ref 53), (0, .ref 7), (1, .int k), (2, .int m), (3, .int t)]) rfl rfl (by decide) rfl (fun _ => rfl) (fun z152 e_z152 t_z152 => ?_)
                      replace hF := kf_le e_z152 hF
                      refine kw_goto (pc := 153) (i := 83) (tgt := 49) rfl rfl ?_
                      refine kw_sub (lv' := [(5, .int z152), (4, .ref 53), (0, .ref 7), (1, .int k), (2, .int m), (3, .int t)]) [0, 3, 4, 5, 6, 7] rfl ?_
                      exact ih103 z152 S99 I100 F101 (by omega) hF (by omega)
                    · replace hF := kf_nl c151 hF
                      refine kw_iload (pc := 118) (i := 64) (k := 0) (n := 7) rfl rfl ?_
                      refine kw_aload_n (pc := 120) (i := 65) (k := 4) (n := 0) rfl rfl rfl ?_
                      refine kw_get (pc := 121) (i := 66) (v := .int (S99.1 7 7)) rfl rfl rfl lkX6_38 (fun _ => rfl) ?_
                      refine kw_ineg (pc := 124) (i := 67) rfl (fun z153 e_z153 t_z153 => ?_)
                      replace hF := kf_le e_z153 hF
                      refine kw_icmp_ge (pc := 125) (i := 68) (tgt := 131) rfl rfl (fun c154 => ?_) (fun c154 => ?_)
                      · replace hF := kf_nl c154 hF
                        refine kw_aload_n (pc := 131) (i := 70) (k := 4) (n := 0) rfl rfl rfl ?_
                        refine kw_get (pc := 132) (i := 71) (v := .ref 27) rfl rfl rfl lkX6_24 (fun _ => rfl) ?_
                        refine kw_iload_n (pc := 135) (i := 72) (k := 5) (n := 1) rfl rfl rfl ?_
                        refine kw_iload (pc := 136) (i := 73) (k := 2) (n := 5) rfl rfl ?_
                        refine kw_iast (pc := 138) (i := 74) (n := 3) rfl rfl (by omega) (by omega) ?_
                        have I155 : kw_I bX (kw_ui S99 27 k.toNatClampNeg x98) := kw_I_ui I100 (kw_rng x98).1 (Int.le_of_lt_add_one (kw_rng x98).2)
                        have F156 : kw_F [7, 24, 27] σ (kw_ui S99 27 k.toNatClampNeg x98) := kw_F_ui F101 (by decide)
                        refine kw_aload_n (pc := 139) (i := 75) (k := 4) (n := 0) rfl rfl rfl ?_
                        refine kw_iload_n (pc := 140) (i := 76) (k := 5) (n := 1) rfl rfl rfl ?_
                        refine kw_iconst (pc := 141) (i := 77) (v := 1) rfl rfl ?_
                        refine kw_iadd (pc := 142) (i := 78) rfl (fun z157 e_z157 t_z157 => ?_)
                        replace hF := kf_le e_z157 hF
                        refine kw_iload (pc := 143) (i := 79) (k := 1) (n := 6) rfl rfl ?_
                        refine kw_iload (pc := 145) (i := 80) (k := 0) (n := 7) rfl rfl ?_
                        refine kw_callV (pc := 147) (i := 81) (Y := mX6_sailFrom) (a := 7) (As := [.int z157, .int z114, .int z149]) (st := []) kw_hE rfl rfl lvX6_74 arX6_sailFrom (ih (kw_ui S99 27 k.toNatClampNeg x98) I155 z157 z114 z149 (by first | omega | decide) (by first | omega | decide)) (by omega) (Nat.le_of_ble_eq_true rfl) rfl (fun v S159 p158 => ?_)
                        obtain ⟨⟨I161, F162⟩, rfl, ef160⟩ := p158
                        have F163 : kw_F [7, 24, 27] σ S159 := kw_F.tr F156 F162 (by decide)
                        replace hF := kf_le ef160 hF
                        show kw_AW l (3 + (n + 1)) kw_E0 KX mX6_sailFrom (p_X6_sailFrom_7 (n + 1) σ k m t) 150 [(7, .int z149), (6, .int z114), (5, .int x98), (4, .ref 53), (0, .ref 7), (1, .int k), (2, .int m), (3, .int t)] [] S159
                        refine kw_iinc' (pc := 150) (i := 82) (k := 2) (fun z => [(5, .int z), (7, .int z149), (6, .int z114), (4, .ref 53), (0, .ref 7), (1, .int k), (2, .int m), (3, .int t)]) rfl rfl (by decide) rfl (fun _ => rfl) (fun z164 e_z164 t_z164 => ?_)
                        replace hF := kf_le e_z164 hF
                        refine kw_goto (pc := 153) (i := 83) (tgt := 49) rfl rfl ?_
                        refine kw_sub (lv' := [(5, .int z164), (4, .ref 53), (0, .ref 7), (1, .int k), (2, .int m), (3, .int t)]) [0, 3, 4, 5, 6, 7] rfl ?_
                        exact ih103 z164 S159 I161 F163 (by omega) hF (by omega)
                      · replace hF := kf_p c154 hF
                        refine kw_goto (pc := 128) (i := 69) (tgt := 150) rfl rfl ?_
                        refine kw_iinc' (pc := 150) (i := 82) (k := 2) (fun z => [(5, .int z), (7, .int z149), (6, .int z114), (4, .ref 53), (0, .ref 7), (1, .int k), (2, .int m), (3, .int t)]) rfl rfl (by decide) rfl (fun _ => rfl) (fun z165 e_z165 t_z165 => ?_)
                        replace hF := kf_le e_z165 hF
                        refine kw_goto (pc := 153) (i := 83) (tgt := 49) rfl rfl ?_
                        refine kw_sub (lv' := [(5, .int z165), (4, .ref 53), (0, .ref 7), (1, .int k), (2, .int m), (3, .int t)]) [0, 3, 4, 5, 6, 7] rfl ?_
                        exact ih103 z165 S99 I100 F101 (by omega) hF (by omega)
                  · replace hF := kf_nl c143 hF
                    refine kw_goto (pc := 95) (i := 53) (tgt := 150) rfl rfl ?_
                    refine kw_iinc' (pc := 150) (i := 82) (k := 1) (fun z => [(5, .int z), (6, .int z114), (4, .ref 53), (0, .ref 7), (1, .int k), (2, .int m), (3, .int t)]) rfl rfl (by decide) rfl (fun _ => rfl) (fun z166 e_z166 t_z166 => ?_)
                    replace hF := kf_le e_z166 hF
                    refine kw_goto (pc := 153) (i := 83) (tgt := 49) rfl rfl ?_
                    refine kw_sub (lv' := [(5, .int z166), (4, .ref 53), (0, .ref 7), (1, .int k), (2, .int m), (3, .int t)]) [0, 2, 3, 4, 5, 6] rfl ?_
                    exact ih103 z166 S99 I100 F101 (by omega) hF (by omega)
          exact L102 _ 0 σ hI hF0 (by omega) hF (Nat.lt_succ_self _)
        · replace hF := kf_n (fun q => absurd (w28.symm.trans q) (by decide)) hF
          replace hF := kf_n (fun q => absurd (w28.symm.trans q) (by decide)) hF
          replace hF := kf_p w28 hF
          have e_w28 : k.toNatClampNeg = 2 := by have := kw_clampI (x := k) (by omega); omega
          refine kw_aald (pc := 43) (i := 25) (b := 54) rfl rfl (by decide) (by omega) (by rw [e_w28]; rfl) ?_
          refine kw_astore (pc := 44) (i := 26) (n := 4) (lv' := [(4, .ref 54), (0, .ref 7), (1, .int k), (2, .int m), (3, .int t)]) rfl (by decide) rfl ?_
          refine kw_iconst (pc := 46) (i := 27) (v := 0) rfl rfl ?_
          refine kw_istore (pc := 47) (i := 28) (n := 5) (lv' := [(5, .int 0), (4, .ref 54), (0, .ref 7), (1, .int k), (2, .int m), (3, .int t)]) rfl (by decide) rfl ?_
          have L171 : ∀ (n175 : Nat) (x167 : Int32) (S168 : kw_S), kw_I bX S168 → kw_F [7, 24, 27] σ S168 → 0 ≤ x167.toInt → l_X6_sailFrom_7_49b (f_X6_sailFrom_7 n) k m t n175 x167 S168 = (f_X6_sailFrom_7 (n + 1) σ k m t) → ((σ.1 54 3).toInt - x167.toInt).toNat < n175 → kw_AW l (3 + (n + 1)) kw_E0 KX mX6_sailFrom (p_X6_sailFrom_7 (n + 1) σ k m t) 49 [(5, .int x167), (4, .ref 54), (0, .ref 7), (1, .int k), (2, .int m), (3, .int t)] [] S168 := by
            intro n175
            induction n175 with
            | zero => intro x167 S168 I169 F170 v173 hF m174; exact absurd m174 (Nat.not_lt_zero _)
            | succ n175 ih172 =>
              intro x167 S168 I169 F170 v173 hF m174
              replace hF := kf_st (l_X6_sailFrom_7_49b_s _ _ _ _ _ _ _) hF
              have r_x167 := kw_rng x167
              have w_f := congrArg Int32.toInt (kw_F.at (a := 54) (j := 3) F170 (by decide))
              refine kw_iload (pc := 49) (i := 29) (k := 0) (n := 5) rfl rfl ?_
              refine kw_aload (pc := 51) (i := 30) (k := 1) (n := 4) rfl rfl ?_
              refine kw_get (pc := 53) (i := 31) (v := .int (S168.1 54 3)) rfl rfl rfl lkX6_87 (fun _ => rfl) ?_
              have b176 := kw_rng (S168.1 54 3)
              refine kw_icmp_ge (pc := 56) (i := 32) (tgt := 156) rfl rfl (fun c177 => ?_) (fun c177 => ?_)
              · replace hF := kf_nl c177 hF
                exact kw_return (pc := 156) (i := 84) rfl rfl ⟨⟨I169, F170⟩, rfl, hF⟩
              · replace hF := kf_p c177 hF
                refine kw_iload_n (pc := 59) (i := 33) (k := 4) (n := 2) rfl rfl rfl ?_
                refine kw_aload (pc := 60) (i := 34) (k := 1) (n := 4) rfl rfl ?_
                refine kw_iload (pc := 62) (i := 35) (k := 0) (n := 5) rfl rfl ?_
                refine kw_callV (pc := 64) (i := 36) (Y := mX0_milesOf) (a := 54) (As := [.int x167]) (st := [.int m]) kw_hE rfl rfl lvX6_90 arX0_milesOf (c_X0_milesOf_54 l S168 I169 x167 ) (by omega) (Nat.le_of_ble_eq_true rfl) rfl (fun v S179 p178 => ?_)
                obtain ⟨e182, z181, rfl, ef180⟩ := p178
                rw [e182]
                replace hF := kf_le ef180 hF
                have r_z181 := kw_rng z181
                show kw_AW l (3 + (n + 1)) kw_E0 KX mX6_sailFrom (p_X6_sailFrom_7 (n + 1) σ k m t) 67 [(5, .int x167), (4, .ref 54), (0, .ref 7), (1, .int k), (2, .int m), (3, .int t)] [.int z181, .int m] S168
                refine kw_iadd (pc := 67) (i := 37) rfl (fun z183 e_z183 t_z183 => ?_)
                replace hF := kf_le e_z183 hF
                refine kw_istore (pc := 68) (i := 38) (n := 6) (lv' := [(6, .int z183), (5, .int x167), (4, .ref 54), (0, .ref 7), (1, .int k), (2, .int m), (3, .int t)]) rfl (by decide) rfl ?_
                refine kw_aload_n (pc := 70) (i := 39) (k := 3) (n := 0) rfl rfl rfl ?_
                refine kw_get (pc := 71) (i := 40) (v := .int (S168.1 7 5)) rfl rfl rfl lkX6_41 (fun _ => rfl) ?_
                have b184 : 0 ≤ (S168.1 7 5).toInt ∧ (S168.1 7 5).toInt ≤ 1 := I169 7 5
                refine kw_if_eq (pc := 74) (i := 41) (tgt := 98) rfl rfl (fun c185 => ?_) (fun c185 => ?_)
                · replace hF := kf_p c185 hF
                  refine kw_iload_n (pc := 98) (i := 54) (k := 6) (n := 3) rfl rfl rfl ?_
                  refine kw_aload (pc := 99) (i := 55) (k := 2) (n := 4) rfl rfl ?_
                  refine kw_iload (pc := 101) (i := 56) (k := 1) (n := 5) rfl rfl ?_
                  refine kw_callV (pc := 103) (i := 57) (Y := mX0_turnBy) (a := 54) (As := [.int x167]) (st := [.int t]) kw_hE rfl rfl lvX6_93 arX0_turnBy (c_X0_turnBy_54 l S168 I169 x167 ) (by omega) (Nat.le_of_ble_eq_true rfl) rfl (fun v S187 p186 => ?_)
                  obtain ⟨e190, z189, rfl, ef188⟩ := p186
                  rw [e190]
                  replace hF := kf_le ef188 hF
                  have r_z189 := kw_rng z189
                  show kw_AW l (3 + (n + 1)) kw_E0 KX mX6_sailFrom (p_X6_sailFrom_7 (n + 1) σ k m t) 106 [(6, .int z183), (5, .int x167), (4, .ref 54), (0, .ref 7), (1, .int k), (2, .int m), (3, .int t)] [.int z189, .int t] S168
                  refine kw_iadd (pc := 106) (i := 58) rfl (fun z191 e_z191 t_z191 => ?_)
                  replace hF := kf_le e_z191 hF
                  refine kw_istore (pc := 107) (i := 59) (n := 7) (lv' := [(7, .int z191), (6, .int z183), (5, .int x167), (4, .ref 54), (0, .ref 7), (1, .int k), (2, .int m), (3, .int t)]) rfl (by decide) rfl ?_
                  refine kw_iload (pc := 109) (i := 60) (k := 0) (n := 7) rfl rfl ?_
                  refine kw_aload_n (pc := 111) (i := 61) (k := 4) (n := 0) rfl rfl rfl ?_
                  refine kw_get (pc := 112) (i := 62) (v := .int (S168.1 7 7)) rfl rfl rfl lkX6_38 (fun _ => rfl) ?_
                  have b192 := kw_rng (S168.1 7 7)
                  refine kw_icmp_gt (pc := 115) (i := 63) (tgt := 150) rfl rfl (fun c193 => ?_) (fun c193 => ?_)
                  · replace hF := kf_p c193 hF
                    refine kw_iinc' (pc := 150) (i := 82) (k := 2) (fun z => [(5, .int z), (7, .int z191), (6, .int z183), (4, .ref 54), (0, .ref 7), (1, .int k), (2, .int m), (3, .int t)]) rfl rfl (by decide) rfl (fun _ => rfl) (fun z194 e_z194 t_z194 => ?_)
                    replace hF := kf_le e_z194 hF
                    refine kw_goto (pc := 153) (i := 83) (tgt := 49) rfl rfl ?_
                    refine kw_sub (lv' := [(5, .int z194), (4, .ref 54), (0, .ref 7), (1, .int k), (2, .int m), (3, .int t)]) [0, 3, 4, 5, 6, 7] rfl ?_
                    exact ih172 z194 S168 I169 F170 (by omega) hF (by omega)
                  · replace hF := kf_nl c193 hF
                    refine kw_iload (pc := 118) (i := 64) (k := 0) (n := 7) rfl rfl ?_
                    refine kw_aload_n (pc := 120) (i := 65) (k := 4) (n := 0) rfl rfl rfl ?_
                    refine kw_get (pc := 121) (i := 66) (v := .int (S168.1 7 7)) rfl rfl rfl lkX6_38 (fun _ => rfl) ?_
                    refine kw_ineg (pc := 124) (i := 67) rfl (fun z195 e_z195 t_z195 => ?_)
                    replace hF := kf_le e_z195 hF
                    refine kw_icmp_ge (pc := 125) (i := 68) (tgt := 131) rfl rfl (fun c196 => ?_) (fun c196 => ?_)
                    · replace hF := kf_nl c196 hF
                      refine kw_aload_n (pc := 131) (i := 70) (k := 4) (n := 0) rfl rfl rfl ?_
                      refine kw_get (pc := 132) (i := 71) (v := .ref 27) rfl rfl rfl lkX6_24 (fun _ => rfl) ?_
                      refine kw_iload_n (pc := 135) (i := 72) (k := 5) (n := 1) rfl rfl rfl ?_
                      refine kw_iload (pc := 136) (i := 73) (k := 2) (n := 5) rfl rfl ?_
                      refine kw_iast (pc := 138) (i := 74) (n := 3) rfl rfl (by omega) (by omega) ?_
                      have I197 : kw_I bX (kw_ui S168 27 k.toNatClampNeg x167) := kw_I_ui I169 (kw_rng x167).1 (Int.le_of_lt_add_one (kw_rng x167).2)
                      have F198 : kw_F [7, 24, 27] σ (kw_ui S168 27 k.toNatClampNeg x167) := kw_F_ui F170 (by decide)
                      refine kw_aload_n (pc := 139) (i := 75) (k := 4) (n := 0) rfl rfl rfl ?_
                      refine kw_iload_n (pc := 140) (i := 76) (k := 5) (n := 1) rfl rfl rfl ?_
                      refine kw_iconst (pc := 141) (i := 77) (v := 1) rfl rfl ?_
                      refine kw_iadd (pc := 142) (i := 78) rfl (fun z199 e_z199 t_z199 => ?_)
                      replace hF := kf_le e_z199 hF
                      refine kw_iload (pc := 143) (i := 79) (k := 1) (n := 6) rfl rfl ?_
                      refine kw_iload (pc := 145) (i := 80) (k := 0) (n := 7) rfl rfl ?_
                      refine kw_callV (pc := 147) (i := 81) (Y := mX6_sailFrom) (a := 7) (As := [.int z199, .int z183, .int z191]) (st := []) kw_hE rfl rfl lvX6_74 arX6_sailFrom (ih (kw_ui S168 27 k.toNatClampNeg x167) I197 z199 z183 z191 (by first | omega | decide) (by first | omega | decide)) (by omega) (Nat.le_of_ble_eq_true rfl) rfl (fun v S201 p200 => ?_)
                      obtain ⟨⟨I203, F204⟩, rfl, ef202⟩ := p200
                      have F205 : kw_F [7, 24, 27] σ S201 := kw_F.tr F198 F204 (by decide)
                      replace hF := kf_le ef202 hF
                      show kw_AW l (3 + (n + 1)) kw_E0 KX mX6_sailFrom (p_X6_sailFrom_7 (n + 1) σ k m t) 150 [(7, .int z191), (6, .int z183), (5, .int x167), (4, .ref 54), (0, .ref 7), (1, .int k), (2, .int m), (3, .int t)] [] S201
                      refine kw_iinc' (pc := 150) (i := 82) (k := 2) (fun z => [(5, .int z), (7, .int z191), (6, .int z183), (4, .ref 54), (0, .ref 7), (1, .int k), (2, .int m), (3, .int t)]) rfl rfl (by decide) rfl (fun _ => rfl) (fun z206 e_z206 t_z206 => ?_)
                      replace hF := kf_le e_z206 hF
                      refine kw_goto (pc := 153) (i := 83) (tgt := 49) rfl rfl ?_
                      refine kw_sub (lv' := [(5, .int z206), (4, .ref 54), (0, .ref 7), (1, .int k), (2, .int m), (3, .int t)]) [0, 3, 4, 5, 6, 7] rfl ?_
                      exact ih172 z206 S201 I203 F205 (by omega) hF (by omega)
                    · replace hF := kf_p c196 hF
                      refine kw_goto (pc := 128) (i := 69) (tgt := 150) rfl rfl ?_
                      refine kw_iinc' (pc := 150) (i := 82) (k := 2) (fun z => [(5, .int z), (7, .int z191), (6, .int z183), (4, .ref 54), (0, .ref 7), (1, .int k), (2, .int m), (3, .int t)]) rfl rfl (by decide) rfl (fun _ => rfl) (fun z207 e_z207 t_z207 => ?_)
                      replace hF := kf_le e_z207 hF
                      refine kw_goto (pc := 153) (i := 83) (tgt := 49) rfl rfl ?_
                      refine kw_sub (lv' := [(5, .int z207), (4, .ref 54), (0, .ref 7), (1, .int k), (2, .int m), (3, .int t)]) [0, 3, 4, 5, 6, 7] rfl ?_
                      exact ih172 z207 S168 I169 F170 (by omega) hF (by omega)
                · replace hF := kf_n c185 hF
                  refine kw_iload (pc := 77) (i := 42) (k := 0) (n := 6) rfl rfl ?_
                  refine kw_aload_n (pc := 79) (i := 43) (k := 3) (n := 0) rfl rfl rfl ?_
                  refine kw_get (pc := 80) (i := 44) (v := .ref 26) rfl rfl rfl lkX6_21 (fun _ => rfl) ?_
                  refine kw_iload_n (pc := 83) (i := 45) (k := 4) (n := 1) rfl rfl rfl ?_
                  refine kw_iconst (pc := 84) (i := 46) (v := 1) rfl rfl ?_
                  refine kw_iadd (pc := 85) (i := 47) rfl (fun z208 e_z208 t_z208 => ?_)
                  replace hF := kf_le e_z208 hF
                  refine kw_iald (pc := 86) (i := 48) (n := 4) rfl rfl (by omega) (by omega) (fun z209 e_z209 => ?_)
                  replace hF := kf_le e_z209 hF
                  have t_z209 := congrArg Int32.toInt e_z209
                  have r_z209 := kw_rng z209
                  refine kw_iadd (pc := 87) (i := 49) rfl (fun z210 e_z210 t_z210 => ?_)
                  replace hF := kf_le e_z210 hF
                  refine kw_aload_n (pc := 88) (i := 50) (k := 3) (n := 0) rfl rfl rfl ?_
                  refine kw_get (pc := 89) (i := 51) (v := .int (S168.1 7 1)) rfl rfl rfl lkX6_78 (fun _ => rfl) ?_
                  have b211 := kw_rng (S168.1 7 1)
                  refine kw_icmp_gt (pc := 92) (i := 52) (tgt := 98) rfl rfl (fun c212 => ?_) (fun c212 => ?_)
                  · replace hF := kf_p c212 hF
                    refine kw_iload_n (pc := 98) (i := 54) (k := 6) (n := 3) rfl rfl rfl ?_
                    refine kw_aload (pc := 99) (i := 55) (k := 2) (n := 4) rfl rfl ?_
                    refine kw_iload (pc := 101) (i := 56) (k := 1) (n := 5) rfl rfl ?_
                    refine kw_callV (pc := 103) (i := 57) (Y := mX0_turnBy) (a := 54) (As := [.int x167]) (st := [.int t]) kw_hE rfl rfl lvX6_93 arX0_turnBy (c_X0_turnBy_54 l S168 I169 x167 ) (by omega) (Nat.le_of_ble_eq_true rfl) rfl (fun v S214 p213 => ?_)
                    obtain ⟨e217, z216, rfl, ef215⟩ := p213
                    rw [e217]
                    replace hF := kf_le ef215 hF
                    have r_z216 := kw_rng z216
                    show kw_AW l (3 + (n + 1)) kw_E0 KX mX6_sailFrom (p_X6_sailFrom_7 (n + 1) σ k m t) 106 [(6, .int z183), (5, .int x167), (4, .ref 54), (0, .ref 7), (1, .int k), (2, .int m), (3, .int t)] [.int z216, .int t] S168
                    refine kw_iadd (pc := 106) (i := 58) rfl (fun z218 e_z218 t_z218 => ?_)
                    replace hF := kf_le e_z218 hF
                    refine kw_istore (pc := 107) (i := 59) (n := 7) (lv' := [(7, .int z218), (6, .int z183), (5, .int x167), (4, .ref 54), (0, .ref 7), (1, .int k), (2, .int m), (3, .int t)]) rfl (by decide) rfl ?_
                    refine kw_iload (pc := 109) (i := 60) (k := 0) (n := 7) rfl rfl ?_
                    refine kw_aload_n (pc := 111) (i := 61) (k := 4) (n := 0) rfl rfl rfl ?_
                    refine kw_get (pc := 112) (i := 62) (v := .int (S168.1 7 7)) rfl rfl rfl lkX6_38 (fun _ => rfl) ?_
                    have b219 := kw_rng (S168.1 7 7)
                    refine kw_icmp_gt (pc := 115) (i := 63) (tgt := 150) rfl rfl (fun c220 => ?_) (fun c220 => ?_)
                    · replace hF := kf_p c220 hF
                      refine kw_iinc' (pc := 150) (i := 82) (k := 2) (fun z => [(5, .int z), (7, .int z218), (6, .int z183), (4, .ref 54), (0, .ref 7), (1, .int k), (2, .int m), (3, .int t)]) rfl rfl (by decide) rfl (fun _ => rfl) (fun z221 e_z221 t_z221 => ?_)
                      replace hF := kf_le e_z221 hF
                      refine kw_goto (pc := 153) (i := 83) (tgt := 49) rfl rfl ?_
                      refine kw_sub (lv' := [(5, .int z221), (4, .ref 54), (0, .ref 7), (1, .int k), (2, .int m), (3, .int t)]) [0, 3, 4, 5, 6, 7] rfl ?_
                      exact ih172 z221 S168 I169 F170 (by omega) hF (by omega)
                    · replace hF := kf_nl c220 hF
                      refine kw_iload (pc := 118) (i := 64) (k := 0) (n := 7) rfl rfl ?_
                      refine kw_aload_n (pc := 120) (i := 65) (k := 4) (n := 0) rfl rfl rfl ?_
                      refine kw_get (pc := 121) (i := 66) (v := .int (S168.1 7 7)) rfl rfl rfl lkX6_38 (fun _ => rfl) ?_
                      refine kw_ineg (pc := 124) (i := 67) rfl (fun z222 e_z222 t_z222 => ?_)
                      replace hF := kf_le e_z222 hF
                      refine kw_icmp_ge (pc := 125) (i := 68) (tgt := 131) rfl rfl (fun c223 => ?_) (fun c223 => ?_)
                      · replace hF := kf_nl c223 hF
                        refine kw_aload_n (pc := 131) (i := 70) (k := 4) (n := 0) rfl rfl rfl ?_
                        refine kw_get (pc := 132) (i := 71) (v := .ref 27) rfl rfl rfl lkX6_24 (fun _ => rfl) ?_
                        refine kw_iload_n (pc := 135) (i := 72) (k := 5) (n := 1) rfl rfl rfl ?_
                        refine kw_iload (pc := 136) (i := 73) (k := 2) (n := 5) rfl rfl ?_
                        refine kw_iast (pc := 138) (i := 74) (n := 3) rfl rfl (by omega) (by omega) ?_
                        have I224 : kw_I bX (kw_ui S168 27 k.toNatClampNeg x167) := kw_I_ui I169 (kw_rng x167).1 (Int.le_of_lt_add_one (kw_rng x167).2)
                        have F225 : kw_F [7, 24, 27] σ (kw_ui S168 27 k.toNatClampNeg x167) := kw_F_ui F170 (by decide)
                        refine kw_aload_n (pc := 139) (i := 75) (k := 4) (n := 0) rfl rfl rfl ?_
                        refine kw_iload_n (pc := 140) (i := 76) (k := 5) (n := 1) rfl rfl rfl ?_
                        refine kw_iconst (pc := 141) (i := 77) (v := 1) rfl rfl ?_
                        refine kw_iadd (pc := 142) (i := 78) rfl (fun z226 e_z226 t_z226 => ?_)
                        replace hF := kf_le e_z226 hF
                        refine kw_iload (pc := 143) (i := 79) (k := 1) (n := 6) rfl rfl ?_
                        refine kw_iload (pc := 145) (i := 80) (k := 0) (n := 7) rfl rfl ?_
                        refine kw_callV (pc := 147) (i := 81) (Y := mX6_sailFrom) (a := 7) (As := [.int z226, .int z183, .int z218]) (st := []) kw_hE rfl rfl lvX6_74 arX6_sailFrom (ih (kw_ui S168 27 k.toNatClampNeg x167) I224 z226 z183 z218 (by first | omega | decide) (by first | omega | decide)) (by omega) (Nat.le_of_ble_eq_true rfl) rfl (fun v S228 p227 => ?_)
                        obtain ⟨⟨I230, F231⟩, rfl, ef229⟩ := p227
                        have F232 : kw_F [7, 24, 27] σ S228 := kw_F.tr F225 F231 (by decide)
                        replace hF := kf_le ef229 hF
                        show kw_AW l (3 + (n + 1)) kw_E0 KX mX6_sailFrom (p_X6_sailFrom_7 (n + 1) σ k m t) 150 [(7, .int z218), (6, .int z183), (5, .int x167), (4, .ref 54), (0, .ref 7), (1, .int k), (2, .int m), (3, .int t)] [] S228
                        refine kw_iinc' (pc := 150) (i := 82) (k := 2) (fun z => [(5, .int z), (7, .int z218), (6, .int z183), (4, .ref 54), (0, .ref 7), (1, .int k), (2, .int m), (3, .int t)]) rfl rfl (by decide) rfl (fun _ => rfl) (fun z233 e_z233 t_z233 => ?_)
                        replace hF := kf_le e_z233 hF
                        refine kw_goto (pc := 153) (i := 83) (tgt := 49) rfl rfl ?_
                        refine kw_sub (lv' := [(5, .int z233), (4, .ref 54), (0, .ref 7), (1, .int k), (2, .int m), (3, .int t)]) [0, 3, 4, 5, 6, 7] rfl ?_
                        exact ih172 z233 S228 I230 F232 (by omega) hF (by omega)
                      · replace hF := kf_p c223 hF
                        refine kw_goto (pc := 128) (i := 69) (tgt := 150) rfl rfl ?_
                        refine kw_iinc' (pc := 150) (i := 82) (k := 2) (fun z => [(5, .int z), (7, .int z218), (6, .int z183), (4, .ref 54), (0, .ref 7), (1, .int k), (2, .int m), (3, .int t)]) rfl rfl (by decide) rfl (fun _ => rfl) (fun z234 e_z234 t_z234 => ?_)
                        replace hF := kf_le e_z234 hF
                        refine kw_goto (pc := 153) (i := 83) (tgt := 49) rfl rfl ?_
                        refine kw_sub (lv' := [(5, .int z234), (4, .ref 54), (0, .ref 7), (1, .int k), (2, .int m), (3, .int t)]) [0, 3, 4, 5, 6, 7] rfl ?_
                        exact ih172 z234 S168 I169 F170 (by omega) hF (by omega)
                  · replace hF := kf_nl c212 hF
                    refine kw_goto (pc := 95) (i := 53) (tgt := 150) rfl rfl ?_
                    refine kw_iinc' (pc := 150) (i := 82) (k := 1) (fun z => [(5, .int z), (6, .int z183), (4, .ref 54), (0, .ref 7), (1, .int k), (2, .int m), (3, .int t)]) rfl rfl (by decide) rfl (fun _ => rfl) (fun z235 e_z235 t_z235 => ?_)
                    replace hF := kf_le e_z235 hF
                    refine kw_goto (pc := 153) (i := 83) (tgt := 49) rfl rfl ?_
                    refine kw_sub (lv' := [(5, .int z235), (4, .ref 54), (0, .ref 7), (1, .int k), (2, .int m), (3, .int t)]) [0, 2, 3, 4, 5, 6] rfl ?_
                    exact ih172 z235 S168 I169 F170 (by omega) hF (by omega)
          exact L171 _ 0 σ hI hF0 (by omega) hF (Nat.lt_succ_self _)
      · replace hF := kf_nl c27 hF
        refine kw_aload_n (pc := 13) (i := 7) (k := 0) (n := 0) rfl rfl rfl ?_
        refine kw_iconst (pc := 14) (i := 8) (v := 1) rfl rfl ?_
        refine kw_puti (pc := 15) (i := 9) (z := 0) rfl rfl rfl lpX6_41 rfl rfl ?_
        have I236 : kw_I bX (kw_ui σ 7 5 1) := kw_I_ui hI (show 0 ≤ (1 : Int32).toInt by omega) (show (1 : Int32).toInt ≤ 1 by omega)
        have F237 : kw_F [7, 24, 27] σ (kw_ui σ 7 5 1) := kw_F_ui hF0 (by decide)
        refine kw_aload_n (pc := 18) (i := 10) (k := 0) (n := 0) rfl rfl rfl ?_
        refine kw_iload_n (pc := 19) (i := 11) (k := 2) (n := 2) rfl rfl rfl ?_
        refine kw_puti (pc := 20) (i := 12) (z := 0) rfl rfl rfl lpX6_78 rfl rfl ?_
        have I238 : kw_I bX (kw_ui (kw_ui σ 7 5 1) 7 1 m) := kw_I_ui I236 (kw_rng m).1 (Int.le_of_lt_add_one (kw_rng m).2)
        have F239 : kw_F [7, 24, 27] σ (kw_ui (kw_ui σ 7 5 1) 7 1 m) := kw_F_ui F237 (by decide)
        refine kw_aload_n (pc := 23) (i := 13) (k := 0) (n := 0) rfl rfl rfl ?_
        refine kw_get (pc := 24) (i := 14) (v := .ref 27) rfl rfl rfl lkX6_24 (fun _ => rfl) ?_
        refine kw_iconst (pc := 27) (i := 15) (v := 0) rfl rfl ?_
        refine kw_aload_n (pc := 28) (i := 16) (k := 0) (n := 0) rfl rfl rfl ?_
        refine kw_get (pc := 29) (i := 17) (v := .ref 24) rfl rfl rfl lkX6_9 (fun _ => rfl) ?_
        refine kw_iconst (pc := 32) (i := 18) (v := 0) rfl rfl ?_
        refine kw_iconst (pc := 33) (i := 19) (v := 3) rfl rfl ?_
        refine kw_copy (pc := 34) (i := 20) (n := 3) (m_ := 3) rfl laX6_81 rfl rfl (by omega) (by omega) (by omega) (by omega) (by omega) (by omega) (Nat.le_of_ble_eq_true rfl) ?_
        have I240 : kw_I bX (kw_ua (kw_ui (kw_ui σ 7 5 1) 7 1 m) 24 (va_cpy ((kw_ui (kw_ui σ 7 5 1) 7 1 m).1 27) ((kw_ui (kw_ui σ 7 5 1) 7 1 m).1 24) ((0 : Int32).toNatClampNeg) ((0 : Int32).toNatClampNeg) ((3 : Int32).toNatClampNeg))) := kw_I_ua I238 (fun j => ⟨(kw_rng _).1, Int.le_of_lt_add_one (kw_rng _).2⟩)
        have F241 : kw_F [7, 24, 27] σ (kw_ua (kw_ui (kw_ui σ 7 5 1) 7 1 m) 24 (va_cpy ((kw_ui (kw_ui σ 7 5 1) 7 1 m).1 27) ((kw_ui (kw_ui σ 7 5 1) 7 1 m).1 24) ((0 : Int32).toNatClampNeg) ((0 : Int32).toNatClampNeg) ((3 : Int32).toNatClampNeg))) := kw_F_ua F239 (by decide)
        generalize hS242 : (kw_ua (kw_ui (kw_ui σ 7 5 1) 7 1 m) 24 (va_cpy ((kw_ui (kw_ui σ 7 5 1) 7 1 m).1 27) ((kw_ui (kw_ui σ 7 5 1) 7 1 m).1 24) ((0 : Int32).toNatClampNeg) ((0 : Int32).toNatClampNeg) ((3 : Int32).toNatClampNeg))) = S242 at I240 F241 ⊢
        replace hF := kf_le hS242.symm hF
        exact kw_return (pc := 37) (i := 21) rfl rfl ⟨⟨I240, F241⟩, rfl, hF⟩
end
section
noncomputable def l_X6_find_7_4_37 (a2 : Int32) (a3 : Int32) : Nat → Int32 → kw_S → Int32 × kw_S
  | 0, _, S => (0, S)
  | n + 1, x4, S => if x4.toInt < 0 then (kf_l (f_X6_sailFrom_7 3 S (0 : Int32) (S.1 4 6) (S.1 4 7)) fun S3 => ((S3.1 7 5), S3)) else (kf_l (f_X5_windAhead_4 S x4) fun z4 => if x4.toInt = 0 then (kf_l (f_X0_draw_52_17 S z4) fun S5 => kf_l (x4 + (1 : Int32)) fun z6 => kf_l (S5.1 26 z6.toNatClampNeg) fun z7 => kf_l (f_X1_allLines_17 S5) fun z8 => kf_l (f_X1_mostMilesOf_17 S5 z8 z4) fun z9 => kf_l (z7 + z9) fun z10 => kf_l (x4 + Int32.ofInt (-1)) fun z11 => l_X6_find_7_4_37 a2 a3 n z11 (kw_ui S5 26 x4.toNatClampNeg z10)) else if x4.toInt = 1 then (kf_l (f_X0_draw_53_17 S z4) fun S12 => kf_l (x4 + (1 : Int32)) fun z13 => kf_l (S12.1 26 z13.toNatClampNeg) fun z14 => kf_l (f_X1_allLines_17 S12) fun z15 => kf_l (f_X1_mostMilesOf_17 S12 z15 z4) fun z16 => kf_l (z14 + z16) fun z17 => kf_l (x4 + Int32.ofInt (-1)) fun z18 => l_X6_find_7_4_37 a2 a3 n z18 (kw_ui S12 26 x4.toNatClampNeg z17)) else if x4.toInt = 2 then (kf_l (f_X0_draw_54_17 S z4) fun S19 => kf_l (x4 + (1 : Int32)) fun z20 => kf_l (S19.1 26 z20.toNatClampNeg) fun z21 => kf_l (f_X1_allLines_17 S19) fun z22 => kf_l (f_X1_mostMilesOf_17 S19 z22 z4) fun z23 => kf_l (z21 + z23) fun z24 => kf_l (x4 + Int32.ofInt (-1)) fun z25 => l_X6_find_7_4_37 a2 a3 n z25 (kw_ui S19 26 x4.toNatClampNeg z24)) else (0, S))
theorem l_X6_find_7_4_37_s (a2 : Int32) (a3 : Int32) (n : Nat) (x4 : Int32) (S : kw_S) : l_X6_find_7_4_37 a2 a3 (n + 1) x4 S = if x4.toInt < 0 then (kf_l (f_X6_sailFrom_7 3 S (0 : Int32) (S.1 4 6) (S.1 4 7)) fun S3 => ((S3.1 7 5), S3)) else (kf_l (f_X5_windAhead_4 S x4) fun z4 => if x4.toInt = 0 then (kf_l (f_X0_draw_52_17 S z4) fun S5 => kf_l (x4 + (1 : Int32)) fun z6 => kf_l (S5.1 26 z6.toNatClampNeg) fun z7 => kf_l (f_X1_allLines_17 S5) fun z8 => kf_l (f_X1_mostMilesOf_17 S5 z8 z4) fun z9 => kf_l (z7 + z9) fun z10 => kf_l (x4 + Int32.ofInt (-1)) fun z11 => l_X6_find_7_4_37 a2 a3 n z11 (kw_ui S5 26 x4.toNatClampNeg z10)) else if x4.toInt = 1 then (kf_l (f_X0_draw_53_17 S z4) fun S12 => kf_l (x4 + (1 : Int32)) fun z13 => kf_l (S12.1 26 z13.toNatClampNeg) fun z14 => kf_l (f_X1_allLines_17 S12) fun z15 => kf_l (f_X1_mostMilesOf_17 S12 z15 z4) fun z16 => kf_l (z14 + z16) fun z17 => kf_l (x4 + Int32.ofInt (-1)) fun z18 => l_X6_find_7_4_37 a2 a3 n z18 (kw_ui S12 26 x4.toNatClampNeg z17)) else if x4.toInt = 2 then (kf_l (f_X0_draw_54_17 S z4) fun S19 => kf_l (x4 + (1 : Int32)) fun z20 => kf_l (S19.1 26 z20.toNatClampNeg) fun z21 => kf_l (f_X1_allLines_17 S19) fun z22 => kf_l (f_X1_mostMilesOf_17 S19 z22 z4) fun z23 => kf_l (z21 + z23) fun z24 => kf_l (x4 + Int32.ofInt (-1)) fun z25 => l_X6_find_7_4_37 a2 a3 n z25 (kw_ui S19 26 x4.toNatClampNeg z24)) else (0, S)) := rfl
noncomputable def f_X6_find_7_4 (σ : kw_S) (n : Int32) (t : Int32) : Int32 × kw_S := kf_l (if (3 : Int32) < n then (3 : Int32) else n) fun z1 => kf_l (z1 - (1 : Int32)) fun z2 => l_X6_find_7_4_37 n t ((z2.toInt + 2).toNat + 1) z2 (kw_ui (kw_ui (kw_ui (kw_ui σ 7 6 z1) 7 7 t) 7 5 0) 26 z1.toNatClampNeg 0)
theorem f_X6_find_7_4_u (σ : kw_S) (n : Int32) (t : Int32) : f_X6_find_7_4 σ n t = kf_l (if (3 : Int32) < n then (3 : Int32) else n) fun z1 => kf_l (z1 - (1 : Int32)) fun z2 => l_X6_find_7_4_37 n t ((z2.toInt + 2).toNat + 1) z2 (kw_ui (kw_ui (kw_ui (kw_ui σ 7 6 z1) 7 7 t) 7 5 0) 26 z1.toNatClampNeg 0) := rfl
abbrev p_X6_find_7_4 (σ : kw_S) (n : Int32) (t : Int32) : Option Value → kw_S → Prop := fun vv σ' => (kw_I bX σ' ∧ kw_F [7, 24, 26, 27, 52, 53, 54, 55, 56, 57, 58, 59, 60] σ σ') ∧ ∃ r : Int32, vv = some (.int r) ∧ (r.toInt = 0 ∨ r.toInt = 1) ∧ (r, σ') = f_X6_find_7_4 σ n t
set_option maxRecDepth 100000 in
set_option maxHeartbeats 4000000 in
theorem c_X6_find_7_4 (l : Launch) (σ : kw_S) (hI : kw_I bX σ) (n : Int32) (t : Int32) (hp0 : 0 ≤ n.toInt) : kw_Met l 7 KX mX6_find [.ref 7, .ref 4, .int n, .int t] σ (p_X6_find_7_4 σ n t) := by
  have r_n := kw_rng n
  have r_t := kw_rng t
  have hF0 : kw_F [7, 24, 26, 27, 52, 53, 54, 55, 56, 57, 58, 59, 60] σ σ := kw_F.rf
  have hF := (f_X6_find_7_4_u σ n t).symm
  have q_0 : (0 : Int32).toInt = 0 := rfl
  have q_1 : (1 : Int32).toInt = 1 := rfl
  have q_3 : (3 : Int32).toInt = 3 := rfl
  refine kw_Met.of (by decide) rfl tX6_find (Nat.le_of_ble_eq_true rfl) ?_
  show kw_AW l 7 kw_E0 KX mX6_find (p_X6_find_7_4 σ n t) 0 [(0, .ref 7), (1, .ref 4), (2, .int n), (3, .int t)] [] σ
  refine kw_aload_n (pc := 0) (i := 0) (k := 0) (n := 0) rfl rfl rfl ?_
  refine kw_iload_n (pc := 1) (i := 1) (k := 2) (n := 2) rfl rfl rfl ?_
  refine kw_iconst (pc := 2) (i := 2) (v := 3) rfl rfl ?_
  refine kw_mmin (pc := 3) (i := 3) rfl jX6_28 (by omega) (Nat.le_of_ble_eq_true rfl) (fun z1 e_z1 t_z1 => ?_)
  replace hF := kf_le e_z1 hF
  refine kw_puti (pc := 6) (i := 4) (z := 0) rfl rfl rfl lpX6_34 rfl rfl ?_
  have I2 : kw_I bX (kw_ui σ 7 6 z1) := kw_I_ui hI (show 0 ≤ z1.toInt by omega) (show z1.toInt ≤ 3 by omega)
  have F3 : kw_F [7, 24, 26, 27, 52, 53, 54, 55, 56, 57, 58, 59, 60] σ (kw_ui σ 7 6 z1) := kw_F_ui hF0 (by decide)
  refine kw_aload_n (pc := 9) (i := 5) (k := 0) (n := 0) rfl rfl rfl ?_
  refine kw_iload_n (pc := 10) (i := 6) (k := 3) (n := 3) rfl rfl rfl ?_
  refine kw_puti (pc := 11) (i := 7) (z := 0) rfl rfl rfl lpX6_38 rfl rfl ?_
  have I4 : kw_I bX (kw_ui (kw_ui σ 7 6 z1) 7 7 t) := kw_I_ui I2 (kw_rng t).1 (Int.le_of_lt_add_one (kw_rng t).2)
  have F5 : kw_F [7, 24, 26, 27, 52, 53, 54, 55, 56, 57, 58, 59, 60] σ (kw_ui (kw_ui σ 7 6 z1) 7 7 t) := kw_F_ui F3 (by decide)
  refine kw_aload_n (pc := 14) (i := 8) (k := 0) (n := 0) rfl rfl rfl ?_
  refine kw_iconst (pc := 15) (i := 9) (v := 0) rfl rfl ?_
  refine kw_puti (pc := 16) (i := 10) (z := 0) rfl rfl rfl lpX6_41 rfl rfl ?_
  have I6 : kw_I bX (kw_ui (kw_ui (kw_ui σ 7 6 z1) 7 7 t) 7 5 0) := kw_I_ui I4 (show 0 ≤ (0 : Int32).toInt by omega) (show (0 : Int32).toInt ≤ 1 by omega)
  have F7 : kw_F [7, 24, 26, 27, 52, 53, 54, 55, 56, 57, 58, 59, 60] σ (kw_ui (kw_ui (kw_ui σ 7 6 z1) 7 7 t) 7 5 0) := kw_F_ui F5 (by decide)
  refine kw_aload_n (pc := 19) (i := 11) (k := 0) (n := 0) rfl rfl rfl ?_
  refine kw_get (pc := 20) (i := 12) (v := .ref 26) rfl rfl rfl lkX6_21 (fun _ => rfl) ?_
  refine kw_aload_n (pc := 23) (i := 13) (k := 0) (n := 0) rfl rfl rfl ?_
  refine kw_get (pc := 24) (i := 14) (v := .int z1) rfl rfl rfl lkX6_34 (fun _ => rfl) ?_
  refine kw_iconst (pc := 27) (i := 15) (v := 0) rfl rfl ?_
  refine kw_iast (pc := 28) (i := 16) (n := 4) rfl rfl (by omega) (by omega) ?_
  have I8 : kw_I bX (kw_ui (kw_ui (kw_ui (kw_ui σ 7 6 z1) 7 7 t) 7 5 0) 26 z1.toNatClampNeg 0) := kw_I_ui I6 (kw_rng (0 : Int32)).1 (Int.le_of_lt_add_one (kw_rng (0 : Int32)).2)
  have F9 : kw_F [7, 24, 26, 27, 52, 53, 54, 55, 56, 57, 58, 59, 60] σ (kw_ui (kw_ui (kw_ui (kw_ui σ 7 6 z1) 7 7 t) 7 5 0) 26 z1.toNatClampNeg 0) := kw_F_ui F7 (by decide)
  refine kw_aload_n (pc := 29) (i := 17) (k := 0) (n := 0) rfl rfl rfl ?_
  refine kw_get (pc := 30) (i := 18) (v := .int z1) rfl rfl rfl lkX6_34 (fun _ => rfl) ?_
  refine kw_iconst (pc := 33) (i := 19) (v := 1) rfl rfl ?_
  refine kw_isub (pc := 34) (i := 20) rfl (fun z10 e_z10 t_z10 => ?_)
  replace hF := kf_le e_z10 hF
  refine kw_istore (pc := 35) (i := 21) (n := 4) (lv' := [(4, .int z10), (0, .ref 7), (1, .ref 4), (2, .int n), (3, .int t)]) rfl (by decide) rfl ?_
  have L15 : ∀ (n20 : Nat) (x11 : Int32) (S12 : kw_S), kw_I bX S12 → kw_F [7, 24, 26, 27, 52, 53, 54, 55, 56, 57, 58, 59, 60] σ S12 → -1 ≤ x11.toInt → x11.toInt ≤ 2 → l_X6_find_7_4_37 n t n20 x11 S12 = (f_X6_find_7_4 σ n t) → (x11.toInt + 2).toNat < n20 → kw_AW l 7 kw_E0 KX mX6_find (p_X6_find_7_4 σ n t) 37 [(4, .int x11), (0, .ref 7), (1, .ref 4), (2, .int n), (3, .int t)] [] S12 := by
    intro n20
    induction n20 with
    | zero => intro x11 S12 I13 F14 v17 v18 hF m19; exact absurd m19 (Nat.not_lt_zero _)
    | succ n20 ih16 =>
      intro x11 S12 I13 F14 v17 v18 hF m19
      replace hF := kf_st (l_X6_find_7_4_37_s _ _ _ _ _) hF
      have r_x11 := kw_rng x11
      refine kw_iload (pc := 37) (i := 22) (k := 0) (n := 4) rfl rfl ?_
      refine kw_if_lt (pc := 39) (i := 23) (tgt := 105) rfl rfl (fun c21 => ?_) (fun c21 => ?_)
      · replace hF := kf_p c21 hF
        refine kw_aload_n (pc := 105) (i := 56) (k := 1) (n := 0) rfl rfl rfl ?_
        refine kw_iconst (pc := 106) (i := 57) (v := 0) rfl rfl ?_
        refine kw_aload_n (pc := 107) (i := 58) (k := 2) (n := 1) rfl rfl rfl ?_
        refine kw_get (pc := 108) (i := 59) (v := .int (S12.1 4 6)) rfl rfl rfl lkX6_68 (fun _ => rfl) ?_
        have b22 := kw_rng (S12.1 4 6)
        refine kw_aload_n (pc := 111) (i := 60) (k := 2) (n := 1) rfl rfl rfl ?_
        refine kw_get (pc := 112) (i := 61) (v := .int (S12.1 4 7)) rfl rfl rfl lkX6_71 (fun _ => rfl) ?_
        have b23 := kw_rng (S12.1 4 7)
        refine kw_callV (pc := 115) (i := 62) (Y := mX6_sailFrom) (a := 7) (As := [.int 0, .int (S12.1 4 6), .int (S12.1 4 7)]) (st := []) kw_hE rfl rfl lvX6_74 arX6_sailFrom (c_X6_sailFrom_7 l 3 S12 I13 0 (S12.1 4 6) (S12.1 4 7) (by first | omega | decide) (by first | omega | decide)) (by decide) (Nat.le_of_ble_eq_true rfl) rfl (fun v S25 p24 => ?_)
        obtain ⟨⟨I27, F28⟩, rfl, ef26⟩ := p24
        have F29 : kw_F [7, 24, 26, 27, 52, 53, 54, 55, 56, 57, 58, 59, 60] σ S25 := kw_F.tr F14 F28 (by decide)
        replace hF := kf_le ef26 hF
        show kw_AW l 7 kw_E0 KX mX6_find (p_X6_find_7_4 σ n t) 118 [(4, .int x11), (0, .ref 7), (1, .ref 4), (2, .int n), (3, .int t)] [] S25
        refine kw_aload_n (pc := 118) (i := 63) (k := 1) (n := 0) rfl rfl rfl ?_
        refine kw_get (pc := 119) (i := 64) (v := .int (S25.1 7 5)) rfl rfl rfl lkX6_41 (fun _ => rfl) ?_
        have b30 : 0 ≤ (S25.1 7 5).toInt ∧ (S25.1 7 5).toInt ≤ 1 := I27 7 5
        exact kw_ireturn (pc := 122) (i := 65) (ty := .boolean) rfl rfl (kw_nb (by omega)) ⟨⟨I27, F29⟩, _, rfl, by omega, hF⟩
      · replace hF := kf_nl c21 hF
        refine kw_aload_n (pc := 42) (i := 24) (k := 2) (n := 1) rfl rfl rfl ?_
        refine kw_iload (pc := 43) (i := 25) (k := 0) (n := 4) rfl rfl ?_
        refine kw_callV (pc := 45) (i := 26) (Y := mX5_windAhead) (a := 4) (As := [.int x11]) (st := []) kw_hE rfl rfl lvX6_45 arX5_windAhead (c_X5_windAhead_4 l S12 I13 x11 ) (by decide) (Nat.le_of_ble_eq_true rfl) rfl (fun v S32 p31 => ?_)
        obtain ⟨e35, z34, rfl, ef33⟩ := p31
        rw [e35]
        replace hF := kf_le ef33 hF
        have r_z34 := kw_rng z34
        show kw_AW l 7 kw_E0 KX mX6_find (p_X6_find_7_4 σ n t) 48 [(4, .int x11), (0, .ref 7), (1, .ref 4), (2, .int n), (3, .int t)] [.int z34] S12
        refine kw_istore (pc := 48) (i := 27) (n := 5) (lv' := [(5, .int z34), (4, .int x11), (0, .ref 7), (1, .ref 4), (2, .int n), (3, .int t)]) rfl (by decide) rfl ?_
        refine kw_aload_n (pc := 50) (i := 28) (k := 2) (n := 0) rfl rfl rfl ?_
        refine kw_get (pc := 51) (i := 29) (v := .ref 25) rfl rfl rfl lkX6_17 (fun _ => rfl) ?_
        refine kw_iload (pc := 54) (i := 30) (k := 1) (n := 4) rfl rfl ?_
        have w36 : x11.toInt = 0 ∨ x11.toInt = 1 ∨ x11.toInt = 2 := by omega
        rcases w36 with w36 | w36 | w36
        · replace hF := kf_p w36 hF
          have e_w36 : x11.toNatClampNeg = 0 := by have := kw_clampI (x := x11) (by omega); omega
          refine kw_aald (pc := 56) (i := 31) (b := 52) rfl rfl (by decide) (by omega) (by rw [e_w36]; rfl) ?_
          refine kw_aload_n (pc := 57) (i := 32) (k := 3) (n := 1) rfl rfl rfl ?_
          refine kw_get (pc := 58) (i := 33) (v := .ref 17) rfl rfl rfl lkX6_51 (fun _ => rfl) ?_
          refine kw_iload (pc := 61) (i := 34) (k := 0) (n := 5) rfl rfl ?_
          refine kw_callV (pc := 63) (i := 35) (Y := mX0_draw) (a := 52) (As := [.ref 17, .int z34]) (st := []) kw_hE rfl rfl lvX6_55 arX0_draw (c_X0_draw_52_17 l S12 I13 z34 ) (by decide) (Nat.le_of_ble_eq_true rfl) rfl (fun v S38 p37 => ?_)
          obtain ⟨⟨I40, F41⟩, rfl, ef39⟩ := p37
          have F42 : kw_F [7, 24, 26, 27, 52, 53, 54, 55, 56, 57, 58, 59, 60] σ S38 := kw_F.tr F14 F41 (by decide)
          replace hF := kf_le ef39 hF
          show kw_AW l 7 kw_E0 KX mX6_find (p_X6_find_7_4 σ n t) 66 [(5, .int z34), (4, .int x11), (0, .ref 7), (1, .ref 4), (2, .int n), (3, .int t)] [] S38
          refine kw_aload_n (pc := 66) (i := 36) (k := 2) (n := 0) rfl rfl rfl ?_
          refine kw_get (pc := 67) (i := 37) (v := .ref 26) rfl rfl rfl lkX6_21 (fun _ => rfl) ?_
          refine kw_iload (pc := 70) (i := 38) (k := 1) (n := 4) rfl rfl ?_
          refine kw_aload_n (pc := 72) (i := 39) (k := 2) (n := 0) rfl rfl rfl ?_
          refine kw_get (pc := 73) (i := 40) (v := .ref 26) rfl rfl rfl lkX6_21 (fun _ => rfl) ?_
          refine kw_iload (pc := 76) (i := 41) (k := 1) (n := 4) rfl rfl ?_
          refine kw_iconst (pc := 78) (i := 42) (v := 1) rfl rfl ?_
          refine kw_iadd (pc := 79) (i := 43) rfl (fun z43 e_z43 t_z43 => ?_)
          replace hF := kf_le e_z43 hF
          refine kw_iald (pc := 80) (i := 44) (n := 4) rfl rfl (by omega) (by omega) (fun z44 e_z44 => ?_)
          replace hF := kf_le e_z44 hF
          have t_z44 := congrArg Int32.toInt e_z44
          have r_z44 := kw_rng z44
          refine kw_aload_n (pc := 81) (i := 45) (k := 3) (n := 1) rfl rfl rfl ?_
          refine kw_get (pc := 82) (i := 46) (v := .ref 17) rfl rfl rfl lkX6_51 (fun _ => rfl) ?_
          refine kw_aload_n (pc := 85) (i := 47) (k := 3) (n := 1) rfl rfl rfl ?_
          refine kw_get (pc := 86) (i := 48) (v := .ref 17) rfl rfl rfl lkX6_51 (fun _ => rfl) ?_
          refine kw_callV (pc := 89) (i := 49) (Y := mX1_allLines) (a := 17) (As := []) (st := [.ref 17, .int z44, .int x11, .ref 26]) kw_hE rfl rfl lvX6_59 arX1_allLines (c_X1_allLines_17 l S38 I40  ) (by decide) (Nat.le_of_ble_eq_true rfl) rfl (fun v S46 p45 => ?_)
          obtain ⟨e49, z48, rfl, ef47⟩ := p45
          rw [e49]
          replace hF := kf_le ef47 hF
          have r_z48 := kw_rng z48
          show kw_AW l 7 kw_E0 KX mX6_find (p_X6_find_7_4 σ n t) 92 [(5, .int z34), (4, .int x11), (0, .ref 7), (1, .ref 4), (2, .int n), (3, .int t)] [.int z48, .ref 17, .int z44, .int x11, .ref 26] S38
          refine kw_iload (pc := 92) (i := 50) (k := 0) (n := 5) rfl rfl ?_
          refine kw_callV (pc := 94) (i := 51) (Y := mX1_mostMilesOf) (a := 17) (As := [.int z48, .int z34]) (st := [.int z44, .int x11, .ref 26]) kw_hE rfl rfl lvX6_65 arX1_mostMilesOf (c_X1_mostMilesOf_17 l S38 I40 z48 z34 ) (by decide) (Nat.le_of_ble_eq_true rfl) rfl (fun v S51 p50 => ?_)
          obtain ⟨e54, z53, rfl, ef52⟩ := p50
          rw [e54]
          replace hF := kf_le ef52 hF
          have r_z53 := kw_rng z53
          show kw_AW l 7 kw_E0 KX mX6_find (p_X6_find_7_4 σ n t) 97 [(5, .int z34), (4, .int x11), (0, .ref 7), (1, .ref 4), (2, .int n), (3, .int t)] [.int z53, .int z44, .int x11, .ref 26] S38
          refine kw_iadd (pc := 97) (i := 52) rfl (fun z55 e_z55 t_z55 => ?_)
          replace hF := kf_le e_z55 hF
          refine kw_iast (pc := 98) (i := 53) (n := 4) rfl rfl (by omega) (by omega) ?_
          have I56 : kw_I bX (kw_ui S38 26 x11.toNatClampNeg z55) := kw_I_ui I40 (kw_rng z55).1 (Int.le_of_lt_add_one (kw_rng z55).2)
          have F57 : kw_F [7, 24, 26, 27, 52, 53, 54, 55, 56, 57, 58, 59, 60] σ (kw_ui S38 26 x11.toNatClampNeg z55) := kw_F_ui F42 (by decide)
          refine kw_iinc' (pc := 99) (i := 54) (k := 1) (fun z => [(4, .int z), (5, .int z34), (0, .ref 7), (1, .ref 4), (2, .int n), (3, .int t)]) rfl rfl (by decide) rfl (fun _ => rfl) (fun z58 e_z58 t_z58 => ?_)
          replace hF := kf_le e_z58 hF
          refine kw_goto (pc := 102) (i := 55) (tgt := 37) rfl rfl ?_
          refine kw_sub (lv' := [(4, .int z58), (0, .ref 7), (1, .ref 4), (2, .int n), (3, .int t)]) [0, 2, 3, 4, 5] rfl ?_
          exact ih16 z58 (kw_ui S38 26 x11.toNatClampNeg z55) I56 F57 (by omega) (by omega) hF (by omega)
        · replace hF := kf_n (fun q => absurd (w36.symm.trans q) (by decide)) hF
          replace hF := kf_p w36 hF
          have e_w36 : x11.toNatClampNeg = 1 := by have := kw_clampI (x := x11) (by omega); omega
          refine kw_aald (pc := 56) (i := 31) (b := 53) rfl rfl (by decide) (by omega) (by rw [e_w36]; rfl) ?_
          refine kw_aload_n (pc := 57) (i := 32) (k := 3) (n := 1) rfl rfl rfl ?_
          refine kw_get (pc := 58) (i := 33) (v := .ref 17) rfl rfl rfl lkX6_51 (fun _ => rfl) ?_
          refine kw_iload (pc := 61) (i := 34) (k := 0) (n := 5) rfl rfl ?_
          refine kw_callV (pc := 63) (i := 35) (Y := mX0_draw) (a := 53) (As := [.ref 17, .int z34]) (st := []) kw_hE rfl rfl lvX6_55 arX0_draw (c_X0_draw_53_17 l S12 I13 z34 ) (by decide) (Nat.le_of_ble_eq_true rfl) rfl (fun v S60 p59 => ?_)
          obtain ⟨⟨I62, F63⟩, rfl, ef61⟩ := p59
          have F64 : kw_F [7, 24, 26, 27, 52, 53, 54, 55, 56, 57, 58, 59, 60] σ S60 := kw_F.tr F14 F63 (by decide)
          replace hF := kf_le ef61 hF
          show kw_AW l 7 kw_E0 KX mX6_find (p_X6_find_7_4 σ n t) 66 [(5, .int z34), (4, .int x11), (0, .ref 7), (1, .ref 4), (2, .int n), (3, .int t)] [] S60
          refine kw_aload_n (pc := 66) (i := 36) (k := 2) (n := 0) rfl rfl rfl ?_
          refine kw_get (pc := 67) (i := 37) (v := .ref 26) rfl rfl rfl lkX6_21 (fun _ => rfl) ?_
          refine kw_iload (pc := 70) (i := 38) (k := 1) (n := 4) rfl rfl ?_
          refine kw_aload_n (pc := 72) (i := 39) (k := 2) (n := 0) rfl rfl rfl ?_
          refine kw_get (pc := 73) (i := 40) (v := .ref 26) rfl rfl rfl lkX6_21 (fun _ => rfl) ?_
          refine kw_iload (pc := 76) (i := 41) (k := 1) (n := 4) rfl rfl ?_
          refine kw_iconst (pc := 78) (i := 42) (v := 1) rfl rfl ?_
          refine kw_iadd (pc := 79) (i := 43) rfl (fun z65 e_z65 t_z65 => ?_)
          replace hF := kf_le e_z65 hF
          refine kw_iald (pc := 80) (i := 44) (n := 4) rfl rfl (by omega) (by omega) (fun z66 e_z66 => ?_)
          replace hF := kf_le e_z66 hF
          have t_z66 := congrArg Int32.toInt e_z66
          have r_z66 := kw_rng z66
          refine kw_aload_n (pc := 81) (i := 45) (k := 3) (n := 1) rfl rfl rfl ?_
          refine kw_get (pc := 82) (i := 46) (v := .ref 17) rfl rfl rfl lkX6_51 (fun _ => rfl) ?_
          refine kw_aload_n (pc := 85) (i := 47) (k := 3) (n := 1) rfl rfl rfl ?_
          refine kw_get (pc := 86) (i := 48) (v := .ref 17) rfl rfl rfl lkX6_51 (fun _ => rfl) ?_
          refine kw_callV (pc := 89) (i := 49) (Y := mX1_allLines) (a := 17) (As := []) (st := [.ref 17, .int z66, .int x11, .ref 26]) kw_hE rfl rfl lvX6_59 arX1_allLines (c_X1_allLines_17 l S60 I62  ) (by decide) (Nat.le_of_ble_eq_true rfl) rfl (fun v S68 p67 => ?_)
          obtain ⟨e71, z70, rfl, ef69⟩ := p67
          rw [e71]
          replace hF := kf_le ef69 hF
          have r_z70 := kw_rng z70
          show kw_AW l 7 kw_E0 KX mX6_find (p_X6_find_7_4 σ n t) 92 [(5, .int z34), (4, .int x11), (0, .ref 7), (1, .ref 4), (2, .int n), (3, .int t)] [.int z70, .ref 17, .int z66, .int x11, .ref 26] S60
          refine kw_iload (pc := 92) (i := 50) (k := 0) (n := 5) rfl rfl ?_
          refine kw_callV (pc := 94) (i := 51) (Y := mX1_mostMilesOf) (a := 17) (As := [.int z70, .int z34]) (st := [.int z66, .int x11, .ref 26]) kw_hE rfl rfl lvX6_65 arX1_mostMilesOf (c_X1_mostMilesOf_17 l S60 I62 z70 z34 ) (by decide) (Nat.le_of_ble_eq_true rfl) rfl (fun v S73 p72 => ?_)
          obtain ⟨e76, z75, rfl, ef74⟩ := p72
          rw [e76]
          replace hF := kf_le ef74 hF
          have r_z75 := kw_rng z75
          show kw_AW l 7 kw_E0 KX mX6_find (p_X6_find_7_4 σ n t) 97 [(5, .int z34), (4, .int x11), (0, .ref 7), (1, .ref 4), (2, .int n), (3, .int t)] [.int z75, .int z66, .int x11, .ref 26] S60
          refine kw_iadd (pc := 97) (i := 52) rfl (fun z77 e_z77 t_z77 => ?_)
          replace hF := kf_le e_z77 hF
          refine kw_iast (pc := 98) (i := 53) (n := 4) rfl rfl (by omega) (by omega) ?_
          have I78 : kw_I bX (kw_ui S60 26 x11.toNatClampNeg z77) := kw_I_ui I62 (kw_rng z77).1 (Int.le_of_lt_add_one (kw_rng z77).2)
          have F79 : kw_F [7, 24, 26, 27, 52, 53, 54, 55, 56, 57, 58, 59, 60] σ (kw_ui S60 26 x11.toNatClampNeg z77) := kw_F_ui F64 (by decide)
          refine kw_iinc' (pc := 99) (i := 54) (k := 1) (fun z => [(4, .int z), (5, .int z34), (0, .ref 7), (1, .ref 4), (2, .int n), (3, .int t)]) rfl rfl (by decide) rfl (fun _ => rfl) (fun z80 e_z80 t_z80 => ?_)
          replace hF := kf_le e_z80 hF
          refine kw_goto (pc := 102) (i := 55) (tgt := 37) rfl rfl ?_
          refine kw_sub (lv' := [(4, .int z80), (0, .ref 7), (1, .ref 4), (2, .int n), (3, .int t)]) [0, 2, 3, 4, 5] rfl ?_
          exact ih16 z80 (kw_ui S60 26 x11.toNatClampNeg z77) I78 F79 (by omega) (by omega) hF (by omega)
        · replace hF := kf_n (fun q => absurd (w36.symm.trans q) (by decide)) hF
          replace hF := kf_n (fun q => absurd (w36.symm.trans q) (by decide)) hF
          replace hF := kf_p w36 hF
          have e_w36 : x11.toNatClampNeg = 2 := by have := kw_clampI (x := x11) (by omega); omega
          refine kw_aald (pc := 56) (i := 31) (b := 54) rfl rfl (by decide) (by omega) (by rw [e_w36]; rfl) ?_
          refine kw_aload_n (pc := 57) (i := 32) (k := 3) (n := 1) rfl rfl rfl ?_
          refine kw_get (pc := 58) (i := 33) (v := .ref 17) rfl rfl rfl lkX6_51 (fun _ => rfl) ?_
          refine kw_iload (pc := 61) (i := 34) (k := 0) (n := 5) rfl rfl ?_
          refine kw_callV (pc := 63) (i := 35) (Y := mX0_draw) (a := 54) (As := [.ref 17, .int z34]) (st := []) kw_hE rfl rfl lvX6_55 arX0_draw (c_X0_draw_54_17 l S12 I13 z34 ) (by decide) (Nat.le_of_ble_eq_true rfl) rfl (fun v S82 p81 => ?_)
          obtain ⟨⟨I84, F85⟩, rfl, ef83⟩ := p81
          have F86 : kw_F [7, 24, 26, 27, 52, 53, 54, 55, 56, 57, 58, 59, 60] σ S82 := kw_F.tr F14 F85 (by decide)
          replace hF := kf_le ef83 hF
          show kw_AW l 7 kw_E0 KX mX6_find (p_X6_find_7_4 σ n t) 66 [(5, .int z34), (4, .int x11), (0, .ref 7), (1, .ref 4), (2, .int n), (3, .int t)] [] S82
          refine kw_aload_n (pc := 66) (i := 36) (k := 2) (n := 0) rfl rfl rfl ?_
          refine kw_get (pc := 67) (i := 37) (v := .ref 26) rfl rfl rfl lkX6_21 (fun _ => rfl) ?_
          refine kw_iload (pc := 70) (i := 38) (k := 1) (n := 4) rfl rfl ?_
          refine kw_aload_n (pc := 72) (i := 39) (k := 2) (n := 0) rfl rfl rfl ?_
          refine kw_get (pc := 73) (i := 40) (v := .ref 26) rfl rfl rfl lkX6_21 (fun _ => rfl) ?_
          refine kw_iload (pc := 76) (i := 41) (k := 1) (n := 4) rfl rfl ?_
          refine kw_iconst (pc := 78) (i := 42) (v := 1) rfl rfl ?_
          refine kw_iadd (pc := 79) (i := 43) rfl (fun z87 e_z87 t_z87 => ?_)
          replace hF := kf_le e_z87 hF
          refine kw_iald (pc := 80) (i := 44) (n := 4) rfl rfl (by omega) (by omega) (fun z88 e_z88 => ?_)
          replace hF := kf_le e_z88 hF
          have t_z88 := congrArg Int32.toInt e_z88
          have r_z88 := kw_rng z88
          refine kw_aload_n (pc := 81) (i := 45) (k := 3) (n := 1) rfl rfl rfl ?_
          refine kw_get (pc := 82) (i := 46) (v := .ref 17) rfl rfl rfl lkX6_51 (fun _ => rfl) ?_
          refine kw_aload_n (pc := 85) (i := 47) (k := 3) (n := 1) rfl rfl rfl ?_
          refine kw_get (pc := 86) (i := 48) (v := .ref 17) rfl rfl rfl lkX6_51 (fun _ => rfl) ?_
          refine kw_callV (pc := 89) (i := 49) (Y := mX1_allLines) (a := 17) (As := []) (st := [.ref 17, .int z88, .int x11, .ref 26]) kw_hE rfl rfl lvX6_59 arX1_allLines (c_X1_allLines_17 l S82 I84  ) (by decide) (Nat.le_of_ble_eq_true rfl) rfl (fun v S90 p89 => ?_)
          obtain ⟨e93, z92, rfl, ef91⟩ := p89
          rw [e93]
          replace hF := kf_le ef91 hF
          have r_z92 := kw_rng z92
          show kw_AW l 7 kw_E0 KX mX6_find (p_X6_find_7_4 σ n t) 92 [(5, .int z34), (4, .int x11), (0, .ref 7), (1, .ref 4), (2, .int n), (3, .int t)] [.int z92, .ref 17, .int z88, .int x11, .ref 26] S82
          refine kw_iload (pc := 92) (i := 50) (k := 0) (n := 5) rfl rfl ?_
          refine kw_callV (pc := 94) (i := 51) (Y := mX1_mostMilesOf) (a := 17) (As := [.int z92, .int z34]) (st := [.int z88, .int x11, .ref 26]) kw_hE rfl rfl lvX6_65 arX1_mostMilesOf (c_X1_mostMilesOf_17 l S82 I84 z92 z34 ) (by decide) (Nat.le_of_ble_eq_true rfl) rfl (fun v S95 p94 => ?_)
          obtain ⟨e98, z97, rfl, ef96⟩ := p94
          rw [e98]
          replace hF := kf_le ef96 hF
          have r_z97 := kw_rng z97
          show kw_AW l 7 kw_E0 KX mX6_find (p_X6_find_7_4 σ n t) 97 [(5, .int z34), (4, .int x11), (0, .ref 7), (1, .ref 4), (2, .int n), (3, .int t)] [.int z97, .int z88, .int x11, .ref 26] S82
          refine kw_iadd (pc := 97) (i := 52) rfl (fun z99 e_z99 t_z99 => ?_)
          replace hF := kf_le e_z99 hF
          refine kw_iast (pc := 98) (i := 53) (n := 4) rfl rfl (by omega) (by omega) ?_
          have I100 : kw_I bX (kw_ui S82 26 x11.toNatClampNeg z99) := kw_I_ui I84 (kw_rng z99).1 (Int.le_of_lt_add_one (kw_rng z99).2)
          have F101 : kw_F [7, 24, 26, 27, 52, 53, 54, 55, 56, 57, 58, 59, 60] σ (kw_ui S82 26 x11.toNatClampNeg z99) := kw_F_ui F86 (by decide)
          refine kw_iinc' (pc := 99) (i := 54) (k := 1) (fun z => [(4, .int z), (5, .int z34), (0, .ref 7), (1, .ref 4), (2, .int n), (3, .int t)]) rfl rfl (by decide) rfl (fun _ => rfl) (fun z102 e_z102 t_z102 => ?_)
          replace hF := kf_le e_z102 hF
          refine kw_goto (pc := 102) (i := 55) (tgt := 37) rfl rfl ?_
          refine kw_sub (lv' := [(4, .int z102), (0, .ref 7), (1, .ref 4), (2, .int n), (3, .int t)]) [0, 2, 3, 4, 5] rfl ?_
          exact ih16 z102 (kw_ui S82 26 x11.toNatClampNeg z99) I100 F101 (by omega) (by omega) hF (by omega)
  exact L15 _ z10 (kw_ui (kw_ui (kw_ui (kw_ui σ 7 6 z1) 7 7 t) 7 5 0) 26 z1.toNatClampNeg 0) I8 F9 (by omega) (by omega) hF (Nat.lt_succ_self _)
end
section
noncomputable def l_X7_play_6_35 (rc : kw_S → Int32 → Int32 → Int32) (a1 : Int32) (a2 : Int32) (S : kw_S) : Nat → Int32 → Int32 → Int32
  | 0, _, _ => 0
  | n + 1, x4, x5 => if x5.toInt < (S.1 6 2).toInt then (kf_l (a1 >>> (x5 &&& 31)) fun z5 => kf_l (z5 &&& (1 : Int32)) fun z6 => if z6.toInt = (1 : Int32).toInt then (if (1 : Int32).toInt = (0 : Int32).toInt then (0) else (kf_l ((1 : Int32) <<< (x5 &&& 31)) fun z8 => kf_l (a1 ^^^ z8) fun z9 => kf_l (a2 - (1 : Int32)) fun z10 => kf_l (rc S z9 z10) fun z11 => if (0 : Int32).toInt = 0 then (kf_l (if z11 < x4 then z11 else x4) fun z12 => kf_l (x5 + Int32.ofInt 1) fun z13 => l_X7_play_6_35 rc a1 a2 S n z12 z13) else (0))) else (if (0 : Int32).toInt = (0 : Int32).toInt then (kf_l (x5 + Int32.ofInt 1) fun z7 => l_X7_play_6_35 rc a1 a2 S n x4 z7) else (0))) else (x4)
theorem l_X7_play_6_35_s (rc : kw_S → Int32 → Int32 → Int32) (a1 : Int32) (a2 : Int32) (S : kw_S) (n : Nat) (x4 : Int32) (x5 : Int32) : l_X7_play_6_35 rc a1 a2 S (n + 1) x4 x5 = if x5.toInt < (S.1 6 2).toInt then (kf_l (a1 >>> (x5 &&& 31)) fun z5 => kf_l (z5 &&& (1 : Int32)) fun z6 => if z6.toInt = (1 : Int32).toInt then (if (1 : Int32).toInt = (0 : Int32).toInt then (0) else (kf_l ((1 : Int32) <<< (x5 &&& 31)) fun z8 => kf_l (a1 ^^^ z8) fun z9 => kf_l (a2 - (1 : Int32)) fun z10 => kf_l (rc S z9 z10) fun z11 => if (0 : Int32).toInt = 0 then (kf_l (if z11 < x4 then z11 else x4) fun z12 => kf_l (x5 + Int32.ofInt 1) fun z13 => l_X7_play_6_35 rc a1 a2 S n z12 z13) else (0))) else (if (0 : Int32).toInt = (0 : Int32).toInt then (kf_l (x5 + Int32.ofInt 1) fun z7 => l_X7_play_6_35 rc a1 a2 S n x4 z7) else (0))) else (x4) := rfl
noncomputable def l_X7_play_6_35a (rc : kw_S → Int32 → Int32 → Int32) (a1 : Int32) (a2 : Int32) (S : kw_S) : Nat → Int32 → Int32 → Int32
  | 0, _, _ => 0
  | n + 1, x4, x5 => if x5.toInt < (S.1 6 2).toInt then (kf_l (a1 >>> (x5 &&& 31)) fun z16 => kf_l (z16 &&& (1 : Int32)) fun z17 => if z17.toInt = (1 : Int32).toInt then (if (1 : Int32).toInt = (1 : Int32).toInt then (kf_l (x5 + Int32.ofInt 1) fun z24 => l_X7_play_6_35a rc a1 a2 S n x4 z24) else (0)) else (if (0 : Int32).toInt = (1 : Int32).toInt then (0) else (kf_l ((1 : Int32) <<< (x5 &&& 31)) fun z18 => kf_l (a1 ^^^ z18) fun z19 => kf_l (a2 - (1 : Int32)) fun z20 => kf_l (rc S z19 z20) fun z21 => if (1 : Int32).toInt = 0 then (0) else (kf_l (if x4 < z21 then z21 else x4) fun z22 => kf_l (x5 + Int32.ofInt 1) fun z23 => l_X7_play_6_35a rc a1 a2 S n z22 z23)))) else (x4)
theorem l_X7_play_6_35a_s (rc : kw_S → Int32 → Int32 → Int32) (a1 : Int32) (a2 : Int32) (S : kw_S) (n : Nat) (x4 : Int32) (x5 : Int32) : l_X7_play_6_35a rc a1 a2 S (n + 1) x4 x5 = if x5.toInt < (S.1 6 2).toInt then (kf_l (a1 >>> (x5 &&& 31)) fun z16 => kf_l (z16 &&& (1 : Int32)) fun z17 => if z17.toInt = (1 : Int32).toInt then (if (1 : Int32).toInt = (1 : Int32).toInt then (kf_l (x5 + Int32.ofInt 1) fun z24 => l_X7_play_6_35a rc a1 a2 S n x4 z24) else (0)) else (if (0 : Int32).toInt = (1 : Int32).toInt then (0) else (kf_l ((1 : Int32) <<< (x5 &&& 31)) fun z18 => kf_l (a1 ^^^ z18) fun z19 => kf_l (a2 - (1 : Int32)) fun z20 => kf_l (rc S z19 z20) fun z21 => if (1 : Int32).toInt = 0 then (0) else (kf_l (if x4 < z21 then z21 else x4) fun z22 => kf_l (x5 + Int32.ofInt 1) fun z23 => l_X7_play_6_35a rc a1 a2 S n z22 z23)))) else (x4) := rfl
noncomputable def f_X7_play_6 : Nat → kw_S → Int32 → Int32 → Int32
  | 0, σ, hung, left => if 0 < left.toInt then (0) else (kf_l (f_X0_milesOf_6 σ hung) fun z1 => z1)
  | n + 1, σ, hung, left => if 0 < left.toInt then (kf_l (left - left / (2 : Int32) * (2 : Int32)) fun z2 => if z2.toInt = 0 then (kf_l (left - (1 : Int32)) fun z14 => kf_l (f_X7_play_6 n σ hung z14) fun z15 => l_X7_play_6_35a (f_X7_play_6 n) hung left σ ((7 - (0 : Int32).toInt).toNat + 1) z15 (0 : Int32)) else (kf_l (left - (1 : Int32)) fun z3 => kf_l (f_X7_play_6 n σ hung z3) fun z4 => l_X7_play_6_35 (f_X7_play_6 n) hung left σ ((7 - (0 : Int32).toInt).toNat + 1) z4 (0 : Int32))) else (kf_l (f_X0_milesOf_6 σ hung) fun z25 => z25)
theorem f_X7_play_6_u0 (σ : kw_S) (hung : Int32) (left : Int32) : f_X7_play_6 0 σ hung left = if 0 < left.toInt then (0) else (kf_l (f_X0_milesOf_6 σ hung) fun z1 => z1) := rfl
theorem f_X7_play_6_u1 (n : Nat) (σ : kw_S) (hung : Int32) (left : Int32) : f_X7_play_6 (n + 1) σ hung left = if 0 < left.toInt then (kf_l (left - left / (2 : Int32) * (2 : Int32)) fun z2 => if z2.toInt = 0 then (kf_l (left - (1 : Int32)) fun z14 => kf_l (f_X7_play_6 n σ hung z14) fun z15 => l_X7_play_6_35a (f_X7_play_6 n) hung left σ ((7 - (0 : Int32).toInt).toNat + 1) z15 (0 : Int32)) else (kf_l (left - (1 : Int32)) fun z3 => kf_l (f_X7_play_6 n σ hung z3) fun z4 => l_X7_play_6_35 (f_X7_play_6 n) hung left σ ((7 - (0 : Int32).toInt).toNat + 1) z4 (0 : Int32))) else (kf_l (f_X0_milesOf_6 σ hung) fun z25 => z25) := rfl
abbrev p_X7_play_6 (n : Nat) (σ : kw_S) (hung : Int32) (left : Int32) : Option Value → kw_S → Prop := fun vv σ' => σ' = σ ∧ ∃ r : Int32, vv = some (.int r) ∧ r = f_X7_play_6 n σ hung left
set_option maxRecDepth 100000 in
set_option maxHeartbeats 4000000 in
theorem c_X7_play_6 (l : Launch) : ∀ (n : Nat) (σ : kw_S) (hI : kw_I bX σ) (hung : Int32) (left : Int32) (hp0 : left.toInt ≤ n), kw_Met l (2 + n) KX mX7_play [.ref 6, .int hung, .int left] σ (p_X7_play_6 n σ hung left) := by
  intro n
  induction n with
  | zero =>
    intro σ hI hung left hp0
    have r_hung := kw_rng hung
    have r_left := kw_rng left
    have hF := (f_X7_play_6_u0 σ hung left).symm
    refine kw_Met.of (by decide) rfl tX7_play (Nat.le_of_ble_eq_true rfl) ?_
    show kw_AW l (2 + 0) kw_E0 KX mX7_play (p_X7_play_6 0 σ hung left) 0 [(0, .ref 6), (1, .int hung), (2, .int left)] [] σ
    refine kw_iload_n (pc := 0) (i := 0) (k := 2) (n := 2) rfl rfl rfl ?_
    refine kw_if_gt (pc := 1) (i := 1) (tgt := 10) rfl rfl (fun c1 => ?_) (fun c1 => ?_)
    · exfalso; omega
    · replace hF := kf_nl c1 hF
      refine kw_aload_n (pc := 4) (i := 2) (k := 0) (n := 0) rfl rfl rfl ?_
      refine kw_iload_n (pc := 5) (i := 3) (k := 1) (n := 1) rfl rfl rfl ?_
      refine kw_callV (pc := 6) (i := 4) (Y := mX0_milesOf) (a := 6) (As := [.int hung]) (st := []) kw_hE rfl rfl lvX7_238 arX0_milesOf (c_X0_milesOf_6 l σ hI hung ) (by omega) (Nat.le_of_ble_eq_true rfl) rfl (fun v S3 p2 => ?_)
      obtain ⟨e6, z5, rfl, ef4⟩ := p2
      rw [e6]
      replace hF := kf_le ef4 hF
      have r_z5 := kw_rng z5
      show kw_AW l (2 + 0) kw_E0 KX mX7_play (p_X7_play_6 0 σ hung left) 9 [(0, .ref 6), (1, .int hung), (2, .int left)] [.int z5] σ
      exact kw_ireturn (pc := 9) (i := 5) (ty := .int) rfl rfl rfl ⟨rfl, _, rfl, hF⟩
  | succ n ih =>
    intro σ hI hung left hp0
    have r_hung := kw_rng hung
    have r_left := kw_rng left
    have hF := (f_X7_play_6_u1 n σ hung left).symm
    have q_0 : (0 : Int32).toInt = 0 := rfl
    have q_1 : (1 : Int32).toInt = 1 := rfl
    have q_2 : (2 : Int32).toInt = 2 := rfl
    refine kw_Met.of (by decide) rfl tX7_play (Nat.le_of_ble_eq_true rfl) ?_
    show kw_AW l (2 + (n + 1)) kw_E0 KX mX7_play (p_X7_play_6 (n + 1) σ hung left) 0 [(0, .ref 6), (1, .int hung), (2, .int left)] [] σ
    refine kw_iload_n (pc := 0) (i := 0) (k := 2) (n := 2) rfl rfl rfl ?_
    refine kw_if_gt (pc := 1) (i := 1) (tgt := 10) rfl rfl (fun c7 => ?_) (fun c7 => ?_)
    · replace hF := kf_p c7 hF
      refine kw_iload_n (pc := 10) (i := 6) (k := 2) (n := 2) rfl rfl rfl ?_
      refine kw_iconst (pc := 11) (i := 7) (v := 2) rfl rfl ?_
      refine kw_irem (pc := 12) (i := 8) rfl (by omega) (fun z8 e_z8 => ?_)
      have r_z8 := kw_rng z8
      replace hF := kf_le e_z8 hF
      have t_z8 := kw_remI left 2 z8 e_z8
      refine kw_if_ne (pc := 13) (i := 9) (tgt := 20) rfl rfl (fun c9 => ?_) (fun c9 => ?_)
      · replace hF := kf_n c9 hF
        refine kw_iconst (pc := 20) (i := 12) (v := 0) rfl rfl ?_
        refine kw_istore_n (pc := 21) (i := 13) (n := 3) (lv' := [(3, .int 0), (0, .ref 6), (1, .int hung), (2, .int left)]) rfl rfl (by decide) rfl ?_
        refine kw_aload_n (pc := 22) (i := 14) (k := 1) (n := 0) rfl rfl rfl ?_
        refine kw_iload_n (pc := 23) (i := 15) (k := 2) (n := 1) rfl rfl rfl ?_
        refine kw_iload_n (pc := 24) (i := 16) (k := 3) (n := 2) rfl rfl rfl ?_
        refine kw_iconst (pc := 25) (i := 17) (v := 1) rfl rfl ?_
        refine kw_isub (pc := 26) (i := 18) rfl (fun z10 e_z10 t_z10 => ?_)
        replace hF := kf_le e_z10 hF
        refine kw_callS (pc := 27) (i := 19) (Y := mX7_play) (As := [.ref 6, .int hung, .int z10]) (st := []) kw_hE rfl lsX7_288 arX7_play (ih σ hI hung z10 (by first | omega | decide)) (by omega) (Nat.le_of_ble_eq_true rfl) rfl (fun v S12 p11 => ?_)
        obtain ⟨e15, z14, rfl, ef13⟩ := p11
        rw [e15]
        replace hF := kf_le ef13 hF
        have r_z14 := kw_rng z14
        show kw_AW l (2 + (n + 1)) kw_E0 KX mX7_play (p_X7_play_6 (n + 1) σ hung left) 30 [(3, .int 0), (0, .ref 6), (1, .int hung), (2, .int left)] [.int z14] σ
        refine kw_istore (pc := 30) (i := 20) (n := 4) (lv' := [(4, .int z14), (3, .int 0), (0, .ref 6), (1, .int hung), (2, .int left)]) rfl (by decide) rfl ?_
        refine kw_iconst (pc := 32) (i := 21) (v := 0) rfl rfl ?_
        refine kw_istore (pc := 33) (i := 22) (n := 5) (lv' := [(5, .int 0), (4, .int z14), (3, .int 0), (0, .ref 6), (1, .int hung), (2, .int left)]) rfl (by decide) rfl ?_
        have L18 : ∀ (n22 : Nat) (x16 : Int32) (x17 : Int32), 0 ≤ x16.toInt → l_X7_play_6_35 (f_X7_play_6 n) hung left σ n22 x17 x16 = (f_X7_play_6 (n + 1) σ hung left) → (7 - x16.toInt).toNat < n22 → kw_AW l (2 + (n + 1)) kw_E0 KX mX7_play (p_X7_play_6 (n + 1) σ hung left) 35 [(5, .int x16), (4, .int x17), (3, .int 0), (0, .ref 6), (1, .int hung), (2, .int left)] [] σ := by
          intro n22
          induction n22 with
          | zero => intro x16 x17 v20 hF m21; exact absurd m21 (Nat.not_lt_zero _)
          | succ n22 ih19 =>
            intro x16 x17 v20 hF m21
            replace hF := kf_st (l_X7_play_6_35_s _ _ _ _ _ _ _) hF
            have r_x16 := kw_rng x16
            have r_x17 := kw_rng x17
            refine kw_iload (pc := 35) (i := 23) (k := 0) (n := 5) rfl rfl ?_
            refine kw_aload_n (pc := 37) (i := 24) (k := 3) (n := 0) rfl rfl rfl ?_
            refine kw_get (pc := 38) (i := 25) (v := .int (σ.1 6 2)) rfl rfl rfl lkX7_351 (fun _ => rfl) ?_
            have b23 : 0 ≤ (σ.1 6 2).toInt ∧ (σ.1 6 2).toInt ≤ 6 := hI 6 2
            refine kw_icmp_ge (pc := 41) (i := 26) (tgt := 114) rfl rfl (fun c24 => ?_) (fun c24 => ?_)
            · replace hF := kf_nl c24 hF
              refine kw_iload (pc := 114) (i := 65) (k := 1) (n := 4) rfl rfl ?_
              exact kw_ireturn (pc := 116) (i := 66) (ty := .int) rfl rfl rfl ⟨rfl, _, rfl, hF⟩
            · replace hF := kf_p c24 hF
              refine kw_iload_n (pc := 44) (i := 27) (k := 4) (n := 1) rfl rfl rfl ?_
              refine kw_iload (pc := 45) (i := 28) (k := 0) (n := 5) rfl rfl ?_
              refine kw_ishr (pc := 47) (i := 29) rfl (fun z25 e_z25 => ?_)
              have r_z25 := kw_rng z25
              replace hF := kf_le e_z25 hF
              refine kw_iconst (pc := 48) (i := 30) (v := 1) rfl rfl ?_
              refine kw_iand (pc := 49) (i := 31) rfl (fun z26 e_z26 => ?_)
              have r_z26 := kw_rng z26
              replace hF := kf_le e_z26 hF
              refine kw_iconst (pc := 50) (i := 32) (v := 1) rfl rfl ?_
              refine kw_icmp_ne (pc := 51) (i := 33) (tgt := 58) rfl rfl (fun c27 => ?_) (fun c27 => ?_)
              · replace hF := kf_n c27 hF
                refine kw_iconst (pc := 58) (i := 36) (v := 0) rfl rfl ?_
                refine kw_istore (pc := 59) (i := 37) (n := 6) (lv' := [(6, .int 0), (5, .int x16), (4, .int x17), (3, .int 0), (0, .ref 6), (1, .int hung), (2, .int left)]) rfl (by decide) rfl ?_
                refine kw_iload (pc := 61) (i := 38) (k := 0) (n := 6) rfl rfl ?_
                refine kw_iload_n (pc := 63) (i := 39) (k := 3) (n := 3) rfl rfl rfl ?_
                refine kw_icmp_ne (pc := 64) (i := 40) (tgt := 70) rfl rfl (fun c28 => ?_) (fun c28 => ?_)
                · exfalso; omega
                · replace hF := kf_p c28 hF
                  refine kw_goto (pc := 67) (i := 41) (tgt := 108) rfl rfl ?_
                  refine kw_iinc' (pc := 108) (i := 63) (k := 1) (fun z => [(5, .int z), (6, .int 0), (4, .int x17), (3, .int 0), (0, .ref 6), (1, .int hung), (2, .int left)]) rfl rfl (by decide) rfl (fun _ => rfl) (fun z29 e_z29 t_z29 => ?_)
                  replace hF := kf_le e_z29 hF
                  refine kw_goto (pc := 111) (i := 64) (tgt := 35) rfl rfl ?_
                  refine kw_sub (lv' := [(5, .int z29), (4, .int x17), (3, .int 0), (0, .ref 6), (1, .int hung), (2, .int left)]) [0, 2, 3, 4, 5, 6] rfl ?_
                  exact ih19 z29 x17 (by omega) hF (by omega)
              · replace hF := kf_p c27 hF
                refine kw_iconst (pc := 54) (i := 34) (v := 1) rfl rfl ?_
                refine kw_goto (pc := 55) (i := 35) (tgt := 59) rfl rfl ?_
                refine kw_istore (pc := 59) (i := 37) (n := 6) (lv' := [(6, .int 1), (5, .int x16), (4, .int x17), (3, .int 0), (0, .ref 6), (1, .int hung), (2, .int left)]) rfl (by decide) rfl ?_
                refine kw_iload (pc := 61) (i := 38) (k := 0) (n := 6) rfl rfl ?_
                refine kw_iload_n (pc := 63) (i := 39) (k := 3) (n := 3) rfl rfl rfl ?_
                refine kw_icmp_ne (pc := 64) (i := 40) (tgt := 70) rfl rfl (fun c30 => ?_) (fun c30 => ?_)
                · replace hF := kf_n c30 hF
                  refine kw_aload_n (pc := 70) (i := 42) (k := 4) (n := 0) rfl rfl rfl ?_
                  refine kw_iload_n (pc := 71) (i := 43) (k := 5) (n := 1) rfl rfl rfl ?_
                  refine kw_iconst (pc := 72) (i := 44) (v := 1) rfl rfl ?_
                  refine kw_iload (pc := 73) (i := 45) (k := 1) (n := 5) rfl rfl ?_
                  refine kw_ishl (pc := 75) (i := 46) rfl (fun z31 e_z31 => ?_)
                  have r_z31 := kw_rng z31
                  replace hF := kf_le e_z31 hF
                  refine kw_ixor (pc := 76) (i := 47) rfl (fun z32 e_z32 => ?_)
                  have r_z32 := kw_rng z32
                  replace hF := kf_le e_z32 hF
                  refine kw_iload_n (pc := 77) (i := 48) (k := 6) (n := 2) rfl rfl rfl ?_
                  refine kw_iconst (pc := 78) (i := 49) (v := 1) rfl rfl ?_
                  refine kw_isub (pc := 79) (i := 50) rfl (fun z33 e_z33 t_z33 => ?_)
                  replace hF := kf_le e_z33 hF
                  refine kw_callS (pc := 80) (i := 51) (Y := mX7_play) (As := [.ref 6, .int z32, .int z33]) (st := []) kw_hE rfl lsX7_288 arX7_play (ih σ hI z32 z33 (by first | omega | decide)) (by omega) (Nat.le_of_ble_eq_true rfl) rfl (fun v S35 p34 => ?_)
                  obtain ⟨e38, z37, rfl, ef36⟩ := p34
                  rw [e38]
                  replace hF := kf_le ef36 hF
                  have r_z37 := kw_rng z37
                  show kw_AW l (2 + (n + 1)) kw_E0 KX mX7_play (p_X7_play_6 (n + 1) σ hung left) 83 [(6, .int 1), (5, .int x16), (4, .int x17), (3, .int 0), (0, .ref 6), (1, .int hung), (2, .int left)] [.int z37] σ
                  refine kw_istore (pc := 83) (i := 52) (n := 7) (lv' := [(7, .int z37), (6, .int 1), (5, .int x16), (4, .int x17), (3, .int 0), (0, .ref 6), (1, .int hung), (2, .int left)]) rfl (by decide) rfl ?_
                  refine kw_iload_n (pc := 85) (i := 53) (k := 4) (n := 3) rfl rfl rfl ?_
                  refine kw_if_eq (pc := 86) (i := 54) (tgt := 99) rfl rfl (fun c39 => ?_) (fun c39 => ?_)
                  · replace hF := kf_p c39 hF
                    refine kw_iload (pc := 99) (i := 59) (k := 3) (n := 4) rfl rfl ?_
                    refine kw_iload (pc := 101) (i := 60) (k := 0) (n := 7) rfl rfl ?_
                    refine kw_mmin (pc := 103) (i := 61) rfl jX7_357 (by omega) (Nat.le_of_ble_eq_true rfl) (fun z40 e_z40 t_z40 => ?_)
                    replace hF := kf_le e_z40 hF
                    refine kw_istore (pc := 106) (i := 62) (n := 4) (lv' := [(4, .int z40), (7, .int z37), (6, .int 1), (5, .int x16), (3, .int 0), (0, .ref 6), (1, .int hung), (2, .int left)]) rfl (by decide) rfl ?_
                    refine kw_iinc' (pc := 108) (i := 63) (k := 3) (fun z => [(5, .int z), (4, .int z40), (7, .int z37), (6, .int 1), (3, .int 0), (0, .ref 6), (1, .int hung), (2, .int left)]) rfl rfl (by decide) rfl (fun _ => rfl) (fun z41 e_z41 t_z41 => ?_)
                    replace hF := kf_le e_z41 hF
                    refine kw_goto (pc := 111) (i := 64) (tgt := 35) rfl rfl ?_
                    refine kw_sub (lv' := [(5, .int z41), (4, .int z40), (3, .int 0), (0, .ref 6), (1, .int hung), (2, .int left)]) [0, 1, 4, 5, 6, 7] rfl ?_
                    exact ih19 z41 z40 (by omega) hF (by omega)
                  · exfalso; omega
                · exfalso; omega
        exact L18 _ 0 z14 (by omega) hF (Nat.lt_succ_self _)
      · replace hF := kf_p c9 hF
        refine kw_iconst (pc := 16) (i := 10) (v := 1) rfl rfl ?_
        refine kw_goto (pc := 17) (i := 11) (tgt := 21) rfl rfl ?_
        refine kw_istore_n (pc := 21) (i := 13) (n := 3) (lv' := [(3, .int 1), (0, .ref 6), (1, .int hung), (2, .int left)]) rfl rfl (by decide) rfl ?_
        refine kw_aload_n (pc := 22) (i := 14) (k := 1) (n := 0) rfl rfl rfl ?_
        refine kw_iload_n (pc := 23) (i := 15) (k := 2) (n := 1) rfl rfl rfl ?_
        refine kw_iload_n (pc := 24) (i := 16) (k := 3) (n := 2) rfl rfl rfl ?_
        refine kw_iconst (pc := 25) (i := 17) (v := 1) rfl rfl ?_
        refine kw_isub (pc := 26) (i := 18) rfl (fun z42 e_z42 t_z42 => ?_)
        replace hF := kf_le e_z42 hF
        refine kw_callS (pc := 27) (i := 19) (Y := mX7_play) (As := [.ref 6, .int hung, .int z42]) (st := []) kw_hE rfl lsX7_288 arX7_play (ih σ hI hung z42 (by first | omega | decide)) (by omega) (Nat.le_of_ble_eq_true rfl) rfl (fun v S44 p43 => ?_)
        obtain ⟨e47, z46, rfl, ef45⟩ := p43
        rw [e47]
        replace hF := kf_le ef45 hF
        have r_z46 := kw_rng z46
        show kw_AW l (2 + (n + 1)) kw_E0 KX mX7_play (p_X7_play_6 (n + 1) σ hung left) 30 [(3, .int 1), (0, .ref 6), (1, .int hung), (2, .int left)] [.int z46] σ
        refine kw_istore (pc := 30) (i := 20) (n := 4) (lv' := [(4, .int z46), (3, .int 1), (0, .ref 6), (1, .int hung), (2, .int left)]) rfl (by decide) rfl ?_
        refine kw_iconst (pc := 32) (i := 21) (v := 0) rfl rfl ?_
        refine kw_istore (pc := 33) (i := 22) (n := 5) (lv' := [(5, .int 0), (4, .int z46), (3, .int 1), (0, .ref 6), (1, .int hung), (2, .int left)]) rfl (by decide) rfl ?_
        have L50 : ∀ (n54 : Nat) (x48 : Int32) (x49 : Int32), 0 ≤ x48.toInt → l_X7_play_6_35a (f_X7_play_6 n) hung left σ n54 x49 x48 = (f_X7_play_6 (n + 1) σ hung left) → (7 - x48.toInt).toNat < n54 → kw_AW l (2 + (n + 1)) kw_E0 KX mX7_play (p_X7_play_6 (n + 1) σ hung left) 35 [(5, .int x48), (4, .int x49), (3, .int 1), (0, .ref 6), (1, .int hung), (2, .int left)] [] σ := by
          intro n54
          induction n54 with
          | zero => intro x48 x49 v52 hF m53; exact absurd m53 (Nat.not_lt_zero _)
          | succ n54 ih51 =>
            intro x48 x49 v52 hF m53
            replace hF := kf_st (l_X7_play_6_35a_s _ _ _ _ _ _ _) hF
            have r_x48 := kw_rng x48
            have r_x49 := kw_rng x49
            refine kw_iload (pc := 35) (i := 23) (k := 0) (n := 5) rfl rfl ?_
            refine kw_aload_n (pc := 37) (i := 24) (k := 3) (n := 0) rfl rfl rfl ?_
            refine kw_get (pc := 38) (i := 25) (v := .int (σ.1 6 2)) rfl rfl rfl lkX7_351 (fun _ => rfl) ?_
            have b55 : 0 ≤ (σ.1 6 2).toInt ∧ (σ.1 6 2).toInt ≤ 6 := hI 6 2
            refine kw_icmp_ge (pc := 41) (i := 26) (tgt := 114) rfl rfl (fun c56 => ?_) (fun c56 => ?_)
            · replace hF := kf_nl c56 hF
              refine kw_iload (pc := 114) (i := 65) (k := 1) (n := 4) rfl rfl ?_
              exact kw_ireturn (pc := 116) (i := 66) (ty := .int) rfl rfl rfl ⟨rfl, _, rfl, hF⟩
            · replace hF := kf_p c56 hF
              refine kw_iload_n (pc := 44) (i := 27) (k := 4) (n := 1) rfl rfl rfl ?_
              refine kw_iload (pc := 45) (i := 28) (k := 0) (n := 5) rfl rfl ?_
              refine kw_ishr (pc := 47) (i := 29) rfl (fun z57 e_z57 => ?_)
              have r_z57 := kw_rng z57
              replace hF := kf_le e_z57 hF
              refine kw_iconst (pc := 48) (i := 30) (v := 1) rfl rfl ?_
              refine kw_iand (pc := 49) (i := 31) rfl (fun z58 e_z58 => ?_)
              have r_z58 := kw_rng z58
              replace hF := kf_le e_z58 hF
              refine kw_iconst (pc := 50) (i := 32) (v := 1) rfl rfl ?_
              refine kw_icmp_ne (pc := 51) (i := 33) (tgt := 58) rfl rfl (fun c59 => ?_) (fun c59 => ?_)
              · replace hF := kf_n c59 hF
                refine kw_iconst (pc := 58) (i := 36) (v := 0) rfl rfl ?_
                refine kw_istore (pc := 59) (i := 37) (n := 6) (lv' := [(6, .int 0), (5, .int x48), (4, .int x49), (3, .int 1), (0, .ref 6), (1, .int hung), (2, .int left)]) rfl (by decide) rfl ?_
                refine kw_iload (pc := 61) (i := 38) (k := 0) (n := 6) rfl rfl ?_
                refine kw_iload_n (pc := 63) (i := 39) (k := 3) (n := 3) rfl rfl rfl ?_
                refine kw_icmp_ne (pc := 64) (i := 40) (tgt := 70) rfl rfl (fun c60 => ?_) (fun c60 => ?_)
                · replace hF := kf_n c60 hF
                  refine kw_aload_n (pc := 70) (i := 42) (k := 4) (n := 0) rfl rfl rfl ?_
                  refine kw_iload_n (pc := 71) (i := 43) (k := 5) (n := 1) rfl rfl rfl ?_
                  refine kw_iconst (pc := 72) (i := 44) (v := 1) rfl rfl ?_
                  refine kw_iload (pc := 73) (i := 45) (k := 1) (n := 5) rfl rfl ?_
                  refine kw_ishl (pc := 75) (i := 46) rfl (fun z61 e_z61 => ?_)
                  have r_z61 := kw_rng z61
                  replace hF := kf_le e_z61 hF
                  refine kw_ixor (pc := 76) (i := 47) rfl (fun z62 e_z62 => ?_)
                  have r_z62 := kw_rng z62
                  replace hF := kf_le e_z62 hF
                  refine kw_iload_n (pc := 77) (i := 48) (k := 6) (n := 2) rfl rfl rfl ?_
                  refine kw_iconst (pc := 78) (i := 49) (v := 1) rfl rfl ?_
                  refine kw_isub (pc := 79) (i := 50) rfl (fun z63 e_z63 t_z63 => ?_)
                  replace hF := kf_le e_z63 hF
                  refine kw_callS (pc := 80) (i := 51) (Y := mX7_play) (As := [.ref 6, .int z62, .int z63]) (st := []) kw_hE rfl lsX7_288 arX7_play (ih σ hI z62 z63 (by first | omega | decide)) (by omega) (Nat.le_of_ble_eq_true rfl) rfl (fun v S65 p64 => ?_)
                  obtain ⟨e68, z67, rfl, ef66⟩ := p64
                  rw [e68]
                  replace hF := kf_le ef66 hF
                  have r_z67 := kw_rng z67
                  show kw_AW l (2 + (n + 1)) kw_E0 KX mX7_play (p_X7_play_6 (n + 1) σ hung left) 83 [(6, .int 0), (5, .int x48), (4, .int x49), (3, .int 1), (0, .ref 6), (1, .int hung), (2, .int left)] [.int z67] σ
                  refine kw_istore (pc := 83) (i := 52) (n := 7) (lv' := [(7, .int z67), (6, .int 0), (5, .int x48), (4, .int x49), (3, .int 1), (0, .ref 6), (1, .int hung), (2, .int left)]) rfl (by decide) rfl ?_
                  refine kw_iload_n (pc := 85) (i := 53) (k := 4) (n := 3) rfl rfl rfl ?_
                  refine kw_if_eq (pc := 86) (i := 54) (tgt := 99) rfl rfl (fun c69 => ?_) (fun c69 => ?_)
                  · exfalso; omega
                  · replace hF := kf_n c69 hF
                    refine kw_iload (pc := 89) (i := 55) (k := 3) (n := 4) rfl rfl ?_
                    refine kw_iload (pc := 91) (i := 56) (k := 0) (n := 7) rfl rfl ?_
                    refine kw_mmax (pc := 93) (i := 57) rfl jX7_352 (by omega) (Nat.le_of_ble_eq_true rfl) (fun z70 e_z70 t_z70 => ?_)
                    replace hF := kf_le e_z70 hF
                    refine kw_goto (pc := 96) (i := 58) (tgt := 106) rfl rfl ?_
                    refine kw_istore (pc := 106) (i := 62) (n := 4) (lv' := [(4, .int z70), (7, .int z67), (6, .int 0), (5, .int x48), (3, .int 1), (0, .ref 6), (1, .int hung), (2, .int left)]) rfl (by decide) rfl ?_
                    refine kw_iinc' (pc := 108) (i := 63) (k := 3) (fun z => [(5, .int z), (4, .int z70), (7, .int z67), (6, .int 0), (3, .int 1), (0, .ref 6), (1, .int hung), (2, .int left)]) rfl rfl (by decide) rfl (fun _ => rfl) (fun z71 e_z71 t_z71 => ?_)
                    replace hF := kf_le e_z71 hF
                    refine kw_goto (pc := 111) (i := 64) (tgt := 35) rfl rfl ?_
                    refine kw_sub (lv' := [(5, .int z71), (4, .int z70), (3, .int 1), (0, .ref 6), (1, .int hung), (2, .int left)]) [0, 1, 4, 5, 6, 7] rfl ?_
                    exact ih51 z71 z70 (by omega) hF (by omega)
                · exfalso; omega
              · replace hF := kf_p c59 hF
                refine kw_iconst (pc := 54) (i := 34) (v := 1) rfl rfl ?_
                refine kw_goto (pc := 55) (i := 35) (tgt := 59) rfl rfl ?_
                refine kw_istore (pc := 59) (i := 37) (n := 6) (lv' := [(6, .int 1), (5, .int x48), (4, .int x49), (3, .int 1), (0, .ref 6), (1, .int hung), (2, .int left)]) rfl (by decide) rfl ?_
                refine kw_iload (pc := 61) (i := 38) (k := 0) (n := 6) rfl rfl ?_
                refine kw_iload_n (pc := 63) (i := 39) (k := 3) (n := 3) rfl rfl rfl ?_
                refine kw_icmp_ne (pc := 64) (i := 40) (tgt := 70) rfl rfl (fun c72 => ?_) (fun c72 => ?_)
                · exfalso; omega
                · replace hF := kf_p c72 hF
                  refine kw_goto (pc := 67) (i := 41) (tgt := 108) rfl rfl ?_
                  refine kw_iinc' (pc := 108) (i := 63) (k := 1) (fun z => [(5, .int z), (6, .int 1), (4, .int x49), (3, .int 1), (0, .ref 6), (1, .int hung), (2, .int left)]) rfl rfl (by decide) rfl (fun _ => rfl) (fun z73 e_z73 t_z73 => ?_)
                  replace hF := kf_le e_z73 hF
                  refine kw_goto (pc := 111) (i := 64) (tgt := 35) rfl rfl ?_
                  refine kw_sub (lv' := [(5, .int z73), (4, .int x49), (3, .int 1), (0, .ref 6), (1, .int hung), (2, .int left)]) [0, 2, 3, 4, 5, 6] rfl ?_
                  exact ih51 z73 x49 (by omega) hF (by omega)
        exact L50 _ 0 z46 (by omega) hF (Nat.lt_succ_self _)
    · replace hF := kf_nl c7 hF
      refine kw_aload_n (pc := 4) (i := 2) (k := 0) (n := 0) rfl rfl rfl ?_
      refine kw_iload_n (pc := 5) (i := 3) (k := 1) (n := 1) rfl rfl rfl ?_
      refine kw_callV (pc := 6) (i := 4) (Y := mX0_milesOf) (a := 6) (As := [.int hung]) (st := []) kw_hE rfl rfl lvX7_238 arX0_milesOf (c_X0_milesOf_6 l σ hI hung ) (by omega) (Nat.le_of_ble_eq_true rfl) rfl (fun v S75 p74 => ?_)
      obtain ⟨e78, z77, rfl, ef76⟩ := p74
      rw [e78]
      replace hF := kf_le ef76 hF
      have r_z77 := kw_rng z77
      show kw_AW l (2 + (n + 1)) kw_E0 KX mX7_play (p_X7_play_6 (n + 1) σ hung left) 9 [(0, .ref 6), (1, .int hung), (2, .int left)] [.int z77] σ
      exact kw_ireturn (pc := 9) (i := 5) (ty := .int) rfl rfl rfl ⟨rfl, _, rfl, hF⟩
end
section
noncomputable def f_X7_makeOn_0_1 (σ : kw_S) (k : Int32) (n : Int32) (v : Int32) : Int32 × kw_S := kf_l (f_X3_has_1 σ k) fun z1 => if z1.toInt = 0 then ((((-1) : Int32), σ)) else (if (σ.1 1 0).toInt < n.toInt then ((((-1) : Int32), σ)) else (if n.toInt < 0 then (kf_b (f_X4_refuse_8 σ (5 : Int32)) fun z3 S4 => (z3, S4)) else (kf_l (f_X3_make_1 σ k n v) fun S2 => (n, S2))))
theorem f_X7_makeOn_0_1_u (σ : kw_S) (k : Int32) (n : Int32) (v : Int32) : f_X7_makeOn_0_1 σ k n v = kf_l (f_X3_has_1 σ k) fun z1 => if z1.toInt = 0 then ((((-1) : Int32), σ)) else (if (σ.1 1 0).toInt < n.toInt then ((((-1) : Int32), σ)) else (if n.toInt < 0 then (kf_b (f_X4_refuse_8 σ (5 : Int32)) fun z3 S4 => (z3, S4)) else (kf_l (f_X3_make_1 σ k n v) fun S2 => (n, S2)))) := rfl
abbrev p_X7_makeOn_0_1 (σ : kw_S) (k : Int32) (n : Int32) (v : Int32) : Option Value → kw_S → Prop := fun vv σ' => (kw_I bX σ' ∧ kw_F [8, 28, 13, 29, 30, 31, 32, 33, 34] σ σ') ∧ ∃ r : Int32, vv = some (.int r) ∧ ((k.toInt < 0 ∨ 6 ≤ k.toInt ∨ 40 < n.toInt) ∧ r.toInt = -1 ∨ 0 ≤ k.toInt ∧ k.toInt < 6 ∧ n.toInt < 0 ∧ r.toInt = -3 ∨ 0 ≤ k.toInt ∧ k.toInt < 6 ∧ 0 ≤ n.toInt ∧ n.toInt ≤ 40 ∧ r.toInt = n.toInt) ∧ (r, σ') = f_X7_makeOn_0_1 σ k n v
set_option maxRecDepth 100000 in
set_option maxHeartbeats 4000000 in
theorem c_X7_makeOn_0_1 (l : Launch) (σ : kw_S) (hI : kw_I bX σ) (k : Int32) (n : Int32) (v : Int32) : kw_Met l 3 KX mX7_makeOn [.ref 0, .ref 1, .int k, .int n, .int v] σ (p_X7_makeOn_0_1 σ k n v) := by
  have r_k := kw_rng k
  have r_n := kw_rng n
  have r_v := kw_rng v
  have hF0 : kw_F [8, 28, 13, 29, 30, 31, 32, 33, 34] σ σ := kw_F.rf
  have hF := (f_X7_makeOn_0_1_u σ k n v).symm
  have q_m1 : (-1 : Int32).toInt = -1 := rfl
  have q_5 : (5 : Int32).toInt = 5 := rfl
  refine kw_Met.of (by decide) rfl tX7_makeOn (Nat.le_of_ble_eq_true rfl) ?_
  show kw_AW l 3 kw_E0 KX mX7_makeOn (p_X7_makeOn_0_1 σ k n v) 0 [(0, .ref 0), (1, .ref 1), (2, .int k), (3, .int n), (4, .int v)] [] σ
  refine kw_aload_n (pc := 0) (i := 0) (k := 1) (n := 1) rfl rfl rfl ?_
  refine kw_iload_n (pc := 1) (i := 1) (k := 2) (n := 2) rfl rfl rfl ?_
  refine kw_callV (pc := 2) (i := 2) (Y := mX3_has) (a := 1) (As := [.int k]) (st := []) kw_hE rfl rfl lvX7_73 arX3_has (c_X3_has_1 l σ hI k ) (by decide) (Nat.le_of_ble_eq_true rfl) rfl (fun v S2 p1 => ?_)
  obtain ⟨e8, z7, rfl, f3, f4, f5, ef6⟩ := p1
  rw [e8]
  replace hF := kf_le ef6 hF
  have r_z7 := kw_rng z7
  show kw_AW l 3 kw_E0 KX mX7_makeOn (p_X7_makeOn_0_1 σ k n v) 5 [(0, .ref 0), (1, .ref 1), (2, .int k), (3, .int n), (4, .int v)] [.int z7] σ
  refine kw_if_eq (pc := 5) (i := 3) (tgt := 16) rfl rfl (fun c9 => ?_) (fun c9 => ?_)
  · replace hF := kf_p c9 hF
    refine kw_iconst (pc := 16) (i := 8) (v := (-1)) rfl rfl ?_
    exact kw_ireturn (pc := 17) (i := 9) (ty := .int) rfl rfl rfl ⟨⟨hI, hF0⟩, _, rfl, by omega, hF⟩
  · replace hF := kf_n c9 hF
    refine kw_iload_n (pc := 8) (i := 4) (k := 3) (n := 3) rfl rfl rfl ?_
    refine kw_aload_n (pc := 9) (i := 5) (k := 1) (n := 1) rfl rfl rfl ?_
    refine kw_get (pc := 10) (i := 6) (v := .int (σ.1 1 0)) rfl rfl rfl lkX7_348 (fun _ => rfl) ?_
    have b10 : 40 ≤ (σ.1 1 0).toInt ∧ (σ.1 1 0).toInt ≤ 40 := hI 1 0
    refine kw_icmp_le (pc := 13) (i := 7) (tgt := 18) rfl rfl (fun c11 => ?_) (fun c11 => ?_)
    · replace hF := kf_nl c11 hF
      refine kw_iload_n (pc := 18) (i := 10) (k := 3) (n := 3) rfl rfl rfl ?_
      refine kw_if_ge (pc := 19) (i := 11) (tgt := 31) rfl rfl (fun c12 => ?_) (fun c12 => ?_)
      · replace hF := kf_nl c12 hF
        refine kw_aload_n (pc := 31) (i := 17) (k := 1) (n := 1) rfl rfl rfl ?_
        refine kw_iload_n (pc := 32) (i := 18) (k := 2) (n := 2) rfl rfl rfl ?_
        refine kw_iload_n (pc := 33) (i := 19) (k := 3) (n := 3) rfl rfl rfl ?_
        refine kw_iload (pc := 34) (i := 20) (k := 4) (n := 4) rfl rfl ?_
        refine kw_callV (pc := 36) (i := 21) (Y := mX3_make) (a := 1) (As := [.int k, .int n, .int v]) (st := []) kw_hE rfl rfl lvX7_210 arX3_make (c_X3_make_1 l σ hI k n v ) (by decide) (Nat.le_of_ble_eq_true rfl) rfl (fun v S14 p13 => ?_)
        obtain ⟨⟨I16, F17⟩, rfl, ef15⟩ := p13
        have F18 : kw_F [8, 28, 13, 29, 30, 31, 32, 33, 34] σ S14 := kw_F.tr hF0 F17 (by decide)
        replace hF := kf_le ef15 hF
        show kw_AW l 3 kw_E0 KX mX7_makeOn (p_X7_makeOn_0_1 σ k n v) 39 [(0, .ref 0), (1, .ref 1), (2, .int k), (3, .int n), (4, .int v)] [] S14
        refine kw_iload_n (pc := 39) (i := 22) (k := 3) (n := 3) rfl rfl rfl ?_
        exact kw_ireturn (pc := 40) (i := 23) (ty := .int) rfl rfl rfl ⟨⟨I16, F18⟩, _, rfl, by omega, hF⟩
      · replace hF := kf_p c12 hF
        refine kw_aload_n (pc := 22) (i := 12) (k := 0) (n := 0) rfl rfl rfl ?_
        refine kw_get (pc := 23) (i := 13) (v := .ref 8) rfl rfl rfl lkX7_55 (fun _ => rfl) ?_
        refine kw_iconst (pc := 26) (i := 14) (v := 5) rfl rfl ?_
        refine kw_callV (pc := 27) (i := 15) (Y := mX4_refuse) (a := 8) (As := [.int 5]) (st := []) kw_hE rfl rfl lvX7_81 arX4_refuse (c_X4_refuse_8 l σ hI 5 ) (by decide) (Nat.le_of_ble_eq_true rfl) rfl (fun v S20 p19 => ?_)
        obtain ⟨⟨I24, F25⟩, z23, rfl, f21, ef22⟩ := p19
        have F26 : kw_F [8, 28, 13, 29, 30, 31, 32, 33, 34] σ S20 := kw_F.tr hF0 F25 (by decide)
        replace hF := kf_be ef22 hF
        have r_z23 := kw_rng z23
        show kw_AW l 3 kw_E0 KX mX7_makeOn (p_X7_makeOn_0_1 σ k n v) 30 [(0, .ref 0), (1, .ref 1), (2, .int k), (3, .int n), (4, .int v)] [.int z23] S20
        exact kw_ireturn (pc := 30) (i := 16) (ty := .int) rfl rfl rfl ⟨⟨I24, F26⟩, _, rfl, by omega, hF⟩
    · replace hF := kf_p c11 hF
      refine kw_iconst (pc := 16) (i := 8) (v := (-1)) rfl rfl ?_
      exact kw_ireturn (pc := 17) (i := 9) (ty := .int) rfl rfl rfl ⟨⟨hI, hF0⟩, _, rfl, by omega, hF⟩
noncomputable def f_X7_makeOn_0_2 (σ : kw_S) (k : Int32) (n : Int32) (v : Int32) : Int32 × kw_S := kf_l (f_X3_has_2 σ k) fun z1 => if z1.toInt = 0 then ((((-1) : Int32), σ)) else (if (σ.1 2 0).toInt < n.toInt then ((((-1) : Int32), σ)) else (if n.toInt < 0 then (kf_b (f_X4_refuse_8 σ (5 : Int32)) fun z3 S4 => (z3, S4)) else (kf_l (f_X3_make_2 σ k n v) fun S2 => (n, S2))))
theorem f_X7_makeOn_0_2_u (σ : kw_S) (k : Int32) (n : Int32) (v : Int32) : f_X7_makeOn_0_2 σ k n v = kf_l (f_X3_has_2 σ k) fun z1 => if z1.toInt = 0 then ((((-1) : Int32), σ)) else (if (σ.1 2 0).toInt < n.toInt then ((((-1) : Int32), σ)) else (if n.toInt < 0 then (kf_b (f_X4_refuse_8 σ (5 : Int32)) fun z3 S4 => (z3, S4)) else (kf_l (f_X3_make_2 σ k n v) fun S2 => (n, S2)))) := rfl
abbrev p_X7_makeOn_0_2 (σ : kw_S) (k : Int32) (n : Int32) (v : Int32) : Option Value → kw_S → Prop := fun vv σ' => (kw_I bX σ' ∧ kw_F [8, 28, 15, 35, 36, 37, 38] σ σ') ∧ ∃ r : Int32, vv = some (.int r) ∧ ((k.toInt < 0 ∨ 4 ≤ k.toInt ∨ 60 < n.toInt) ∧ r.toInt = -1 ∨ 0 ≤ k.toInt ∧ k.toInt < 4 ∧ n.toInt < 0 ∧ r.toInt = -3 ∨ 0 ≤ k.toInt ∧ k.toInt < 4 ∧ 0 ≤ n.toInt ∧ n.toInt ≤ 60 ∧ r.toInt = n.toInt) ∧ (r, σ') = f_X7_makeOn_0_2 σ k n v
set_option maxRecDepth 100000 in
set_option maxHeartbeats 4000000 in
theorem c_X7_makeOn_0_2 (l : Launch) (σ : kw_S) (hI : kw_I bX σ) (k : Int32) (n : Int32) (v : Int32) : kw_Met l 3 KX mX7_makeOn [.ref 0, .ref 2, .int k, .int n, .int v] σ (p_X7_makeOn_0_2 σ k n v) := by
  have r_k := kw_rng k
  have r_n := kw_rng n
  have r_v := kw_rng v
  have hF0 : kw_F [8, 28, 15, 35, 36, 37, 38] σ σ := kw_F.rf
  have hF := (f_X7_makeOn_0_2_u σ k n v).symm
  have q_m1 : (-1 : Int32).toInt = -1 := rfl
  have q_5 : (5 : Int32).toInt = 5 := rfl
  refine kw_Met.of (by decide) rfl tX7_makeOn (Nat.le_of_ble_eq_true rfl) ?_
  show kw_AW l 3 kw_E0 KX mX7_makeOn (p_X7_makeOn_0_2 σ k n v) 0 [(0, .ref 0), (1, .ref 2), (2, .int k), (3, .int n), (4, .int v)] [] σ
  refine kw_aload_n (pc := 0) (i := 0) (k := 1) (n := 1) rfl rfl rfl ?_
  refine kw_iload_n (pc := 1) (i := 1) (k := 2) (n := 2) rfl rfl rfl ?_
  refine kw_callV (pc := 2) (i := 2) (Y := mX3_has) (a := 2) (As := [.int k]) (st := []) kw_hE rfl rfl lvX7_73 arX3_has (c_X3_has_2 l σ hI k ) (by decide) (Nat.le_of_ble_eq_true rfl) rfl (fun v S2 p1 => ?_)
  obtain ⟨e8, z7, rfl, f3, f4, f5, ef6⟩ := p1
  rw [e8]
  replace hF := kf_le ef6 hF
  have r_z7 := kw_rng z7
  show kw_AW l 3 kw_E0 KX mX7_makeOn (p_X7_makeOn_0_2 σ k n v) 5 [(0, .ref 0), (1, .ref 2), (2, .int k), (3, .int n), (4, .int v)] [.int z7] σ
  refine kw_if_eq (pc := 5) (i := 3) (tgt := 16) rfl rfl (fun c9 => ?_) (fun c9 => ?_)
  · replace hF := kf_p c9 hF
    refine kw_iconst (pc := 16) (i := 8) (v := (-1)) rfl rfl ?_
    exact kw_ireturn (pc := 17) (i := 9) (ty := .int) rfl rfl rfl ⟨⟨hI, hF0⟩, _, rfl, by omega, hF⟩
  · replace hF := kf_n c9 hF
    refine kw_iload_n (pc := 8) (i := 4) (k := 3) (n := 3) rfl rfl rfl ?_
    refine kw_aload_n (pc := 9) (i := 5) (k := 1) (n := 1) rfl rfl rfl ?_
    refine kw_get (pc := 10) (i := 6) (v := .int (σ.1 2 0)) rfl rfl rfl lkX7_348 (fun _ => rfl) ?_
    have b10 : 60 ≤ (σ.1 2 0).toInt ∧ (σ.1 2 0).toInt ≤ 60 := hI 2 0
    refine kw_icmp_le (pc := 13) (i := 7) (tgt := 18) rfl rfl (fun c11 => ?_) (fun c11 => ?_)
    · replace hF := kf_nl c11 hF
      refine kw_iload_n (pc := 18) (i := 10) (k := 3) (n := 3) rfl rfl rfl ?_
      refine kw_if_ge (pc := 19) (i := 11) (tgt := 31) rfl rfl (fun c12 => ?_) (fun c12 => ?_)
      · replace hF := kf_nl c12 hF
        refine kw_aload_n (pc := 31) (i := 17) (k := 1) (n := 1) rfl rfl rfl ?_
        refine kw_iload_n (pc := 32) (i := 18) (k := 2) (n := 2) rfl rfl rfl ?_
        refine kw_iload_n (pc := 33) (i := 19) (k := 3) (n := 3) rfl rfl rfl ?_
        refine kw_iload (pc := 34) (i := 20) (k := 4) (n := 4) rfl rfl ?_
        refine kw_callV (pc := 36) (i := 21) (Y := mX3_make) (a := 2) (As := [.int k, .int n, .int v]) (st := []) kw_hE rfl rfl lvX7_210 arX3_make (c_X3_make_2 l σ hI k n v ) (by decide) (Nat.le_of_ble_eq_true rfl) rfl (fun v S14 p13 => ?_)
        obtain ⟨⟨I16, F17⟩, rfl, ef15⟩ := p13
        have F18 : kw_F [8, 28, 15, 35, 36, 37, 38] σ S14 := kw_F.tr hF0 F17 (by decide)
        replace hF := kf_le ef15 hF
        show kw_AW l 3 kw_E0 KX mX7_makeOn (p_X7_makeOn_0_2 σ k n v) 39 [(0, .ref 0), (1, .ref 2), (2, .int k), (3, .int n), (4, .int v)] [] S14
        refine kw_iload_n (pc := 39) (i := 22) (k := 3) (n := 3) rfl rfl rfl ?_
        exact kw_ireturn (pc := 40) (i := 23) (ty := .int) rfl rfl rfl ⟨⟨I16, F18⟩, _, rfl, by omega, hF⟩
      · replace hF := kf_p c12 hF
        refine kw_aload_n (pc := 22) (i := 12) (k := 0) (n := 0) rfl rfl rfl ?_
        refine kw_get (pc := 23) (i := 13) (v := .ref 8) rfl rfl rfl lkX7_55 (fun _ => rfl) ?_
        refine kw_iconst (pc := 26) (i := 14) (v := 5) rfl rfl ?_
        refine kw_callV (pc := 27) (i := 15) (Y := mX4_refuse) (a := 8) (As := [.int 5]) (st := []) kw_hE rfl rfl lvX7_81 arX4_refuse (c_X4_refuse_8 l σ hI 5 ) (by decide) (Nat.le_of_ble_eq_true rfl) rfl (fun v S20 p19 => ?_)
        obtain ⟨⟨I24, F25⟩, z23, rfl, f21, ef22⟩ := p19
        have F26 : kw_F [8, 28, 15, 35, 36, 37, 38] σ S20 := kw_F.tr hF0 F25 (by decide)
        replace hF := kf_be ef22 hF
        have r_z23 := kw_rng z23
        show kw_AW l 3 kw_E0 KX mX7_makeOn (p_X7_makeOn_0_2 σ k n v) 30 [(0, .ref 0), (1, .ref 2), (2, .int k), (3, .int n), (4, .int v)] [.int z23] S20
        exact kw_ireturn (pc := 30) (i := 16) (ty := .int) rfl rfl rfl ⟨⟨I24, F26⟩, _, rfl, by omega, hF⟩
    · replace hF := kf_p c11 hF
      refine kw_iconst (pc := 16) (i := 8) (v := (-1)) rfl rfl ?_
      exact kw_ireturn (pc := 17) (i := 9) (ty := .int) rfl rfl rfl ⟨⟨hI, hF0⟩, _, rfl, by omega, hF⟩
noncomputable def l_X7_planRefusal_0_70 (a1 : Int32) (S : kw_S) : Nat → Int32 → Int32 × kw_S
  | 0, _ => (0, S)
  | n + 1, x2 => kf_l (f_X3_sizeOf_1 S a1) fun z5 => if x2.toInt < z5.toInt then (kf_l (f_X3_valueAt_1 S a1 x2) fun z6 => kf_l (f_X1_hasSet_17 S z6) fun z7 => if z7.toInt = 0 then (kf_b (f_X4_refuse_8 S (3 : Int32)) fun z9 S10 => (z9, S10)) else (kf_l (x2 + Int32.ofInt 1) fun z8 => l_X7_planRefusal_0_70 a1 S n z8)) else (((0 : Int32), S))
theorem l_X7_planRefusal_0_70_s (a1 : Int32) (S : kw_S) (n : Nat) (x2 : Int32) : l_X7_planRefusal_0_70 a1 S (n + 1) x2 = kf_l (f_X3_sizeOf_1 S a1) fun z5 => if x2.toInt < z5.toInt then (kf_l (f_X3_valueAt_1 S a1 x2) fun z6 => kf_l (f_X1_hasSet_17 S z6) fun z7 => if z7.toInt = 0 then (kf_b (f_X4_refuse_8 S (3 : Int32)) fun z9 S10 => (z9, S10)) else (kf_l (x2 + Int32.ofInt 1) fun z8 => l_X7_planRefusal_0_70 a1 S n z8)) else (((0 : Int32), S)) := rfl
noncomputable def f_X7_planRefusal_0 (σ : kw_S) (a : Int32) : Int32 × kw_S := kf_l (f_X3_has_1 σ a) fun z1 => if z1.toInt = 0 then ((((-1) : Int32), σ)) else (kf_l (f_X5_isEmpty_4 σ) fun z2 => if z2.toInt = 0 then (kf_l (f_X3_isMissing_1 σ a) fun z3 => if z3.toInt = 0 then (kf_l (f_X3_sizeOf_1 σ a) fun z4 => if (6 : Int32).toInt < z4.toInt then (kf_b (f_X4_refuse_8 σ (5 : Int32)) fun z11 S12 => (z11, S12)) else (l_X7_planRefusal_0_70 a σ ((41 - (0 : Int32).toInt).toNat + 1) (0 : Int32))) else (kf_b (f_X4_refuse_8 σ (1 : Int32)) fun z13 S14 => (z13, S14))) else ((((-4) : Int32), σ)))
theorem f_X7_planRefusal_0_u (σ : kw_S) (a : Int32) : f_X7_planRefusal_0 σ a = kf_l (f_X3_has_1 σ a) fun z1 => if z1.toInt = 0 then ((((-1) : Int32), σ)) else (kf_l (f_X5_isEmpty_4 σ) fun z2 => if z2.toInt = 0 then (kf_l (f_X3_isMissing_1 σ a) fun z3 => if z3.toInt = 0 then (kf_l (f_X3_sizeOf_1 σ a) fun z4 => if (6 : Int32).toInt < z4.toInt then (kf_b (f_X4_refuse_8 σ (5 : Int32)) fun z11 S12 => (z11, S12)) else (l_X7_planRefusal_0_70 a σ ((41 - (0 : Int32).toInt).toNat + 1) (0 : Int32))) else (kf_b (f_X4_refuse_8 σ (1 : Int32)) fun z13 S14 => (z13, S14))) else ((((-4) : Int32), σ))) := rfl
abbrev p_X7_planRefusal_0 (σ : kw_S) (a : Int32) : Option Value → kw_S → Prop := fun vv σ' => (kw_I bX σ' ∧ kw_F [8, 28] σ σ') ∧ ∃ r : Int32, vv = some (.int r) ∧ (r.toInt ≠ 0 ∨ 0 ≤ a.toInt ∧ a.toInt < 6 ∧ (σ'.1 13 a.toNatClampNeg).toInt ≤ 6) ∧ (r, σ') = f_X7_planRefusal_0 σ a
set_option maxRecDepth 100000 in
set_option maxHeartbeats 4000000 in
theorem c_X7_planRefusal_0 (l : Launch) (σ : kw_S) (hI : kw_I bX σ) (a : Int32) : kw_Met l 4 KX mX7_planRefusal [.ref 0, .int a] σ (p_X7_planRefusal_0 σ a) := by
  have r_a := kw_rng a
  have hF0 : kw_F [8, 28] σ σ := kw_F.rf
  have hF := (f_X7_planRefusal_0_u σ a).symm
  have q_m4 : (-4 : Int32).toInt = -4 := rfl
  have q_m1 : (-1 : Int32).toInt = -1 := rfl
  have q_0 : (0 : Int32).toInt = 0 := rfl
  have q_1 : (1 : Int32).toInt = 1 := rfl
  have q_3 : (3 : Int32).toInt = 3 := rfl
  have q_5 : (5 : Int32).toInt = 5 := rfl
  have q_6 : (6 : Int32).toInt = 6 := rfl
  refine kw_Met.of (by decide) rfl tX7_planRefusal (Nat.le_of_ble_eq_true rfl) ?_
  show kw_AW l 4 kw_E0 KX mX7_planRefusal (p_X7_planRefusal_0 σ a) 0 [(0, .ref 0), (1, .int a)] [] σ
  refine kw_aload_n (pc := 0) (i := 0) (k := 0) (n := 0) rfl rfl rfl ?_
  refine kw_get (pc := 1) (i := 1) (v := .ref 1) rfl rfl rfl lkX7_14 (fun _ => rfl) ?_
  refine kw_iload_n (pc := 4) (i := 2) (k := 1) (n := 1) rfl rfl rfl ?_
  refine kw_callV (pc := 5) (i := 3) (Y := mX3_has) (a := 1) (As := [.int a]) (st := []) kw_hE rfl rfl lvX7_73 arX3_has (c_X3_has_1 l σ hI a ) (by decide) (Nat.le_of_ble_eq_true rfl) rfl (fun v S2 p1 => ?_)
  obtain ⟨e8, z7, rfl, f3, f4, f5, ef6⟩ := p1
  rw [e8]
  replace hF := kf_le ef6 hF
  have r_z7 := kw_rng z7
  show kw_AW l 4 kw_E0 KX mX7_planRefusal (p_X7_planRefusal_0 σ a) 8 [(0, .ref 0), (1, .int a)] [.int z7] σ
  refine kw_if_ne (pc := 8) (i := 4) (tgt := 13) rfl rfl (fun c9 => ?_) (fun c9 => ?_)
  · replace hF := kf_n c9 hF
    refine kw_aload_n (pc := 13) (i := 7) (k := 0) (n := 0) rfl rfl rfl ?_
    refine kw_get (pc := 14) (i := 8) (v := .ref 4) rfl rfl rfl lkX7_31 (fun _ => rfl) ?_
    refine kw_callV (pc := 17) (i := 9) (Y := mX5_isEmpty) (a := 4) (As := []) (st := []) kw_hE rfl rfl lvX7_178 arX5_isEmpty (c_X5_isEmpty_4 l σ hI  ) (by decide) (Nat.le_of_ble_eq_true rfl) rfl (fun v S11 p10 => ?_)
    obtain ⟨e17, z16, rfl, f12, f13, f14, ef15⟩ := p10
    rw [e17]
    replace hF := kf_le ef15 hF
    have r_z16 := kw_rng z16
    show kw_AW l 4 kw_E0 KX mX7_planRefusal (p_X7_planRefusal_0 σ a) 20 [(0, .ref 0), (1, .int a)] [.int z16] σ
    refine kw_if_eq (pc := 20) (i := 10) (tgt := 26) rfl rfl (fun c18 => ?_) (fun c18 => ?_)
    · replace hF := kf_p c18 hF
      refine kw_aload_n (pc := 26) (i := 13) (k := 0) (n := 0) rfl rfl rfl ?_
      refine kw_get (pc := 27) (i := 14) (v := .ref 1) rfl rfl rfl lkX7_14 (fun _ => rfl) ?_
      refine kw_iload_n (pc := 30) (i := 15) (k := 1) (n := 1) rfl rfl rfl ?_
      refine kw_callV (pc := 31) (i := 16) (Y := mX3_isMissing) (a := 1) (As := [.int a]) (st := []) kw_hE rfl rfl lvX7_95 arX3_isMissing (c_X3_isMissing_1 l σ hI a ) (by decide) (Nat.le_of_ble_eq_true rfl) rfl (fun v S20 p19 => ?_)
      obtain ⟨e25, z24, rfl, f21, f22, ef23⟩ := p19
      rw [e25]
      replace hF := kf_le ef23 hF
      have r_z24 := kw_rng z24
      show kw_AW l 4 kw_E0 KX mX7_planRefusal (p_X7_planRefusal_0 σ a) 34 [(0, .ref 0), (1, .int a)] [.int z24] σ
      refine kw_if_eq (pc := 34) (i := 17) (tgt := 46) rfl rfl (fun c26 => ?_) (fun c26 => ?_)
      · replace hF := kf_p c26 hF
        refine kw_aload_n (pc := 46) (i := 23) (k := 0) (n := 0) rfl rfl rfl ?_
        refine kw_get (pc := 47) (i := 24) (v := .ref 1) rfl rfl rfl lkX7_14 (fun _ => rfl) ?_
        refine kw_iload_n (pc := 50) (i := 25) (k := 1) (n := 1) rfl rfl rfl ?_
        refine kw_callV (pc := 51) (i := 26) (Y := mX3_sizeOf) (a := 1) (As := [.int a]) (st := []) kw_hE rfl rfl lvX7_110 arX3_sizeOf (c_X3_sizeOf_1 l σ hI a ) (by decide) (Nat.le_of_ble_eq_true rfl) rfl (fun v S28 p27 => ?_)
        obtain ⟨e35, z34, rfl, f29, f30, f31, f32, ef33⟩ := p27
        rw [e35]
        replace hF := kf_le ef33 hF
        have r_z34 := kw_rng z34
        show kw_AW l 4 kw_E0 KX mX7_planRefusal (p_X7_planRefusal_0 σ a) 54 [(0, .ref 0), (1, .int a)] [.int z34] σ
        refine kw_bipush (pc := 54) (i := 27) (v := 6) rfl rfl ?_
        refine kw_icmp_le (pc := 56) (i := 28) (tgt := 68) rfl rfl (fun c36 => ?_) (fun c36 => ?_)
        · replace hF := kf_nl c36 hF
          refine kw_iconst (pc := 68) (i := 34) (v := 0) rfl rfl ?_
          refine kw_istore_n (pc := 69) (i := 35) (n := 2) (lv' := [(2, .int 0), (0, .ref 0), (1, .int a)]) rfl rfl (by decide) rfl ?_
          have L38 : ∀ (n42 : Nat) (x37 : Int32), 0 ≤ x37.toInt → l_X7_planRefusal_0_70 a σ n42 x37 = (f_X7_planRefusal_0 σ a) → (41 - x37.toInt).toNat < n42 → kw_AW l 4 kw_E0 KX mX7_planRefusal (p_X7_planRefusal_0 σ a) 70 [(2, .int x37), (0, .ref 0), (1, .int a)] [] σ := by
            intro n42
            induction n42 with
            | zero => intro x37 v40 hF m41; exact absurd m41 (Nat.not_lt_zero _)
            | succ n42 ih39 =>
              intro x37 v40 hF m41
              replace hF := kf_st (l_X7_planRefusal_0_70_s _ _ _ _) hF
              have r_x37 := kw_rng x37
              refine kw_iload_n (pc := 70) (i := 36) (k := 0) (n := 2) rfl rfl rfl ?_
              refine kw_aload_n (pc := 71) (i := 37) (k := 1) (n := 0) rfl rfl rfl ?_
              refine kw_get (pc := 72) (i := 38) (v := .ref 1) rfl rfl rfl lkX7_14 (fun _ => rfl) ?_
              refine kw_iload_n (pc := 75) (i := 39) (k := 2) (n := 1) rfl rfl rfl ?_
              refine kw_callV (pc := 76) (i := 40) (Y := mX3_sizeOf) (a := 1) (As := [.int a]) (st := [.int x37]) kw_hE rfl rfl lvX7_110 arX3_sizeOf (c_X3_sizeOf_1 l σ hI a ) (by decide) (Nat.le_of_ble_eq_true rfl) rfl (fun v S44 p43 => ?_)
              obtain ⟨e51, z50, rfl, f45, f46, f47, f48, ef49⟩ := p43
              rw [e51]
              replace hF := kf_le ef49 hF
              have r_z50 := kw_rng z50
              show kw_AW l 4 kw_E0 KX mX7_planRefusal (p_X7_planRefusal_0 σ a) 79 [(2, .int x37), (0, .ref 0), (1, .int a)] [.int z50, .int x37] σ
              refine kw_icmp_ge (pc := 79) (i := 41) (tgt := 119) rfl rfl (fun c52 => ?_) (fun c52 => ?_)
              · replace hF := kf_nl c52 hF
                refine kw_iconst (pc := 119) (i := 59) (v := 0) rfl rfl ?_
                exact kw_ireturn (pc := 120) (i := 60) (ty := .int) rfl rfl rfl ⟨⟨hI, hF0⟩, _, rfl, by omega, hF⟩
              · replace hF := kf_p c52 hF
                refine kw_aload_n (pc := 82) (i := 42) (k := 1) (n := 0) rfl rfl rfl ?_
                refine kw_get (pc := 83) (i := 43) (v := .ref 4) rfl rfl rfl lkX7_31 (fun _ => rfl) ?_
                refine kw_get (pc := 86) (i := 44) (v := .ref 17) rfl rfl rfl lkX7_117 (fun _ => rfl) ?_
                refine kw_aload_n (pc := 89) (i := 45) (k := 1) (n := 0) rfl rfl rfl ?_
                refine kw_get (pc := 90) (i := 46) (v := .ref 1) rfl rfl rfl lkX7_14 (fun _ => rfl) ?_
                refine kw_iload_n (pc := 93) (i := 47) (k := 2) (n := 1) rfl rfl rfl ?_
                refine kw_iload_n (pc := 94) (i := 48) (k := 0) (n := 2) rfl rfl rfl ?_
                refine kw_callV (pc := 95) (i := 49) (Y := mX3_valueAt) (a := 1) (As := [.int a, .int x37]) (st := [.ref 17]) kw_hE rfl rfl lvX7_85 arX3_valueAt (c_X3_valueAt_1 l σ hI a x37 ) (by decide) (Nat.le_of_ble_eq_true rfl) rfl (fun v S54 p53 => ?_)
                obtain ⟨e57, z56, rfl, ef55⟩ := p53
                rw [e57]
                replace hF := kf_le ef55 hF
                have r_z56 := kw_rng z56
                show kw_AW l 4 kw_E0 KX mX7_planRefusal (p_X7_planRefusal_0 σ a) 98 [(2, .int x37), (0, .ref 0), (1, .int a)] [.int z56, .ref 17] σ
                refine kw_callV (pc := 98) (i := 50) (Y := mX1_hasSet) (a := 17) (As := [.int z56]) (st := []) kw_hE rfl rfl lvX7_216 arX1_hasSet (c_X1_hasSet_17 l σ hI z56 ) (by decide) (Nat.le_of_ble_eq_true rfl) rfl (fun v S59 p58 => ?_)
                obtain ⟨e63, z62, rfl, f60, ef61⟩ := p58
                rw [e63]
                replace hF := kf_le ef61 hF
                have r_z62 := kw_rng z62
                show kw_AW l 4 kw_E0 KX mX7_planRefusal (p_X7_planRefusal_0 σ a) 101 [(2, .int x37), (0, .ref 0), (1, .int a)] [.int z62] σ
                refine kw_if_ne (pc := 101) (i := 51) (tgt := 113) rfl rfl (fun c64 => ?_) (fun c64 => ?_)
                · replace hF := kf_n c64 hF
                  refine kw_iinc' (pc := 113) (i := 57) (k := 0) (fun z => [(2, .int z), (0, .ref 0), (1, .int a)]) rfl rfl (by decide) rfl (fun _ => rfl) (fun z65 e_z65 t_z65 => ?_)
                  replace hF := kf_le e_z65 hF
                  refine kw_goto (pc := 116) (i := 58) (tgt := 70) rfl rfl ?_
                  refine kw_sub (lv' := [(2, .int z65), (0, .ref 0), (1, .int a)]) [0, 1, 2] rfl ?_
                  exact ih39 z65 (by omega) hF (by omega)
                · replace hF := kf_p c64 hF
                  refine kw_aload_n (pc := 104) (i := 52) (k := 1) (n := 0) rfl rfl rfl ?_
                  refine kw_get (pc := 105) (i := 53) (v := .ref 8) rfl rfl rfl lkX7_55 (fun _ => rfl) ?_
                  refine kw_iconst (pc := 108) (i := 54) (v := 3) rfl rfl ?_
                  refine kw_callV (pc := 109) (i := 55) (Y := mX4_refuse) (a := 8) (As := [.int 3]) (st := []) kw_hE rfl rfl lvX7_81 arX4_refuse (c_X4_refuse_8 l σ hI 3 ) (by decide) (Nat.le_of_ble_eq_true rfl) rfl (fun v S67 p66 => ?_)
                  obtain ⟨⟨I71, F72⟩, z70, rfl, f68, ef69⟩ := p66
                  have F73 : kw_F [8, 28] σ S67 := kw_F.tr hF0 F72 (by decide)
                  replace hF := kf_be ef69 hF
                  have r_z70 := kw_rng z70
                  show kw_AW l 4 kw_E0 KX mX7_planRefusal (p_X7_planRefusal_0 σ a) 112 [(2, .int x37), (0, .ref 0), (1, .int a)] [.int z70] S67
                  exact kw_ireturn (pc := 112) (i := 56) (ty := .int) rfl rfl rfl ⟨⟨I71, F73⟩, _, rfl, by omega, hF⟩
          exact L38 _ 0 (by omega) hF (Nat.lt_succ_self _)
        · replace hF := kf_p c36 hF
          refine kw_aload_n (pc := 59) (i := 29) (k := 0) (n := 0) rfl rfl rfl ?_
          refine kw_get (pc := 60) (i := 30) (v := .ref 8) rfl rfl rfl lkX7_55 (fun _ => rfl) ?_
          refine kw_iconst (pc := 63) (i := 31) (v := 5) rfl rfl ?_
          refine kw_callV (pc := 64) (i := 32) (Y := mX4_refuse) (a := 8) (As := [.int 5]) (st := []) kw_hE rfl rfl lvX7_81 arX4_refuse (c_X4_refuse_8 l σ hI 5 ) (by decide) (Nat.le_of_ble_eq_true rfl) rfl (fun v S75 p74 => ?_)
          obtain ⟨⟨I79, F80⟩, z78, rfl, f76, ef77⟩ := p74
          have F81 : kw_F [8, 28] σ S75 := kw_F.tr hF0 F80 (by decide)
          replace hF := kf_be ef77 hF
          have r_z78 := kw_rng z78
          show kw_AW l 4 kw_E0 KX mX7_planRefusal (p_X7_planRefusal_0 σ a) 67 [(0, .ref 0), (1, .int a)] [.int z78] S75
          exact kw_ireturn (pc := 67) (i := 33) (ty := .int) rfl rfl rfl ⟨⟨I79, F81⟩, _, rfl, by omega, hF⟩
      · replace hF := kf_n c26 hF
        refine kw_aload_n (pc := 37) (i := 18) (k := 0) (n := 0) rfl rfl rfl ?_
        refine kw_get (pc := 38) (i := 19) (v := .ref 8) rfl rfl rfl lkX7_55 (fun _ => rfl) ?_
        refine kw_iconst (pc := 41) (i := 20) (v := 1) rfl rfl ?_
        refine kw_callV (pc := 42) (i := 21) (Y := mX4_refuse) (a := 8) (As := [.int 1]) (st := []) kw_hE rfl rfl lvX7_81 arX4_refuse (c_X4_refuse_8 l σ hI 1 ) (by decide) (Nat.le_of_ble_eq_true rfl) rfl (fun v S83 p82 => ?_)
        obtain ⟨⟨I87, F88⟩, z86, rfl, f84, ef85⟩ := p82
        have F89 : kw_F [8, 28] σ S83 := kw_F.tr hF0 F88 (by decide)
        replace hF := kf_be ef85 hF
        have r_z86 := kw_rng z86
        show kw_AW l 4 kw_E0 KX mX7_planRefusal (p_X7_planRefusal_0 σ a) 45 [(0, .ref 0), (1, .int a)] [.int z86] S83
        exact kw_ireturn (pc := 45) (i := 22) (ty := .int) rfl rfl rfl ⟨⟨I87, F89⟩, _, rfl, by omega, hF⟩
    · replace hF := kf_n c18 hF
      refine kw_bipush (pc := 23) (i := 11) (v := (-4)) rfl rfl ?_
      exact kw_ireturn (pc := 25) (i := 12) (ty := .int) rfl rfl rfl ⟨⟨hI, hF0⟩, _, rfl, by omega, hF⟩
  · replace hF := kf_p c9 hF
    refine kw_iconst (pc := 11) (i := 5) (v := (-1)) rfl rfl ?_
    exact kw_ireturn (pc := 12) (i := 6) (ty := .int) rfl rfl rfl ⟨⟨hI, hF0⟩, _, rfl, by omega, hF⟩
noncomputable def l_X7_pairsRefusal_0_80 (a1 : Int32) (a2 : Int32) (a3 : Int32) (S : kw_S) : Nat → Int32 → Int32 × kw_S
  | 0, _ => (0, S)
  | n + 1, x4 => if x4.toInt < a3.toInt then (kf_l (f_X3_valueAt_1 S a2 x4) fun z8 => if z8.toInt < 0 then (kf_b (f_X4_refuse_8 S (3 : Int32)) fun z9 S10 => (z9, S10)) else (if (6 : Int32).toInt < z8.toInt then (kf_b (f_X4_refuse_8 S (3 : Int32)) fun z12 S13 => (z12, S13)) else (kf_l (x4 + Int32.ofInt 2) fun z11 => l_X7_pairsRefusal_0_80 a1 a2 a3 S n z11))) else (((0 : Int32), S))
theorem l_X7_pairsRefusal_0_80_s (a1 : Int32) (a2 : Int32) (a3 : Int32) (S : kw_S) (n : Nat) (x4 : Int32) : l_X7_pairsRefusal_0_80 a1 a2 a3 S (n + 1) x4 = if x4.toInt < a3.toInt then (kf_l (f_X3_valueAt_1 S a2 x4) fun z8 => if z8.toInt < 0 then (kf_b (f_X4_refuse_8 S (3 : Int32)) fun z9 S10 => (z9, S10)) else (if (6 : Int32).toInt < z8.toInt then (kf_b (f_X4_refuse_8 S (3 : Int32)) fun z12 S13 => (z12, S13)) else (kf_l (x4 + Int32.ofInt 2) fun z11 => l_X7_pairsRefusal_0_80 a1 a2 a3 S n z11))) else (((0 : Int32), S)) := rfl
noncomputable def f_X7_pairsRefusal_0 (σ : kw_S) (i : Int32) (a : Int32) : Int32 × kw_S := kf_l (f_X1_hasLine_17 σ i) fun z1 => if z1.toInt = 0 then ((((-1) : Int32), σ)) else (kf_l (f_X3_has_1 σ a) fun z2 => if z2.toInt = 0 then ((((-1) : Int32), σ)) else (kf_l (f_X3_isMissing_1 σ a) fun z3 => if z3.toInt = 0 then (kf_l (f_X3_sizeOf_1 σ a) fun z4 => kf_l (z4 - z4 / (2 : Int32) * (2 : Int32)) fun z5 => if z5.toInt = 0 then (if (20 : Int32).toInt < z4.toInt then (kf_b (f_X4_refuse_8 σ (5 : Int32)) fun z14 S15 => (z14, S15)) else (l_X7_pairsRefusal_0_80 i a z4 σ ((z4.toInt - (0 : Int32).toInt).toNat + 1) (0 : Int32))) else (kf_b (f_X4_refuse_8 σ (5 : Int32)) fun z6 S7 => (z6, S7))) else (kf_b (f_X4_refuse_8 σ (1 : Int32)) fun z16 S17 => (z16, S17))))
theorem f_X7_pairsRefusal_0_u (σ : kw_S) (i : Int32) (a : Int32) : f_X7_pairsRefusal_0 σ i a = kf_l (f_X1_hasLine_17 σ i) fun z1 => if z1.toInt = 0 then ((((-1) : Int32), σ)) else (kf_l (f_X3_has_1 σ a) fun z2 => if z2.toInt = 0 then ((((-1) : Int32), σ)) else (kf_l (f_X3_isMissing_1 σ a) fun z3 => if z3.toInt = 0 then (kf_l (f_X3_sizeOf_1 σ a) fun z4 => kf_l (z4 - z4 / (2 : Int32) * (2 : Int32)) fun z5 => if z5.toInt = 0 then (if (20 : Int32).toInt < z4.toInt then (kf_b (f_X4_refuse_8 σ (5 : Int32)) fun z14 S15 => (z14, S15)) else (l_X7_pairsRefusal_0_80 i a z4 σ ((z4.toInt - (0 : Int32).toInt).toNat + 1) (0 : Int32))) else (kf_b (f_X4_refuse_8 σ (5 : Int32)) fun z6 S7 => (z6, S7))) else (kf_b (f_X4_refuse_8 σ (1 : Int32)) fun z16 S17 => (z16, S17)))) := rfl
abbrev p_X7_pairsRefusal_0 (σ : kw_S) (i : Int32) (a : Int32) : Option Value → kw_S → Prop := fun vv σ' => (kw_I bX σ' ∧ kw_F [8, 28] σ σ') ∧ ∃ r : Int32, vv = some (.int r) ∧ (r.toInt ≠ 0 ∨ 0 ≤ i.toInt ∧ i.toInt < 6) ∧ (r, σ') = f_X7_pairsRefusal_0 σ i a
set_option maxRecDepth 100000 in
set_option maxHeartbeats 4000000 in
theorem c_X7_pairsRefusal_0 (l : Launch) (σ : kw_S) (hI : kw_I bX σ) (i : Int32) (a : Int32) : kw_Met l 4 KX mX7_pairsRefusal [.ref 0, .int i, .int a] σ (p_X7_pairsRefusal_0 σ i a) := by
  have r_i := kw_rng i
  have r_a := kw_rng a
  have hF0 : kw_F [8, 28] σ σ := kw_F.rf
  have hF := (f_X7_pairsRefusal_0_u σ i a).symm
  have q_m1 : (-1 : Int32).toInt = -1 := rfl
  have q_0 : (0 : Int32).toInt = 0 := rfl
  have q_1 : (1 : Int32).toInt = 1 := rfl
  have q_2 : (2 : Int32).toInt = 2 := rfl
  have q_3 : (3 : Int32).toInt = 3 := rfl
  have q_5 : (5 : Int32).toInt = 5 := rfl
  have q_6 : (6 : Int32).toInt = 6 := rfl
  have q_20 : (20 : Int32).toInt = 20 := rfl
  refine kw_Met.of (by decide) rfl tX7_pairsRefusal (Nat.le_of_ble_eq_true rfl) ?_
  show kw_AW l 4 kw_E0 KX mX7_pairsRefusal (p_X7_pairsRefusal_0 σ i a) 0 [(0, .ref 0), (1, .int i), (2, .int a)] [] σ
  refine kw_aload_n (pc := 0) (i := 0) (k := 0) (n := 0) rfl rfl rfl ?_
  refine kw_get (pc := 1) (i := 1) (v := .ref 4) rfl rfl rfl lkX7_31 (fun _ => rfl) ?_
  refine kw_get (pc := 4) (i := 2) (v := .ref 17) rfl rfl rfl lkX7_117 (fun _ => rfl) ?_
  refine kw_iload_n (pc := 7) (i := 3) (k := 1) (n := 1) rfl rfl rfl ?_
  refine kw_callV (pc := 8) (i := 4) (Y := mX1_hasLine) (a := 17) (As := [.int i]) (st := []) kw_hE rfl rfl lvX7_137 arX1_hasLine (c_X1_hasLine_17 l σ hI i ) (by decide) (Nat.le_of_ble_eq_true rfl) rfl (fun v S2 p1 => ?_)
  obtain ⟨e7, z6, rfl, f3, f4, ef5⟩ := p1
  rw [e7]
  replace hF := kf_le ef5 hF
  have r_z6 := kw_rng z6
  show kw_AW l 4 kw_E0 KX mX7_pairsRefusal (p_X7_pairsRefusal_0 σ i a) 11 [(0, .ref 0), (1, .int i), (2, .int a)] [.int z6] σ
  refine kw_if_eq (pc := 11) (i := 5) (tgt := 25) rfl rfl (fun c8 => ?_) (fun c8 => ?_)
  · replace hF := kf_p c8 hF
    refine kw_iconst (pc := 25) (i := 11) (v := (-1)) rfl rfl ?_
    exact kw_ireturn (pc := 26) (i := 12) (ty := .int) rfl rfl rfl ⟨⟨hI, hF0⟩, _, rfl, by omega, hF⟩
  · replace hF := kf_n c8 hF
    refine kw_aload_n (pc := 14) (i := 6) (k := 0) (n := 0) rfl rfl rfl ?_
    refine kw_get (pc := 15) (i := 7) (v := .ref 1) rfl rfl rfl lkX7_14 (fun _ => rfl) ?_
    refine kw_iload_n (pc := 18) (i := 8) (k := 2) (n := 2) rfl rfl rfl ?_
    refine kw_callV (pc := 19) (i := 9) (Y := mX3_has) (a := 1) (As := [.int a]) (st := []) kw_hE rfl rfl lvX7_73 arX3_has (c_X3_has_1 l σ hI a ) (by decide) (Nat.le_of_ble_eq_true rfl) rfl (fun v S10 p9 => ?_)
    obtain ⟨e16, z15, rfl, f11, f12, f13, ef14⟩ := p9
    rw [e16]
    replace hF := kf_le ef14 hF
    have r_z15 := kw_rng z15
    show kw_AW l 4 kw_E0 KX mX7_pairsRefusal (p_X7_pairsRefusal_0 σ i a) 22 [(0, .ref 0), (1, .int i), (2, .int a)] [.int z15] σ
    refine kw_if_ne (pc := 22) (i := 10) (tgt := 27) rfl rfl (fun c17 => ?_) (fun c17 => ?_)
    · replace hF := kf_n c17 hF
      refine kw_aload_n (pc := 27) (i := 13) (k := 0) (n := 0) rfl rfl rfl ?_
      refine kw_get (pc := 28) (i := 14) (v := .ref 1) rfl rfl rfl lkX7_14 (fun _ => rfl) ?_
      refine kw_iload_n (pc := 31) (i := 15) (k := 2) (n := 2) rfl rfl rfl ?_
      refine kw_callV (pc := 32) (i := 16) (Y := mX3_isMissing) (a := 1) (As := [.int a]) (st := []) kw_hE rfl rfl lvX7_95 arX3_isMissing (c_X3_isMissing_1 l σ hI a ) (by decide) (Nat.le_of_ble_eq_true rfl) rfl (fun v S19 p18 => ?_)
      obtain ⟨e24, z23, rfl, f20, f21, ef22⟩ := p18
      rw [e24]
      replace hF := kf_le ef22 hF
      have r_z23 := kw_rng z23
      show kw_AW l 4 kw_E0 KX mX7_pairsRefusal (p_X7_pairsRefusal_0 σ i a) 35 [(0, .ref 0), (1, .int i), (2, .int a)] [.int z23] σ
      refine kw_if_eq (pc := 35) (i := 17) (tgt := 47) rfl rfl (fun c25 => ?_) (fun c25 => ?_)
      · replace hF := kf_p c25 hF
        refine kw_aload_n (pc := 47) (i := 23) (k := 0) (n := 0) rfl rfl rfl ?_
        refine kw_get (pc := 48) (i := 24) (v := .ref 1) rfl rfl rfl lkX7_14 (fun _ => rfl) ?_
        refine kw_iload_n (pc := 51) (i := 25) (k := 2) (n := 2) rfl rfl rfl ?_
        refine kw_callV (pc := 52) (i := 26) (Y := mX3_sizeOf) (a := 1) (As := [.int a]) (st := []) kw_hE rfl rfl lvX7_110 arX3_sizeOf (c_X3_sizeOf_1 l σ hI a ) (by decide) (Nat.le_of_ble_eq_true rfl) rfl (fun v S27 p26 => ?_)
        obtain ⟨e34, z33, rfl, f28, f29, f30, f31, ef32⟩ := p26
        rw [e34]
        replace hF := kf_le ef32 hF
        have r_z33 := kw_rng z33
        show kw_AW l 4 kw_E0 KX mX7_pairsRefusal (p_X7_pairsRefusal_0 σ i a) 55 [(0, .ref 0), (1, .int i), (2, .int a)] [.int z33] σ
        refine kw_istore_n (pc := 55) (i := 27) (n := 3) (lv' := [(3, .int z33), (0, .ref 0), (1, .int i), (2, .int a)]) rfl rfl (by decide) rfl ?_
        refine kw_iload_n (pc := 56) (i := 28) (k := 0) (n := 3) rfl rfl rfl ?_
        refine kw_iconst (pc := 57) (i := 29) (v := 2) rfl rfl ?_
        refine kw_irem (pc := 58) (i := 30) rfl (by omega) (fun z35 e_z35 => ?_)
        have r_z35 := kw_rng z35
        replace hF := kf_le e_z35 hF
        have t_z35 := kw_remI z33 2 z35 e_z35
        refine kw_if_ne (pc := 59) (i := 31) (tgt := 68) rfl rfl (fun c36 => ?_) (fun c36 => ?_)
        · replace hF := kf_n c36 hF
          refine kw_aload_n (pc := 68) (i := 35) (k := 1) (n := 0) rfl rfl rfl ?_
          refine kw_get (pc := 69) (i := 36) (v := .ref 8) rfl rfl rfl lkX7_55 (fun _ => rfl) ?_
          refine kw_iconst (pc := 72) (i := 37) (v := 5) rfl rfl ?_
          refine kw_callV (pc := 73) (i := 38) (Y := mX4_refuse) (a := 8) (As := [.int 5]) (st := []) kw_hE rfl rfl lvX7_81 arX4_refuse (c_X4_refuse_8 l σ hI 5 ) (by decide) (Nat.le_of_ble_eq_true rfl) rfl (fun v S38 p37 => ?_)
          obtain ⟨⟨I42, F43⟩, z41, rfl, f39, ef40⟩ := p37
          have F44 : kw_F [8, 28] σ S38 := kw_F.tr hF0 F43 (by decide)
          replace hF := kf_be ef40 hF
          have r_z41 := kw_rng z41
          show kw_AW l 4 kw_E0 KX mX7_pairsRefusal (p_X7_pairsRefusal_0 σ i a) 76 [(3, .int z33), (0, .ref 0), (1, .int i), (2, .int a)] [.int z41] S38
          exact kw_ireturn (pc := 76) (i := 39) (ty := .int) rfl rfl rfl ⟨⟨I42, F44⟩, _, rfl, by omega, hF⟩
        · replace hF := kf_p c36 hF
          refine kw_iload_n (pc := 62) (i := 32) (k := 0) (n := 3) rfl rfl rfl ?_
          refine kw_bipush (pc := 63) (i := 33) (v := 20) rfl rfl ?_
          refine kw_icmp_le (pc := 65) (i := 34) (tgt := 77) rfl rfl (fun c45 => ?_) (fun c45 => ?_)
          · replace hF := kf_nl c45 hF
            refine kw_iconst (pc := 77) (i := 40) (v := 0) rfl rfl ?_
            refine kw_istore (pc := 78) (i := 41) (n := 4) (lv' := [(4, .int 0), (3, .int z33), (0, .ref 0), (1, .int i), (2, .int a)]) rfl (by decide) rfl ?_
            have L47 : ∀ (n51 : Nat) (x46 : Int32), 0 ≤ x46.toInt → l_X7_pairsRefusal_0_80 i a z33 σ n51 x46 = (f_X7_pairsRefusal_0 σ i a) → (z33.toInt - x46.toInt).toNat < n51 → kw_AW l 4 kw_E0 KX mX7_pairsRefusal (p_X7_pairsRefusal_0 σ i a) 80 [(4, .int x46), (3, .int z33), (0, .ref 0), (1, .int i), (2, .int a)] [] σ := by
              intro n51
              induction n51 with
              | zero => intro x46 v49 hF m50; exact absurd m50 (Nat.not_lt_zero _)
              | succ n51 ih48 =>
                intro x46 v49 hF m50
                replace hF := kf_st (l_X7_pairsRefusal_0_80_s _ _ _ _ _ _) hF
                have r_x46 := kw_rng x46
                refine kw_iload (pc := 80) (i := 42) (k := 0) (n := 4) rfl rfl ?_
                refine kw_iload_n (pc := 82) (i := 43) (k := 1) (n := 3) rfl rfl rfl ?_
                refine kw_icmp_ge (pc := 83) (i := 44) (tgt := 125) rfl rfl (fun c52 => ?_) (fun c52 => ?_)
                · replace hF := kf_nl c52 hF
                  refine kw_iconst (pc := 125) (i := 63) (v := 0) rfl rfl ?_
                  exact kw_ireturn (pc := 126) (i := 64) (ty := .int) rfl rfl rfl ⟨⟨hI, hF0⟩, _, rfl, by omega, hF⟩
                · replace hF := kf_p c52 hF
                  refine kw_aload_n (pc := 86) (i := 45) (k := 2) (n := 0) rfl rfl rfl ?_
                  refine kw_get (pc := 87) (i := 46) (v := .ref 1) rfl rfl rfl lkX7_14 (fun _ => rfl) ?_
                  refine kw_iload_n (pc := 90) (i := 47) (k := 4) (n := 2) rfl rfl rfl ?_
                  refine kw_iload (pc := 91) (i := 48) (k := 0) (n := 4) rfl rfl ?_
                  refine kw_callV (pc := 93) (i := 49) (Y := mX3_valueAt) (a := 1) (As := [.int a, .int x46]) (st := []) kw_hE rfl rfl lvX7_85 arX3_valueAt (c_X3_valueAt_1 l σ hI a x46 ) (by decide) (Nat.le_of_ble_eq_true rfl) rfl (fun v S54 p53 => ?_)
                  obtain ⟨e57, z56, rfl, ef55⟩ := p53
                  rw [e57]
                  replace hF := kf_le ef55 hF
                  have r_z56 := kw_rng z56
                  show kw_AW l 4 kw_E0 KX mX7_pairsRefusal (p_X7_pairsRefusal_0 σ i a) 96 [(4, .int x46), (3, .int z33), (0, .ref 0), (1, .int i), (2, .int a)] [.int z56] σ
                  refine kw_istore (pc := 96) (i := 50) (n := 5) (lv' := [(5, .int z56), (4, .int x46), (3, .int z33), (0, .ref 0), (1, .int i), (2, .int a)]) rfl (by decide) rfl ?_
                  refine kw_iload (pc := 98) (i := 51) (k := 0) (n := 5) rfl rfl ?_
                  refine kw_if_lt (pc := 100) (i := 52) (tgt := 110) rfl rfl (fun c58 => ?_) (fun c58 => ?_)
                  · replace hF := kf_p c58 hF
                    refine kw_aload_n (pc := 110) (i := 56) (k := 3) (n := 0) rfl rfl rfl ?_
                    refine kw_get (pc := 111) (i := 57) (v := .ref 8) rfl rfl rfl lkX7_55 (fun _ => rfl) ?_
                    refine kw_iconst (pc := 114) (i := 58) (v := 3) rfl rfl ?_
                    refine kw_callV (pc := 115) (i := 59) (Y := mX4_refuse) (a := 8) (As := [.int 3]) (st := []) kw_hE rfl rfl lvX7_81 arX4_refuse (c_X4_refuse_8 l σ hI 3 ) (by decide) (Nat.le_of_ble_eq_true rfl) rfl (fun v S60 p59 => ?_)
                    obtain ⟨⟨I64, F65⟩, z63, rfl, f61, ef62⟩ := p59
                    have F66 : kw_F [8, 28] σ S60 := kw_F.tr hF0 F65 (by decide)
                    replace hF := kf_be ef62 hF
                    have r_z63 := kw_rng z63
                    show kw_AW l 4 kw_E0 KX mX7_pairsRefusal (p_X7_pairsRefusal_0 σ i a) 118 [(5, .int z56), (4, .int x46), (3, .int z33), (0, .ref 0), (1, .int i), (2, .int a)] [.int z63] S60
                    exact kw_ireturn (pc := 118) (i := 60) (ty := .int) rfl rfl rfl ⟨⟨I64, F66⟩, _, rfl, by omega, hF⟩
                  · replace hF := kf_nl c58 hF
                    refine kw_iload (pc := 103) (i := 53) (k := 0) (n := 5) rfl rfl ?_
                    refine kw_bipush (pc := 105) (i := 54) (v := 6) rfl rfl ?_
                    refine kw_icmp_le (pc := 107) (i := 55) (tgt := 119) rfl rfl (fun c67 => ?_) (fun c67 => ?_)
                    · replace hF := kf_nl c67 hF
                      refine kw_iinc' (pc := 119) (i := 61) (k := 1) (fun z => [(4, .int z), (5, .int z56), (3, .int z33), (0, .ref 0), (1, .int i), (2, .int a)]) rfl rfl (by decide) rfl (fun _ => rfl) (fun z68 e_z68 t_z68 => ?_)
                      replace hF := kf_le e_z68 hF
                      refine kw_goto (pc := 122) (i := 62) (tgt := 80) rfl rfl ?_
                      refine kw_sub (lv' := [(4, .int z68), (3, .int z33), (0, .ref 0), (1, .int i), (2, .int a)]) [0, 2, 3, 4, 5] rfl ?_
                      exact ih48 z68 (by omega) hF (by omega)
                    · replace hF := kf_p c67 hF
                      refine kw_aload_n (pc := 110) (i := 56) (k := 3) (n := 0) rfl rfl rfl ?_
                      refine kw_get (pc := 111) (i := 57) (v := .ref 8) rfl rfl rfl lkX7_55 (fun _ => rfl) ?_
                      refine kw_iconst (pc := 114) (i := 58) (v := 3) rfl rfl ?_
                      refine kw_callV (pc := 115) (i := 59) (Y := mX4_refuse) (a := 8) (As := [.int 3]) (st := []) kw_hE rfl rfl lvX7_81 arX4_refuse (c_X4_refuse_8 l σ hI 3 ) (by decide) (Nat.le_of_ble_eq_true rfl) rfl (fun v S70 p69 => ?_)
                      obtain ⟨⟨I74, F75⟩, z73, rfl, f71, ef72⟩ := p69
                      have F76 : kw_F [8, 28] σ S70 := kw_F.tr hF0 F75 (by decide)
                      replace hF := kf_be ef72 hF
                      have r_z73 := kw_rng z73
                      show kw_AW l 4 kw_E0 KX mX7_pairsRefusal (p_X7_pairsRefusal_0 σ i a) 118 [(5, .int z56), (4, .int x46), (3, .int z33), (0, .ref 0), (1, .int i), (2, .int a)] [.int z73] S70
                      exact kw_ireturn (pc := 118) (i := 60) (ty := .int) rfl rfl rfl ⟨⟨I74, F76⟩, _, rfl, by omega, hF⟩
            exact L47 _ 0 (by omega) hF (Nat.lt_succ_self _)
          · replace hF := kf_p c45 hF
            refine kw_aload_n (pc := 68) (i := 35) (k := 1) (n := 0) rfl rfl rfl ?_
            refine kw_get (pc := 69) (i := 36) (v := .ref 8) rfl rfl rfl lkX7_55 (fun _ => rfl) ?_
            refine kw_iconst (pc := 72) (i := 37) (v := 5) rfl rfl ?_
            refine kw_callV (pc := 73) (i := 38) (Y := mX4_refuse) (a := 8) (As := [.int 5]) (st := []) kw_hE rfl rfl lvX7_81 arX4_refuse (c_X4_refuse_8 l σ hI 5 ) (by decide) (Nat.le_of_ble_eq_true rfl) rfl (fun v S78 p77 => ?_)
            obtain ⟨⟨I82, F83⟩, z81, rfl, f79, ef80⟩ := p77
            have F84 : kw_F [8, 28] σ S78 := kw_F.tr hF0 F83 (by decide)
            replace hF := kf_be ef80 hF
            have r_z81 := kw_rng z81
            show kw_AW l 4 kw_E0 KX mX7_pairsRefusal (p_X7_pairsRefusal_0 σ i a) 76 [(3, .int z33), (0, .ref 0), (1, .int i), (2, .int a)] [.int z81] S78
            exact kw_ireturn (pc := 76) (i := 39) (ty := .int) rfl rfl rfl ⟨⟨I82, F84⟩, _, rfl, by omega, hF⟩
      · replace hF := kf_n c25 hF
        refine kw_aload_n (pc := 38) (i := 18) (k := 0) (n := 0) rfl rfl rfl ?_
        refine kw_get (pc := 39) (i := 19) (v := .ref 8) rfl rfl rfl lkX7_55 (fun _ => rfl) ?_
        refine kw_iconst (pc := 42) (i := 20) (v := 1) rfl rfl ?_
        refine kw_callV (pc := 43) (i := 21) (Y := mX4_refuse) (a := 8) (As := [.int 1]) (st := []) kw_hE rfl rfl lvX7_81 arX4_refuse (c_X4_refuse_8 l σ hI 1 ) (by decide) (Nat.le_of_ble_eq_true rfl) rfl (fun v S86 p85 => ?_)
        obtain ⟨⟨I90, F91⟩, z89, rfl, f87, ef88⟩ := p85
        have F92 : kw_F [8, 28] σ S86 := kw_F.tr hF0 F91 (by decide)
        replace hF := kf_be ef88 hF
        have r_z89 := kw_rng z89
        show kw_AW l 4 kw_E0 KX mX7_pairsRefusal (p_X7_pairsRefusal_0 σ i a) 46 [(0, .ref 0), (1, .int i), (2, .int a)] [.int z89] S86
        exact kw_ireturn (pc := 46) (i := 22) (ty := .int) rfl rfl rfl ⟨⟨I90, F92⟩, _, rfl, by omega, hF⟩
    · replace hF := kf_p c17 hF
      refine kw_iconst (pc := 25) (i := 11) (v := (-1)) rfl rfl ?_
      exact kw_ireturn (pc := 26) (i := 12) (ty := .int) rfl rfl rfl ⟨⟨hI, hF0⟩, _, rfl, by omega, hF⟩
noncomputable def l_X7_pulledSo_0_3 (a1 : Int32) (a2 : Int32) (a3 : Int32) (S : kw_S) : Nat → Int32 → Int32
  | 0, _ => 0
  | n + 1, x4 => kf_l (x4 + (1 : Int32)) fun z1 => kf_l (f_X3_sizeOf_1 S a1) fun z2 => if z1.toInt < z2.toInt then (kf_l (f_X3_valueAt_1 S a1 x4) fun z3 => kf_l (f_X7_pull S a2 a3 z3) fun z4 => kf_l (x4 + (1 : Int32)) fun z5 => kf_l (f_X3_valueAt_1 S a1 z5) fun z6 => if z4.toInt = z6.toInt then (kf_l (x4 + Int32.ofInt 2) fun z7 => l_X7_pulledSo_0_3 a1 a2 a3 S n z7) else ((0 : Int32))) else ((1 : Int32))
theorem l_X7_pulledSo_0_3_s (a1 : Int32) (a2 : Int32) (a3 : Int32) (S : kw_S) (n : Nat) (x4 : Int32) : l_X7_pulledSo_0_3 a1 a2 a3 S (n + 1) x4 = kf_l (x4 + (1 : Int32)) fun z1 => kf_l (f_X3_sizeOf_1 S a1) fun z2 => if z1.toInt < z2.toInt then (kf_l (f_X3_valueAt_1 S a1 x4) fun z3 => kf_l (f_X7_pull S a2 a3 z3) fun z4 => kf_l (x4 + (1 : Int32)) fun z5 => kf_l (f_X3_valueAt_1 S a1 z5) fun z6 => if z4.toInt = z6.toInt then (kf_l (x4 + Int32.ofInt 2) fun z7 => l_X7_pulledSo_0_3 a1 a2 a3 S n z7) else ((0 : Int32))) else ((1 : Int32)) := rfl
noncomputable def f_X7_pulledSo_0 (σ : kw_S) (a : Int32) (kind : Int32) (area : Int32) : Int32 := l_X7_pulledSo_0_3 a kind area σ ((60 - (0 : Int32).toInt).toNat + 1) (0 : Int32)
theorem f_X7_pulledSo_0_u (σ : kw_S) (a : Int32) (kind : Int32) (area : Int32) : f_X7_pulledSo_0 σ a kind area = l_X7_pulledSo_0_3 a kind area σ ((60 - (0 : Int32).toInt).toNat + 1) (0 : Int32) := rfl
abbrev p_X7_pulledSo_0 (σ : kw_S) (a : Int32) (kind : Int32) (area : Int32) : Option Value → kw_S → Prop := fun vv σ' => σ' = σ ∧ ∃ r : Int32, vv = some (.int r) ∧ (r.toInt = 0 ∨ r.toInt = 1) ∧ r = f_X7_pulledSo_0 σ a kind area
set_option maxRecDepth 100000 in
set_option maxHeartbeats 4000000 in
theorem c_X7_pulledSo_0 (l : Launch) (σ : kw_S) (hI : kw_I bX σ) (a : Int32) (kind : Int32) (area : Int32) : kw_Met l 4 KX mX7_pulledSo [.ref 0, .int a, .int kind, .int area] σ (p_X7_pulledSo_0 σ a kind area) := by
  have r_a := kw_rng a
  have r_kind := kw_rng kind
  have r_area := kw_rng area
  have hF := (f_X7_pulledSo_0_u σ a kind area).symm
  have q_0 : (0 : Int32).toInt = 0 := rfl
  have q_1 : (1 : Int32).toInt = 1 := rfl
  refine kw_Met.of (by decide) rfl tX7_pulledSo (Nat.le_of_ble_eq_true rfl) ?_
  show kw_AW l 4 kw_E0 KX mX7_pulledSo (p_X7_pulledSo_0 σ a kind area) 0 [(0, .ref 0), (1, .int a), (2, .int kind), (3, .int area)] [] σ
  refine kw_iconst (pc := 0) (i := 0) (v := 0) rfl rfl ?_
  refine kw_istore (pc := 1) (i := 1) (n := 4) (lv' := [(4, .int 0), (0, .ref 0), (1, .int a), (2, .int kind), (3, .int area)]) rfl (by decide) rfl ?_
  have L2 : ∀ (n7 : Nat) (x1 : Int32), 0 ≤ x1.toInt → x1.toInt ≤ 50 → l_X7_pulledSo_0_3 a kind area σ n7 x1 = (f_X7_pulledSo_0 σ a kind area) → (60 - x1.toInt).toNat < n7 → kw_AW l 4 kw_E0 KX mX7_pulledSo (p_X7_pulledSo_0 σ a kind area) 3 [(4, .int x1), (0, .ref 0), (1, .int a), (2, .int kind), (3, .int area)] [] σ := by
    intro n7
    induction n7 with
    | zero => intro x1 v4 v5 hF m6; exact absurd m6 (Nat.not_lt_zero _)
    | succ n7 ih3 =>
      intro x1 v4 v5 hF m6
      replace hF := kf_st (l_X7_pulledSo_0_3_s _ _ _ _ _ _) hF
      have r_x1 := kw_rng x1
      refine kw_iload (pc := 3) (i := 2) (k := 0) (n := 4) rfl rfl ?_
      refine kw_iconst (pc := 5) (i := 3) (v := 1) rfl rfl ?_
      refine kw_iadd (pc := 6) (i := 4) rfl (fun z8 e_z8 t_z8 => ?_)
      replace hF := kf_le e_z8 hF
      refine kw_aload_n (pc := 7) (i := 5) (k := 1) (n := 0) rfl rfl rfl ?_
      refine kw_get (pc := 8) (i := 6) (v := .ref 1) rfl rfl rfl lkX7_14 (fun _ => rfl) ?_
      refine kw_iload_n (pc := 11) (i := 7) (k := 2) (n := 1) rfl rfl rfl ?_
      refine kw_callV (pc := 12) (i := 8) (Y := mX3_sizeOf) (a := 1) (As := [.int a]) (st := [.int z8]) kw_hE rfl rfl lvX7_110 arX3_sizeOf (c_X3_sizeOf_1 l σ hI a ) (by decide) (Nat.le_of_ble_eq_true rfl) rfl (fun v S10 p9 => ?_)
      obtain ⟨e17, z16, rfl, f11, f12, f13, f14, ef15⟩ := p9
      rw [e17]
      replace hF := kf_le ef15 hF
      have r_z16 := kw_rng z16
      show kw_AW l 4 kw_E0 KX mX7_pulledSo (p_X7_pulledSo_0 σ a kind area) 15 [(4, .int x1), (0, .ref 0), (1, .int a), (2, .int kind), (3, .int area)] [.int z16, .int z8] σ
      refine kw_icmp_ge (pc := 15) (i := 9) (tgt := 56) rfl rfl (fun c18 => ?_) (fun c18 => ?_)
      · replace hF := kf_nl c18 hF
        refine kw_iconst (pc := 56) (i := 30) (v := 1) rfl rfl ?_
        exact kw_ireturn (pc := 57) (i := 31) (ty := .boolean) rfl rfl rfl ⟨rfl, _, rfl, by omega, hF⟩
      · replace hF := kf_p c18 hF
        refine kw_iload_n (pc := 18) (i := 10) (k := 3) (n := 2) rfl rfl rfl ?_
        refine kw_iload_n (pc := 19) (i := 11) (k := 4) (n := 3) rfl rfl rfl ?_
        refine kw_aload_n (pc := 20) (i := 12) (k := 1) (n := 0) rfl rfl rfl ?_
        refine kw_get (pc := 21) (i := 13) (v := .ref 1) rfl rfl rfl lkX7_14 (fun _ => rfl) ?_
        refine kw_iload_n (pc := 24) (i := 14) (k := 2) (n := 1) rfl rfl rfl ?_
        refine kw_iload (pc := 25) (i := 15) (k := 0) (n := 4) rfl rfl ?_
        refine kw_callV (pc := 27) (i := 16) (Y := mX3_valueAt) (a := 1) (As := [.int a, .int x1]) (st := [.int area, .int kind]) kw_hE rfl rfl lvX7_85 arX3_valueAt (c_X3_valueAt_1 l σ hI a x1 ) (by decide) (Nat.le_of_ble_eq_true rfl) rfl (fun v S20 p19 => ?_)
        obtain ⟨e23, z22, rfl, ef21⟩ := p19
        rw [e23]
        replace hF := kf_le ef21 hF
        have r_z22 := kw_rng z22
        show kw_AW l 4 kw_E0 KX mX7_pulledSo (p_X7_pulledSo_0 σ a kind area) 30 [(4, .int x1), (0, .ref 0), (1, .int a), (2, .int kind), (3, .int area)] [.int z22, .int area, .int kind] σ
        refine kw_callS (pc := 30) (i := 17) (Y := mX7_pull) (As := [.int kind, .int area, .int z22]) (st := []) kw_hE rfl lsX7_174 arX7_pull (c_X7_pull l σ hI kind area z22 ) (by decide) (Nat.le_of_ble_eq_true rfl) rfl (fun v S25 p24 => ?_)
        obtain ⟨e28, z27, rfl, ef26⟩ := p24
        rw [e28]
        replace hF := kf_le ef26 hF
        have r_z27 := kw_rng z27
        show kw_AW l 4 kw_E0 KX mX7_pulledSo (p_X7_pulledSo_0 σ a kind area) 33 [(4, .int x1), (0, .ref 0), (1, .int a), (2, .int kind), (3, .int area)] [.int z27] σ
        refine kw_aload_n (pc := 33) (i := 18) (k := 1) (n := 0) rfl rfl rfl ?_
        refine kw_get (pc := 34) (i := 19) (v := .ref 1) rfl rfl rfl lkX7_14 (fun _ => rfl) ?_
        refine kw_iload_n (pc := 37) (i := 20) (k := 2) (n := 1) rfl rfl rfl ?_
        refine kw_iload (pc := 38) (i := 21) (k := 0) (n := 4) rfl rfl ?_
        refine kw_iconst (pc := 40) (i := 22) (v := 1) rfl rfl ?_
        refine kw_iadd (pc := 41) (i := 23) rfl (fun z29 e_z29 t_z29 => ?_)
        replace hF := kf_le e_z29 hF
        refine kw_callV (pc := 42) (i := 24) (Y := mX3_valueAt) (a := 1) (As := [.int a, .int z29]) (st := [.int z27]) kw_hE rfl rfl lvX7_85 arX3_valueAt (c_X3_valueAt_1 l σ hI a z29 ) (by decide) (Nat.le_of_ble_eq_true rfl) rfl (fun v S31 p30 => ?_)
        obtain ⟨e34, z33, rfl, ef32⟩ := p30
        rw [e34]
        replace hF := kf_le ef32 hF
        have r_z33 := kw_rng z33
        show kw_AW l 4 kw_E0 KX mX7_pulledSo (p_X7_pulledSo_0 σ a kind area) 45 [(4, .int x1), (0, .ref 0), (1, .int a), (2, .int kind), (3, .int area)] [.int z33, .int z27] σ
        refine kw_icmp_eq (pc := 45) (i := 25) (tgt := 50) rfl rfl (fun c35 => ?_) (fun c35 => ?_)
        · replace hF := kf_p c35 hF
          refine kw_iinc' (pc := 50) (i := 28) (k := 0) (fun z => [(4, .int z), (0, .ref 0), (1, .int a), (2, .int kind), (3, .int area)]) rfl rfl (by decide) rfl (fun _ => rfl) (fun z36 e_z36 t_z36 => ?_)
          replace hF := kf_le e_z36 hF
          refine kw_goto (pc := 53) (i := 29) (tgt := 3) rfl rfl ?_
          refine kw_sub (lv' := [(4, .int z36), (0, .ref 0), (1, .int a), (2, .int kind), (3, .int area)]) [0, 1, 2, 3, 4] rfl ?_
          exact ih3 z36 (by omega) (by omega) hF (by omega)
        · replace hF := kf_n c35 hF
          refine kw_iconst (pc := 48) (i := 26) (v := 0) rfl rfl ?_
          exact kw_ireturn (pc := 49) (i := 27) (ty := .boolean) rfl rfl rfl ⟨rfl, _, rfl, by omega, hF⟩
  exact L2 _ 0 (by omega) (by omega) hF (Nat.lt_succ_self _)
noncomputable def l_X7_mostMilesBehind_0_11 (a1 : Int32) (a2 : Int32) (S : kw_S) : Nat → Int32 → Int32 → Int32
  | 0, _, _ => 0
  | n + 1, x3, x4 => if x4.toInt < a1.toInt then (kf_l (f_X5_windAhead_4 S x4) fun z1 => kf_l (f_X1_mostMilesOf_17 S a2 z1) fun z2 => kf_l (x3 + z2) fun z3 => kf_l (x4 + Int32.ofInt 1) fun z4 => l_X7_mostMilesBehind_0_11 a1 a2 S n z3 z4) else (x3)
theorem l_X7_mostMilesBehind_0_11_s (a1 : Int32) (a2 : Int32) (S : kw_S) (n : Nat) (x3 : Int32) (x4 : Int32) : l_X7_mostMilesBehind_0_11 a1 a2 S (n + 1) x3 x4 = if x4.toInt < a1.toInt then (kf_l (f_X5_windAhead_4 S x4) fun z1 => kf_l (f_X1_mostMilesOf_17 S a2 z1) fun z2 => kf_l (x3 + z2) fun z3 => kf_l (x4 + Int32.ofInt 1) fun z4 => l_X7_mostMilesBehind_0_11 a1 a2 S n z3 z4) else (x3) := rfl
noncomputable def f_X7_mostMilesBehind_0 (σ : kw_S) (h : Int32) (u : Int32) : Int32 := l_X7_mostMilesBehind_0_11 h u σ ((h.toInt - (0 : Int32).toInt).toNat + 1) (σ.1 4 6) (0 : Int32)
theorem f_X7_mostMilesBehind_0_u (σ : kw_S) (h : Int32) (u : Int32) : f_X7_mostMilesBehind_0 σ h u = l_X7_mostMilesBehind_0_11 h u σ ((h.toInt - (0 : Int32).toInt).toNat + 1) (σ.1 4 6) (0 : Int32) := rfl
abbrev p_X7_mostMilesBehind_0 (σ : kw_S) (h : Int32) (u : Int32) : Option Value → kw_S → Prop := fun vv σ' => σ' = σ ∧ ∃ r : Int32, vv = some (.int r) ∧ r = f_X7_mostMilesBehind_0 σ h u
set_option maxRecDepth 100000 in
set_option maxHeartbeats 4000000 in
theorem c_X7_mostMilesBehind_0 (l : Launch) (σ : kw_S) (hI : kw_I bX σ) (h : Int32) (u : Int32) : kw_Met l 4 KX mX7_mostMilesBehind [.ref 0, .int h, .int u] σ (p_X7_mostMilesBehind_0 σ h u) := by
  have r_h := kw_rng h
  have r_u := kw_rng u
  have hF := (f_X7_mostMilesBehind_0_u σ h u).symm
  have q_0 : (0 : Int32).toInt = 0 := rfl
  refine kw_Met.of (by decide) rfl tX7_mostMilesBehind (Nat.le_of_ble_eq_true rfl) ?_
  show kw_AW l 4 kw_E0 KX mX7_mostMilesBehind (p_X7_mostMilesBehind_0 σ h u) 0 [(0, .ref 0), (1, .int h), (2, .int u)] [] σ
  refine kw_aload_n (pc := 0) (i := 0) (k := 0) (n := 0) rfl rfl rfl ?_
  refine kw_get (pc := 1) (i := 1) (v := .ref 4) rfl rfl rfl lkX7_31 (fun _ => rfl) ?_
  refine kw_get (pc := 4) (i := 2) (v := .int (σ.1 4 6)) rfl rfl rfl lkX7_204 (fun _ => rfl) ?_
  have b1 := kw_rng (σ.1 4 6)
  refine kw_istore_n (pc := 7) (i := 3) (n := 3) (lv' := [(3, .int (σ.1 4 6)), (0, .ref 0), (1, .int h), (2, .int u)]) rfl rfl (by decide) rfl ?_
  refine kw_iconst (pc := 8) (i := 4) (v := 0) rfl rfl ?_
  refine kw_istore (pc := 9) (i := 5) (n := 4) (lv' := [(4, .int 0), (3, .int (σ.1 4 6)), (0, .ref 0), (1, .int h), (2, .int u)]) rfl (by decide) rfl ?_
  have L4 : ∀ (n8 : Nat) (x2 : Int32) (x3 : Int32), 0 ≤ x2.toInt → l_X7_mostMilesBehind_0_11 h u σ n8 x3 x2 = (f_X7_mostMilesBehind_0 σ h u) → (h.toInt - x2.toInt).toNat < n8 → kw_AW l 4 kw_E0 KX mX7_mostMilesBehind (p_X7_mostMilesBehind_0 σ h u) 11 [(4, .int x2), (3, .int x3), (0, .ref 0), (1, .int h), (2, .int u)] [] σ := by
    intro n8
    induction n8 with
    | zero => intro x2 x3 v6 hF m7; exact absurd m7 (Nat.not_lt_zero _)
    | succ n8 ih5 =>
      intro x2 x3 v6 hF m7
      replace hF := kf_st (l_X7_mostMilesBehind_0_11_s _ _ _ _ _ _) hF
      have r_x2 := kw_rng x2
      have r_x3 := kw_rng x3
      refine kw_iload (pc := 11) (i := 6) (k := 0) (n := 4) rfl rfl ?_
      refine kw_iload_n (pc := 13) (i := 7) (k := 3) (n := 1) rfl rfl rfl ?_
      refine kw_icmp_ge (pc := 14) (i := 8) (tgt := 46) rfl rfl (fun c9 => ?_) (fun c9 => ?_)
      · replace hF := kf_nl c9 hF
        refine kw_iload_n (pc := 46) (i := 23) (k := 1) (n := 3) rfl rfl rfl ?_
        exact kw_ireturn (pc := 47) (i := 24) (ty := .int) rfl rfl rfl ⟨rfl, _, rfl, hF⟩
      · replace hF := kf_p c9 hF
        refine kw_iload_n (pc := 17) (i := 9) (k := 1) (n := 3) rfl rfl rfl ?_
        refine kw_aload_n (pc := 18) (i := 10) (k := 2) (n := 0) rfl rfl rfl ?_
        refine kw_get (pc := 19) (i := 11) (v := .ref 4) rfl rfl rfl lkX7_31 (fun _ => rfl) ?_
        refine kw_get (pc := 22) (i := 12) (v := .ref 17) rfl rfl rfl lkX7_117 (fun _ => rfl) ?_
        refine kw_iload_n (pc := 25) (i := 13) (k := 4) (n := 2) rfl rfl rfl ?_
        refine kw_aload_n (pc := 26) (i := 14) (k := 2) (n := 0) rfl rfl rfl ?_
        refine kw_get (pc := 27) (i := 15) (v := .ref 4) rfl rfl rfl lkX7_31 (fun _ => rfl) ?_
        refine kw_iload (pc := 30) (i := 16) (k := 0) (n := 4) rfl rfl ?_
        refine kw_callV (pc := 32) (i := 17) (Y := mX5_windAhead) (a := 4) (As := [.int x2]) (st := [.int u, .ref 17, .int x3]) kw_hE rfl rfl lvX7_253 arX5_windAhead (c_X5_windAhead_4 l σ hI x2 ) (by decide) (Nat.le_of_ble_eq_true rfl) rfl (fun v S11 p10 => ?_)
        obtain ⟨e14, z13, rfl, ef12⟩ := p10
        rw [e14]
        replace hF := kf_le ef12 hF
        have r_z13 := kw_rng z13
        show kw_AW l 4 kw_E0 KX mX7_mostMilesBehind (p_X7_mostMilesBehind_0 σ h u) 35 [(4, .int x2), (3, .int x3), (0, .ref 0), (1, .int h), (2, .int u)] [.int z13, .int u, .ref 17, .int x3] σ
        refine kw_callV (pc := 35) (i := 18) (Y := mX1_mostMilesOf) (a := 17) (As := [.int u, .int z13]) (st := [.int x3]) kw_hE rfl rfl lvX7_276 arX1_mostMilesOf (c_X1_mostMilesOf_17 l σ hI u z13 ) (by decide) (Nat.le_of_ble_eq_true rfl) rfl (fun v S16 p15 => ?_)
        obtain ⟨e19, z18, rfl, ef17⟩ := p15
        rw [e19]
        replace hF := kf_le ef17 hF
        have r_z18 := kw_rng z18
        show kw_AW l 4 kw_E0 KX mX7_mostMilesBehind (p_X7_mostMilesBehind_0 σ h u) 38 [(4, .int x2), (3, .int x3), (0, .ref 0), (1, .int h), (2, .int u)] [.int z18, .int x3] σ
        refine kw_iadd (pc := 38) (i := 19) rfl (fun z20 e_z20 t_z20 => ?_)
        replace hF := kf_le e_z20 hF
        refine kw_istore_n (pc := 39) (i := 20) (n := 3) (lv' := [(3, .int z20), (4, .int x2), (0, .ref 0), (1, .int h), (2, .int u)]) rfl rfl (by decide) rfl ?_
        refine kw_iinc' (pc := 40) (i := 21) (k := 1) (fun z => [(4, .int z), (3, .int z20), (0, .ref 0), (1, .int h), (2, .int u)]) rfl rfl (by decide) rfl (fun _ => rfl) (fun z21 e_z21 t_z21 => ?_)
        replace hF := kf_le e_z21 hF
        refine kw_goto (pc := 43) (i := 22) (tgt := 11) rfl rfl ?_
        refine kw_sub (lv' := [(4, .int z21), (3, .int z20), (0, .ref 0), (1, .int h), (2, .int u)]) [0, 1, 2, 3, 4] rfl ?_
        exact ih5 z21 z20 (by omega) hF (by omega)
  exact L4 _ 0 (σ.1 4 6) (by omega) hF (Nat.lt_succ_self _)
noncomputable def l_X7_foresee_0_2 (a1 : Int32) : Nat → Int32 → kw_S → kw_S
  | 0, _, S => S
  | n + 1, x2, S => kf_l (f_X3_sizeOf_1 S a1) fun z1 => if x2.toInt < z1.toInt then (if x2.toInt < (6 : Int32).toInt then (kf_l (f_X3_valueAt_1 S a1 x2) fun z2 => kf_l (f_X5_windAhead_4 S x2) fun z3 => kf_l (f_X1_milesOf_17 S z2 z3) fun z4 => kf_l (f_X5_windAhead_4 (kw_ui S 10 x2.toNatClampNeg z4) x2) fun z5 => kf_l (z5 + (1 : Int32)) fun z6 => kf_l (f_X1_milesOf_17 (kw_ui S 10 x2.toNatClampNeg z4) z2 z6) fun z7 => kf_l (x2 + Int32.ofInt 1) fun z8 => l_X7_foresee_0_2 a1 n z8 (kw_ui (kw_ui S 10 x2.toNatClampNeg z4) 11 x2.toNatClampNeg z7)) else (S)) else (S)
theorem l_X7_foresee_0_2_s (a1 : Int32) (n : Nat) (x2 : Int32) (S : kw_S) : l_X7_foresee_0_2 a1 (n + 1) x2 S = kf_l (f_X3_sizeOf_1 S a1) fun z1 => if x2.toInt < z1.toInt then (if x2.toInt < (6 : Int32).toInt then (kf_l (f_X3_valueAt_1 S a1 x2) fun z2 => kf_l (f_X5_windAhead_4 S x2) fun z3 => kf_l (f_X1_milesOf_17 S z2 z3) fun z4 => kf_l (f_X5_windAhead_4 (kw_ui S 10 x2.toNatClampNeg z4) x2) fun z5 => kf_l (z5 + (1 : Int32)) fun z6 => kf_l (f_X1_milesOf_17 (kw_ui S 10 x2.toNatClampNeg z4) z2 z6) fun z7 => kf_l (x2 + Int32.ofInt 1) fun z8 => l_X7_foresee_0_2 a1 n z8 (kw_ui (kw_ui S 10 x2.toNatClampNeg z4) 11 x2.toNatClampNeg z7)) else (S)) else (S) := rfl
noncomputable def f_X7_foresee_0 (σ : kw_S) (a : Int32) : kw_S := l_X7_foresee_0_2 a ((7 - (0 : Int32).toInt).toNat + 1) (0 : Int32) σ
theorem f_X7_foresee_0_u (σ : kw_S) (a : Int32) : f_X7_foresee_0 σ a = l_X7_foresee_0_2 a ((7 - (0 : Int32).toInt).toNat + 1) (0 : Int32) σ := rfl
abbrev p_X7_foresee_0 (σ : kw_S) (a : Int32) : Option Value → kw_S → Prop := fun vv σ' => (kw_I bX σ' ∧ kw_F [10, 11] σ σ') ∧ vv = none ∧ σ' = f_X7_foresee_0 σ a
set_option maxRecDepth 100000 in
set_option maxHeartbeats 4000000 in
theorem c_X7_foresee_0 (l : Launch) (σ : kw_S) (hI : kw_I bX σ) (a : Int32) : kw_Met l 4 KX mX7_foresee [.ref 0, .int a] σ (p_X7_foresee_0 σ a) := by
  have r_a := kw_rng a
  have hF0 : kw_F [10, 11] σ σ := kw_F.rf
  have hF := (f_X7_foresee_0_u σ a).symm
  have q_0 : (0 : Int32).toInt = 0 := rfl
  have q_1 : (1 : Int32).toInt = 1 := rfl
  have q_6 : (6 : Int32).toInt = 6 := rfl
  refine kw_Met.of (by decide) rfl tX7_foresee (Nat.le_of_ble_eq_true rfl) ?_
  show kw_AW l 4 kw_E0 KX mX7_foresee (p_X7_foresee_0 σ a) 0 [(0, .ref 0), (1, .int a)] [] σ
  refine kw_iconst (pc := 0) (i := 0) (v := 0) rfl rfl ?_
  refine kw_istore_n (pc := 1) (i := 1) (n := 2) (lv' := [(2, .int 0), (0, .ref 0), (1, .int a)]) rfl rfl (by decide) rfl ?_
  have L5 : ∀ (n9 : Nat) (x1 : Int32) (S2 : kw_S), kw_I bX S2 → kw_F [10, 11] σ S2 → 0 ≤ x1.toInt → l_X7_foresee_0_2 a n9 x1 S2 = (f_X7_foresee_0 σ a) → (7 - x1.toInt).toNat < n9 → kw_AW l 4 kw_E0 KX mX7_foresee (p_X7_foresee_0 σ a) 2 [(2, .int x1), (0, .ref 0), (1, .int a)] [] S2 := by
    intro n9
    induction n9 with
    | zero => intro x1 S2 I3 F4 v7 hF m8; exact absurd m8 (Nat.not_lt_zero _)
    | succ n9 ih6 =>
      intro x1 S2 I3 F4 v7 hF m8
      replace hF := kf_st (l_X7_foresee_0_2_s _ _ _ _) hF
      have r_x1 := kw_rng x1
      refine kw_iload_n (pc := 2) (i := 2) (k := 0) (n := 2) rfl rfl rfl ?_
      refine kw_aload_n (pc := 3) (i := 3) (k := 1) (n := 0) rfl rfl rfl ?_
      refine kw_get (pc := 4) (i := 4) (v := .ref 1) rfl rfl rfl lkX7_14 (fun _ => rfl) ?_
      refine kw_iload_n (pc := 7) (i := 5) (k := 2) (n := 1) rfl rfl rfl ?_
      refine kw_callV (pc := 8) (i := 6) (Y := mX3_sizeOf) (a := 1) (As := [.int a]) (st := [.int x1]) kw_hE rfl rfl lvX7_110 arX3_sizeOf (c_X3_sizeOf_1 l S2 I3 a ) (by decide) (Nat.le_of_ble_eq_true rfl) rfl (fun v S11 p10 => ?_)
      obtain ⟨e18, z17, rfl, f12, f13, f14, f15, ef16⟩ := p10
      rw [e18]
      replace hF := kf_le ef16 hF
      have r_z17 := kw_rng z17
      show kw_AW l 4 kw_E0 KX mX7_foresee (p_X7_foresee_0 σ a) 11 [(2, .int x1), (0, .ref 0), (1, .int a)] [.int z17, .int x1] S2
      refine kw_icmp_ge (pc := 11) (i := 7) (tgt := 88) rfl rfl (fun c19 => ?_) (fun c19 => ?_)
      · replace hF := kf_nl c19 hF
        exact kw_return (pc := 88) (i := 47) rfl rfl ⟨⟨I3, F4⟩, rfl, hF⟩
      · replace hF := kf_p c19 hF
        refine kw_iload_n (pc := 14) (i := 8) (k := 0) (n := 2) rfl rfl rfl ?_
        refine kw_bipush (pc := 15) (i := 9) (v := 6) rfl rfl ?_
        refine kw_icmp_ge (pc := 17) (i := 10) (tgt := 88) rfl rfl (fun c20 => ?_) (fun c20 => ?_)
        · replace hF := kf_nl c20 hF
          exact kw_return (pc := 88) (i := 47) rfl rfl ⟨⟨I3, F4⟩, rfl, hF⟩
        · replace hF := kf_p c20 hF
          refine kw_aload_n (pc := 20) (i := 11) (k := 1) (n := 0) rfl rfl rfl ?_
          refine kw_get (pc := 21) (i := 12) (v := .ref 1) rfl rfl rfl lkX7_14 (fun _ => rfl) ?_
          refine kw_iload_n (pc := 24) (i := 13) (k := 2) (n := 1) rfl rfl rfl ?_
          refine kw_iload_n (pc := 25) (i := 14) (k := 0) (n := 2) rfl rfl rfl ?_
          refine kw_callV (pc := 26) (i := 15) (Y := mX3_valueAt) (a := 1) (As := [.int a, .int x1]) (st := []) kw_hE rfl rfl lvX7_85 arX3_valueAt (c_X3_valueAt_1 l S2 I3 a x1 ) (by decide) (Nat.le_of_ble_eq_true rfl) rfl (fun v S22 p21 => ?_)
          obtain ⟨e25, z24, rfl, ef23⟩ := p21
          rw [e25]
          replace hF := kf_le ef23 hF
          have r_z24 := kw_rng z24
          show kw_AW l 4 kw_E0 KX mX7_foresee (p_X7_foresee_0 σ a) 29 [(2, .int x1), (0, .ref 0), (1, .int a)] [.int z24] S2
          refine kw_istore_n (pc := 29) (i := 16) (n := 3) (lv' := [(3, .int z24), (2, .int x1), (0, .ref 0), (1, .int a)]) rfl rfl (by decide) rfl ?_
          refine kw_aload_n (pc := 30) (i := 17) (k := 2) (n := 0) rfl rfl rfl ?_
          refine kw_get (pc := 31) (i := 18) (v := .ref 10) rfl rfl rfl lkX7_63 (fun _ => rfl) ?_
          refine kw_iload_n (pc := 34) (i := 19) (k := 1) (n := 2) rfl rfl rfl ?_
          refine kw_aload_n (pc := 35) (i := 20) (k := 2) (n := 0) rfl rfl rfl ?_
          refine kw_get (pc := 36) (i := 21) (v := .ref 4) rfl rfl rfl lkX7_31 (fun _ => rfl) ?_
          refine kw_get (pc := 39) (i := 22) (v := .ref 17) rfl rfl rfl lkX7_117 (fun _ => rfl) ?_
          refine kw_iload_n (pc := 42) (i := 23) (k := 0) (n := 3) rfl rfl rfl ?_
          refine kw_aload_n (pc := 43) (i := 24) (k := 2) (n := 0) rfl rfl rfl ?_
          refine kw_get (pc := 44) (i := 25) (v := .ref 4) rfl rfl rfl lkX7_31 (fun _ => rfl) ?_
          refine kw_iload_n (pc := 47) (i := 26) (k := 1) (n := 2) rfl rfl rfl ?_
          refine kw_callV (pc := 48) (i := 27) (Y := mX5_windAhead) (a := 4) (As := [.int x1]) (st := [.int z24, .ref 17, .int x1, .ref 10]) kw_hE rfl rfl lvX7_253 arX5_windAhead (c_X5_windAhead_4 l S2 I3 x1 ) (by decide) (Nat.le_of_ble_eq_true rfl) rfl (fun v S27 p26 => ?_)
          obtain ⟨e30, z29, rfl, ef28⟩ := p26
          rw [e30]
          replace hF := kf_le ef28 hF
          have r_z29 := kw_rng z29
          show kw_AW l 4 kw_E0 KX mX7_foresee (p_X7_foresee_0 σ a) 51 [(3, .int z24), (2, .int x1), (0, .ref 0), (1, .int a)] [.int z29, .int z24, .ref 17, .int x1, .ref 10] S2
          refine kw_callV (pc := 51) (i := 28) (Y := mX1_milesOf) (a := 17) (As := [.int z24, .int z29]) (st := [.int x1, .ref 10]) kw_hE rfl rfl lvX7_222 arX1_milesOf (c_X1_milesOf_17 l S2 I3 z24 z29 ) (by decide) (Nat.le_of_ble_eq_true rfl) rfl (fun v S32 p31 => ?_)
          obtain ⟨e35, z34, rfl, ef33⟩ := p31
          rw [e35]
          replace hF := kf_le ef33 hF
          have r_z34 := kw_rng z34
          show kw_AW l 4 kw_E0 KX mX7_foresee (p_X7_foresee_0 σ a) 54 [(3, .int z24), (2, .int x1), (0, .ref 0), (1, .int a)] [.int z34, .int x1, .ref 10] S2
          refine kw_iast (pc := 54) (i := 29) (n := 6) rfl rfl (by omega) (by omega) ?_
          have I36 : kw_I bX (kw_ui S2 10 x1.toNatClampNeg z34) := kw_I_ui I3 (kw_rng z34).1 (Int.le_of_lt_add_one (kw_rng z34).2)
          have F37 : kw_F [10, 11] σ (kw_ui S2 10 x1.toNatClampNeg z34) := kw_F_ui F4 (by decide)
          refine kw_aload_n (pc := 55) (i := 30) (k := 2) (n := 0) rfl rfl rfl ?_
          refine kw_get (pc := 56) (i := 31) (v := .ref 11) rfl rfl rfl lkX7_66 (fun _ => rfl) ?_
          refine kw_iload_n (pc := 59) (i := 32) (k := 1) (n := 2) rfl rfl rfl ?_
          refine kw_aload_n (pc := 60) (i := 33) (k := 2) (n := 0) rfl rfl rfl ?_
          refine kw_get (pc := 61) (i := 34) (v := .ref 4) rfl rfl rfl lkX7_31 (fun _ => rfl) ?_
          refine kw_get (pc := 64) (i := 35) (v := .ref 17) rfl rfl rfl lkX7_117 (fun _ => rfl) ?_
          refine kw_iload_n (pc := 67) (i := 36) (k := 0) (n := 3) rfl rfl rfl ?_
          refine kw_aload_n (pc := 68) (i := 37) (k := 2) (n := 0) rfl rfl rfl ?_
          refine kw_get (pc := 69) (i := 38) (v := .ref 4) rfl rfl rfl lkX7_31 (fun _ => rfl) ?_
          refine kw_iload_n (pc := 72) (i := 39) (k := 1) (n := 2) rfl rfl rfl ?_
          refine kw_callV (pc := 73) (i := 40) (Y := mX5_windAhead) (a := 4) (As := [.int x1]) (st := [.int z24, .ref 17, .int x1, .ref 11]) kw_hE rfl rfl lvX7_253 arX5_windAhead (c_X5_windAhead_4 l (kw_ui S2 10 x1.toNatClampNeg z34) I36 x1 ) (by decide) (Nat.le_of_ble_eq_true rfl) rfl (fun v S39 p38 => ?_)
          obtain ⟨e42, z41, rfl, ef40⟩ := p38
          rw [e42]
          replace hF := kf_le ef40 hF
          have r_z41 := kw_rng z41
          show kw_AW l 4 kw_E0 KX mX7_foresee (p_X7_foresee_0 σ a) 76 [(3, .int z24), (2, .int x1), (0, .ref 0), (1, .int a)] [.int z41, .int z24, .ref 17, .int x1, .ref 11] (kw_ui S2 10 x1.toNatClampNeg z34)
          refine kw_iconst (pc := 76) (i := 41) (v := 1) rfl rfl ?_
          refine kw_iadd (pc := 77) (i := 42) rfl (fun z43 e_z43 t_z43 => ?_)
          replace hF := kf_le e_z43 hF
          refine kw_callV (pc := 78) (i := 43) (Y := mX1_milesOf) (a := 17) (As := [.int z24, .int z43]) (st := [.int x1, .ref 11]) kw_hE rfl rfl lvX7_222 arX1_milesOf (c_X1_milesOf_17 l (kw_ui S2 10 x1.toNatClampNeg z34) I36 z24 z43 ) (by decide) (Nat.le_of_ble_eq_true rfl) rfl (fun v S45 p44 => ?_)
          obtain ⟨e48, z47, rfl, ef46⟩ := p44
          rw [e48]
          replace hF := kf_le ef46 hF
          have r_z47 := kw_rng z47
          show kw_AW l 4 kw_E0 KX mX7_foresee (p_X7_foresee_0 σ a) 81 [(3, .int z24), (2, .int x1), (0, .ref 0), (1, .int a)] [.int z47, .int x1, .ref 11] (kw_ui S2 10 x1.toNatClampNeg z34)
          refine kw_iast (pc := 81) (i := 44) (n := 6) rfl rfl (by omega) (by omega) ?_
          have I49 : kw_I bX (kw_ui (kw_ui S2 10 x1.toNatClampNeg z34) 11 x1.toNatClampNeg z47) := kw_I_ui I36 (kw_rng z47).1 (Int.le_of_lt_add_one (kw_rng z47).2)
          have F50 : kw_F [10, 11] σ (kw_ui (kw_ui S2 10 x1.toNatClampNeg z34) 11 x1.toNatClampNeg z47) := kw_F_ui F37 (by decide)
          refine kw_iinc' (pc := 82) (i := 45) (k := 1) (fun z => [(2, .int z), (3, .int z24), (0, .ref 0), (1, .int a)]) rfl rfl (by decide) rfl (fun _ => rfl) (fun z51 e_z51 t_z51 => ?_)
          replace hF := kf_le e_z51 hF
          refine kw_goto (pc := 85) (i := 46) (tgt := 2) rfl rfl ?_
          refine kw_sub (lv' := [(2, .int z51), (0, .ref 0), (1, .int a)]) [0, 2, 3] rfl ?_
          exact ih6 z51 (kw_ui (kw_ui S2 10 x1.toNatClampNeg z34) 11 x1.toNatClampNeg z47) I49 F50 (by omega) hF (by omega)
  exact L5 _ 0 σ hI hF0 (by omega) hF (Nat.lt_succ_self _)
noncomputable def l_X7_milesByGusts_0_11 (a1 : Int32) (a2 : Int32) (S : kw_S) : Nat → Int32 → Int32 → Int32
  | 0, _, _ => 0
  | n + 1, x3, x4 => if x4.toInt < a1.toInt then (kf_l (a2 >>> (x4 &&& 31)) fun z1 => kf_l (z1 &&& (1 : Int32)) fun z2 => if z2.toInt = (1 : Int32).toInt then (kf_l (S.1 11 x4.toNatClampNeg) fun z6 => kf_l (x3 + z6) fun z7 => kf_l (x4 + Int32.ofInt 1) fun z8 => l_X7_milesByGusts_0_11 a1 a2 S n z7 z8) else (kf_l (S.1 10 x4.toNatClampNeg) fun z3 => kf_l (x3 + z3) fun z4 => kf_l (x4 + Int32.ofInt 1) fun z5 => l_X7_milesByGusts_0_11 a1 a2 S n z4 z5)) else (x3)
theorem l_X7_milesByGusts_0_11_s (a1 : Int32) (a2 : Int32) (S : kw_S) (n : Nat) (x3 : Int32) (x4 : Int32) : l_X7_milesByGusts_0_11 a1 a2 S (n + 1) x3 x4 = if x4.toInt < a1.toInt then (kf_l (a2 >>> (x4 &&& 31)) fun z1 => kf_l (z1 &&& (1 : Int32)) fun z2 => if z2.toInt = (1 : Int32).toInt then (kf_l (S.1 11 x4.toNatClampNeg) fun z6 => kf_l (x3 + z6) fun z7 => kf_l (x4 + Int32.ofInt 1) fun z8 => l_X7_milesByGusts_0_11 a1 a2 S n z7 z8) else (kf_l (S.1 10 x4.toNatClampNeg) fun z3 => kf_l (x3 + z3) fun z4 => kf_l (x4 + Int32.ofInt 1) fun z5 => l_X7_milesByGusts_0_11 a1 a2 S n z4 z5)) else (x3) := rfl
noncomputable def f_X7_milesByGusts_0 (σ : kw_S) (h : Int32) (u : Int32) : Int32 := l_X7_milesByGusts_0_11 h u σ ((h.toInt - (0 : Int32).toInt).toNat + 1) (σ.1 4 6) (0 : Int32)
theorem f_X7_milesByGusts_0_u (σ : kw_S) (h : Int32) (u : Int32) : f_X7_milesByGusts_0 σ h u = l_X7_milesByGusts_0_11 h u σ ((h.toInt - (0 : Int32).toInt).toNat + 1) (σ.1 4 6) (0 : Int32) := rfl
abbrev p_X7_milesByGusts_0 (σ : kw_S) (h : Int32) (u : Int32) : Option Value → kw_S → Prop := fun vv σ' => σ' = σ ∧ ∃ r : Int32, vv = some (.int r) ∧ r = f_X7_milesByGusts_0 σ h u
set_option maxRecDepth 100000 in
set_option maxHeartbeats 4000000 in
theorem c_X7_milesByGusts_0 (l : Launch) (σ : kw_S) (hI : kw_I bX σ) (h : Int32) (u : Int32) (hp0 : h.toInt ≤ 6) : kw_Met l 1 KX mX7_milesByGusts [.ref 0, .int h, .int u] σ (p_X7_milesByGusts_0 σ h u) := by
  have r_h := kw_rng h
  have r_u := kw_rng u
  have hF := (f_X7_milesByGusts_0_u σ h u).symm
  have q_0 : (0 : Int32).toInt = 0 := rfl
  have q_1 : (1 : Int32).toInt = 1 := rfl
  refine kw_Met.of (by decide) rfl tX7_milesByGusts (Nat.le_of_ble_eq_true rfl) ?_
  show kw_AW l 1 kw_E0 KX mX7_milesByGusts (p_X7_milesByGusts_0 σ h u) 0 [(0, .ref 0), (1, .int h), (2, .int u)] [] σ
  refine kw_aload_n (pc := 0) (i := 0) (k := 0) (n := 0) rfl rfl rfl ?_
  refine kw_get (pc := 1) (i := 1) (v := .ref 4) rfl rfl rfl lkX7_31 (fun _ => rfl) ?_
  refine kw_get (pc := 4) (i := 2) (v := .int (σ.1 4 6)) rfl rfl rfl lkX7_204 (fun _ => rfl) ?_
  have b1 := kw_rng (σ.1 4 6)
  refine kw_istore_n (pc := 7) (i := 3) (n := 3) (lv' := [(3, .int (σ.1 4 6)), (0, .ref 0), (1, .int h), (2, .int u)]) rfl rfl (by decide) rfl ?_
  refine kw_iconst (pc := 8) (i := 4) (v := 0) rfl rfl ?_
  refine kw_istore (pc := 9) (i := 5) (n := 4) (lv' := [(4, .int 0), (3, .int (σ.1 4 6)), (0, .ref 0), (1, .int h), (2, .int u)]) rfl (by decide) rfl ?_
  have L4 : ∀ (n8 : Nat) (x2 : Int32) (x3 : Int32), 0 ≤ x2.toInt → l_X7_milesByGusts_0_11 h u σ n8 x3 x2 = (f_X7_milesByGusts_0 σ h u) → (h.toInt - x2.toInt).toNat < n8 → kw_AW l 1 kw_E0 KX mX7_milesByGusts (p_X7_milesByGusts_0 σ h u) 11 [(4, .int x2), (3, .int x3), (0, .ref 0), (1, .int h), (2, .int u)] [] σ := by
    intro n8
    induction n8 with
    | zero => intro x2 x3 v6 hF m7; exact absurd m7 (Nat.not_lt_zero _)
    | succ n8 ih5 =>
      intro x2 x3 v6 hF m7
      replace hF := kf_st (l_X7_milesByGusts_0_11_s _ _ _ _ _ _) hF
      have r_x2 := kw_rng x2
      have r_x3 := kw_rng x3
      refine kw_iload (pc := 11) (i := 6) (k := 0) (n := 4) rfl rfl ?_
      refine kw_iload_n (pc := 13) (i := 7) (k := 3) (n := 1) rfl rfl rfl ?_
      refine kw_icmp_ge (pc := 14) (i := 8) (tgt := 53) rfl rfl (fun c9 => ?_) (fun c9 => ?_)
      · replace hF := kf_nl c9 hF
        refine kw_iload_n (pc := 53) (i := 30) (k := 1) (n := 3) rfl rfl rfl ?_
        exact kw_ireturn (pc := 54) (i := 31) (ty := .int) rfl rfl rfl ⟨rfl, _, rfl, hF⟩
      · replace hF := kf_p c9 hF
        refine kw_iload_n (pc := 17) (i := 9) (k := 1) (n := 3) rfl rfl rfl ?_
        refine kw_iload_n (pc := 18) (i := 10) (k := 4) (n := 2) rfl rfl rfl ?_
        refine kw_iload (pc := 19) (i := 11) (k := 0) (n := 4) rfl rfl ?_
        refine kw_ishr (pc := 21) (i := 12) rfl (fun z10 e_z10 => ?_)
        have r_z10 := kw_rng z10
        replace hF := kf_le e_z10 hF
        refine kw_iconst (pc := 22) (i := 13) (v := 1) rfl rfl ?_
        refine kw_iand (pc := 23) (i := 14) rfl (fun z11 e_z11 => ?_)
        have r_z11 := kw_rng z11
        replace hF := kf_le e_z11 hF
        refine kw_iconst (pc := 24) (i := 15) (v := 1) rfl rfl ?_
        refine kw_icmp_ne (pc := 25) (i := 16) (tgt := 38) rfl rfl (fun c12 => ?_) (fun c12 => ?_)
        · replace hF := kf_n c12 hF
          refine kw_aload_n (pc := 38) (i := 22) (k := 2) (n := 0) rfl rfl rfl ?_
          refine kw_get (pc := 39) (i := 23) (v := .ref 10) rfl rfl rfl lkX7_63 (fun _ => rfl) ?_
          refine kw_iload (pc := 42) (i := 24) (k := 0) (n := 4) rfl rfl ?_
          refine kw_iald (pc := 44) (i := 25) (n := 6) rfl rfl (by omega) (by omega) (fun z13 e_z13 => ?_)
          replace hF := kf_le e_z13 hF
          have t_z13 := congrArg Int32.toInt e_z13
          have r_z13 := kw_rng z13
          refine kw_iadd (pc := 45) (i := 26) rfl (fun z14 e_z14 t_z14 => ?_)
          replace hF := kf_le e_z14 hF
          refine kw_istore_n (pc := 46) (i := 27) (n := 3) (lv' := [(3, .int z14), (4, .int x2), (0, .ref 0), (1, .int h), (2, .int u)]) rfl rfl (by decide) rfl ?_
          refine kw_iinc' (pc := 47) (i := 28) (k := 1) (fun z => [(4, .int z), (3, .int z14), (0, .ref 0), (1, .int h), (2, .int u)]) rfl rfl (by decide) rfl (fun _ => rfl) (fun z15 e_z15 t_z15 => ?_)
          replace hF := kf_le e_z15 hF
          refine kw_goto (pc := 50) (i := 29) (tgt := 11) rfl rfl ?_
          refine kw_sub (lv' := [(4, .int z15), (3, .int z14), (0, .ref 0), (1, .int h), (2, .int u)]) [0, 1, 2, 3, 4] rfl ?_
          exact ih5 z15 z14 (by omega) hF (by omega)
        · replace hF := kf_p c12 hF
          refine kw_aload_n (pc := 28) (i := 17) (k := 2) (n := 0) rfl rfl rfl ?_
          refine kw_get (pc := 29) (i := 18) (v := .ref 11) rfl rfl rfl lkX7_66 (fun _ => rfl) ?_
          refine kw_iload (pc := 32) (i := 19) (k := 0) (n := 4) rfl rfl ?_
          refine kw_iald (pc := 34) (i := 20) (n := 6) rfl rfl (by omega) (by omega) (fun z16 e_z16 => ?_)
          replace hF := kf_le e_z16 hF
          have t_z16 := congrArg Int32.toInt e_z16
          have r_z16 := kw_rng z16
          refine kw_goto (pc := 35) (i := 21) (tgt := 45) rfl rfl ?_
          refine kw_iadd (pc := 45) (i := 26) rfl (fun z17 e_z17 t_z17 => ?_)
          replace hF := kf_le e_z17 hF
          refine kw_istore_n (pc := 46) (i := 27) (n := 3) (lv' := [(3, .int z17), (4, .int x2), (0, .ref 0), (1, .int h), (2, .int u)]) rfl rfl (by decide) rfl ?_
          refine kw_iinc' (pc := 47) (i := 28) (k := 1) (fun z => [(4, .int z), (3, .int z17), (0, .ref 0), (1, .int h), (2, .int u)]) rfl rfl (by decide) rfl (fun _ => rfl) (fun z18 e_z18 t_z18 => ?_)
          replace hF := kf_le e_z18 hF
          refine kw_goto (pc := 50) (i := 29) (tgt := 11) rfl rfl ?_
          refine kw_sub (lv' := [(4, .int z18), (3, .int z17), (0, .ref 0), (1, .int h), (2, .int u)]) [0, 1, 2, 3, 4] rfl ?_
          exact ih5 z18 z17 (by omega) hF (by omega)
  exact L4 _ 0 (σ.1 4 6) (by omega) hF (Nat.lt_succ_self _)
noncomputable def l_X7_drySet_0_19_4 (S : kw_S) : Nat → Int32 → Int32 → Int32
  | 0, _, _ => 0
  | n + 1, x2, x3 => if x3.toInt < (S.1 17 5).toInt then (kf_l (S.1 19 x3.toNatClampNeg) fun z1 => if z1.toInt = 0 then (kf_l ((1 : Int32) <<< (x3 &&& 31)) fun z3 => kf_l (x2 ||| z3) fun z4 => kf_l (x3 + Int32.ofInt 1) fun z5 => l_X7_drySet_0_19_4 S n z4 z5) else (kf_l (x3 + Int32.ofInt 1) fun z2 => l_X7_drySet_0_19_4 S n x2 z2)) else (x2)
theorem l_X7_drySet_0_19_4_s (S : kw_S) (n : Nat) (x2 : Int32) (x3 : Int32) : l_X7_drySet_0_19_4 S (n + 1) x2 x3 = if x3.toInt < (S.1 17 5).toInt then (kf_l (S.1 19 x3.toNatClampNeg) fun z1 => if z1.toInt = 0 then (kf_l ((1 : Int32) <<< (x3 &&& 31)) fun z3 => kf_l (x2 ||| z3) fun z4 => kf_l (x3 + Int32.ofInt 1) fun z5 => l_X7_drySet_0_19_4 S n z4 z5) else (kf_l (x3 + Int32.ofInt 1) fun z2 => l_X7_drySet_0_19_4 S n x2 z2)) else (x2) := rfl
noncomputable def f_X7_drySet_0_19 (σ : kw_S)  : Int32 := l_X7_drySet_0_19_4 σ ((7 - (0 : Int32).toInt).toNat + 1) (0 : Int32) (0 : Int32)
theorem f_X7_drySet_0_19_u (σ : kw_S)  : f_X7_drySet_0_19 σ  = l_X7_drySet_0_19_4 σ ((7 - (0 : Int32).toInt).toNat + 1) (0 : Int32) (0 : Int32) := rfl
abbrev p_X7_drySet_0_19 (σ : kw_S)  : Option Value → kw_S → Prop := fun vv σ' => σ' = σ ∧ ∃ r : Int32, vv = some (.int r) ∧ r = f_X7_drySet_0_19 σ
set_option maxRecDepth 100000 in
set_option maxHeartbeats 4000000 in
theorem c_X7_drySet_0_19 (l : Launch) (σ : kw_S) (hI : kw_I bX σ)  : kw_Met l 1 KX mX7_drySet [.ref 0, .ref 19] σ (p_X7_drySet_0_19 σ) := by
  have hF := (f_X7_drySet_0_19_u σ).symm
  have q_0 : (0 : Int32).toInt = 0 := rfl
  have q_1 : (1 : Int32).toInt = 1 := rfl
  refine kw_Met.of (by decide) rfl tX7_drySet (Nat.le_of_ble_eq_true rfl) ?_
  show kw_AW l 1 kw_E0 KX mX7_drySet (p_X7_drySet_0_19 σ) 0 [(0, .ref 0), (1, .ref 19)] [] σ
  refine kw_iconst (pc := 0) (i := 0) (v := 0) rfl rfl ?_
  refine kw_istore_n (pc := 1) (i := 1) (n := 2) (lv' := [(2, .int 0), (0, .ref 0), (1, .ref 19)]) rfl rfl (by decide) rfl ?_
  refine kw_iconst (pc := 2) (i := 2) (v := 0) rfl rfl ?_
  refine kw_istore_n (pc := 3) (i := 3) (n := 3) (lv' := [(3, .int 0), (2, .int 0), (0, .ref 0), (1, .ref 19)]) rfl rfl (by decide) rfl ?_
  have L3 : ∀ (n7 : Nat) (x1 : Int32) (x2 : Int32), 0 ≤ x1.toInt → l_X7_drySet_0_19_4 σ n7 x2 x1 = (f_X7_drySet_0_19 σ) → (7 - x1.toInt).toNat < n7 → kw_AW l 1 kw_E0 KX mX7_drySet (p_X7_drySet_0_19 σ) 4 [(3, .int x1), (2, .int x2), (0, .ref 0), (1, .ref 19)] [] σ := by
    intro n7
    induction n7 with
    | zero => intro x1 x2 v5 hF m6; exact absurd m6 (Nat.not_lt_zero _)
    | succ n7 ih4 =>
      intro x1 x2 v5 hF m6
      replace hF := kf_st (l_X7_drySet_0_19_4_s _ _ _ _) hF
      have r_x1 := kw_rng x1
      have r_x2 := kw_rng x2
      refine kw_iload_n (pc := 4) (i := 4) (k := 0) (n := 3) rfl rfl rfl ?_
      refine kw_aload_n (pc := 5) (i := 5) (k := 2) (n := 0) rfl rfl rfl ?_
      refine kw_get (pc := 6) (i := 6) (v := .ref 4) rfl rfl rfl lkX7_31 (fun _ => rfl) ?_
      refine kw_get (pc := 9) (i := 7) (v := .ref 17) rfl rfl rfl lkX7_117 (fun _ => rfl) ?_
      refine kw_get (pc := 12) (i := 8) (v := .int (σ.1 17 5)) rfl rfl rfl lkX7_133 (fun _ => rfl) ?_
      have b8 : 0 ≤ (σ.1 17 5).toInt ∧ (σ.1 17 5).toInt ≤ 6 := hI 17 5
      refine kw_icmp_ge (pc := 15) (i := 9) (tgt := 36) rfl rfl (fun c9 => ?_) (fun c9 => ?_)
      · replace hF := kf_nl c9 hF
        refine kw_iload_n (pc := 36) (i := 22) (k := 1) (n := 2) rfl rfl rfl ?_
        exact kw_ireturn (pc := 37) (i := 23) (ty := .int) rfl rfl rfl ⟨rfl, _, rfl, hF⟩
      · replace hF := kf_p c9 hF
        refine kw_aload_n (pc := 18) (i := 10) (k := 3) (n := 1) rfl rfl rfl ?_
        refine kw_iload_n (pc := 19) (i := 11) (k := 0) (n := 3) rfl rfl rfl ?_
        refine kw_iald (pc := 20) (i := 12) (n := 6) rfl rfl (by omega) (by omega) (fun z10 e_z10 => ?_)
        replace hF := kf_le e_z10 hF
        have t_z10 := congrArg Int32.toInt e_z10
        have r_z10 := kw_rng z10
        refine kw_if_ne (pc := 21) (i := 13) (tgt := 30) rfl rfl (fun c11 => ?_) (fun c11 => ?_)
        · replace hF := kf_n c11 hF
          refine kw_iinc' (pc := 30) (i := 20) (k := 0) (fun z => [(3, .int z), (2, .int x2), (0, .ref 0), (1, .ref 19)]) rfl rfl (by decide) rfl (fun _ => rfl) (fun z12 e_z12 t_z12 => ?_)
          replace hF := kf_le e_z12 hF
          refine kw_goto (pc := 33) (i := 21) (tgt := 4) rfl rfl ?_
          refine kw_sub (lv' := [(3, .int z12), (2, .int x2), (0, .ref 0), (1, .ref 19)]) [0, 1, 2, 3] rfl ?_
          exact ih4 z12 x2 (by omega) hF (by omega)
        · replace hF := kf_p c11 hF
          refine kw_iload_n (pc := 24) (i := 14) (k := 1) (n := 2) rfl rfl rfl ?_
          refine kw_iconst (pc := 25) (i := 15) (v := 1) rfl rfl ?_
          refine kw_iload_n (pc := 26) (i := 16) (k := 0) (n := 3) rfl rfl rfl ?_
          refine kw_ishl (pc := 27) (i := 17) rfl (fun z13 e_z13 => ?_)
          have r_z13 := kw_rng z13
          replace hF := kf_le e_z13 hF
          refine kw_ior (pc := 28) (i := 18) rfl (fun z14 e_z14 => ?_)
          have r_z14 := kw_rng z14
          replace hF := kf_le e_z14 hF
          refine kw_istore_n (pc := 29) (i := 19) (n := 2) (lv' := [(2, .int z14), (3, .int x1), (0, .ref 0), (1, .ref 19)]) rfl rfl (by decide) rfl ?_
          refine kw_iinc' (pc := 30) (i := 20) (k := 1) (fun z => [(3, .int z), (2, .int z14), (0, .ref 0), (1, .ref 19)]) rfl rfl (by decide) rfl (fun _ => rfl) (fun z15 e_z15 t_z15 => ?_)
          replace hF := kf_le e_z15 hF
          refine kw_goto (pc := 33) (i := 21) (tgt := 4) rfl rfl ?_
          refine kw_sub (lv' := [(3, .int z15), (2, .int z14), (0, .ref 0), (1, .ref 19)]) [0, 1, 2, 3] rfl ?_
          exact ih4 z15 z14 (by omega) hF (by omega)
  exact L3 _ 0 0 (by omega) hF (Nat.lt_succ_self _)
noncomputable def l_X7_drySet_0_9_4 (S : kw_S) : Nat → Int32 → Int32 → Int32
  | 0, _, _ => 0
  | n + 1, x2, x3 => if x3.toInt < (S.1 17 5).toInt then (kf_l (S.1 9 x3.toNatClampNeg) fun z1 => if z1.toInt = 0 then (kf_l ((1 : Int32) <<< (x3 &&& 31)) fun z3 => kf_l (x2 ||| z3) fun z4 => kf_l (x3 + Int32.ofInt 1) fun z5 => l_X7_drySet_0_9_4 S n z4 z5) else (kf_l (x3 + Int32.ofInt 1) fun z2 => l_X7_drySet_0_9_4 S n x2 z2)) else (x2)
theorem l_X7_drySet_0_9_4_s (S : kw_S) (n : Nat) (x2 : Int32) (x3 : Int32) : l_X7_drySet_0_9_4 S (n + 1) x2 x3 = if x3.toInt < (S.1 17 5).toInt then (kf_l (S.1 9 x3.toNatClampNeg) fun z1 => if z1.toInt = 0 then (kf_l ((1 : Int32) <<< (x3 &&& 31)) fun z3 => kf_l (x2 ||| z3) fun z4 => kf_l (x3 + Int32.ofInt 1) fun z5 => l_X7_drySet_0_9_4 S n z4 z5) else (kf_l (x3 + Int32.ofInt 1) fun z2 => l_X7_drySet_0_9_4 S n x2 z2)) else (x2) := rfl
noncomputable def f_X7_drySet_0_9 (σ : kw_S)  : Int32 := l_X7_drySet_0_9_4 σ ((7 - (0 : Int32).toInt).toNat + 1) (0 : Int32) (0 : Int32)
theorem f_X7_drySet_0_9_u (σ : kw_S)  : f_X7_drySet_0_9 σ  = l_X7_drySet_0_9_4 σ ((7 - (0 : Int32).toInt).toNat + 1) (0 : Int32) (0 : Int32) := rfl
abbrev p_X7_drySet_0_9 (σ : kw_S)  : Option Value → kw_S → Prop := fun vv σ' => σ' = σ ∧ ∃ r : Int32, vv = some (.int r) ∧ r = f_X7_drySet_0_9 σ
set_option maxRecDepth 100000 in
set_option maxHeartbeats 4000000 in
theorem c_X7_drySet_0_9 (l : Launch) (σ : kw_S) (hI : kw_I bX σ)  : kw_Met l 1 KX mX7_drySet [.ref 0, .ref 9] σ (p_X7_drySet_0_9 σ) := by
  have hF := (f_X7_drySet_0_9_u σ).symm
  have q_0 : (0 : Int32).toInt = 0 := rfl
  have q_1 : (1 : Int32).toInt = 1 := rfl
  refine kw_Met.of (by decide) rfl tX7_drySet (Nat.le_of_ble_eq_true rfl) ?_
  show kw_AW l 1 kw_E0 KX mX7_drySet (p_X7_drySet_0_9 σ) 0 [(0, .ref 0), (1, .ref 9)] [] σ
  refine kw_iconst (pc := 0) (i := 0) (v := 0) rfl rfl ?_
  refine kw_istore_n (pc := 1) (i := 1) (n := 2) (lv' := [(2, .int 0), (0, .ref 0), (1, .ref 9)]) rfl rfl (by decide) rfl ?_
  refine kw_iconst (pc := 2) (i := 2) (v := 0) rfl rfl ?_
  refine kw_istore_n (pc := 3) (i := 3) (n := 3) (lv' := [(3, .int 0), (2, .int 0), (0, .ref 0), (1, .ref 9)]) rfl rfl (by decide) rfl ?_
  have L3 : ∀ (n7 : Nat) (x1 : Int32) (x2 : Int32), 0 ≤ x1.toInt → l_X7_drySet_0_9_4 σ n7 x2 x1 = (f_X7_drySet_0_9 σ) → (7 - x1.toInt).toNat < n7 → kw_AW l 1 kw_E0 KX mX7_drySet (p_X7_drySet_0_9 σ) 4 [(3, .int x1), (2, .int x2), (0, .ref 0), (1, .ref 9)] [] σ := by
    intro n7
    induction n7 with
    | zero => intro x1 x2 v5 hF m6; exact absurd m6 (Nat.not_lt_zero _)
    | succ n7 ih4 =>
      intro x1 x2 v5 hF m6
      replace hF := kf_st (l_X7_drySet_0_9_4_s _ _ _ _) hF
      have r_x1 := kw_rng x1
      have r_x2 := kw_rng x2
      refine kw_iload_n (pc := 4) (i := 4) (k := 0) (n := 3) rfl rfl rfl ?_
      refine kw_aload_n (pc := 5) (i := 5) (k := 2) (n := 0) rfl rfl rfl ?_
      refine kw_get (pc := 6) (i := 6) (v := .ref 4) rfl rfl rfl lkX7_31 (fun _ => rfl) ?_
      refine kw_get (pc := 9) (i := 7) (v := .ref 17) rfl rfl rfl lkX7_117 (fun _ => rfl) ?_
      refine kw_get (pc := 12) (i := 8) (v := .int (σ.1 17 5)) rfl rfl rfl lkX7_133 (fun _ => rfl) ?_
      have b8 : 0 ≤ (σ.1 17 5).toInt ∧ (σ.1 17 5).toInt ≤ 6 := hI 17 5
      refine kw_icmp_ge (pc := 15) (i := 9) (tgt := 36) rfl rfl (fun c9 => ?_) (fun c9 => ?_)
      · replace hF := kf_nl c9 hF
        refine kw_iload_n (pc := 36) (i := 22) (k := 1) (n := 2) rfl rfl rfl ?_
        exact kw_ireturn (pc := 37) (i := 23) (ty := .int) rfl rfl rfl ⟨rfl, _, rfl, hF⟩
      · replace hF := kf_p c9 hF
        refine kw_aload_n (pc := 18) (i := 10) (k := 3) (n := 1) rfl rfl rfl ?_
        refine kw_iload_n (pc := 19) (i := 11) (k := 0) (n := 3) rfl rfl rfl ?_
        refine kw_iald (pc := 20) (i := 12) (n := 6) rfl rfl (by omega) (by omega) (fun z10 e_z10 => ?_)
        replace hF := kf_le e_z10 hF
        have t_z10 := congrArg Int32.toInt e_z10
        have r_z10 := kw_rng z10
        refine kw_if_ne (pc := 21) (i := 13) (tgt := 30) rfl rfl (fun c11 => ?_) (fun c11 => ?_)
        · replace hF := kf_n c11 hF
          refine kw_iinc' (pc := 30) (i := 20) (k := 0) (fun z => [(3, .int z), (2, .int x2), (0, .ref 0), (1, .ref 9)]) rfl rfl (by decide) rfl (fun _ => rfl) (fun z12 e_z12 t_z12 => ?_)
          replace hF := kf_le e_z12 hF
          refine kw_goto (pc := 33) (i := 21) (tgt := 4) rfl rfl ?_
          refine kw_sub (lv' := [(3, .int z12), (2, .int x2), (0, .ref 0), (1, .ref 9)]) [0, 1, 2, 3] rfl ?_
          exact ih4 z12 x2 (by omega) hF (by omega)
        · replace hF := kf_p c11 hF
          refine kw_iload_n (pc := 24) (i := 14) (k := 1) (n := 2) rfl rfl rfl ?_
          refine kw_iconst (pc := 25) (i := 15) (v := 1) rfl rfl ?_
          refine kw_iload_n (pc := 26) (i := 16) (k := 0) (n := 3) rfl rfl rfl ?_
          refine kw_ishl (pc := 27) (i := 17) rfl (fun z13 e_z13 => ?_)
          have r_z13 := kw_rng z13
          replace hF := kf_le e_z13 hF
          refine kw_ior (pc := 28) (i := 18) rfl (fun z14 e_z14 => ?_)
          have r_z14 := kw_rng z14
          replace hF := kf_le e_z14 hF
          refine kw_istore_n (pc := 29) (i := 19) (n := 2) (lv' := [(2, .int z14), (3, .int x1), (0, .ref 0), (1, .ref 9)]) rfl rfl (by decide) rfl ?_
          refine kw_iinc' (pc := 30) (i := 20) (k := 1) (fun z => [(3, .int z), (2, .int z14), (0, .ref 0), (1, .ref 9)]) rfl rfl (by decide) rfl (fun _ => rfl) (fun z15 e_z15 t_z15 => ?_)
          replace hF := kf_le e_z15 hF
          refine kw_goto (pc := 33) (i := 21) (tgt := 4) rfl rfl ?_
          refine kw_sub (lv' := [(3, .int z15), (2, .int z14), (0, .ref 0), (1, .ref 9)]) [0, 1, 2, 3] rfl ?_
          exact ih4 z15 z14 (by omega) hF (by omega)
  exact L3 _ 0 0 (by omega) hF (Nat.lt_succ_self _)
noncomputable def l_X7_weightOfGusts_5 (a0 : Int32) (a1 : Int32) (a2 : Int32) (S : kw_S) : Nat → Int64 → Int32 → Int64
  | 0, _, _ => 0
  | n + 1, x3, x5 => if x5.toInt < a0.toInt then (kf_l (a1 >>> (x5 &&& 31)) fun z1 => kf_l (z1 &&& (1 : Int32)) fun z2 => if z2.toInt = (1 : Int32).toInt then (kf_l a2.toInt64 fun z7 => kf_l (x3 * z7) fun z8 => kf_l (x5 + Int32.ofInt 1) fun z9 => l_X7_weightOfGusts_5 a0 a1 a2 S n z8 z9) else (kf_l ((12 : Int32) - a2) fun z3 => kf_l z3.toInt64 fun z4 => kf_l (x3 * z4) fun z5 => kf_l (x5 + Int32.ofInt 1) fun z6 => l_X7_weightOfGusts_5 a0 a1 a2 S n z5 z6)) else (x3)
theorem l_X7_weightOfGusts_5_s (a0 : Int32) (a1 : Int32) (a2 : Int32) (S : kw_S) (n : Nat) (x3 : Int64) (x5 : Int32) : l_X7_weightOfGusts_5 a0 a1 a2 S (n + 1) x3 x5 = if x5.toInt < a0.toInt then (kf_l (a1 >>> (x5 &&& 31)) fun z1 => kf_l (z1 &&& (1 : Int32)) fun z2 => if z2.toInt = (1 : Int32).toInt then (kf_l a2.toInt64 fun z7 => kf_l (x3 * z7) fun z8 => kf_l (x5 + Int32.ofInt 1) fun z9 => l_X7_weightOfGusts_5 a0 a1 a2 S n z8 z9) else (kf_l ((12 : Int32) - a2) fun z3 => kf_l z3.toInt64 fun z4 => kf_l (x3 * z4) fun z5 => kf_l (x5 + Int32.ofInt 1) fun z6 => l_X7_weightOfGusts_5 a0 a1 a2 S n z5 z6)) else (x3) := rfl
noncomputable def f_X7_weightOfGusts (σ : kw_S) (h : Int32) (u : Int32) (p : Int32) : Int64 := l_X7_weightOfGusts_5 h u p σ ((h.toInt - (0 : Int32).toInt).toNat + 1) (1 : Int64) (0 : Int32)
theorem f_X7_weightOfGusts_u (σ : kw_S) (h : Int32) (u : Int32) (p : Int32) : f_X7_weightOfGusts σ h u p = l_X7_weightOfGusts_5 h u p σ ((h.toInt - (0 : Int32).toInt).toNat + 1) (1 : Int64) (0 : Int32) := rfl
abbrev p_X7_weightOfGusts (σ : kw_S) (h : Int32) (u : Int32) (p : Int32) : Option Value → kw_S → Prop := fun vv σ' => σ' = σ ∧ ∃ r : Int64, vv = some (.long r) ∧ r = f_X7_weightOfGusts σ h u p
set_option maxRecDepth 100000 in
set_option maxHeartbeats 4000000 in
theorem c_X7_weightOfGusts (l : Launch) (σ : kw_S) (hI : kw_I bX σ) (h : Int32) (u : Int32) (p : Int32) : kw_Met l 1 KX mX7_weightOfGusts [.int h, .int u, .int p] σ (p_X7_weightOfGusts σ h u p) := by
  have r_h := kw_rng h
  have r_u := kw_rng u
  have r_p := kw_rng p
  have hF := (f_X7_weightOfGusts_u σ h u p).symm
  have q_0 : (0 : Int32).toInt = 0 := rfl
  have q_1 : (1 : Int32).toInt = 1 := rfl
  have q_12 : (12 : Int32).toInt = 12 := rfl
  refine kw_Met.of (by decide) rfl tX7_weightOfGusts (Nat.le_of_ble_eq_true rfl) ?_
  show kw_AW l 1 kw_E0 KX mX7_weightOfGusts (p_X7_weightOfGusts σ h u p) 0 [(0, .int h), (1, .int u), (2, .int p)] [] σ
  refine kw_lconst (pc := 0) (i := 0) (v := 1) rfl rfl ?_
  refine kw_lstore_n (pc := 1) (i := 1) (n := 3) (lv' := [(3, .long 1), (0, .int h), (1, .int u), (2, .int p)]) rfl rfl (by decide) rfl ?_
  refine kw_iconst (pc := 2) (i := 2) (v := 0) rfl rfl ?_
  refine kw_istore (pc := 3) (i := 3) (n := 5) (lv' := [(5, .int 0), (3, .long 1), (0, .int h), (1, .int u), (2, .int p)]) rfl (by decide) rfl ?_
  have L3 : ∀ (n7 : Nat) (x1 : Int32) (x2 : Int64), 0 ≤ x1.toInt → l_X7_weightOfGusts_5 h u p σ n7 x2 x1 = (f_X7_weightOfGusts σ h u p) → (h.toInt - x1.toInt).toNat < n7 → kw_AW l 1 kw_E0 KX mX7_weightOfGusts (p_X7_weightOfGusts σ h u p) 5 [(5, .int x1), (3, .long x2), (0, .int h), (1, .int u), (2, .int p)] [] σ := by
    intro n7
    induction n7 with
    | zero => intro x1 x2 v5 hF m6; exact absurd m6 (Nat.not_lt_zero _)
    | succ n7 ih4 =>
      intro x1 x2 v5 hF m6
      replace hF := kf_st (l_X7_weightOfGusts_5_s _ _ _ _ _ _ _) hF
      have r_x1 := kw_rng x1
      refine kw_iload (pc := 5) (i := 4) (k := 0) (n := 5) rfl rfl ?_
      refine kw_iload_n (pc := 7) (i := 5) (k := 2) (n := 0) rfl rfl rfl ?_
      refine kw_icmp_ge (pc := 8) (i := 6) (tgt := 40) rfl rfl (fun c8 => ?_) (fun c8 => ?_)
      · replace hF := kf_nl c8 hF
        refine kw_lload_n (pc := 40) (i := 26) (k := 1) (n := 3) rfl rfl rfl ?_
        exact kw_lreturn (pc := 41) (i := 27) rfl rfl ⟨rfl, _, rfl, hF⟩
      · replace hF := kf_p c8 hF
        refine kw_lload_n (pc := 11) (i := 7) (k := 1) (n := 3) rfl rfl rfl ?_
        refine kw_iload_n (pc := 12) (i := 8) (k := 3) (n := 1) rfl rfl rfl ?_
        refine kw_iload (pc := 13) (i := 9) (k := 0) (n := 5) rfl rfl ?_
        refine kw_ishr (pc := 15) (i := 10) rfl (fun z9 e_z9 => ?_)
        have r_z9 := kw_rng z9
        replace hF := kf_le e_z9 hF
        refine kw_iconst (pc := 16) (i := 11) (v := 1) rfl rfl ?_
        refine kw_iand (pc := 17) (i := 12) rfl (fun z10 e_z10 => ?_)
        have r_z10 := kw_rng z10
        replace hF := kf_le e_z10 hF
        refine kw_iconst (pc := 18) (i := 13) (v := 1) rfl rfl ?_
        refine kw_icmp_ne (pc := 19) (i := 14) (tgt := 27) rfl rfl (fun c11 => ?_) (fun c11 => ?_)
        · replace hF := kf_n c11 hF
          refine kw_bipush (pc := 27) (i := 18) (v := 12) rfl rfl ?_
          refine kw_iload_n (pc := 29) (i := 19) (k := 4) (n := 2) rfl rfl rfl ?_
          refine kw_isub (pc := 30) (i := 20) rfl (fun z12 e_z12 t_z12 => ?_)
          replace hF := kf_le e_z12 hF
          refine kw_i2l (pc := 31) (i := 21) rfl (fun z13 e_z13 t_z13 => ?_)
          replace hF := kf_le e_z13 hF
          refine kw_lmul (pc := 32) (i := 22) rfl (fun z14 e_z14 => ?_)
          replace hF := kf_le e_z14 hF
          refine kw_lstore_n (pc := 33) (i := 23) (n := 3) (lv' := [(3, .long z14), (5, .int x1), (0, .int h), (1, .int u), (2, .int p)]) rfl rfl (by decide) rfl ?_
          refine kw_iinc' (pc := 34) (i := 24) (k := 1) (fun z => [(5, .int z), (3, .long z14), (0, .int h), (1, .int u), (2, .int p)]) rfl rfl (by decide) rfl (fun _ => rfl) (fun z15 e_z15 t_z15 => ?_)
          replace hF := kf_le e_z15 hF
          refine kw_goto (pc := 37) (i := 25) (tgt := 5) rfl rfl ?_
          refine kw_sub (lv' := [(5, .int z15), (3, .long z14), (0, .int h), (1, .int u), (2, .int p)]) [0, 1, 2, 3, 4] rfl ?_
          exact ih4 z15 z14 (by omega) hF (by omega)
        · replace hF := kf_p c11 hF
          refine kw_iload_n (pc := 22) (i := 15) (k := 4) (n := 2) rfl rfl rfl ?_
          refine kw_i2l (pc := 23) (i := 16) rfl (fun z16 e_z16 t_z16 => ?_)
          replace hF := kf_le e_z16 hF
          refine kw_goto (pc := 24) (i := 17) (tgt := 32) rfl rfl ?_
          refine kw_lmul (pc := 32) (i := 22) rfl (fun z17 e_z17 => ?_)
          replace hF := kf_le e_z17 hF
          refine kw_lstore_n (pc := 33) (i := 23) (n := 3) (lv' := [(3, .long z17), (5, .int x1), (0, .int h), (1, .int u), (2, .int p)]) rfl rfl (by decide) rfl ?_
          refine kw_iinc' (pc := 34) (i := 24) (k := 1) (fun z => [(5, .int z), (3, .long z17), (0, .int h), (1, .int u), (2, .int p)]) rfl rfl (by decide) rfl (fun _ => rfl) (fun z18 e_z18 t_z18 => ?_)
          replace hF := kf_le e_z18 hF
          refine kw_goto (pc := 37) (i := 25) (tgt := 5) rfl rfl ?_
          refine kw_sub (lv' := [(5, .int z18), (3, .long z17), (0, .int h), (1, .int u), (2, .int p)]) [0, 1, 2, 3, 4] rfl ?_
          exact ih4 z18 z17 (by omega) hF (by omega)
  exact L3 _ 0 1 (by omega) hF (Nat.lt_succ_self _)
end
