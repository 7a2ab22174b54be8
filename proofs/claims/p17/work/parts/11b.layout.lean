noncomputable def f_X1_copyFrom_17_16 (σ : kw_S)  : kw_S := kf_l (kw_ua σ 44 (va_cpy (σ.1 39) (σ.1 44) ((0 : Int32).toNatClampNeg) ((0 : Int32).toNatClampNeg) ((6 : Int32).toNatClampNeg))) fun S1 => kf_l (kw_ua S1 45 (va_cpy (S1.1 40) (S1.1 45) ((0 : Int32).toNatClampNeg) ((0 : Int32).toNatClampNeg) ((6 : Int32).toNatClampNeg))) fun S2 => kf_l (kw_ua S2 46 (va_cpy (S2.1 41) (S2.1 46) ((0 : Int32).toNatClampNeg) ((0 : Int32).toNatClampNeg) ((6 : Int32).toNatClampNeg))) fun S3 => kf_l (kw_ua S3 47 (va_cpy (S3.1 42) (S3.1 47) ((0 : Int32).toNatClampNeg) ((0 : Int32).toNatClampNeg) ((6 : Int32).toNatClampNeg))) fun S4 => kf_l (kw_ua S4 48 (va_cpy (S4.1 43) (S4.1 48) ((0 : Int32).toNatClampNeg) ((0 : Int32).toNatClampNeg) ((8 : Int32).toNatClampNeg))) fun S5 => kw_ui (kw_ui S5 17 5 (S5.1 16 5)) 17 6 (S5.1 16 6)
theorem f_X1_copyFrom_17_16_u (σ : kw_S)  : f_X1_copyFrom_17_16 σ  = kf_l (kw_ua σ 44 (va_cpy (σ.1 39) (σ.1 44) ((0 : Int32).toNatClampNeg) ((0 : Int32).toNatClampNeg) ((6 : Int32).toNatClampNeg))) fun S1 => kf_l (kw_ua S1 45 (va_cpy (S1.1 40) (S1.1 45) ((0 : Int32).toNatClampNeg) ((0 : Int32).toNatClampNeg) ((6 : Int32).toNatClampNeg))) fun S2 => kf_l (kw_ua S2 46 (va_cpy (S2.1 41) (S2.1 46) ((0 : Int32).toNatClampNeg) ((0 : Int32).toNatClampNeg) ((6 : Int32).toNatClampNeg))) fun S3 => kf_l (kw_ua S3 47 (va_cpy (S3.1 42) (S3.1 47) ((0 : Int32).toNatClampNeg) ((0 : Int32).toNatClampNeg) ((6 : Int32).toNatClampNeg))) fun S4 => kf_l (kw_ua S4 48 (va_cpy (S4.1 43) (S4.1 48) ((0 : Int32).toNatClampNeg) ((0 : Int32).toNatClampNeg) ((8 : Int32).toNatClampNeg))) fun S5 => kw_ui (kw_ui S5 17 5 (S5.1 16 5)) 17 6 (S5.1 16 6) := rfl
abbrev p_X1_copyFrom_17_16 (σ : kw_S)  : Option Value → kw_S → Prop := fun vv σ' => (kw_I bX σ' ∧ kw_F [17, 44, 45, 46, 47, 48] σ σ') ∧ vv = none ∧ σ' = f_X1_copyFrom_17_16 σ
set_option maxRecDepth 100000 in
set_option maxHeartbeats 4000000 in
theorem c_X1_copyFrom_17_16 (l : Launch) (σ : kw_S) (hI : kw_I bX σ)  : kw_Met l 2 KX mX1_copyFrom [.ref 17, .ref 16] σ (p_X1_copyFrom_17_16 σ) := by
  have hF0 : kw_F [17, 44, 45, 46, 47, 48] σ σ := kw_F.rf
  have hF := (f_X1_copyFrom_17_16_u σ).symm
  have q_0 : (0 : Int32).toInt = 0 := rfl
  have q_6 : (6 : Int32).toInt = 6 := rfl
  have q_8 : (8 : Int32).toInt = 8 := rfl
  refine kw_Met.of (by decide) rfl tX1_copyFrom (Nat.le_of_ble_eq_true rfl) ?_
  show kw_AW l 2 kw_E0 KX mX1_copyFrom (p_X1_copyFrom_17_16 σ) 0 [(0, .ref 17), (1, .ref 16)] [] σ
  refine kw_aload_n (pc := 0) (i := 0) (k := 1) (n := 1) rfl rfl rfl ?_
  refine kw_get (pc := 1) (i := 1) (v := .ref 39) rfl rfl rfl lkX1_9 (fun _ => rfl) ?_
  refine kw_iconst (pc := 4) (i := 2) (v := 0) rfl rfl ?_
  refine kw_aload_n (pc := 5) (i := 3) (k := 0) (n := 0) rfl rfl rfl ?_
  refine kw_get (pc := 6) (i := 4) (v := .ref 44) rfl rfl rfl lkX1_9 (fun _ => rfl) ?_
  refine kw_iconst (pc := 9) (i := 5) (v := 0) rfl rfl ?_
  refine kw_bipush (pc := 10) (i := 6) (v := 6) rfl rfl ?_
  refine kw_copy (pc := 12) (i := 7) (n := 6) (m_ := 6) rfl laX1_27 rfl rfl (by omega) (by omega) (by omega) (by omega) (by omega) (by omega) (Nat.le_of_ble_eq_true rfl) ?_
  have I1 : kw_I bX (kw_ua σ 44 (va_cpy (σ.1 39) (σ.1 44) ((0 : Int32).toNatClampNeg) ((0 : Int32).toNatClampNeg) ((6 : Int32).toNatClampNeg))) := kw_I_ua hI (fun j => ⟨(kw_rng _).1, Int.le_of_lt_add_one (kw_rng _).2⟩)
  have F2 : kw_F [17, 44, 45, 46, 47, 48] σ (kw_ua σ 44 (va_cpy (σ.1 39) (σ.1 44) ((0 : Int32).toNatClampNeg) ((0 : Int32).toNatClampNeg) ((6 : Int32).toNatClampNeg))) := kw_F_ua hF0 (by decide)
  generalize hS3 : (kw_ua σ 44 (va_cpy (σ.1 39) (σ.1 44) ((0 : Int32).toNatClampNeg) ((0 : Int32).toNatClampNeg) ((6 : Int32).toNatClampNeg))) = S3 at I1 F2 ⊢
  replace hF := kf_le hS3.symm hF
  refine kw_aload_n (pc := 15) (i := 8) (k := 1) (n := 1) rfl rfl rfl ?_
  refine kw_get (pc := 16) (i := 9) (v := .ref 40) rfl rfl rfl lkX1_15 (fun _ => rfl) ?_
  refine kw_iconst (pc := 19) (i := 10) (v := 0) rfl rfl ?_
  refine kw_aload_n (pc := 20) (i := 11) (k := 0) (n := 0) rfl rfl rfl ?_
  refine kw_get (pc := 21) (i := 12) (v := .ref 45) rfl rfl rfl lkX1_15 (fun _ => rfl) ?_
  refine kw_iconst (pc := 24) (i := 13) (v := 0) rfl rfl ?_
  refine kw_bipush (pc := 25) (i := 14) (v := 6) rfl rfl ?_
  refine kw_copy (pc := 27) (i := 15) (n := 6) (m_ := 6) rfl laX1_27 rfl rfl (by omega) (by omega) (by omega) (by omega) (by omega) (by omega) (Nat.le_of_ble_eq_true rfl) ?_
  have I4 : kw_I bX (kw_ua S3 45 (va_cpy (S3.1 40) (S3.1 45) ((0 : Int32).toNatClampNeg) ((0 : Int32).toNatClampNeg) ((6 : Int32).toNatClampNeg))) := kw_I_ua I1 (fun j => ⟨(kw_rng _).1, Int.le_of_lt_add_one (kw_rng _).2⟩)
  have F5 : kw_F [17, 44, 45, 46, 47, 48] σ (kw_ua S3 45 (va_cpy (S3.1 40) (S3.1 45) ((0 : Int32).toNatClampNeg) ((0 : Int32).toNatClampNeg) ((6 : Int32).toNatClampNeg))) := kw_F_ua F2 (by decide)
  generalize hS6 : (kw_ua S3 45 (va_cpy (S3.1 40) (S3.1 45) ((0 : Int32).toNatClampNeg) ((0 : Int32).toNatClampNeg) ((6 : Int32).toNatClampNeg))) = S6 at I4 F5 ⊢
  replace hF := kf_le hS6.symm hF
  refine kw_aload_n (pc := 30) (i := 16) (k := 1) (n := 1) rfl rfl rfl ?_
  refine kw_get (pc := 31) (i := 17) (v := .ref 41) rfl rfl rfl lkX1_18 (fun _ => rfl) ?_
  refine kw_iconst (pc := 34) (i := 18) (v := 0) rfl rfl ?_
  refine kw_aload_n (pc := 35) (i := 19) (k := 0) (n := 0) rfl rfl rfl ?_
  refine kw_get (pc := 36) (i := 20) (v := .ref 46) rfl rfl rfl lkX1_18 (fun _ => rfl) ?_
  refine kw_iconst (pc := 39) (i := 21) (v := 0) rfl rfl ?_
  refine kw_bipush (pc := 40) (i := 22) (v := 6) rfl rfl ?_
  refine kw_copy (pc := 42) (i := 23) (n := 6) (m_ := 6) rfl laX1_27 rfl rfl (by omega) (by omega) (by omega) (by omega) (by omega) (by omega) (Nat.le_of_ble_eq_true rfl) ?_
  have I7 : kw_I bX (kw_ua S6 46 (va_cpy (S6.1 41) (S6.1 46) ((0 : Int32).toNatClampNeg) ((0 : Int32).toNatClampNeg) ((6 : Int32).toNatClampNeg))) := kw_I_ua I4 (fun j => ⟨(kw_rng _).1, Int.le_of_lt_add_one (kw_rng _).2⟩)
  have F8 : kw_F [17, 44, 45, 46, 47, 48] σ (kw_ua S6 46 (va_cpy (S6.1 41) (S6.1 46) ((0 : Int32).toNatClampNeg) ((0 : Int32).toNatClampNeg) ((6 : Int32).toNatClampNeg))) := kw_F_ua F5 (by decide)
  generalize hS9 : (kw_ua S6 46 (va_cpy (S6.1 41) (S6.1 46) ((0 : Int32).toNatClampNeg) ((0 : Int32).toNatClampNeg) ((6 : Int32).toNatClampNeg))) = S9 at I7 F8 ⊢
  replace hF := kf_le hS9.symm hF
  refine kw_aload_n (pc := 45) (i := 24) (k := 1) (n := 1) rfl rfl rfl ?_
  refine kw_get (pc := 46) (i := 25) (v := .ref 42) rfl rfl rfl lkX1_21 (fun _ => rfl) ?_
  refine kw_iconst (pc := 49) (i := 26) (v := 0) rfl rfl ?_
  refine kw_aload_n (pc := 50) (i := 27) (k := 0) (n := 0) rfl rfl rfl ?_
  refine kw_get (pc := 51) (i := 28) (v := .ref 47) rfl rfl rfl lkX1_21 (fun _ => rfl) ?_
  refine kw_iconst (pc := 54) (i := 29) (v := 0) rfl rfl ?_
  refine kw_bipush (pc := 55) (i := 30) (v := 6) rfl rfl ?_
  refine kw_copy (pc := 57) (i := 31) (n := 6) (m_ := 6) rfl laX1_27 rfl rfl (by omega) (by omega) (by omega) (by omega) (by omega) (by omega) (Nat.le_of_ble_eq_true rfl) ?_
  have I10 : kw_I bX (kw_ua S9 47 (va_cpy (S9.1 42) (S9.1 47) ((0 : Int32).toNatClampNeg) ((0 : Int32).toNatClampNeg) ((6 : Int32).toNatClampNeg))) := kw_I_ua I7 (fun j => ⟨(kw_rng _).1, Int.le_of_lt_add_one (kw_rng _).2⟩)
  have F11 : kw_F [17, 44, 45, 46, 47, 48] σ (kw_ua S9 47 (va_cpy (S9.1 42) (S9.1 47) ((0 : Int32).toNatClampNeg) ((0 : Int32).toNatClampNeg) ((6 : Int32).toNatClampNeg))) := kw_F_ua F8 (by decide)
  generalize hS12 : (kw_ua S9 47 (va_cpy (S9.1 42) (S9.1 47) ((0 : Int32).toNatClampNeg) ((0 : Int32).toNatClampNeg) ((6 : Int32).toNatClampNeg))) = S12 at I10 F11 ⊢
  replace hF := kf_le hS12.symm hF
  refine kw_aload_n (pc := 60) (i := 32) (k := 1) (n := 1) rfl rfl rfl ?_
  refine kw_get (pc := 61) (i := 33) (v := .ref 43) rfl rfl rfl lkX1_24 (fun _ => rfl) ?_
  refine kw_iconst (pc := 64) (i := 34) (v := 0) rfl rfl ?_
  refine kw_aload_n (pc := 65) (i := 35) (k := 0) (n := 0) rfl rfl rfl ?_
  refine kw_get (pc := 66) (i := 36) (v := .ref 48) rfl rfl rfl lkX1_24 (fun _ => rfl) ?_
  refine kw_iconst (pc := 69) (i := 37) (v := 0) rfl rfl ?_
  refine kw_bipush (pc := 70) (i := 38) (v := 8) rfl rfl ?_
  refine kw_copy (pc := 72) (i := 39) (n := 8) (m_ := 8) rfl laX1_27 rfl rfl (by omega) (by omega) (by omega) (by omega) (by omega) (by omega) (Nat.le_of_ble_eq_true rfl) ?_
  have I13 : kw_I bX (kw_ua S12 48 (va_cpy (S12.1 43) (S12.1 48) ((0 : Int32).toNatClampNeg) ((0 : Int32).toNatClampNeg) ((8 : Int32).toNatClampNeg))) := kw_I_ua I10 (fun j => ⟨(kw_rng _).1, Int.le_of_lt_add_one (kw_rng _).2⟩)
  have F14 : kw_F [17, 44, 45, 46, 47, 48] σ (kw_ua S12 48 (va_cpy (S12.1 43) (S12.1 48) ((0 : Int32).toNatClampNeg) ((0 : Int32).toNatClampNeg) ((8 : Int32).toNatClampNeg))) := kw_F_ua F11 (by decide)
  generalize hS15 : (kw_ua S12 48 (va_cpy (S12.1 43) (S12.1 48) ((0 : Int32).toNatClampNeg) ((0 : Int32).toNatClampNeg) ((8 : Int32).toNatClampNeg))) = S15 at I13 F14 ⊢
  replace hF := kf_le hS15.symm hF
  refine kw_aload_n (pc := 75) (i := 40) (k := 0) (n := 0) rfl rfl rfl ?_
  refine kw_aload_n (pc := 76) (i := 41) (k := 1) (n := 1) rfl rfl rfl ?_
  refine kw_get (pc := 77) (i := 42) (v := .int (S15.1 16 5)) rfl rfl rfl lkX1_33 (fun _ => rfl) ?_
  have b16 : 0 ≤ (S15.1 16 5).toInt ∧ (S15.1 16 5).toInt ≤ 6 := I13 16 5
  refine kw_puti (pc := 80) (i := 43) (z := 0) rfl rfl rfl lpX1_33 rfl rfl ?_
  have I17 : kw_I bX (kw_ui S15 17 5 (S15.1 16 5)) := kw_I_ui I13 (show 0 ≤ (S15.1 16 5).toInt by omega) (show (S15.1 16 5).toInt ≤ 6 by omega)
  have F18 : kw_F [17, 44, 45, 46, 47, 48] σ (kw_ui S15 17 5 (S15.1 16 5)) := kw_F_ui F14 (by decide)
  refine kw_aload_n (pc := 83) (i := 44) (k := 0) (n := 0) rfl rfl rfl ?_
  refine kw_aload_n (pc := 84) (i := 45) (k := 1) (n := 1) rfl rfl rfl ?_
  refine kw_get (pc := 85) (i := 46) (v := .int (S15.1 16 6)) rfl rfl rfl lkX1_37 (fun _ => rfl) ?_
  have b19 : 0 ≤ (S15.1 16 6).toInt ∧ (S15.1 16 6).toInt ≤ 8 := I13 16 6
  refine kw_puti (pc := 88) (i := 47) (z := 0) rfl rfl rfl lpX1_37 rfl rfl ?_
  have I20 : kw_I bX (kw_ui (kw_ui S15 17 5 (S15.1 16 5)) 17 6 (S15.1 16 6)) := kw_I_ui I17 (show 0 ≤ (S15.1 16 6).toInt by omega) (show (S15.1 16 6).toInt ≤ 8 by omega)
  have F21 : kw_F [17, 44, 45, 46, 47, 48] σ (kw_ui (kw_ui S15 17 5 (S15.1 16 5)) 17 6 (S15.1 16 6)) := kw_F_ui F18 (by decide)
  exact kw_return (pc := 91) (i := 48) rfl rfl ⟨⟨I20, F21⟩, rfl, hF⟩
noncomputable def f_X1_hasLine_17 (σ : kw_S) (i : Int32) : Int32 := if i.toInt < 0 then ((0 : Int32)) else (if i.toInt < (σ.1 17 5).toInt then ((1 : Int32)) else ((0 : Int32)))
theorem f_X1_hasLine_17_u (σ : kw_S) (i : Int32) : f_X1_hasLine_17 σ i = if i.toInt < 0 then ((0 : Int32)) else (if i.toInt < (σ.1 17 5).toInt then ((1 : Int32)) else ((0 : Int32))) := rfl
abbrev p_X1_hasLine_17 (σ : kw_S) (i : Int32) : Option Value → kw_S → Prop := fun vv σ' => σ' = σ ∧ ∃ r : Int32, vv = some (.int r) ∧ (r.toInt = 0 ∨ r.toInt = 1) ∧ (r.toInt = 0 ∨ 0 ≤ i.toInt ∧ i.toInt < (σ.1 17 5).toInt ∧ i.toInt < 6) ∧ r = f_X1_hasLine_17 σ i
set_option maxRecDepth 100000 in
set_option maxHeartbeats 4000000 in
theorem c_X1_hasLine_17 (l : Launch) (σ : kw_S) (hI : kw_I bX σ) (i : Int32) : kw_Met l 1 KX mX1_hasLine [.ref 17, .int i] σ (p_X1_hasLine_17 σ i) := by
  have r_i := kw_rng i
  have hF := (f_X1_hasLine_17_u σ i).symm
  have q_0 : (0 : Int32).toInt = 0 := rfl
  have q_1 : (1 : Int32).toInt = 1 := rfl
  refine kw_Met.of (by decide) rfl tX1_hasLine (Nat.le_of_ble_eq_true rfl) ?_
  show kw_AW l 1 kw_E0 KX mX1_hasLine (p_X1_hasLine_17 σ i) 0 [(0, .ref 17), (1, .int i)] [] σ
  refine kw_iload_n (pc := 0) (i := 0) (k := 1) (n := 1) rfl rfl rfl ?_
  refine kw_if_lt (pc := 1) (i := 1) (tgt := 16) rfl rfl (fun c1 => ?_) (fun c1 => ?_)
  · replace hF := kf_p c1 hF
    refine kw_iconst (pc := 16) (i := 8) (v := 0) rfl rfl ?_
    exact kw_ireturn (pc := 17) (i := 9) (ty := .boolean) rfl rfl rfl ⟨rfl, _, rfl, by omega, by omega, hF⟩
  · replace hF := kf_nl c1 hF
    refine kw_iload_n (pc := 4) (i := 2) (k := 1) (n := 1) rfl rfl rfl ?_
    refine kw_aload_n (pc := 5) (i := 3) (k := 0) (n := 0) rfl rfl rfl ?_
    refine kw_get (pc := 6) (i := 4) (v := .int (σ.1 17 5)) rfl rfl rfl lkX1_33 (fun _ => rfl) ?_
    have b2 : 0 ≤ (σ.1 17 5).toInt ∧ (σ.1 17 5).toInt ≤ 6 := hI 17 5
    refine kw_icmp_ge (pc := 9) (i := 5) (tgt := 16) rfl rfl (fun c3 => ?_) (fun c3 => ?_)
    · replace hF := kf_nl c3 hF
      refine kw_iconst (pc := 16) (i := 8) (v := 0) rfl rfl ?_
      exact kw_ireturn (pc := 17) (i := 9) (ty := .boolean) rfl rfl rfl ⟨rfl, _, rfl, by omega, by omega, hF⟩
    · replace hF := kf_p c3 hF
      refine kw_iconst (pc := 12) (i := 6) (v := 1) rfl rfl ?_
      refine kw_goto (pc := 13) (i := 7) (tgt := 17) rfl rfl ?_
      exact kw_ireturn (pc := 17) (i := 9) (ty := .boolean) rfl rfl rfl ⟨rfl, _, rfl, by omega, by omega, hF⟩
noncomputable def f_X1_allLines_17 (σ : kw_S)  : Int32 := kf_l ((1 : Int32) <<< ((σ.1 17 5) &&& 31)) fun z1 => kf_l (z1 - (1 : Int32)) fun z2 => z2
theorem f_X1_allLines_17_u (σ : kw_S)  : f_X1_allLines_17 σ  = kf_l ((1 : Int32) <<< ((σ.1 17 5) &&& 31)) fun z1 => kf_l (z1 - (1 : Int32)) fun z2 => z2 := rfl
abbrev p_X1_allLines_17 (σ : kw_S)  : Option Value → kw_S → Prop := fun vv σ' => σ' = σ ∧ ∃ r : Int32, vv = some (.int r) ∧ r = f_X1_allLines_17 σ
set_option maxRecDepth 100000 in
set_option maxHeartbeats 4000000 in
theorem c_X1_allLines_17 (l : Launch) (σ : kw_S) (hI : kw_I bX σ)  : kw_Met l 1 KX mX1_allLines [.ref 17] σ (p_X1_allLines_17 σ) := by
  have hF := (f_X1_allLines_17_u σ).symm
  have q_1 : (1 : Int32).toInt = 1 := rfl
  refine kw_Met.of (by decide) rfl tX1_allLines (Nat.le_of_ble_eq_true rfl) ?_
  show kw_AW l 1 kw_E0 KX mX1_allLines (p_X1_allLines_17 σ) 0 [(0, .ref 17)] [] σ
  refine kw_iconst (pc := 0) (i := 0) (v := 1) rfl rfl ?_
  refine kw_aload_n (pc := 1) (i := 1) (k := 0) (n := 0) rfl rfl rfl ?_
  refine kw_get (pc := 2) (i := 2) (v := .int (σ.1 17 5)) rfl rfl rfl lkX1_33 (fun _ => rfl) ?_
  have b1 : 0 ≤ (σ.1 17 5).toInt ∧ (σ.1 17 5).toInt ≤ 6 := hI 17 5
  refine kw_ishl (pc := 5) (i := 3) rfl (fun z2 e_z2 => ?_)
  have r_z2 := kw_rng z2
  replace hF := kf_le e_z2 hF
  refine kw_iconst (pc := 6) (i := 4) (v := 1) rfl rfl ?_
  refine kw_isub (pc := 7) (i := 5) rfl (fun z3 e_z3 t_z3 => ?_)
  replace hF := kf_le e_z3 hF
  exact kw_ireturn (pc := 8) (i := 6) (ty := .int) rfl rfl rfl ⟨rfl, _, rfl, hF⟩
noncomputable def f_X1_hasSet_17 (σ : kw_S) (s : Int32) : Int32 := if s.toInt < 0 then ((0 : Int32)) else (kf_l (f_X1_allLines_17 σ) fun z1 => if z1.toInt < s.toInt then ((0 : Int32)) else ((1 : Int32)))
theorem f_X1_hasSet_17_u (σ : kw_S) (s : Int32) : f_X1_hasSet_17 σ s = if s.toInt < 0 then ((0 : Int32)) else (kf_l (f_X1_allLines_17 σ) fun z1 => if z1.toInt < s.toInt then ((0 : Int32)) else ((1 : Int32))) := rfl
abbrev p_X1_hasSet_17 (σ : kw_S) (s : Int32) : Option Value → kw_S → Prop := fun vv σ' => σ' = σ ∧ ∃ r : Int32, vv = some (.int r) ∧ (r.toInt = 0 ∨ r.toInt = 1) ∧ r = f_X1_hasSet_17 σ s
set_option maxRecDepth 100000 in
set_option maxHeartbeats 4000000 in
theorem c_X1_hasSet_17 (l : Launch) (σ : kw_S) (hI : kw_I bX σ) (s : Int32) : kw_Met l 2 KX mX1_hasSet [.ref 17, .int s] σ (p_X1_hasSet_17 σ s) := by
  have r_s := kw_rng s
  have hF := (f_X1_hasSet_17_u σ s).symm
  have q_0 : (0 : Int32).toInt = 0 := rfl
  have q_1 : (1 : Int32).toInt = 1 := rfl
  refine kw_Met.of (by decide) rfl tX1_hasSet (Nat.le_of_ble_eq_true rfl) ?_
  show kw_AW l 2 kw_E0 KX mX1_hasSet (p_X1_hasSet_17 σ s) 0 [(0, .ref 17), (1, .int s)] [] σ
  refine kw_iload_n (pc := 0) (i := 0) (k := 1) (n := 1) rfl rfl rfl ?_
  refine kw_if_lt (pc := 1) (i := 1) (tgt := 16) rfl rfl (fun c1 => ?_) (fun c1 => ?_)
  · replace hF := kf_p c1 hF
    refine kw_iconst (pc := 16) (i := 8) (v := 0) rfl rfl ?_
    exact kw_ireturn (pc := 17) (i := 9) (ty := .boolean) rfl rfl rfl ⟨rfl, _, rfl, by omega, hF⟩
  · replace hF := kf_nl c1 hF
    refine kw_iload_n (pc := 4) (i := 2) (k := 1) (n := 1) rfl rfl rfl ?_
    refine kw_aload_n (pc := 5) (i := 3) (k := 0) (n := 0) rfl rfl rfl ?_
    refine kw_callV (pc := 6) (i := 4) (Y := mX1_allLines) (a := 17) (As := []) (st := [.int s]) kw_hE rfl rfl lvX1_40 arX1_allLines (c_X1_allLines_17 l σ hI  ) (by decide) (Nat.le_of_ble_eq_true rfl) rfl (fun v S3 p2 => ?_)
    obtain ⟨e6, z5, rfl, ef4⟩ := p2
    rw [e6]
    replace hF := kf_le ef4 hF
    have r_z5 := kw_rng z5
    show kw_AW l 2 kw_E0 KX mX1_hasSet (p_X1_hasSet_17 σ s) 9 [(0, .ref 17), (1, .int s)] [.int z5, .int s] σ
    refine kw_icmp_gt (pc := 9) (i := 5) (tgt := 16) rfl rfl (fun c7 => ?_) (fun c7 => ?_)
    · replace hF := kf_p c7 hF
      refine kw_iconst (pc := 16) (i := 8) (v := 0) rfl rfl ?_
      exact kw_ireturn (pc := 17) (i := 9) (ty := .boolean) rfl rfl rfl ⟨rfl, _, rfl, by omega, hF⟩
    · replace hF := kf_nl c7 hF
      refine kw_iconst (pc := 12) (i := 6) (v := 1) rfl rfl ?_
      refine kw_goto (pc := 13) (i := 7) (tgt := 17) rfl rfl ?_
      exact kw_ireturn (pc := 17) (i := 9) (ty := .boolean) rfl rfl rfl ⟨rfl, _, rfl, by omega, hF⟩
noncomputable def f_X1_windAt_17 (σ : kw_S) (h : Int32) : Int32 := if (σ.1 17 6).toInt < (1 : Int32).toInt then ((0 : Int32)) else (if h.toInt < 0 then ((0 : Int32)) else (kf_l (h - h / (σ.1 17 6) * (σ.1 17 6)) fun z1 => kf_l (σ.1 48 z1.toNatClampNeg) fun z2 => z2))
theorem f_X1_windAt_17_u (σ : kw_S) (h : Int32) : f_X1_windAt_17 σ h = if (σ.1 17 6).toInt < (1 : Int32).toInt then ((0 : Int32)) else (if h.toInt < 0 then ((0 : Int32)) else (kf_l (h - h / (σ.1 17 6) * (σ.1 17 6)) fun z1 => kf_l (σ.1 48 z1.toNatClampNeg) fun z2 => z2)) := rfl
abbrev p_X1_windAt_17 (σ : kw_S) (h : Int32) : Option Value → kw_S → Prop := fun vv σ' => σ' = σ ∧ ∃ r : Int32, vv = some (.int r) ∧ r = f_X1_windAt_17 σ h
set_option maxRecDepth 100000 in
set_option maxHeartbeats 4000000 in
theorem c_X1_windAt_17 (l : Launch) (σ : kw_S) (hI : kw_I bX σ) (h : Int32) : kw_Met l 1 KX mX1_windAt [.ref 17, .int h] σ (p_X1_windAt_17 σ h) := by
  have r_h := kw_rng h
  have hF := (f_X1_windAt_17_u σ h).symm
  have q_0 : (0 : Int32).toInt = 0 := rfl
  have q_1 : (1 : Int32).toInt = 1 := rfl
  refine kw_Met.of (by decide) rfl tX1_windAt (Nat.le_of_ble_eq_true rfl) ?_
  show kw_AW l 1 kw_E0 KX mX1_windAt (p_X1_windAt_17 σ h) 0 [(0, .ref 17), (1, .int h)] [] σ
  refine kw_aload_n (pc := 0) (i := 0) (k := 0) (n := 0) rfl rfl rfl ?_
  refine kw_get (pc := 1) (i := 1) (v := .int (σ.1 17 6)) rfl rfl rfl lkX1_37 (fun _ => rfl) ?_
  have b1 : 0 ≤ (σ.1 17 6).toInt ∧ (σ.1 17 6).toInt ≤ 8 := hI 17 6
  refine kw_iconst (pc := 4) (i := 2) (v := 1) rfl rfl ?_
  refine kw_icmp_lt (pc := 5) (i := 3) (tgt := 12) rfl rfl (fun c2 => ?_) (fun c2 => ?_)
  · replace hF := kf_p c2 hF
    refine kw_iconst (pc := 12) (i := 6) (v := 0) rfl rfl ?_
    refine kw_goto (pc := 13) (i := 7) (tgt := 27) rfl rfl ?_
    exact kw_ireturn (pc := 27) (i := 15) (ty := .int) rfl rfl rfl ⟨rfl, _, rfl, hF⟩
  · replace hF := kf_nl c2 hF
    refine kw_iload_n (pc := 8) (i := 4) (k := 1) (n := 1) rfl rfl rfl ?_
    refine kw_if_ge (pc := 9) (i := 5) (tgt := 16) rfl rfl (fun c3 => ?_) (fun c3 => ?_)
    · replace hF := kf_nl c3 hF
      refine kw_aload_n (pc := 16) (i := 8) (k := 0) (n := 0) rfl rfl rfl ?_
      refine kw_get (pc := 17) (i := 9) (v := .ref 48) rfl rfl rfl lkX1_24 (fun _ => rfl) ?_
      refine kw_iload_n (pc := 20) (i := 10) (k := 1) (n := 1) rfl rfl rfl ?_
      refine kw_aload_n (pc := 21) (i := 11) (k := 0) (n := 0) rfl rfl rfl ?_
      refine kw_get (pc := 22) (i := 12) (v := .int (σ.1 17 6)) rfl rfl rfl lkX1_37 (fun _ => rfl) ?_
      refine kw_irem (pc := 25) (i := 13) rfl (by omega) (fun z4 e_z4 => ?_)
      have r_z4 := kw_rng z4
      replace hF := kf_le e_z4 hF
      have t_z4 := kw_remI h (σ.1 17 6) z4 e_z4
      refine kw_iald (pc := 26) (i := 14) (n := 8) rfl rfl (by omega) (by omega) (fun z5 e_z5 => ?_)
      replace hF := kf_le e_z5 hF
      have t_z5 := congrArg Int32.toInt e_z5
      have r_z5 := kw_rng z5
      exact kw_ireturn (pc := 27) (i := 15) (ty := .int) rfl rfl rfl ⟨rfl, _, rfl, hF⟩
    · replace hF := kf_p c3 hF
      refine kw_iconst (pc := 12) (i := 6) (v := 0) rfl rfl ?_
      refine kw_goto (pc := 13) (i := 7) (tgt := 27) rfl rfl ?_
      exact kw_ireturn (pc := 27) (i := 15) (ty := .int) rfl rfl rfl ⟨rfl, _, rfl, hF⟩
noncomputable def f_X1_pullOf_17 (σ : kw_S) (i : Int32) (w : Int32) : Int32 := kf_l (f_X1_hasLine_17 σ i) fun z1 => if z1.toInt = 0 then ((0 : Int32)) else (kf_l (σ.1 44 i.toNatClampNeg) fun z2 => kf_l (σ.1 46 i.toNatClampNeg) fun z3 => kf_l (f_X7_pull σ z2 z3 w) fun z4 => z4)
theorem f_X1_pullOf_17_u (σ : kw_S) (i : Int32) (w : Int32) : f_X1_pullOf_17 σ i w = kf_l (f_X1_hasLine_17 σ i) fun z1 => if z1.toInt = 0 then ((0 : Int32)) else (kf_l (σ.1 44 i.toNatClampNeg) fun z2 => kf_l (σ.1 46 i.toNatClampNeg) fun z3 => kf_l (f_X7_pull σ z2 z3 w) fun z4 => z4) := rfl
abbrev p_X1_pullOf_17 (σ : kw_S) (i : Int32) (w : Int32) : Option Value → kw_S → Prop := fun vv σ' => σ' = σ ∧ ∃ r : Int32, vv = some (.int r) ∧ r = f_X1_pullOf_17 σ i w
set_option maxRecDepth 100000 in
set_option maxHeartbeats 4000000 in
theorem c_X1_pullOf_17 (l : Launch) (σ : kw_S) (hI : kw_I bX σ) (i : Int32) (w : Int32) : kw_Met l 2 KX mX1_pullOf [.ref 17, .int i, .int w] σ (p_X1_pullOf_17 σ i w) := by
  have r_i := kw_rng i
  have r_w := kw_rng w
  have hF := (f_X1_pullOf_17_u σ i w).symm
  have q_0 : (0 : Int32).toInt = 0 := rfl
  refine kw_Met.of (by decide) rfl tX1_pullOf (Nat.le_of_ble_eq_true rfl) ?_
  show kw_AW l 2 kw_E0 KX mX1_pullOf (p_X1_pullOf_17 σ i w) 0 [(0, .ref 17), (1, .int i), (2, .int w)] [] σ
  refine kw_aload_n (pc := 0) (i := 0) (k := 0) (n := 0) rfl rfl rfl ?_
  refine kw_iload_n (pc := 1) (i := 1) (k := 1) (n := 1) rfl rfl rfl ?_
  refine kw_callV (pc := 2) (i := 2) (Y := mX1_hasLine) (a := 17) (As := [.int i]) (st := []) kw_hE rfl rfl lvX1_44 arX1_hasLine (c_X1_hasLine_17 l σ hI i ) (by decide) (Nat.le_of_ble_eq_true rfl) rfl (fun v S2 p1 => ?_)
  obtain ⟨e7, z6, rfl, f3, f4, ef5⟩ := p1
  rw [e7]
  replace hF := kf_le ef5 hF
  have r_z6 := kw_rng z6
  show kw_AW l 2 kw_E0 KX mX1_pullOf (p_X1_pullOf_17 σ i w) 5 [(0, .ref 17), (1, .int i), (2, .int w)] [.int z6] σ
  refine kw_if_eq (pc := 5) (i := 3) (tgt := 27) rfl rfl (fun c8 => ?_) (fun c8 => ?_)
  · replace hF := kf_p c8 hF
    refine kw_iconst (pc := 27) (i := 15) (v := 0) rfl rfl ?_
    exact kw_ireturn (pc := 28) (i := 16) (ty := .int) rfl rfl rfl ⟨rfl, _, rfl, hF⟩
  · replace hF := kf_n c8 hF
    refine kw_aload_n (pc := 8) (i := 4) (k := 0) (n := 0) rfl rfl rfl ?_
    refine kw_get (pc := 9) (i := 5) (v := .ref 44) rfl rfl rfl lkX1_9 (fun _ => rfl) ?_
    refine kw_iload_n (pc := 12) (i := 6) (k := 1) (n := 1) rfl rfl rfl ?_
    refine kw_iald (pc := 13) (i := 7) (n := 6) rfl rfl (by omega) (by omega) (fun z9 e_z9 => ?_)
    replace hF := kf_le e_z9 hF
    have t_z9 := congrArg Int32.toInt e_z9
    have r_z9 := kw_rng z9
    refine kw_aload_n (pc := 14) (i := 8) (k := 0) (n := 0) rfl rfl rfl ?_
    refine kw_get (pc := 15) (i := 9) (v := .ref 46) rfl rfl rfl lkX1_18 (fun _ => rfl) ?_
    refine kw_iload_n (pc := 18) (i := 10) (k := 1) (n := 1) rfl rfl rfl ?_
    refine kw_iald (pc := 19) (i := 11) (n := 6) rfl rfl (by omega) (by omega) (fun z10 e_z10 => ?_)
    replace hF := kf_le e_z10 hF
    have t_z10 := congrArg Int32.toInt e_z10
    have r_z10 := kw_rng z10
    refine kw_iload_n (pc := 20) (i := 12) (k := 2) (n := 2) rfl rfl rfl ?_
    refine kw_callN (pc := 21) (i := 13) (Y := mX7_pull) (As := [.int z9, .int z10, .int w]) (st := []) kw_hE rfl lnX1_48 arX7_pull (c_X7_pull l σ hI z9 z10 w ) (by decide) (Nat.le_of_ble_eq_true rfl) rfl (fun v S12 p11 => ?_)
    obtain ⟨e15, z14, rfl, ef13⟩ := p11
    rw [e15]
    replace hF := kf_le ef13 hF
    have r_z14 := kw_rng z14
    show kw_AW l 2 kw_E0 KX mX1_pullOf (p_X1_pullOf_17 σ i w) 24 [(0, .ref 17), (1, .int i), (2, .int w)] [.int z14] σ
    refine kw_goto (pc := 24) (i := 14) (tgt := 28) rfl rfl ?_
    exact kw_ireturn (pc := 28) (i := 16) (ty := .int) rfl rfl rfl ⟨rfl, _, rfl, hF⟩
noncomputable def l_X1_milesOf_17_5 (a1 : Int32) (a2 : Int32) (S : kw_S) : Nat → Int32 → Int32 → Int32
  | 0, _, _ => 0
  | n + 1, x3, x4 => if x4.toInt < (S.1 17 5).toInt then (kf_l (a1 >>> (x4 &&& 31)) fun z2 => kf_l (z2 &&& (1 : Int32)) fun z3 => if z3.toInt = (1 : Int32).toInt then (kf_l (f_X1_pullOf_17 S x4 a2) fun z5 => kf_l (x3 + z5) fun z6 => kf_l (x4 + Int32.ofInt 1) fun z7 => l_X1_milesOf_17_5 a1 a2 S n z6 z7) else (kf_l (x4 + Int32.ofInt 1) fun z4 => l_X1_milesOf_17_5 a1 a2 S n x3 z4)) else (kf_l (x3 / (4 : Int32)) fun z1 => z1)
theorem l_X1_milesOf_17_5_s (a1 : Int32) (a2 : Int32) (S : kw_S) (n : Nat) (x3 : Int32) (x4 : Int32) : l_X1_milesOf_17_5 a1 a2 S (n + 1) x3 x4 = if x4.toInt < (S.1 17 5).toInt then (kf_l (a1 >>> (x4 &&& 31)) fun z2 => kf_l (z2 &&& (1 : Int32)) fun z3 => if z3.toInt = (1 : Int32).toInt then (kf_l (f_X1_pullOf_17 S x4 a2) fun z5 => kf_l (x3 + z5) fun z6 => kf_l (x4 + Int32.ofInt 1) fun z7 => l_X1_milesOf_17_5 a1 a2 S n z6 z7) else (kf_l (x4 + Int32.ofInt 1) fun z4 => l_X1_milesOf_17_5 a1 a2 S n x3 z4)) else (kf_l (x3 / (4 : Int32)) fun z1 => z1) := rfl
noncomputable def f_X1_milesOf_17 (σ : kw_S) (s : Int32) (w : Int32) : Int32 := l_X1_milesOf_17_5 s w σ ((7 - (0 : Int32).toInt).toNat + 1) (0 : Int32) (0 : Int32)
theorem f_X1_milesOf_17_u (σ : kw_S) (s : Int32) (w : Int32) : f_X1_milesOf_17 σ s w = l_X1_milesOf_17_5 s w σ ((7 - (0 : Int32).toInt).toNat + 1) (0 : Int32) (0 : Int32) := rfl
abbrev p_X1_milesOf_17 (σ : kw_S) (s : Int32) (w : Int32) : Option Value → kw_S → Prop := fun vv σ' => σ' = σ ∧ ∃ r : Int32, vv = some (.int r) ∧ r = f_X1_milesOf_17 σ s w
set_option maxRecDepth 100000 in
set_option maxHeartbeats 4000000 in
theorem c_X1_milesOf_17 (l : Launch) (σ : kw_S) (hI : kw_I bX σ) (s : Int32) (w : Int32) : kw_Met l 3 KX mX1_milesOf [.ref 17, .int s, .int w] σ (p_X1_milesOf_17 σ s w) := by
  have r_s := kw_rng s
  have r_w := kw_rng w
  have hF := (f_X1_milesOf_17_u σ s w).symm
  have q_0 : (0 : Int32).toInt = 0 := rfl
  have q_1 : (1 : Int32).toInt = 1 := rfl
  have q_4 : (4 : Int32).toInt = 4 := rfl
  refine kw_Met.of (by decide) rfl tX1_milesOf (Nat.le_of_ble_eq_true rfl) ?_
  show kw_AW l 3 kw_E0 KX mX1_milesOf (p_X1_milesOf_17 σ s w) 0 [(0, .ref 17), (1, .int s), (2, .int w)] [] σ
  refine kw_iconst (pc := 0) (i := 0) (v := 0) rfl rfl ?_
  refine kw_istore_n (pc := 1) (i := 1) (n := 3) (lv' := [(3, .int 0), (0, .ref 17), (1, .int s), (2, .int w)]) rfl rfl (by decide) rfl ?_
  refine kw_iconst (pc := 2) (i := 2) (v := 0) rfl rfl ?_
  refine kw_istore (pc := 3) (i := 3) (n := 4) (lv' := [(4, .int 0), (3, .int 0), (0, .ref 17), (1, .int s), (2, .int w)]) rfl (by decide) rfl ?_
  have L3 : ∀ (n7 : Nat) (x1 : Int32) (x2 : Int32), 0 ≤ x1.toInt → l_X1_milesOf_17_5 s w σ n7 x2 x1 = (f_X1_milesOf_17 σ s w) → (7 - x1.toInt).toNat < n7 → kw_AW l 3 kw_E0 KX mX1_milesOf (p_X1_milesOf_17 σ s w) 5 [(4, .int x1), (3, .int x2), (0, .ref 17), (1, .int s), (2, .int w)] [] σ := by
    intro n7
    induction n7 with
    | zero => intro x1 x2 v5 hF m6; exact absurd m6 (Nat.not_lt_zero _)
    | succ n7 ih4 =>
      intro x1 x2 v5 hF m6
      replace hF := kf_st (l_X1_milesOf_17_5_s _ _ _ _ _ _) hF
      have r_x1 := kw_rng x1
      have r_x2 := kw_rng x2
      refine kw_iload (pc := 5) (i := 4) (k := 0) (n := 4) rfl rfl ?_
      refine kw_aload_n (pc := 7) (i := 5) (k := 2) (n := 0) rfl rfl rfl ?_
      refine kw_get (pc := 8) (i := 6) (v := .int (σ.1 17 5)) rfl rfl rfl lkX1_33 (fun _ => rfl) ?_
      have b8 : 0 ≤ (σ.1 17 5).toInt ∧ (σ.1 17 5).toInt ≤ 6 := hI 17 5
      refine kw_icmp_ge (pc := 11) (i := 7) (tgt := 40) rfl rfl (fun c9 => ?_) (fun c9 => ?_)
      · replace hF := kf_nl c9 hF
        refine kw_iload_n (pc := 40) (i := 24) (k := 1) (n := 3) rfl rfl rfl ?_
        refine kw_iconst (pc := 41) (i := 25) (v := 4) rfl rfl ?_
        refine kw_idiv (pc := 42) (i := 26) rfl (by omega) (fun z10 e_z10 => ?_)
        have r_z10 := kw_rng z10
        replace hF := kf_le e_z10 hF
        exact kw_ireturn (pc := 43) (i := 27) (ty := .int) rfl rfl rfl ⟨rfl, _, rfl, hF⟩
      · replace hF := kf_p c9 hF
        refine kw_iload_n (pc := 14) (i := 8) (k := 3) (n := 1) rfl rfl rfl ?_
        refine kw_iload (pc := 15) (i := 9) (k := 0) (n := 4) rfl rfl ?_
        refine kw_ishr (pc := 17) (i := 10) rfl (fun z11 e_z11 => ?_)
        have r_z11 := kw_rng z11
        replace hF := kf_le e_z11 hF
        refine kw_iconst (pc := 18) (i := 11) (v := 1) rfl rfl ?_
        refine kw_iand (pc := 19) (i := 12) rfl (fun z12 e_z12 => ?_)
        have r_z12 := kw_rng z12
        replace hF := kf_le e_z12 hF
        refine kw_iconst (pc := 20) (i := 13) (v := 1) rfl rfl ?_
        refine kw_icmp_ne (pc := 21) (i := 14) (tgt := 34) rfl rfl (fun c13 => ?_) (fun c13 => ?_)
        · replace hF := kf_n c13 hF
          refine kw_iinc' (pc := 34) (i := 22) (k := 0) (fun z => [(4, .int z), (3, .int x2), (0, .ref 17), (1, .int s), (2, .int w)]) rfl rfl (by decide) rfl (fun _ => rfl) (fun z14 e_z14 t_z14 => ?_)
          replace hF := kf_le e_z14 hF
          refine kw_goto (pc := 37) (i := 23) (tgt := 5) rfl rfl ?_
          refine kw_sub (lv' := [(4, .int z14), (3, .int x2), (0, .ref 17), (1, .int s), (2, .int w)]) [0, 1, 2, 3, 4] rfl ?_
          exact ih4 z14 x2 (by omega) hF (by omega)
        · replace hF := kf_p c13 hF
          refine kw_iload_n (pc := 24) (i := 15) (k := 1) (n := 3) rfl rfl rfl ?_
          refine kw_aload_n (pc := 25) (i := 16) (k := 2) (n := 0) rfl rfl rfl ?_
          refine kw_iload (pc := 26) (i := 17) (k := 0) (n := 4) rfl rfl ?_
          refine kw_iload_n (pc := 28) (i := 18) (k := 4) (n := 2) rfl rfl rfl ?_
          refine kw_callV (pc := 29) (i := 19) (Y := mX1_pullOf) (a := 17) (As := [.int x1, .int w]) (st := [.int x2]) kw_hE rfl rfl lvX1_52 arX1_pullOf (c_X1_pullOf_17 l σ hI x1 w ) (by decide) (Nat.le_of_ble_eq_true rfl) rfl (fun v S16 p15 => ?_)
          obtain ⟨e19, z18, rfl, ef17⟩ := p15
          rw [e19]
          replace hF := kf_le ef17 hF
          have r_z18 := kw_rng z18
          show kw_AW l 3 kw_E0 KX mX1_milesOf (p_X1_milesOf_17 σ s w) 32 [(4, .int x1), (3, .int x2), (0, .ref 17), (1, .int s), (2, .int w)] [.int z18, .int x2] σ
          refine kw_iadd (pc := 32) (i := 20) rfl (fun z20 e_z20 t_z20 => ?_)
          replace hF := kf_le e_z20 hF
          refine kw_istore_n (pc := 33) (i := 21) (n := 3) (lv' := [(3, .int z20), (4, .int x1), (0, .ref 17), (1, .int s), (2, .int w)]) rfl rfl (by decide) rfl ?_
          refine kw_iinc' (pc := 34) (i := 22) (k := 1) (fun z => [(4, .int z), (3, .int z20), (0, .ref 17), (1, .int s), (2, .int w)]) rfl rfl (by decide) rfl (fun _ => rfl) (fun z21 e_z21 t_z21 => ?_)
          replace hF := kf_le e_z21 hF
          refine kw_goto (pc := 37) (i := 23) (tgt := 5) rfl rfl ?_
          refine kw_sub (lv' := [(4, .int z21), (3, .int z20), (0, .ref 17), (1, .int s), (2, .int w)]) [0, 1, 2, 3, 4] rfl ?_
          exact ih4 z21 z20 (by omega) hF (by omega)
  exact L3 _ 0 0 (by omega) hF (Nat.lt_succ_self _)
noncomputable def l_X1_turnOf_17_5 (a1 : Int32) (a2 : Int32) (S : kw_S) : Nat → Int32 → Int32 → Int32
  | 0, _, _ => 0
  | n + 1, x3, x4 => if x4.toInt < (S.1 17 5).toInt then (kf_l (a1 >>> (x4 &&& 31)) fun z1 => kf_l (z1 &&& (1 : Int32)) fun z2 => if z2.toInt = (1 : Int32).toInt then (kf_l (f_X1_pullOf_17 S x4 a2) fun z4 => kf_l (S.1 45 x4.toNatClampNeg) fun z5 => kf_l (z4 * z5) fun z6 => kf_l (x3 + z6) fun z7 => kf_l (x4 + Int32.ofInt 1) fun z8 => l_X1_turnOf_17_5 a1 a2 S n z7 z8) else (kf_l (x4 + Int32.ofInt 1) fun z3 => l_X1_turnOf_17_5 a1 a2 S n x3 z3)) else (x3)
theorem l_X1_turnOf_17_5_s (a1 : Int32) (a2 : Int32) (S : kw_S) (n : Nat) (x3 : Int32) (x4 : Int32) : l_X1_turnOf_17_5 a1 a2 S (n + 1) x3 x4 = if x4.toInt < (S.1 17 5).toInt then (kf_l (a1 >>> (x4 &&& 31)) fun z1 => kf_l (z1 &&& (1 : Int32)) fun z2 => if z2.toInt = (1 : Int32).toInt then (kf_l (f_X1_pullOf_17 S x4 a2) fun z4 => kf_l (S.1 45 x4.toNatClampNeg) fun z5 => kf_l (z4 * z5) fun z6 => kf_l (x3 + z6) fun z7 => kf_l (x4 + Int32.ofInt 1) fun z8 => l_X1_turnOf_17_5 a1 a2 S n z7 z8) else (kf_l (x4 + Int32.ofInt 1) fun z3 => l_X1_turnOf_17_5 a1 a2 S n x3 z3)) else (x3) := rfl
noncomputable def f_X1_turnOf_17 (σ : kw_S) (s : Int32) (w : Int32) : Int32 := l_X1_turnOf_17_5 s w σ ((7 - (0 : Int32).toInt).toNat + 1) (0 : Int32) (0 : Int32)
theorem f_X1_turnOf_17_u (σ : kw_S) (s : Int32) (w : Int32) : f_X1_turnOf_17 σ s w = l_X1_turnOf_17_5 s w σ ((7 - (0 : Int32).toInt).toNat + 1) (0 : Int32) (0 : Int32) := rfl
abbrev p_X1_turnOf_17 (σ : kw_S) (s : Int32) (w : Int32) : Option Value → kw_S → Prop := fun vv σ' => σ' = σ ∧ ∃ r : Int32, vv = some (.int r) ∧ r = f_X1_turnOf_17 σ s w
set_option maxRecDepth 100000 in
set_option maxHeartbeats 4000000 in
theorem c_X1_turnOf_17 (l : Launch) (σ : kw_S) (hI : kw_I bX σ) (s : Int32) (w : Int32) : kw_Met l 3 KX mX1_turnOf [.ref 17, .int s, .int w] σ (p_X1_turnOf_17 σ s w) := by
  have r_s := kw_rng s
  have r_w := kw_rng w
  have hF := (f_X1_turnOf_17_u σ s w).symm
  have q_0 : (0 : Int32).toInt = 0 := rfl
  have q_1 : (1 : Int32).toInt = 1 := rfl
  refine kw_Met.of (by decide) rfl tX1_turnOf (Nat.le_of_ble_eq_true rfl) ?_
  show kw_AW l 3 kw_E0 KX mX1_turnOf (p_X1_turnOf_17 σ s w) 0 [(0, .ref 17), (1, .int s), (2, .int w)] [] σ
  refine kw_iconst (pc := 0) (i := 0) (v := 0) rfl rfl ?_
  refine kw_istore_n (pc := 1) (i := 1) (n := 3) (lv' := [(3, .int 0), (0, .ref 17), (1, .int s), (2, .int w)]) rfl rfl (by decide) rfl ?_
  refine kw_iconst (pc := 2) (i := 2) (v := 0) rfl rfl ?_
  refine kw_istore (pc := 3) (i := 3) (n := 4) (lv' := [(4, .int 0), (3, .int 0), (0, .ref 17), (1, .int s), (2, .int w)]) rfl (by decide) rfl ?_
  have L3 : ∀ (n7 : Nat) (x1 : Int32) (x2 : Int32), 0 ≤ x1.toInt → l_X1_turnOf_17_5 s w σ n7 x2 x1 = (f_X1_turnOf_17 σ s w) → (7 - x1.toInt).toNat < n7 → kw_AW l 3 kw_E0 KX mX1_turnOf (p_X1_turnOf_17 σ s w) 5 [(4, .int x1), (3, .int x2), (0, .ref 17), (1, .int s), (2, .int w)] [] σ := by
    intro n7
    induction n7 with
    | zero => intro x1 x2 v5 hF m6; exact absurd m6 (Nat.not_lt_zero _)
    | succ n7 ih4 =>
      intro x1 x2 v5 hF m6
      replace hF := kf_st (l_X1_turnOf_17_5_s _ _ _ _ _ _) hF
      have r_x1 := kw_rng x1
      have r_x2 := kw_rng x2
      refine kw_iload (pc := 5) (i := 4) (k := 0) (n := 4) rfl rfl ?_
      refine kw_aload_n (pc := 7) (i := 5) (k := 2) (n := 0) rfl rfl rfl ?_
      refine kw_get (pc := 8) (i := 6) (v := .int (σ.1 17 5)) rfl rfl rfl lkX1_33 (fun _ => rfl) ?_
      have b8 : 0 ≤ (σ.1 17 5).toInt ∧ (σ.1 17 5).toInt ≤ 6 := hI 17 5
      refine kw_icmp_ge (pc := 11) (i := 7) (tgt := 48) rfl rfl (fun c9 => ?_) (fun c9 => ?_)
      · replace hF := kf_nl c9 hF
        refine kw_iload_n (pc := 48) (i := 29) (k := 1) (n := 3) rfl rfl rfl ?_
        exact kw_ireturn (pc := 49) (i := 30) (ty := .int) rfl rfl rfl ⟨rfl, _, rfl, hF⟩
      · replace hF := kf_p c9 hF
        refine kw_iload_n (pc := 14) (i := 8) (k := 3) (n := 1) rfl rfl rfl ?_
        refine kw_iload (pc := 15) (i := 9) (k := 0) (n := 4) rfl rfl ?_
        refine kw_ishr (pc := 17) (i := 10) rfl (fun z10 e_z10 => ?_)
        have r_z10 := kw_rng z10
        replace hF := kf_le e_z10 hF
        refine kw_iconst (pc := 18) (i := 11) (v := 1) rfl rfl ?_
        refine kw_iand (pc := 19) (i := 12) rfl (fun z11 e_z11 => ?_)
        have r_z11 := kw_rng z11
        replace hF := kf_le e_z11 hF
        refine kw_iconst (pc := 20) (i := 13) (v := 1) rfl rfl ?_
        refine kw_icmp_ne (pc := 21) (i := 14) (tgt := 42) rfl rfl (fun c12 => ?_) (fun c12 => ?_)
        · replace hF := kf_n c12 hF
          refine kw_iinc' (pc := 42) (i := 27) (k := 0) (fun z => [(4, .int z), (3, .int x2), (0, .ref 17), (1, .int s), (2, .int w)]) rfl rfl (by decide) rfl (fun _ => rfl) (fun z13 e_z13 t_z13 => ?_)
          replace hF := kf_le e_z13 hF
          refine kw_goto (pc := 45) (i := 28) (tgt := 5) rfl rfl ?_
          refine kw_sub (lv' := [(4, .int z13), (3, .int x2), (0, .ref 17), (1, .int s), (2, .int w)]) [0, 1, 2, 3, 4] rfl ?_
          exact ih4 z13 x2 (by omega) hF (by omega)
        · replace hF := kf_p c12 hF
          refine kw_iload_n (pc := 24) (i := 15) (k := 1) (n := 3) rfl rfl rfl ?_
          refine kw_aload_n (pc := 25) (i := 16) (k := 2) (n := 0) rfl rfl rfl ?_
          refine kw_iload (pc := 26) (i := 17) (k := 0) (n := 4) rfl rfl ?_
          refine kw_iload_n (pc := 28) (i := 18) (k := 4) (n := 2) rfl rfl rfl ?_
          refine kw_callV (pc := 29) (i := 19) (Y := mX1_pullOf) (a := 17) (As := [.int x1, .int w]) (st := [.int x2]) kw_hE rfl rfl lvX1_52 arX1_pullOf (c_X1_pullOf_17 l σ hI x1 w ) (by decide) (Nat.le_of_ble_eq_true rfl) rfl (fun v S15 p14 => ?_)
          obtain ⟨e18, z17, rfl, ef16⟩ := p14
          rw [e18]
          replace hF := kf_le ef16 hF
          have r_z17 := kw_rng z17
          show kw_AW l 3 kw_E0 KX mX1_turnOf (p_X1_turnOf_17 σ s w) 32 [(4, .int x1), (3, .int x2), (0, .ref 17), (1, .int s), (2, .int w)] [.int z17, .int x2] σ
          refine kw_aload_n (pc := 32) (i := 20) (k := 2) (n := 0) rfl rfl rfl ?_
          refine kw_get (pc := 33) (i := 21) (v := .ref 45) rfl rfl rfl lkX1_15 (fun _ => rfl) ?_
          refine kw_iload (pc := 36) (i := 22) (k := 0) (n := 4) rfl rfl ?_
          refine kw_iald (pc := 38) (i := 23) (n := 6) rfl rfl (by omega) (by omega) (fun z19 e_z19 => ?_)
          replace hF := kf_le e_z19 hF
          have t_z19 := congrArg Int32.toInt e_z19
          have r_z19 := kw_rng z19
          refine kw_imul (pc := 39) (i := 24) rfl (fun z20 e_z20 t_z20 => ?_)
          replace hF := kf_le e_z20 hF
          refine kw_iadd (pc := 40) (i := 25) rfl (fun z21 e_z21 t_z21 => ?_)
          replace hF := kf_le e_z21 hF
          refine kw_istore_n (pc := 41) (i := 26) (n := 3) (lv' := [(3, .int z21), (4, .int x1), (0, .ref 17), (1, .int s), (2, .int w)]) rfl rfl (by decide) rfl ?_
          refine kw_iinc' (pc := 42) (i := 27) (k := 1) (fun z => [(4, .int z), (3, .int z21), (0, .ref 17), (1, .int s), (2, .int w)]) rfl rfl (by decide) rfl (fun _ => rfl) (fun z22 e_z22 t_z22 => ?_)
          replace hF := kf_le e_z22 hF
          refine kw_goto (pc := 45) (i := 28) (tgt := 5) rfl rfl ?_
          refine kw_sub (lv' := [(4, .int z22), (3, .int z21), (0, .ref 17), (1, .int s), (2, .int w)]) [0, 1, 2, 3, 4] rfl ?_
          exact ih4 z22 z21 (by omega) hF (by omega)
  exact L3 _ 0 0 (by omega) hF (Nat.lt_succ_self _)
noncomputable def l_X1_mostMilesOf_17_5 (a1 : Int32) (a2 : Int32) (S : kw_S) : Nat → Int32 → Int32 → Int32
  | 0, _, _ => 0
  | n + 1, x3, x4 => if x4.toInt < (S.1 17 5).toInt then (kf_l (a1 >>> (x4 &&& 31)) fun z2 => kf_l (z2 &&& (1 : Int32)) fun z3 => if z3.toInt = (1 : Int32).toInt then (kf_l (f_X1_pullOf_17 S x4 a2) fun z5 => kf_l (if (0 : Int32) < z5 then z5 else (0 : Int32)) fun z6 => kf_l (x3 + z6) fun z7 => kf_l (x4 + Int32.ofInt 1) fun z8 => l_X1_mostMilesOf_17_5 a1 a2 S n z7 z8) else (kf_l (x4 + Int32.ofInt 1) fun z4 => l_X1_mostMilesOf_17_5 a1 a2 S n x3 z4)) else (kf_l (x3 / (4 : Int32)) fun z1 => z1)
theorem l_X1_mostMilesOf_17_5_s (a1 : Int32) (a2 : Int32) (S : kw_S) (n : Nat) (x3 : Int32) (x4 : Int32) : l_X1_mostMilesOf_17_5 a1 a2 S (n + 1) x3 x4 = if x4.toInt < (S.1 17 5).toInt then (kf_l (a1 >>> (x4 &&& 31)) fun z2 => kf_l (z2 &&& (1 : Int32)) fun z3 => if z3.toInt = (1 : Int32).toInt then (kf_l (f_X1_pullOf_17 S x4 a2) fun z5 => kf_l (if (0 : Int32) < z5 then z5 else (0 : Int32)) fun z6 => kf_l (x3 + z6) fun z7 => kf_l (x4 + Int32.ofInt 1) fun z8 => l_X1_mostMilesOf_17_5 a1 a2 S n z7 z8) else (kf_l (x4 + Int32.ofInt 1) fun z4 => l_X1_mostMilesOf_17_5 a1 a2 S n x3 z4)) else (kf_l (x3 / (4 : Int32)) fun z1 => z1) := rfl
noncomputable def f_X1_mostMilesOf_17 (σ : kw_S) (s : Int32) (w : Int32) : Int32 := l_X1_mostMilesOf_17_5 s w σ ((7 - (0 : Int32).toInt).toNat + 1) (0 : Int32) (0 : Int32)
theorem f_X1_mostMilesOf_17_u (σ : kw_S) (s : Int32) (w : Int32) : f_X1_mostMilesOf_17 σ s w = l_X1_mostMilesOf_17_5 s w σ ((7 - (0 : Int32).toInt).toNat + 1) (0 : Int32) (0 : Int32) := rfl
abbrev p_X1_mostMilesOf_17 (σ : kw_S) (s : Int32) (w : Int32) : Option Value → kw_S → Prop := fun vv σ' => σ' = σ ∧ ∃ r : Int32, vv = some (.int r) ∧ r = f_X1_mostMilesOf_17 σ s w
set_option maxRecDepth 100000 in
set_option maxHeartbeats 4000000 in
theorem c_X1_mostMilesOf_17 (l : Launch) (σ : kw_S) (hI : kw_I bX σ) (s : Int32) (w : Int32) : kw_Met l 3 KX mX1_mostMilesOf [.ref 17, .int s, .int w] σ (p_X1_mostMilesOf_17 σ s w) := by
  have r_s := kw_rng s
  have r_w := kw_rng w
  have hF := (f_X1_mostMilesOf_17_u σ s w).symm
  have q_0 : (0 : Int32).toInt = 0 := rfl
  have q_1 : (1 : Int32).toInt = 1 := rfl
  have q_4 : (4 : Int32).toInt = 4 := rfl
  refine kw_Met.of (by decide) rfl tX1_mostMilesOf (Nat.le_of_ble_eq_true rfl) ?_
  show kw_AW l 3 kw_E0 KX mX1_mostMilesOf (p_X1_mostMilesOf_17 σ s w) 0 [(0, .ref 17), (1, .int s), (2, .int w)] [] σ
  refine kw_iconst (pc := 0) (i := 0) (v := 0) rfl rfl ?_
  refine kw_istore_n (pc := 1) (i := 1) (n := 3) (lv' := [(3, .int 0), (0, .ref 17), (1, .int s), (2, .int w)]) rfl rfl (by decide) rfl ?_
  refine kw_iconst (pc := 2) (i := 2) (v := 0) rfl rfl ?_
  refine kw_istore (pc := 3) (i := 3) (n := 4) (lv' := [(4, .int 0), (3, .int 0), (0, .ref 17), (1, .int s), (2, .int w)]) rfl (by decide) rfl ?_
  have L3 : ∀ (n7 : Nat) (x1 : Int32) (x2 : Int32), 0 ≤ x1.toInt → l_X1_mostMilesOf_17_5 s w σ n7 x2 x1 = (f_X1_mostMilesOf_17 σ s w) → (7 - x1.toInt).toNat < n7 → kw_AW l 3 kw_E0 KX mX1_mostMilesOf (p_X1_mostMilesOf_17 σ s w) 5 [(4, .int x1), (3, .int x2), (0, .ref 17), (1, .int s), (2, .int w)] [] σ := by
    intro n7
    induction n7 with
    | zero => intro x1 x2 v5 hF m6; exact absurd m6 (Nat.not_lt_zero _)
    | succ n7 ih4 =>
      intro x1 x2 v5 hF m6
      replace hF := kf_st (l_X1_mostMilesOf_17_5_s _ _ _ _ _ _) hF
      have r_x1 := kw_rng x1
      have r_x2 := kw_rng x2
      refine kw_iload (pc := 5) (i := 4) (k := 0) (n := 4) rfl rfl ?_
      refine kw_aload_n (pc := 7) (i := 5) (k := 2) (n := 0) rfl rfl rfl ?_
      refine kw_get (pc := 8) (i := 6) (v := .int (σ.1 17 5)) rfl rfl rfl lkX1_33 (fun _ => rfl) ?_
      have b8 : 0 ≤ (σ.1 17 5).toInt ∧ (σ.1 17 5).toInt ≤ 6 := hI 17 5
      refine kw_icmp_ge (pc := 11) (i := 7) (tgt := 44) rfl rfl (fun c9 => ?_) (fun c9 => ?_)
      · replace hF := kf_nl c9 hF
        refine kw_iload_n (pc := 44) (i := 26) (k := 1) (n := 3) rfl rfl rfl ?_
        refine kw_iconst (pc := 45) (i := 27) (v := 4) rfl rfl ?_
        refine kw_idiv (pc := 46) (i := 28) rfl (by omega) (fun z10 e_z10 => ?_)
        have r_z10 := kw_rng z10
        replace hF := kf_le e_z10 hF
        exact kw_ireturn (pc := 47) (i := 29) (ty := .int) rfl rfl rfl ⟨rfl, _, rfl, hF⟩
      · replace hF := kf_p c9 hF
        refine kw_iload_n (pc := 14) (i := 8) (k := 3) (n := 1) rfl rfl rfl ?_
        refine kw_iload (pc := 15) (i := 9) (k := 0) (n := 4) rfl rfl ?_
        refine kw_ishr (pc := 17) (i := 10) rfl (fun z11 e_z11 => ?_)
        have r_z11 := kw_rng z11
        replace hF := kf_le e_z11 hF
        refine kw_iconst (pc := 18) (i := 11) (v := 1) rfl rfl ?_
        refine kw_iand (pc := 19) (i := 12) rfl (fun z12 e_z12 => ?_)
        have r_z12 := kw_rng z12
        replace hF := kf_le e_z12 hF
        refine kw_iconst (pc := 20) (i := 13) (v := 1) rfl rfl ?_
        refine kw_icmp_ne (pc := 21) (i := 14) (tgt := 38) rfl rfl (fun c13 => ?_) (fun c13 => ?_)
        · replace hF := kf_n c13 hF
          refine kw_iinc' (pc := 38) (i := 24) (k := 0) (fun z => [(4, .int z), (3, .int x2), (0, .ref 17), (1, .int s), (2, .int w)]) rfl rfl (by decide) rfl (fun _ => rfl) (fun z14 e_z14 t_z14 => ?_)
          replace hF := kf_le e_z14 hF
          refine kw_goto (pc := 41) (i := 25) (tgt := 5) rfl rfl ?_
          refine kw_sub (lv' := [(4, .int z14), (3, .int x2), (0, .ref 17), (1, .int s), (2, .int w)]) [0, 1, 2, 3, 4] rfl ?_
          exact ih4 z14 x2 (by omega) hF (by omega)
        · replace hF := kf_p c13 hF
          refine kw_iload_n (pc := 24) (i := 15) (k := 1) (n := 3) rfl rfl rfl ?_
          refine kw_iconst (pc := 25) (i := 16) (v := 0) rfl rfl ?_
          refine kw_aload_n (pc := 26) (i := 17) (k := 2) (n := 0) rfl rfl rfl ?_
          refine kw_iload (pc := 27) (i := 18) (k := 0) (n := 4) rfl rfl ?_
          refine kw_iload_n (pc := 29) (i := 19) (k := 4) (n := 2) rfl rfl rfl ?_
          refine kw_callV (pc := 30) (i := 20) (Y := mX1_pullOf) (a := 17) (As := [.int x1, .int w]) (st := [.int 0, .int x2]) kw_hE rfl rfl lvX1_52 arX1_pullOf (c_X1_pullOf_17 l σ hI x1 w ) (by decide) (Nat.le_of_ble_eq_true rfl) rfl (fun v S16 p15 => ?_)
          obtain ⟨e19, z18, rfl, ef17⟩ := p15
          rw [e19]
          replace hF := kf_le ef17 hF
          have r_z18 := kw_rng z18
          show kw_AW l 3 kw_E0 KX mX1_mostMilesOf (p_X1_mostMilesOf_17 σ s w) 33 [(4, .int x1), (3, .int x2), (0, .ref 17), (1, .int s), (2, .int w)] [.int z18, .int 0, .int x2] σ
          refine kw_mmax (pc := 33) (i := 21) rfl jX1_56 (by omega) (Nat.le_of_ble_eq_true rfl) (fun z20 e_z20 t_z20 => ?_)
          replace hF := kf_le e_z20 hF
          refine kw_iadd (pc := 36) (i := 22) rfl (fun z21 e_z21 t_z21 => ?_)
          replace hF := kf_le e_z21 hF
          refine kw_istore_n (pc := 37) (i := 23) (n := 3) (lv' := [(3, .int z21), (4, .int x1), (0, .ref 17), (1, .int s), (2, .int w)]) rfl rfl (by decide) rfl ?_
          refine kw_iinc' (pc := 38) (i := 24) (k := 1) (fun z => [(4, .int z), (3, .int z21), (0, .ref 17), (1, .int s), (2, .int w)]) rfl rfl (by decide) rfl (fun _ => rfl) (fun z22 e_z22 t_z22 => ?_)
          replace hF := kf_le e_z22 hF
          refine kw_goto (pc := 41) (i := 25) (tgt := 5) rfl rfl ?_
          refine kw_sub (lv' := [(4, .int z22), (3, .int z21), (0, .ref 17), (1, .int s), (2, .int w)]) [0, 1, 2, 3, 4] rfl ?_
          exact ih4 z22 z21 (by omega) hF (by omega)
  exact L3 _ 0 0 (by omega) hF (Nat.lt_succ_self _)
noncomputable def l_X1_linenOf_17_4 (a1 : Int32) (S : kw_S) : Nat → Int32 → Int32 → Int32
  | 0, _, _ => 0
  | n + 1, x2, x3 => if x3.toInt < (S.1 17 5).toInt then (kf_l (a1 >>> (x3 &&& 31)) fun z1 => kf_l (z1 &&& (1 : Int32)) fun z2 => if z2.toInt = (1 : Int32).toInt then (kf_l (S.1 47 x3.toNatClampNeg) fun z4 => kf_l (x2 + z4) fun z5 => kf_l (x3 + Int32.ofInt 1) fun z6 => l_X1_linenOf_17_4 a1 S n z5 z6) else (kf_l (x3 + Int32.ofInt 1) fun z3 => l_X1_linenOf_17_4 a1 S n x2 z3)) else (x2)
theorem l_X1_linenOf_17_4_s (a1 : Int32) (S : kw_S) (n : Nat) (x2 : Int32) (x3 : Int32) : l_X1_linenOf_17_4 a1 S (n + 1) x2 x3 = if x3.toInt < (S.1 17 5).toInt then (kf_l (a1 >>> (x3 &&& 31)) fun z1 => kf_l (z1 &&& (1 : Int32)) fun z2 => if z2.toInt = (1 : Int32).toInt then (kf_l (S.1 47 x3.toNatClampNeg) fun z4 => kf_l (x2 + z4) fun z5 => kf_l (x3 + Int32.ofInt 1) fun z6 => l_X1_linenOf_17_4 a1 S n z5 z6) else (kf_l (x3 + Int32.ofInt 1) fun z3 => l_X1_linenOf_17_4 a1 S n x2 z3)) else (x2) := rfl
noncomputable def f_X1_linenOf_17 (σ : kw_S) (s : Int32) : Int32 := l_X1_linenOf_17_4 s σ ((7 - (0 : Int32).toInt).toNat + 1) (0 : Int32) (0 : Int32)
theorem f_X1_linenOf_17_u (σ : kw_S) (s : Int32) : f_X1_linenOf_17 σ s = l_X1_linenOf_17_4 s σ ((7 - (0 : Int32).toInt).toNat + 1) (0 : Int32) (0 : Int32) := rfl
abbrev p_X1_linenOf_17 (σ : kw_S) (s : Int32) : Option Value → kw_S → Prop := fun vv σ' => σ' = σ ∧ ∃ r : Int32, vv = some (.int r) ∧ r = f_X1_linenOf_17 σ s
set_option maxRecDepth 100000 in
set_option maxHeartbeats 4000000 in
theorem c_X1_linenOf_17 (l : Launch) (σ : kw_S) (hI : kw_I bX σ) (s : Int32) : kw_Met l 1 KX mX1_linenOf [.ref 17, .int s] σ (p_X1_linenOf_17 σ s) := by
  have r_s := kw_rng s
  have hF := (f_X1_linenOf_17_u σ s).symm
  have q_0 : (0 : Int32).toInt = 0 := rfl
  have q_1 : (1 : Int32).toInt = 1 := rfl
  refine kw_Met.of (by decide) rfl tX1_linenOf (Nat.le_of_ble_eq_true rfl) ?_
  show kw_AW l 1 kw_E0 KX mX1_linenOf (p_X1_linenOf_17 σ s) 0 [(0, .ref 17), (1, .int s)] [] σ
  refine kw_iconst (pc := 0) (i := 0) (v := 0) rfl rfl ?_
  refine kw_istore_n (pc := 1) (i := 1) (n := 2) (lv' := [(2, .int 0), (0, .ref 17), (1, .int s)]) rfl rfl (by decide) rfl ?_
  refine kw_iconst (pc := 2) (i := 2) (v := 0) rfl rfl ?_
  refine kw_istore_n (pc := 3) (i := 3) (n := 3) (lv' := [(3, .int 0), (2, .int 0), (0, .ref 17), (1, .int s)]) rfl rfl (by decide) rfl ?_
  have L3 : ∀ (n7 : Nat) (x1 : Int32) (x2 : Int32), 0 ≤ x1.toInt → l_X1_linenOf_17_4 s σ n7 x2 x1 = (f_X1_linenOf_17 σ s) → (7 - x1.toInt).toNat < n7 → kw_AW l 1 kw_E0 KX mX1_linenOf (p_X1_linenOf_17 σ s) 4 [(3, .int x1), (2, .int x2), (0, .ref 17), (1, .int s)] [] σ := by
    intro n7
    induction n7 with
    | zero => intro x1 x2 v5 hF m6; exact absurd m6 (Nat.not_lt_zero _)
    | succ n7 ih4 =>
      intro x1 x2 v5 hF m6
      replace hF := kf_st (l_X1_linenOf_17_4_s _ _ _ _ _) hF
      have r_x1 := kw_rng x1
      have r_x2 := kw_rng x2
      refine kw_iload_n (pc := 4) (i := 4) (k := 0) (n := 3) rfl rfl rfl ?_
      refine kw_aload_n (pc := 5) (i := 5) (k := 2) (n := 0) rfl rfl rfl ?_
      refine kw_get (pc := 6) (i := 6) (v := .int (σ.1 17 5)) rfl rfl rfl lkX1_33 (fun _ => rfl) ?_
      have b8 : 0 ≤ (σ.1 17 5).toInt ∧ (σ.1 17 5).toInt ≤ 6 := hI 17 5
      refine kw_icmp_ge (pc := 9) (i := 7) (tgt := 36) rfl rfl (fun c9 => ?_) (fun c9 => ?_)
      · replace hF := kf_nl c9 hF
        refine kw_iload_n (pc := 36) (i := 24) (k := 1) (n := 2) rfl rfl rfl ?_
        exact kw_ireturn (pc := 37) (i := 25) (ty := .int) rfl rfl rfl ⟨rfl, _, rfl, hF⟩
      · replace hF := kf_p c9 hF
        refine kw_iload_n (pc := 12) (i := 8) (k := 3) (n := 1) rfl rfl rfl ?_
        refine kw_iload_n (pc := 13) (i := 9) (k := 0) (n := 3) rfl rfl rfl ?_
        refine kw_ishr (pc := 14) (i := 10) rfl (fun z10 e_z10 => ?_)
        have r_z10 := kw_rng z10
        replace hF := kf_le e_z10 hF
        refine kw_iconst (pc := 15) (i := 11) (v := 1) rfl rfl ?_
        refine kw_iand (pc := 16) (i := 12) rfl (fun z11 e_z11 => ?_)
        have r_z11 := kw_rng z11
        replace hF := kf_le e_z11 hF
        refine kw_iconst (pc := 17) (i := 13) (v := 1) rfl rfl ?_
        refine kw_icmp_ne (pc := 18) (i := 14) (tgt := 30) rfl rfl (fun c12 => ?_) (fun c12 => ?_)
        · replace hF := kf_n c12 hF
          refine kw_iinc' (pc := 30) (i := 22) (k := 0) (fun z => [(3, .int z), (2, .int x2), (0, .ref 17), (1, .int s)]) rfl rfl (by decide) rfl (fun _ => rfl) (fun z13 e_z13 t_z13 => ?_)
          replace hF := kf_le e_z13 hF
          refine kw_goto (pc := 33) (i := 23) (tgt := 4) rfl rfl ?_
          refine kw_sub (lv' := [(3, .int z13), (2, .int x2), (0, .ref 17), (1, .int s)]) [0, 1, 2, 3] rfl ?_
          exact ih4 z13 x2 (by omega) hF (by omega)
        · replace hF := kf_p c12 hF
          refine kw_iload_n (pc := 21) (i := 15) (k := 1) (n := 2) rfl rfl rfl ?_
          refine kw_aload_n (pc := 22) (i := 16) (k := 2) (n := 0) rfl rfl rfl ?_
          refine kw_get (pc := 23) (i := 17) (v := .ref 47) rfl rfl rfl lkX1_21 (fun _ => rfl) ?_
          refine kw_iload_n (pc := 26) (i := 18) (k := 0) (n := 3) rfl rfl rfl ?_
          refine kw_iald (pc := 27) (i := 19) (n := 6) rfl rfl (by omega) (by omega) (fun z14 e_z14 => ?_)
          replace hF := kf_le e_z14 hF
          have t_z14 := congrArg Int32.toInt e_z14
          have r_z14 := kw_rng z14
          refine kw_iadd (pc := 28) (i := 20) rfl (fun z15 e_z15 t_z15 => ?_)
          replace hF := kf_le e_z15 hF
          refine kw_istore_n (pc := 29) (i := 21) (n := 2) (lv' := [(2, .int z15), (3, .int x1), (0, .ref 17), (1, .int s)]) rfl rfl (by decide) rfl ?_
          refine kw_iinc' (pc := 30) (i := 22) (k := 1) (fun z => [(3, .int z), (2, .int z15), (0, .ref 17), (1, .int s)]) rfl rfl (by decide) rfl (fun _ => rfl) (fun z16 e_z16 t_z16 => ?_)
          replace hF := kf_le e_z16 hF
          refine kw_goto (pc := 33) (i := 23) (tgt := 4) rfl rfl ?_
          refine kw_sub (lv' := [(3, .int z16), (2, .int z15), (0, .ref 17), (1, .int s)]) [0, 1, 2, 3] rfl ?_
          exact ih4 z16 z15 (by omega) hF (by omega)
  exact L3 _ 0 0 (by omega) hF (Nat.lt_succ_self _)
noncomputable def l_X1_howManyAre_17_4 (a1 : Int32) (S : kw_S) : Nat → Int32 → Int32 → Int32
  | 0, _, _ => 0
  | n + 1, x2, x3 => if x3.toInt < (S.1 17 5).toInt then (kf_l (S.1 44 x3.toNatClampNeg) fun z1 => kf_l (f_X7_isA S z1 a1) fun z2 => if z2.toInt = 0 then (kf_l (x3 + Int32.ofInt 1) fun z3 => l_X1_howManyAre_17_4 a1 S n x2 z3) else (kf_l (x2 + Int32.ofInt 1) fun z4 => kf_l (x3 + Int32.ofInt 1) fun z5 => l_X1_howManyAre_17_4 a1 S n z4 z5)) else (x2)
theorem l_X1_howManyAre_17_4_s (a1 : Int32) (S : kw_S) (n : Nat) (x2 : Int32) (x3 : Int32) : l_X1_howManyAre_17_4 a1 S (n + 1) x2 x3 = if x3.toInt < (S.1 17 5).toInt then (kf_l (S.1 44 x3.toNatClampNeg) fun z1 => kf_l (f_X7_isA S z1 a1) fun z2 => if z2.toInt = 0 then (kf_l (x3 + Int32.ofInt 1) fun z3 => l_X1_howManyAre_17_4 a1 S n x2 z3) else (kf_l (x2 + Int32.ofInt 1) fun z4 => kf_l (x3 + Int32.ofInt 1) fun z5 => l_X1_howManyAre_17_4 a1 S n z4 z5)) else (x2) := rfl
noncomputable def f_X1_howManyAre_17 (σ : kw_S) (kind : Int32) : Int32 := l_X1_howManyAre_17_4 kind σ ((7 - (0 : Int32).toInt).toNat + 1) (0 : Int32) (0 : Int32)
theorem f_X1_howManyAre_17_u (σ : kw_S) (kind : Int32) : f_X1_howManyAre_17 σ kind = l_X1_howManyAre_17_4 kind σ ((7 - (0 : Int32).toInt).toNat + 1) (0 : Int32) (0 : Int32) := rfl
abbrev p_X1_howManyAre_17 (σ : kw_S) (kind : Int32) : Option Value → kw_S → Prop := fun vv σ' => σ' = σ ∧ ∃ r : Int32, vv = some (.int r) ∧ r = f_X1_howManyAre_17 σ kind
set_option maxRecDepth 100000 in
set_option maxHeartbeats 4000000 in
theorem c_X1_howManyAre_17 (l : Launch) (σ : kw_S) (hI : kw_I bX σ) (kind : Int32) : kw_Met l 2 KX mX1_howManyAre [.ref 17, .int kind] σ (p_X1_howManyAre_17 σ kind) := by
  have r_kind := kw_rng kind
  have hF := (f_X1_howManyAre_17_u σ kind).symm
  have q_0 : (0 : Int32).toInt = 0 := rfl
  refine kw_Met.of (by decide) rfl tX1_howManyAre (Nat.le_of_ble_eq_true rfl) ?_
  show kw_AW l 2 kw_E0 KX mX1_howManyAre (p_X1_howManyAre_17 σ kind) 0 [(0, .ref 17), (1, .int kind)] [] σ
  refine kw_iconst (pc := 0) (i := 0) (v := 0) rfl rfl ?_
  refine kw_istore_n (pc := 1) (i := 1) (n := 2) (lv' := [(2, .int 0), (0, .ref 17), (1, .int kind)]) rfl rfl (by decide) rfl ?_
  refine kw_iconst (pc := 2) (i := 2) (v := 0) rfl rfl ?_
  refine kw_istore_n (pc := 3) (i := 3) (n := 3) (lv' := [(3, .int 0), (2, .int 0), (0, .ref 17), (1, .int kind)]) rfl rfl (by decide) rfl ?_
  have L3 : ∀ (n7 : Nat) (x1 : Int32) (x2 : Int32), 0 ≤ x1.toInt → l_X1_howManyAre_17_4 kind σ n7 x2 x1 = (f_X1_howManyAre_17 σ kind) → (7 - x1.toInt).toNat < n7 → kw_AW l 2 kw_E0 KX mX1_howManyAre (p_X1_howManyAre_17 σ kind) 4 [(3, .int x1), (2, .int x2), (0, .ref 17), (1, .int kind)] [] σ := by
    intro n7
    induction n7 with
    | zero => intro x1 x2 v5 hF m6; exact absurd m6 (Nat.not_lt_zero _)
    | succ n7 ih4 =>
      intro x1 x2 v5 hF m6
      replace hF := kf_st (l_X1_howManyAre_17_4_s _ _ _ _ _) hF
      have r_x1 := kw_rng x1
      have r_x2 := kw_rng x2
      refine kw_iload_n (pc := 4) (i := 4) (k := 0) (n := 3) rfl rfl rfl ?_
      refine kw_aload_n (pc := 5) (i := 5) (k := 2) (n := 0) rfl rfl rfl ?_
      refine kw_get (pc := 6) (i := 6) (v := .int (σ.1 17 5)) rfl rfl rfl lkX1_33 (fun _ => rfl) ?_
      have b8 : 0 ≤ (σ.1 17 5).toInt ∧ (σ.1 17 5).toInt ≤ 6 := hI 17 5
      refine kw_icmp_ge (pc := 9) (i := 7) (tgt := 34) rfl rfl (fun c9 => ?_) (fun c9 => ?_)
      · replace hF := kf_nl c9 hF
        refine kw_iload_n (pc := 34) (i := 18) (k := 1) (n := 2) rfl rfl rfl ?_
        exact kw_ireturn (pc := 35) (i := 19) (ty := .int) rfl rfl rfl ⟨rfl, _, rfl, hF⟩
      · replace hF := kf_p c9 hF
        refine kw_aload_n (pc := 12) (i := 8) (k := 2) (n := 0) rfl rfl rfl ?_
        refine kw_get (pc := 13) (i := 9) (v := .ref 44) rfl rfl rfl lkX1_9 (fun _ => rfl) ?_
        refine kw_iload_n (pc := 16) (i := 10) (k := 0) (n := 3) rfl rfl rfl ?_
        refine kw_iald (pc := 17) (i := 11) (n := 6) rfl rfl (by omega) (by omega) (fun z10 e_z10 => ?_)
        replace hF := kf_le e_z10 hF
        have t_z10 := congrArg Int32.toInt e_z10
        have r_z10 := kw_rng z10
        refine kw_iload_n (pc := 18) (i := 12) (k := 3) (n := 1) rfl rfl rfl ?_
        refine kw_callN (pc := 19) (i := 13) (Y := mX7_isA) (As := [.int z10, .int kind]) (st := []) kw_hE rfl lnX1_61 arX7_isA (c_X7_isA l σ hI z10 kind ) (by decide) (Nat.le_of_ble_eq_true rfl) rfl (fun v S12 p11 => ?_)
        obtain ⟨e16, z15, rfl, f13, ef14⟩ := p11
        rw [e16]
        replace hF := kf_le ef14 hF
        have r_z15 := kw_rng z15
        show kw_AW l 2 kw_E0 KX mX1_howManyAre (p_X1_howManyAre_17 σ kind) 22 [(3, .int x1), (2, .int x2), (0, .ref 17), (1, .int kind)] [.int z15] σ
        refine kw_if_eq (pc := 22) (i := 14) (tgt := 28) rfl rfl (fun c17 => ?_) (fun c17 => ?_)
        · replace hF := kf_p c17 hF
          refine kw_iinc' (pc := 28) (i := 16) (k := 0) (fun z => [(3, .int z), (2, .int x2), (0, .ref 17), (1, .int kind)]) rfl rfl (by decide) rfl (fun _ => rfl) (fun z18 e_z18 t_z18 => ?_)
          replace hF := kf_le e_z18 hF
          refine kw_goto (pc := 31) (i := 17) (tgt := 4) rfl rfl ?_
          refine kw_sub (lv' := [(3, .int z18), (2, .int x2), (0, .ref 17), (1, .int kind)]) [0, 1, 2, 3] rfl ?_
          exact ih4 z18 x2 (by omega) hF (by omega)
        · replace hF := kf_n c17 hF
          refine kw_iinc' (pc := 25) (i := 15) (k := 1) (fun z => [(2, .int z), (3, .int x1), (0, .ref 17), (1, .int kind)]) rfl rfl (by decide) rfl (fun _ => rfl) (fun z19 e_z19 t_z19 => ?_)
          replace hF := kf_le e_z19 hF
          refine kw_iinc' (pc := 28) (i := 16) (k := 1) (fun z => [(3, .int z), (2, .int z19), (0, .ref 17), (1, .int kind)]) rfl rfl (by decide) rfl (fun _ => rfl) (fun z20 e_z20 t_z20 => ?_)
          replace hF := kf_le e_z20 hF
          refine kw_goto (pc := 31) (i := 17) (tgt := 4) rfl rfl ?_
          refine kw_sub (lv' := [(3, .int z20), (2, .int z19), (0, .ref 17), (1, .int kind)]) [0, 1, 2, 3] rfl ?_
          exact ih4 z20 z19 (by omega) hF (by omega)
  exact L3 _ 0 0 (by omega) hF (Nat.lt_succ_self _)
noncomputable def l_X1_othersNoWider_17_14 (a1 : Int32) (S : kw_S) : Nat → Int32 → Int32 → Int32
  | 0, _, _ => 0
  | n + 1, x2, x3 => if x3.toInt < (S.1 17 5).toInt then (if x3.toInt = a1.toInt then (kf_l (x3 + Int32.ofInt 1) fun z2 => l_X1_othersNoWider_17_14 a1 S n x2 z2) else (kf_l (S.1 46 x3.toNatClampNeg) fun z3 => kf_l (S.1 46 a1.toNatClampNeg) fun z4 => if z4.toInt < z3.toInt then (kf_l (x3 + Int32.ofInt 1) fun z5 => l_X1_othersNoWider_17_14 a1 S n x2 z5) else (kf_l (x2 + Int32.ofInt 1) fun z6 => kf_l (x3 + Int32.ofInt 1) fun z7 => l_X1_othersNoWider_17_14 a1 S n z6 z7))) else (x2)
theorem l_X1_othersNoWider_17_14_s (a1 : Int32) (S : kw_S) (n : Nat) (x2 : Int32) (x3 : Int32) : l_X1_othersNoWider_17_14 a1 S (n + 1) x2 x3 = if x3.toInt < (S.1 17 5).toInt then (if x3.toInt = a1.toInt then (kf_l (x3 + Int32.ofInt 1) fun z2 => l_X1_othersNoWider_17_14 a1 S n x2 z2) else (kf_l (S.1 46 x3.toNatClampNeg) fun z3 => kf_l (S.1 46 a1.toNatClampNeg) fun z4 => if z4.toInt < z3.toInt then (kf_l (x3 + Int32.ofInt 1) fun z5 => l_X1_othersNoWider_17_14 a1 S n x2 z5) else (kf_l (x2 + Int32.ofInt 1) fun z6 => kf_l (x3 + Int32.ofInt 1) fun z7 => l_X1_othersNoWider_17_14 a1 S n z6 z7))) else (x2) := rfl
noncomputable def f_X1_othersNoWider_17 (σ : kw_S) (i : Int32) : Int32 := kf_l (f_X1_hasLine_17 σ i) fun z1 => if z1.toInt = 0 then ((0 : Int32)) else (l_X1_othersNoWider_17_14 i σ ((7 - (0 : Int32).toInt).toNat + 1) (0 : Int32) (0 : Int32))
theorem f_X1_othersNoWider_17_u (σ : kw_S) (i : Int32) : f_X1_othersNoWider_17 σ i = kf_l (f_X1_hasLine_17 σ i) fun z1 => if z1.toInt = 0 then ((0 : Int32)) else (l_X1_othersNoWider_17_14 i σ ((7 - (0 : Int32).toInt).toNat + 1) (0 : Int32) (0 : Int32)) := rfl
abbrev p_X1_othersNoWider_17 (σ : kw_S) (i : Int32) : Option Value → kw_S → Prop := fun vv σ' => σ' = σ ∧ ∃ r : Int32, vv = some (.int r) ∧ r = f_X1_othersNoWider_17 σ i
set_option maxRecDepth 100000 in
set_option maxHeartbeats 4000000 in
theorem c_X1_othersNoWider_17 (l : Launch) (σ : kw_S) (hI : kw_I bX σ) (i : Int32) : kw_Met l 2 KX mX1_othersNoWider [.ref 17, .int i] σ (p_X1_othersNoWider_17 σ i) := by
  have r_i := kw_rng i
  have hF := (f_X1_othersNoWider_17_u σ i).symm
  have q_0 : (0 : Int32).toInt = 0 := rfl
  refine kw_Met.of (by decide) rfl tX1_othersNoWider (Nat.le_of_ble_eq_true rfl) ?_
  show kw_AW l 2 kw_E0 KX mX1_othersNoWider (p_X1_othersNoWider_17 σ i) 0 [(0, .ref 17), (1, .int i)] [] σ
  refine kw_aload_n (pc := 0) (i := 0) (k := 0) (n := 0) rfl rfl rfl ?_
  refine kw_iload_n (pc := 1) (i := 1) (k := 1) (n := 1) rfl rfl rfl ?_
  refine kw_callV (pc := 2) (i := 2) (Y := mX1_hasLine) (a := 17) (As := [.int i]) (st := []) kw_hE rfl rfl lvX1_44 arX1_hasLine (c_X1_hasLine_17 l σ hI i ) (by decide) (Nat.le_of_ble_eq_true rfl) rfl (fun v S2 p1 => ?_)
  obtain ⟨e7, z6, rfl, f3, f4, ef5⟩ := p1
  rw [e7]
  replace hF := kf_le ef5 hF
  have r_z6 := kw_rng z6
  show kw_AW l 2 kw_E0 KX mX1_othersNoWider (p_X1_othersNoWider_17 σ i) 5 [(0, .ref 17), (1, .int i)] [.int z6] σ
  refine kw_if_ne (pc := 5) (i := 3) (tgt := 10) rfl rfl (fun c8 => ?_) (fun c8 => ?_)
  · replace hF := kf_n c8 hF
    refine kw_iconst (pc := 10) (i := 6) (v := 0) rfl rfl ?_
    refine kw_istore_n (pc := 11) (i := 7) (n := 2) (lv' := [(2, .int 0), (0, .ref 17), (1, .int i)]) rfl rfl (by decide) rfl ?_
    refine kw_iconst (pc := 12) (i := 8) (v := 0) rfl rfl ?_
    refine kw_istore_n (pc := 13) (i := 9) (n := 3) (lv' := [(3, .int 0), (2, .int 0), (0, .ref 17), (1, .int i)]) rfl rfl (by decide) rfl ?_
    have L11 : ∀ (n15 : Nat) (x9 : Int32) (x10 : Int32), 0 ≤ x9.toInt → l_X1_othersNoWider_17_14 i σ n15 x10 x9 = (f_X1_othersNoWider_17 σ i) → (7 - x9.toInt).toNat < n15 → kw_AW l 2 kw_E0 KX mX1_othersNoWider (p_X1_othersNoWider_17 σ i) 14 [(3, .int x9), (2, .int x10), (0, .ref 17), (1, .int i)] [] σ := by
      intro n15
      induction n15 with
      | zero => intro x9 x10 v13 hF m14; exact absurd m14 (Nat.not_lt_zero _)
      | succ n15 ih12 =>
        intro x9 x10 v13 hF m14
        replace hF := kf_st (l_X1_othersNoWider_17_14_s _ _ _ _ _) hF
        have r_x9 := kw_rng x9
        have r_x10 := kw_rng x10
        refine kw_iload_n (pc := 14) (i := 10) (k := 0) (n := 3) rfl rfl rfl ?_
        refine kw_aload_n (pc := 15) (i := 11) (k := 2) (n := 0) rfl rfl rfl ?_
        refine kw_get (pc := 16) (i := 12) (v := .int (σ.1 17 5)) rfl rfl rfl lkX1_33 (fun _ => rfl) ?_
        have b16 : 0 ≤ (σ.1 17 5).toInt ∧ (σ.1 17 5).toInt ≤ 6 := hI 17 5
        refine kw_icmp_ge (pc := 19) (i := 13) (tgt := 51) rfl rfl (fun c17 => ?_) (fun c17 => ?_)
        · replace hF := kf_nl c17 hF
          refine kw_iload_n (pc := 51) (i := 29) (k := 1) (n := 2) rfl rfl rfl ?_
          exact kw_ireturn (pc := 52) (i := 30) (ty := .int) rfl rfl rfl ⟨rfl, _, rfl, hF⟩
        · replace hF := kf_p c17 hF
          refine kw_iload_n (pc := 22) (i := 14) (k := 0) (n := 3) rfl rfl rfl ?_
          refine kw_iload_n (pc := 23) (i := 15) (k := 3) (n := 1) rfl rfl rfl ?_
          refine kw_icmp_eq (pc := 24) (i := 16) (tgt := 45) rfl rfl (fun c18 => ?_) (fun c18 => ?_)
          · replace hF := kf_p c18 hF
            refine kw_iinc' (pc := 45) (i := 27) (k := 0) (fun z => [(3, .int z), (2, .int x10), (0, .ref 17), (1, .int i)]) rfl rfl (by decide) rfl (fun _ => rfl) (fun z19 e_z19 t_z19 => ?_)
            replace hF := kf_le e_z19 hF
            refine kw_goto (pc := 48) (i := 28) (tgt := 14) rfl rfl ?_
            refine kw_sub (lv' := [(3, .int z19), (2, .int x10), (0, .ref 17), (1, .int i)]) [0, 1, 2, 3] rfl ?_
            exact ih12 z19 x10 (by omega) hF (by omega)
          · replace hF := kf_n c18 hF
            refine kw_aload_n (pc := 27) (i := 17) (k := 2) (n := 0) rfl rfl rfl ?_
            refine kw_get (pc := 28) (i := 18) (v := .ref 46) rfl rfl rfl lkX1_18 (fun _ => rfl) ?_
            refine kw_iload_n (pc := 31) (i := 19) (k := 0) (n := 3) rfl rfl rfl ?_
            refine kw_iald (pc := 32) (i := 20) (n := 6) rfl rfl (by omega) (by omega) (fun z20 e_z20 => ?_)
            replace hF := kf_le e_z20 hF
            have t_z20 := congrArg Int32.toInt e_z20
            have r_z20 := kw_rng z20
            refine kw_aload_n (pc := 33) (i := 21) (k := 2) (n := 0) rfl rfl rfl ?_
            refine kw_get (pc := 34) (i := 22) (v := .ref 46) rfl rfl rfl lkX1_18 (fun _ => rfl) ?_
            refine kw_iload_n (pc := 37) (i := 23) (k := 3) (n := 1) rfl rfl rfl ?_
            refine kw_iald (pc := 38) (i := 24) (n := 6) rfl rfl (by omega) (by omega) (fun z21 e_z21 => ?_)
            replace hF := kf_le e_z21 hF
            have t_z21 := congrArg Int32.toInt e_z21
            have r_z21 := kw_rng z21
            refine kw_icmp_gt (pc := 39) (i := 25) (tgt := 45) rfl rfl (fun c22 => ?_) (fun c22 => ?_)
            · replace hF := kf_p c22 hF
              refine kw_iinc' (pc := 45) (i := 27) (k := 0) (fun z => [(3, .int z), (2, .int x10), (0, .ref 17), (1, .int i)]) rfl rfl (by decide) rfl (fun _ => rfl) (fun z23 e_z23 t_z23 => ?_)
              replace hF := kf_le e_z23 hF
              refine kw_goto (pc := 48) (i := 28) (tgt := 14) rfl rfl ?_
              refine kw_sub (lv' := [(3, .int z23), (2, .int x10), (0, .ref 17), (1, .int i)]) [0, 1, 2, 3] rfl ?_
              exact ih12 z23 x10 (by omega) hF (by omega)
            · replace hF := kf_nl c22 hF
              refine kw_iinc' (pc := 42) (i := 26) (k := 1) (fun z => [(2, .int z), (3, .int x9), (0, .ref 17), (1, .int i)]) rfl rfl (by decide) rfl (fun _ => rfl) (fun z24 e_z24 t_z24 => ?_)
              replace hF := kf_le e_z24 hF
              refine kw_iinc' (pc := 45) (i := 27) (k := 1) (fun z => [(3, .int z), (2, .int z24), (0, .ref 17), (1, .int i)]) rfl rfl (by decide) rfl (fun _ => rfl) (fun z25 e_z25 t_z25 => ?_)
              replace hF := kf_le e_z25 hF
              refine kw_goto (pc := 48) (i := 28) (tgt := 14) rfl rfl ?_
              refine kw_sub (lv' := [(3, .int z25), (2, .int z24), (0, .ref 17), (1, .int i)]) [0, 1, 2, 3] rfl ?_
              exact ih12 z25 z24 (by omega) hF (by omega)
    exact L11 _ 0 0 (by omega) hF (Nat.lt_succ_self _)
  · replace hF := kf_p c8 hF
    refine kw_iconst (pc := 8) (i := 4) (v := 0) rfl rfl ?_
    exact kw_ireturn (pc := 9) (i := 5) (ty := .int) rfl rfl rfl ⟨rfl, _, rfl, hF⟩
