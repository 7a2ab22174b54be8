abbrev p_X1_copyFrom_17_16 (σ : kw_S)  : Option Value → kw_S → Prop := fun v σ' => (kw_I bX σ' ∧ kw_F [17, 44, 45, 46, 47, 48] σ σ') ∧ v = none
set_option maxRecDepth 100000 in
set_option maxHeartbeats 4000000 in
theorem c_X1_copyFrom_17_16 (l : Launch) (σ : kw_S) (hI : kw_I bX σ)  : kw_Met l 2 KX mX1_copyFrom [.ref 17, .ref 16] σ (p_X1_copyFrom_17_16 σ) := by
  have hF0 : kw_F [17, 44, 45, 46, 47, 48] σ σ := kw_F.rf
  have q_0 : (0 : Int32).toInt = 0 := rfl
  have q_6 : (6 : Int32).toInt = 6 := rfl
  have q_8 : (8 : Int32).toInt = 8 := rfl
  refine kw_Met.of (by decide) rfl tX1_copyFrom (Nat.le_of_ble_eq_true rfl) ?_
  show kw_AW l 2 kw_E0 KX mX1_copyFrom (p_X1_copyFrom_17_16 σ) 0 [(0, .ref 17), (1, .ref 16)] [] σ
  refine kw_aload_n (pc := 0) (i := 0) (k := 1) (n := 1) rfl rfl rfl ?_
  refine kw_get (pc := 1) (i := 1) (v := .ref 39) rfl rfl rfl lkX1_9 (fun _ => rfl) ?_
  refine kw_iconst (pc := 4) (i := 2) (v := 0) rfl rfl ?_
  refine kw_aload_n (pc := 5) (i := 3) (k := 0) (n := 0) rfl rfl rfl ?_
  refine kw_get (pc := 6) (i := 4) (v := .ref 44) rfl rfl rfl lkX1_9 (fun _ => rfl) ?_
  refine kw_iconst (pc := 9) (i := 5) (v := 0) rfl rfl ?_
  refine kw_bipush (pc := 10) (i := 6) (v := 6) rfl rfl ?_
  refine kw_copy (pc := 12) (i := 7) (n := 6) (m_ := 6) rfl laX1_27 rfl rfl (by omega) (by omega) (by omega) (by omega) (by omega) (by omega) (Nat.le_of_ble_eq_true rfl) ?_
  have I1 : kw_I bX (kw_ua σ 44 (va_cpy (σ.1 39) (σ.1 44) ((0 : Int32).toNatClampNeg) ((0 : Int32).toNatClampNeg) ((6 : Int32).toNatClampNeg))) := kw_I_ua hI (fun j => ⟨(kw_rng _).1, Int.le_of_lt_add_one (kw_rng _).2⟩)
  have F2 : kw_F [17, 44, 45, 46, 47, 48] σ (kw_ua σ 44 (va_cpy (σ.1 39) (σ.1 44) ((0 : Int32).toNatClampNeg) ((0 : Int32).toNatClampNeg) ((6 : Int32).toNatClampNeg))) := kw_F_ua hF0 (by decide)
  generalize (kw_ua σ 44 (va_cpy (σ.1 39) (σ.1 44) ((0 : Int32).toNatClampNeg) ((0 : Int32).toNatClampNeg) ((6 : Int32).toNatClampNeg))) = S3 at I1 F2 ⊢
  refine kw_aload_n (pc := 15) (i := 8) (k := 1) (n := 1) rfl rfl rfl ?_
  refine kw_get (pc := 16) (i := 9) (v := .ref 40) rfl rfl rfl lkX1_15 (fun _ => rfl) ?_
  refine kw_iconst (pc := 19) (i := 10) (v := 0) rfl rfl ?_
  refine kw_aload_n (pc := 20) (i := 11) (k := 0) (n := 0) rfl rfl rfl ?_
  refine kw_get (pc := 21) (i := 12) (v := .ref 45) rfl rfl rfl lkX1_15 (fun _ => rfl) ?_
  refine kw_iconst (pc := 24) (i := 13) (v := 0) rfl rfl ?_
  refine kw_bipush (pc := 25) (i := 14) (v := 6) rfl rfl ?_
  refine kw_copy (pc := 27) (i := 15) (n := 6) (m_ := 6) rfl laX1_27 rfl rfl (by omega) (by omega) (by omega) (by omega) (by omega) (by omega) (Nat.le_of_ble_eq_true rfl) ?_
  have I4 : kw_I bX (kw_ua S3 45 (va_cpy (S3.1 40) (S3.1 45) ((0 : Int32).toNatClampNeg) ((0 : Int32).toNatClampNeg) ((6 : Int32).toNatClampNeg))) := kw_I_ua I1 (fun j => ⟨(kw_rng _).1, Int.le_of_lt_add_one (kw_rng _).2⟩)
  have F5 : kw_F [17, 44, 45, 46, 47, 48] σ (kw_ua S3 45 (va_cpy (S3.1 40) (S3.1 45) ((0 : Int32).toNatClampNeg) ((0 : Int32).toNatClampNeg) ((6 : Int32).toNatClampNeg))) := kw_F_ua F2 (by decide)
  generalize (kw_ua S3 45 (va_cpy (S3.1 40) (S3.1 45) ((0 : Int32).toNatClampNeg) ((0 : Int32).toNatClampNeg) ((6 : Int32).toNatClampNeg))) = S6 at I4 F5 ⊢
  refine kw_aload_n (pc := 30) (i := 16) (k := 1) (n := 1) rfl rfl rfl ?_
  refine kw_get (pc := 31) (i := 17) (v := .ref 41) rfl rfl rfl lkX1_18 (fun _ => rfl) ?_
  refine kw_iconst (pc := 34) (i := 18) (v := 0) rfl rfl ?_
  refine kw_aload_n (pc := 35) (i := 19) (k := 0) (n := 0) rfl rfl rfl ?_
  refine kw_get (pc := 36) (i := 20) (v := .ref 46) rfl rfl rfl lkX1_18 (fun _ => rfl) ?_
  refine kw_iconst (pc := 39) (i := 21) (v := 0) rfl rfl ?_
  refine kw_bipush (pc := 40) (i := 22) (v := 6) rfl rfl ?_
  refine kw_copy (pc := 42) (i := 23) (n := 6) (m_ := 6) rfl laX1_27 rfl rfl (by omega) (by omega) (by omega) (by omega) (by omega) (by omega) (Nat.le_of_ble_eq_true rfl) ?_
  have I7 : kw_I bX (kw_ua S6 46 (va_cpy (S6.1 41) (S6.1 46) ((0 : Int32).toNatClampNeg) ((0 : Int32).toNatClampNeg) ((6 : Int32).toNatClampNeg))) := kw_I_ua I4 (fun j => ⟨(kw_rng _).1, Int.le_of_lt_add_one (kw_rng _).2⟩)
  have F8 : kw_F [17, 44, 45, 46, 47, 48] σ (kw_ua S6 46 (va_cpy (S6.1 41) (S6.1 46) ((0 : Int32).toNatClampNeg) ((0 : Int32).toNatClampNeg) ((6 : Int32).toNatClampNeg))) := kw_F_ua F5 (by decide)
  generalize (kw_ua S6 46 (va_cpy (S6.1 41) (S6.1 46) ((0 : Int32).toNatClampNeg) ((0 : Int32).toNatClampNeg) ((6 : Int32).toNatClampNeg))) = S9 at I7 F8 ⊢
  refine kw_aload_n (pc := 45) (i := 24) (k := 1) (n := 1) rfl rfl rfl ?_
  refine kw_get (pc := 46) (i := 25) (v := .ref 42) rfl rfl rfl lkX1_21 (fun _ => rfl) ?_
  refine kw_iconst (pc := 49) (i := 26) (v := 0) rfl rfl ?_
  refine kw_aload_n (pc := 50) (i := 27) (k := 0) (n := 0) rfl rfl rfl ?_
  refine kw_get (pc := 51) (i := 28) (v := .ref 47) rfl rfl rfl lkX1_21 (fun _ => rfl) ?_
  refine kw_iconst (pc := 54) (i := 29) (v := 0) rfl rfl ?_
  refine kw_bipush (pc := 55) (i := 30) (v := 6) rfl rfl ?_
  refine kw_copy (pc := 57) (i := 31) (n := 6) (m_ := 6) rfl laX1_27 rfl rfl (by omega) (by omega) (by omega) (by omega) (by omega) (by omega) (Nat.le_of_ble_eq_true rfl) ?_
  have I10 : kw_I bX (kw_ua S9 47 (va_cpy (S9.1 42) (S9.1 47) ((0 : Int32).toNatClampNeg) ((0 : Int32).toNatClampNeg) ((6 : Int32).toNatClampNeg))) := kw_I_ua I7 (fun j => ⟨(kw_rng _).1, Int.le_of_lt_add_one (kw_rng _).2⟩)
  have F11 : kw_F [17, 44, 45, 46, 47, 48] σ (kw_ua S9 47 (va_cpy (S9.1 42) (S9.1 47) ((0 : Int32).toNatClampNeg) ((0 : Int32).toNatClampNeg) ((6 : Int32).toNatClampNeg))) := kw_F_ua F8 (by decide)
  generalize (kw_ua S9 47 (va_cpy (S9.1 42) (S9.1 47) ((0 : Int32).toNatClampNeg) ((0 : Int32).toNatClampNeg) ((6 : Int32).toNatClampNeg))) = S12 at I10 F11 ⊢
  refine kw_aload_n (pc := 60) (i := 32) (k := 1) (n := 1) rfl rfl rfl ?_
  refine kw_get (pc := 61) (i := 33) (v := .ref 43) rfl rfl rfl lkX1_24 (fun _ => rfl) ?_
  refine kw_iconst (pc := 64) (i := 34) (v := 0) rfl rfl ?_
  refine kw_aload_n (pc := 65) (i := 35) (k := 0) (n := 0) rfl rfl rfl ?_
  refine kw_get (pc := 66) (i := 36) (v := .ref 48) rfl rfl rfl lkX1_24 (fun _ => rfl) ?_
  refine kw_iconst (pc := 69) (i := 37) (v := 0) rfl rfl ?_
  refine kw_bipush (pc := 70) (i := 38) (v := 8) rfl rfl ?_
  refine kw_copy (pc := 72) (i := 39) (n := 8) (m_ := 8) rfl laX1_27 rfl rfl (by omega) (by omega) (by omega) (by omega) (by omega) (by omega) (Nat.le_of_ble_eq_true rfl) ?_
  have I13 : kw_I bX (kw_ua S12 48 (va_cpy (S12.1 43) (S12.1 48) ((0 : Int32).toNatClampNeg) ((0 : Int32).toNatClampNeg) ((8 : Int32).toNatClampNeg))) := kw_I_ua I10 (fun j => ⟨(kw_rng _).1, Int.le_of_lt_add_one (kw_rng _).2⟩)
  have F14 : kw_F [17, 44, 45, 46, 47, 48] σ (kw_ua S12 48 (va_cpy (S12.1 43) (S12.1 48) ((0 : Int32).toNatClampNeg) ((0 : Int32).toNatClampNeg) ((8 : Int32).toNatClampNeg))) := kw_F_ua F11 (by decide)
  generalize (kw_ua S12 48 (va_cpy (S12.1 43) (S12.1 48) ((0 : Int32).toNatClampNeg) ((0 : Int32).toNatClampNeg) ((8 : Int32).toNatClampNeg))) = S15 at I13 F14 ⊢
  refine kw_aload_n (pc := 75) (i := 40) (k := 0) (n := 0) rfl rfl rfl ?_
  refine kw_aload_n (pc := 76) (i := 41) (k := 1) (n := 1) rfl rfl rfl ?_
  refine kw_get (pc := 77) (i := 42) (v := .int (S15.1 16 5)) rfl rfl rfl lkX1_33 (fun _ => rfl) ?_
  have b16 : 0 ≤ (S15.1 16 5).toInt ∧ (S15.1 16 5).toInt ≤ 6 := I13 16 5
  refine kw_puti (pc := 80) (i := 43) (z := 0) rfl rfl rfl lpX1_33 rfl rfl ?_
  have I17 : kw_I bX (kw_ui S15 17 5 (S15.1 16 5)) := kw_I_ui I13 (show 0 ≤ (S15.1 16 5).toInt by omega) (show (S15.1 16 5).toInt ≤ 6 by omega)
  have F18 : kw_F [17, 44, 45, 46, 47, 48] σ (kw_ui S15 17 5 (S15.1 16 5)) := kw_F_ui F14 (by decide)
  refine kw_aload_n (pc := 83) (i := 44) (k := 0) (n := 0) rfl rfl rfl ?_
  refine kw_aload_n (pc := 84) (i := 45) (k := 1) (n := 1) rfl rfl rfl ?_
  refine kw_get (pc := 85) (i := 46) (v := .int (S15.1 16 6)) rfl rfl rfl lkX1_37 (fun _ => rfl) ?_
  have b19 : 0 ≤ (S15.1 16 6).toInt ∧ (S15.1 16 6).toInt ≤ 8 := I13 16 6
  refine kw_puti (pc := 88) (i := 47) (z := 0) rfl rfl rfl lpX1_37 rfl rfl ?_
  have I20 : kw_I bX (kw_ui (kw_ui S15 17 5 (S15.1 16 5)) 17 6 (S15.1 16 6)) := kw_I_ui I17 (show 0 ≤ (S15.1 16 6).toInt by omega) (show (S15.1 16 6).toInt ≤ 8 by omega)
  have F21 : kw_F [17, 44, 45, 46, 47, 48] σ (kw_ui (kw_ui S15 17 5 (S15.1 16 5)) 17 6 (S15.1 16 6)) := kw_F_ui F18 (by decide)
  exact kw_return (pc := 91) (i := 48) rfl rfl ⟨⟨I20, F21⟩, rfl⟩
abbrev p_X1_hasLine_17 (σ : kw_S) (i : Int32) : Option Value → kw_S → Prop := fun v σ' => σ' = σ ∧ ∃ r : Int32, v = some (.int r) ∧ (r.toInt = 0 ∨ r.toInt = 1) ∧ (r.toInt = 0 ∨ 0 ≤ i.toInt ∧ i.toInt < (σ.1 17 5).toInt ∧ i.toInt < 6)
set_option maxRecDepth 100000 in
set_option maxHeartbeats 4000000 in
theorem c_X1_hasLine_17 (l : Launch) (σ : kw_S) (hI : kw_I bX σ) (i : Int32) : kw_Met l 1 KX mX1_hasLine [.ref 17, .int i] σ (p_X1_hasLine_17 σ i) := by
  have r_i := kw_rng i
  have q_0 : (0 : Int32).toInt = 0 := rfl
  have q_1 : (1 : Int32).toInt = 1 := rfl
  refine kw_Met.of (by decide) rfl tX1_hasLine (Nat.le_of_ble_eq_true rfl) ?_
  show kw_AW l 1 kw_E0 KX mX1_hasLine (p_X1_hasLine_17 σ i) 0 [(0, .ref 17), (1, .int i)] [] σ
  refine kw_iload_n (pc := 0) (i := 0) (k := 1) (n := 1) rfl rfl rfl ?_
  refine kw_if_lt (pc := 1) (i := 1) (tgt := 16) rfl rfl (fun c1 => ?_) (fun c1 => ?_)
  · refine kw_iconst (pc := 16) (i := 8) (v := 0) rfl rfl ?_
    exact kw_ireturn (pc := 17) (i := 9) (ty := .boolean) rfl rfl rfl ⟨rfl, _, rfl, ⟨by omega, by omega⟩⟩
  · refine kw_iload_n (pc := 4) (i := 2) (k := 1) (n := 1) rfl rfl rfl ?_
    refine kw_aload_n (pc := 5) (i := 3) (k := 0) (n := 0) rfl rfl rfl ?_
    refine kw_get (pc := 6) (i := 4) (v := .int (σ.1 17 5)) rfl rfl rfl lkX1_33 (fun _ => rfl) ?_
    have b2 : 0 ≤ (σ.1 17 5).toInt ∧ (σ.1 17 5).toInt ≤ 6 := hI 17 5
    refine kw_icmp_ge (pc := 9) (i := 5) (tgt := 16) rfl rfl (fun c3 => ?_) (fun c3 => ?_)
    · refine kw_iconst (pc := 16) (i := 8) (v := 0) rfl rfl ?_
      exact kw_ireturn (pc := 17) (i := 9) (ty := .boolean) rfl rfl rfl ⟨rfl, _, rfl, ⟨by omega, by omega⟩⟩
    · refine kw_iconst (pc := 12) (i := 6) (v := 1) rfl rfl ?_
      refine kw_goto (pc := 13) (i := 7) (tgt := 17) rfl rfl ?_
      exact kw_ireturn (pc := 17) (i := 9) (ty := .boolean) rfl rfl rfl ⟨rfl, _, rfl, ⟨by omega, by omega⟩⟩
abbrev p_X1_allLines_17 (σ : kw_S)  : Option Value → kw_S → Prop := fun v σ' => σ' = σ ∧ ∃ r : Int32, v = some (.int r)
set_option maxRecDepth 100000 in
set_option maxHeartbeats 4000000 in
theorem c_X1_allLines_17 (l : Launch) (σ : kw_S) (hI : kw_I bX σ)  : kw_Met l 1 KX mX1_allLines [.ref 17] σ (p_X1_allLines_17 σ) := by
  have q_1 : (1 : Int32).toInt = 1 := rfl
  refine kw_Met.of (by decide) rfl tX1_allLines (Nat.le_of_ble_eq_true rfl) ?_
  show kw_AW l 1 kw_E0 KX mX1_allLines (p_X1_allLines_17 σ) 0 [(0, .ref 17)] [] σ
  refine kw_iconst (pc := 0) (i := 0) (v := 1) rfl rfl ?_
  refine kw_aload_n (pc := 1) (i := 1) (k := 0) (n := 0) rfl rfl rfl ?_
  refine kw_get (pc := 2) (i := 2) (v := .int (σ.1 17 5)) rfl rfl rfl lkX1_33 (fun _ => rfl) ?_
  have b1 : 0 ≤ (σ.1 17 5).toInt ∧ (σ.1 17 5).toInt ≤ 6 := hI 17 5
  refine kw_ishl (pc := 5) (i := 3) rfl (fun z2 e_z2 => ?_)
  have r_z2 := kw_rng z2
  refine kw_iconst (pc := 6) (i := 4) (v := 1) rfl rfl ?_
  refine kw_isub (pc := 7) (i := 5) rfl (fun z3 e_z3 t_z3 => ?_)
  exact kw_ireturn (pc := 8) (i := 6) (ty := .int) rfl rfl rfl ⟨rfl, _, rfl⟩
abbrev p_X1_hasSet_17 (σ : kw_S) (s : Int32) : Option Value → kw_S → Prop := fun v σ' => σ' = σ ∧ ∃ r : Int32, v = some (.int r) ∧ (r.toInt = 0 ∨ r.toInt = 1)
set_option maxRecDepth 100000 in
set_option maxHeartbeats 4000000 in
theorem c_X1_hasSet_17 (l : Launch) (σ : kw_S) (hI : kw_I bX σ) (s : Int32) : kw_Met l 2 KX mX1_hasSet [.ref 17, .int s] σ (p_X1_hasSet_17 σ s) := by
  have r_s := kw_rng s
  have q_0 : (0 : Int32).toInt = 0 := rfl
  have q_1 : (1 : Int32).toInt = 1 := rfl
  refine kw_Met.of (by decide) rfl tX1_hasSet (Nat.le_of_ble_eq_true rfl) ?_
  show kw_AW l 2 kw_E0 KX mX1_hasSet (p_X1_hasSet_17 σ s) 0 [(0, .ref 17), (1, .int s)] [] σ
  refine kw_iload_n (pc := 0) (i := 0) (k := 1) (n := 1) rfl rfl rfl ?_
  refine kw_if_lt (pc := 1) (i := 1) (tgt := 16) rfl rfl (fun c1 => ?_) (fun c1 => ?_)
  · refine kw_iconst (pc := 16) (i := 8) (v := 0) rfl rfl ?_
    exact kw_ireturn (pc := 17) (i := 9) (ty := .boolean) rfl rfl rfl ⟨rfl, _, rfl, by omega⟩
  · refine kw_iload_n (pc := 4) (i := 2) (k := 1) (n := 1) rfl rfl rfl ?_
    refine kw_aload_n (pc := 5) (i := 3) (k := 0) (n := 0) rfl rfl rfl ?_
    refine kw_callV (pc := 6) (i := 4) (Y := mX1_allLines) (a := 17) (As := []) (st := [.int s]) kw_hE rfl rfl lvX1_40 arX1_allLines (c_X1_allLines_17 l σ hI  ) (by decide) (Nat.le_of_ble_eq_true rfl) rfl (fun v S3 p2 => ?_)
    obtain ⟨e5, z4, rfl⟩ := p2
    rw [e5]
    have r_z4 := kw_rng z4
    show kw_AW l 2 kw_E0 KX mX1_hasSet (p_X1_hasSet_17 σ s) 9 [(0, .ref 17), (1, .int s)] [.int z4, .int s] σ
    refine kw_icmp_gt (pc := 9) (i := 5) (tgt := 16) rfl rfl (fun c6 => ?_) (fun c6 => ?_)
    · refine kw_iconst (pc := 16) (i := 8) (v := 0) rfl rfl ?_
      exact kw_ireturn (pc := 17) (i := 9) (ty := .boolean) rfl rfl rfl ⟨rfl, _, rfl, by omega⟩
    · refine kw_iconst (pc := 12) (i := 6) (v := 1) rfl rfl ?_
      refine kw_goto (pc := 13) (i := 7) (tgt := 17) rfl rfl ?_
      exact kw_ireturn (pc := 17) (i := 9) (ty := .boolean) rfl rfl rfl ⟨rfl, _, rfl, by omega⟩
abbrev p_X1_windAt_17 (σ : kw_S) (h : Int32) : Option Value → kw_S → Prop := fun v σ' => σ' = σ ∧ ∃ r : Int32, v = some (.int r)
set_option maxRecDepth 100000 in
set_option maxHeartbeats 4000000 in
theorem c_X1_windAt_17 (l : Launch) (σ : kw_S) (hI : kw_I bX σ) (h : Int32) : kw_Met l 1 KX mX1_windAt [.ref 17, .int h] σ (p_X1_windAt_17 σ h) := by
  have r_h := kw_rng h
  have q_0 : (0 : Int32).toInt = 0 := rfl
  have q_1 : (1 : Int32).toInt = 1 := rfl
  refine kw_Met.of (by decide) rfl tX1_windAt (Nat.le_of_ble_eq_true rfl) ?_
  show kw_AW l 1 kw_E0 KX mX1_windAt (p_X1_windAt_17 σ h) 0 [(0, .ref 17), (1, .int h)] [] σ
  refine kw_aload_n (pc := 0) (i := 0) (k := 0) (n := 0) rfl rfl rfl ?_
  refine kw_get (pc := 1) (i := 1) (v := .int (σ.1 17 6)) rfl rfl rfl lkX1_37 (fun _ => rfl) ?_
  have b1 : 0 ≤ (σ.1 17 6).toInt ∧ (σ.1 17 6).toInt ≤ 8 := hI 17 6
  refine kw_iconst (pc := 4) (i := 2) (v := 1) rfl rfl ?_
  refine kw_icmp_lt (pc := 5) (i := 3) (tgt := 12) rfl rfl (fun c2 => ?_) (fun c2 => ?_)
  · refine kw_iconst (pc := 12) (i := 6) (v := 0) rfl rfl ?_
    refine kw_goto (pc := 13) (i := 7) (tgt := 27) rfl rfl ?_
    exact kw_ireturn (pc := 27) (i := 15) (ty := .int) rfl rfl rfl ⟨rfl, _, rfl⟩
  · refine kw_iload_n (pc := 8) (i := 4) (k := 1) (n := 1) rfl rfl rfl ?_
    refine kw_if_ge (pc := 9) (i := 5) (tgt := 16) rfl rfl (fun c3 => ?_) (fun c3 => ?_)
    · refine kw_aload_n (pc := 16) (i := 8) (k := 0) (n := 0) rfl rfl rfl ?_
      refine kw_get (pc := 17) (i := 9) (v := .ref 48) rfl rfl rfl lkX1_24 (fun _ => rfl) ?_
      refine kw_iload_n (pc := 20) (i := 10) (k := 1) (n := 1) rfl rfl rfl ?_
      refine kw_aload_n (pc := 21) (i := 11) (k := 0) (n := 0) rfl rfl rfl ?_
      refine kw_get (pc := 22) (i := 12) (v := .int (σ.1 17 6)) rfl rfl rfl lkX1_37 (fun _ => rfl) ?_
      refine kw_irem (pc := 25) (i := 13) rfl (by omega) (fun z4 e_z4 => ?_)
      have r_z4 := kw_rng z4
      have t_z4 := kw_remI h (σ.1 17 6) z4 e_z4
      refine kw_iald (pc := 26) (i := 14) (n := 8) rfl rfl (by omega) (by omega) (fun z5 e_z5 => ?_)
      have t_z5 := congrArg Int32.toInt e_z5
      have r_z5 := kw_rng z5
      exact kw_ireturn (pc := 27) (i := 15) (ty := .int) rfl rfl rfl ⟨rfl, _, rfl⟩
    · refine kw_iconst (pc := 12) (i := 6) (v := 0) rfl rfl ?_
      refine kw_goto (pc := 13) (i := 7) (tgt := 27) rfl rfl ?_
      exact kw_ireturn (pc := 27) (i := 15) (ty := .int) rfl rfl rfl ⟨rfl, _, rfl⟩
abbrev p_X1_pullOf_17 (σ : kw_S) (i : Int32) (w : Int32) : Option Value → kw_S → Prop := fun v σ' => σ' = σ ∧ ∃ r : Int32, v = some (.int r)
set_option maxRecDepth 100000 in
set_option maxHeartbeats 4000000 in
theorem c_X1_pullOf_17 (l : Launch) (σ : kw_S) (hI : kw_I bX σ) (i : Int32) (w : Int32) : kw_Met l 2 KX mX1_pullOf [.ref 17, .int i, .int w] σ (p_X1_pullOf_17 σ i w) := by
  have r_i := kw_rng i
  have r_w := kw_rng w
  have q_0 : (0 : Int32).toInt = 0 := rfl
  refine kw_Met.of (by decide) rfl tX1_pullOf (Nat.le_of_ble_eq_true rfl) ?_
  show kw_AW l 2 kw_E0 KX mX1_pullOf (p_X1_pullOf_17 σ i w) 0 [(0, .ref 17), (1, .int i), (2, .int w)] [] σ
  refine kw_aload_n (pc := 0) (i := 0) (k := 0) (n := 0) rfl rfl rfl ?_
  refine kw_iload_n (pc := 1) (i := 1) (k := 1) (n := 1) rfl rfl rfl ?_
  refine kw_callV (pc := 2) (i := 2) (Y := mX1_hasLine) (a := 17) (As := [.int i]) (st := []) kw_hE rfl rfl lvX1_44 arX1_hasLine (c_X1_hasLine_17 l σ hI i ) (by decide) (Nat.le_of_ble_eq_true rfl) rfl (fun v S2 p1 => ?_)
  obtain ⟨e6, z5, rfl, f3, f4⟩ := p1
  rw [e6]
  have r_z5 := kw_rng z5
  show kw_AW l 2 kw_E0 KX mX1_pullOf (p_X1_pullOf_17 σ i w) 5 [(0, .ref 17), (1, .int i), (2, .int w)] [.int z5] σ
  refine kw_if_eq (pc := 5) (i := 3) (tgt := 27) rfl rfl (fun c7 => ?_) (fun c7 => ?_)
  · refine kw_iconst (pc := 27) (i := 15) (v := 0) rfl rfl ?_
    exact kw_ireturn (pc := 28) (i := 16) (ty := .int) rfl rfl rfl ⟨rfl, _, rfl⟩
  · refine kw_aload_n (pc := 8) (i := 4) (k := 0) (n := 0) rfl rfl rfl ?_
    refine kw_get (pc := 9) (i := 5) (v := .ref 44) rfl rfl rfl lkX1_9 (fun _ => rfl) ?_
    refine kw_iload_n (pc := 12) (i := 6) (k := 1) (n := 1) rfl rfl rfl ?_
    refine kw_iald (pc := 13) (i := 7) (n := 6) rfl rfl (by omega) (by omega) (fun z8 e_z8 => ?_)
    have t_z8 := congrArg Int32.toInt e_z8
    have r_z8 := kw_rng z8
    refine kw_aload_n (pc := 14) (i := 8) (k := 0) (n := 0) rfl rfl rfl ?_
    refine kw_get (pc := 15) (i := 9) (v := .ref 46) rfl rfl rfl lkX1_18 (fun _ => rfl) ?_
    refine kw_iload_n (pc := 18) (i := 10) (k := 1) (n := 1) rfl rfl rfl ?_
    refine kw_iald (pc := 19) (i := 11) (n := 6) rfl rfl (by omega) (by omega) (fun z9 e_z9 => ?_)
    have t_z9 := congrArg Int32.toInt e_z9
    have r_z9 := kw_rng z9
    refine kw_iload_n (pc := 20) (i := 12) (k := 2) (n := 2) rfl rfl rfl ?_
    refine kw_callN (pc := 21) (i := 13) (Y := mX7_pull) (As := [.int z8, .int z9, .int w]) (st := []) kw_hE rfl lnX1_48 arX7_pull (c_X7_pull l σ hI z8 z9 w ) (by decide) (Nat.le_of_ble_eq_true rfl) rfl (fun v S11 p10 => ?_)
    obtain ⟨e13, z12, rfl⟩ := p10
    rw [e13]
    have r_z12 := kw_rng z12
    show kw_AW l 2 kw_E0 KX mX1_pullOf (p_X1_pullOf_17 σ i w) 24 [(0, .ref 17), (1, .int i), (2, .int w)] [.int z12] σ
    refine kw_goto (pc := 24) (i := 14) (tgt := 28) rfl rfl ?_
    exact kw_ireturn (pc := 28) (i := 16) (ty := .int) rfl rfl rfl ⟨rfl, _, rfl⟩
abbrev p_X1_milesOf_17 (σ : kw_S) (s : Int32) (w : Int32) : Option Value → kw_S → Prop := fun v σ' => σ' = σ ∧ ∃ r : Int32, v = some (.int r)
set_option maxRecDepth 100000 in
set_option maxHeartbeats 4000000 in
theorem c_X1_milesOf_17 (l : Launch) (σ : kw_S) (hI : kw_I bX σ) (s : Int32) (w : Int32) : kw_Met l 3 KX mX1_milesOf [.ref 17, .int s, .int w] σ (p_X1_milesOf_17 σ s w) := by
  have r_s := kw_rng s
  have r_w := kw_rng w
  have q_0 : (0 : Int32).toInt = 0 := rfl
  have q_1 : (1 : Int32).toInt = 1 := rfl
  have q_4 : (4 : Int32).toInt = 4 := rfl
  refine kw_Met.of (by decide) rfl tX1_milesOf (Nat.le_of_ble_eq_true rfl) ?_
  show kw_AW l 3 kw_E0 KX mX1_milesOf (p_X1_milesOf_17 σ s w) 0 [(0, .ref 17), (1, .int s), (2, .int w)] [] σ
  refine kw_iconst (pc := 0) (i := 0) (v := 0) rfl rfl ?_
  refine kw_istore_n (pc := 1) (i := 1) (n := 3) (lv' := [(3, .int 0), (0, .ref 17), (1, .int s), (2, .int w)]) rfl rfl (by decide) rfl ?_
  refine kw_iconst (pc := 2) (i := 2) (v := 0) rfl rfl ?_
  refine kw_istore (pc := 3) (i := 3) (n := 4) (lv' := [(4, .int 0), (3, .int 0), (0, .ref 17), (1, .int s), (2, .int w)]) rfl (by decide) rfl ?_
  have L3 : ∀ (n7 : Nat) (x1 : Int32) (x2 : Int32), 0 ≤ x1.toInt → (7 - x1.toInt).toNat < n7 → kw_AW l 3 kw_E0 KX mX1_milesOf (p_X1_milesOf_17 σ s w) 5 [(4, .int x1), (3, .int x2), (0, .ref 17), (1, .int s), (2, .int w)] [] σ := by
    intro n7
    induction n7 with
    | zero => intro x1 x2 v5 m6; exact absurd m6 (Nat.not_lt_zero _)
    | succ n7 ih4 =>
      intro x1 x2 v5 m6
      have r_x1 := kw_rng x1
      have r_x2 := kw_rng x2
      refine kw_iload (pc := 5) (i := 4) (k := 0) (n := 4) rfl rfl ?_
      refine kw_aload_n (pc := 7) (i := 5) (k := 2) (n := 0) rfl rfl rfl ?_
      refine kw_get (pc := 8) (i := 6) (v := .int (σ.1 17 5)) rfl rfl rfl lkX1_33 (fun _ => rfl) ?_
      have b8 : 0 ≤ (σ.1 17 5).toInt ∧ (σ.1 17 5).toInt ≤ 6 := hI 17 5
      refine kw_icmp_ge (pc := 11) (i := 7) (tgt := 40) rfl rfl (fun c9 => ?_) (fun c9 => ?_)
      · refine kw_iload_n (pc := 40) (i := 24) (k := 1) (n := 3) rfl rfl rfl ?_
        refine kw_iconst (pc := 41) (i := 25) (v := 4) rfl rfl ?_
        refine kw_idiv (pc := 42) (i := 26) rfl (by omega) (fun z10 e_z10 => ?_)
        have r_z10 := kw_rng z10
        exact kw_ireturn (pc := 43) (i := 27) (ty := .int) rfl rfl rfl ⟨rfl, _, rfl⟩
      · refine kw_iload_n (pc := 14) (i := 8) (k := 3) (n := 1) rfl rfl rfl ?_
        refine kw_iload (pc := 15) (i := 9) (k := 0) (n := 4) rfl rfl ?_
        refine kw_ishr (pc := 17) (i := 10) rfl (fun z11 e_z11 => ?_)
        have r_z11 := kw_rng z11
        refine kw_iconst (pc := 18) (i := 11) (v := 1) rfl rfl ?_
        refine kw_iand (pc := 19) (i := 12) rfl (fun z12 e_z12 => ?_)
        have r_z12 := kw_rng z12
        refine kw_iconst (pc := 20) (i := 13) (v := 1) rfl rfl ?_
        refine kw_icmp_ne (pc := 21) (i := 14) (tgt := 34) rfl rfl (fun c13 => ?_) (fun c13 => ?_)
        · refine kw_iinc' (pc := 34) (i := 22) (k := 0) (fun z => [(4, .int z), (3, .int x2), (0, .ref 17), (1, .int s), (2, .int w)]) rfl rfl (by decide) rfl (fun _ => rfl) (fun z14 e_z14 t_z14 => ?_)
          refine kw_goto (pc := 37) (i := 23) (tgt := 5) rfl rfl ?_
          refine kw_sub (lv' := [(4, .int z14), (3, .int x2), (0, .ref 17), (1, .int s), (2, .int w)]) [0, 1, 2, 3, 4] rfl ?_
          exact ih4 z14 x2 (by omega) (by omega)
        · refine kw_iload_n (pc := 24) (i := 15) (k := 1) (n := 3) rfl rfl rfl ?_
          refine kw_aload_n (pc := 25) (i := 16) (k := 2) (n := 0) rfl rfl rfl ?_
          refine kw_iload (pc := 26) (i := 17) (k := 0) (n := 4) rfl rfl ?_
          refine kw_iload_n (pc := 28) (i := 18) (k := 4) (n := 2) rfl rfl rfl ?_
          refine kw_callV (pc := 29) (i := 19) (Y := mX1_pullOf) (a := 17) (As := [.int x1, .int w]) (st := [.int x2]) kw_hE rfl rfl lvX1_52 arX1_pullOf (c_X1_pullOf_17 l σ hI x1 w ) (by decide) (Nat.le_of_ble_eq_true rfl) rfl (fun v S16 p15 => ?_)
          obtain ⟨e18, z17, rfl⟩ := p15
          rw [e18]
          have r_z17 := kw_rng z17
          show kw_AW l 3 kw_E0 KX mX1_milesOf (p_X1_milesOf_17 σ s w) 32 [(4, .int x1), (3, .int x2), (0, .ref 17), (1, .int s), (2, .int w)] [.int z17, .int x2] σ
          refine kw_iadd (pc := 32) (i := 20) rfl (fun z19 e_z19 t_z19 => ?_)
          refine kw_istore_n (pc := 33) (i := 21) (n := 3) (lv' := [(3, .int z19), (4, .int x1), (0, .ref 17), (1, .int s), (2, .int w)]) rfl rfl (by decide) rfl ?_
          refine kw_iinc' (pc := 34) (i := 22) (k := 1) (fun z => [(4, .int z), (3, .int z19), (0, .ref 17), (1, .int s), (2, .int w)]) rfl rfl (by decide) rfl (fun _ => rfl) (fun z20 e_z20 t_z20 => ?_)
          refine kw_goto (pc := 37) (i := 23) (tgt := 5) rfl rfl ?_
          refine kw_sub (lv' := [(4, .int z20), (3, .int z19), (0, .ref 17), (1, .int s), (2, .int w)]) [0, 1, 2, 3, 4] rfl ?_
          exact ih4 z20 z19 (by omega) (by omega)
  exact L3 _ 0 0 (by omega) (Nat.lt_succ_self _)
abbrev p_X1_turnOf_17 (σ : kw_S) (s : Int32) (w : Int32) : Option Value → kw_S → Prop := fun v σ' => σ' = σ ∧ ∃ r : Int32, v = some (.int r)
set_option maxRecDepth 100000 in
set_option maxHeartbeats 4000000 in
theorem c_X1_turnOf_17 (l : Launch) (σ : kw_S) (hI : kw_I bX σ) (s : Int32) (w : Int32) : kw_Met l 3 KX mX1_turnOf [.ref 17, .int s, .int w] σ (p_X1_turnOf_17 σ s w) := by
  have r_s := kw_rng s
  have r_w := kw_rng w
  have q_0 : (0 : Int32).toInt = 0 := rfl
  have q_1 : (1 : Int32).toInt = 1 := rfl
  refine kw_Met.of (by decide) rfl tX1_turnOf (Nat.le_of_ble_eq_true rfl) ?_
  show kw_AW l 3 kw_E0 KX mX1_turnOf (p_X1_turnOf_17 σ s w) 0 [(0, .ref 17), (1, .int s), (2, .int w)] [] σ
  refine kw_iconst (pc := 0) (i := 0) (v := 0) rfl rfl ?_
  refine kw_istore_n (pc := 1) (i := 1) (n := 3) (lv' := [(3, .int 0), (0, .ref 17), (1, .int s), (2, .int w)]) rfl rfl (by decide) rfl ?_
  refine kw_iconst (pc := 2) (i := 2) (v := 0) rfl rfl ?_
  refine kw_istore (pc := 3) (i := 3) (n := 4) (lv' := [(4, .int 0), (3, .int 0), (0, .ref 17), (1, .int s), (2, .int w)]) rfl (by decide) rfl ?_
  have L3 : ∀ (n7 : Nat) (x1 : Int32) (x2 : Int32), 0 ≤ x1.toInt → (7 - x1.toInt).toNat < n7 → kw_AW l 3 kw_E0 KX mX1_turnOf (p_X1_turnOf_17 σ s w) 5 [(4, .int x1), (3, .int x2), (0, .ref 17), (1, .int s), (2, .int w)] [] σ := by
    intro n7
    induction n7 with
    | zero => intro x1 x2 v5 m6; exact absurd m6 (Nat.not_lt_zero _)
    | succ n7 ih4 =>
      intro x1 x2 v5 m6
      have r_x1 := kw_rng x1
      have r_x2 := kw_rng x2
      refine kw_iload (pc := 5) (i := 4) (k := 0) (n := 4) rfl rfl ?_
      refine kw_aload_n (pc := 7) (i := 5) (k := 2) (n := 0) rfl rfl rfl ?_
      refine kw_get (pc := 8) (i := 6) (v := .int (σ.1 17 5)) rfl rfl rfl lkX1_33 (fun _ => rfl) ?_
      have b8 : 0 ≤ (σ.1 17 5).toInt ∧ (σ.1 17 5).toInt ≤ 6 := hI 17 5
      refine kw_icmp_ge (pc := 11) (i := 7) (tgt := 48) rfl rfl (fun c9 => ?_) (fun c9 => ?_)
      · refine kw_iload_n (pc := 48) (i := 29) (k := 1) (n := 3) rfl rfl rfl ?_
        exact kw_ireturn (pc := 49) (i := 30) (ty := .int) rfl rfl rfl ⟨rfl, _, rfl⟩
      · refine kw_iload_n (pc := 14) (i := 8) (k := 3) (n := 1) rfl rfl rfl ?_
        refine kw_iload (pc := 15) (i := 9) (k := 0) (n := 4) rfl rfl ?_
        refine kw_ishr (pc := 17) (i := 10) rfl (fun z10 e_z10 => ?_)
        have r_z10 := kw_rng z10
        refine kw_iconst (pc := 18) (i := 11) (v := 1) rfl rfl ?_
        refine kw_iand (pc := 19) (i := 12) rfl (fun z11 e_z11 => ?_)
        have r_z11 := kw_rng z11
        refine kw_iconst (pc := 20) (i := 13) (v := 1) rfl rfl ?_
        refine kw_icmp_ne (pc := 21) (i := 14) (tgt := 42) rfl rfl (fun c12 => ?_) (fun c12 => ?_)
        · refine kw_iinc' (pc := 42) (i := 27) (k := 0) (fun z => [(4, .int z), (3, .int x2), (0, .ref 17), (1, .int s), (2, .int w)]) rfl rfl (by decide) rfl (fun _ => rfl) (fun z13 e_z13 t_z13 => ?_)
          refine kw_goto (pc := 45) (i := 28) (tgt := 5) rfl rfl ?_
          refine kw_sub (lv' := [(4, .int z13), (3, .int x2), (0, .ref 17), (1, .int s), (2, .int w)]) [0, 1, 2, 3, 4] rfl ?_
          exact ih4 z13 x2 (by omega) (by omega)
        · refine kw_iload_n (pc := 24) (i := 15) (k := 1) (n := 3) rfl rfl rfl ?_
          refine kw_aload_n (pc := 25) (i := 16) (k := 2) (n := 0) rfl rfl rfl ?_
          refine kw_iload (pc := 26) (i := 17) (k := 0) (n := 4) rfl rfl ?_
          refine kw_iload_n (pc := 28) (i := 18) (k := 4) (n := 2) rfl rfl rfl ?_
          refine kw_callV (pc := 29) (i := 19) (Y := mX1_pullOf) (a := 17) (As := [.int x1, .int w]) (st := [.int x2]) kw_hE rfl rfl lvX1_52 arX1_pullOf (c_X1_pullOf_17 l σ hI x1 w ) (by decide) (Nat.le_of_ble_eq_true rfl) rfl (fun v S15 p14 => ?_)
          obtain ⟨e17, z16, rfl⟩ := p14
          rw [e17]
          have r_z16 := kw_rng z16
          show kw_AW l 3 kw_E0 KX mX1_turnOf (p_X1_turnOf_17 σ s w) 32 [(4, .int x1), (3, .int x2), (0, .ref 17), (1, .int s), (2, .int w)] [.int z16, .int x2] σ
          refine kw_aload_n (pc := 32) (i := 20) (k := 2) (n := 0) rfl rfl rfl ?_
          refine kw_get (pc := 33) (i := 21) (v := .ref 45) rfl rfl rfl lkX1_15 (fun _ => rfl) ?_
          refine kw_iload (pc := 36) (i := 22) (k := 0) (n := 4) rfl rfl ?_
          refine kw_iald (pc := 38) (i := 23) (n := 6) rfl rfl (by omega) (by omega) (fun z18 e_z18 => ?_)
          have t_z18 := congrArg Int32.toInt e_z18
          have r_z18 := kw_rng z18
          refine kw_imul (pc := 39) (i := 24) rfl (fun z19 e_z19 t_z19 => ?_)
          refine kw_iadd (pc := 40) (i := 25) rfl (fun z20 e_z20 t_z20 => ?_)
          refine kw_istore_n (pc := 41) (i := 26) (n := 3) (lv' := [(3, .int z20), (4, .int x1), (0, .ref 17), (1, .int s), (2, .int w)]) rfl rfl (by decide) rfl ?_
          refine kw_iinc' (pc := 42) (i := 27) (k := 1) (fun z => [(4, .int z), (3, .int z20), (0, .ref 17), (1, .int s), (2, .int w)]) rfl rfl (by decide) rfl (fun _ => rfl) (fun z21 e_z21 t_z21 => ?_)
          refine kw_goto (pc := 45) (i := 28) (tgt := 5) rfl rfl ?_
          refine kw_sub (lv' := [(4, .int z21), (3, .int z20), (0, .ref 17), (1, .int s), (2, .int w)]) [0, 1, 2, 3, 4] rfl ?_
          exact ih4 z21 z20 (by omega) (by omega)
  exact L3 _ 0 0 (by omega) (Nat.lt_succ_self _)
abbrev p_X1_mostMilesOf_17 (σ : kw_S) (s : Int32) (w : Int32) : Option Value → kw_S → Prop := fun v σ' => σ' = σ ∧ ∃ r : Int32, v = some (.int r)
set_option maxRecDepth 100000 in
set_option maxHeartbeats 4000000 in
theorem c_X1_mostMilesOf_17 (l : Launch) (σ : kw_S) (hI : kw_I bX σ) (s : Int32) (w : Int32) : kw_Met l 3 KX mX1_mostMilesOf [.ref 17, .int s, .int w] σ (p_X1_mostMilesOf_17 σ s w) := by
  have r_s := kw_rng s
  have r_w := kw_rng w
  have q_0 : (0 : Int32).toInt = 0 := rfl
  have q_1 : (1 : Int32).toInt = 1 := rfl
  have q_4 : (4 : Int32).toInt = 4 := rfl
  refine kw_Met.of (by decide) rfl tX1_mostMilesOf (Nat.le_of_ble_eq_true rfl) ?_
  show kw_AW l 3 kw_E0 KX mX1_mostMilesOf (p_X1_mostMilesOf_17 σ s w) 0 [(0, .ref 17), (1, .int s), (2, .int w)] [] σ
  refine kw_iconst (pc := 0) (i := 0) (v := 0) rfl rfl ?_
  refine kw_istore_n (pc := 1) (i := 1) (n := 3) (lv' := [(3, .int 0), (0, .ref 17), (1, .int s), (2, .int w)]) rfl rfl (by decide) rfl ?_
  refine kw_iconst (pc := 2) (i := 2) (v := 0) rfl rfl ?_
  refine kw_istore (pc := 3) (i := 3) (n := 4) (lv' := [(4, .int 0), (3, .int 0), (0, .ref 17), (1, .int s), (2, .int w)]) rfl (by decide) rfl ?_
  have L3 : ∀ (n7 : Nat) (x1 : Int32) (x2 : Int32), 0 ≤ x1.toInt → (7 - x1.toInt).toNat < n7 → kw_AW l 3 kw_E0 KX mX1_mostMilesOf (p_X1_mostMilesOf_17 σ s w) 5 [(4, .int x1), (3, .int x2), (0, .ref 17), (1, .int s), (2, .int w)] [] σ := by
    intro n7
    induction n7 with
    | zero => intro x1 x2 v5 m6; exact absurd m6 (Nat.not_lt_zero _)
    | succ n7 ih4 =>
      intro x1 x2 v5 m6
      have r_x1 := kw_rng x1
      have r_x2 := kw_rng x2
      refine kw_iload (pc := 5) (i := 4) (k := 0) (n := 4) rfl rfl ?_
      refine kw_aload_n (pc := 7) (i := 5) (k := 2) (n := 0) rfl rfl rfl ?_
      refine kw_get (pc := 8) (i := 6) (v := .int (σ.1 17 5)) rfl rfl rfl lkX1_33 (fun _ => rfl) ?_
      have b8 : 0 ≤ (σ.1 17 5).toInt ∧ (σ.1 17 5).toInt ≤ 6 := hI 17 5
      refine kw_icmp_ge (pc := 11) (i := 7) (tgt := 44) rfl rfl (fun c9 => ?_) (fun c9 => ?_)
      · refine kw_iload_n (pc := 44) (i := 26) (k := 1) (n := 3) rfl rfl rfl ?_
        refine kw_iconst (pc := 45) (i := 27) (v := 4) rfl rfl ?_
        refine kw_idiv (pc := 46) (i := 28) rfl (by omega) (fun z10 e_z10 => ?_)
        have r_z10 := kw_rng z10
        exact kw_ireturn (pc := 47) (i := 29) (ty := .int) rfl rfl rfl ⟨rfl, _, rfl⟩
      · refine kw_iload_n (pc := 14) (i := 8) (k := 3) (n := 1) rfl rfl rfl ?_
        refine kw_iload (pc := 15) (i := 9) (k := 0) (n := 4) rfl rfl ?_
        refine kw_ishr (pc := 17) (i := 10) rfl (fun z11 e_z11 => ?_)
        have r_z11 := kw_rng z11
        refine kw_iconst (pc := 18) (i := 11) (v := 1) rfl rfl ?_
        refine kw_iand (pc := 19) (i := 12) rfl (fun z12 e_z12 => ?_)
        have r_z12 := kw_rng z12
        refine kw_iconst (pc := 20) (i := 13) (v := 1) rfl rfl ?_
        refine kw_icmp_ne (pc := 21) (i := 14) (tgt := 38) rfl rfl (fun c13 => ?_) (fun c13 => ?_)
        · refine kw_iinc' (pc := 38) (i := 24) (k := 0) (fun z => [(4, .int z), (3, .int x2), (0, .ref 17), (1, .int s), (2, .int w)]) rfl rfl (by decide) rfl (fun _ => rfl) (fun z14 e_z14 t_z14 => ?_)
          refine kw_goto (pc := 41) (i := 25) (tgt := 5) rfl rfl ?_
          refine kw_sub (lv' := [(4, .int z14), (3, .int x2), (0, .ref 17), (1, .int s), (2, .int w)]) [0, 1, 2, 3, 4] rfl ?_
          exact ih4 z14 x2 (by omega) (by omega)
        · refine kw_iload_n (pc := 24) (i := 15) (k := 1) (n := 3) rfl rfl rfl ?_
          refine kw_iconst (pc := 25) (i := 16) (v := 0) rfl rfl ?_
          refine kw_aload_n (pc := 26) (i := 17) (k := 2) (n := 0) rfl rfl rfl ?_
          refine kw_iload (pc := 27) (i := 18) (k := 0) (n := 4) rfl rfl ?_
          refine kw_iload_n (pc := 29) (i := 19) (k := 4) (n := 2) rfl rfl rfl ?_
          refine kw_callV (pc := 30) (i := 20) (Y := mX1_pullOf) (a := 17) (As := [.int x1, .int w]) (st := [.int 0, .int x2]) kw_hE rfl rfl lvX1_52 arX1_pullOf (c_X1_pullOf_17 l σ hI x1 w ) (by decide) (Nat.le_of_ble_eq_true rfl) rfl (fun v S16 p15 => ?_)
          obtain ⟨e18, z17, rfl⟩ := p15
          rw [e18]
          have r_z17 := kw_rng z17
          show kw_AW l 3 kw_E0 KX mX1_mostMilesOf (p_X1_mostMilesOf_17 σ s w) 33 [(4, .int x1), (3, .int x2), (0, .ref 17), (1, .int s), (2, .int w)] [.int z17, .int 0, .int x2] σ
          refine kw_mmax (pc := 33) (i := 21) rfl jX1_56 (by omega) (Nat.le_of_ble_eq_true rfl) (fun z19 e_z19 t_z19 => ?_)
          refine kw_iadd (pc := 36) (i := 22) rfl (fun z20 e_z20 t_z20 => ?_)
          refine kw_istore_n (pc := 37) (i := 23) (n := 3) (lv' := [(3, .int z20), (4, .int x1), (0, .ref 17), (1, .int s), (2, .int w)]) rfl rfl (by decide) rfl ?_
          refine kw_iinc' (pc := 38) (i := 24) (k := 1) (fun z => [(4, .int z), (3, .int z20), (0, .ref 17), (1, .int s), (2, .int w)]) rfl rfl (by decide) rfl (fun _ => rfl) (fun z21 e_z21 t_z21 => ?_)
          refine kw_goto (pc := 41) (i := 25) (tgt := 5) rfl rfl ?_
          refine kw_sub (lv' := [(4, .int z21), (3, .int z20), (0, .ref 17), (1, .int s), (2, .int w)]) [0, 1, 2, 3, 4] rfl ?_
          exact ih4 z21 z20 (by omega) (by omega)
  exact L3 _ 0 0 (by omega) (Nat.lt_succ_self _)
abbrev p_X1_linenOf_17 (σ : kw_S) (s : Int32) : Option Value → kw_S → Prop := fun v σ' => σ' = σ ∧ ∃ r : Int32, v = some (.int r)
set_option maxRecDepth 100000 in
set_option maxHeartbeats 4000000 in
theorem c_X1_linenOf_17 (l : Launch) (σ : kw_S) (hI : kw_I bX σ) (s : Int32) : kw_Met l 1 KX mX1_linenOf [.ref 17, .int s] σ (p_X1_linenOf_17 σ s) := by
  have r_s := kw_rng s
  have q_0 : (0 : Int32).toInt = 0 := rfl
  have q_1 : (1 : Int32).toInt = 1 := rfl
  refine kw_Met.of (by decide) rfl tX1_linenOf (Nat.le_of_ble_eq_true rfl) ?_
  show kw_AW l 1 kw_E0 KX mX1_linenOf (p_X1_linenOf_17 σ s) 0 [(0, .ref 17), (1, .int s)] [] σ
  refine kw_iconst (pc := 0) (i := 0) (v := 0) rfl rfl ?_
  refine kw_istore_n (pc := 1) (i := 1) (n := 2) (lv' := [(2, .int 0), (0, .ref 17), (1, .int s)]) rfl rfl (by decide) rfl ?_
  refine kw_iconst (pc := 2) (i := 2) (v := 0) rfl rfl ?_
  refine kw_istore_n (pc := 3) (i := 3) (n := 3) (lv' := [(3, .int 0), (2, .int 0), (0, .ref 17), (1, .int s)]) rfl rfl (by decide) rfl ?_
  have L3 : ∀ (n7 : Nat) (x1 : Int32) (x2 : Int32), 0 ≤ x1.toInt → (7 - x1.toInt).toNat < n7 → kw_AW l 1 kw_E0 KX mX1_linenOf (p_X1_linenOf_17 σ s) 4 [(3, .int x1), (2, .int x2), (0, .ref 17), (1, .int s)] [] σ := by
    intro n7
    induction n7 with
    | zero => intro x1 x2 v5 m6; exact absurd m6 (Nat.not_lt_zero _)
    | succ n7 ih4 =>
      intro x1 x2 v5 m6
      have r_x1 := kw_rng x1
      have r_x2 := kw_rng x2
      refine kw_iload_n (pc := 4) (i := 4) (k := 0) (n := 3) rfl rfl rfl ?_
      refine kw_aload_n (pc := 5) (i := 5) (k := 2) (n := 0) rfl rfl rfl ?_
      refine kw_get (pc := 6) (i := 6) (v := .int (σ.1 17 5)) rfl rfl rfl lkX1_33 (fun _ => rfl) ?_
      have b8 : 0 ≤ (σ.1 17 5).toInt ∧ (σ.1 17 5).toInt ≤ 6 := hI 17 5
      refine kw_icmp_ge (pc := 9) (i := 7) (tgt := 36) rfl rfl (fun c9 => ?_) (fun c9 => ?_)
      · refine kw_iload_n (pc := 36) (i := 24) (k := 1) (n := 2) rfl rfl rfl ?_
        exact kw_ireturn (pc := 37) (i := 25) (ty := .int) rfl rfl rfl ⟨rfl, _, rfl⟩
      · refine kw_iload_n (pc := 12) (i := 8) (k := 3) (n := 1) rfl rfl rfl ?_
        refine kw_iload_n (pc := 13) (i := 9) (k := 0) (n := 3) rfl rfl rfl ?_
        refine kw_ishr (pc := 14) (i := 10) rfl (fun z10 e_z10 => ?_)
        have r_z10 := kw_rng z10
        refine kw_iconst (pc := 15) (i := 11) (v := 1) rfl rfl ?_
        refine kw_iand (pc := 16) (i := 12) rfl (fun z11 e_z11 => ?_)
        have r_z11 := kw_rng z11
        refine kw_iconst (pc := 17) (i := 13) (v := 1) rfl rfl ?_
        refine kw_icmp_ne (pc := 18) (i := 14) (tgt := 30) rfl rfl (fun c12 => ?_) (fun c12 => ?_)
        · refine kw_iinc' (pc := 30) (i := 22) (k := 0) (fun z => [(3, .int z), (2, .int x2), (0, .ref 17), (1, .int s)]) rfl rfl (by decide) rfl (fun _ => rfl) (fun z13 e_z13 t_z13 => ?_)
          refine kw_goto (pc := 33) (i := 23) (tgt := 4) rfl rfl ?_
          refine kw_sub (lv' := [(3, .int z13), (2, .int x2), (0, .ref 17), (1, .int s)]) [0, 1, 2, 3] rfl ?_
          exact ih4 z13 x2 (by omega) (by omega)
        · refine kw_iload_n (pc := 21) (i := 15) (k := 1) (n := 2) rfl rfl rfl ?_
          refine kw_aload_n (pc := 22) (i := 16) (k := 2) (n := 0) rfl rfl rfl ?_
          refine kw_get (pc := 23) (i := 17) (v := .ref 47) rfl rfl rfl lkX1_21 (fun _ => rfl) ?_
          refine kw_iload_n (pc := 26) (i := 18) (k := 0) (n := 3) rfl rfl rfl ?_
          refine kw_iald (pc := 27) (i := 19) (n := 6) rfl rfl (by omega) (by omega) (fun z14 e_z14 => ?_)
          have t_z14 := congrArg Int32.toInt e_z14
          have r_z14 := kw_rng z14
          refine kw_iadd (pc := 28) (i := 20) rfl (fun z15 e_z15 t_z15 => ?_)
          refine kw_istore_n (pc := 29) (i := 21) (n := 2) (lv' := [(2, .int z15), (3, .int x1), (0, .ref 17), (1, .int s)]) rfl rfl (by decide) rfl ?_
          refine kw_iinc' (pc := 30) (i := 22) (k := 1) (fun z => [(3, .int z), (2, .int z15), (0, .ref 17), (1, .int s)]) rfl rfl (by decide) rfl (fun _ => rfl) (fun z16 e_z16 t_z16 => ?_)
          refine kw_goto (pc := 33) (i := 23) (tgt := 4) rfl rfl ?_
          refine kw_sub (lv' := [(3, .int z16), (2, .int z15), (0, .ref 17), (1, .int s)]) [0, 1, 2, 3] rfl ?_
          exact ih4 z16 z15 (by omega) (by omega)
  exact L3 _ 0 0 (by omega) (Nat.lt_succ_self _)
abbrev p_X1_howManyAre_17 (σ : kw_S) (kind : Int32) : Option Value → kw_S → Prop := fun v σ' => σ' = σ ∧ ∃ r : Int32, v = some (.int r)
set_option maxRecDepth 100000 in
set_option maxHeartbeats 4000000 in
theorem c_X1_howManyAre_17 (l : Launch) (σ : kw_S) (hI : kw_I bX σ) (kind : Int32) : kw_Met l 2 KX mX1_howManyAre [.ref 17, .int kind] σ (p_X1_howManyAre_17 σ kind) := by
  have r_kind := kw_rng kind
  have q_0 : (0 : Int32).toInt = 0 := rfl
  refine kw_Met.of (by decide) rfl tX1_howManyAre (Nat.le_of_ble_eq_true rfl) ?_
  show kw_AW l 2 kw_E0 KX mX1_howManyAre (p_X1_howManyAre_17 σ kind) 0 [(0, .ref 17), (1, .int kind)] [] σ
  refine kw_iconst (pc := 0) (i := 0) (v := 0) rfl rfl ?_
  refine kw_istore_n (pc := 1) (i := 1) (n := 2) (lv' := [(2, .int 0), (0, .ref 17), (1, .int kind)]) rfl rfl (by decide) rfl ?_
  refine kw_iconst (pc := 2) (i := 2) (v := 0) rfl rfl ?_
  refine kw_istore_n (pc := 3) (i := 3) (n := 3) (lv' := [(3, .int 0), (2, .int 0), (0, .ref 17), (1, .int kind)]) rfl rfl (by decide) rfl ?_
  have L3 : ∀ (n7 : Nat) (x1 : Int32) (x2 : Int32), 0 ≤ x1.toInt → (7 - x1.toInt).toNat < n7 → kw_AW l 2 kw_E0 KX mX1_howManyAre (p_X1_howManyAre_17 σ kind) 4 [(3, .int x1), (2, .int x2), (0, .ref 17), (1, .int kind)] [] σ := by
    intro n7
    induction n7 with
    | zero => intro x1 x2 v5 m6; exact absurd m6 (Nat.not_lt_zero _)
    | succ n7 ih4 =>
      intro x1 x2 v5 m6
      have r_x1 := kw_rng x1
      have r_x2 := kw_rng x2
      refine kw_iload_n (pc := 4) (i := 4) (k := 0) (n := 3) rfl rfl rfl ?_
      refine kw_aload_n (pc := 5) (i := 5) (k := 2) (n := 0) rfl rfl rfl ?_
      refine kw_get (pc := 6) (i := 6) (v := .int (σ.1 17 5)) rfl rfl rfl lkX1_33 (fun _ => rfl) ?_
      have b8 : 0 ≤ (σ.1 17 5).toInt ∧ (σ.1 17 5).toInt ≤ 6 := hI 17 5
      refine kw_icmp_ge (pc := 9) (i := 7) (tgt := 34) rfl rfl (fun c9 => ?_) (fun c9 => ?_)
      · refine kw_iload_n (pc := 34) (i := 18) (k := 1) (n := 2) rfl rfl rfl ?_
        exact kw_ireturn (pc := 35) (i := 19) (ty := .int) rfl rfl rfl ⟨rfl, _, rfl⟩
      · refine kw_aload_n (pc := 12) (i := 8) (k := 2) (n := 0) rfl rfl rfl ?_
        refine kw_get (pc := 13) (i := 9) (v := .ref 44) rfl rfl rfl lkX1_9 (fun _ => rfl) ?_
        refine kw_iload_n (pc := 16) (i := 10) (k := 0) (n := 3) rfl rfl rfl ?_
        refine kw_iald (pc := 17) (i := 11) (n := 6) rfl rfl (by omega) (by omega) (fun z10 e_z10 => ?_)
        have t_z10 := congrArg Int32.toInt e_z10
        have r_z10 := kw_rng z10
        refine kw_iload_n (pc := 18) (i := 12) (k := 3) (n := 1) rfl rfl rfl ?_
        refine kw_callN (pc := 19) (i := 13) (Y := mX7_isA) (As := [.int z10, .int kind]) (st := []) kw_hE rfl lnX1_61 arX7_isA (c_X7_isA l σ hI z10 kind ) (by decide) (Nat.le_of_ble_eq_true rfl) rfl (fun v S12 p11 => ?_)
        obtain ⟨e15, z14, rfl, f13⟩ := p11
        rw [e15]
        have r_z14 := kw_rng z14
        show kw_AW l 2 kw_E0 KX mX1_howManyAre (p_X1_howManyAre_17 σ kind) 22 [(3, .int x1), (2, .int x2), (0, .ref 17), (1, .int kind)] [.int z14] σ
        refine kw_if_eq (pc := 22) (i := 14) (tgt := 28) rfl rfl (fun c16 => ?_) (fun c16 => ?_)
        · refine kw_iinc' (pc := 28) (i := 16) (k := 0) (fun z => [(3, .int z), (2, .int x2), (0, .ref 17), (1, .int kind)]) rfl rfl (by decide) rfl (fun _ => rfl) (fun z17 e_z17 t_z17 => ?_)
          refine kw_goto (pc := 31) (i := 17) (tgt := 4) rfl rfl ?_
          refine kw_sub (lv' := [(3, .int z17), (2, .int x2), (0, .ref 17), (1, .int kind)]) [0, 1, 2, 3] rfl ?_
          exact ih4 z17 x2 (by omega) (by omega)
        · refine kw_iinc' (pc := 25) (i := 15) (k := 1) (fun z => [(2, .int z), (3, .int x1), (0, .ref 17), (1, .int kind)]) rfl rfl (by decide) rfl (fun _ => rfl) (fun z18 e_z18 t_z18 => ?_)
          refine kw_iinc' (pc := 28) (i := 16) (k := 1) (fun z => [(3, .int z), (2, .int z18), (0, .ref 17), (1, .int kind)]) rfl rfl (by decide) rfl (fun _ => rfl) (fun z19 e_z19 t_z19 => ?_)
          refine kw_goto (pc := 31) (i := 17) (tgt := 4) rfl rfl ?_
          refine kw_sub (lv' := [(3, .int z19), (2, .int z18), (0, .ref 17), (1, .int kind)]) [0, 1, 2, 3] rfl ?_
          exact ih4 z19 z18 (by omega) (by omega)
  exact L3 _ 0 0 (by omega) (Nat.lt_succ_self _)
abbrev p_X1_othersNoWider_17 (σ : kw_S) (i : Int32) : Option Value → kw_S → Prop := fun v σ' => σ' = σ ∧ ∃ r : Int32, v = some (.int r)
set_option maxRecDepth 100000 in
set_option maxHeartbeats 4000000 in
theorem c_X1_othersNoWider_17 (l : Launch) (σ : kw_S) (hI : kw_I bX σ) (i : Int32) : kw_Met l 2 KX mX1_othersNoWider [.ref 17, .int i] σ (p_X1_othersNoWider_17 σ i) := by
  have r_i := kw_rng i
  have q_0 : (0 : Int32).toInt = 0 := rfl
  refine kw_Met.of (by decide) rfl tX1_othersNoWider (Nat.le_of_ble_eq_true rfl) ?_
  show kw_AW l 2 kw_E0 KX mX1_othersNoWider (p_X1_othersNoWider_17 σ i) 0 [(0, .ref 17), (1, .int i)] [] σ
  refine kw_aload_n (pc := 0) (i := 0) (k := 0) (n := 0) rfl rfl rfl ?_
  refine kw_iload_n (pc := 1) (i := 1) (k := 1) (n := 1) rfl rfl rfl ?_
  refine kw_callV (pc := 2) (i := 2) (Y := mX1_hasLine) (a := 17) (As := [.int i]) (st := []) kw_hE rfl rfl lvX1_44 arX1_hasLine (c_X1_hasLine_17 l σ hI i ) (by decide) (Nat.le_of_ble_eq_true rfl) rfl (fun v S2 p1 => ?_)
  obtain ⟨e6, z5, rfl, f3, f4⟩ := p1
  rw [e6]
  have r_z5 := kw_rng z5
  show kw_AW l 2 kw_E0 KX mX1_othersNoWider (p_X1_othersNoWider_17 σ i) 5 [(0, .ref 17), (1, .int i)] [.int z5] σ
  refine kw_if_ne (pc := 5) (i := 3) (tgt := 10) rfl rfl (fun c7 => ?_) (fun c7 => ?_)
  · refine kw_iconst (pc := 10) (i := 6) (v := 0) rfl rfl ?_
    refine kw_istore_n (pc := 11) (i := 7) (n := 2) (lv' := [(2, .int 0), (0, .ref 17), (1, .int i)]) rfl rfl (by decide) rfl ?_
    refine kw_iconst (pc := 12) (i := 8) (v := 0) rfl rfl ?_
    refine kw_istore_n (pc := 13) (i := 9) (n := 3) (lv' := [(3, .int 0), (2, .int 0), (0, .ref 17), (1, .int i)]) rfl rfl (by decide) rfl ?_
    have L10 : ∀ (n14 : Nat) (x8 : Int32) (x9 : Int32), 0 ≤ x8.toInt → (7 - x8.toInt).toNat < n14 → kw_AW l 2 kw_E0 KX mX1_othersNoWider (p_X1_othersNoWider_17 σ i) 14 [(3, .int x8), (2, .int x9), (0, .ref 17), (1, .int i)] [] σ := by
      intro n14
      induction n14 with
      | zero => intro x8 x9 v12 m13; exact absurd m13 (Nat.not_lt_zero _)
      | succ n14 ih11 =>
        intro x8 x9 v12 m13
        have r_x8 := kw_rng x8
        have r_x9 := kw_rng x9
        refine kw_iload_n (pc := 14) (i := 10) (k := 0) (n := 3) rfl rfl rfl ?_
        refine kw_aload_n (pc := 15) (i := 11) (k := 2) (n := 0) rfl rfl rfl ?_
        refine kw_get (pc := 16) (i := 12) (v := .int (σ.1 17 5)) rfl rfl rfl lkX1_33 (fun _ => rfl) ?_
        have b15 : 0 ≤ (σ.1 17 5).toInt ∧ (σ.1 17 5).toInt ≤ 6 := hI 17 5
        refine kw_icmp_ge (pc := 19) (i := 13) (tgt := 51) rfl rfl (fun c16 => ?_) (fun c16 => ?_)
        · refine kw_iload_n (pc := 51) (i := 29) (k := 1) (n := 2) rfl rfl rfl ?_
          exact kw_ireturn (pc := 52) (i := 30) (ty := .int) rfl rfl rfl ⟨rfl, _, rfl⟩
        · refine kw_iload_n (pc := 22) (i := 14) (k := 0) (n := 3) rfl rfl rfl ?_
          refine kw_iload_n (pc := 23) (i := 15) (k := 3) (n := 1) rfl rfl rfl ?_
          refine kw_icmp_eq (pc := 24) (i := 16) (tgt := 45) rfl rfl (fun c17 => ?_) (fun c17 => ?_)
          · refine kw_iinc' (pc := 45) (i := 27) (k := 0) (fun z => [(3, .int z), (2, .int x9), (0, .ref 17), (1, .int i)]) rfl rfl (by decide) rfl (fun _ => rfl) (fun z18 e_z18 t_z18 => ?_)
            refine kw_goto (pc := 48) (i := 28) (tgt := 14) rfl rfl ?_
            refine kw_sub (lv' := [(3, .int z18), (2, .int x9), (0, .ref 17), (1, .int i)]) [0, 1, 2, 3] rfl ?_
            exact ih11 z18 x9 (by omega) (by omega)
          · refine kw_aload_n (pc := 27) (i := 17) (k := 2) (n := 0) rfl rfl rfl ?_
            refine kw_get (pc := 28) (i := 18) (v := .ref 46) rfl rfl rfl lkX1_18 (fun _ => rfl) ?_
            refine kw_iload_n (pc := 31) (i := 19) (k := 0) (n := 3) rfl rfl rfl ?_
            refine kw_iald (pc := 32) (i := 20) (n := 6) rfl rfl (by omega) (by omega) (fun z19 e_z19 => ?_)
            have t_z19 := congrArg Int32.toInt e_z19
            have r_z19 := kw_rng z19
            refine kw_aload_n (pc := 33) (i := 21) (k := 2) (n := 0) rfl rfl rfl ?_
            refine kw_get (pc := 34) (i := 22) (v := .ref 46) rfl rfl rfl lkX1_18 (fun _ => rfl) ?_
            refine kw_iload_n (pc := 37) (i := 23) (k := 3) (n := 1) rfl rfl rfl ?_
            refine kw_iald (pc := 38) (i := 24) (n := 6) rfl rfl (by omega) (by omega) (fun z20 e_z20 => ?_)
            have t_z20 := congrArg Int32.toInt e_z20
            have r_z20 := kw_rng z20
            refine kw_icmp_gt (pc := 39) (i := 25) (tgt := 45) rfl rfl (fun c21 => ?_) (fun c21 => ?_)
            · refine kw_iinc' (pc := 45) (i := 27) (k := 0) (fun z => [(3, .int z), (2, .int x9), (0, .ref 17), (1, .int i)]) rfl rfl (by decide) rfl (fun _ => rfl) (fun z22 e_z22 t_z22 => ?_)
              refine kw_goto (pc := 48) (i := 28) (tgt := 14) rfl rfl ?_
              refine kw_sub (lv' := [(3, .int z22), (2, .int x9), (0, .ref 17), (1, .int i)]) [0, 1, 2, 3] rfl ?_
              exact ih11 z22 x9 (by omega) (by omega)
            · refine kw_iinc' (pc := 42) (i := 26) (k := 1) (fun z => [(2, .int z), (3, .int x8), (0, .ref 17), (1, .int i)]) rfl rfl (by decide) rfl (fun _ => rfl) (fun z23 e_z23 t_z23 => ?_)
              refine kw_iinc' (pc := 45) (i := 27) (k := 1) (fun z => [(3, .int z), (2, .int z23), (0, .ref 17), (1, .int i)]) rfl rfl (by decide) rfl (fun _ => rfl) (fun z24 e_z24 t_z24 => ?_)
              refine kw_goto (pc := 48) (i := 28) (tgt := 14) rfl rfl ?_
              refine kw_sub (lv' := [(3, .int z24), (2, .int z23), (0, .ref 17), (1, .int i)]) [0, 1, 2, 3] rfl ?_
              exact ih11 z24 z23 (by omega) (by omega)
    exact L10 _ 0 0 (by omega) (Nat.lt_succ_self _)
  · refine kw_iconst (pc := 8) (i := 4) (v := 0) rfl rfl ?_
    exact kw_ireturn (pc := 9) (i := 5) (ty := .int) rfl rfl rfl ⟨rfl, _, rfl⟩
