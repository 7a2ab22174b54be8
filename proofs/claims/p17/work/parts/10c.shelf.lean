noncomputable def f_X3_valueAt_1 (σ : kw_S) (k : Int32) (i : Int32) : Int32 := kf_l (f_X3_hasPlaces_1 σ k i (1 : Int32)) fun z1 => if z1.toInt = 0 then ((1000 : Int32)) else (if k.toInt = 0 then (kf_l (σ.1 29 i.toNatClampNeg) fun z2 => z2) else if k.toInt = 1 then (kf_l (σ.1 30 i.toNatClampNeg) fun z3 => z3) else if k.toInt = 2 then (kf_l (σ.1 31 i.toNatClampNeg) fun z4 => z4) else if k.toInt = 3 then (kf_l (σ.1 32 i.toNatClampNeg) fun z5 => z5) else if k.toInt = 4 then (kf_l (σ.1 33 i.toNatClampNeg) fun z6 => z6) else if k.toInt = 5 then (kf_l (σ.1 34 i.toNatClampNeg) fun z7 => z7) else 0)
theorem f_X3_valueAt_1_u (σ : kw_S) (k : Int32) (i : Int32) : f_X3_valueAt_1 σ k i = kf_l (f_X3_hasPlaces_1 σ k i (1 : Int32)) fun z1 => if z1.toInt = 0 then ((1000 : Int32)) else (if k.toInt = 0 then (kf_l (σ.1 29 i.toNatClampNeg) fun z2 => z2) else if k.toInt = 1 then (kf_l (σ.1 30 i.toNatClampNeg) fun z3 => z3) else if k.toInt = 2 then (kf_l (σ.1 31 i.toNatClampNeg) fun z4 => z4) else if k.toInt = 3 then (kf_l (σ.1 32 i.toNatClampNeg) fun z5 => z5) else if k.toInt = 4 then (kf_l (σ.1 33 i.toNatClampNeg) fun z6 => z6) else if k.toInt = 5 then (kf_l (σ.1 34 i.toNatClampNeg) fun z7 => z7) else 0) := rfl
abbrev p_X3_valueAt_1 (σ : kw_S) (k : Int32) (i : Int32) : Option Value → kw_S → Prop := fun vv σ' => σ' = σ ∧ ∃ r : Int32, vv = some (.int r) ∧ r = f_X3_valueAt_1 σ k i
set_option maxRecDepth 100000 in
set_option maxHeartbeats 4000000 in
theorem c_X3_valueAt_1 (l : Launch) (σ : kw_S) (hI : kw_I bX σ) (k : Int32) (i : Int32) : kw_Met l 3 KX mX3_valueAt [.ref 1, .int k, .int i] σ (p_X3_valueAt_1 σ k i) := by
  have r_k := kw_rng k
  have r_i := kw_rng i
  have hF := (f_X3_valueAt_1_u σ k i).symm
  have q_1 : (1 : Int32).toInt = 1 := rfl
  have q_1000 : (1000 : Int32).toInt = 1000 := rfl
  refine kw_Met.of (by decide) rfl tX3_valueAt (Nat.le_of_ble_eq_true rfl) ?_
  show kw_AW l 3 kw_E0 KX mX3_valueAt (p_X3_valueAt_1 σ k i) 0 [(0, .ref 1), (1, .int k), (2, .int i)] [] σ
  refine kw_aload_n (pc := 0) (i := 0) (k := 0) (n := 0) rfl rfl rfl ?_
  refine kw_iload_n (pc := 1) (i := 1) (k := 1) (n := 1) rfl rfl rfl ?_
  refine kw_iload_n (pc := 2) (i := 2) (k := 2) (n := 2) rfl rfl rfl ?_
  refine kw_iconst (pc := 3) (i := 3) (v := 1) rfl rfl ?_
  refine kw_callV (pc := 4) (i := 4) (Y := mX3_hasPlaces) (a := 1) (As := [.int k, .int i, .int 1]) (st := []) kw_hE rfl rfl lvX3_41 arX3_hasPlaces (c_X3_hasPlaces_1 l σ hI k i 1 ) (by decide) (Nat.le_of_ble_eq_true rfl) rfl (fun v S2 p1 => ?_)
  obtain ⟨e7, z6, rfl, f3, f4, ef5⟩ := p1
  rw [e7]
  replace hF := kf_le ef5 hF
  have r_z6 := kw_rng z6
  show kw_AW l 3 kw_E0 KX mX3_valueAt (p_X3_valueAt_1 σ k i) 7 [(0, .ref 1), (1, .int k), (2, .int i)] [.int z6] σ
  refine kw_if_eq (pc := 7) (i := 5) (tgt := 21) rfl rfl (fun c8 => ?_) (fun c8 => ?_)
  · replace hF := kf_p c8 hF
    refine kw_sipush (pc := 21) (i := 13) (v := 1000) rfl rfl ?_
    exact kw_ireturn (pc := 24) (i := 14) (ty := .int) rfl rfl rfl ⟨rfl, _, rfl, hF⟩
  · replace hF := kf_n c8 hF
    refine kw_aload_n (pc := 10) (i := 6) (k := 0) (n := 0) rfl rfl rfl ?_
    refine kw_get (pc := 11) (i := 7) (v := .ref 12) rfl rfl rfl lkX3_17 (fun _ => rfl) ?_
    refine kw_iload_n (pc := 14) (i := 8) (k := 1) (n := 1) rfl rfl rfl ?_
    have w9 : k.toInt = 0 ∨ k.toInt = 1 ∨ k.toInt = 2 ∨ k.toInt = 3 ∨ k.toInt = 4 ∨ k.toInt = 5 := by omega
    rcases w9 with w9 | w9 | w9 | w9 | w9 | w9
    · replace hF := kf_p w9 hF
      have e_w9 : k.toNatClampNeg = 0 := by have := kw_clampI (x := k) (by omega); omega
      refine kw_aald (pc := 15) (i := 9) (b := 29) rfl rfl (by decide) (by omega) (by rw [e_w9]; rfl) ?_
      refine kw_iload_n (pc := 16) (i := 10) (k := 2) (n := 2) rfl rfl rfl ?_
      refine kw_iald (pc := 17) (i := 11) (n := 40) rfl rfl (by omega) (by omega) (fun z10 e_z10 => ?_)
      replace hF := kf_le e_z10 hF
      have t_z10 := congrArg Int32.toInt e_z10
      have r_z10 := kw_rng z10
      refine kw_goto (pc := 18) (i := 12) (tgt := 24) rfl rfl ?_
      exact kw_ireturn (pc := 24) (i := 14) (ty := .int) rfl rfl rfl ⟨rfl, _, rfl, hF⟩
    · replace hF := kf_n (fun q => absurd (w9.symm.trans q) (by decide)) hF
      replace hF := kf_p w9 hF
      have e_w9 : k.toNatClampNeg = 1 := by have := kw_clampI (x := k) (by omega); omega
      refine kw_aald (pc := 15) (i := 9) (b := 30) rfl rfl (by decide) (by omega) (by rw [e_w9]; rfl) ?_
      refine kw_iload_n (pc := 16) (i := 10) (k := 2) (n := 2) rfl rfl rfl ?_
      refine kw_iald (pc := 17) (i := 11) (n := 40) rfl rfl (by omega) (by omega) (fun z11 e_z11 => ?_)
      replace hF := kf_le e_z11 hF
      have t_z11 := congrArg Int32.toInt e_z11
      have r_z11 := kw_rng z11
      refine kw_goto (pc := 18) (i := 12) (tgt := 24) rfl rfl ?_
      exact kw_ireturn (pc := 24) (i := 14) (ty := .int) rfl rfl rfl ⟨rfl, _, rfl, hF⟩
    · replace hF := kf_n (fun q => absurd (w9.symm.trans q) (by decide)) hF
      replace hF := kf_n (fun q => absurd (w9.symm.trans q) (by decide)) hF
      replace hF := kf_p w9 hF
      have e_w9 : k.toNatClampNeg = 2 := by have := kw_clampI (x := k) (by omega); omega
      refine kw_aald (pc := 15) (i := 9) (b := 31) rfl rfl (by decide) (by omega) (by rw [e_w9]; rfl) ?_
      refine kw_iload_n (pc := 16) (i := 10) (k := 2) (n := 2) rfl rfl rfl ?_
      refine kw_iald (pc := 17) (i := 11) (n := 40) rfl rfl (by omega) (by omega) (fun z12 e_z12 => ?_)
      replace hF := kf_le e_z12 hF
      have t_z12 := congrArg Int32.toInt e_z12
      have r_z12 := kw_rng z12
      refine kw_goto (pc := 18) (i := 12) (tgt := 24) rfl rfl ?_
      exact kw_ireturn (pc := 24) (i := 14) (ty := .int) rfl rfl rfl ⟨rfl, _, rfl, hF⟩
    · replace hF := kf_n (fun q => absurd (w9.symm.trans q) (by decide)) hF
      replace hF := kf_n (fun q => absurd (w9.symm.trans q) (by decide)) hF
      replace hF := kf_n (fun q => absurd (w9.symm.trans q) (by decide)) hF
      replace hF := kf_p w9 hF
      have e_w9 : k.toNatClampNeg = 3 := by have := kw_clampI (x := k) (by omega); omega
      refine kw_aald (pc := 15) (i := 9) (b := 32) rfl rfl (by decide) (by omega) (by rw [e_w9]; rfl) ?_
      refine kw_iload_n (pc := 16) (i := 10) (k := 2) (n := 2) rfl rfl rfl ?_
      refine kw_iald (pc := 17) (i := 11) (n := 40) rfl rfl (by omega) (by omega) (fun z13 e_z13 => ?_)
      replace hF := kf_le e_z13 hF
      have t_z13 := congrArg Int32.toInt e_z13
      have r_z13 := kw_rng z13
      refine kw_goto (pc := 18) (i := 12) (tgt := 24) rfl rfl ?_
      exact kw_ireturn (pc := 24) (i := 14) (ty := .int) rfl rfl rfl ⟨rfl, _, rfl, hF⟩
    · replace hF := kf_n (fun q => absurd (w9.symm.trans q) (by decide)) hF
      replace hF := kf_n (fun q => absurd (w9.symm.trans q) (by decide)) hF
      replace hF := kf_n (fun q => absurd (w9.symm.trans q) (by decide)) hF
      replace hF := kf_n (fun q => absurd (w9.symm.trans q) (by decide)) hF
      replace hF := kf_p w9 hF
      have e_w9 : k.toNatClampNeg = 4 := by have := kw_clampI (x := k) (by omega); omega
      refine kw_aald (pc := 15) (i := 9) (b := 33) rfl rfl (by decide) (by omega) (by rw [e_w9]; rfl) ?_
      refine kw_iload_n (pc := 16) (i := 10) (k := 2) (n := 2) rfl rfl rfl ?_
      refine kw_iald (pc := 17) (i := 11) (n := 40) rfl rfl (by omega) (by omega) (fun z14 e_z14 => ?_)
      replace hF := kf_le e_z14 hF
      have t_z14 := congrArg Int32.toInt e_z14
      have r_z14 := kw_rng z14
      refine kw_goto (pc := 18) (i := 12) (tgt := 24) rfl rfl ?_
      exact kw_ireturn (pc := 24) (i := 14) (ty := .int) rfl rfl rfl ⟨rfl, _, rfl, hF⟩
    · replace hF := kf_n (fun q => absurd (w9.symm.trans q) (by decide)) hF
      replace hF := kf_n (fun q => absurd (w9.symm.trans q) (by decide)) hF
      replace hF := kf_n (fun q => absurd (w9.symm.trans q) (by decide)) hF
      replace hF := kf_n (fun q => absurd (w9.symm.trans q) (by decide)) hF
      replace hF := kf_n (fun q => absurd (w9.symm.trans q) (by decide)) hF
      replace hF := kf_p w9 hF
      have e_w9 : k.toNatClampNeg = 5 := by have := kw_clampI (x := k) (by omega); omega
      refine kw_aald (pc := 15) (i := 9) (b := 34) rfl rfl (by decide) (by omega) (by rw [e_w9]; rfl) ?_
      refine kw_iload_n (pc := 16) (i := 10) (k := 2) (n := 2) rfl rfl rfl ?_
      refine kw_iald (pc := 17) (i := 11) (n := 40) rfl rfl (by omega) (by omega) (fun z15 e_z15 => ?_)
      replace hF := kf_le e_z15 hF
      have t_z15 := congrArg Int32.toInt e_z15
      have r_z15 := kw_rng z15
      refine kw_goto (pc := 18) (i := 12) (tgt := 24) rfl rfl ?_
      exact kw_ireturn (pc := 24) (i := 14) (ty := .int) rfl rfl rfl ⟨rfl, _, rfl, hF⟩
noncomputable def f_X3_change_1 (σ : kw_S) (k : Int32) (i : Int32) (v : Int32) : kw_S := kf_l (f_X3_hasPlaces_1 σ k i (1 : Int32)) fun z1 => if z1.toInt = 0 then (σ) else (if k.toInt = 0 then (kw_ui σ 29 i.toNatClampNeg v) else if k.toInt = 1 then (kw_ui σ 30 i.toNatClampNeg v) else if k.toInt = 2 then (kw_ui σ 31 i.toNatClampNeg v) else if k.toInt = 3 then (kw_ui σ 32 i.toNatClampNeg v) else if k.toInt = 4 then (kw_ui σ 33 i.toNatClampNeg v) else if k.toInt = 5 then (kw_ui σ 34 i.toNatClampNeg v) else σ)
theorem f_X3_change_1_u (σ : kw_S) (k : Int32) (i : Int32) (v : Int32) : f_X3_change_1 σ k i v = kf_l (f_X3_hasPlaces_1 σ k i (1 : Int32)) fun z1 => if z1.toInt = 0 then (σ) else (if k.toInt = 0 then (kw_ui σ 29 i.toNatClampNeg v) else if k.toInt = 1 then (kw_ui σ 30 i.toNatClampNeg v) else if k.toInt = 2 then (kw_ui σ 31 i.toNatClampNeg v) else if k.toInt = 3 then (kw_ui σ 32 i.toNatClampNeg v) else if k.toInt = 4 then (kw_ui σ 33 i.toNatClampNeg v) else if k.toInt = 5 then (kw_ui σ 34 i.toNatClampNeg v) else σ) := rfl
abbrev p_X3_change_1 (σ : kw_S) (k : Int32) (i : Int32) (v : Int32) : Option Value → kw_S → Prop := fun vv σ' => (kw_I bX σ' ∧ kw_F [29, 30, 31, 32, 33, 34] σ σ') ∧ vv = none ∧ σ' = f_X3_change_1 σ k i v
set_option maxRecDepth 100000 in
set_option maxHeartbeats 4000000 in
theorem c_X3_change_1 (l : Launch) (σ : kw_S) (hI : kw_I bX σ) (k : Int32) (i : Int32) (v : Int32) : kw_Met l 3 KX mX3_change [.ref 1, .int k, .int i, .int v] σ (p_X3_change_1 σ k i v) := by
  have r_k := kw_rng k
  have r_i := kw_rng i
  have r_v := kw_rng v
  have hF0 : kw_F [29, 30, 31, 32, 33, 34] σ σ := kw_F.rf
  have hF := (f_X3_change_1_u σ k i v).symm
  have q_1 : (1 : Int32).toInt = 1 := rfl
  refine kw_Met.of (by decide) rfl tX3_change (Nat.le_of_ble_eq_true rfl) ?_
  show kw_AW l 3 kw_E0 KX mX3_change (p_X3_change_1 σ k i v) 0 [(0, .ref 1), (1, .int k), (2, .int i), (3, .int v)] [] σ
  refine kw_aload_n (pc := 0) (i := 0) (k := 0) (n := 0) rfl rfl rfl ?_
  refine kw_iload_n (pc := 1) (i := 1) (k := 1) (n := 1) rfl rfl rfl ?_
  refine kw_iload_n (pc := 2) (i := 2) (k := 2) (n := 2) rfl rfl rfl ?_
  refine kw_iconst (pc := 3) (i := 3) (v := 1) rfl rfl ?_
  refine kw_callV (pc := 4) (i := 4) (Y := mX3_hasPlaces) (a := 1) (As := [.int k, .int i, .int 1]) (st := []) kw_hE rfl rfl lvX3_41 arX3_hasPlaces (c_X3_hasPlaces_1 l σ hI k i 1 ) (by decide) (Nat.le_of_ble_eq_true rfl) rfl (fun v S2 p1 => ?_)
  obtain ⟨e7, z6, rfl, f3, f4, ef5⟩ := p1
  rw [e7]
  replace hF := kf_le ef5 hF
  have r_z6 := kw_rng z6
  show kw_AW l 3 kw_E0 KX mX3_change (p_X3_change_1 σ k i v) 7 [(0, .ref 1), (1, .int k), (2, .int i), (3, .int v)] [.int z6] σ
  refine kw_if_eq (pc := 7) (i := 5) (tgt := 19) rfl rfl (fun c8 => ?_) (fun c8 => ?_)
  · replace hF := kf_p c8 hF
    exact kw_return (pc := 19) (i := 13) rfl rfl ⟨⟨hI, hF0⟩, rfl, hF⟩
  · replace hF := kf_n c8 hF
    refine kw_aload_n (pc := 10) (i := 6) (k := 0) (n := 0) rfl rfl rfl ?_
    refine kw_get (pc := 11) (i := 7) (v := .ref 12) rfl rfl rfl lkX3_17 (fun _ => rfl) ?_
    refine kw_iload_n (pc := 14) (i := 8) (k := 1) (n := 1) rfl rfl rfl ?_
    have w9 : k.toInt = 0 ∨ k.toInt = 1 ∨ k.toInt = 2 ∨ k.toInt = 3 ∨ k.toInt = 4 ∨ k.toInt = 5 := by omega
    rcases w9 with w9 | w9 | w9 | w9 | w9 | w9
    · replace hF := kf_p w9 hF
      have e_w9 : k.toNatClampNeg = 0 := by have := kw_clampI (x := k) (by omega); omega
      refine kw_aald (pc := 15) (i := 9) (b := 29) rfl rfl (by decide) (by omega) (by rw [e_w9]; rfl) ?_
      refine kw_iload_n (pc := 16) (i := 10) (k := 2) (n := 2) rfl rfl rfl ?_
      refine kw_iload_n (pc := 17) (i := 11) (k := 3) (n := 3) rfl rfl rfl ?_
      refine kw_iast (pc := 18) (i := 12) (n := 40) rfl rfl (by omega) (by omega) ?_
      have I10 : kw_I bX (kw_ui σ 29 i.toNatClampNeg v) := kw_I_ui hI (kw_rng v).1 (Int.le_of_lt_add_one (kw_rng v).2)
      have F11 : kw_F [29, 30, 31, 32, 33, 34] σ (kw_ui σ 29 i.toNatClampNeg v) := kw_F_ui hF0 (by decide)
      exact kw_return (pc := 19) (i := 13) rfl rfl ⟨⟨I10, F11⟩, rfl, hF⟩
    · replace hF := kf_n (fun q => absurd (w9.symm.trans q) (by decide)) hF
      replace hF := kf_p w9 hF
      have e_w9 : k.toNatClampNeg = 1 := by have := kw_clampI (x := k) (by omega); omega
      refine kw_aald (pc := 15) (i := 9) (b := 30) rfl rfl (by decide) (by omega) (by rw [e_w9]; rfl) ?_
      refine kw_iload_n (pc := 16) (i := 10) (k := 2) (n := 2) rfl rfl rfl ?_
      refine kw_iload_n (pc := 17) (i := 11) (k := 3) (n := 3) rfl rfl rfl ?_
      refine kw_iast (pc := 18) (i := 12) (n := 40) rfl rfl (by omega) (by omega) ?_
      have I12 : kw_I bX (kw_ui σ 30 i.toNatClampNeg v) := kw_I_ui hI (kw_rng v).1 (Int.le_of_lt_add_one (kw_rng v).2)
      have F13 : kw_F [29, 30, 31, 32, 33, 34] σ (kw_ui σ 30 i.toNatClampNeg v) := kw_F_ui hF0 (by decide)
      exact kw_return (pc := 19) (i := 13) rfl rfl ⟨⟨I12, F13⟩, rfl, hF⟩
    · replace hF := kf_n (fun q => absurd (w9.symm.trans q) (by decide)) hF
      replace hF := kf_n (fun q => absurd (w9.symm.trans q) (by decide)) hF
      replace hF := kf_p w9 hF
      have e_w9 : k.toNatClampNeg = 2 := by have := kw_clampI (x := k) (by omega); omega
      refine kw_aald (pc := 15) (i := 9) (b := 31) rfl rfl (by decide) (by omega) (by rw [e_w9]; rfl) ?_
      refine kw_iload_n (pc := 16) (i := 10) (k := 2) (n := 2) rfl rfl rfl ?_
      refine kw_iload_n (pc := 17) (i := 11) (k := 3) (n := 3) rfl rfl rfl ?_
      refine kw_iast (pc := 18) (i := 12) (n := 40) rfl rfl (by omega) (by omega) ?_
      have I14 : kw_I bX (kw_ui σ 31 i.toNatClampNeg v) := kw_I_ui hI (kw_rng v).1 (Int.le_of_lt_add_one (kw_rng v).2)
      have F15 : kw_F [29, 30, 31, 32, 33, 34] σ (kw_ui σ 31 i.toNatClampNeg v) := kw_F_ui hF0 (by decide)
      exact kw_return (pc := 19) (i := 13) rfl rfl ⟨⟨I14, F15⟩, rfl, hF⟩
    · replace hF := kf_n (fun q => absurd (w9.symm.trans q) (by decide)) hF
      replace hF := kf_n (fun q => absurd (w9.symm.trans q) (by decide)) hF
      replace hF := kf_n (fun q => absurd (w9.symm.trans q) (by decide)) hF
      replace hF := kf_p w9 hF
      have e_w9 : k.toNatClampNeg = 3 := by have := kw_clampI (x := k) (by omega); omega
      refine kw_aald (pc := 15) (i := 9) (b := 32) rfl rfl (by decide) (by omega) (by rw [e_w9]; rfl) ?_
      refine kw_iload_n (pc := 16) (i := 10) (k := 2) (n := 2) rfl rfl rfl ?_
      refine kw_iload_n (pc := 17) (i := 11) (k := 3) (n := 3) rfl rfl rfl ?_
      refine kw_iast (pc := 18) (i := 12) (n := 40) rfl rfl (by omega) (by omega) ?_
      have I16 : kw_I bX (kw_ui σ 32 i.toNatClampNeg v) := kw_I_ui hI (kw_rng v).1 (Int.le_of_lt_add_one (kw_rng v).2)
      have F17 : kw_F [29, 30, 31, 32, 33, 34] σ (kw_ui σ 32 i.toNatClampNeg v) := kw_F_ui hF0 (by decide)
      exact kw_return (pc := 19) (i := 13) rfl rfl ⟨⟨I16, F17⟩, rfl, hF⟩
    · replace hF := kf_n (fun q => absurd (w9.symm.trans q) (by decide)) hF
      replace hF := kf_n (fun q => absurd (w9.symm.trans q) (by decide)) hF
      replace hF := kf_n (fun q => absurd (w9.symm.trans q) (by decide)) hF
      replace hF := kf_n (fun q => absurd (w9.symm.trans q) (by decide)) hF
      replace hF := kf_p w9 hF
      have e_w9 : k.toNatClampNeg = 4 := by have := kw_clampI (x := k) (by omega); omega
      refine kw_aald (pc := 15) (i := 9) (b := 33) rfl rfl (by decide) (by omega) (by rw [e_w9]; rfl) ?_
      refine kw_iload_n (pc := 16) (i := 10) (k := 2) (n := 2) rfl rfl rfl ?_
      refine kw_iload_n (pc := 17) (i := 11) (k := 3) (n := 3) rfl rfl rfl ?_
      refine kw_iast (pc := 18) (i := 12) (n := 40) rfl rfl (by omega) (by omega) ?_
      have I18 : kw_I bX (kw_ui σ 33 i.toNatClampNeg v) := kw_I_ui hI (kw_rng v).1 (Int.le_of_lt_add_one (kw_rng v).2)
      have F19 : kw_F [29, 30, 31, 32, 33, 34] σ (kw_ui σ 33 i.toNatClampNeg v) := kw_F_ui hF0 (by decide)
      exact kw_return (pc := 19) (i := 13) rfl rfl ⟨⟨I18, F19⟩, rfl, hF⟩
    · replace hF := kf_n (fun q => absurd (w9.symm.trans q) (by decide)) hF
      replace hF := kf_n (fun q => absurd (w9.symm.trans q) (by decide)) hF
      replace hF := kf_n (fun q => absurd (w9.symm.trans q) (by decide)) hF
      replace hF := kf_n (fun q => absurd (w9.symm.trans q) (by decide)) hF
      replace hF := kf_n (fun q => absurd (w9.symm.trans q) (by decide)) hF
      replace hF := kf_p w9 hF
      have e_w9 : k.toNatClampNeg = 5 := by have := kw_clampI (x := k) (by omega); omega
      refine kw_aald (pc := 15) (i := 9) (b := 34) rfl rfl (by decide) (by omega) (by rw [e_w9]; rfl) ?_
      refine kw_iload_n (pc := 16) (i := 10) (k := 2) (n := 2) rfl rfl rfl ?_
      refine kw_iload_n (pc := 17) (i := 11) (k := 3) (n := 3) rfl rfl rfl ?_
      refine kw_iast (pc := 18) (i := 12) (n := 40) rfl rfl (by omega) (by omega) ?_
      have I20 : kw_I bX (kw_ui σ 34 i.toNatClampNeg v) := kw_I_ui hI (kw_rng v).1 (Int.le_of_lt_add_one (kw_rng v).2)
      have F21 : kw_F [29, 30, 31, 32, 33, 34] σ (kw_ui σ 34 i.toNatClampNeg v) := kw_F_ui hF0 (by decide)
      exact kw_return (pc := 19) (i := 13) rfl rfl ⟨⟨I20, F21⟩, rfl, hF⟩
noncomputable def f_X3_make_1 (σ : kw_S) (k : Int32) (n : Int32) (v : Int32) : kw_S := kf_l (f_X3_has_1 σ k) fun z1 => if z1.toInt = 0 then (σ) else (if n.toInt < 0 then (σ) else (if (σ.1 1 0).toInt < n.toInt then (σ) else (if k.toInt = 0 then (kf_l (f_J7_fill_53178_29 (kw_ui σ 13 k.toNatClampNeg n) v) fun S2 => S2) else if k.toInt = 1 then (kf_l (f_J7_fill_53178_30 (kw_ui σ 13 k.toNatClampNeg n) v) fun S3 => S3) else if k.toInt = 2 then (kf_l (f_J7_fill_53178_31 (kw_ui σ 13 k.toNatClampNeg n) v) fun S4 => S4) else if k.toInt = 3 then (kf_l (f_J7_fill_53178_32 (kw_ui σ 13 k.toNatClampNeg n) v) fun S5 => S5) else if k.toInt = 4 then (kf_l (f_J7_fill_53178_33 (kw_ui σ 13 k.toNatClampNeg n) v) fun S6 => S6) else if k.toInt = 5 then (kf_l (f_J7_fill_53178_34 (kw_ui σ 13 k.toNatClampNeg n) v) fun S7 => S7) else (kw_ui σ 13 k.toNatClampNeg n))))
theorem f_X3_make_1_u (σ : kw_S) (k : Int32) (n : Int32) (v : Int32) : f_X3_make_1 σ k n v = kf_l (f_X3_has_1 σ k) fun z1 => if z1.toInt = 0 then (σ) else (if n.toInt < 0 then (σ) else (if (σ.1 1 0).toInt < n.toInt then (σ) else (if k.toInt = 0 then (kf_l (f_J7_fill_53178_29 (kw_ui σ 13 k.toNatClampNeg n) v) fun S2 => S2) else if k.toInt = 1 then (kf_l (f_J7_fill_53178_30 (kw_ui σ 13 k.toNatClampNeg n) v) fun S3 => S3) else if k.toInt = 2 then (kf_l (f_J7_fill_53178_31 (kw_ui σ 13 k.toNatClampNeg n) v) fun S4 => S4) else if k.toInt = 3 then (kf_l (f_J7_fill_53178_32 (kw_ui σ 13 k.toNatClampNeg n) v) fun S5 => S5) else if k.toInt = 4 then (kf_l (f_J7_fill_53178_33 (kw_ui σ 13 k.toNatClampNeg n) v) fun S6 => S6) else if k.toInt = 5 then (kf_l (f_J7_fill_53178_34 (kw_ui σ 13 k.toNatClampNeg n) v) fun S7 => S7) else (kw_ui σ 13 k.toNatClampNeg n)))) := rfl
abbrev p_X3_make_1 (σ : kw_S) (k : Int32) (n : Int32) (v : Int32) : Option Value → kw_S → Prop := fun vv σ' => (kw_I bX σ' ∧ kw_F [13, 29, 30, 31, 32, 33, 34] σ σ') ∧ vv = none ∧ σ' = f_X3_make_1 σ k n v
set_option maxRecDepth 100000 in
set_option maxHeartbeats 4000000 in
theorem c_X3_make_1 (l : Launch) (σ : kw_S) (hI : kw_I bX σ) (k : Int32) (n : Int32) (v : Int32) : kw_Met l 2 KX mX3_make [.ref 1, .int k, .int n, .int v] σ (p_X3_make_1 σ k n v) := by
  have r_k := kw_rng k
  have r_n := kw_rng n
  have r_v := kw_rng v
  have hF0 : kw_F [13, 29, 30, 31, 32, 33, 34] σ σ := kw_F.rf
  have hF := (f_X3_make_1_u σ k n v).symm
  refine kw_Met.of (by decide) rfl tX3_make (Nat.le_of_ble_eq_true rfl) ?_
  show kw_AW l 2 kw_E0 KX mX3_make (p_X3_make_1 σ k n v) 0 [(0, .ref 1), (1, .int k), (2, .int n), (3, .int v)] [] σ
  refine kw_aload_n (pc := 0) (i := 0) (k := 0) (n := 0) rfl rfl rfl ?_
  refine kw_iload_n (pc := 1) (i := 1) (k := 1) (n := 1) rfl rfl rfl ?_
  refine kw_callV (pc := 2) (i := 2) (Y := mX3_has) (a := 1) (As := [.int k]) (st := []) kw_hE rfl rfl lvX3_34 arX3_has (c_X3_has_1 l σ hI k ) (by decide) (Nat.le_of_ble_eq_true rfl) rfl (fun v S2 p1 => ?_)
  obtain ⟨e8, z7, rfl, f3, f4, f5, ef6⟩ := p1
  rw [e8]
  replace hF := kf_le ef6 hF
  have r_z7 := kw_rng z7
  show kw_AW l 2 kw_E0 KX mX3_make (p_X3_make_1 σ k n v) 5 [(0, .ref 1), (1, .int k), (2, .int n), (3, .int v)] [.int z7] σ
  refine kw_if_eq (pc := 5) (i := 3) (tgt := 20) rfl rfl (fun c9 => ?_) (fun c9 => ?_)
  · replace hF := kf_p c9 hF
    exact kw_return (pc := 20) (i := 10) rfl rfl ⟨⟨hI, hF0⟩, rfl, hF⟩
  · replace hF := kf_n c9 hF
    refine kw_iload_n (pc := 8) (i := 4) (k := 2) (n := 2) rfl rfl rfl ?_
    refine kw_if_lt (pc := 9) (i := 5) (tgt := 20) rfl rfl (fun c10 => ?_) (fun c10 => ?_)
    · replace hF := kf_p c10 hF
      exact kw_return (pc := 20) (i := 10) rfl rfl ⟨⟨hI, hF0⟩, rfl, hF⟩
    · replace hF := kf_nl c10 hF
      refine kw_iload_n (pc := 12) (i := 6) (k := 2) (n := 2) rfl rfl rfl ?_
      refine kw_aload_n (pc := 13) (i := 7) (k := 0) (n := 0) rfl rfl rfl ?_
      refine kw_get (pc := 14) (i := 8) (v := .int (σ.1 1 0)) rfl rfl rfl lkX3_9 (fun _ => rfl) ?_
      have b11 : 40 ≤ (σ.1 1 0).toInt ∧ (σ.1 1 0).toInt ≤ 40 := hI 1 0
      refine kw_icmp_le (pc := 17) (i := 9) (tgt := 21) rfl rfl (fun c12 => ?_) (fun c12 => ?_)
      · replace hF := kf_nl c12 hF
        refine kw_aload_n (pc := 21) (i := 11) (k := 0) (n := 0) rfl rfl rfl ?_
        refine kw_get (pc := 22) (i := 12) (v := .ref 13) rfl rfl rfl lkX3_20 (fun _ => rfl) ?_
        refine kw_iload_n (pc := 25) (i := 13) (k := 1) (n := 1) rfl rfl rfl ?_
        refine kw_iload_n (pc := 26) (i := 14) (k := 2) (n := 2) rfl rfl rfl ?_
        refine kw_iast (pc := 27) (i := 15) (n := 6) rfl rfl (by omega) (by omega) ?_
        have I13 : kw_I bX (kw_ui σ 13 k.toNatClampNeg n) := kw_I_ui hI (show -1 ≤ n.toInt by omega) (show n.toInt ≤ 40 by omega)
        have F14 : kw_F [13, 29, 30, 31, 32, 33, 34] σ (kw_ui σ 13 k.toNatClampNeg n) := kw_F_ui hF0 (by decide)
        refine kw_aload_n (pc := 28) (i := 16) (k := 0) (n := 0) rfl rfl rfl ?_
        refine kw_get (pc := 29) (i := 17) (v := .ref 12) rfl rfl rfl lkX3_17 (fun _ => rfl) ?_
        refine kw_iload_n (pc := 32) (i := 18) (k := 1) (n := 1) rfl rfl rfl ?_
        have w15 : k.toInt = 0 ∨ k.toInt = 1 ∨ k.toInt = 2 ∨ k.toInt = 3 ∨ k.toInt = 4 ∨ k.toInt = 5 := by omega
        rcases w15 with w15 | w15 | w15 | w15 | w15 | w15
        · replace hF := kf_p w15 hF
          have e_w15 : k.toNatClampNeg = 0 := by have := kw_clampI (x := k) (by omega); omega
          refine kw_aald (pc := 33) (i := 19) (b := 29) rfl rfl (by decide) (by omega) (by rw [e_w15]; rfl) ?_
          refine kw_iload_n (pc := 34) (i := 20) (k := 3) (n := 3) rfl rfl rfl ?_
          refine kw_callS (pc := 35) (i := 21) (Y := mJ7_fill_53178) (As := [.ref 29, .int v]) (st := []) kw_hE rfl lsX3_24 arJ7_fill_53178 (c_J7_fill_53178_29 l (kw_ui σ 13 k.toNatClampNeg n) I13 v ) (by decide) (Nat.le_of_ble_eq_true rfl) rfl (fun v S17 p16 => ?_)
          obtain ⟨⟨I19, F20⟩, rfl, ef18⟩ := p16
          have F21 : kw_F [13, 29, 30, 31, 32, 33, 34] σ S17 := kw_F.tr F14 F20 (by decide)
          replace hF := kf_le ef18 hF
          show kw_AW l 2 kw_E0 KX mX3_make (p_X3_make_1 σ k n v) 38 [(0, .ref 1), (1, .int k), (2, .int n), (3, .int v)] [] S17
          exact kw_return (pc := 38) (i := 22) rfl rfl ⟨⟨I19, F21⟩, rfl, hF⟩
        · replace hF := kf_n (fun q => absurd (w15.symm.trans q) (by decide)) hF
          replace hF := kf_p w15 hF
          have e_w15 : k.toNatClampNeg = 1 := by have := kw_clampI (x := k) (by omega); omega
          refine kw_aald (pc := 33) (i := 19) (b := 30) rfl rfl (by decide) (by omega) (by rw [e_w15]; rfl) ?_
          refine kw_iload_n (pc := 34) (i := 20) (k := 3) (n := 3) rfl rfl rfl ?_
          refine kw_callS (pc := 35) (i := 21) (Y := mJ7_fill_53178) (As := [.ref 30, .int v]) (st := []) kw_hE rfl lsX3_24 arJ7_fill_53178 (c_J7_fill_53178_30 l (kw_ui σ 13 k.toNatClampNeg n) I13 v ) (by decide) (Nat.le_of_ble_eq_true rfl) rfl (fun v S23 p22 => ?_)
          obtain ⟨⟨I25, F26⟩, rfl, ef24⟩ := p22
          have F27 : kw_F [13, 29, 30, 31, 32, 33, 34] σ S23 := kw_F.tr F14 F26 (by decide)
          replace hF := kf_le ef24 hF
          show kw_AW l 2 kw_E0 KX mX3_make (p_X3_make_1 σ k n v) 38 [(0, .ref 1), (1, .int k), (2, .int n), (3, .int v)] [] S23
          exact kw_return (pc := 38) (i := 22) rfl rfl ⟨⟨I25, F27⟩, rfl, hF⟩
        · replace hF := kf_n (fun q => absurd (w15.symm.trans q) (by decide)) hF
          replace hF := kf_n (fun q => absurd (w15.symm.trans q) (by decide)) hF
          replace hF := kf_p w15 hF
          have e_w15 : k.toNatClampNeg = 2 := by have := kw_clampI (x := k) (by omega); omega
          refine kw_aald (pc := 33) (i := 19) (b := 31) rfl rfl (by decide) (by omega) (by rw [e_w15]; rfl) ?_
          refine kw_iload_n (pc := 34) (i := 20) (k := 3) (n := 3) rfl rfl rfl ?_
          refine kw_callS (pc := 35) (i := 21) (Y := mJ7_fill_53178) (As := [.ref 31, .int v]) (st := []) kw_hE rfl lsX3_24 arJ7_fill_53178 (c_J7_fill_53178_31 l (kw_ui σ 13 k.toNatClampNeg n) I13 v ) (by decide) (Nat.le_of_ble_eq_true rfl) rfl (fun v S29 p28 => ?_)
          obtain ⟨⟨I31, F32⟩, rfl, ef30⟩ := p28
          have F33 : kw_F [13, 29, 30, 31, 32, 33, 34] σ S29 := kw_F.tr F14 F32 (by decide)
          replace hF := kf_le ef30 hF
          show kw_AW l 2 kw_E0 KX mX3_make (p_X3_make_1 σ k n v) 38 [(0, .ref 1), (1, .int k), (2, .int n), (3, .int v)] [] S29
          exact kw_return (pc := 38) (i := 22) rfl rfl ⟨⟨I31, F33⟩, rfl, hF⟩
        · replace hF := kf_n (fun q => absurd (w15.symm.trans q) (by decide)) hF
          replace hF := kf_n (fun q => absurd (w15.symm.trans q) (by decide)) hF
          replace hF := kf_n (fun q => absurd (w15.symm.trans q) (by decide)) hF
          replace hF := kf_p w15 hF
          have e_w15 : k.toNatClampNeg = 3 := by have := kw_clampI (x := k) (by omega); omega
          refine kw_aald (pc := 33) (i := 19) (b := 32) rfl rfl (by decide) (by omega) (by rw [e_w15]; rfl) ?_
          refine kw_iload_n (pc := 34) (i := 20) (k := 3) (n := 3) rfl rfl rfl ?_
          refine kw_callS (pc := 35) (i := 21) (Y := mJ7_fill_53178) (As := [.ref 32, .int v]) (st := []) kw_hE rfl lsX3_24 arJ7_fill_53178 (c_J7_fill_53178_32 l (kw_ui σ 13 k.toNatClampNeg n) I13 v ) (by decide) (Nat.le_of_ble_eq_true rfl) rfl (fun v S35 p34 => ?_)
          obtain ⟨⟨I37, F38⟩, rfl, ef36⟩ := p34
          have F39 : kw_F [13, 29, 30, 31, 32, 33, 34] σ S35 := kw_F.tr F14 F38 (by decide)
          replace hF := kf_le ef36 hF
          show kw_AW l 2 kw_E0 KX mX3_make (p_X3_make_1 σ k n v) 38 [(0, .ref 1), (1, .int k), (2, .int n), (3, .int v)] [] S35
          exact kw_return (pc := 38) (i := 22) rfl rfl ⟨⟨I37, F39⟩, rfl, hF⟩
        · replace hF := kf_n (fun q => absurd (w15.symm.trans q) (by decide)) hF
          replace hF := kf_n (fun q => absurd (w15.symm.trans q) (by decide)) hF
          replace hF := kf_n (fun q => absurd (w15.symm.trans q) (by decide)) hF
          replace hF := kf_n (fun q => absurd (w15.symm.trans q) (by decide)) hF
          replace hF := kf_p w15 hF
          have e_w15 : k.toNatClampNeg = 4 := by have := kw_clampI (x := k) (by omega); omega
          refine kw_aald (pc := 33) (i := 19) (b := 33) rfl rfl (by decide) (by omega) (by rw [e_w15]; rfl) ?_
          refine kw_iload_n (pc := 34) (i := 20) (k := 3) (n := 3) rfl rfl rfl ?_
          refine kw_callS (pc := 35) (i := 21) (Y := mJ7_fill_53178) (As := [.ref 33, .int v]) (st := []) kw_hE rfl lsX3_24 arJ7_fill_53178 (c_J7_fill_53178_33 l (kw_ui σ 13 k.toNatClampNeg n) I13 v ) (by decide) (Nat.le_of_ble_eq_true rfl) rfl (fun v S41 p40 => ?_)
          obtain ⟨⟨I43, F44⟩, rfl, ef42⟩ := p40
          have F45 : kw_F [13, 29, 30, 31, 32, 33, 34] σ S41 := kw_F.tr F14 F44 (by decide)
          replace hF := kf_le ef42 hF
          show kw_AW l 2 kw_E0 KX mX3_make (p_X3_make_1 σ k n v) 38 [(0, .ref 1), (1, .int k), (2, .int n), (3, .int v)] [] S41
          exact kw_return (pc := 38) (i := 22) rfl rfl ⟨⟨I43, F45⟩, rfl, hF⟩
        · replace hF := kf_n (fun q => absurd (w15.symm.trans q) (by decide)) hF
          replace hF := kf_n (fun q => absurd (w15.symm.trans q) (by decide)) hF
          replace hF := kf_n (fun q => absurd (w15.symm.trans q) (by decide)) hF
          replace hF := kf_n (fun q => absurd (w15.symm.trans q) (by decide)) hF
          replace hF := kf_n (fun q => absurd (w15.symm.trans q) (by decide)) hF
          replace hF := kf_p w15 hF
          have e_w15 : k.toNatClampNeg = 5 := by have := kw_clampI (x := k) (by omega); omega
          refine kw_aald (pc := 33) (i := 19) (b := 34) rfl rfl (by decide) (by omega) (by rw [e_w15]; rfl) ?_
          refine kw_iload_n (pc := 34) (i := 20) (k := 3) (n := 3) rfl rfl rfl ?_
          refine kw_callS (pc := 35) (i := 21) (Y := mJ7_fill_53178) (As := [.ref 34, .int v]) (st := []) kw_hE rfl lsX3_24 arJ7_fill_53178 (c_J7_fill_53178_34 l (kw_ui σ 13 k.toNatClampNeg n) I13 v ) (by decide) (Nat.le_of_ble_eq_true rfl) rfl (fun v S47 p46 => ?_)
          obtain ⟨⟨I49, F50⟩, rfl, ef48⟩ := p46
          have F51 : kw_F [13, 29, 30, 31, 32, 33, 34] σ S47 := kw_F.tr F14 F50 (by decide)
          replace hF := kf_le ef48 hF
          show kw_AW l 2 kw_E0 KX mX3_make (p_X3_make_1 σ k n v) 38 [(0, .ref 1), (1, .int k), (2, .int n), (3, .int v)] [] S47
          exact kw_return (pc := 38) (i := 22) rfl rfl ⟨⟨I49, F51⟩, rfl, hF⟩
      · replace hF := kf_p c12 hF
        exact kw_return (pc := 20) (i := 10) rfl rfl ⟨⟨hI, hF0⟩, rfl, hF⟩
noncomputable def f_X3_drop_1 (σ : kw_S) (k : Int32) : kw_S := kf_l (f_X3_has_1 σ k) fun z1 => if z1.toInt = 0 then (σ) else (kw_ui σ 13 k.toNatClampNeg (-1))
theorem f_X3_drop_1_u (σ : kw_S) (k : Int32) : f_X3_drop_1 σ k = kf_l (f_X3_has_1 σ k) fun z1 => if z1.toInt = 0 then (σ) else (kw_ui σ 13 k.toNatClampNeg (-1)) := rfl
abbrev p_X3_drop_1 (σ : kw_S) (k : Int32) : Option Value → kw_S → Prop := fun vv σ' => (kw_I bX σ' ∧ kw_F [13] σ σ') ∧ vv = none ∧ σ' = f_X3_drop_1 σ k
set_option maxRecDepth 100000 in
set_option maxHeartbeats 4000000 in
theorem c_X3_drop_1 (l : Launch) (σ : kw_S) (hI : kw_I bX σ) (k : Int32) : kw_Met l 2 KX mX3_drop [.ref 1, .int k] σ (p_X3_drop_1 σ k) := by
  have r_k := kw_rng k
  have hF0 : kw_F [13] σ σ := kw_F.rf
  have hF := (f_X3_drop_1_u σ k).symm
  have q_m1 : (-1 : Int32).toInt = -1 := rfl
  refine kw_Met.of (by decide) rfl tX3_drop (Nat.le_of_ble_eq_true rfl) ?_
  show kw_AW l 2 kw_E0 KX mX3_drop (p_X3_drop_1 σ k) 0 [(0, .ref 1), (1, .int k)] [] σ
  refine kw_aload_n (pc := 0) (i := 0) (k := 0) (n := 0) rfl rfl rfl ?_
  refine kw_iload_n (pc := 1) (i := 1) (k := 1) (n := 1) rfl rfl rfl ?_
  refine kw_callV (pc := 2) (i := 2) (Y := mX3_has) (a := 1) (As := [.int k]) (st := []) kw_hE rfl rfl lvX3_34 arX3_has (c_X3_has_1 l σ hI k ) (by decide) (Nat.le_of_ble_eq_true rfl) rfl (fun v S2 p1 => ?_)
  obtain ⟨e8, z7, rfl, f3, f4, f5, ef6⟩ := p1
  rw [e8]
  replace hF := kf_le ef6 hF
  have r_z7 := kw_rng z7
  show kw_AW l 2 kw_E0 KX mX3_drop (p_X3_drop_1 σ k) 5 [(0, .ref 1), (1, .int k)] [.int z7] σ
  refine kw_if_eq (pc := 5) (i := 3) (tgt := 15) rfl rfl (fun c9 => ?_) (fun c9 => ?_)
  · replace hF := kf_p c9 hF
    exact kw_return (pc := 15) (i := 9) rfl rfl ⟨⟨hI, hF0⟩, rfl, hF⟩
  · replace hF := kf_n c9 hF
    refine kw_aload_n (pc := 8) (i := 4) (k := 0) (n := 0) rfl rfl rfl ?_
    refine kw_get (pc := 9) (i := 5) (v := .ref 13) rfl rfl rfl lkX3_20 (fun _ => rfl) ?_
    refine kw_iload_n (pc := 12) (i := 6) (k := 1) (n := 1) rfl rfl rfl ?_
    refine kw_iconst (pc := 13) (i := 7) (v := (-1)) rfl rfl ?_
    refine kw_iast (pc := 14) (i := 8) (n := 6) rfl rfl (by omega) (by omega) ?_
    have I10 : kw_I bX (kw_ui σ 13 k.toNatClampNeg (-1)) := kw_I_ui hI (show -1 ≤ ((-1) : Int32).toInt by omega) (show ((-1) : Int32).toInt ≤ 40 by omega)
    have F11 : kw_F [13] σ (kw_ui σ 13 k.toNatClampNeg (-1)) := kw_F_ui hF0 (by decide)
    exact kw_return (pc := 15) (i := 9) rfl rfl ⟨⟨I10, F11⟩, rfl, hF⟩
noncomputable def f_X3_findingAt_1 (σ : kw_S) (k : Int32) (i : Int32) : Int32 := kf_l (f_X3_isMissing_1 σ k) fun z1 => if z1.toInt = 0 then (kf_l (f_X3_hasPlaces_1 σ k i (1 : Int32)) fun z2 => if z2.toInt = 0 then ((2 : Int32)) else ((0 : Int32))) else ((1 : Int32))
theorem f_X3_findingAt_1_u (σ : kw_S) (k : Int32) (i : Int32) : f_X3_findingAt_1 σ k i = kf_l (f_X3_isMissing_1 σ k) fun z1 => if z1.toInt = 0 then (kf_l (f_X3_hasPlaces_1 σ k i (1 : Int32)) fun z2 => if z2.toInt = 0 then ((2 : Int32)) else ((0 : Int32))) else ((1 : Int32)) := rfl
abbrev p_X3_findingAt_1 (σ : kw_S) (k : Int32) (i : Int32) : Option Value → kw_S → Prop := fun vv σ' => σ' = σ ∧ ∃ r : Int32, vv = some (.int r) ∧ r = f_X3_findingAt_1 σ k i
set_option maxRecDepth 100000 in
set_option maxHeartbeats 4000000 in
theorem c_X3_findingAt_1 (l : Launch) (σ : kw_S) (hI : kw_I bX σ) (k : Int32) (i : Int32) : kw_Met l 4 KX mX3_findingAt [.ref 1, .int k, .int i] σ (p_X3_findingAt_1 σ k i) := by
  have r_k := kw_rng k
  have r_i := kw_rng i
  have hF := (f_X3_findingAt_1_u σ k i).symm
  have q_0 : (0 : Int32).toInt = 0 := rfl
  have q_1 : (1 : Int32).toInt = 1 := rfl
  have q_2 : (2 : Int32).toInt = 2 := rfl
  refine kw_Met.of (by decide) rfl tX3_findingAt (Nat.le_of_ble_eq_true rfl) ?_
  show kw_AW l 4 kw_E0 KX mX3_findingAt (p_X3_findingAt_1 σ k i) 0 [(0, .ref 1), (1, .int k), (2, .int i)] [] σ
  refine kw_aload_n (pc := 0) (i := 0) (k := 0) (n := 0) rfl rfl rfl ?_
  refine kw_iload_n (pc := 1) (i := 1) (k := 1) (n := 1) rfl rfl rfl ?_
  refine kw_callV (pc := 2) (i := 2) (Y := mX3_isMissing) (a := 1) (As := [.int k]) (st := []) kw_hE rfl rfl lvX3_38 arX3_isMissing (c_X3_isMissing_1 l σ hI k ) (by decide) (Nat.le_of_ble_eq_true rfl) rfl (fun v S2 p1 => ?_)
  obtain ⟨e7, z6, rfl, f3, f4, ef5⟩ := p1
  rw [e7]
  replace hF := kf_le ef5 hF
  have r_z6 := kw_rng z6
  show kw_AW l 4 kw_E0 KX mX3_findingAt (p_X3_findingAt_1 σ k i) 5 [(0, .ref 1), (1, .int k), (2, .int i)] [.int z6] σ
  refine kw_if_eq (pc := 5) (i := 3) (tgt := 10) rfl rfl (fun c8 => ?_) (fun c8 => ?_)
  · replace hF := kf_p c8 hF
    refine kw_aload_n (pc := 10) (i := 6) (k := 0) (n := 0) rfl rfl rfl ?_
    refine kw_iload_n (pc := 11) (i := 7) (k := 1) (n := 1) rfl rfl rfl ?_
    refine kw_iload_n (pc := 12) (i := 8) (k := 2) (n := 2) rfl rfl rfl ?_
    refine kw_iconst (pc := 13) (i := 9) (v := 1) rfl rfl ?_
    refine kw_callV (pc := 14) (i := 10) (Y := mX3_hasPlaces) (a := 1) (As := [.int k, .int i, .int 1]) (st := []) kw_hE rfl rfl lvX3_41 arX3_hasPlaces (c_X3_hasPlaces_1 l σ hI k i 1 ) (by decide) (Nat.le_of_ble_eq_true rfl) rfl (fun v S10 p9 => ?_)
    obtain ⟨e15, z14, rfl, f11, f12, ef13⟩ := p9
    rw [e15]
    replace hF := kf_le ef13 hF
    have r_z14 := kw_rng z14
    show kw_AW l 4 kw_E0 KX mX3_findingAt (p_X3_findingAt_1 σ k i) 17 [(0, .ref 1), (1, .int k), (2, .int i)] [.int z14] σ
    refine kw_if_eq (pc := 17) (i := 11) (tgt := 24) rfl rfl (fun c16 => ?_) (fun c16 => ?_)
    · replace hF := kf_p c16 hF
      refine kw_iconst (pc := 24) (i := 14) (v := 2) rfl rfl ?_
      exact kw_ireturn (pc := 25) (i := 15) (ty := .int) rfl rfl rfl ⟨rfl, _, rfl, hF⟩
    · replace hF := kf_n c16 hF
      refine kw_iconst (pc := 20) (i := 12) (v := 0) rfl rfl ?_
      refine kw_goto (pc := 21) (i := 13) (tgt := 25) rfl rfl ?_
      exact kw_ireturn (pc := 25) (i := 15) (ty := .int) rfl rfl rfl ⟨rfl, _, rfl, hF⟩
  · replace hF := kf_n c8 hF
    refine kw_iconst (pc := 8) (i := 4) (v := 1) rfl rfl ?_
    exact kw_ireturn (pc := 9) (i := 5) (ty := .int) rfl rfl rfl ⟨rfl, _, rfl, hF⟩
noncomputable def l_X3_fold_1_33 (k5 : Int64 → Int32 → Int64) (a1 : Int64) (a5 : Int32) (S : kw_S) : Nat → Int64 → Int32 → Int64
  | 0, _, _ => 0
  | n + 1, x3, x6 => kf_l (S.1 13 a5.toNatClampNeg) fun z5 => if x6.toInt < z5.toInt then (kf_l ((31 : Int64) * x3) fun z7 => if a5.toInt = 0 then (kf_l (S.1 29 x6.toNatClampNeg) fun z8 => kf_l z8.toInt64 fun z9 => kf_l (z7 + z9) fun z10 => kf_l (x6 + Int32.ofInt 1) fun z11 => l_X3_fold_1_33 k5 a1 a5 S n z10 z11) else if a5.toInt = 1 then (kf_l (S.1 30 x6.toNatClampNeg) fun z12 => kf_l z12.toInt64 fun z13 => kf_l (z7 + z13) fun z14 => kf_l (x6 + Int32.ofInt 1) fun z15 => l_X3_fold_1_33 k5 a1 a5 S n z14 z15) else if a5.toInt = 2 then (kf_l (S.1 31 x6.toNatClampNeg) fun z16 => kf_l z16.toInt64 fun z17 => kf_l (z7 + z17) fun z18 => kf_l (x6 + Int32.ofInt 1) fun z19 => l_X3_fold_1_33 k5 a1 a5 S n z18 z19) else if a5.toInt = 3 then (kf_l (S.1 32 x6.toNatClampNeg) fun z20 => kf_l z20.toInt64 fun z21 => kf_l (z7 + z21) fun z22 => kf_l (x6 + Int32.ofInt 1) fun z23 => l_X3_fold_1_33 k5 a1 a5 S n z22 z23) else if a5.toInt = 4 then (kf_l (S.1 33 x6.toNatClampNeg) fun z24 => kf_l z24.toInt64 fun z25 => kf_l (z7 + z25) fun z26 => kf_l (x6 + Int32.ofInt 1) fun z27 => l_X3_fold_1_33 k5 a1 a5 S n z26 z27) else if a5.toInt = 5 then (kf_l (S.1 34 x6.toNatClampNeg) fun z28 => kf_l z28.toInt64 fun z29 => kf_l (z7 + z29) fun z30 => kf_l (x6 + Int32.ofInt 1) fun z31 => l_X3_fold_1_33 k5 a1 a5 S n z30 z31) else 0) else (kf_l (a5 + Int32.ofInt 1) fun z6 => k5 x3 z6)
theorem l_X3_fold_1_33_s (k5 : Int64 → Int32 → Int64) (a1 : Int64) (a5 : Int32) (S : kw_S) (n : Nat) (x3 : Int64) (x6 : Int32) : l_X3_fold_1_33 k5 a1 a5 S (n + 1) x3 x6 = kf_l (S.1 13 a5.toNatClampNeg) fun z5 => if x6.toInt < z5.toInt then (kf_l ((31 : Int64) * x3) fun z7 => if a5.toInt = 0 then (kf_l (S.1 29 x6.toNatClampNeg) fun z8 => kf_l z8.toInt64 fun z9 => kf_l (z7 + z9) fun z10 => kf_l (x6 + Int32.ofInt 1) fun z11 => l_X3_fold_1_33 k5 a1 a5 S n z10 z11) else if a5.toInt = 1 then (kf_l (S.1 30 x6.toNatClampNeg) fun z12 => kf_l z12.toInt64 fun z13 => kf_l (z7 + z13) fun z14 => kf_l (x6 + Int32.ofInt 1) fun z15 => l_X3_fold_1_33 k5 a1 a5 S n z14 z15) else if a5.toInt = 2 then (kf_l (S.1 31 x6.toNatClampNeg) fun z16 => kf_l z16.toInt64 fun z17 => kf_l (z7 + z17) fun z18 => kf_l (x6 + Int32.ofInt 1) fun z19 => l_X3_fold_1_33 k5 a1 a5 S n z18 z19) else if a5.toInt = 3 then (kf_l (S.1 32 x6.toNatClampNeg) fun z20 => kf_l z20.toInt64 fun z21 => kf_l (z7 + z21) fun z22 => kf_l (x6 + Int32.ofInt 1) fun z23 => l_X3_fold_1_33 k5 a1 a5 S n z22 z23) else if a5.toInt = 4 then (kf_l (S.1 33 x6.toNatClampNeg) fun z24 => kf_l z24.toInt64 fun z25 => kf_l (z7 + z25) fun z26 => kf_l (x6 + Int32.ofInt 1) fun z27 => l_X3_fold_1_33 k5 a1 a5 S n z26 z27) else if a5.toInt = 5 then (kf_l (S.1 34 x6.toNatClampNeg) fun z28 => kf_l z28.toInt64 fun z29 => kf_l (z7 + z29) fun z30 => kf_l (x6 + Int32.ofInt 1) fun z31 => l_X3_fold_1_33 k5 a1 a5 S n z30 z31) else 0) else (kf_l (a5 + Int32.ofInt 1) fun z6 => k5 x3 z6) := rfl
noncomputable def l_X3_fold_1_5 (a1 : Int64) (S : kw_S) : Nat → Int64 → Int32 → Int64
  | 0, _, _ => 0
  | n + 1, x3, x5 => if x5.toInt < (6 : Int32).toInt then (kf_l ((31 : Int64) * x3) fun z1 => kf_l (S.1 13 x5.toNatClampNeg) fun z2 => kf_l z2.toInt64 fun z3 => kf_l (z1 + z3) fun z4 => l_X3_fold_1_33 (l_X3_fold_1_5 a1 S n) a1 x5 S ((61 - (0 : Int32).toInt).toNat + 1) z4 (0 : Int32)) else (x3)
theorem l_X3_fold_1_5_s (a1 : Int64) (S : kw_S) (n : Nat) (x3 : Int64) (x5 : Int32) : l_X3_fold_1_5 a1 S (n + 1) x3 x5 = if x5.toInt < (6 : Int32).toInt then (kf_l ((31 : Int64) * x3) fun z1 => kf_l (S.1 13 x5.toNatClampNeg) fun z2 => kf_l z2.toInt64 fun z3 => kf_l (z1 + z3) fun z4 => l_X3_fold_1_33 (l_X3_fold_1_5 a1 S n) a1 x5 S ((61 - (0 : Int32).toInt).toNat + 1) z4 (0 : Int32)) else (x3) := rfl
noncomputable def f_X3_fold_1 (σ : kw_S) (h : Int64) : Int64 := l_X3_fold_1_5 h σ ((10 - (0 : Int32).toInt).toNat + 1) h (0 : Int32)
theorem f_X3_fold_1_u (σ : kw_S) (h : Int64) : f_X3_fold_1 σ h = l_X3_fold_1_5 h σ ((10 - (0 : Int32).toInt).toNat + 1) h (0 : Int32) := rfl
abbrev p_X3_fold_1 (σ : kw_S) (h : Int64) : Option Value → kw_S → Prop := fun vv σ' => σ' = σ ∧ ∃ r : Int64, vv = some (.long r) ∧ r = f_X3_fold_1 σ h
set_option maxRecDepth 100000 in
set_option maxHeartbeats 4000000 in
theorem c_X3_fold_1 (l : Launch) (σ : kw_S) (hI : kw_I bX σ) (h : Int64) : kw_Met l 1 KX mX3_fold [.ref 1, .long h] σ (p_X3_fold_1 σ h) := by
  have hF := (f_X3_fold_1_u σ h).symm
  have q_0 : (0 : Int32).toInt = 0 := rfl
  have q_6 : (6 : Int32).toInt = 6 := rfl
  refine kw_Met.of (by decide) rfl tX3_fold (Nat.le_of_ble_eq_true rfl) ?_
  show kw_AW l 1 kw_E0 KX mX3_fold (p_X3_fold_1 σ h) 0 [(0, .ref 1), (1, .long h)] [] σ
  refine kw_lload_n (pc := 0) (i := 0) (k := 1) (n := 1) rfl rfl rfl ?_
  refine kw_lstore_n (pc := 1) (i := 1) (n := 3) (lv' := [(3, .long h), (0, .ref 1), (1, .long h)]) rfl rfl (by decide) rfl ?_
  refine kw_iconst (pc := 2) (i := 2) (v := 0) rfl rfl ?_
  refine kw_istore (pc := 3) (i := 3) (n := 5) (lv' := [(5, .int 0), (3, .long h), (0, .ref 1), (1, .long h)]) rfl (by decide) rfl ?_
  have L3 : ∀ (n7 : Nat) (x1 : Int32) (x2 : Int64), 0 ≤ x1.toInt → l_X3_fold_1_5 h σ n7 x2 x1 = (f_X3_fold_1 σ h) → (10 - x1.toInt).toNat < n7 → kw_AW l 1 kw_E0 KX mX3_fold (p_X3_fold_1 σ h) 5 [(5, .int x1), (3, .long x2), (0, .ref 1), (1, .long h)] [] σ := by
    intro n7
    induction n7 with
    | zero => intro x1 x2 v5 hF m6; exact absurd m6 (Nat.not_lt_zero _)
    | succ n7 ih4 =>
      intro x1 x2 v5 hF m6
      replace hF := kf_st (l_X3_fold_1_5_s _ _ _ _ _) hF
      have r_x1 := kw_rng x1
      refine kw_iload (pc := 5) (i := 4) (k := 0) (n := 5) rfl rfl ?_
      refine kw_aload_n (pc := 7) (i := 5) (k := 2) (n := 0) rfl rfl rfl ?_
      refine kw_get (pc := 8) (i := 6) (v := .ref 13) rfl rfl rfl lkX3_20 (fun _ => rfl) ?_
      refine kw_alen (pc := 11) (i := 7) (n := 6) (v := 6) rfl rfl rfl ?_
      refine kw_icmp_ge (pc := 12) (i := 8) (tgt := 75) rfl rfl (fun c8 => ?_) (fun c8 => ?_)
      · replace hF := kf_nl c8 hF
        refine kw_lload_n (pc := 75) (i := 43) (k := 1) (n := 3) rfl rfl rfl ?_
        exact kw_lreturn (pc := 76) (i := 44) rfl rfl ⟨rfl, _, rfl, hF⟩
      · replace hF := kf_p c8 hF
        refine kw_ldc2 (pc := 15) (i := 9) (v := 31) rfl ckX3_51 ?_
        refine kw_lload_n (pc := 18) (i := 10) (k := 1) (n := 3) rfl rfl rfl ?_
        refine kw_lmul (pc := 19) (i := 11) rfl (fun z9 e_z9 => ?_)
        replace hF := kf_le e_z9 hF
        refine kw_aload_n (pc := 20) (i := 12) (k := 2) (n := 0) rfl rfl rfl ?_
        refine kw_get (pc := 21) (i := 13) (v := .ref 13) rfl rfl rfl lkX3_20 (fun _ => rfl) ?_
        refine kw_iload (pc := 24) (i := 14) (k := 0) (n := 5) rfl rfl ?_
        refine kw_iald (pc := 26) (i := 15) (n := 6) rfl rfl (by omega) (by omega) (fun z10 e_z10 => ?_)
        replace hF := kf_le e_z10 hF
        have t_z10 := congrArg Int32.toInt e_z10
        have b_z10 : -1 ≤ z10.toInt ∧ z10.toInt ≤ 40 := by rw [e_z10]; exact hI 13 _
        refine kw_i2l (pc := 27) (i := 16) rfl (fun z11 e_z11 t_z11 => ?_)
        replace hF := kf_le e_z11 hF
        refine kw_ladd (pc := 28) (i := 17) rfl (fun z12 e_z12 => ?_)
        replace hF := kf_le e_z12 hF
        refine kw_lstore_n (pc := 29) (i := 18) (n := 3) (lv' := [(3, .long z12), (5, .int x1), (0, .ref 1), (1, .long h)]) rfl rfl (by decide) rfl ?_
        refine kw_iconst (pc := 30) (i := 19) (v := 0) rfl rfl ?_
        refine kw_istore (pc := 31) (i := 20) (n := 6) (lv' := [(6, .int 0), (3, .long z12), (5, .int x1), (0, .ref 1), (1, .long h)]) rfl (by decide) rfl ?_
        have L15 : ∀ (n19 : Nat) (x13 : Int32) (x14 : Int64), 0 ≤ x13.toInt → l_X3_fold_1_33 (l_X3_fold_1_5 h σ n7) h x1 σ n19 x14 x13 = (f_X3_fold_1 σ h) → (61 - x13.toInt).toNat < n19 → kw_AW l 1 kw_E0 KX mX3_fold (p_X3_fold_1 σ h) 33 [(6, .int x13), (3, .long x14), (5, .int x1), (0, .ref 1), (1, .long h)] [] σ := by
          intro n19
          induction n19 with
          | zero => intro x13 x14 v17 hF m18; exact absurd m18 (Nat.not_lt_zero _)
          | succ n19 ih16 =>
            intro x13 x14 v17 hF m18
            replace hF := kf_st (l_X3_fold_1_33_s _ _ _ _ _ _ _) hF
            have r_x13 := kw_rng x13
            refine kw_iload (pc := 33) (i := 21) (k := 0) (n := 6) rfl rfl ?_
            refine kw_aload_n (pc := 35) (i := 22) (k := 3) (n := 0) rfl rfl rfl ?_
            refine kw_get (pc := 36) (i := 23) (v := .ref 13) rfl rfl rfl lkX3_20 (fun _ => rfl) ?_
            refine kw_iload (pc := 39) (i := 24) (k := 2) (n := 5) rfl rfl ?_
            refine kw_iald (pc := 41) (i := 25) (n := 6) rfl rfl (by omega) (by omega) (fun z20 e_z20 => ?_)
            replace hF := kf_le e_z20 hF
            have t_z20 := congrArg Int32.toInt e_z20
            have b_z20 : -1 ≤ z20.toInt ∧ z20.toInt ≤ 40 := by rw [e_z20]; exact hI 13 _
            refine kw_icmp_ge (pc := 42) (i := 26) (tgt := 69) rfl rfl (fun c21 => ?_) (fun c21 => ?_)
            · replace hF := kf_nl c21 hF
              refine kw_iinc' (pc := 69) (i := 41) (k := 2) (fun z => [(5, .int z), (6, .int x13), (3, .long x14), (0, .ref 1), (1, .long h)]) rfl rfl (by decide) rfl (fun _ => rfl) (fun z22 e_z22 t_z22 => ?_)
              replace hF := kf_le e_z22 hF
              refine kw_goto (pc := 72) (i := 42) (tgt := 5) rfl rfl ?_
              refine kw_sub (lv' := [(5, .int z22), (3, .long x14), (0, .ref 1), (1, .long h)]) [0, 2, 3, 4] rfl ?_
              exact ih4 z22 x14 (by omega) hF (by omega)
            · replace hF := kf_p c21 hF
              refine kw_ldc2 (pc := 45) (i := 27) (v := 31) rfl ckX3_51 ?_
              refine kw_lload_n (pc := 48) (i := 28) (k := 1) (n := 3) rfl rfl rfl ?_
              refine kw_lmul (pc := 49) (i := 29) rfl (fun z23 e_z23 => ?_)
              replace hF := kf_le e_z23 hF
              refine kw_aload_n (pc := 50) (i := 30) (k := 3) (n := 0) rfl rfl rfl ?_
              refine kw_get (pc := 51) (i := 31) (v := .ref 12) rfl rfl rfl lkX3_17 (fun _ => rfl) ?_
              refine kw_iload (pc := 54) (i := 32) (k := 2) (n := 5) rfl rfl ?_
              have w24 : x1.toInt = 0 ∨ x1.toInt = 1 ∨ x1.toInt = 2 ∨ x1.toInt = 3 ∨ x1.toInt = 4 ∨ x1.toInt = 5 := by omega
              rcases w24 with w24 | w24 | w24 | w24 | w24 | w24
              · replace hF := kf_p w24 hF
                have e_w24 : x1.toNatClampNeg = 0 := by have := kw_clampI (x := x1) (by omega); omega
                refine kw_aald (pc := 56) (i := 33) (b := 29) rfl rfl (by decide) (by omega) (by rw [e_w24]; rfl) ?_
                refine kw_iload (pc := 57) (i := 34) (k := 0) (n := 6) rfl rfl ?_
                refine kw_iald (pc := 59) (i := 35) (n := 40) rfl rfl (by omega) (by omega) (fun z25 e_z25 => ?_)
                replace hF := kf_le e_z25 hF
                have t_z25 := congrArg Int32.toInt e_z25
                have r_z25 := kw_rng z25
                refine kw_i2l (pc := 60) (i := 36) rfl (fun z26 e_z26 t_z26 => ?_)
                replace hF := kf_le e_z26 hF
                refine kw_ladd (pc := 61) (i := 37) rfl (fun z27 e_z27 => ?_)
                replace hF := kf_le e_z27 hF
                refine kw_lstore_n (pc := 62) (i := 38) (n := 3) (lv' := [(3, .long z27), (6, .int x13), (5, .int x1), (0, .ref 1), (1, .long h)]) rfl rfl (by decide) rfl ?_
                refine kw_iinc' (pc := 63) (i := 39) (k := 1) (fun z => [(6, .int z), (3, .long z27), (5, .int x1), (0, .ref 1), (1, .long h)]) rfl rfl (by decide) rfl (fun _ => rfl) (fun z28 e_z28 t_z28 => ?_)
                replace hF := kf_le e_z28 hF
                refine kw_goto (pc := 66) (i := 40) (tgt := 33) rfl rfl ?_
                refine kw_sub (lv' := [(6, .int z28), (3, .long z27), (5, .int x1), (0, .ref 1), (1, .long h)]) [0, 1, 2, 3, 4] rfl ?_
                exact ih16 z28 z27 (by omega) hF (by omega)
              · replace hF := kf_n (fun q => absurd (w24.symm.trans q) (by decide)) hF
                replace hF := kf_p w24 hF
                have e_w24 : x1.toNatClampNeg = 1 := by have := kw_clampI (x := x1) (by omega); omega
                refine kw_aald (pc := 56) (i := 33) (b := 30) rfl rfl (by decide) (by omega) (by rw [e_w24]; rfl) ?_
                refine kw_iload (pc := 57) (i := 34) (k := 0) (n := 6) rfl rfl ?_
                refine kw_iald (pc := 59) (i := 35) (n := 40) rfl rfl (by omega) (by omega) (fun z29 e_z29 => ?_)
                replace hF := kf_le e_z29 hF
                have t_z29 := congrArg Int32.toInt e_z29
                have r_z29 := kw_rng z29
                refine kw_i2l (pc := 60) (i := 36) rfl (fun z30 e_z30 t_z30 => ?_)
                replace hF := kf_le e_z30 hF
                refine kw_ladd (pc := 61) (i := 37) rfl (fun z31 e_z31 => ?_)
                replace hF := kf_le e_z31 hF
                refine kw_lstore_n (pc := 62) (i := 38) (n := 3) (lv' := [(3, .long z31), (6, .int x13), (5, .int x1), (0, .ref 1), (1, .long h)]) rfl rfl (by decide) rfl ?_
                refine kw_iinc' (pc := 63) (i := 39) (k := 1) (fun z => [(6, .int z), (3, .long z31), (5, .int x1), (0, .ref 1), (1, .long h)]) rfl rfl (by decide) rfl (fun _ => rfl) (fun z32 e_z32 t_z32 => ?_)
                replace hF := kf_le e_z32 hF
                refine kw_goto (pc := 66) (i := 40) (tgt := 33) rfl rfl ?_
                refine kw_sub (lv' := [(6, .int z32), (3, .long z31), (5, .int x1), (0, .ref 1), (1, .long h)]) [0, 1, 2, 3, 4] rfl ?_
                exact ih16 z32 z31 (by omega) hF (by omega)
              · replace hF := kf_n (fun q => absurd (w24.symm.trans q) (by decide)) hF
                replace hF := kf_n (fun q => absurd (w24.symm.trans q) (by decide)) hF
                replace hF := kf_p w24 hF
                have e_w24 : x1.toNatClampNeg = 2 := by have := kw_clampI (x := x1) (by omega); omega
                refine kw_aald (pc := 56) (i := 33) (b := 31) rfl rfl (by decide) (by omega) (by rw [e_w24]; rfl) ?_
                refine kw_iload (pc := 57) (i := 34) (k := 0) (n := 6) rfl rfl ?_
                refine kw_iald (pc := 59) (i := 35) (n := 40) rfl rfl (by omega) (by omega) (fun z33 e_z33 => ?_)
                replace hF := kf_le e_z33 hF
                have t_z33 := congrArg Int32.toInt e_z33
                have r_z33 := kw_rng z33
                refine kw_i2l (pc := 60) (i := 36) rfl (fun z34 e_z34 t_z34 => ?_)
                replace hF := kf_le e_z34 hF
                refine kw_ladd (pc := 61) (i := 37) rfl (fun z35 e_z35 => ?_)
                replace hF := kf_le e_z35 hF
                refine kw_lstore_n (pc := 62) (i := 38) (n := 3) (lv' := [(3, .long z35), (6, .int x13), (5, .int x1), (0, .ref 1), (1, .long h)]) rfl rfl (by decide) rfl ?_
                refine kw_iinc' (pc := 63) (i := 39) (k := 1) (fun z => [(6, .int z), (3, .long z35), (5, .int x1), (0, .ref 1), (1, .long h)]) rfl rfl (by decide) rfl (fun _ => rfl) (fun z36 e_z36 t_z36 => ?_)
                replace hF := kf_le e_z36 hF
                refine kw_goto (pc := 66) (i := 40) (tgt := 33) rfl rfl ?_
                refine kw_sub (lv' := [(6, .int z36), (3, .long z35), (5, .int x1), (0, .ref 1), (1, .long h)]) [0, 1, 2, 3, 4] rfl ?_
                exact ih16 z36 z35 (by omega) hF (by omega)
              · replace hF := kf_n (fun q => absurd (w24.symm.trans q) (by decide)) hF
                replace hF := kf_n (fun q => absurd (w24.symm.trans q) (by decide)) hF
                replace hF := kf_n (fun q => absurd (w24.symm.trans q) (by decide)) hF
                replace hF := kf_p w24 hF
                have e_w24 : x1.toNatClampNeg = 3 := by have := kw_clampI (x := x1) (by omega); omega
                refine kw_aald (pc := 56) (i := 33) (b := 32) rfl rfl (by decide) (by omega) (by rw [e_w24]; rfl) ?_
                refine kw_iload (pc := 57) (i := 34) (k := 0) (n := 6) rfl rfl ?_
                refine kw_iald (pc := 59) (i := 35) (n := 40) rfl rfl (by omega) (by omega) (fun z37 e_z37 => ?_)
                replace hF := kf_le e_z37 hF
                have t_z37 := congrArg Int32.toInt e_z37
                have r_z37 := kw_rng z37
                refine kw_i2l (pc := 60) (i := 36) rfl (fun z38 e_z38 t_z38 => ?_)
                replace hF := kf_le e_z38 hF
                refine kw_ladd (pc := 61) (i := 37) rfl (fun z39 e_z39 => ?_)
                replace hF := kf_le e_z39 hF
                refine kw_lstore_n (pc := 62) (i := 38) (n := 3) (lv' := [(3, .long z39), (6, .int x13), (5, .int x1), (0, .ref 1), (1, .long h)]) rfl rfl (by decide) rfl ?_
                refine kw_iinc' (pc := 63) (i := 39) (k := 1) (fun z => [(6, .int z), (3, .long z39), (5, .int x1), (0, .ref 1), (1, .long h)]) rfl rfl (by decide) rfl (fun _ => rfl) (fun z40 e_z40 t_z40 => ?_)
                replace hF := kf_le e_z40 hF
                refine kw_goto (pc := 66) (i := 40) (tgt := 33) rfl rfl ?_
                refine kw_sub (lv' := [(6, .int z40), (3, .long z39), (5, .int x1), (0, .ref 1), (1, .long h)]) [0, 1, 2, 3, 4] rfl ?_
                exact ih16 z40 z39 (by omega) hF (by omega)
              · replace hF := kf_n (fun q => absurd (w24.symm.trans q) (by decide)) hF
                replace hF := kf_n (fun q => absurd (w24.symm.trans q) (by decide)) hF
                replace hF := kf_n (fun q => absurd (w24.symm.trans q) (by decide)) hF
                replace hF := kf_n (fun q => absurd (w24.symm.trans q) (by decide)) hF
                replace hF := kf_p w24 hF
                have e_w24 : x1.toNatClampNeg = 4 := by have := kw_clampI (x := x1) (by omega); omega
                refine kw_aald (pc := 56) (i := 33) (b := 33) rfl rfl (by decide) (by omega) (by rw [e_w24]; rfl) ?_
                refine kw_iload (pc := 57) (i := 34) (k := 0) (n := 6) rfl rfl ?_
                refine kw_iald (pc := 59) (i := 35) (n := 40) rfl rfl (by omega) (by omega) (fun z41 e_z41 => ?_)
                replace hF := kf_le e_z41 hF
                have t_z41 := congrArg Int32.toInt e_z41
                have r_z41 := kw_rng z41
                refine kw_i2l (pc := 60) (i := 36) rfl (fun z42 e_z42 t_z42 => ?_)
                replace hF := kf_le e_z42 hF
                refine kw_ladd (pc := 61) (i := 37) rfl (fun z43 e_z43 => ?_)
                replace hF := kf_le e_z43 hF
                refine kw_lstore_n (pc := 62) (i := 38) (n := 3) (lv' := [(3, .long z43), (6, .int x13), (5, .int x1), (0, .ref 1), (1, .long h)]) rfl rfl (by decide) rfl ?_
                refine kw_iinc' (pc := 63) (i := 39) (k := 1) (fun z => [(6, .int z), (3, .long z43), (5, .int x1), (0, .ref 1), (1, .long h)]) rfl rfl (by decide) rfl (fun _ => rfl) (fun z44 e_z44 t_z44 => ?_)
                replace hF := kf_le e_z44 hF
                refine kw_goto (pc := 66) (i := 40) (tgt := 33) rfl rfl ?_
                refine kw_sub (lv' := [(6, .int z44), (3, .long z43), (5, .int x1), (0, .ref 1), (1, .long h)]) [0, 1, 2, 3, 4] rfl ?_
                exact ih16 z44 z43 (by omega) hF (by omega)
              · replace hF := kf_n (fun q => absurd (w24.symm.trans q) (by decide)) hF
                replace hF := kf_n (fun q => absurd (w24.symm.trans q) (by decide)) hF
                replace hF := kf_n (fun q => absurd (w24.symm.trans q) (by decide)) hF
                replace hF := kf_n (fun q => absurd (w24.symm.trans q) (by decide)) hF
                replace hF := kf_n (fun q => absurd (w24.symm.trans q) (by decide)) hF
                replace hF := kf_p w24 hF
                have e_w24 : x1.toNatClampNeg = 5 := by have := kw_clampI (x := x1) (by omega); omega
                refine kw_aald (pc := 56) (i := 33) (b := 34) rfl rfl (by decide) (by omega) (by rw [e_w24]; rfl) ?_
                refine kw_iload (pc := 57) (i := 34) (k := 0) (n := 6) rfl rfl ?_
                refine kw_iald (pc := 59) (i := 35) (n := 40) rfl rfl (by omega) (by omega) (fun z45 e_z45 => ?_)
                replace hF := kf_le e_z45 hF
                have t_z45 := congrArg Int32.toInt e_z45
                have r_z45 := kw_rng z45
                refine kw_i2l (pc := 60) (i := 36) rfl (fun z46 e_z46 t_z46 => ?_)
                replace hF := kf_le e_z46 hF
                refine kw_ladd (pc := 61) (i := 37) rfl (fun z47 e_z47 => ?_)
                replace hF := kf_le e_z47 hF
                refine kw_lstore_n (pc := 62) (i := 38) (n := 3) (lv' := [(3, .long z47), (6, .int x13), (5, .int x1), (0, .ref 1), (1, .long h)]) rfl rfl (by decide) rfl ?_
                refine kw_iinc' (pc := 63) (i := 39) (k := 1) (fun z => [(6, .int z), (3, .long z47), (5, .int x1), (0, .ref 1), (1, .long h)]) rfl rfl (by decide) rfl (fun _ => rfl) (fun z48 e_z48 t_z48 => ?_)
                replace hF := kf_le e_z48 hF
                refine kw_goto (pc := 66) (i := 40) (tgt := 33) rfl rfl ?_
                refine kw_sub (lv' := [(6, .int z48), (3, .long z47), (5, .int x1), (0, .ref 1), (1, .long h)]) [0, 1, 2, 3, 4] rfl ?_
                exact ih16 z48 z47 (by omega) hF (by omega)
        exact L15 _ 0 z12 (by omega) hF (Nat.lt_succ_self _)
  exact L3 _ 0 h (by omega) hF (Nat.lt_succ_self _)
noncomputable def f_X3_valueAt_2 (σ : kw_S) (k : Int32) (i : Int32) : Int32 := kf_l (f_X3_hasPlaces_2 σ k i (1 : Int32)) fun z1 => if z1.toInt = 0 then ((1000 : Int32)) else (if k.toInt = 0 then (kf_l (σ.1 35 i.toNatClampNeg) fun z2 => z2) else if k.toInt = 1 then (kf_l (σ.1 36 i.toNatClampNeg) fun z3 => z3) else if k.toInt = 2 then (kf_l (σ.1 37 i.toNatClampNeg) fun z4 => z4) else if k.toInt = 3 then (kf_l (σ.1 38 i.toNatClampNeg) fun z5 => z5) else 0)
theorem f_X3_valueAt_2_u (σ : kw_S) (k : Int32) (i : Int32) : f_X3_valueAt_2 σ k i = kf_l (f_X3_hasPlaces_2 σ k i (1 : Int32)) fun z1 => if z1.toInt = 0 then ((1000 : Int32)) else (if k.toInt = 0 then (kf_l (σ.1 35 i.toNatClampNeg) fun z2 => z2) else if k.toInt = 1 then (kf_l (σ.1 36 i.toNatClampNeg) fun z3 => z3) else if k.toInt = 2 then (kf_l (σ.1 37 i.toNatClampNeg) fun z4 => z4) else if k.toInt = 3 then (kf_l (σ.1 38 i.toNatClampNeg) fun z5 => z5) else 0) := rfl
abbrev p_X3_valueAt_2 (σ : kw_S) (k : Int32) (i : Int32) : Option Value → kw_S → Prop := fun vv σ' => σ' = σ ∧ ∃ r : Int32, vv = some (.int r) ∧ r = f_X3_valueAt_2 σ k i
set_option maxRecDepth 100000 in
set_option maxHeartbeats 4000000 in
theorem c_X3_valueAt_2 (l : Launch) (σ : kw_S) (hI : kw_I bX σ) (k : Int32) (i : Int32) : kw_Met l 3 KX mX3_valueAt [.ref 2, .int k, .int i] σ (p_X3_valueAt_2 σ k i) := by
  have r_k := kw_rng k
  have r_i := kw_rng i
  have hF := (f_X3_valueAt_2_u σ k i).symm
  have q_1 : (1 : Int32).toInt = 1 := rfl
  have q_1000 : (1000 : Int32).toInt = 1000 := rfl
  refine kw_Met.of (by decide) rfl tX3_valueAt (Nat.le_of_ble_eq_true rfl) ?_
  show kw_AW l 3 kw_E0 KX mX3_valueAt (p_X3_valueAt_2 σ k i) 0 [(0, .ref 2), (1, .int k), (2, .int i)] [] σ
  refine kw_aload_n (pc := 0) (i := 0) (k := 0) (n := 0) rfl rfl rfl ?_
  refine kw_iload_n (pc := 1) (i := 1) (k := 1) (n := 1) rfl rfl rfl ?_
  refine kw_iload_n (pc := 2) (i := 2) (k := 2) (n := 2) rfl rfl rfl ?_
  refine kw_iconst (pc := 3) (i := 3) (v := 1) rfl rfl ?_
  refine kw_callV (pc := 4) (i := 4) (Y := mX3_hasPlaces) (a := 2) (As := [.int k, .int i, .int 1]) (st := []) kw_hE rfl rfl lvX3_41 arX3_hasPlaces (c_X3_hasPlaces_2 l σ hI k i 1 ) (by decide) (Nat.le_of_ble_eq_true rfl) rfl (fun v S2 p1 => ?_)
  obtain ⟨e7, z6, rfl, f3, f4, ef5⟩ := p1
  rw [e7]
  replace hF := kf_le ef5 hF
  have r_z6 := kw_rng z6
  show kw_AW l 3 kw_E0 KX mX3_valueAt (p_X3_valueAt_2 σ k i) 7 [(0, .ref 2), (1, .int k), (2, .int i)] [.int z6] σ
  refine kw_if_eq (pc := 7) (i := 5) (tgt := 21) rfl rfl (fun c8 => ?_) (fun c8 => ?_)
  · replace hF := kf_p c8 hF
    refine kw_sipush (pc := 21) (i := 13) (v := 1000) rfl rfl ?_
    exact kw_ireturn (pc := 24) (i := 14) (ty := .int) rfl rfl rfl ⟨rfl, _, rfl, hF⟩
  · replace hF := kf_n c8 hF
    refine kw_aload_n (pc := 10) (i := 6) (k := 0) (n := 0) rfl rfl rfl ?_
    refine kw_get (pc := 11) (i := 7) (v := .ref 14) rfl rfl rfl lkX3_17 (fun _ => rfl) ?_
    refine kw_iload_n (pc := 14) (i := 8) (k := 1) (n := 1) rfl rfl rfl ?_
    have w9 : k.toInt = 0 ∨ k.toInt = 1 ∨ k.toInt = 2 ∨ k.toInt = 3 := by omega
    rcases w9 with w9 | w9 | w9 | w9
    · replace hF := kf_p w9 hF
      have e_w9 : k.toNatClampNeg = 0 := by have := kw_clampI (x := k) (by omega); omega
      refine kw_aald (pc := 15) (i := 9) (b := 35) rfl rfl (by decide) (by omega) (by rw [e_w9]; rfl) ?_
      refine kw_iload_n (pc := 16) (i := 10) (k := 2) (n := 2) rfl rfl rfl ?_
      refine kw_iald (pc := 17) (i := 11) (n := 60) rfl rfl (by omega) (by omega) (fun z10 e_z10 => ?_)
      replace hF := kf_le e_z10 hF
      have t_z10 := congrArg Int32.toInt e_z10
      have r_z10 := kw_rng z10
      refine kw_goto (pc := 18) (i := 12) (tgt := 24) rfl rfl ?_
      exact kw_ireturn (pc := 24) (i := 14) (ty := .int) rfl rfl rfl ⟨rfl, _, rfl, hF⟩
    · replace hF := kf_n (fun q => absurd (w9.symm.trans q) (by decide)) hF
      replace hF := kf_p w9 hF
      have e_w9 : k.toNatClampNeg = 1 := by have := kw_clampI (x := k) (by omega); omega
      refine kw_aald (pc := 15) (i := 9) (b := 36) rfl rfl (by decide) (by omega) (by rw [e_w9]; rfl) ?_
      refine kw_iload_n (pc := 16) (i := 10) (k := 2) (n := 2) rfl rfl rfl ?_
      refine kw_iald (pc := 17) (i := 11) (n := 60) rfl rfl (by omega) (by omega) (fun z11 e_z11 => ?_)
      replace hF := kf_le e_z11 hF
      have t_z11 := congrArg Int32.toInt e_z11
      have r_z11 := kw_rng z11
      refine kw_goto (pc := 18) (i := 12) (tgt := 24) rfl rfl ?_
      exact kw_ireturn (pc := 24) (i := 14) (ty := .int) rfl rfl rfl ⟨rfl, _, rfl, hF⟩
    · replace hF := kf_n (fun q => absurd (w9.symm.trans q) (by decide)) hF
      replace hF := kf_n (fun q => absurd (w9.symm.trans q) (by decide)) hF
      replace hF := kf_p w9 hF
      have e_w9 : k.toNatClampNeg = 2 := by have := kw_clampI (x := k) (by omega); omega
      refine kw_aald (pc := 15) (i := 9) (b := 37) rfl rfl (by decide) (by omega) (by rw [e_w9]; rfl) ?_
      refine kw_iload_n (pc := 16) (i := 10) (k := 2) (n := 2) rfl rfl rfl ?_
      refine kw_iald (pc := 17) (i := 11) (n := 60) rfl rfl (by omega) (by omega) (fun z12 e_z12 => ?_)
      replace hF := kf_le e_z12 hF
      have t_z12 := congrArg Int32.toInt e_z12
      have r_z12 := kw_rng z12
      refine kw_goto (pc := 18) (i := 12) (tgt := 24) rfl rfl ?_
      exact kw_ireturn (pc := 24) (i := 14) (ty := .int) rfl rfl rfl ⟨rfl, _, rfl, hF⟩
    · replace hF := kf_n (fun q => absurd (w9.symm.trans q) (by decide)) hF
      replace hF := kf_n (fun q => absurd (w9.symm.trans q) (by decide)) hF
      replace hF := kf_n (fun q => absurd (w9.symm.trans q) (by decide)) hF
      replace hF := kf_p w9 hF
      have e_w9 : k.toNatClampNeg = 3 := by have := kw_clampI (x := k) (by omega); omega
      refine kw_aald (pc := 15) (i := 9) (b := 38) rfl rfl (by decide) (by omega) (by rw [e_w9]; rfl) ?_
      refine kw_iload_n (pc := 16) (i := 10) (k := 2) (n := 2) rfl rfl rfl ?_
      refine kw_iald (pc := 17) (i := 11) (n := 60) rfl rfl (by omega) (by omega) (fun z13 e_z13 => ?_)
      replace hF := kf_le e_z13 hF
      have t_z13 := congrArg Int32.toInt e_z13
      have r_z13 := kw_rng z13
      refine kw_goto (pc := 18) (i := 12) (tgt := 24) rfl rfl ?_
      exact kw_ireturn (pc := 24) (i := 14) (ty := .int) rfl rfl rfl ⟨rfl, _, rfl, hF⟩
noncomputable def f_X3_change_2 (σ : kw_S) (k : Int32) (i : Int32) (v : Int32) : kw_S := kf_l (f_X3_hasPlaces_2 σ k i (1 : Int32)) fun z1 => if z1.toInt = 0 then (σ) else (if k.toInt = 0 then (kw_ui σ 35 i.toNatClampNeg v) else if k.toInt = 1 then (kw_ui σ 36 i.toNatClampNeg v) else if k.toInt = 2 then (kw_ui σ 37 i.toNatClampNeg v) else if k.toInt = 3 then (kw_ui σ 38 i.toNatClampNeg v) else σ)
theorem f_X3_change_2_u (σ : kw_S) (k : Int32) (i : Int32) (v : Int32) : f_X3_change_2 σ k i v = kf_l (f_X3_hasPlaces_2 σ k i (1 : Int32)) fun z1 => if z1.toInt = 0 then (σ) else (if k.toInt = 0 then (kw_ui σ 35 i.toNatClampNeg v) else if k.toInt = 1 then (kw_ui σ 36 i.toNatClampNeg v) else if k.toInt = 2 then (kw_ui σ 37 i.toNatClampNeg v) else if k.toInt = 3 then (kw_ui σ 38 i.toNatClampNeg v) else σ) := rfl
abbrev p_X3_change_2 (σ : kw_S) (k : Int32) (i : Int32) (v : Int32) : Option Value → kw_S → Prop := fun vv σ' => (kw_I bX σ' ∧ kw_F [35, 36, 37, 38] σ σ') ∧ vv = none ∧ σ' = f_X3_change_2 σ k i v
set_option maxRecDepth 100000 in
set_option maxHeartbeats 4000000 in
theorem c_X3_change_2 (l : Launch) (σ : kw_S) (hI : kw_I bX σ) (k : Int32) (i : Int32) (v : Int32) : kw_Met l 3 KX mX3_change [.ref 2, .int k, .int i, .int v] σ (p_X3_change_2 σ k i v) := by
  have r_k := kw_rng k
  have r_i := kw_rng i
  have r_v := kw_rng v
  have hF0 : kw_F [35, 36, 37, 38] σ σ := kw_F.rf
  have hF := (f_X3_change_2_u σ k i v).symm
  have q_1 : (1 : Int32).toInt = 1 := rfl
  refine kw_Met.of (by decide) rfl tX3_change (Nat.le_of_ble_eq_true rfl) ?_
  show kw_AW l 3 kw_E0 KX mX3_change (p_X3_change_2 σ k i v) 0 [(0, .ref 2), (1, .int k), (2, .int i), (3, .int v)] [] σ
  refine kw_aload_n (pc := 0) (i := 0) (k := 0) (n := 0) rfl rfl rfl ?_
  refine kw_iload_n (pc := 1) (i := 1) (k := 1) (n := 1) rfl rfl rfl ?_
  refine kw_iload_n (pc := 2) (i := 2) (k := 2) (n := 2) rfl rfl rfl ?_
  refine kw_iconst (pc := 3) (i := 3) (v := 1) rfl rfl ?_
  refine kw_callV (pc := 4) (i := 4) (Y := mX3_hasPlaces) (a := 2) (As := [.int k, .int i, .int 1]) (st := []) kw_hE rfl rfl lvX3_41 arX3_hasPlaces (c_X3_hasPlaces_2 l σ hI k i 1 ) (by decide) (Nat.le_of_ble_eq_true rfl) rfl (fun v S2 p1 => ?_)
  obtain ⟨e7, z6, rfl, f3, f4, ef5⟩ := p1
  rw [e7]
  replace hF := kf_le ef5 hF
  have r_z6 := kw_rng z6
  show kw_AW l 3 kw_E0 KX mX3_change (p_X3_change_2 σ k i v) 7 [(0, .ref 2), (1, .int k), (2, .int i), (3, .int v)] [.int z6] σ
  refine kw_if_eq (pc := 7) (i := 5) (tgt := 19) rfl rfl (fun c8 => ?_) (fun c8 => ?_)
  · replace hF := kf_p c8 hF
    exact kw_return (pc := 19) (i := 13) rfl rfl ⟨⟨hI, hF0⟩, rfl, hF⟩
  · replace hF := kf_n c8 hF
    refine kw_aload_n (pc := 10) (i := 6) (k := 0) (n := 0) rfl rfl rfl ?_
    refine kw_get (pc := 11) (i := 7) (v := .ref 14) rfl rfl rfl lkX3_17 (fun _ => rfl) ?_
    refine kw_iload_n (pc := 14) (i := 8) (k := 1) (n := 1) rfl rfl rfl ?_
    have w9 : k.toInt = 0 ∨ k.toInt = 1 ∨ k.toInt = 2 ∨ k.toInt = 3 := by omega
    rcases w9 with w9 | w9 | w9 | w9
    · replace hF := kf_p w9 hF
      have e_w9 : k.toNatClampNeg = 0 := by have := kw_clampI (x := k) (by omega); omega
      refine kw_aald (pc := 15) (i := 9) (b := 35) rfl rfl (by decide) (by omega) (by rw [e_w9]; rfl) ?_
      refine kw_iload_n (pc := 16) (i := 10) (k := 2) (n := 2) rfl rfl rfl ?_
      refine kw_iload_n (pc := 17) (i := 11) (k := 3) (n := 3) rfl rfl rfl ?_
      refine kw_iast (pc := 18) (i := 12) (n := 60) rfl rfl (by omega) (by omega) ?_
      have I10 : kw_I bX (kw_ui σ 35 i.toNatClampNeg v) := kw_I_ui hI (kw_rng v).1 (Int.le_of_lt_add_one (kw_rng v).2)
      have F11 : kw_F [35, 36, 37, 38] σ (kw_ui σ 35 i.toNatClampNeg v) := kw_F_ui hF0 (by decide)
      exact kw_return (pc := 19) (i := 13) rfl rfl ⟨⟨I10, F11⟩, rfl, hF⟩
    · replace hF := kf_n (fun q => absurd (w9.symm.trans q) (by decide)) hF
      replace hF := kf_p w9 hF
      have e_w9 : k.toNatClampNeg = 1 := by have := kw_clampI (x := k) (by omega); omega
      refine kw_aald (pc := 15) (i := 9) (b := 36) rfl rfl (by decide) (by omega) (by rw [e_w9]; rfl) ?_
      refine kw_iload_n (pc := 16) (i := 10) (k := 2) (n := 2) rfl rfl rfl ?_
      refine kw_iload_n (pc := 17) (i := 11) (k := 3) (n := 3) rfl rfl rfl ?_
      refine kw_iast (pc := 18) (i := 12) (n := 60) rfl rfl (by omega) (by omega) ?_
      have I12 : kw_I bX (kw_ui σ 36 i.toNatClampNeg v) := kw_I_ui hI (kw_rng v).1 (Int.le_of_lt_add_one (kw_rng v).2)
      have F13 : kw_F [35, 36, 37, 38] σ (kw_ui σ 36 i.toNatClampNeg v) := kw_F_ui hF0 (by decide)
      exact kw_return (pc := 19) (i := 13) rfl rfl ⟨⟨I12, F13⟩, rfl, hF⟩
    · replace hF := kf_n (fun q => absurd (w9.symm.trans q) (by decide)) hF
      replace hF := kf_n (fun q => absurd (w9.symm.trans q) (by decide)) hF
      replace hF := kf_p w9 hF
      have e_w9 : k.toNatClampNeg = 2 := by have := kw_clampI (x := k) (by omega); omega
      refine kw_aald (pc := 15) (i := 9) (b := 37) rfl rfl (by decide) (by omega) (by rw [e_w9]; rfl) ?_
      refine kw_iload_n (pc := 16) (i := 10) (k := 2) (n := 2) rfl rfl rfl ?_
      refine kw_iload_n (pc := 17) (i := 11) (k := 3) (n := 3) rfl rfl rfl ?_
      refine kw_iast (pc := 18) (i := 12) (n := 60) rfl rfl (by omega) (by omega) ?_
      have I14 : kw_I bX (kw_ui σ 37 i.toNatClampNeg v) := kw_I_ui hI (kw_rng v).1 (Int.le_of_lt_add_one (kw_rng v).2)
      have F15 : kw_F [35, 36, 37, 38] σ (kw_ui σ 37 i.toNatClampNeg v) := kw_F_ui hF0 (by decide)
      exact kw_return (pc := 19) (i := 13) rfl rfl ⟨⟨I14, F15⟩, rfl, hF⟩
    · replace hF := kf_n (fun q => absurd (w9.symm.trans q) (by decide)) hF
      replace hF := kf_n (fun q => absurd (w9.symm.trans q) (by decide)) hF
      replace hF := kf_n (fun q => absurd (w9.symm.trans q) (by decide)) hF
      replace hF := kf_p w9 hF
      have e_w9 : k.toNatClampNeg = 3 := by have := kw_clampI (x := k) (by omega); omega
      refine kw_aald (pc := 15) (i := 9) (b := 38) rfl rfl (by decide) (by omega) (by rw [e_w9]; rfl) ?_
      refine kw_iload_n (pc := 16) (i := 10) (k := 2) (n := 2) rfl rfl rfl ?_
      refine kw_iload_n (pc := 17) (i := 11) (k := 3) (n := 3) rfl rfl rfl ?_
      refine kw_iast (pc := 18) (i := 12) (n := 60) rfl rfl (by omega) (by omega) ?_
      have I16 : kw_I bX (kw_ui σ 38 i.toNatClampNeg v) := kw_I_ui hI (kw_rng v).1 (Int.le_of_lt_add_one (kw_rng v).2)
      have F17 : kw_F [35, 36, 37, 38] σ (kw_ui σ 38 i.toNatClampNeg v) := kw_F_ui hF0 (by decide)
      exact kw_return (pc := 19) (i := 13) rfl rfl ⟨⟨I16, F17⟩, rfl, hF⟩
noncomputable def f_X3_make_2 (σ : kw_S) (k : Int32) (n : Int32) (v : Int32) : kw_S := kf_l (f_X3_has_2 σ k) fun z1 => if z1.toInt = 0 then (σ) else (if n.toInt < 0 then (σ) else (if (σ.1 2 0).toInt < n.toInt then (σ) else (if k.toInt = 0 then (kf_l (f_J7_fill_53178_35 (kw_ui σ 15 k.toNatClampNeg n) v) fun S2 => S2) else if k.toInt = 1 then (kf_l (f_J7_fill_53178_36 (kw_ui σ 15 k.toNatClampNeg n) v) fun S3 => S3) else if k.toInt = 2 then (kf_l (f_J7_fill_53178_37 (kw_ui σ 15 k.toNatClampNeg n) v) fun S4 => S4) else if k.toInt = 3 then (kf_l (f_J7_fill_53178_38 (kw_ui σ 15 k.toNatClampNeg n) v) fun S5 => S5) else (kw_ui σ 15 k.toNatClampNeg n))))
theorem f_X3_make_2_u (σ : kw_S) (k : Int32) (n : Int32) (v : Int32) : f_X3_make_2 σ k n v = kf_l (f_X3_has_2 σ k) fun z1 => if z1.toInt = 0 then (σ) else (if n.toInt < 0 then (σ) else (if (σ.1 2 0).toInt < n.toInt then (σ) else (if k.toInt = 0 then (kf_l (f_J7_fill_53178_35 (kw_ui σ 15 k.toNatClampNeg n) v) fun S2 => S2) else if k.toInt = 1 then (kf_l (f_J7_fill_53178_36 (kw_ui σ 15 k.toNatClampNeg n) v) fun S3 => S3) else if k.toInt = 2 then (kf_l (f_J7_fill_53178_37 (kw_ui σ 15 k.toNatClampNeg n) v) fun S4 => S4) else if k.toInt = 3 then (kf_l (f_J7_fill_53178_38 (kw_ui σ 15 k.toNatClampNeg n) v) fun S5 => S5) else (kw_ui σ 15 k.toNatClampNeg n)))) := rfl
abbrev p_X3_make_2 (σ : kw_S) (k : Int32) (n : Int32) (v : Int32) : Option Value → kw_S → Prop := fun vv σ' => (kw_I bX σ' ∧ kw_F [15, 35, 36, 37, 38] σ σ') ∧ vv = none ∧ σ' = f_X3_make_2 σ k n v
set_option maxRecDepth 100000 in
set_option maxHeartbeats 4000000 in
theorem c_X3_make_2 (l : Launch) (σ : kw_S) (hI : kw_I bX σ) (k : Int32) (n : Int32) (v : Int32) : kw_Met l 2 KX mX3_make [.ref 2, .int k, .int n, .int v] σ (p_X3_make_2 σ k n v) := by
  have r_k := kw_rng k
  have r_n := kw_rng n
  have r_v := kw_rng v
  have hF0 : kw_F [15, 35, 36, 37, 38] σ σ := kw_F.rf
  have hF := (f_X3_make_2_u σ k n v).symm
  refine kw_Met.of (by decide) rfl tX3_make (Nat.le_of_ble_eq_true rfl) ?_
  show kw_AW l 2 kw_E0 KX mX3_make (p_X3_make_2 σ k n v) 0 [(0, .ref 2), (1, .int k), (2, .int n), (3, .int v)] [] σ
  refine kw_aload_n (pc := 0) (i := 0) (k := 0) (n := 0) rfl rfl rfl ?_
  refine kw_iload_n (pc := 1) (i := 1) (k := 1) (n := 1) rfl rfl rfl ?_
  refine kw_callV (pc := 2) (i := 2) (Y := mX3_has) (a := 2) (As := [.int k]) (st := []) kw_hE rfl rfl lvX3_34 arX3_has (c_X3_has_2 l σ hI k ) (by decide) (Nat.le_of_ble_eq_true rfl) rfl (fun v S2 p1 => ?_)
  obtain ⟨e8, z7, rfl, f3, f4, f5, ef6⟩ := p1
  rw [e8]
  replace hF := kf_le ef6 hF
  have r_z7 := kw_rng z7
  show kw_AW l 2 kw_E0 KX mX3_make (p_X3_make_2 σ k n v) 5 [(0, .ref 2), (1, .int k), (2, .int n), (3, .int v)] [.int z7] σ
  refine kw_if_eq (pc := 5) (i := 3) (tgt := 20) rfl rfl (fun c9 => ?_) (fun c9 => ?_)
  · replace hF := kf_p c9 hF
    exact kw_return (pc := 20) (i := 10) rfl rfl ⟨⟨hI, hF0⟩, rfl, hF⟩
  · replace hF := kf_n c9 hF
    refine kw_iload_n (pc := 8) (i := 4) (k := 2) (n := 2) rfl rfl rfl ?_
    refine kw_if_lt (pc := 9) (i := 5) (tgt := 20) rfl rfl (fun c10 => ?_) (fun c10 => ?_)
    · replace hF := kf_p c10 hF
      exact kw_return (pc := 20) (i := 10) rfl rfl ⟨⟨hI, hF0⟩, rfl, hF⟩
    · replace hF := kf_nl c10 hF
      refine kw_iload_n (pc := 12) (i := 6) (k := 2) (n := 2) rfl rfl rfl ?_
      refine kw_aload_n (pc := 13) (i := 7) (k := 0) (n := 0) rfl rfl rfl ?_
      refine kw_get (pc := 14) (i := 8) (v := .int (σ.1 2 0)) rfl rfl rfl lkX3_9 (fun _ => rfl) ?_
      have b11 : 60 ≤ (σ.1 2 0).toInt ∧ (σ.1 2 0).toInt ≤ 60 := hI 2 0
      refine kw_icmp_le (pc := 17) (i := 9) (tgt := 21) rfl rfl (fun c12 => ?_) (fun c12 => ?_)
      · replace hF := kf_nl c12 hF
        refine kw_aload_n (pc := 21) (i := 11) (k := 0) (n := 0) rfl rfl rfl ?_
        refine kw_get (pc := 22) (i := 12) (v := .ref 15) rfl rfl rfl lkX3_20 (fun _ => rfl) ?_
        refine kw_iload_n (pc := 25) (i := 13) (k := 1) (n := 1) rfl rfl rfl ?_
        refine kw_iload_n (pc := 26) (i := 14) (k := 2) (n := 2) rfl rfl rfl ?_
        refine kw_iast (pc := 27) (i := 15) (n := 4) rfl rfl (by omega) (by omega) ?_
        have I13 : kw_I bX (kw_ui σ 15 k.toNatClampNeg n) := kw_I_ui hI (show -1 ≤ n.toInt by omega) (show n.toInt ≤ 60 by omega)
        have F14 : kw_F [15, 35, 36, 37, 38] σ (kw_ui σ 15 k.toNatClampNeg n) := kw_F_ui hF0 (by decide)
        refine kw_aload_n (pc := 28) (i := 16) (k := 0) (n := 0) rfl rfl rfl ?_
        refine kw_get (pc := 29) (i := 17) (v := .ref 14) rfl rfl rfl lkX3_17 (fun _ => rfl) ?_
        refine kw_iload_n (pc := 32) (i := 18) (k := 1) (n := 1) rfl rfl rfl ?_
        have w15 : k.toInt = 0 ∨ k.toInt = 1 ∨ k.toInt = 2 ∨ k.toInt = 3 := by omega
        rcases w15 with w15 | w15 | w15 | w15
        · replace hF := kf_p w15 hF
          have e_w15 : k.toNatClampNeg = 0 := by have := kw_clampI (x := k) (by omega); omega
          refine kw_aald (pc := 33) (i := 19) (b := 35) rfl rfl (by decide) (by omega) (by rw [e_w15]; rfl) ?_
          refine kw_iload_n (pc := 34) (i := 20) (k := 3) (n := 3) rfl rfl rfl ?_
          refine kw_callS (pc := 35) (i := 21) (Y := mJ7_fill_53178) (As := [.ref 35, .int v]) (st := []) kw_hE rfl lsX3_24 arJ7_fill_53178 (c_J7_fill_53178_35 l (kw_ui σ 15 k.toNatClampNeg n) I13 v ) (by decide) (Nat.le_of_ble_eq_true rfl) rfl (fun v S17 p16 => ?_)
          obtain ⟨⟨I19, F20⟩, rfl, ef18⟩ := p16
          have F21 : kw_F [15, 35, 36, 37, 38] σ S17 := kw_F.tr F14 F20 (by decide)
          replace hF := kf_le ef18 hF
          show kw_AW l 2 kw_E0 KX mX3_make (p_X3_make_2 σ k n v) 38 [(0, .ref 2), (1, .int k), (2, .int n), (3, .int v)] [] S17
          exact kw_return (pc := 38) (i := 22) rfl rfl ⟨⟨I19, F21⟩, rfl, hF⟩
        · replace hF := kf_n (fun q => absurd (w15.symm.trans q) (by decide)) hF
          replace hF := kf_p w15 hF
          have e_w15 : k.toNatClampNeg = 1 := by have := kw_clampI (x := k) (by omega); omega
          refine kw_aald (pc := 33) (i := 19) (b := 36) rfl rfl (by decide) (by omega) (by rw [e_w15]; rfl) ?_
          refine kw_iload_n (pc := 34) (i := 20) (k := 3) (n := 3) rfl rfl rfl ?_
          refine kw_callS (pc := 35) (i := 21) (Y := mJ7_fill_53178) (As := [.ref 36, .int v]) (st := []) kw_hE rfl lsX3_24 arJ7_fill_53178 (c_J7_fill_53178_36 l (kw_ui σ 15 k.toNatClampNeg n) I13 v ) (by decide) (Nat.le_of_ble_eq_true rfl) rfl (fun v S23 p22 => ?_)
          obtain ⟨⟨I25, F26⟩, rfl, ef24⟩ := p22
          have F27 : kw_F [15, 35, 36, 37, 38] σ S23 := kw_F.tr F14 F26 (by decide)
          replace hF := kf_le ef24 hF
          show kw_AW l 2 kw_E0 KX mX3_make (p_X3_make_2 σ k n v) 38 [(0, .ref 2), (1, .int k), (2, .int n), (3, .int v)] [] S23
          exact kw_return (pc := 38) (i := 22) rfl rfl ⟨⟨I25, F27⟩, rfl, hF⟩
        · replace hF := kf_n (fun q => absurd (w15.symm.trans q) (by decide)) hF
          replace hF := kf_n (fun q => absurd (w15.symm.trans q) (by decide)) hF
          replace hF := kf_p w15 hF
          have e_w15 : k.toNatClampNeg = 2 := by have := kw_clampI (x := k) (by omega); omega
          refine kw_aald (pc := 33) (i := 19) (b := 37) rfl rfl (by decide) (by omega) (by rw [e_w15]; rfl) ?_
          refine kw_iload_n (pc := 34) (i := 20) (k := 3) (n := 3) rfl rfl rfl ?_
          refine kw_callS (pc := 35) (i := 21) (Y := mJ7_fill_53178) (As := [.ref 37, .int v]) (st := []) kw_hE rfl lsX3_24 arJ7_fill_53178 (c_J7_fill_53178_37 l (kw_ui σ 15 k.toNatClampNeg n) I13 v ) (by decide) (Nat.le_of_ble_eq_true rfl) rfl (fun v S29 p28 => ?_)
          obtain ⟨⟨I31, F32⟩, rfl, ef30⟩ := p28
          have F33 : kw_F [15, 35, 36, 37, 38] σ S29 := kw_F.tr F14 F32 (by decide)
          replace hF := kf_le ef30 hF
          show kw_AW l 2 kw_E0 KX mX3_make (p_X3_make_2 σ k n v) 38 [(0, .ref 2), (1, .int k), (2, .int n), (3, .int v)] [] S29
          exact kw_return (pc := 38) (i := 22) rfl rfl ⟨⟨I31, F33⟩, rfl, hF⟩
        · replace hF := kf_n (fun q => absurd (w15.symm.trans q) (by decide)) hF
          replace hF := kf_n (fun q => absurd (w15.symm.trans q) (by decide)) hF
          replace hF := kf_n (fun q => absurd (w15.symm.trans q) (by decide)) hF
          replace hF := kf_p w15 hF
          have e_w15 : k.toNatClampNeg = 3 := by have := kw_clampI (x := k) (by omega); omega
          refine kw_aald (pc := 33) (i := 19) (b := 38) rfl rfl (by decide) (by omega) (by rw [e_w15]; rfl) ?_
          refine kw_iload_n (pc := 34) (i := 20) (k := 3) (n := 3) rfl rfl rfl ?_
          refine kw_callS (pc := 35) (i := 21) (Y := mJ7_fill_53178) (As := [.ref 38, .int v]) (st := []) kw_hE rfl lsX3_24 arJ7_fill_53178 (c_J7_fill_53178_38 l (kw_ui σ 15 k.toNatClampNeg n) I13 v ) (by decide) (Nat.le_of_ble_eq_true rfl) rfl (fun v S35 p34 => ?_)
          obtain ⟨⟨I37, F38⟩, rfl, ef36⟩ := p34
          have F39 : kw_F [15, 35, 36, 37, 38] σ S35 := kw_F.tr F14 F38 (by decide)
          replace hF := kf_le ef36 hF
          show kw_AW l 2 kw_E0 KX mX3_make (p_X3_make_2 σ k n v) 38 [(0, .ref 2), (1, .int k), (2, .int n), (3, .int v)] [] S35
          exact kw_return (pc := 38) (i := 22) rfl rfl ⟨⟨I37, F39⟩, rfl, hF⟩
      · replace hF := kf_p c12 hF
        exact kw_return (pc := 20) (i := 10) rfl rfl ⟨⟨hI, hF0⟩, rfl, hF⟩
noncomputable def f_X3_drop_2 (σ : kw_S) (k : Int32) : kw_S := kf_l (f_X3_has_2 σ k) fun z1 => if z1.toInt = 0 then (σ) else (kw_ui σ 15 k.toNatClampNeg (-1))
theorem f_X3_drop_2_u (σ : kw_S) (k : Int32) : f_X3_drop_2 σ k = kf_l (f_X3_has_2 σ k) fun z1 => if z1.toInt = 0 then (σ) else (kw_ui σ 15 k.toNatClampNeg (-1)) := rfl
abbrev p_X3_drop_2 (σ : kw_S) (k : Int32) : Option Value → kw_S → Prop := fun vv σ' => (kw_I bX σ' ∧ kw_F [15] σ σ') ∧ vv = none ∧ σ' = f_X3_drop_2 σ k
set_option maxRecDepth 100000 in
set_option maxHeartbeats 4000000 in
theorem c_X3_drop_2 (l : Launch) (σ : kw_S) (hI : kw_I bX σ) (k : Int32) : kw_Met l 2 KX mX3_drop [.ref 2, .int k] σ (p_X3_drop_2 σ k) := by
  have r_k := kw_rng k
  have hF0 : kw_F [15] σ σ := kw_F.rf
  have hF := (f_X3_drop_2_u σ k).symm
  have q_m1 : (-1 : Int32).toInt = -1 := rfl
  refine kw_Met.of (by decide) rfl tX3_drop (Nat.le_of_ble_eq_true rfl) ?_
  show kw_AW l 2 kw_E0 KX mX3_drop (p_X3_drop_2 σ k) 0 [(0, .ref 2), (1, .int k)] [] σ
  refine kw_aload_n (pc := 0) (i := 0) (k := 0) (n := 0) rfl rfl rfl ?_
  refine kw_iload_n (pc := 1) (i := 1) (k := 1) (n := 1) rfl rfl rfl ?_
  refine kw_callV (pc := 2) (i := 2) (Y := mX3_has) (a := 2) (As := [.int k]) (st := []) kw_hE rfl rfl lvX3_34 arX3_has (c_X3_has_2 l σ hI k ) (by decide) (Nat.le_of_ble_eq_true rfl) rfl (fun v S2 p1 => ?_)
  obtain ⟨e8, z7, rfl, f3, f4, f5, ef6⟩ := p1
  rw [e8]
  replace hF := kf_le ef6 hF
  have r_z7 := kw_rng z7
  show kw_AW l 2 kw_E0 KX mX3_drop (p_X3_drop_2 σ k) 5 [(0, .ref 2), (1, .int k)] [.int z7] σ
  refine kw_if_eq (pc := 5) (i := 3) (tgt := 15) rfl rfl (fun c9 => ?_) (fun c9 => ?_)
  · replace hF := kf_p c9 hF
    exact kw_return (pc := 15) (i := 9) rfl rfl ⟨⟨hI, hF0⟩, rfl, hF⟩
  · replace hF := kf_n c9 hF
    refine kw_aload_n (pc := 8) (i := 4) (k := 0) (n := 0) rfl rfl rfl ?_
    refine kw_get (pc := 9) (i := 5) (v := .ref 15) rfl rfl rfl lkX3_20 (fun _ => rfl) ?_
    refine kw_iload_n (pc := 12) (i := 6) (k := 1) (n := 1) rfl rfl rfl ?_
    refine kw_iconst (pc := 13) (i := 7) (v := (-1)) rfl rfl ?_
    refine kw_iast (pc := 14) (i := 8) (n := 4) rfl rfl (by omega) (by omega) ?_
    have I10 : kw_I bX (kw_ui σ 15 k.toNatClampNeg (-1)) := kw_I_ui hI (show -1 ≤ ((-1) : Int32).toInt by omega) (show ((-1) : Int32).toInt ≤ 60 by omega)
    have F11 : kw_F [15] σ (kw_ui σ 15 k.toNatClampNeg (-1)) := kw_F_ui hF0 (by decide)
    exact kw_return (pc := 15) (i := 9) rfl rfl ⟨⟨I10, F11⟩, rfl, hF⟩
noncomputable def f_X3_findingAt_2 (σ : kw_S) (k : Int32) (i : Int32) : Int32 := kf_l (f_X3_isMissing_2 σ k) fun z1 => if z1.toInt = 0 then (kf_l (f_X3_hasPlaces_2 σ k i (1 : Int32)) fun z2 => if z2.toInt = 0 then ((2 : Int32)) else ((0 : Int32))) else ((1 : Int32))
theorem f_X3_findingAt_2_u (σ : kw_S) (k : Int32) (i : Int32) : f_X3_findingAt_2 σ k i = kf_l (f_X3_isMissing_2 σ k) fun z1 => if z1.toInt = 0 then (kf_l (f_X3_hasPlaces_2 σ k i (1 : Int32)) fun z2 => if z2.toInt = 0 then ((2 : Int32)) else ((0 : Int32))) else ((1 : Int32)) := rfl
abbrev p_X3_findingAt_2 (σ : kw_S) (k : Int32) (i : Int32) : Option Value → kw_S → Prop := fun vv σ' => σ' = σ ∧ ∃ r : Int32, vv = some (.int r) ∧ r = f_X3_findingAt_2 σ k i
set_option maxRecDepth 100000 in
set_option maxHeartbeats 4000000 in
theorem c_X3_findingAt_2 (l : Launch) (σ : kw_S) (hI : kw_I bX σ) (k : Int32) (i : Int32) : kw_Met l 4 KX mX3_findingAt [.ref 2, .int k, .int i] σ (p_X3_findingAt_2 σ k i) := by
  have r_k := kw_rng k
  have r_i := kw_rng i
  have hF := (f_X3_findingAt_2_u σ k i).symm
  have q_0 : (0 : Int32).toInt = 0 := rfl
  have q_1 : (1 : Int32).toInt = 1 := rfl
  have q_2 : (2 : Int32).toInt = 2 := rfl
  refine kw_Met.of (by decide) rfl tX3_findingAt (Nat.le_of_ble_eq_true rfl) ?_
  show kw_AW l 4 kw_E0 KX mX3_findingAt (p_X3_findingAt_2 σ k i) 0 [(0, .ref 2), (1, .int k), (2, .int i)] [] σ
  refine kw_aload_n (pc := 0) (i := 0) (k := 0) (n := 0) rfl rfl rfl ?_
  refine kw_iload_n (pc := 1) (i := 1) (k := 1) (n := 1) rfl rfl rfl ?_
  refine kw_callV (pc := 2) (i := 2) (Y := mX3_isMissing) (a := 2) (As := [.int k]) (st := []) kw_hE rfl rfl lvX3_38 arX3_isMissing (c_X3_isMissing_2 l σ hI k ) (by decide) (Nat.le_of_ble_eq_true rfl) rfl (fun v S2 p1 => ?_)
  obtain ⟨e7, z6, rfl, f3, f4, ef5⟩ := p1
  rw [e7]
  replace hF := kf_le ef5 hF
  have r_z6 := kw_rng z6
  show kw_AW l 4 kw_E0 KX mX3_findingAt (p_X3_findingAt_2 σ k i) 5 [(0, .ref 2), (1, .int k), (2, .int i)] [.int z6] σ
  refine kw_if_eq (pc := 5) (i := 3) (tgt := 10) rfl rfl (fun c8 => ?_) (fun c8 => ?_)
  · replace hF := kf_p c8 hF
    refine kw_aload_n (pc := 10) (i := 6) (k := 0) (n := 0) rfl rfl rfl ?_
    refine kw_iload_n (pc := 11) (i := 7) (k := 1) (n := 1) rfl rfl rfl ?_
    refine kw_iload_n (pc := 12) (i := 8) (k := 2) (n := 2) rfl rfl rfl ?_
    refine kw_iconst (pc := 13) (i := 9) (v := 1) rfl rfl ?_
    refine kw_callV (pc := 14) (i := 10) (Y := mX3_hasPlaces) (a := 2) (As := [.int k, .int i, .int 1]) (st := []) kw_hE rfl rfl lvX3_41 arX3_hasPlaces (c_X3_hasPlaces_2 l σ hI k i 1 ) (by decide) (Nat.le_of_ble_eq_true rfl) rfl (fun v S10 p9 => ?_)
    obtain ⟨e15, z14, rfl, f11, f12, ef13⟩ := p9
    rw [e15]
    replace hF := kf_le ef13 hF
    have r_z14 := kw_rng z14
    show kw_AW l 4 kw_E0 KX mX3_findingAt (p_X3_findingAt_2 σ k i) 17 [(0, .ref 2), (1, .int k), (2, .int i)] [.int z14] σ
    refine kw_if_eq (pc := 17) (i := 11) (tgt := 24) rfl rfl (fun c16 => ?_) (fun c16 => ?_)
    · replace hF := kf_p c16 hF
      refine kw_iconst (pc := 24) (i := 14) (v := 2) rfl rfl ?_
      exact kw_ireturn (pc := 25) (i := 15) (ty := .int) rfl rfl rfl ⟨rfl, _, rfl, hF⟩
    · replace hF := kf_n c16 hF
      refine kw_iconst (pc := 20) (i := 12) (v := 0) rfl rfl ?_
      refine kw_goto (pc := 21) (i := 13) (tgt := 25) rfl rfl ?_
      exact kw_ireturn (pc := 25) (i := 15) (ty := .int) rfl rfl rfl ⟨rfl, _, rfl, hF⟩
  · replace hF := kf_n c8 hF
    refine kw_iconst (pc := 8) (i := 4) (v := 1) rfl rfl ?_
    exact kw_ireturn (pc := 9) (i := 5) (ty := .int) rfl rfl rfl ⟨rfl, _, rfl, hF⟩
noncomputable def l_X3_fold_2_33 (k5 : Int64 → Int32 → Int64) (a1 : Int64) (a5 : Int32) (S : kw_S) : Nat → Int64 → Int32 → Int64
  | 0, _, _ => 0
  | n + 1, x3, x6 => kf_l (S.1 15 a5.toNatClampNeg) fun z5 => if x6.toInt < z5.toInt then (kf_l ((31 : Int64) * x3) fun z7 => if a5.toInt = 0 then (kf_l (S.1 35 x6.toNatClampNeg) fun z8 => kf_l z8.toInt64 fun z9 => kf_l (z7 + z9) fun z10 => kf_l (x6 + Int32.ofInt 1) fun z11 => l_X3_fold_2_33 k5 a1 a5 S n z10 z11) else if a5.toInt = 1 then (kf_l (S.1 36 x6.toNatClampNeg) fun z12 => kf_l z12.toInt64 fun z13 => kf_l (z7 + z13) fun z14 => kf_l (x6 + Int32.ofInt 1) fun z15 => l_X3_fold_2_33 k5 a1 a5 S n z14 z15) else if a5.toInt = 2 then (kf_l (S.1 37 x6.toNatClampNeg) fun z16 => kf_l z16.toInt64 fun z17 => kf_l (z7 + z17) fun z18 => kf_l (x6 + Int32.ofInt 1) fun z19 => l_X3_fold_2_33 k5 a1 a5 S n z18 z19) else if a5.toInt = 3 then (kf_l (S.1 38 x6.toNatClampNeg) fun z20 => kf_l z20.toInt64 fun z21 => kf_l (z7 + z21) fun z22 => kf_l (x6 + Int32.ofInt 1) fun z23 => l_X3_fold_2_33 k5 a1 a5 S n z22 z23) else 0) else (kf_l (a5 + Int32.ofInt 1) fun z6 => k5 x3 z6)
theorem l_X3_fold_2_33_s (k5 : Int64 → Int32 → Int64) (a1 : Int64) (a5 : Int32) (S : kw_S) (n : Nat) (x3 : Int64) (x6 : Int32) : l_X3_fold_2_33 k5 a1 a5 S (n + 1) x3 x6 = kf_l (S.1 15 a5.toNatClampNeg) fun z5 => if x6.toInt < z5.toInt then (kf_l ((31 : Int64) * x3) fun z7 => if a5.toInt = 0 then (kf_l (S.1 35 x6.toNatClampNeg) fun z8 => kf_l z8.toInt64 fun z9 => kf_l (z7 + z9) fun z10 => kf_l (x6 + Int32.ofInt 1) fun z11 => l_X3_fold_2_33 k5 a1 a5 S n z10 z11) else if a5.toInt = 1 then (kf_l (S.1 36 x6.toNatClampNeg) fun z12 => kf_l z12.toInt64 fun z13 => kf_l (z7 + z13) fun z14 => kf_l (x6 + Int32.ofInt 1) fun z15 => l_X3_fold_2_33 k5 a1 a5 S n z14 z15) else if a5.toInt = 2 then (kf_l (S.1 37 x6.toNatClampNeg) fun z16 => kf_l z16.toInt64 fun z17 => kf_l (z7 + z17) fun z18 => kf_l (x6 + Int32.ofInt 1) fun z19 => l_X3_fold_2_33 k5 a1 a5 S n z18 z19) else if a5.toInt = 3 then (kf_l (S.1 38 x6.toNatClampNeg) fun z20 => kf_l z20.toInt64 fun z21 => kf_l (z7 + z21) fun z22 => kf_l (x6 + Int32.ofInt 1) fun z23 => l_X3_fold_2_33 k5 a1 a5 S n z22 z23) else 0) else (kf_l (a5 + Int32.ofInt 1) fun z6 => k5 x3 z6) := rfl
noncomputable def l_X3_fold_2_5 (a1 : Int64) (S : kw_S) : Nat → Int64 → Int32 → Int64
  | 0, _, _ => 0
  | n + 1, x3, x5 => if x5.toInt < (4 : Int32).toInt then (kf_l ((31 : Int64) * x3) fun z1 => kf_l (S.1 15 x5.toNatClampNeg) fun z2 => kf_l z2.toInt64 fun z3 => kf_l (z1 + z3) fun z4 => l_X3_fold_2_33 (l_X3_fold_2_5 a1 S n) a1 x5 S ((61 - (0 : Int32).toInt).toNat + 1) z4 (0 : Int32)) else (x3)
theorem l_X3_fold_2_5_s (a1 : Int64) (S : kw_S) (n : Nat) (x3 : Int64) (x5 : Int32) : l_X3_fold_2_5 a1 S (n + 1) x3 x5 = if x5.toInt < (4 : Int32).toInt then (kf_l ((31 : Int64) * x3) fun z1 => kf_l (S.1 15 x5.toNatClampNeg) fun z2 => kf_l z2.toInt64 fun z3 => kf_l (z1 + z3) fun z4 => l_X3_fold_2_33 (l_X3_fold_2_5 a1 S n) a1 x5 S ((61 - (0 : Int32).toInt).toNat + 1) z4 (0 : Int32)) else (x3) := rfl
noncomputable def f_X3_fold_2 (σ : kw_S) (h : Int64) : Int64 := l_X3_fold_2_5 h σ ((10 - (0 : Int32).toInt).toNat + 1) h (0 : Int32)
theorem f_X3_fold_2_u (σ : kw_S) (h : Int64) : f_X3_fold_2 σ h = l_X3_fold_2_5 h σ ((10 - (0 : Int32).toInt).toNat + 1) h (0 : Int32) := rfl
abbrev p_X3_fold_2 (σ : kw_S) (h : Int64) : Option Value → kw_S → Prop := fun vv σ' => σ' = σ ∧ ∃ r : Int64, vv = some (.long r) ∧ r = f_X3_fold_2 σ h
set_option maxRecDepth 100000 in
set_option maxHeartbeats 4000000 in
theorem c_X3_fold_2 (l : Launch) (σ : kw_S) (hI : kw_I bX σ) (h : Int64) : kw_Met l 1 KX mX3_fold [.ref 2, .long h] σ (p_X3_fold_2 σ h) := by
  have hF := (f_X3_fold_2_u σ h).symm
  have q_0 : (0 : Int32).toInt = 0 := rfl
  have q_4 : (4 : Int32).toInt = 4 := rfl
  refine kw_Met.of (by decide) rfl tX3_fold (Nat.le_of_ble_eq_true rfl) ?_
  show kw_AW l 1 kw_E0 KX mX3_fold (p_X3_fold_2 σ h) 0 [(0, .ref 2), (1, .long h)] [] σ
  refine kw_lload_n (pc := 0) (i := 0) (k := 1) (n := 1) rfl rfl rfl ?_
  refine kw_lstore_n (pc := 1) (i := 1) (n := 3) (lv' := [(3, .long h), (0, .ref 2), (1, .long h)]) rfl rfl (by decide) rfl ?_
  refine kw_iconst (pc := 2) (i := 2) (v := 0) rfl rfl ?_
  refine kw_istore (pc := 3) (i := 3) (n := 5) (lv' := [(5, .int 0), (3, .long h), (0, .ref 2), (1, .long h)]) rfl (by decide) rfl ?_
  have L3 : ∀ (n7 : Nat) (x1 : Int32) (x2 : Int64), 0 ≤ x1.toInt → l_X3_fold_2_5 h σ n7 x2 x1 = (f_X3_fold_2 σ h) → (10 - x1.toInt).toNat < n7 → kw_AW l 1 kw_E0 KX mX3_fold (p_X3_fold_2 σ h) 5 [(5, .int x1), (3, .long x2), (0, .ref 2), (1, .long h)] [] σ := by
    intro n7
    induction n7 with
    | zero => intro x1 x2 v5 hF m6; exact absurd m6 (Nat.not_lt_zero _)
    | succ n7 ih4 =>
      intro x1 x2 v5 hF m6
      replace hF := kf_st (l_X3_fold_2_5_s _ _ _ _ _) hF
      have r_x1 := kw_rng x1
      refine kw_iload (pc := 5) (i := 4) (k := 0) (n := 5) rfl rfl ?_
      refine kw_aload_n (pc := 7) (i := 5) (k := 2) (n := 0) rfl rfl rfl ?_
      refine kw_get (pc := 8) (i := 6) (v := .ref 15) rfl rfl rfl lkX3_20 (fun _ => rfl) ?_
      refine kw_alen (pc := 11) (i := 7) (n := 4) (v := 4) rfl rfl rfl ?_
      refine kw_icmp_ge (pc := 12) (i := 8) (tgt := 75) rfl rfl (fun c8 => ?_) (fun c8 => ?_)
      · replace hF := kf_nl c8 hF
        refine kw_lload_n (pc := 75) (i := 43) (k := 1) (n := 3) rfl rfl rfl ?_
        exact kw_lreturn (pc := 76) (i := 44) rfl rfl ⟨rfl, _, rfl, hF⟩
      · replace hF := kf_p c8 hF
        refine kw_ldc2 (pc := 15) (i := 9) (v := 31) rfl ckX3_51 ?_
        refine kw_lload_n (pc := 18) (i := 10) (k := 1) (n := 3) rfl rfl rfl ?_
        refine kw_lmul (pc := 19) (i := 11) rfl (fun z9 e_z9 => ?_)
        replace hF := kf_le e_z9 hF
        refine kw_aload_n (pc := 20) (i := 12) (k := 2) (n := 0) rfl rfl rfl ?_
        refine kw_get (pc := 21) (i := 13) (v := .ref 15) rfl rfl rfl lkX3_20 (fun _ => rfl) ?_
        refine kw_iload (pc := 24) (i := 14) (k := 0) (n := 5) rfl rfl ?_
        refine kw_iald (pc := 26) (i := 15) (n := 4) rfl rfl (by omega) (by omega) (fun z10 e_z10 => ?_)
        replace hF := kf_le e_z10 hF
        have t_z10 := congrArg Int32.toInt e_z10
        have b_z10 : -1 ≤ z10.toInt ∧ z10.toInt ≤ 60 := by rw [e_z10]; exact hI 15 _
        refine kw_i2l (pc := 27) (i := 16) rfl (fun z11 e_z11 t_z11 => ?_)
        replace hF := kf_le e_z11 hF
        refine kw_ladd (pc := 28) (i := 17) rfl (fun z12 e_z12 => ?_)
        replace hF := kf_le e_z12 hF
        refine kw_lstore_n (pc := 29) (i := 18) (n := 3) (lv' := [(3, .long z12), (5, .int x1), (0, .ref 2), (1, .long h)]) rfl rfl (by decide) rfl ?_
        refine kw_iconst (pc := 30) (i := 19) (v := 0) rfl rfl ?_
        refine kw_istore (pc := 31) (i := 20) (n := 6) (lv' := [(6, .int 0), (3, .long z12), (5, .int x1), (0, .ref 2), (1, .long h)]) rfl (by decide) rfl ?_
        have L15 : ∀ (n19 : Nat) (x13 : Int32) (x14 : Int64), 0 ≤ x13.toInt → l_X3_fold_2_33 (l_X3_fold_2_5 h σ n7) h x1 σ n19 x14 x13 = (f_X3_fold_2 σ h) → (61 - x13.toInt).toNat < n19 → kw_AW l 1 kw_E0 KX mX3_fold (p_X3_fold_2 σ h) 33 [(6, .int x13), (3, .long x14), (5, .int x1), (0, .ref 2), (1, .long h)] [] σ := by
          intro n19
          induction n19 with
          | zero => intro x13 x14 v17 hF m18; exact absurd m18 (Nat.not_lt_zero _)
          | succ n19 ih16 =>
            intro x13 x14 v17 hF m18
            replace hF := kf_st (l_X3_fold_2_33_s _ _ _ _ _ _ _) hF
            have r_x13 := kw_rng x13
            refine kw_iload (pc := 33) (i := 21) (k := 0) (n := 6) rfl rfl ?_
            refine kw_aload_n (pc := 35) (i := 22) (k := 3) (n := 0) rfl rfl rfl ?_
            refine kw_get (pc := 36) (i := 23) (v := .ref 15) rfl rfl rfl lkX3_20 (fun _ => rfl) ?_
            refine kw_iload (pc := 39) (i := 24) (k := 2) (n := 5) rfl rfl ?_
            refine kw_iald (pc := 41) (i := 25) (n := 4) rfl rfl (by omega) (by omega) (fun z20 e_z20 => ?_)
            replace hF := kf_le e_z20 hF
            have t_z20 := congrArg Int32.toInt e_z20
            have b_z20 : -1 ≤ z20.toInt ∧ z20.toInt ≤ 60 := by rw [e_z20]; exact hI 15 _
            refine kw_icmp_ge (pc := 42) (i := 26) (tgt := 69) rfl rfl (fun c21 => ?_) (fun c21 => ?_)
            · replace hF := kf_nl c21 hF
              refine kw_iinc' (pc := 69) (i := 41) (k := 2) (fun z => [(5, .int z), (6, .int x13), (3, .long x14), (0, .ref 2), (1, .long h)]) rfl rfl (by decide) rfl (fun _ => rfl) (fun z22 e_z22 t_z22 => ?_)
              replace hF := kf_le e_z22 hF
              refine kw_goto (pc := 72) (i := 42) (tgt := 5) rfl rfl ?_
              refine kw_sub (lv' := [(5, .int z22), (3, .long x14), (0, .ref 2), (1, .long h)]) [0, 2, 3, 4] rfl ?_
              exact ih4 z22 x14 (by omega) hF (by omega)
            · replace hF := kf_p c21 hF
              refine kw_ldc2 (pc := 45) (i := 27) (v := 31) rfl ckX3_51 ?_
              refine kw_lload_n (pc := 48) (i := 28) (k := 1) (n := 3) rfl rfl rfl ?_
              refine kw_lmul (pc := 49) (i := 29) rfl (fun z23 e_z23 => ?_)
              replace hF := kf_le e_z23 hF
              refine kw_aload_n (pc := 50) (i := 30) (k := 3) (n := 0) rfl rfl rfl ?_
              refine kw_get (pc := 51) (i := 31) (v := .ref 14) rfl rfl rfl lkX3_17 (fun _ => rfl) ?_
              refine kw_iload (pc := 54) (i := 32) (k := 2) (n := 5) rfl rfl ?_
              have w24 : x1.toInt = 0 ∨ x1.toInt = 1 ∨ x1.toInt = 2 ∨ x1.toInt = 3 := by omega
              rcases w24 with w24 | w24 | w24 | w24
              · replace hF := kf_p w24 hF
                have e_w24 : x1.toNatClampNeg = 0 := by have := kw_clampI (x := x1) (by omega); omega
                refine kw_aald (pc := 56) (i := 33) (b := 35) rfl rfl (by decide) (by omega) (by rw [e_w24]; rfl) ?_
                refine kw_iload (pc := 57) (i := 34) (k := 0) (n := 6) rfl rfl ?_
                refine kw_iald (pc := 59) (i := 35) (n := 60) rfl rfl (by omega) (by omega) (fun z25 e_z25 => ?_)
                replace hF := kf_le e_z25 hF
                have t_z25 := congrArg Int32.toInt e_z25
                have r_z25 := kw_rng z25
                refine kw_i2l (pc := 60) (i := 36) rfl (fun z26 e_z26 t_z26 => ?_)
                replace hF := kf_le e_z26 hF
                refine kw_ladd (pc := 61) (i := 37) rfl (fun z27 e_z27 => ?_)
                replace hF := kf_le e_z27 hF
                refine kw_lstore_n (pc := 62) (i := 38) (n := 3) (lv' := [(3, .long z27), (6, .int x13), (5, .int x1), (0, .ref 2), (1, .long h)]) rfl rfl (by decide) rfl ?_
                refine kw_iinc' (pc := 63) (i := 39) (k := 1) (fun z => [(6, .int z), (3, .long z27), (5, .int x1), (0, .ref 2), (1, .long h)]) rfl rfl (by decide) rfl (fun _ => rfl) (fun z28 e_z28 t_z28 => ?_)
                replace hF := kf_le e_z28 hF
                refine kw_goto (pc := 66) (i := 40) (tgt := 33) rfl rfl ?_
                refine kw_sub (lv' := [(6, .int z28), (3, .long z27), (5, .int x1), (0, .ref 2), (1, .long h)]) [0, 1, 2, 3, 4] rfl ?_
                exact ih16 z28 z27 (by omega) hF (by omega)
              · replace hF := kf_n (fun q => absurd (w24.symm.trans q) (by decide)) hF
                replace hF := kf_p w24 hF
                have e_w24 : x1.toNatClampNeg = 1 := by have := kw_clampI (x := x1) (by omega); omega
                refine kw_aald (pc := 56) (i := 33) (b := 36) rfl rfl (by decide) (by omega) (by rw [e_w24]; rfl) ?_
                refine kw_iload (pc := 57) (i := 34) (k := 0) (n := 6) rfl rfl ?_
                refine kw_iald (pc := 59) (i := 35) (n := 60) rfl rfl (by omega) (by omega) (fun z29 e_z29 => ?_)
                replace hF := kf_le e_z29 hF
                have t_z29 := congrArg Int32.toInt e_z29
                have r_z29 := kw_rng z29
                refine kw_i2l (pc := 60) (i := 36) rfl (fun z30 e_z30 t_z30 => ?_)
                replace hF := kf_le e_z30 hF
                refine kw_ladd (pc := 61) (i := 37) rfl (fun z31 e_z31 => ?_)
                replace hF := kf_le e_z31 hF
                refine kw_lstore_n (pc := 62) (i := 38) (n := 3) (lv' := [(3, .long z31), (6, .int x13), (5, .int x1), (0, .ref 2), (1, .long h)]) rfl rfl (by decide) rfl ?_
                refine kw_iinc' (pc := 63) (i := 39) (k := 1) (fun z => [(6, .int z), (3, .long z31), (5, .int x1), (0, .ref 2), (1, .long h)]) rfl rfl (by decide) rfl (fun _ => rfl) (fun z32 e_z32 t_z32 => ?_)
                replace hF := kf_le e_z32 hF
                refine kw_goto (pc := 66) (i := 40) (tgt := 33) rfl rfl ?_
                refine kw_sub (lv' := [(6, .int z32), (3, .long z31), (5, .int x1), (0, .ref 2), (1, .long h)]) [0, 1, 2, 3, 4] rfl ?_
                exact ih16 z32 z31 (by omega) hF (by omega)
              · replace hF := kf_n (fun q => absurd (w24.symm.trans q) (by decide)) hF
                replace hF := kf_n (fun q => absurd (w24.symm.trans q) (by decide)) hF
                replace hF := kf_p w24 hF
                have e_w24 : x1.toNatClampNeg = 2 := by have := kw_clampI (x := x1) (by omega); omega
                refine kw_aald (pc := 56) (i := 33) (b := 37) rfl rfl (by decide) (by omega) (by rw [e_w24]; rfl) ?_
                refine kw_iload (pc := 57) (i := 34) (k := 0) (n := 6) rfl rfl ?_
                refine kw_iald (pc := 59) (i := 35) (n := 60) rfl rfl (by omega) (by omega) (fun z33 e_z33 => ?_)
                replace hF := kf_le e_z33 hF
                have t_z33 := congrArg Int32.toInt e_z33
                have r_z33 := kw_rng z33
                refine kw_i2l (pc := 60) (i := 36) rfl (fun z34 e_z34 t_z34 => ?_)
                replace hF := kf_le e_z34 hF
                refine kw_ladd (pc := 61) (i := 37) rfl (fun z35 e_z35 => ?_)
                replace hF := kf_le e_z35 hF
                refine kw_lstore_n (pc := 62) (i := 38) (n := 3) (lv' := [(3, .long z35), (6, .int x13), (5, .int x1), (0, .ref 2), (1, .long h)]) rfl rfl (by decide) rfl ?_
                refine kw_iinc' (pc := 63) (i := 39) (k := 1) (fun z => [(6, .int z), (3, .long z35), (5, .int x1), (0, .ref 2), (1, .long h)]) rfl rfl (by decide) rfl (fun _ => rfl) (fun z36 e_z36 t_z36 => ?_)
                replace hF := kf_le e_z36 hF
                refine kw_goto (pc := 66) (i := 40) (tgt := 33) rfl rfl ?_
                refine kw_sub (lv' := [(6, .int z36), (3, .long z35), (5, .int x1), (0, .ref 2), (1, .long h)]) [0, 1, 2, 3, 4] rfl ?_
                exact ih16 z36 z35 (by omega) hF (by omega)
              · replace hF := kf_n (fun q => absurd (w24.symm.trans q) (by decide)) hF
                replace hF := kf_n (fun q => absurd (w24.symm.trans q) (by decide)) hF
                replace hF := kf_n (fun q => absurd (w24.symm.trans q) (by decide)) hF
                replace hF := kf_p w24 hF
                have e_w24 : x1.toNatClampNeg = 3 := by have := kw_clampI (x := x1) (by omega); omega
                refine kw_aald (pc := 56) (i := 33) (b := 38) rfl rfl (by decide) (by omega) (by rw [e_w24]; rfl) ?_
                refine kw_iload (pc := 57) (i := 34) (k := 0) (n := 6) rfl rfl ?_
                refine kw_iald (pc := 59) (i := 35) (n := 60) rfl rfl (by omega) (by omega) (fun z37 e_z37 => ?_)
                replace hF := kf_le e_z37 hF
                have t_z37 := congrArg Int32.toInt e_z37
                have r_z37 := kw_rng z37
                refine kw_i2l (pc := 60) (i := 36) rfl (fun z38 e_z38 t_z38 => ?_)
                replace hF := kf_le e_z38 hF
                refine kw_ladd (pc := 61) (i := 37) rfl (fun z39 e_z39 => ?_)
                replace hF := kf_le e_z39 hF
                refine kw_lstore_n (pc := 62) (i := 38) (n := 3) (lv' := [(3, .long z39), (6, .int x13), (5, .int x1), (0, .ref 2), (1, .long h)]) rfl rfl (by decide) rfl ?_
                refine kw_iinc' (pc := 63) (i := 39) (k := 1) (fun z => [(6, .int z), (3, .long z39), (5, .int x1), (0, .ref 2), (1, .long h)]) rfl rfl (by decide) rfl (fun _ => rfl) (fun z40 e_z40 t_z40 => ?_)
                replace hF := kf_le e_z40 hF
                refine kw_goto (pc := 66) (i := 40) (tgt := 33) rfl rfl ?_
                refine kw_sub (lv' := [(6, .int z40), (3, .long z39), (5, .int x1), (0, .ref 2), (1, .long h)]) [0, 1, 2, 3, 4] rfl ?_
                exact ih16 z40 z39 (by omega) hF (by omega)
        exact L15 _ 0 z12 (by omega) hF (Nat.lt_succ_self _)
  exact L3 _ 0 h (by omega) hF (Nat.lt_succ_self _)
noncomputable def f_X3_valueAt_5 (σ : kw_S) (k : Int32) (i : Int32) : Int32 := kf_l (f_X3_hasPlaces_5 σ k i (1 : Int32)) fun z1 => if z1.toInt = 0 then ((1000 : Int32)) else (if k.toInt = 0 then (kf_l (σ.1 49 i.toNatClampNeg) fun z2 => z2) else if k.toInt = 1 then (kf_l (σ.1 50 i.toNatClampNeg) fun z3 => z3) else if k.toInt = 2 then (kf_l (σ.1 51 i.toNatClampNeg) fun z4 => z4) else 0)
theorem f_X3_valueAt_5_u (σ : kw_S) (k : Int32) (i : Int32) : f_X3_valueAt_5 σ k i = kf_l (f_X3_hasPlaces_5 σ k i (1 : Int32)) fun z1 => if z1.toInt = 0 then ((1000 : Int32)) else (if k.toInt = 0 then (kf_l (σ.1 49 i.toNatClampNeg) fun z2 => z2) else if k.toInt = 1 then (kf_l (σ.1 50 i.toNatClampNeg) fun z3 => z3) else if k.toInt = 2 then (kf_l (σ.1 51 i.toNatClampNeg) fun z4 => z4) else 0) := rfl
abbrev p_X3_valueAt_5 (σ : kw_S) (k : Int32) (i : Int32) : Option Value → kw_S → Prop := fun vv σ' => σ' = σ ∧ ∃ r : Int32, vv = some (.int r) ∧ r = f_X3_valueAt_5 σ k i
set_option maxRecDepth 100000 in
set_option maxHeartbeats 4000000 in
theorem c_X3_valueAt_5 (l : Launch) (σ : kw_S) (hI : kw_I bX σ) (k : Int32) (i : Int32) : kw_Met l 3 KX mX3_valueAt [.ref 5, .int k, .int i] σ (p_X3_valueAt_5 σ k i) := by
  have r_k := kw_rng k
  have r_i := kw_rng i
  have hF := (f_X3_valueAt_5_u σ k i).symm
  have q_1 : (1 : Int32).toInt = 1 := rfl
  have q_1000 : (1000 : Int32).toInt = 1000 := rfl
  refine kw_Met.of (by decide) rfl tX3_valueAt (Nat.le_of_ble_eq_true rfl) ?_
  show kw_AW l 3 kw_E0 KX mX3_valueAt (p_X3_valueAt_5 σ k i) 0 [(0, .ref 5), (1, .int k), (2, .int i)] [] σ
  refine kw_aload_n (pc := 0) (i := 0) (k := 0) (n := 0) rfl rfl rfl ?_
  refine kw_iload_n (pc := 1) (i := 1) (k := 1) (n := 1) rfl rfl rfl ?_
  refine kw_iload_n (pc := 2) (i := 2) (k := 2) (n := 2) rfl rfl rfl ?_
  refine kw_iconst (pc := 3) (i := 3) (v := 1) rfl rfl ?_
  refine kw_callV (pc := 4) (i := 4) (Y := mX3_hasPlaces) (a := 5) (As := [.int k, .int i, .int 1]) (st := []) kw_hE rfl rfl lvX3_41 arX3_hasPlaces (c_X3_hasPlaces_5 l σ hI k i 1 ) (by decide) (Nat.le_of_ble_eq_true rfl) rfl (fun v S2 p1 => ?_)
  obtain ⟨e7, z6, rfl, f3, f4, ef5⟩ := p1
  rw [e7]
  replace hF := kf_le ef5 hF
  have r_z6 := kw_rng z6
  show kw_AW l 3 kw_E0 KX mX3_valueAt (p_X3_valueAt_5 σ k i) 7 [(0, .ref 5), (1, .int k), (2, .int i)] [.int z6] σ
  refine kw_if_eq (pc := 7) (i := 5) (tgt := 21) rfl rfl (fun c8 => ?_) (fun c8 => ?_)
  · replace hF := kf_p c8 hF
    refine kw_sipush (pc := 21) (i := 13) (v := 1000) rfl rfl ?_
    exact kw_ireturn (pc := 24) (i := 14) (ty := .int) rfl rfl rfl ⟨rfl, _, rfl, hF⟩
  · replace hF := kf_n c8 hF
    refine kw_aload_n (pc := 10) (i := 6) (k := 0) (n := 0) rfl rfl rfl ?_
    refine kw_get (pc := 11) (i := 7) (v := .ref 20) rfl rfl rfl lkX3_17 (fun _ => rfl) ?_
    refine kw_iload_n (pc := 14) (i := 8) (k := 1) (n := 1) rfl rfl rfl ?_
    have w9 : k.toInt = 0 ∨ k.toInt = 1 ∨ k.toInt = 2 := by omega
    rcases w9 with w9 | w9 | w9
    · replace hF := kf_p w9 hF
      have e_w9 : k.toNatClampNeg = 0 := by have := kw_clampI (x := k) (by omega); omega
      refine kw_aald (pc := 15) (i := 9) (b := 49) rfl rfl (by decide) (by omega) (by rw [e_w9]; rfl) ?_
      refine kw_iload_n (pc := 16) (i := 10) (k := 2) (n := 2) rfl rfl rfl ?_
      refine kw_iald (pc := 17) (i := 11) (n := 40) rfl rfl (by omega) (by omega) (fun z10 e_z10 => ?_)
      replace hF := kf_le e_z10 hF
      have t_z10 := congrArg Int32.toInt e_z10
      have r_z10 := kw_rng z10
      refine kw_goto (pc := 18) (i := 12) (tgt := 24) rfl rfl ?_
      exact kw_ireturn (pc := 24) (i := 14) (ty := .int) rfl rfl rfl ⟨rfl, _, rfl, hF⟩
    · replace hF := kf_n (fun q => absurd (w9.symm.trans q) (by decide)) hF
      replace hF := kf_p w9 hF
      have e_w9 : k.toNatClampNeg = 1 := by have := kw_clampI (x := k) (by omega); omega
      refine kw_aald (pc := 15) (i := 9) (b := 50) rfl rfl (by decide) (by omega) (by rw [e_w9]; rfl) ?_
      refine kw_iload_n (pc := 16) (i := 10) (k := 2) (n := 2) rfl rfl rfl ?_
      refine kw_iald (pc := 17) (i := 11) (n := 40) rfl rfl (by omega) (by omega) (fun z11 e_z11 => ?_)
      replace hF := kf_le e_z11 hF
      have t_z11 := congrArg Int32.toInt e_z11
      have r_z11 := kw_rng z11
      refine kw_goto (pc := 18) (i := 12) (tgt := 24) rfl rfl ?_
      exact kw_ireturn (pc := 24) (i := 14) (ty := .int) rfl rfl rfl ⟨rfl, _, rfl, hF⟩
    · replace hF := kf_n (fun q => absurd (w9.symm.trans q) (by decide)) hF
      replace hF := kf_n (fun q => absurd (w9.symm.trans q) (by decide)) hF
      replace hF := kf_p w9 hF
      have e_w9 : k.toNatClampNeg = 2 := by have := kw_clampI (x := k) (by omega); omega
      refine kw_aald (pc := 15) (i := 9) (b := 51) rfl rfl (by decide) (by omega) (by rw [e_w9]; rfl) ?_
      refine kw_iload_n (pc := 16) (i := 10) (k := 2) (n := 2) rfl rfl rfl ?_
      refine kw_iald (pc := 17) (i := 11) (n := 40) rfl rfl (by omega) (by omega) (fun z12 e_z12 => ?_)
      replace hF := kf_le e_z12 hF
      have t_z12 := congrArg Int32.toInt e_z12
      have r_z12 := kw_rng z12
      refine kw_goto (pc := 18) (i := 12) (tgt := 24) rfl rfl ?_
      exact kw_ireturn (pc := 24) (i := 14) (ty := .int) rfl rfl rfl ⟨rfl, _, rfl, hF⟩
noncomputable def f_X3_change_5 (σ : kw_S) (k : Int32) (i : Int32) (v : Int32) : kw_S := kf_l (f_X3_hasPlaces_5 σ k i (1 : Int32)) fun z1 => if z1.toInt = 0 then (σ) else (if k.toInt = 0 then (kw_ui σ 49 i.toNatClampNeg v) else if k.toInt = 1 then (kw_ui σ 50 i.toNatClampNeg v) else if k.toInt = 2 then (kw_ui σ 51 i.toNatClampNeg v) else σ)
theorem f_X3_change_5_u (σ : kw_S) (k : Int32) (i : Int32) (v : Int32) : f_X3_change_5 σ k i v = kf_l (f_X3_hasPlaces_5 σ k i (1 : Int32)) fun z1 => if z1.toInt = 0 then (σ) else (if k.toInt = 0 then (kw_ui σ 49 i.toNatClampNeg v) else if k.toInt = 1 then (kw_ui σ 50 i.toNatClampNeg v) else if k.toInt = 2 then (kw_ui σ 51 i.toNatClampNeg v) else σ) := rfl
abbrev p_X3_change_5 (σ : kw_S) (k : Int32) (i : Int32) (v : Int32) : Option Value → kw_S → Prop := fun vv σ' => (kw_I bX σ' ∧ kw_F [49, 50, 51] σ σ') ∧ vv = none ∧ σ' = f_X3_change_5 σ k i v
set_option maxRecDepth 100000 in
set_option maxHeartbeats 4000000 in
theorem c_X3_change_5 (l : Launch) (σ : kw_S) (hI : kw_I bX σ) (k : Int32) (i : Int32) (v : Int32) : kw_Met l 3 KX mX3_change [.ref 5, .int k, .int i, .int v] σ (p_X3_change_5 σ k i v) := by
  have r_k := kw_rng k
  have r_i := kw_rng i
  have r_v := kw_rng v
  have hF0 : kw_F [49, 50, 51] σ σ := kw_F.rf
  have hF := (f_X3_change_5_u σ k i v).symm
  have q_1 : (1 : Int32).toInt = 1 := rfl
  refine kw_Met.of (by decide) rfl tX3_change (Nat.le_of_ble_eq_true rfl) ?_
  show kw_AW l 3 kw_E0 KX mX3_change (p_X3_change_5 σ k i v) 0 [(0, .ref 5), (1, .int k), (2, .int i), (3, .int v)] [] σ
  refine kw_aload_n (pc := 0) (i := 0) (k := 0) (n := 0) rfl rfl rfl ?_
  refine kw_iload_n (pc := 1) (i := 1) (k := 1) (n := 1) rfl rfl rfl ?_
  refine kw_iload_n (pc := 2) (i := 2) (k := 2) (n := 2) rfl rfl rfl ?_
  refine kw_iconst (pc := 3) (i := 3) (v := 1) rfl rfl ?_
  refine kw_callV (pc := 4) (i := 4) (Y := mX3_hasPlaces) (a := 5) (As := [.int k, .int i, .int 1]) (st := []) kw_hE rfl rfl lvX3_41 arX3_hasPlaces (c_X3_hasPlaces_5 l σ hI k i 1 ) (by decide) (Nat.le_of_ble_eq_true rfl) rfl (fun v S2 p1 => ?_)
  obtain ⟨e7, z6, rfl, f3, f4, ef5⟩ := p1
  rw [e7]
  replace hF := kf_le ef5 hF
  have r_z6 := kw_rng z6
  show kw_AW l 3 kw_E0 KX mX3_change (p_X3_change_5 σ k i v) 7 [(0, .ref 5), (1, .int k), (2, .int i), (3, .int v)] [.int z6] σ
  refine kw_if_eq (pc := 7) (i := 5) (tgt := 19) rfl rfl (fun c8 => ?_) (fun c8 => ?_)
  · replace hF := kf_p c8 hF
    exact kw_return (pc := 19) (i := 13) rfl rfl ⟨⟨hI, hF0⟩, rfl, hF⟩
  · replace hF := kf_n c8 hF
    refine kw_aload_n (pc := 10) (i := 6) (k := 0) (n := 0) rfl rfl rfl ?_
    refine kw_get (pc := 11) (i := 7) (v := .ref 20) rfl rfl rfl lkX3_17 (fun _ => rfl) ?_
    refine kw_iload_n (pc := 14) (i := 8) (k := 1) (n := 1) rfl rfl rfl ?_
    have w9 : k.toInt = 0 ∨ k.toInt = 1 ∨ k.toInt = 2 := by omega
    rcases w9 with w9 | w9 | w9
    · replace hF := kf_p w9 hF
      have e_w9 : k.toNatClampNeg = 0 := by have := kw_clampI (x := k) (by omega); omega
      refine kw_aald (pc := 15) (i := 9) (b := 49) rfl rfl (by decide) (by omega) (by rw [e_w9]; rfl) ?_
      refine kw_iload_n (pc := 16) (i := 10) (k := 2) (n := 2) rfl rfl rfl ?_
      refine kw_iload_n (pc := 17) (i := 11) (k := 3) (n := 3) rfl rfl rfl ?_
      refine kw_iast (pc := 18) (i := 12) (n := 40) rfl rfl (by omega) (by omega) ?_
      have I10 : kw_I bX (kw_ui σ 49 i.toNatClampNeg v) := kw_I_ui hI (kw_rng v).1 (Int.le_of_lt_add_one (kw_rng v).2)
      have F11 : kw_F [49, 50, 51] σ (kw_ui σ 49 i.toNatClampNeg v) := kw_F_ui hF0 (by decide)
      exact kw_return (pc := 19) (i := 13) rfl rfl ⟨⟨I10, F11⟩, rfl, hF⟩
    · replace hF := kf_n (fun q => absurd (w9.symm.trans q) (by decide)) hF
      replace hF := kf_p w9 hF
      have e_w9 : k.toNatClampNeg = 1 := by have := kw_clampI (x := k) (by omega); omega
      refine kw_aald (pc := 15) (i := 9) (b := 50) rfl rfl (by decide) (by omega) (by rw [e_w9]; rfl) ?_
      refine kw_iload_n (pc := 16) (i := 10) (k := 2) (n := 2) rfl rfl rfl ?_
      refine kw_iload_n (pc := 17) (i := 11) (k := 3) (n := 3) rfl rfl rfl ?_
      refine kw_iast (pc := 18) (i := 12) (n := 40) rfl rfl (by omega) (by omega) ?_
      have I12 : kw_I bX (kw_ui σ 50 i.toNatClampNeg v) := kw_I_ui hI (kw_rng v).1 (Int.le_of_lt_add_one (kw_rng v).2)
      have F13 : kw_F [49, 50, 51] σ (kw_ui σ 50 i.toNatClampNeg v) := kw_F_ui hF0 (by decide)
      exact kw_return (pc := 19) (i := 13) rfl rfl ⟨⟨I12, F13⟩, rfl, hF⟩
    · replace hF := kf_n (fun q => absurd (w9.symm.trans q) (by decide)) hF
      replace hF := kf_n (fun q => absurd (w9.symm.trans q) (by decide)) hF
      replace hF := kf_p w9 hF
      have e_w9 : k.toNatClampNeg = 2 := by have := kw_clampI (x := k) (by omega); omega
      refine kw_aald (pc := 15) (i := 9) (b := 51) rfl rfl (by decide) (by omega) (by rw [e_w9]; rfl) ?_
      refine kw_iload_n (pc := 16) (i := 10) (k := 2) (n := 2) rfl rfl rfl ?_
      refine kw_iload_n (pc := 17) (i := 11) (k := 3) (n := 3) rfl rfl rfl ?_
      refine kw_iast (pc := 18) (i := 12) (n := 40) rfl rfl (by omega) (by omega) ?_
      have I14 : kw_I bX (kw_ui σ 51 i.toNatClampNeg v) := kw_I_ui hI (kw_rng v).1 (Int.le_of_lt_add_one (kw_rng v).2)
      have F15 : kw_F [49, 50, 51] σ (kw_ui σ 51 i.toNatClampNeg v) := kw_F_ui hF0 (by decide)
      exact kw_return (pc := 19) (i := 13) rfl rfl ⟨⟨I14, F15⟩, rfl, hF⟩
noncomputable def f_X3_make_5 (σ : kw_S) (k : Int32) (n : Int32) (v : Int32) : kw_S := kf_l (f_X3_has_5 σ k) fun z1 => if z1.toInt = 0 then (σ) else (if n.toInt < 0 then (σ) else (if (σ.1 5 0).toInt < n.toInt then (σ) else (if k.toInt = 0 then (kf_l (f_J7_fill_53178_49 (kw_ui σ 21 k.toNatClampNeg n) v) fun S2 => S2) else if k.toInt = 1 then (kf_l (f_J7_fill_53178_50 (kw_ui σ 21 k.toNatClampNeg n) v) fun S3 => S3) else if k.toInt = 2 then (kf_l (f_J7_fill_53178_51 (kw_ui σ 21 k.toNatClampNeg n) v) fun S4 => S4) else (kw_ui σ 21 k.toNatClampNeg n))))
theorem f_X3_make_5_u (σ : kw_S) (k : Int32) (n : Int32) (v : Int32) : f_X3_make_5 σ k n v = kf_l (f_X3_has_5 σ k) fun z1 => if z1.toInt = 0 then (σ) else (if n.toInt < 0 then (σ) else (if (σ.1 5 0).toInt < n.toInt then (σ) else (if k.toInt = 0 then (kf_l (f_J7_fill_53178_49 (kw_ui σ 21 k.toNatClampNeg n) v) fun S2 => S2) else if k.toInt = 1 then (kf_l (f_J7_fill_53178_50 (kw_ui σ 21 k.toNatClampNeg n) v) fun S3 => S3) else if k.toInt = 2 then (kf_l (f_J7_fill_53178_51 (kw_ui σ 21 k.toNatClampNeg n) v) fun S4 => S4) else (kw_ui σ 21 k.toNatClampNeg n)))) := rfl
abbrev p_X3_make_5 (σ : kw_S) (k : Int32) (n : Int32) (v : Int32) : Option Value → kw_S → Prop := fun vv σ' => (kw_I bX σ' ∧ kw_F [21, 49, 50, 51] σ σ') ∧ vv = none ∧ σ' = f_X3_make_5 σ k n v
set_option maxRecDepth 100000 in
set_option maxHeartbeats 4000000 in
theorem c_X3_make_5 (l : Launch) (σ : kw_S) (hI : kw_I bX σ) (k : Int32) (n : Int32) (v : Int32) : kw_Met l 2 KX mX3_make [.ref 5, .int k, .int n, .int v] σ (p_X3_make_5 σ k n v) := by
  have r_k := kw_rng k
  have r_n := kw_rng n
  have r_v := kw_rng v
  have hF0 : kw_F [21, 49, 50, 51] σ σ := kw_F.rf
  have hF := (f_X3_make_5_u σ k n v).symm
  refine kw_Met.of (by decide) rfl tX3_make (Nat.le_of_ble_eq_true rfl) ?_
  show kw_AW l 2 kw_E0 KX mX3_make (p_X3_make_5 σ k n v) 0 [(0, .ref 5), (1, .int k), (2, .int n), (3, .int v)] [] σ
  refine kw_aload_n (pc := 0) (i := 0) (k := 0) (n := 0) rfl rfl rfl ?_
  refine kw_iload_n (pc := 1) (i := 1) (k := 1) (n := 1) rfl rfl rfl ?_
  refine kw_callV (pc := 2) (i := 2) (Y := mX3_has) (a := 5) (As := [.int k]) (st := []) kw_hE rfl rfl lvX3_34 arX3_has (c_X3_has_5 l σ hI k ) (by decide) (Nat.le_of_ble_eq_true rfl) rfl (fun v S2 p1 => ?_)
  obtain ⟨e8, z7, rfl, f3, f4, f5, ef6⟩ := p1
  rw [e8]
  replace hF := kf_le ef6 hF
  have r_z7 := kw_rng z7
  show kw_AW l 2 kw_E0 KX mX3_make (p_X3_make_5 σ k n v) 5 [(0, .ref 5), (1, .int k), (2, .int n), (3, .int v)] [.int z7] σ
  refine kw_if_eq (pc := 5) (i := 3) (tgt := 20) rfl rfl (fun c9 => ?_) (fun c9 => ?_)
  · replace hF := kf_p c9 hF
    exact kw_return (pc := 20) (i := 10) rfl rfl ⟨⟨hI, hF0⟩, rfl, hF⟩
  · replace hF := kf_n c9 hF
    refine kw_iload_n (pc := 8) (i := 4) (k := 2) (n := 2) rfl rfl rfl ?_
    refine kw_if_lt (pc := 9) (i := 5) (tgt := 20) rfl rfl (fun c10 => ?_) (fun c10 => ?_)
    · replace hF := kf_p c10 hF
      exact kw_return (pc := 20) (i := 10) rfl rfl ⟨⟨hI, hF0⟩, rfl, hF⟩
    · replace hF := kf_nl c10 hF
      refine kw_iload_n (pc := 12) (i := 6) (k := 2) (n := 2) rfl rfl rfl ?_
      refine kw_aload_n (pc := 13) (i := 7) (k := 0) (n := 0) rfl rfl rfl ?_
      refine kw_get (pc := 14) (i := 8) (v := .int (σ.1 5 0)) rfl rfl rfl lkX3_9 (fun _ => rfl) ?_
      have b11 : 40 ≤ (σ.1 5 0).toInt ∧ (σ.1 5 0).toInt ≤ 40 := hI 5 0
      refine kw_icmp_le (pc := 17) (i := 9) (tgt := 21) rfl rfl (fun c12 => ?_) (fun c12 => ?_)
      · replace hF := kf_nl c12 hF
        refine kw_aload_n (pc := 21) (i := 11) (k := 0) (n := 0) rfl rfl rfl ?_
        refine kw_get (pc := 22) (i := 12) (v := .ref 21) rfl rfl rfl lkX3_20 (fun _ => rfl) ?_
        refine kw_iload_n (pc := 25) (i := 13) (k := 1) (n := 1) rfl rfl rfl ?_
        refine kw_iload_n (pc := 26) (i := 14) (k := 2) (n := 2) rfl rfl rfl ?_
        refine kw_iast (pc := 27) (i := 15) (n := 3) rfl rfl (by omega) (by omega) ?_
        have I13 : kw_I bX (kw_ui σ 21 k.toNatClampNeg n) := kw_I_ui hI (show -1 ≤ n.toInt by omega) (show n.toInt ≤ 40 by omega)
        have F14 : kw_F [21, 49, 50, 51] σ (kw_ui σ 21 k.toNatClampNeg n) := kw_F_ui hF0 (by decide)
        refine kw_aload_n (pc := 28) (i := 16) (k := 0) (n := 0) rfl rfl rfl ?_
        refine kw_get (pc := 29) (i := 17) (v := .ref 20) rfl rfl rfl lkX3_17 (fun _ => rfl) ?_
        refine kw_iload_n (pc := 32) (i := 18) (k := 1) (n := 1) rfl rfl rfl ?_
        have w15 : k.toInt = 0 ∨ k.toInt = 1 ∨ k.toInt = 2 := by omega
        rcases w15 with w15 | w15 | w15
        · replace hF := kf_p w15 hF
          have e_w15 : k.toNatClampNeg = 0 := by have := kw_clampI (x := k) (by omega); omega
          refine kw_aald (pc := 33) (i := 19) (b := 49) rfl rfl (by decide) (by omega) (by rw [e_w15]; rfl) ?_
          refine kw_iload_n (pc := 34) (i := 20) (k := 3) (n := 3) rfl rfl rfl ?_
          refine kw_callS (pc := 35) (i := 21) (Y := mJ7_fill_53178) (As := [.ref 49, .int v]) (st := []) kw_hE rfl lsX3_24 arJ7_fill_53178 (c_J7_fill_53178_49 l (kw_ui σ 21 k.toNatClampNeg n) I13 v ) (by decide) (Nat.le_of_ble_eq_true rfl) rfl (fun v S17 p16 => ?_)
          obtain ⟨⟨I19, F20⟩, rfl, ef18⟩ := p16
          have F21 : kw_F [21, 49, 50, 51] σ S17 := kw_F.tr F14 F20 (by decide)
          replace hF := kf_le ef18 hF
          show kw_AW l 2 kw_E0 KX mX3_make (p_X3_make_5 σ k n v) 38 [(0, .ref 5), (1, .int k), (2, .int n), (3, .int v)] [] S17
          exact kw_return (pc := 38) (i := 22) rfl rfl ⟨⟨I19, F21⟩, rfl, hF⟩
        · replace hF := kf_n (fun q => absurd (w15.symm.trans q) (by decide)) hF
          replace hF := kf_p w15 hF
          have e_w15 : k.toNatClampNeg = 1 := by have := kw_clampI (x := k) (by omega); omega
          refine kw_aald (pc := 33) (i := 19) (b := 50) rfl rfl (by decide) (by omega) (by rw [e_w15]; rfl) ?_
          refine kw_iload_n (pc := 34) (i := 20) (k := 3) (n := 3) rfl rfl rfl ?_
          refine kw_callS (pc := 35) (i := 21) (Y := mJ7_fill_53178) (As := [.ref 50, .int v]) (st := []) kw_hE rfl lsX3_24 arJ7_fill_53178 (c_J7_fill_53178_50 l (kw_ui σ 21 k.toNatClampNeg n) I13 v ) (by decide) (Nat.le_of_ble_eq_true rfl) rfl (fun v S23 p22 => ?_)
          obtain ⟨⟨I25, F26⟩, rfl, ef24⟩ := p22
          have F27 : kw_F [21, 49, 50, 51] σ S23 := kw_F.tr F14 F26 (by decide)
          replace hF := kf_le ef24 hF
          show kw_AW l 2 kw_E0 KX mX3_make (p_X3_make_5 σ k n v) 38 [(0, .ref 5), (1, .int k), (2, .int n), (3, .int v)] [] S23
          exact kw_return (pc := 38) (i := 22) rfl rfl ⟨⟨I25, F27⟩, rfl, hF⟩
        · replace hF := kf_n (fun q => absurd (w15.symm.trans q) (by decide)) hF
          replace hF := kf_n (fun q => absurd (w15.symm.trans q) (by decide)) hF
          replace hF := kf_p w15 hF
          have e_w15 : k.toNatClampNeg = 2 := by have := kw_clampI (x := k) (by omega); omega
          refine kw_aald (pc := 33) (i := 19) (b := 51) rfl rfl (by decide) (by omega) (by rw [e_w15]; rfl) ?_
          refine kw_iload_n (pc := 34) (i := 20) (k := 3) (n := 3) rfl rfl rfl ?_
          refine kw_callS (pc := 35) (i := 21) (Y := mJ7_fill_53178) (As := [.ref 51, .int v]) (st := []) kw_hE rfl lsX3_24 arJ7_fill_53178 (c_J7_fill_53178_51 l (kw_ui σ 21 k.toNatClampNeg n) I13 v ) (by decide) (Nat.le_of_ble_eq_true rfl) rfl (fun v S29 p28 => ?_)
          obtain ⟨⟨I31, F32⟩, rfl, ef30⟩ := p28
          have F33 : kw_F [21, 49, 50, 51] σ S29 := kw_F.tr F14 F32 (by decide)
          replace hF := kf_le ef30 hF
          show kw_AW l 2 kw_E0 KX mX3_make (p_X3_make_5 σ k n v) 38 [(0, .ref 5), (1, .int k), (2, .int n), (3, .int v)] [] S29
          exact kw_return (pc := 38) (i := 22) rfl rfl ⟨⟨I31, F33⟩, rfl, hF⟩
      · replace hF := kf_p c12 hF
        exact kw_return (pc := 20) (i := 10) rfl rfl ⟨⟨hI, hF0⟩, rfl, hF⟩
noncomputable def f_X3_drop_5 (σ : kw_S) (k : Int32) : kw_S := kf_l (f_X3_has_5 σ k) fun z1 => if z1.toInt = 0 then (σ) else (kw_ui σ 21 k.toNatClampNeg (-1))
theorem f_X3_drop_5_u (σ : kw_S) (k : Int32) : f_X3_drop_5 σ k = kf_l (f_X3_has_5 σ k) fun z1 => if z1.toInt = 0 then (σ) else (kw_ui σ 21 k.toNatClampNeg (-1)) := rfl
abbrev p_X3_drop_5 (σ : kw_S) (k : Int32) : Option Value → kw_S → Prop := fun vv σ' => (kw_I bX σ' ∧ kw_F [21] σ σ') ∧ vv = none ∧ σ' = f_X3_drop_5 σ k
set_option maxRecDepth 100000 in
set_option maxHeartbeats 4000000 in
theorem c_X3_drop_5 (l : Launch) (σ : kw_S) (hI : kw_I bX σ) (k : Int32) : kw_Met l 2 KX mX3_drop [.ref 5, .int k] σ (p_X3_drop_5 σ k) := by
  have r_k := kw_rng k
  have hF0 : kw_F [21] σ σ := kw_F.rf
  have hF := (f_X3_drop_5_u σ k).symm
  have q_m1 : (-1 : Int32).toInt = -1 := rfl
  refine kw_Met.of (by decide) rfl tX3_drop (Nat.le_of_ble_eq_true rfl) ?_
  show kw_AW l 2 kw_E0 KX mX3_drop (p_X3_drop_5 σ k) 0 [(0, .ref 5), (1, .int k)] [] σ
  refine kw_aload_n (pc := 0) (i := 0) (k := 0) (n := 0) rfl rfl rfl ?_
  refine kw_iload_n (pc := 1) (i := 1) (k := 1) (n := 1) rfl rfl rfl ?_
  refine kw_callV (pc := 2) (i := 2) (Y := mX3_has) (a := 5) (As := [.int k]) (st := []) kw_hE rfl rfl lvX3_34 arX3_has (c_X3_has_5 l σ hI k ) (by decide) (Nat.le_of_ble_eq_true rfl) rfl (fun v S2 p1 => ?_)
  obtain ⟨e8, z7, rfl, f3, f4, f5, ef6⟩ := p1
  rw [e8]
  replace hF := kf_le ef6 hF
  have r_z7 := kw_rng z7
  show kw_AW l 2 kw_E0 KX mX3_drop (p_X3_drop_5 σ k) 5 [(0, .ref 5), (1, .int k)] [.int z7] σ
  refine kw_if_eq (pc := 5) (i := 3) (tgt := 15) rfl rfl (fun c9 => ?_) (fun c9 => ?_)
  · replace hF := kf_p c9 hF
    exact kw_return (pc := 15) (i := 9) rfl rfl ⟨⟨hI, hF0⟩, rfl, hF⟩
  · replace hF := kf_n c9 hF
    refine kw_aload_n (pc := 8) (i := 4) (k := 0) (n := 0) rfl rfl rfl ?_
    refine kw_get (pc := 9) (i := 5) (v := .ref 21) rfl rfl rfl lkX3_20 (fun _ => rfl) ?_
    refine kw_iload_n (pc := 12) (i := 6) (k := 1) (n := 1) rfl rfl rfl ?_
    refine kw_iconst (pc := 13) (i := 7) (v := (-1)) rfl rfl ?_
    refine kw_iast (pc := 14) (i := 8) (n := 3) rfl rfl (by omega) (by omega) ?_
    have I10 : kw_I bX (kw_ui σ 21 k.toNatClampNeg (-1)) := kw_I_ui hI (show -1 ≤ ((-1) : Int32).toInt by omega) (show ((-1) : Int32).toInt ≤ 40 by omega)
    have F11 : kw_F [21] σ (kw_ui σ 21 k.toNatClampNeg (-1)) := kw_F_ui hF0 (by decide)
    exact kw_return (pc := 15) (i := 9) rfl rfl ⟨⟨I10, F11⟩, rfl, hF⟩
