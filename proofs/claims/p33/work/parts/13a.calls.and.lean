section
noncomputable def f_X7_row_0 (σ : kw_S) (k : Int32) (n : Int32) : Int32 × kw_S := kf_b (f_X7_makeOn_0_1 σ k n (0 : Int32)) fun z1 S2 => (z1, S2)
theorem f_X7_row_0_u (σ : kw_S) (k : Int32) (n : Int32) : f_X7_row_0 σ k n = kf_b (f_X7_makeOn_0_1 σ k n (0 : Int32)) fun z1 S2 => (z1, S2) := rfl
abbrev p_X7_row_0 (σ : kw_S) (k : Int32) (n : Int32) : Option Value → kw_S → Prop := fun vv σ' => (kw_I bX σ' ∧ kw_F [8, 28, 13, 29, 30, 31, 32, 33, 34] σ σ') ∧ ∃ r : Int32, vv = some (.int r) ∧ ((k.toInt < 0 ∨ 6 ≤ k.toInt ∨ 40 < n.toInt) ∧ r.toInt = -1 ∨ 0 ≤ k.toInt ∧ k.toInt < 6 ∧ n.toInt < 0 ∧ r.toInt = -3 ∨ 0 ≤ k.toInt ∧ k.toInt < 6 ∧ 0 ≤ n.toInt ∧ n.toInt ≤ 40 ∧ r.toInt = n.toInt) ∧ (r, σ') = f_X7_row_0 σ k n
set_option maxRecDepth 100000 in
set_option maxHeartbeats 4000000 in
theorem c_X7_row_0 (l : Launch) (σ : kw_S) (hI : kw_I bX σ) (k : Int32) (n : Int32) : kw_Met l 4 KX mX7_row [.ref 0, .int k, .int n] σ (p_X7_row_0 σ k n) := by
  have r_k := kw_rng k
  have r_n := kw_rng n
  have hF0 : kw_F [8, 28, 13, 29, 30, 31, 32, 33, 34] σ σ := kw_F.rf
  have hF := (f_X7_row_0_u σ k n).symm
  have q_0 : (0 : Int32).toInt = 0 := rfl
  refine kw_Met.of (by decide) rfl tX7_row (Nat.le_of_ble_eq_true rfl) ?_
  show kw_AW l 4 kw_E0 KX mX7_row (p_X7_row_0 σ k n) 0 [(0, .ref 0), (1, .int k), (2, .int n)] [] σ
  refine kw_aload_n (pc := 0) (i := 0) (k := 0) (n := 0) rfl rfl rfl ?_
  refine kw_aload_n (pc := 1) (i := 1) (k := 0) (n := 0) rfl rfl rfl ?_
  refine kw_get (pc := 2) (i := 2) (v := .ref 1) rfl rfl rfl lkX7_14 (fun _ => rfl) ?_
  refine kw_iload_n (pc := 5) (i := 3) (k := 1) (n := 1) rfl rfl rfl ?_
  refine kw_iload_n (pc := 6) (i := 4) (k := 2) (n := 2) rfl rfl rfl ?_
  refine kw_iconst (pc := 7) (i := 5) (v := 0) rfl rfl ?_
  refine kw_callV (pc := 8) (i := 6) (Y := mX7_makeOn) (a := 0) (As := [.ref 1, .int k, .int n, .int 0]) (st := []) kw_hE rfl rfl lvX7_69 arX7_makeOn (c_X7_makeOn_0_1 l σ hI k n 0 ) (by decide) (Nat.le_of_ble_eq_true rfl) rfl (fun v S2 p1 => ?_)
  obtain ⟨⟨I6, F7⟩, z5, rfl, f3, ef4⟩ := p1
  have F8 : kw_F [8, 28, 13, 29, 30, 31, 32, 33, 34] σ S2 := kw_F.tr hF0 F7 (by decide)
  replace hF := kf_be ef4 hF
  have r_z5 := kw_rng z5
  show kw_AW l 4 kw_E0 KX mX7_row (p_X7_row_0 σ k n) 11 [(0, .ref 0), (1, .int k), (2, .int n)] [.int z5] S2
  exact kw_ireturn (pc := 11) (i := 7) (ty := .int) rfl rfl rfl ⟨⟨I6, F8⟩, _, rfl, by omega, hF⟩
noncomputable def f_X7_text_0 (σ : kw_S) (k : Int32) (n : Int32) : Int32 × kw_S := kf_b (f_X7_makeOn_0_2 σ k n (32 : Int32)) fun z1 S2 => (z1, S2)
theorem f_X7_text_0_u (σ : kw_S) (k : Int32) (n : Int32) : f_X7_text_0 σ k n = kf_b (f_X7_makeOn_0_2 σ k n (32 : Int32)) fun z1 S2 => (z1, S2) := rfl
abbrev p_X7_text_0 (σ : kw_S) (k : Int32) (n : Int32) : Option Value → kw_S → Prop := fun vv σ' => (kw_I bX σ' ∧ kw_F [8, 28, 15, 35, 36, 37, 38] σ σ') ∧ ∃ r : Int32, vv = some (.int r) ∧ ((k.toInt < 0 ∨ 4 ≤ k.toInt ∨ 60 < n.toInt) ∧ r.toInt = -1 ∨ 0 ≤ k.toInt ∧ k.toInt < 4 ∧ n.toInt < 0 ∧ r.toInt = -3 ∨ 0 ≤ k.toInt ∧ k.toInt < 4 ∧ 0 ≤ n.toInt ∧ n.toInt ≤ 60 ∧ r.toInt = n.toInt) ∧ (r, σ') = f_X7_text_0 σ k n
set_option maxRecDepth 100000 in
set_option maxHeartbeats 4000000 in
theorem c_X7_text_0 (l : Launch) (σ : kw_S) (hI : kw_I bX σ) (k : Int32) (n : Int32) : kw_Met l 4 KX mX7_text [.ref 0, .int k, .int n] σ (p_X7_text_0 σ k n) := by
  have r_k := kw_rng k
  have r_n := kw_rng n
  have hF0 : kw_F [8, 28, 15, 35, 36, 37, 38] σ σ := kw_F.rf
  have hF := (f_X7_text_0_u σ k n).symm
  have q_32 : (32 : Int32).toInt = 32 := rfl
  refine kw_Met.of (by decide) rfl tX7_text (Nat.le_of_ble_eq_true rfl) ?_
  show kw_AW l 4 kw_E0 KX mX7_text (p_X7_text_0 σ k n) 0 [(0, .ref 0), (1, .int k), (2, .int n)] [] σ
  refine kw_aload_n (pc := 0) (i := 0) (k := 0) (n := 0) rfl rfl rfl ?_
  refine kw_aload_n (pc := 1) (i := 1) (k := 0) (n := 0) rfl rfl rfl ?_
  refine kw_get (pc := 2) (i := 2) (v := .ref 2) rfl rfl rfl lkX7_18 (fun _ => rfl) ?_
  refine kw_iload_n (pc := 5) (i := 3) (k := 1) (n := 1) rfl rfl rfl ?_
  refine kw_iload_n (pc := 6) (i := 4) (k := 2) (n := 2) rfl rfl rfl ?_
  refine kw_bipush (pc := 7) (i := 5) (v := 32) rfl rfl ?_
  refine kw_callV (pc := 9) (i := 6) (Y := mX7_makeOn) (a := 0) (As := [.ref 2, .int k, .int n, .int 32]) (st := []) kw_hE rfl rfl lvX7_69 arX7_makeOn (c_X7_makeOn_0_2 l σ hI k n 32 ) (by decide) (Nat.le_of_ble_eq_true rfl) rfl (fun v S2 p1 => ?_)
  obtain ⟨⟨I6, F7⟩, z5, rfl, f3, ef4⟩ := p1
  have F8 : kw_F [8, 28, 15, 35, 36, 37, 38] σ S2 := kw_F.tr hF0 F7 (by decide)
  replace hF := kf_be ef4 hF
  have r_z5 := kw_rng z5
  show kw_AW l 4 kw_E0 KX mX7_text (p_X7_text_0 σ k n) 12 [(0, .ref 0), (1, .int k), (2, .int n)] [.int z5] S2
  exact kw_ireturn (pc := 12) (i := 7) (ty := .int) rfl rfl rfl ⟨⟨I6, F8⟩, _, rfl, by omega, hF⟩
noncomputable def f_X7_lay_0 (σ : kw_S) (a : Int32) (i : Int32) (v : Int32) : Int32 × kw_S := kf_l (f_X3_has_1 σ a) fun z1 => if z1.toInt = 0 then ((((-1) : Int32), σ)) else (kf_l (f_X3_findingAt_1 σ a i) fun z2 => if z2.toInt = 0 then (kf_l (f_X3_valueAt_1 σ a i) fun z3 => kf_l (f_X3_change_1 σ a i v) fun S4 => kf_b (f_X4_answer_8 S4 z3) fun z5 S6 => (z5, S6)) else (kf_b (f_X4_refuse_8 σ z2) fun z7 S8 => (z7, S8)))
theorem f_X7_lay_0_u (σ : kw_S) (a : Int32) (i : Int32) (v : Int32) : f_X7_lay_0 σ a i v = kf_l (f_X3_has_1 σ a) fun z1 => if z1.toInt = 0 then ((((-1) : Int32), σ)) else (kf_l (f_X3_findingAt_1 σ a i) fun z2 => if z2.toInt = 0 then (kf_l (f_X3_valueAt_1 σ a i) fun z3 => kf_l (f_X3_change_1 σ a i v) fun S4 => kf_b (f_X4_answer_8 S4 z3) fun z5 S6 => (z5, S6)) else (kf_b (f_X4_refuse_8 σ z2) fun z7 S8 => (z7, S8))) := rfl
abbrev p_X7_lay_0 (σ : kw_S) (a : Int32) (i : Int32) (v : Int32) : Option Value → kw_S → Prop := fun vv σ' => (kw_I bX σ' ∧ kw_F [8, 28, 13, 29, 30, 31, 32, 33, 34] σ σ') ∧ ∃ r : Int32, vv = some (.int r) ∧ (r, σ') = f_X7_lay_0 σ a i v
set_option maxRecDepth 100000 in
set_option maxHeartbeats 4000000 in
theorem c_X7_lay_0 (l : Launch) (σ : kw_S) (hI : kw_I bX σ) (a : Int32) (i : Int32) (v : Int32) : kw_Met l 5 KX mX7_lay [.ref 0, .int a, .int i, .int v] σ (p_X7_lay_0 σ a i v) := by
  have r_a := kw_rng a
  have r_i := kw_rng i
  have r_v := kw_rng v
  have hF0 : kw_F [8, 28, 13, 29, 30, 31, 32, 33, 34] σ σ := kw_F.rf
  have hF := (f_X7_lay_0_u σ a i v).symm
  have q_m1 : (-1 : Int32).toInt = -1 := rfl
  refine kw_Met.of (by decide) rfl tX7_lay (Nat.le_of_ble_eq_true rfl) ?_
  show kw_AW l 5 kw_E0 KX mX7_lay (p_X7_lay_0 σ a i v) 0 [(0, .ref 0), (1, .int a), (2, .int i), (3, .int v)] [] σ
  refine kw_aload_n (pc := 0) (i := 0) (k := 0) (n := 0) rfl rfl rfl ?_
  refine kw_get (pc := 1) (i := 1) (v := .ref 1) rfl rfl rfl lkX7_14 (fun _ => rfl) ?_
  refine kw_iload_n (pc := 4) (i := 2) (k := 1) (n := 1) rfl rfl rfl ?_
  refine kw_callV (pc := 5) (i := 3) (Y := mX3_has) (a := 1) (As := [.int a]) (st := []) kw_hE rfl rfl lvX7_73 arX3_has (c_X3_has_1 l σ hI a ) (by decide) (Nat.le_of_ble_eq_true rfl) rfl (fun v S2 p1 => ?_)
  obtain ⟨e8, z7, rfl, f3, f4, f5, ef6⟩ := p1
  rw [e8]
  replace hF := kf_le ef6 hF
  have r_z7 := kw_rng z7
  show kw_AW l 5 kw_E0 KX mX7_lay (p_X7_lay_0 σ a i v) 8 [(0, .ref 0), (1, .int a), (2, .int i), (3, .int v)] [.int z7] σ
  refine kw_if_ne (pc := 8) (i := 4) (tgt := 13) rfl rfl (fun c9 => ?_) (fun c9 => ?_)
  · replace hF := kf_n c9 hF
    refine kw_aload_n (pc := 13) (i := 7) (k := 0) (n := 0) rfl rfl rfl ?_
    refine kw_get (pc := 14) (i := 8) (v := .ref 1) rfl rfl rfl lkX7_14 (fun _ => rfl) ?_
    refine kw_iload_n (pc := 17) (i := 9) (k := 1) (n := 1) rfl rfl rfl ?_
    refine kw_iload_n (pc := 18) (i := 10) (k := 2) (n := 2) rfl rfl rfl ?_
    refine kw_callV (pc := 19) (i := 11) (Y := mX3_findingAt) (a := 1) (As := [.int a, .int i]) (st := []) kw_hE rfl rfl lvX7_77 arX3_findingAt (c_X3_findingAt_1 l σ hI a i ) (by decide) (Nat.le_of_ble_eq_true rfl) rfl (fun v S11 p10 => ?_)
    obtain ⟨e14, z13, rfl, ef12⟩ := p10
    rw [e14]
    replace hF := kf_le ef12 hF
    have r_z13 := kw_rng z13
    show kw_AW l 5 kw_E0 KX mX7_lay (p_X7_lay_0 σ a i v) 22 [(0, .ref 0), (1, .int a), (2, .int i), (3, .int v)] [.int z13] σ
    refine kw_istore (pc := 22) (i := 12) (n := 4) (lv' := [(4, .int z13), (0, .ref 0), (1, .int a), (2, .int i), (3, .int v)]) rfl (by decide) rfl ?_
    refine kw_iload (pc := 24) (i := 13) (k := 0) (n := 4) rfl rfl ?_
    refine kw_if_eq (pc := 26) (i := 14) (tgt := 39) rfl rfl (fun c15 => ?_) (fun c15 => ?_)
    · replace hF := kf_p c15 hF
      refine kw_aload_n (pc := 39) (i := 20) (k := 1) (n := 0) rfl rfl rfl ?_
      refine kw_get (pc := 40) (i := 21) (v := .ref 1) rfl rfl rfl lkX7_14 (fun _ => rfl) ?_
      refine kw_iload_n (pc := 43) (i := 22) (k := 2) (n := 1) rfl rfl rfl ?_
      refine kw_iload_n (pc := 44) (i := 23) (k := 3) (n := 2) rfl rfl rfl ?_
      refine kw_callV (pc := 45) (i := 24) (Y := mX3_valueAt) (a := 1) (As := [.int a, .int i]) (st := []) kw_hE rfl rfl lvX7_85 arX3_valueAt (c_X3_valueAt_1 l σ hI a i ) (by decide) (Nat.le_of_ble_eq_true rfl) rfl (fun v S17 p16 => ?_)
      obtain ⟨e20, z19, rfl, ef18⟩ := p16
      rw [e20]
      replace hF := kf_le ef18 hF
      have r_z19 := kw_rng z19
      show kw_AW l 5 kw_E0 KX mX7_lay (p_X7_lay_0 σ a i v) 48 [(4, .int z13), (0, .ref 0), (1, .int a), (2, .int i), (3, .int v)] [.int z19] σ
      refine kw_istore (pc := 48) (i := 25) (n := 5) (lv' := [(5, .int z19), (4, .int z13), (0, .ref 0), (1, .int a), (2, .int i), (3, .int v)]) rfl (by decide) rfl ?_
      refine kw_aload_n (pc := 50) (i := 26) (k := 2) (n := 0) rfl rfl rfl ?_
      refine kw_get (pc := 51) (i := 27) (v := .ref 1) rfl rfl rfl lkX7_14 (fun _ => rfl) ?_
      refine kw_iload_n (pc := 54) (i := 28) (k := 3) (n := 1) rfl rfl rfl ?_
      refine kw_iload_n (pc := 55) (i := 29) (k := 4) (n := 2) rfl rfl rfl ?_
      refine kw_iload_n (pc := 56) (i := 30) (k := 5) (n := 3) rfl rfl rfl ?_
      refine kw_callV (pc := 57) (i := 31) (Y := mX3_change) (a := 1) (As := [.int a, .int i, .int v]) (st := []) kw_hE rfl rfl lvX7_88 arX3_change (c_X3_change_1 l σ hI a i v ) (by decide) (Nat.le_of_ble_eq_true rfl) rfl (fun v S22 p21 => ?_)
      obtain ⟨⟨I24, F25⟩, rfl, ef23⟩ := p21
      have F26 : kw_F [8, 28, 13, 29, 30, 31, 32, 33, 34] σ S22 := kw_F.tr hF0 F25 (by decide)
      replace hF := kf_le ef23 hF
      show kw_AW l 5 kw_E0 KX mX7_lay (p_X7_lay_0 σ a i v) 60 [(5, .int z19), (4, .int z13), (0, .ref 0), (1, .int a), (2, .int i), (3, .int v)] [] S22
      refine kw_aload_n (pc := 60) (i := 32) (k := 2) (n := 0) rfl rfl rfl ?_
      refine kw_get (pc := 61) (i := 33) (v := .ref 8) rfl rfl rfl lkX7_55 (fun _ => rfl) ?_
      refine kw_iload (pc := 64) (i := 34) (k := 0) (n := 5) rfl rfl ?_
      refine kw_callV (pc := 66) (i := 35) (Y := mX4_answer) (a := 8) (As := [.int z19]) (st := []) kw_hE rfl rfl lvX7_92 arX4_answer (c_X4_answer_8 l S22 I24 z19 ) (by decide) (Nat.le_of_ble_eq_true rfl) rfl (fun v S28 p27 => ?_)
      obtain ⟨⟨I32, F33⟩, z31, rfl, f29, ef30⟩ := p27
      have F34 : kw_F [8, 28, 13, 29, 30, 31, 32, 33, 34] σ S28 := kw_F.tr F26 F33 (by decide)
      replace hF := kf_be ef30 hF
      have r_z31 := kw_rng z31
      show kw_AW l 5 kw_E0 KX mX7_lay (p_X7_lay_0 σ a i v) 69 [(5, .int z19), (4, .int z13), (0, .ref 0), (1, .int a), (2, .int i), (3, .int v)] [.int z31] S28
      exact kw_ireturn (pc := 69) (i := 36) (ty := .int) rfl rfl rfl ⟨⟨I32, F34⟩, _, rfl, hF⟩
    · replace hF := kf_n c15 hF
      refine kw_aload_n (pc := 29) (i := 15) (k := 1) (n := 0) rfl rfl rfl ?_
      refine kw_get (pc := 30) (i := 16) (v := .ref 8) rfl rfl rfl lkX7_55 (fun _ => rfl) ?_
      refine kw_iload (pc := 33) (i := 17) (k := 0) (n := 4) rfl rfl ?_
      refine kw_callV (pc := 35) (i := 18) (Y := mX4_refuse) (a := 8) (As := [.int z13]) (st := []) kw_hE rfl rfl lvX7_81 arX4_refuse (c_X4_refuse_8 l σ hI z13 ) (by decide) (Nat.le_of_ble_eq_true rfl) rfl (fun v S36 p35 => ?_)
      obtain ⟨⟨I40, F41⟩, z39, rfl, f37, ef38⟩ := p35
      have F42 : kw_F [8, 28, 13, 29, 30, 31, 32, 33, 34] σ S36 := kw_F.tr hF0 F41 (by decide)
      replace hF := kf_be ef38 hF
      have r_z39 := kw_rng z39
      show kw_AW l 5 kw_E0 KX mX7_lay (p_X7_lay_0 σ a i v) 38 [(4, .int z13), (0, .ref 0), (1, .int a), (2, .int i), (3, .int v)] [.int z39] S36
      exact kw_ireturn (pc := 38) (i := 19) (ty := .int) rfl rfl rfl ⟨⟨I40, F42⟩, _, rfl, hF⟩
  · replace hF := kf_p c9 hF
    refine kw_iconst (pc := 11) (i := 5) (v := (-1)) rfl rfl ?_
    exact kw_ireturn (pc := 12) (i := 6) (ty := .int) rfl rfl rfl ⟨⟨hI, hF0⟩, _, rfl, hF⟩
noncomputable def f_X7_at_0 (σ : kw_S) (a : Int32) (i : Int32) : Int32 × kw_S := kf_l (f_X3_has_1 σ a) fun z1 => if z1.toInt = 0 then ((((-1) : Int32), σ)) else (kf_l (f_X3_findingAt_1 σ a i) fun z2 => if z2.toInt = 0 then (kf_l (f_X3_valueAt_1 σ a i) fun z3 => kf_b (f_X4_answer_8 σ z3) fun z4 S5 => (z4, S5)) else (kf_b (f_X4_refuse_8 σ z2) fun z6 S7 => (z6, S7)))
theorem f_X7_at_0_u (σ : kw_S) (a : Int32) (i : Int32) : f_X7_at_0 σ a i = kf_l (f_X3_has_1 σ a) fun z1 => if z1.toInt = 0 then ((((-1) : Int32), σ)) else (kf_l (f_X3_findingAt_1 σ a i) fun z2 => if z2.toInt = 0 then (kf_l (f_X3_valueAt_1 σ a i) fun z3 => kf_b (f_X4_answer_8 σ z3) fun z4 S5 => (z4, S5)) else (kf_b (f_X4_refuse_8 σ z2) fun z6 S7 => (z6, S7))) := rfl
abbrev p_X7_at_0 (σ : kw_S) (a : Int32) (i : Int32) : Option Value → kw_S → Prop := fun vv σ' => (kw_I bX σ' ∧ kw_F [8, 28] σ σ') ∧ ∃ r : Int32, vv = some (.int r) ∧ (r, σ') = f_X7_at_0 σ a i
set_option maxRecDepth 100000 in
set_option maxHeartbeats 4000000 in
theorem c_X7_at_0 (l : Launch) (σ : kw_S) (hI : kw_I bX σ) (a : Int32) (i : Int32) : kw_Met l 5 KX mX7_at [.ref 0, .int a, .int i] σ (p_X7_at_0 σ a i) := by
  have r_a := kw_rng a
  have r_i := kw_rng i
  have hF0 : kw_F [8, 28] σ σ := kw_F.rf
  have hF := (f_X7_at_0_u σ a i).symm
  have q_m1 : (-1 : Int32).toInt = -1 := rfl
  refine kw_Met.of (by decide) rfl tX7_at (Nat.le_of_ble_eq_true rfl) ?_
  show kw_AW l 5 kw_E0 KX mX7_at (p_X7_at_0 σ a i) 0 [(0, .ref 0), (1, .int a), (2, .int i)] [] σ
  refine kw_aload_n (pc := 0) (i := 0) (k := 0) (n := 0) rfl rfl rfl ?_
  refine kw_get (pc := 1) (i := 1) (v := .ref 1) rfl rfl rfl lkX7_14 (fun _ => rfl) ?_
  refine kw_iload_n (pc := 4) (i := 2) (k := 1) (n := 1) rfl rfl rfl ?_
  refine kw_callV (pc := 5) (i := 3) (Y := mX3_has) (a := 1) (As := [.int a]) (st := []) kw_hE rfl rfl lvX7_73 arX3_has (c_X3_has_1 l σ hI a ) (by decide) (Nat.le_of_ble_eq_true rfl) rfl (fun v S2 p1 => ?_)
  obtain ⟨e8, z7, rfl, f3, f4, f5, ef6⟩ := p1
  rw [e8]
  replace hF := kf_le ef6 hF
  have r_z7 := kw_rng z7
  show kw_AW l 5 kw_E0 KX mX7_at (p_X7_at_0 σ a i) 8 [(0, .ref 0), (1, .int a), (2, .int i)] [.int z7] σ
  refine kw_if_ne (pc := 8) (i := 4) (tgt := 13) rfl rfl (fun c9 => ?_) (fun c9 => ?_)
  · replace hF := kf_n c9 hF
    refine kw_aload_n (pc := 13) (i := 7) (k := 0) (n := 0) rfl rfl rfl ?_
    refine kw_get (pc := 14) (i := 8) (v := .ref 1) rfl rfl rfl lkX7_14 (fun _ => rfl) ?_
    refine kw_iload_n (pc := 17) (i := 9) (k := 1) (n := 1) rfl rfl rfl ?_
    refine kw_iload_n (pc := 18) (i := 10) (k := 2) (n := 2) rfl rfl rfl ?_
    refine kw_callV (pc := 19) (i := 11) (Y := mX3_findingAt) (a := 1) (As := [.int a, .int i]) (st := []) kw_hE rfl rfl lvX7_77 arX3_findingAt (c_X3_findingAt_1 l σ hI a i ) (by decide) (Nat.le_of_ble_eq_true rfl) rfl (fun v S11 p10 => ?_)
    obtain ⟨e14, z13, rfl, ef12⟩ := p10
    rw [e14]
    replace hF := kf_le ef12 hF
    have r_z13 := kw_rng z13
    show kw_AW l 5 kw_E0 KX mX7_at (p_X7_at_0 σ a i) 22 [(0, .ref 0), (1, .int a), (2, .int i)] [.int z13] σ
    refine kw_istore_n (pc := 22) (i := 12) (n := 3) (lv' := [(3, .int z13), (0, .ref 0), (1, .int a), (2, .int i)]) rfl rfl (by decide) rfl ?_
    refine kw_iload_n (pc := 23) (i := 13) (k := 0) (n := 3) rfl rfl rfl ?_
    refine kw_if_eq (pc := 24) (i := 14) (tgt := 36) rfl rfl (fun c15 => ?_) (fun c15 => ?_)
    · replace hF := kf_p c15 hF
      refine kw_aload_n (pc := 36) (i := 20) (k := 1) (n := 0) rfl rfl rfl ?_
      refine kw_get (pc := 37) (i := 21) (v := .ref 8) rfl rfl rfl lkX7_55 (fun _ => rfl) ?_
      refine kw_aload_n (pc := 40) (i := 22) (k := 1) (n := 0) rfl rfl rfl ?_
      refine kw_get (pc := 41) (i := 23) (v := .ref 1) rfl rfl rfl lkX7_14 (fun _ => rfl) ?_
      refine kw_iload_n (pc := 44) (i := 24) (k := 2) (n := 1) rfl rfl rfl ?_
      refine kw_iload_n (pc := 45) (i := 25) (k := 3) (n := 2) rfl rfl rfl ?_
      refine kw_callV (pc := 46) (i := 26) (Y := mX3_valueAt) (a := 1) (As := [.int a, .int i]) (st := [.ref 8]) kw_hE rfl rfl lvX7_85 arX3_valueAt (c_X3_valueAt_1 l σ hI a i ) (by decide) (Nat.le_of_ble_eq_true rfl) rfl (fun v S17 p16 => ?_)
      obtain ⟨e20, z19, rfl, ef18⟩ := p16
      rw [e20]
      replace hF := kf_le ef18 hF
      have r_z19 := kw_rng z19
      show kw_AW l 5 kw_E0 KX mX7_at (p_X7_at_0 σ a i) 49 [(3, .int z13), (0, .ref 0), (1, .int a), (2, .int i)] [.int z19, .ref 8] σ
      refine kw_callV (pc := 49) (i := 27) (Y := mX4_answer) (a := 8) (As := [.int z19]) (st := []) kw_hE rfl rfl lvX7_92 arX4_answer (c_X4_answer_8 l σ hI z19 ) (by decide) (Nat.le_of_ble_eq_true rfl) rfl (fun v S22 p21 => ?_)
      obtain ⟨⟨I26, F27⟩, z25, rfl, f23, ef24⟩ := p21
      have F28 : kw_F [8, 28] σ S22 := kw_F.tr hF0 F27 (by decide)
      replace hF := kf_be ef24 hF
      have r_z25 := kw_rng z25
      show kw_AW l 5 kw_E0 KX mX7_at (p_X7_at_0 σ a i) 52 [(3, .int z13), (0, .ref 0), (1, .int a), (2, .int i)] [.int z25] S22
      exact kw_ireturn (pc := 52) (i := 28) (ty := .int) rfl rfl rfl ⟨⟨I26, F28⟩, _, rfl, hF⟩
    · replace hF := kf_n c15 hF
      refine kw_aload_n (pc := 27) (i := 15) (k := 1) (n := 0) rfl rfl rfl ?_
      refine kw_get (pc := 28) (i := 16) (v := .ref 8) rfl rfl rfl lkX7_55 (fun _ => rfl) ?_
      refine kw_iload_n (pc := 31) (i := 17) (k := 0) (n := 3) rfl rfl rfl ?_
      refine kw_callV (pc := 32) (i := 18) (Y := mX4_refuse) (a := 8) (As := [.int z13]) (st := []) kw_hE rfl rfl lvX7_81 arX4_refuse (c_X4_refuse_8 l σ hI z13 ) (by decide) (Nat.le_of_ble_eq_true rfl) rfl (fun v S30 p29 => ?_)
      obtain ⟨⟨I34, F35⟩, z33, rfl, f31, ef32⟩ := p29
      have F36 : kw_F [8, 28] σ S30 := kw_F.tr hF0 F35 (by decide)
      replace hF := kf_be ef32 hF
      have r_z33 := kw_rng z33
      show kw_AW l 5 kw_E0 KX mX7_at (p_X7_at_0 σ a i) 35 [(3, .int z13), (0, .ref 0), (1, .int a), (2, .int i)] [.int z33] S30
      exact kw_ireturn (pc := 35) (i := 19) (ty := .int) rfl rfl rfl ⟨⟨I34, F36⟩, _, rfl, hF⟩
  · replace hF := kf_p c9 hF
    refine kw_iconst (pc := 11) (i := 5) (v := (-1)) rfl rfl ?_
    exact kw_ireturn (pc := 12) (i := 6) (ty := .int) rfl rfl rfl ⟨⟨hI, hF0⟩, _, rfl, hF⟩
noncomputable def f_X7_tear_0 (σ : kw_S) (a : Int32) : Int32 × kw_S := kf_l (f_X3_has_1 σ a) fun z1 => if z1.toInt = 0 then ((((-1) : Int32), σ)) else (kf_l (f_X3_isMissing_1 σ a) fun z2 => if z2.toInt = 0 then (kf_l (f_X3_drop_1 σ a) fun S3 => ((1 : Int32), S3)) else (kf_b (f_X4_refuse_8 σ (1 : Int32)) fun z4 S5 => (z4, S5)))
theorem f_X7_tear_0_u (σ : kw_S) (a : Int32) : f_X7_tear_0 σ a = kf_l (f_X3_has_1 σ a) fun z1 => if z1.toInt = 0 then ((((-1) : Int32), σ)) else (kf_l (f_X3_isMissing_1 σ a) fun z2 => if z2.toInt = 0 then (kf_l (f_X3_drop_1 σ a) fun S3 => ((1 : Int32), S3)) else (kf_b (f_X4_refuse_8 σ (1 : Int32)) fun z4 S5 => (z4, S5))) := rfl
abbrev p_X7_tear_0 (σ : kw_S) (a : Int32) : Option Value → kw_S → Prop := fun vv σ' => (kw_I bX σ' ∧ kw_F [8, 28, 13, 29, 30, 31, 32, 33, 34] σ σ') ∧ ∃ r : Int32, vv = some (.int r) ∧ (r, σ') = f_X7_tear_0 σ a
set_option maxRecDepth 100000 in
set_option maxHeartbeats 4000000 in
theorem c_X7_tear_0 (l : Launch) (σ : kw_S) (hI : kw_I bX σ) (a : Int32) : kw_Met l 4 KX mX7_tear [.ref 0, .int a] σ (p_X7_tear_0 σ a) := by
  have r_a := kw_rng a
  have hF0 : kw_F [8, 28, 13, 29, 30, 31, 32, 33, 34] σ σ := kw_F.rf
  have hF := (f_X7_tear_0_u σ a).symm
  have q_m1 : (-1 : Int32).toInt = -1 := rfl
  have q_1 : (1 : Int32).toInt = 1 := rfl
  refine kw_Met.of (by decide) rfl tX7_tear (Nat.le_of_ble_eq_true rfl) ?_
  show kw_AW l 4 kw_E0 KX mX7_tear (p_X7_tear_0 σ a) 0 [(0, .ref 0), (1, .int a)] [] σ
  refine kw_aload_n (pc := 0) (i := 0) (k := 0) (n := 0) rfl rfl rfl ?_
  refine kw_get (pc := 1) (i := 1) (v := .ref 1) rfl rfl rfl lkX7_14 (fun _ => rfl) ?_
  refine kw_iload_n (pc := 4) (i := 2) (k := 1) (n := 1) rfl rfl rfl ?_
  refine kw_callV (pc := 5) (i := 3) (Y := mX3_has) (a := 1) (As := [.int a]) (st := []) kw_hE rfl rfl lvX7_73 arX3_has (c_X3_has_1 l σ hI a ) (by decide) (Nat.le_of_ble_eq_true rfl) rfl (fun v S2 p1 => ?_)
  obtain ⟨e8, z7, rfl, f3, f4, f5, ef6⟩ := p1
  rw [e8]
  replace hF := kf_le ef6 hF
  have r_z7 := kw_rng z7
  show kw_AW l 4 kw_E0 KX mX7_tear (p_X7_tear_0 σ a) 8 [(0, .ref 0), (1, .int a)] [.int z7] σ
  refine kw_if_ne (pc := 8) (i := 4) (tgt := 13) rfl rfl (fun c9 => ?_) (fun c9 => ?_)
  · replace hF := kf_n c9 hF
    refine kw_aload_n (pc := 13) (i := 7) (k := 0) (n := 0) rfl rfl rfl ?_
    refine kw_get (pc := 14) (i := 8) (v := .ref 1) rfl rfl rfl lkX7_14 (fun _ => rfl) ?_
    refine kw_iload_n (pc := 17) (i := 9) (k := 1) (n := 1) rfl rfl rfl ?_
    refine kw_callV (pc := 18) (i := 10) (Y := mX3_isMissing) (a := 1) (As := [.int a]) (st := []) kw_hE rfl rfl lvX7_95 arX3_isMissing (c_X3_isMissing_1 l σ hI a ) (by decide) (Nat.le_of_ble_eq_true rfl) rfl (fun v S11 p10 => ?_)
    obtain ⟨e16, z15, rfl, f12, f13, ef14⟩ := p10
    rw [e16]
    replace hF := kf_le ef14 hF
    have r_z15 := kw_rng z15
    show kw_AW l 4 kw_E0 KX mX7_tear (p_X7_tear_0 σ a) 21 [(0, .ref 0), (1, .int a)] [.int z15] σ
    refine kw_if_eq (pc := 21) (i := 11) (tgt := 33) rfl rfl (fun c17 => ?_) (fun c17 => ?_)
    · replace hF := kf_p c17 hF
      refine kw_aload_n (pc := 33) (i := 17) (k := 0) (n := 0) rfl rfl rfl ?_
      refine kw_get (pc := 34) (i := 18) (v := .ref 1) rfl rfl rfl lkX7_14 (fun _ => rfl) ?_
      refine kw_iload_n (pc := 37) (i := 19) (k := 1) (n := 1) rfl rfl rfl ?_
      refine kw_callV (pc := 38) (i := 20) (Y := mX3_drop) (a := 1) (As := [.int a]) (st := []) kw_hE rfl rfl lvX7_98 arX3_drop (c_X3_drop_1 l σ hI a ) (by decide) (Nat.le_of_ble_eq_true rfl) rfl (fun v S19 p18 => ?_)
      obtain ⟨⟨I21, F22⟩, rfl, ef20⟩ := p18
      have F23 : kw_F [8, 28, 13, 29, 30, 31, 32, 33, 34] σ S19 := kw_F.tr hF0 F22 (by decide)
      replace hF := kf_le ef20 hF
      show kw_AW l 4 kw_E0 KX mX7_tear (p_X7_tear_0 σ a) 41 [(0, .ref 0), (1, .int a)] [] S19
      refine kw_iconst (pc := 41) (i := 21) (v := 1) rfl rfl ?_
      exact kw_ireturn (pc := 42) (i := 22) (ty := .int) rfl rfl rfl ⟨⟨I21, F23⟩, _, rfl, hF⟩
    · replace hF := kf_n c17 hF
      refine kw_aload_n (pc := 24) (i := 12) (k := 0) (n := 0) rfl rfl rfl ?_
      refine kw_get (pc := 25) (i := 13) (v := .ref 8) rfl rfl rfl lkX7_55 (fun _ => rfl) ?_
      refine kw_iconst (pc := 28) (i := 14) (v := 1) rfl rfl ?_
      refine kw_callV (pc := 29) (i := 15) (Y := mX4_refuse) (a := 8) (As := [.int 1]) (st := []) kw_hE rfl rfl lvX7_81 arX4_refuse (c_X4_refuse_8 l σ hI 1 ) (by decide) (Nat.le_of_ble_eq_true rfl) rfl (fun v S25 p24 => ?_)
      obtain ⟨⟨I29, F30⟩, z28, rfl, f26, ef27⟩ := p24
      have F31 : kw_F [8, 28, 13, 29, 30, 31, 32, 33, 34] σ S25 := kw_F.tr hF0 F30 (by decide)
      replace hF := kf_be ef27 hF
      have r_z28 := kw_rng z28
      show kw_AW l 4 kw_E0 KX mX7_tear (p_X7_tear_0 σ a) 32 [(0, .ref 0), (1, .int a)] [.int z28] S25
      exact kw_ireturn (pc := 32) (i := 16) (ty := .int) rfl rfl rfl ⟨⟨I29, F31⟩, _, rfl, hF⟩
  · replace hF := kf_p c9 hF
    refine kw_iconst (pc := 11) (i := 5) (v := (-1)) rfl rfl ?_
    exact kw_ireturn (pc := 12) (i := 6) (ty := .int) rfl rfl rfl ⟨⟨hI, hF0⟩, _, rfl, hF⟩
noncomputable def f_X7_copy_0 (σ : kw_S) (a : Int32) (i : Int32) (t : Int32) (j : Int32) (n : Int32) : Int32 × kw_S := kf_l (f_X3_has_1 σ a) fun z1 => if z1.toInt = 0 then ((((-1) : Int32), σ)) else (kf_l (f_X3_has_1 σ t) fun z2 => if z2.toInt = 0 then ((((-1) : Int32), σ)) else (if n.toInt < 0 then (kf_b (f_X4_refuse_8 σ (5 : Int32)) fun z16 S17 => (z16, S17)) else (kf_l (f_X3_isMissing_1 σ a) fun z3 => if z3.toInt = 0 then (kf_l (f_X3_isMissing_1 σ t) fun z6 => if z6.toInt = 0 then (kf_l (f_X3_hasPlaces_1 σ a i n) fun z7 => if z7.toInt = 0 then (kf_b (f_X4_refuse_8 σ (2 : Int32)) fun z8 S9 => (z8, S9)) else (kf_l (f_X3_hasPlaces_1 σ t j n) fun z10 => if z10.toInt = 0 then (kf_b (f_X4_refuse_8 σ (2 : Int32)) fun z12 S13 => (z12, S13)) else (kf_l (f_X3_move_1 σ a i t j n) fun S11 => ((1 : Int32), S11)))) else (kf_b (f_X4_refuse_8 σ (1 : Int32)) fun z14 S15 => (z14, S15))) else (kf_b (f_X4_refuse_8 σ (1 : Int32)) fun z4 S5 => (z4, S5)))))
theorem f_X7_copy_0_u (σ : kw_S) (a : Int32) (i : Int32) (t : Int32) (j : Int32) (n : Int32) : f_X7_copy_0 σ a i t j n = kf_l (f_X3_has_1 σ a) fun z1 => if z1.toInt = 0 then ((((-1) : Int32), σ)) else (kf_l (f_X3_has_1 σ t) fun z2 => if z2.toInt = 0 then ((((-1) : Int32), σ)) else (if n.toInt < 0 then (kf_b (f_X4_refuse_8 σ (5 : Int32)) fun z16 S17 => (z16, S17)) else (kf_l (f_X3_isMissing_1 σ a) fun z3 => if z3.toInt = 0 then (kf_l (f_X3_isMissing_1 σ t) fun z6 => if z6.toInt = 0 then (kf_l (f_X3_hasPlaces_1 σ a i n) fun z7 => if z7.toInt = 0 then (kf_b (f_X4_refuse_8 σ (2 : Int32)) fun z8 S9 => (z8, S9)) else (kf_l (f_X3_hasPlaces_1 σ t j n) fun z10 => if z10.toInt = 0 then (kf_b (f_X4_refuse_8 σ (2 : Int32)) fun z12 S13 => (z12, S13)) else (kf_l (f_X3_move_1 σ a i t j n) fun S11 => ((1 : Int32), S11)))) else (kf_b (f_X4_refuse_8 σ (1 : Int32)) fun z14 S15 => (z14, S15))) else (kf_b (f_X4_refuse_8 σ (1 : Int32)) fun z4 S5 => (z4, S5))))) := rfl
abbrev p_X7_copy_0 (σ : kw_S) (a : Int32) (i : Int32) (t : Int32) (j : Int32) (n : Int32) : Option Value → kw_S → Prop := fun vv σ' => (kw_I bX σ' ∧ kw_F [8, 28, 13, 29, 30, 31, 32, 33, 34] σ σ') ∧ ∃ r : Int32, vv = some (.int r) ∧ (r, σ') = f_X7_copy_0 σ a i t j n
set_option maxRecDepth 100000 in
set_option maxHeartbeats 4000000 in
theorem c_X7_copy_0 (l : Launch) (σ : kw_S) (hI : kw_I bX σ) (a : Int32) (i : Int32) (t : Int32) (j : Int32) (n : Int32) : kw_Met l 4 KX mX7_copy [.ref 0, .int a, .int i, .int t, .int j, .int n] σ (p_X7_copy_0 σ a i t j n) := by
  have r_a := kw_rng a
  have r_i := kw_rng i
  have r_t := kw_rng t
  have r_j := kw_rng j
  have r_n := kw_rng n
  have hF0 : kw_F [8, 28, 13, 29, 30, 31, 32, 33, 34] σ σ := kw_F.rf
  have hF := (f_X7_copy_0_u σ a i t j n).symm
  have q_m1 : (-1 : Int32).toInt = -1 := rfl
  have q_1 : (1 : Int32).toInt = 1 := rfl
  have q_2 : (2 : Int32).toInt = 2 := rfl
  have q_5 : (5 : Int32).toInt = 5 := rfl
  refine kw_Met.of (by decide) rfl tX7_copy (Nat.le_of_ble_eq_true rfl) ?_
  show kw_AW l 4 kw_E0 KX mX7_copy (p_X7_copy_0 σ a i t j n) 0 [(0, .ref 0), (1, .int a), (2, .int i), (3, .int t), (4, .int j), (5, .int n)] [] σ
  refine kw_aload_n (pc := 0) (i := 0) (k := 0) (n := 0) rfl rfl rfl ?_
  refine kw_get (pc := 1) (i := 1) (v := .ref 1) rfl rfl rfl lkX7_14 (fun _ => rfl) ?_
  refine kw_iload_n (pc := 4) (i := 2) (k := 1) (n := 1) rfl rfl rfl ?_
  refine kw_callV (pc := 5) (i := 3) (Y := mX3_has) (a := 1) (As := [.int a]) (st := []) kw_hE rfl rfl lvX7_73 arX3_has (c_X3_has_1 l σ hI a ) (by decide) (Nat.le_of_ble_eq_true rfl) rfl (fun v S2 p1 => ?_)
  obtain ⟨e8, z7, rfl, f3, f4, f5, ef6⟩ := p1
  rw [e8]
  replace hF := kf_le ef6 hF
  have r_z7 := kw_rng z7
  show kw_AW l 4 kw_E0 KX mX7_copy (p_X7_copy_0 σ a i t j n) 8 [(0, .ref 0), (1, .int a), (2, .int i), (3, .int t), (4, .int j), (5, .int n)] [.int z7] σ
  refine kw_if_eq (pc := 8) (i := 4) (tgt := 22) rfl rfl (fun c9 => ?_) (fun c9 => ?_)
  · replace hF := kf_p c9 hF
    refine kw_iconst (pc := 22) (i := 10) (v := (-1)) rfl rfl ?_
    exact kw_ireturn (pc := 23) (i := 11) (ty := .int) rfl rfl rfl ⟨⟨hI, hF0⟩, _, rfl, hF⟩
  · replace hF := kf_n c9 hF
    refine kw_aload_n (pc := 11) (i := 5) (k := 0) (n := 0) rfl rfl rfl ?_
    refine kw_get (pc := 12) (i := 6) (v := .ref 1) rfl rfl rfl lkX7_14 (fun _ => rfl) ?_
    refine kw_iload_n (pc := 15) (i := 7) (k := 3) (n := 3) rfl rfl rfl ?_
    refine kw_callV (pc := 16) (i := 8) (Y := mX3_has) (a := 1) (As := [.int t]) (st := []) kw_hE rfl rfl lvX7_73 arX3_has (c_X3_has_1 l σ hI t ) (by decide) (Nat.le_of_ble_eq_true rfl) rfl (fun v S11 p10 => ?_)
    obtain ⟨e17, z16, rfl, f12, f13, f14, ef15⟩ := p10
    rw [e17]
    replace hF := kf_le ef15 hF
    have r_z16 := kw_rng z16
    show kw_AW l 4 kw_E0 KX mX7_copy (p_X7_copy_0 σ a i t j n) 19 [(0, .ref 0), (1, .int a), (2, .int i), (3, .int t), (4, .int j), (5, .int n)] [.int z16] σ
    refine kw_if_ne (pc := 19) (i := 9) (tgt := 24) rfl rfl (fun c18 => ?_) (fun c18 => ?_)
    · replace hF := kf_n c18 hF
      refine kw_iload (pc := 24) (i := 12) (k := 5) (n := 5) rfl rfl ?_
      refine kw_if_ge (pc := 26) (i := 13) (tgt := 38) rfl rfl (fun c19 => ?_) (fun c19 => ?_)
      · replace hF := kf_nl c19 hF
        refine kw_aload_n (pc := 38) (i := 19) (k := 0) (n := 0) rfl rfl rfl ?_
        refine kw_get (pc := 39) (i := 20) (v := .ref 1) rfl rfl rfl lkX7_14 (fun _ => rfl) ?_
        refine kw_iload_n (pc := 42) (i := 21) (k := 1) (n := 1) rfl rfl rfl ?_
        refine kw_callV (pc := 43) (i := 22) (Y := mX3_isMissing) (a := 1) (As := [.int a]) (st := []) kw_hE rfl rfl lvX7_95 arX3_isMissing (c_X3_isMissing_1 l σ hI a ) (by decide) (Nat.le_of_ble_eq_true rfl) rfl (fun v S21 p20 => ?_)
        obtain ⟨e26, z25, rfl, f22, f23, ef24⟩ := p20
        rw [e26]
        replace hF := kf_le ef24 hF
        have r_z25 := kw_rng z25
        show kw_AW l 4 kw_E0 KX mX7_copy (p_X7_copy_0 σ a i t j n) 46 [(0, .ref 0), (1, .int a), (2, .int i), (3, .int t), (4, .int j), (5, .int n)] [.int z25] σ
        refine kw_if_ne (pc := 46) (i := 23) (tgt := 60) rfl rfl (fun c27 => ?_) (fun c27 => ?_)
        · replace hF := kf_n c27 hF
          refine kw_aload_n (pc := 60) (i := 29) (k := 0) (n := 0) rfl rfl rfl ?_
          refine kw_get (pc := 61) (i := 30) (v := .ref 8) rfl rfl rfl lkX7_55 (fun _ => rfl) ?_
          refine kw_iconst (pc := 64) (i := 31) (v := 1) rfl rfl ?_
          refine kw_callV (pc := 65) (i := 32) (Y := mX4_refuse) (a := 8) (As := [.int 1]) (st := []) kw_hE rfl rfl lvX7_81 arX4_refuse (c_X4_refuse_8 l σ hI 1 ) (by decide) (Nat.le_of_ble_eq_true rfl) rfl (fun v S29 p28 => ?_)
          obtain ⟨⟨I33, F34⟩, z32, rfl, f30, ef31⟩ := p28
          have F35 : kw_F [8, 28, 13, 29, 30, 31, 32, 33, 34] σ S29 := kw_F.tr hF0 F34 (by decide)
          replace hF := kf_be ef31 hF
          have r_z32 := kw_rng z32
          show kw_AW l 4 kw_E0 KX mX7_copy (p_X7_copy_0 σ a i t j n) 68 [(0, .ref 0), (1, .int a), (2, .int i), (3, .int t), (4, .int j), (5, .int n)] [.int z32] S29
          exact kw_ireturn (pc := 68) (i := 33) (ty := .int) rfl rfl rfl ⟨⟨I33, F35⟩, _, rfl, hF⟩
        · replace hF := kf_p c27 hF
          refine kw_aload_n (pc := 49) (i := 24) (k := 0) (n := 0) rfl rfl rfl ?_
          refine kw_get (pc := 50) (i := 25) (v := .ref 1) rfl rfl rfl lkX7_14 (fun _ => rfl) ?_
          refine kw_iload_n (pc := 53) (i := 26) (k := 3) (n := 3) rfl rfl rfl ?_
          refine kw_callV (pc := 54) (i := 27) (Y := mX3_isMissing) (a := 1) (As := [.int t]) (st := []) kw_hE rfl rfl lvX7_95 arX3_isMissing (c_X3_isMissing_1 l σ hI t ) (by decide) (Nat.le_of_ble_eq_true rfl) rfl (fun v S37 p36 => ?_)
          obtain ⟨e42, z41, rfl, f38, f39, ef40⟩ := p36
          rw [e42]
          replace hF := kf_le ef40 hF
          have r_z41 := kw_rng z41
          show kw_AW l 4 kw_E0 KX mX7_copy (p_X7_copy_0 σ a i t j n) 57 [(0, .ref 0), (1, .int a), (2, .int i), (3, .int t), (4, .int j), (5, .int n)] [.int z41] σ
          refine kw_if_eq (pc := 57) (i := 28) (tgt := 69) rfl rfl (fun c43 => ?_) (fun c43 => ?_)
          · replace hF := kf_p c43 hF
            refine kw_aload_n (pc := 69) (i := 34) (k := 0) (n := 0) rfl rfl rfl ?_
            refine kw_get (pc := 70) (i := 35) (v := .ref 1) rfl rfl rfl lkX7_14 (fun _ => rfl) ?_
            refine kw_iload_n (pc := 73) (i := 36) (k := 1) (n := 1) rfl rfl rfl ?_
            refine kw_iload_n (pc := 74) (i := 37) (k := 2) (n := 2) rfl rfl rfl ?_
            refine kw_iload (pc := 75) (i := 38) (k := 5) (n := 5) rfl rfl ?_
            refine kw_callV (pc := 77) (i := 39) (Y := mX3_hasPlaces) (a := 1) (As := [.int a, .int i, .int n]) (st := []) kw_hE rfl rfl lvX7_102 arX3_hasPlaces (c_X3_hasPlaces_1 l σ hI a i n ) (by decide) (Nat.le_of_ble_eq_true rfl) rfl (fun v S45 p44 => ?_)
            obtain ⟨e50, z49, rfl, f46, f47, ef48⟩ := p44
            rw [e50]
            replace hF := kf_le ef48 hF
            have r_z49 := kw_rng z49
            show kw_AW l 4 kw_E0 KX mX7_copy (p_X7_copy_0 σ a i t j n) 80 [(0, .ref 0), (1, .int a), (2, .int i), (3, .int t), (4, .int j), (5, .int n)] [.int z49] σ
            refine kw_if_eq (pc := 80) (i := 40) (tgt := 98) rfl rfl (fun c51 => ?_) (fun c51 => ?_)
            · replace hF := kf_p c51 hF
              refine kw_aload_n (pc := 98) (i := 48) (k := 0) (n := 0) rfl rfl rfl ?_
              refine kw_get (pc := 99) (i := 49) (v := .ref 8) rfl rfl rfl lkX7_55 (fun _ => rfl) ?_
              refine kw_iconst (pc := 102) (i := 50) (v := 2) rfl rfl ?_
              refine kw_callV (pc := 103) (i := 51) (Y := mX4_refuse) (a := 8) (As := [.int 2]) (st := []) kw_hE rfl rfl lvX7_81 arX4_refuse (c_X4_refuse_8 l σ hI 2 ) (by decide) (Nat.le_of_ble_eq_true rfl) rfl (fun v S53 p52 => ?_)
              obtain ⟨⟨I57, F58⟩, z56, rfl, f54, ef55⟩ := p52
              have F59 : kw_F [8, 28, 13, 29, 30, 31, 32, 33, 34] σ S53 := kw_F.tr hF0 F58 (by decide)
              replace hF := kf_be ef55 hF
              have r_z56 := kw_rng z56
              show kw_AW l 4 kw_E0 KX mX7_copy (p_X7_copy_0 σ a i t j n) 106 [(0, .ref 0), (1, .int a), (2, .int i), (3, .int t), (4, .int j), (5, .int n)] [.int z56] S53
              exact kw_ireturn (pc := 106) (i := 52) (ty := .int) rfl rfl rfl ⟨⟨I57, F59⟩, _, rfl, hF⟩
            · replace hF := kf_n c51 hF
              refine kw_aload_n (pc := 83) (i := 41) (k := 0) (n := 0) rfl rfl rfl ?_
              refine kw_get (pc := 84) (i := 42) (v := .ref 1) rfl rfl rfl lkX7_14 (fun _ => rfl) ?_
              refine kw_iload_n (pc := 87) (i := 43) (k := 3) (n := 3) rfl rfl rfl ?_
              refine kw_iload (pc := 88) (i := 44) (k := 4) (n := 4) rfl rfl ?_
              refine kw_iload (pc := 90) (i := 45) (k := 5) (n := 5) rfl rfl ?_
              refine kw_callV (pc := 92) (i := 46) (Y := mX3_hasPlaces) (a := 1) (As := [.int t, .int j, .int n]) (st := []) kw_hE rfl rfl lvX7_102 arX3_hasPlaces (c_X3_hasPlaces_1 l σ hI t j n ) (by decide) (Nat.le_of_ble_eq_true rfl) rfl (fun v S61 p60 => ?_)
              obtain ⟨e66, z65, rfl, f62, f63, ef64⟩ := p60
              rw [e66]
              replace hF := kf_le ef64 hF
              have r_z65 := kw_rng z65
              show kw_AW l 4 kw_E0 KX mX7_copy (p_X7_copy_0 σ a i t j n) 95 [(0, .ref 0), (1, .int a), (2, .int i), (3, .int t), (4, .int j), (5, .int n)] [.int z65] σ
              refine kw_if_ne (pc := 95) (i := 47) (tgt := 107) rfl rfl (fun c67 => ?_) (fun c67 => ?_)
              · replace hF := kf_n c67 hF
                refine kw_aload_n (pc := 107) (i := 53) (k := 0) (n := 0) rfl rfl rfl ?_
                refine kw_get (pc := 108) (i := 54) (v := .ref 1) rfl rfl rfl lkX7_14 (fun _ => rfl) ?_
                refine kw_iload_n (pc := 111) (i := 55) (k := 1) (n := 1) rfl rfl rfl ?_
                refine kw_iload_n (pc := 112) (i := 56) (k := 2) (n := 2) rfl rfl rfl ?_
                refine kw_iload_n (pc := 113) (i := 57) (k := 3) (n := 3) rfl rfl rfl ?_
                refine kw_iload (pc := 114) (i := 58) (k := 4) (n := 4) rfl rfl ?_
                refine kw_iload (pc := 116) (i := 59) (k := 5) (n := 5) rfl rfl ?_
                refine kw_callV (pc := 118) (i := 60) (Y := mX3_move) (a := 1) (As := [.int a, .int i, .int t, .int j, .int n]) (st := []) kw_hE rfl rfl lvX7_106 arX3_move (c_X3_move_1 l σ hI a i t j n ) (by decide) (Nat.le_of_ble_eq_true rfl) rfl (fun v S69 p68 => ?_)
                obtain ⟨⟨I71, F72⟩, rfl, ef70⟩ := p68
                have F73 : kw_F [8, 28, 13, 29, 30, 31, 32, 33, 34] σ S69 := kw_F.tr hF0 F72 (by decide)
                replace hF := kf_le ef70 hF
                show kw_AW l 4 kw_E0 KX mX7_copy (p_X7_copy_0 σ a i t j n) 121 [(0, .ref 0), (1, .int a), (2, .int i), (3, .int t), (4, .int j), (5, .int n)] [] S69
                refine kw_iconst (pc := 121) (i := 61) (v := 1) rfl rfl ?_
                exact kw_ireturn (pc := 122) (i := 62) (ty := .int) rfl rfl rfl ⟨⟨I71, F73⟩, _, rfl, hF⟩
              · replace hF := kf_p c67 hF
                refine kw_aload_n (pc := 98) (i := 48) (k := 0) (n := 0) rfl rfl rfl ?_
                refine kw_get (pc := 99) (i := 49) (v := .ref 8) rfl rfl rfl lkX7_55 (fun _ => rfl) ?_
                refine kw_iconst (pc := 102) (i := 50) (v := 2) rfl rfl ?_
                refine kw_callV (pc := 103) (i := 51) (Y := mX4_refuse) (a := 8) (As := [.int 2]) (st := []) kw_hE rfl rfl lvX7_81 arX4_refuse (c_X4_refuse_8 l σ hI 2 ) (by decide) (Nat.le_of_ble_eq_true rfl) rfl (fun v S75 p74 => ?_)
                obtain ⟨⟨I79, F80⟩, z78, rfl, f76, ef77⟩ := p74
                have F81 : kw_F [8, 28, 13, 29, 30, 31, 32, 33, 34] σ S75 := kw_F.tr hF0 F80 (by decide)
                replace hF := kf_be ef77 hF
                have r_z78 := kw_rng z78
                show kw_AW l 4 kw_E0 KX mX7_copy (p_X7_copy_0 σ a i t j n) 106 [(0, .ref 0), (1, .int a), (2, .int i), (3, .int t), (4, .int j), (5, .int n)] [.int z78] S75
                exact kw_ireturn (pc := 106) (i := 52) (ty := .int) rfl rfl rfl ⟨⟨I79, F81⟩, _, rfl, hF⟩
          · replace hF := kf_n c43 hF
            refine kw_aload_n (pc := 60) (i := 29) (k := 0) (n := 0) rfl rfl rfl ?_
            refine kw_get (pc := 61) (i := 30) (v := .ref 8) rfl rfl rfl lkX7_55 (fun _ => rfl) ?_
            refine kw_iconst (pc := 64) (i := 31) (v := 1) rfl rfl ?_
            refine kw_callV (pc := 65) (i := 32) (Y := mX4_refuse) (a := 8) (As := [.int 1]) (st := []) kw_hE rfl rfl lvX7_81 arX4_refuse (c_X4_refuse_8 l σ hI 1 ) (by decide) (Nat.le_of_ble_eq_true rfl) rfl (fun v S83 p82 => ?_)
            obtain ⟨⟨I87, F88⟩, z86, rfl, f84, ef85⟩ := p82
            have F89 : kw_F [8, 28, 13, 29, 30, 31, 32, 33, 34] σ S83 := kw_F.tr hF0 F88 (by decide)
            replace hF := kf_be ef85 hF
            have r_z86 := kw_rng z86
            show kw_AW l 4 kw_E0 KX mX7_copy (p_X7_copy_0 σ a i t j n) 68 [(0, .ref 0), (1, .int a), (2, .int i), (3, .int t), (4, .int j), (5, .int n)] [.int z86] S83
            exact kw_ireturn (pc := 68) (i := 33) (ty := .int) rfl rfl rfl ⟨⟨I87, F89⟩, _, rfl, hF⟩
      · replace hF := kf_p c19 hF
        refine kw_aload_n (pc := 29) (i := 14) (k := 0) (n := 0) rfl rfl rfl ?_
        refine kw_get (pc := 30) (i := 15) (v := .ref 8) rfl rfl rfl lkX7_55 (fun _ => rfl) ?_
        refine kw_iconst (pc := 33) (i := 16) (v := 5) rfl rfl ?_
        refine kw_callV (pc := 34) (i := 17) (Y := mX4_refuse) (a := 8) (As := [.int 5]) (st := []) kw_hE rfl rfl lvX7_81 arX4_refuse (c_X4_refuse_8 l σ hI 5 ) (by decide) (Nat.le_of_ble_eq_true rfl) rfl (fun v S91 p90 => ?_)
        obtain ⟨⟨I95, F96⟩, z94, rfl, f92, ef93⟩ := p90
        have F97 : kw_F [8, 28, 13, 29, 30, 31, 32, 33, 34] σ S91 := kw_F.tr hF0 F96 (by decide)
        replace hF := kf_be ef93 hF
        have r_z94 := kw_rng z94
        show kw_AW l 4 kw_E0 KX mX7_copy (p_X7_copy_0 σ a i t j n) 37 [(0, .ref 0), (1, .int a), (2, .int i), (3, .int t), (4, .int j), (5, .int n)] [.int z94] S91
        exact kw_ireturn (pc := 37) (i := 18) (ty := .int) rfl rfl rfl ⟨⟨I95, F97⟩, _, rfl, hF⟩
    · replace hF := kf_p c18 hF
      refine kw_iconst (pc := 22) (i := 10) (v := (-1)) rfl rfl ?_
      exact kw_ireturn (pc := 23) (i := 11) (ty := .int) rfl rfl rfl ⟨⟨hI, hF0⟩, _, rfl, hF⟩
noncomputable def l_X7_mean_0_61 (a1 : Int32) (a2 : Int32) (S : kw_S) : Nat → Int64 → Int32 → Int32 × kw_S
  | 0, _, _ => (0, S)
  | n + 1, x3, x5 => if x5.toInt < a2.toInt then (kf_l (f_X3_valueAt_1 S a1 x5) fun z9 => kf_l z9.toInt64 fun z10 => kf_l (x3 + z10) fun z11 => kf_l (x5 + Int32.ofInt 1) fun z12 => l_X7_mean_0_61 a1 a2 S n z11 z12) else (kf_l a2.toInt64 fun z4 => kf_l (x3 / z4) fun z5 => kf_l z5.toInt32 fun z6 => kf_b (f_X4_answer_8 S z6) fun z7 S8 => (z7, S8))
theorem l_X7_mean_0_61_s (a1 : Int32) (a2 : Int32) (S : kw_S) (n : Nat) (x3 : Int64) (x5 : Int32) : l_X7_mean_0_61 a1 a2 S (n + 1) x3 x5 = if x5.toInt < a2.toInt then (kf_l (f_X3_valueAt_1 S a1 x5) fun z9 => kf_l z9.toInt64 fun z10 => kf_l (x3 + z10) fun z11 => kf_l (x5 + Int32.ofInt 1) fun z12 => l_X7_mean_0_61 a1 a2 S n z11 z12) else (kf_l a2.toInt64 fun z4 => kf_l (x3 / z4) fun z5 => kf_l z5.toInt32 fun z6 => kf_b (f_X4_answer_8 S z6) fun z7 S8 => (z7, S8)) := rfl
noncomputable def f_X7_mean_0 (σ : kw_S) (a : Int32) : Int32 × kw_S := kf_l (f_X3_has_1 σ a) fun z1 => if z1.toInt = 0 then ((((-1) : Int32), σ)) else (kf_l (f_X3_isMissing_1 σ a) fun z2 => if z2.toInt = 0 then (kf_l (f_X3_sizeOf_1 σ a) fun z3 => if z3.toInt < (1 : Int32).toInt then (kf_b (f_X4_refuse_8 σ (4 : Int32)) fun z13 S14 => (z13, S14)) else (l_X7_mean_0_61 a z3 σ ((41 - (0 : Int32).toInt).toNat + 1) (0 : Int64) (0 : Int32))) else (kf_b (f_X4_refuse_8 σ (1 : Int32)) fun z15 S16 => (z15, S16)))
theorem f_X7_mean_0_u (σ : kw_S) (a : Int32) : f_X7_mean_0 σ a = kf_l (f_X3_has_1 σ a) fun z1 => if z1.toInt = 0 then ((((-1) : Int32), σ)) else (kf_l (f_X3_isMissing_1 σ a) fun z2 => if z2.toInt = 0 then (kf_l (f_X3_sizeOf_1 σ a) fun z3 => if z3.toInt < (1 : Int32).toInt then (kf_b (f_X4_refuse_8 σ (4 : Int32)) fun z13 S14 => (z13, S14)) else (l_X7_mean_0_61 a z3 σ ((41 - (0 : Int32).toInt).toNat + 1) (0 : Int64) (0 : Int32))) else (kf_b (f_X4_refuse_8 σ (1 : Int32)) fun z15 S16 => (z15, S16))) := rfl
abbrev p_X7_mean_0 (σ : kw_S) (a : Int32) : Option Value → kw_S → Prop := fun vv σ' => (kw_I bX σ' ∧ kw_F [8, 28] σ σ') ∧ ∃ r : Int32, vv = some (.int r) ∧ (r, σ') = f_X7_mean_0 σ a
set_option maxRecDepth 100000 in
set_option maxHeartbeats 4000000 in
theorem c_X7_mean_0 (l : Launch) (σ : kw_S) (hI : kw_I bX σ) (a : Int32) : kw_Met l 4 KX mX7_mean [.ref 0, .int a] σ (p_X7_mean_0 σ a) := by
  have r_a := kw_rng a
  have hF0 : kw_F [8, 28] σ σ := kw_F.rf
  have hF := (f_X7_mean_0_u σ a).symm
  have q_m1 : (-1 : Int32).toInt = -1 := rfl
  have q_0 : (0 : Int32).toInt = 0 := rfl
  have q_1 : (1 : Int32).toInt = 1 := rfl
  have q_4 : (4 : Int32).toInt = 4 := rfl
  refine kw_Met.of (by decide) rfl tX7_mean (Nat.le_of_ble_eq_true rfl) ?_
  show kw_AW l 4 kw_E0 KX mX7_mean (p_X7_mean_0 σ a) 0 [(0, .ref 0), (1, .int a)] [] σ
  refine kw_aload_n (pc := 0) (i := 0) (k := 0) (n := 0) rfl rfl rfl ?_
  refine kw_get (pc := 1) (i := 1) (v := .ref 1) rfl rfl rfl lkX7_14 (fun _ => rfl) ?_
  refine kw_iload_n (pc := 4) (i := 2) (k := 1) (n := 1) rfl rfl rfl ?_
  refine kw_callV (pc := 5) (i := 3) (Y := mX3_has) (a := 1) (As := [.int a]) (st := []) kw_hE rfl rfl lvX7_73 arX3_has (c_X3_has_1 l σ hI a ) (by decide) (Nat.le_of_ble_eq_true rfl) rfl (fun v S2 p1 => ?_)
  obtain ⟨e8, z7, rfl, f3, f4, f5, ef6⟩ := p1
  rw [e8]
  replace hF := kf_le ef6 hF
  have r_z7 := kw_rng z7
  show kw_AW l 4 kw_E0 KX mX7_mean (p_X7_mean_0 σ a) 8 [(0, .ref 0), (1, .int a)] [.int z7] σ
  refine kw_if_ne (pc := 8) (i := 4) (tgt := 13) rfl rfl (fun c9 => ?_) (fun c9 => ?_)
  · replace hF := kf_n c9 hF
    refine kw_aload_n (pc := 13) (i := 7) (k := 0) (n := 0) rfl rfl rfl ?_
    refine kw_get (pc := 14) (i := 8) (v := .ref 1) rfl rfl rfl lkX7_14 (fun _ => rfl) ?_
    refine kw_iload_n (pc := 17) (i := 9) (k := 1) (n := 1) rfl rfl rfl ?_
    refine kw_callV (pc := 18) (i := 10) (Y := mX3_isMissing) (a := 1) (As := [.int a]) (st := []) kw_hE rfl rfl lvX7_95 arX3_isMissing (c_X3_isMissing_1 l σ hI a ) (by decide) (Nat.le_of_ble_eq_true rfl) rfl (fun v S11 p10 => ?_)
    obtain ⟨e16, z15, rfl, f12, f13, ef14⟩ := p10
    rw [e16]
    replace hF := kf_le ef14 hF
    have r_z15 := kw_rng z15
    show kw_AW l 4 kw_E0 KX mX7_mean (p_X7_mean_0 σ a) 21 [(0, .ref 0), (1, .int a)] [.int z15] σ
    refine kw_if_eq (pc := 21) (i := 11) (tgt := 33) rfl rfl (fun c17 => ?_) (fun c17 => ?_)
    · replace hF := kf_p c17 hF
      refine kw_aload_n (pc := 33) (i := 17) (k := 0) (n := 0) rfl rfl rfl ?_
      refine kw_get (pc := 34) (i := 18) (v := .ref 1) rfl rfl rfl lkX7_14 (fun _ => rfl) ?_
      refine kw_iload_n (pc := 37) (i := 19) (k := 1) (n := 1) rfl rfl rfl ?_
      refine kw_callV (pc := 38) (i := 20) (Y := mX3_sizeOf) (a := 1) (As := [.int a]) (st := []) kw_hE rfl rfl lvX7_110 arX3_sizeOf (c_X3_sizeOf_1 l σ hI a ) (by decide) (Nat.le_of_ble_eq_true rfl) rfl (fun v S19 p18 => ?_)
      obtain ⟨e26, z25, rfl, f20, f21, f22, f23, ef24⟩ := p18
      rw [e26]
      replace hF := kf_le ef24 hF
      have r_z25 := kw_rng z25
      show kw_AW l 4 kw_E0 KX mX7_mean (p_X7_mean_0 σ a) 41 [(0, .ref 0), (1, .int a)] [.int z25] σ
      refine kw_istore_n (pc := 41) (i := 21) (n := 2) (lv' := [(2, .int z25), (0, .ref 0), (1, .int a)]) rfl rfl (by decide) rfl ?_
      refine kw_iload_n (pc := 42) (i := 22) (k := 0) (n := 2) rfl rfl rfl ?_
      refine kw_iconst (pc := 43) (i := 23) (v := 1) rfl rfl ?_
      refine kw_icmp_ge (pc := 44) (i := 24) (tgt := 56) rfl rfl (fun c27 => ?_) (fun c27 => ?_)
      · replace hF := kf_nl c27 hF
        refine kw_lconst (pc := 56) (i := 30) (v := 0) rfl rfl ?_
        refine kw_lstore_n (pc := 57) (i := 31) (n := 3) (lv' := [(3, .long 0), (2, .int z25), (0, .ref 0), (1, .int a)]) rfl rfl (by decide) rfl ?_
        refine kw_iconst (pc := 58) (i := 32) (v := 0) rfl rfl ?_
        refine kw_istore (pc := 59) (i := 33) (n := 5) (lv' := [(5, .int 0), (3, .long 0), (2, .int z25), (0, .ref 0), (1, .int a)]) rfl (by decide) rfl ?_
        have L30 : ∀ (n34 : Nat) (x28 : Int32) (x29 : Int64), 0 ≤ x28.toInt → l_X7_mean_0_61 a z25 σ n34 x29 x28 = (f_X7_mean_0 σ a) → (41 - x28.toInt).toNat < n34 → kw_AW l 4 kw_E0 KX mX7_mean (p_X7_mean_0 σ a) 61 [(5, .int x28), (3, .long x29), (2, .int z25), (0, .ref 0), (1, .int a)] [] σ := by
          intro n34
          induction n34 with
          | zero => intro x28 x29 v32 hF m33; exact absurd m33 (Nat.not_lt_zero _)
          | succ n34 ih31 =>
            intro x28 x29 v32 hF m33
            replace hF := kf_st (l_X7_mean_0_61_s _ _ _ _ _ _) hF
            have r_x28 := kw_rng x28
            refine kw_iload (pc := 61) (i := 34) (k := 0) (n := 5) rfl rfl ?_
            refine kw_iload_n (pc := 63) (i := 35) (k := 2) (n := 2) rfl rfl rfl ?_
            refine kw_icmp_ge (pc := 64) (i := 36) (tgt := 87) rfl rfl (fun c35 => ?_) (fun c35 => ?_)
            · replace hF := kf_nl c35 hF
              refine kw_aload_n (pc := 87) (i := 48) (k := 3) (n := 0) rfl rfl rfl ?_
              refine kw_get (pc := 88) (i := 49) (v := .ref 8) rfl rfl rfl lkX7_55 (fun _ => rfl) ?_
              refine kw_lload_n (pc := 91) (i := 50) (k := 1) (n := 3) rfl rfl rfl ?_
              refine kw_iload_n (pc := 92) (i := 51) (k := 2) (n := 2) rfl rfl rfl ?_
              refine kw_i2l (pc := 93) (i := 52) rfl (fun z36 e_z36 t_z36 => ?_)
              replace hF := kf_le e_z36 hF
              refine kw_ldiv (pc := 94) (i := 53) rfl (by omega) (fun z37 e_z37 => ?_)
              replace hF := kf_le e_z37 hF
              refine kw_l2i (pc := 95) (i := 54) rfl (fun z38 e_z38 => ?_)
              replace hF := kf_le e_z38 hF
              have r_z38 := kw_rng z38
              refine kw_callV (pc := 96) (i := 55) (Y := mX4_answer) (a := 8) (As := [.int z38]) (st := []) kw_hE rfl rfl lvX7_92 arX4_answer (c_X4_answer_8 l σ hI z38 ) (by decide) (Nat.le_of_ble_eq_true rfl) rfl (fun v S40 p39 => ?_)
              obtain ⟨⟨I44, F45⟩, z43, rfl, f41, ef42⟩ := p39
              have F46 : kw_F [8, 28] σ S40 := kw_F.tr hF0 F45 (by decide)
              replace hF := kf_be ef42 hF
              have r_z43 := kw_rng z43
              show kw_AW l 4 kw_E0 KX mX7_mean (p_X7_mean_0 σ a) 99 [(5, .int x28), (3, .long x29), (2, .int z25), (0, .ref 0), (1, .int a)] [.int z43] S40
              exact kw_ireturn (pc := 99) (i := 56) (ty := .int) rfl rfl rfl ⟨⟨I44, F46⟩, _, rfl, hF⟩
            · replace hF := kf_p c35 hF
              refine kw_lload_n (pc := 67) (i := 37) (k := 1) (n := 3) rfl rfl rfl ?_
              refine kw_aload_n (pc := 68) (i := 38) (k := 3) (n := 0) rfl rfl rfl ?_
              refine kw_get (pc := 69) (i := 39) (v := .ref 1) rfl rfl rfl lkX7_14 (fun _ => rfl) ?_
              refine kw_iload_n (pc := 72) (i := 40) (k := 4) (n := 1) rfl rfl rfl ?_
              refine kw_iload (pc := 73) (i := 41) (k := 0) (n := 5) rfl rfl ?_
              refine kw_callV (pc := 75) (i := 42) (Y := mX3_valueAt) (a := 1) (As := [.int a, .int x28]) (st := [.long x29]) kw_hE rfl rfl lvX7_85 arX3_valueAt (c_X3_valueAt_1 l σ hI a x28 ) (by decide) (Nat.le_of_ble_eq_true rfl) rfl (fun v S48 p47 => ?_)
              obtain ⟨e51, z50, rfl, ef49⟩ := p47
              rw [e51]
              replace hF := kf_le ef49 hF
              have r_z50 := kw_rng z50
              show kw_AW l 4 kw_E0 KX mX7_mean (p_X7_mean_0 σ a) 78 [(5, .int x28), (3, .long x29), (2, .int z25), (0, .ref 0), (1, .int a)] [.int z50, .long x29] σ
              refine kw_i2l (pc := 78) (i := 43) rfl (fun z52 e_z52 t_z52 => ?_)
              replace hF := kf_le e_z52 hF
              refine kw_ladd (pc := 79) (i := 44) rfl (fun z53 e_z53 => ?_)
              replace hF := kf_le e_z53 hF
              refine kw_lstore_n (pc := 80) (i := 45) (n := 3) (lv' := [(3, .long z53), (5, .int x28), (2, .int z25), (0, .ref 0), (1, .int a)]) rfl rfl (by decide) rfl ?_
              refine kw_iinc' (pc := 81) (i := 46) (k := 1) (fun z => [(5, .int z), (3, .long z53), (2, .int z25), (0, .ref 0), (1, .int a)]) rfl rfl (by decide) rfl (fun _ => rfl) (fun z54 e_z54 t_z54 => ?_)
              replace hF := kf_le e_z54 hF
              refine kw_goto (pc := 84) (i := 47) (tgt := 61) rfl rfl ?_
              refine kw_sub (lv' := [(5, .int z54), (3, .long z53), (2, .int z25), (0, .ref 0), (1, .int a)]) [0, 1, 2, 3, 4] rfl ?_
              exact ih31 z54 z53 (by omega) hF (by omega)
        exact L30 _ 0 0 (by omega) hF (Nat.lt_succ_self _)
      · replace hF := kf_p c27 hF
        refine kw_aload_n (pc := 47) (i := 25) (k := 1) (n := 0) rfl rfl rfl ?_
        refine kw_get (pc := 48) (i := 26) (v := .ref 8) rfl rfl rfl lkX7_55 (fun _ => rfl) ?_
        refine kw_iconst (pc := 51) (i := 27) (v := 4) rfl rfl ?_
        refine kw_callV (pc := 52) (i := 28) (Y := mX4_refuse) (a := 8) (As := [.int 4]) (st := []) kw_hE rfl rfl lvX7_81 arX4_refuse (c_X4_refuse_8 l σ hI 4 ) (by decide) (Nat.le_of_ble_eq_true rfl) rfl (fun v S56 p55 => ?_)
        obtain ⟨⟨I60, F61⟩, z59, rfl, f57, ef58⟩ := p55
        have F62 : kw_F [8, 28] σ S56 := kw_F.tr hF0 F61 (by decide)
        replace hF := kf_be ef58 hF
        have r_z59 := kw_rng z59
        show kw_AW l 4 kw_E0 KX mX7_mean (p_X7_mean_0 σ a) 55 [(2, .int z25), (0, .ref 0), (1, .int a)] [.int z59] S56
        exact kw_ireturn (pc := 55) (i := 29) (ty := .int) rfl rfl rfl ⟨⟨I60, F62⟩, _, rfl, hF⟩
    · replace hF := kf_n c17 hF
      refine kw_aload_n (pc := 24) (i := 12) (k := 0) (n := 0) rfl rfl rfl ?_
      refine kw_get (pc := 25) (i := 13) (v := .ref 8) rfl rfl rfl lkX7_55 (fun _ => rfl) ?_
      refine kw_iconst (pc := 28) (i := 14) (v := 1) rfl rfl ?_
      refine kw_callV (pc := 29) (i := 15) (Y := mX4_refuse) (a := 8) (As := [.int 1]) (st := []) kw_hE rfl rfl lvX7_81 arX4_refuse (c_X4_refuse_8 l σ hI 1 ) (by decide) (Nat.le_of_ble_eq_true rfl) rfl (fun v S64 p63 => ?_)
      obtain ⟨⟨I68, F69⟩, z67, rfl, f65, ef66⟩ := p63
      have F70 : kw_F [8, 28] σ S64 := kw_F.tr hF0 F69 (by decide)
      replace hF := kf_be ef66 hF
      have r_z67 := kw_rng z67
      show kw_AW l 4 kw_E0 KX mX7_mean (p_X7_mean_0 σ a) 32 [(0, .ref 0), (1, .int a)] [.int z67] S64
      exact kw_ireturn (pc := 32) (i := 16) (ty := .int) rfl rfl rfl ⟨⟨I68, F70⟩, _, rfl, hF⟩
  · replace hF := kf_p c9 hF
    refine kw_iconst (pc := 11) (i := 5) (v := (-1)) rfl rfl ?_
    exact kw_ireturn (pc := 12) (i := 6) (ty := .int) rfl rfl rfl ⟨⟨hI, hF0⟩, _, rfl, hF⟩
noncomputable def f_X7_put_0 (σ : kw_S) (a : Int32) (i : Int32) (v : Int32) : Int32 × kw_S := kf_l (f_X3_has_2 σ a) fun z1 => if z1.toInt = 0 then ((((-1) : Int32), σ)) else (kf_l (f_X3_findingAt_2 σ a i) fun z2 => if z2.toInt = 0 then (kf_l (f_X3_valueAt_2 σ a i) fun z3 => kf_l v.toInt8.toInt32 fun z4 => kf_l (f_X3_change_2 σ a i z4) fun S5 => kf_l (z3 + (1000 : Int32)) fun z6 => (z6, S5)) else (kf_b (f_X4_refuse_8 σ z2) fun z7 S8 => (z7, S8)))
theorem f_X7_put_0_u (σ : kw_S) (a : Int32) (i : Int32) (v : Int32) : f_X7_put_0 σ a i v = kf_l (f_X3_has_2 σ a) fun z1 => if z1.toInt = 0 then ((((-1) : Int32), σ)) else (kf_l (f_X3_findingAt_2 σ a i) fun z2 => if z2.toInt = 0 then (kf_l (f_X3_valueAt_2 σ a i) fun z3 => kf_l v.toInt8.toInt32 fun z4 => kf_l (f_X3_change_2 σ a i z4) fun S5 => kf_l (z3 + (1000 : Int32)) fun z6 => (z6, S5)) else (kf_b (f_X4_refuse_8 σ z2) fun z7 S8 => (z7, S8))) := rfl
abbrev p_X7_put_0 (σ : kw_S) (a : Int32) (i : Int32) (v : Int32) : Option Value → kw_S → Prop := fun vv σ' => (kw_I bX σ' ∧ kw_F [8, 28, 15, 35, 36, 37, 38] σ σ') ∧ ∃ r : Int32, vv = some (.int r) ∧ (r, σ') = f_X7_put_0 σ a i v
set_option maxRecDepth 100000 in
set_option maxHeartbeats 4000000 in
theorem c_X7_put_0 (l : Launch) (σ : kw_S) (hI : kw_I bX σ) (a : Int32) (i : Int32) (v : Int32) : kw_Met l 5 KX mX7_put [.ref 0, .int a, .int i, .int v] σ (p_X7_put_0 σ a i v) := by
  have r_a := kw_rng a
  have r_i := kw_rng i
  have r_v := kw_rng v
  have hF0 : kw_F [8, 28, 15, 35, 36, 37, 38] σ σ := kw_F.rf
  have hF := (f_X7_put_0_u σ a i v).symm
  have q_m1 : (-1 : Int32).toInt = -1 := rfl
  have q_1000 : (1000 : Int32).toInt = 1000 := rfl
  refine kw_Met.of (by decide) rfl tX7_put (Nat.le_of_ble_eq_true rfl) ?_
  show kw_AW l 5 kw_E0 KX mX7_put (p_X7_put_0 σ a i v) 0 [(0, .ref 0), (1, .int a), (2, .int i), (3, .int v)] [] σ
  refine kw_aload_n (pc := 0) (i := 0) (k := 0) (n := 0) rfl rfl rfl ?_
  refine kw_get (pc := 1) (i := 1) (v := .ref 2) rfl rfl rfl lkX7_18 (fun _ => rfl) ?_
  refine kw_iload_n (pc := 4) (i := 2) (k := 1) (n := 1) rfl rfl rfl ?_
  refine kw_callV (pc := 5) (i := 3) (Y := mX3_has) (a := 2) (As := [.int a]) (st := []) kw_hE rfl rfl lvX7_73 arX3_has (c_X3_has_2 l σ hI a ) (by decide) (Nat.le_of_ble_eq_true rfl) rfl (fun v S2 p1 => ?_)
  obtain ⟨e8, z7, rfl, f3, f4, f5, ef6⟩ := p1
  rw [e8]
  replace hF := kf_le ef6 hF
  have r_z7 := kw_rng z7
  show kw_AW l 5 kw_E0 KX mX7_put (p_X7_put_0 σ a i v) 8 [(0, .ref 0), (1, .int a), (2, .int i), (3, .int v)] [.int z7] σ
  refine kw_if_ne (pc := 8) (i := 4) (tgt := 13) rfl rfl (fun c9 => ?_) (fun c9 => ?_)
  · replace hF := kf_n c9 hF
    refine kw_aload_n (pc := 13) (i := 7) (k := 0) (n := 0) rfl rfl rfl ?_
    refine kw_get (pc := 14) (i := 8) (v := .ref 2) rfl rfl rfl lkX7_18 (fun _ => rfl) ?_
    refine kw_iload_n (pc := 17) (i := 9) (k := 1) (n := 1) rfl rfl rfl ?_
    refine kw_iload_n (pc := 18) (i := 10) (k := 2) (n := 2) rfl rfl rfl ?_
    refine kw_callV (pc := 19) (i := 11) (Y := mX3_findingAt) (a := 2) (As := [.int a, .int i]) (st := []) kw_hE rfl rfl lvX7_77 arX3_findingAt (c_X3_findingAt_2 l σ hI a i ) (by decide) (Nat.le_of_ble_eq_true rfl) rfl (fun v S11 p10 => ?_)
    obtain ⟨e14, z13, rfl, ef12⟩ := p10
    rw [e14]
    replace hF := kf_le ef12 hF
    have r_z13 := kw_rng z13
    show kw_AW l 5 kw_E0 KX mX7_put (p_X7_put_0 σ a i v) 22 [(0, .ref 0), (1, .int a), (2, .int i), (3, .int v)] [.int z13] σ
    refine kw_istore (pc := 22) (i := 12) (n := 4) (lv' := [(4, .int z13), (0, .ref 0), (1, .int a), (2, .int i), (3, .int v)]) rfl (by decide) rfl ?_
    refine kw_iload (pc := 24) (i := 13) (k := 0) (n := 4) rfl rfl ?_
    refine kw_if_eq (pc := 26) (i := 14) (tgt := 39) rfl rfl (fun c15 => ?_) (fun c15 => ?_)
    · replace hF := kf_p c15 hF
      refine kw_aload_n (pc := 39) (i := 20) (k := 1) (n := 0) rfl rfl rfl ?_
      refine kw_get (pc := 40) (i := 21) (v := .ref 2) rfl rfl rfl lkX7_18 (fun _ => rfl) ?_
      refine kw_iload_n (pc := 43) (i := 22) (k := 2) (n := 1) rfl rfl rfl ?_
      refine kw_iload_n (pc := 44) (i := 23) (k := 3) (n := 2) rfl rfl rfl ?_
      refine kw_callV (pc := 45) (i := 24) (Y := mX3_valueAt) (a := 2) (As := [.int a, .int i]) (st := []) kw_hE rfl rfl lvX7_85 arX3_valueAt (c_X3_valueAt_2 l σ hI a i ) (by decide) (Nat.le_of_ble_eq_true rfl) rfl (fun v S17 p16 => ?_)
      obtain ⟨e20, z19, rfl, ef18⟩ := p16
      rw [e20]
      replace hF := kf_le ef18 hF
      have r_z19 := kw_rng z19
      show kw_AW l 5 kw_E0 KX mX7_put (p_X7_put_0 σ a i v) 48 [(4, .int z13), (0, .ref 0), (1, .int a), (2, .int i), (3, .int v)] [.int z19] σ
      refine kw_istore (pc := 48) (i := 25) (n := 5) (lv' := [(5, .int z19), (4, .int z13), (0, .ref 0), (1, .int a), (2, .int i), (3, .int v)]) rfl (by decide) rfl ?_
      refine kw_aload_n (pc := 50) (i := 26) (k := 2) (n := 0) rfl rfl rfl ?_
      refine kw_get (pc := 51) (i := 27) (v := .ref 2) rfl rfl rfl lkX7_18 (fun _ => rfl) ?_
      refine kw_iload_n (pc := 54) (i := 28) (k := 3) (n := 1) rfl rfl rfl ?_
      refine kw_iload_n (pc := 55) (i := 29) (k := 4) (n := 2) rfl rfl rfl ?_
      refine kw_iload_n (pc := 56) (i := 30) (k := 5) (n := 3) rfl rfl rfl ?_
      refine kw_i2b (pc := 57) (i := 31) rfl (fun z21 e_z21 => ?_)
      replace hF := kf_le e_z21 hF
      have r_z21 := kw_rng z21
      refine kw_callV (pc := 58) (i := 32) (Y := mX3_change) (a := 2) (As := [.int a, .int i, .int z21]) (st := []) kw_hE rfl rfl lvX7_88 arX3_change (c_X3_change_2 l σ hI a i z21 ) (by decide) (Nat.le_of_ble_eq_true rfl) rfl (fun v S23 p22 => ?_)
      obtain ⟨⟨I25, F26⟩, rfl, ef24⟩ := p22
      have F27 : kw_F [8, 28, 15, 35, 36, 37, 38] σ S23 := kw_F.tr hF0 F26 (by decide)
      replace hF := kf_le ef24 hF
      show kw_AW l 5 kw_E0 KX mX7_put (p_X7_put_0 σ a i v) 61 [(5, .int z19), (4, .int z13), (0, .ref 0), (1, .int a), (2, .int i), (3, .int v)] [] S23
      refine kw_iload (pc := 61) (i := 33) (k := 0) (n := 5) rfl rfl ?_
      refine kw_sipush (pc := 63) (i := 34) (v := 1000) rfl rfl ?_
      refine kw_iadd (pc := 66) (i := 35) rfl (fun z28 e_z28 t_z28 => ?_)
      replace hF := kf_le e_z28 hF
      exact kw_ireturn (pc := 67) (i := 36) (ty := .int) rfl rfl rfl ⟨⟨I25, F27⟩, _, rfl, hF⟩
    · replace hF := kf_n c15 hF
      refine kw_aload_n (pc := 29) (i := 15) (k := 1) (n := 0) rfl rfl rfl ?_
      refine kw_get (pc := 30) (i := 16) (v := .ref 8) rfl rfl rfl lkX7_55 (fun _ => rfl) ?_
      refine kw_iload (pc := 33) (i := 17) (k := 0) (n := 4) rfl rfl ?_
      refine kw_callV (pc := 35) (i := 18) (Y := mX4_refuse) (a := 8) (As := [.int z13]) (st := []) kw_hE rfl rfl lvX7_81 arX4_refuse (c_X4_refuse_8 l σ hI z13 ) (by decide) (Nat.le_of_ble_eq_true rfl) rfl (fun v S30 p29 => ?_)
      obtain ⟨⟨I34, F35⟩, z33, rfl, f31, ef32⟩ := p29
      have F36 : kw_F [8, 28, 15, 35, 36, 37, 38] σ S30 := kw_F.tr hF0 F35 (by decide)
      replace hF := kf_be ef32 hF
      have r_z33 := kw_rng z33
      show kw_AW l 5 kw_E0 KX mX7_put (p_X7_put_0 σ a i v) 38 [(4, .int z13), (0, .ref 0), (1, .int a), (2, .int i), (3, .int v)] [.int z33] S30
      exact kw_ireturn (pc := 38) (i := 19) (ty := .int) rfl rfl rfl ⟨⟨I34, F36⟩, _, rfl, hF⟩
  · replace hF := kf_p c9 hF
    refine kw_iconst (pc := 11) (i := 5) (v := (-1)) rfl rfl ?_
    exact kw_ireturn (pc := 12) (i := 6) (ty := .int) rfl rfl rfl ⟨⟨hI, hF0⟩, _, rfl, hF⟩
noncomputable def f_X7_fault_0 (σ : kw_S) (a : Int32) : Int32 × kw_S := kf_l (f_X3_has_2 σ a) fun z1 => if z1.toInt = 0 then ((((-1) : Int32), σ)) else (kf_l (f_X3_isMissing_2 σ a) fun z2 => if z2.toInt = 0 then (kf_b (f_X2_faultOf_3_2 σ a) fun z3 S4 => (z3, S4)) else (kf_b (f_X4_refuse_8 σ (1 : Int32)) fun z5 S6 => (z5, S6)))
theorem f_X7_fault_0_u (σ : kw_S) (a : Int32) : f_X7_fault_0 σ a = kf_l (f_X3_has_2 σ a) fun z1 => if z1.toInt = 0 then ((((-1) : Int32), σ)) else (kf_l (f_X3_isMissing_2 σ a) fun z2 => if z2.toInt = 0 then (kf_b (f_X2_faultOf_3_2 σ a) fun z3 S4 => (z3, S4)) else (kf_b (f_X4_refuse_8 σ (1 : Int32)) fun z5 S6 => (z5, S6))) := rfl
abbrev p_X7_fault_0 (σ : kw_S) (a : Int32) : Option Value → kw_S → Prop := fun vv σ' => (kw_I bX σ' ∧ kw_F [8, 28, 3, 16, 39, 40, 41, 42, 43] σ σ') ∧ ∃ r : Int32, vv = some (.int r) ∧ (r, σ') = f_X7_fault_0 σ a
set_option maxRecDepth 100000 in
set_option maxHeartbeats 4000000 in
theorem c_X7_fault_0 (l : Launch) (σ : kw_S) (hI : kw_I bX σ) (a : Int32) : kw_Met l 7 KX mX7_fault [.ref 0, .int a] σ (p_X7_fault_0 σ a) := by
  have r_a := kw_rng a
  have hF0 : kw_F [8, 28, 3, 16, 39, 40, 41, 42, 43] σ σ := kw_F.rf
  have hF := (f_X7_fault_0_u σ a).symm
  have q_m1 : (-1 : Int32).toInt = -1 := rfl
  have q_1 : (1 : Int32).toInt = 1 := rfl
  refine kw_Met.of (by decide) rfl tX7_fault (Nat.le_of_ble_eq_true rfl) ?_
  show kw_AW l 7 kw_E0 KX mX7_fault (p_X7_fault_0 σ a) 0 [(0, .ref 0), (1, .int a)] [] σ
  refine kw_aload_n (pc := 0) (i := 0) (k := 0) (n := 0) rfl rfl rfl ?_
  refine kw_get (pc := 1) (i := 1) (v := .ref 2) rfl rfl rfl lkX7_18 (fun _ => rfl) ?_
  refine kw_iload_n (pc := 4) (i := 2) (k := 1) (n := 1) rfl rfl rfl ?_
  refine kw_callV (pc := 5) (i := 3) (Y := mX3_has) (a := 2) (As := [.int a]) (st := []) kw_hE rfl rfl lvX7_73 arX3_has (c_X3_has_2 l σ hI a ) (by decide) (Nat.le_of_ble_eq_true rfl) rfl (fun v S2 p1 => ?_)
  obtain ⟨e8, z7, rfl, f3, f4, f5, ef6⟩ := p1
  rw [e8]
  replace hF := kf_le ef6 hF
  have r_z7 := kw_rng z7
  show kw_AW l 7 kw_E0 KX mX7_fault (p_X7_fault_0 σ a) 8 [(0, .ref 0), (1, .int a)] [.int z7] σ
  refine kw_if_ne (pc := 8) (i := 4) (tgt := 13) rfl rfl (fun c9 => ?_) (fun c9 => ?_)
  · replace hF := kf_n c9 hF
    refine kw_aload_n (pc := 13) (i := 7) (k := 0) (n := 0) rfl rfl rfl ?_
    refine kw_get (pc := 14) (i := 8) (v := .ref 2) rfl rfl rfl lkX7_18 (fun _ => rfl) ?_
    refine kw_iload_n (pc := 17) (i := 9) (k := 1) (n := 1) rfl rfl rfl ?_
    refine kw_callV (pc := 18) (i := 10) (Y := mX3_isMissing) (a := 2) (As := [.int a]) (st := []) kw_hE rfl rfl lvX7_95 arX3_isMissing (c_X3_isMissing_2 l σ hI a ) (by decide) (Nat.le_of_ble_eq_true rfl) rfl (fun v S11 p10 => ?_)
    obtain ⟨e16, z15, rfl, f12, f13, ef14⟩ := p10
    rw [e16]
    replace hF := kf_le ef14 hF
    have r_z15 := kw_rng z15
    show kw_AW l 7 kw_E0 KX mX7_fault (p_X7_fault_0 σ a) 21 [(0, .ref 0), (1, .int a)] [.int z15] σ
    refine kw_if_eq (pc := 21) (i := 11) (tgt := 33) rfl rfl (fun c17 => ?_) (fun c17 => ?_)
    · replace hF := kf_p c17 hF
      refine kw_aload_n (pc := 33) (i := 17) (k := 0) (n := 0) rfl rfl rfl ?_
      refine kw_get (pc := 34) (i := 18) (v := .ref 3) rfl rfl rfl lkX7_24 (fun _ => rfl) ?_
      refine kw_aload_n (pc := 37) (i := 19) (k := 0) (n := 0) rfl rfl rfl ?_
      refine kw_get (pc := 38) (i := 20) (v := .ref 2) rfl rfl rfl lkX7_18 (fun _ => rfl) ?_
      refine kw_iload_n (pc := 41) (i := 21) (k := 1) (n := 1) rfl rfl rfl ?_
      refine kw_callV (pc := 42) (i := 22) (Y := mX2_faultOf) (a := 3) (As := [.ref 2, .int a]) (st := []) kw_hE rfl rfl lvX7_113 arX2_faultOf (c_X2_faultOf_3_2 l σ hI a ) (by decide) (Nat.le_of_ble_eq_true rfl) rfl (fun v S19 p18 => ?_)
      obtain ⟨⟨I22, F23⟩, z21, rfl, ef20⟩ := p18
      have F24 : kw_F [8, 28, 3, 16, 39, 40, 41, 42, 43] σ S19 := kw_F.tr hF0 F23 (by decide)
      replace hF := kf_be ef20 hF
      have r_z21 := kw_rng z21
      show kw_AW l 7 kw_E0 KX mX7_fault (p_X7_fault_0 σ a) 45 [(0, .ref 0), (1, .int a)] [.int z21] S19
      exact kw_ireturn (pc := 45) (i := 23) (ty := .int) rfl rfl rfl ⟨⟨I22, F24⟩, _, rfl, hF⟩
    · replace hF := kf_n c17 hF
      refine kw_aload_n (pc := 24) (i := 12) (k := 0) (n := 0) rfl rfl rfl ?_
      refine kw_get (pc := 25) (i := 13) (v := .ref 8) rfl rfl rfl lkX7_55 (fun _ => rfl) ?_
      refine kw_iconst (pc := 28) (i := 14) (v := 1) rfl rfl ?_
      refine kw_callV (pc := 29) (i := 15) (Y := mX4_refuse) (a := 8) (As := [.int 1]) (st := []) kw_hE rfl rfl lvX7_81 arX4_refuse (c_X4_refuse_8 l σ hI 1 ) (by decide) (Nat.le_of_ble_eq_true rfl) rfl (fun v S26 p25 => ?_)
      obtain ⟨⟨I30, F31⟩, z29, rfl, f27, ef28⟩ := p25
      have F32 : kw_F [8, 28, 3, 16, 39, 40, 41, 42, 43] σ S26 := kw_F.tr hF0 F31 (by decide)
      replace hF := kf_be ef28 hF
      have r_z29 := kw_rng z29
      show kw_AW l 7 kw_E0 KX mX7_fault (p_X7_fault_0 σ a) 32 [(0, .ref 0), (1, .int a)] [.int z29] S26
      exact kw_ireturn (pc := 32) (i := 16) (ty := .int) rfl rfl rfl ⟨⟨I30, F32⟩, _, rfl, hF⟩
  · replace hF := kf_p c9 hF
    refine kw_iconst (pc := 11) (i := 5) (v := (-1)) rfl rfl ?_
    exact kw_ireturn (pc := 12) (i := 6) (ty := .int) rfl rfl rfl ⟨⟨hI, hF0⟩, _, rfl, hF⟩
noncomputable def l_X7_town_0_80 (a1 : Int32) : Nat → Int32 → kw_S → Int32 × kw_S
  | 0, _, S => (0, S)
  | n + 1, x2, S => if x2.toInt < (3 : Int32).toInt then (kf_l (f_X3_drop_5 S x2) fun S7 => kf_l (x2 + Int32.ofInt 1) fun z8 => l_X7_town_0_80 a1 n z8 S7) else (((S.1 17 5), S))
theorem l_X7_town_0_80_s (a1 : Int32) (n : Nat) (x2 : Int32) (S : kw_S) : l_X7_town_0_80 a1 (n + 1) x2 S = if x2.toInt < (3 : Int32).toInt then (kf_l (f_X3_drop_5 S x2) fun S7 => kf_l (x2 + Int32.ofInt 1) fun z8 => l_X7_town_0_80 a1 n z8 S7) else (((S.1 17 5), S)) := rfl
noncomputable def f_X7_town_0 (σ : kw_S) (a : Int32) : Int32 × kw_S := kf_l (f_X3_has_2 σ a) fun z1 => if z1.toInt = 0 then ((((-1) : Int32), σ)) else (kf_l (f_X3_isMissing_2 σ a) fun z2 => if z2.toInt = 0 then (kf_b (f_X2_faultOf_3_2 σ a) fun z3 S4 => if z3.toInt = ((-9) : Int32).toInt then (kf_l (f_X1_copyFrom_17_16 S4) fun S5 => kf_l (f_X5_replay_4 S5 (0 : Int32)) fun S6 => l_X7_town_0_80 a ((4 - (0 : Int32).toInt).toNat + 1) (0 : Int32) S6) else ((((-4) : Int32), S4))) else (kf_b (f_X4_refuse_8 σ (1 : Int32)) fun z9 S10 => (z9, S10)))
theorem f_X7_town_0_u (σ : kw_S) (a : Int32) : f_X7_town_0 σ a = kf_l (f_X3_has_2 σ a) fun z1 => if z1.toInt = 0 then ((((-1) : Int32), σ)) else (kf_l (f_X3_isMissing_2 σ a) fun z2 => if z2.toInt = 0 then (kf_b (f_X2_faultOf_3_2 σ a) fun z3 S4 => if z3.toInt = ((-9) : Int32).toInt then (kf_l (f_X1_copyFrom_17_16 S4) fun S5 => kf_l (f_X5_replay_4 S5 (0 : Int32)) fun S6 => l_X7_town_0_80 a ((4 - (0 : Int32).toInt).toNat + 1) (0 : Int32) S6) else ((((-4) : Int32), S4))) else (kf_b (f_X4_refuse_8 σ (1 : Int32)) fun z9 S10 => (z9, S10))) := rfl
abbrev p_X7_town_0 (σ : kw_S) (a : Int32) : Option Value → kw_S → Prop := fun vv σ' => (kw_I bX σ' ∧ kw_F [8, 28, 3, 16, 39, 40, 41, 42, 43, 17, 44, 45, 46, 47, 48, 4, 18, 19, 21, 49, 50, 51] σ σ') ∧ ∃ r : Int32, vv = some (.int r) ∧ (r, σ') = f_X7_town_0 σ a
set_option maxRecDepth 100000 in
set_option maxHeartbeats 4000000 in
theorem c_X7_town_0 (l : Launch) (σ : kw_S) (hI : kw_I bX σ) (a : Int32) : kw_Met l 7 KX mX7_town [.ref 0, .int a] σ (p_X7_town_0 σ a) := by
  have r_a := kw_rng a
  have hF0 : kw_F [8, 28, 3, 16, 39, 40, 41, 42, 43, 17, 44, 45, 46, 47, 48, 4, 18, 19, 21, 49, 50, 51] σ σ := kw_F.rf
  have hF := (f_X7_town_0_u σ a).symm
  have q_m9 : (-9 : Int32).toInt = -9 := rfl
  have q_m4 : (-4 : Int32).toInt = -4 := rfl
  have q_m1 : (-1 : Int32).toInt = -1 := rfl
  have q_0 : (0 : Int32).toInt = 0 := rfl
  have q_1 : (1 : Int32).toInt = 1 := rfl
  have q_3 : (3 : Int32).toInt = 3 := rfl
  refine kw_Met.of (by decide) rfl tX7_town (Nat.le_of_ble_eq_true rfl) ?_
  show kw_AW l 7 kw_E0 KX mX7_town (p_X7_town_0 σ a) 0 [(0, .ref 0), (1, .int a)] [] σ
  refine kw_aload_n (pc := 0) (i := 0) (k := 0) (n := 0) rfl rfl rfl ?_
  refine kw_get (pc := 1) (i := 1) (v := .ref 2) rfl rfl rfl lkX7_18 (fun _ => rfl) ?_
  refine kw_iload_n (pc := 4) (i := 2) (k := 1) (n := 1) rfl rfl rfl ?_
  refine kw_callV (pc := 5) (i := 3) (Y := mX3_has) (a := 2) (As := [.int a]) (st := []) kw_hE rfl rfl lvX7_73 arX3_has (c_X3_has_2 l σ hI a ) (by decide) (Nat.le_of_ble_eq_true rfl) rfl (fun v S2 p1 => ?_)
  obtain ⟨e8, z7, rfl, f3, f4, f5, ef6⟩ := p1
  rw [e8]
  replace hF := kf_le ef6 hF
  have r_z7 := kw_rng z7
  show kw_AW l 7 kw_E0 KX mX7_town (p_X7_town_0 σ a) 8 [(0, .ref 0), (1, .int a)] [.int z7] σ
  refine kw_if_ne (pc := 8) (i := 4) (tgt := 13) rfl rfl (fun c9 => ?_) (fun c9 => ?_)
  · replace hF := kf_n c9 hF
    refine kw_aload_n (pc := 13) (i := 7) (k := 0) (n := 0) rfl rfl rfl ?_
    refine kw_get (pc := 14) (i := 8) (v := .ref 2) rfl rfl rfl lkX7_18 (fun _ => rfl) ?_
    refine kw_iload_n (pc := 17) (i := 9) (k := 1) (n := 1) rfl rfl rfl ?_
    refine kw_callV (pc := 18) (i := 10) (Y := mX3_isMissing) (a := 2) (As := [.int a]) (st := []) kw_hE rfl rfl lvX7_95 arX3_isMissing (c_X3_isMissing_2 l σ hI a ) (by decide) (Nat.le_of_ble_eq_true rfl) rfl (fun v S11 p10 => ?_)
    obtain ⟨e16, z15, rfl, f12, f13, ef14⟩ := p10
    rw [e16]
    replace hF := kf_le ef14 hF
    have r_z15 := kw_rng z15
    show kw_AW l 7 kw_E0 KX mX7_town (p_X7_town_0 σ a) 21 [(0, .ref 0), (1, .int a)] [.int z15] σ
    refine kw_if_eq (pc := 21) (i := 11) (tgt := 33) rfl rfl (fun c17 => ?_) (fun c17 => ?_)
    · replace hF := kf_p c17 hF
      refine kw_aload_n (pc := 33) (i := 17) (k := 0) (n := 0) rfl rfl rfl ?_
      refine kw_get (pc := 34) (i := 18) (v := .ref 3) rfl rfl rfl lkX7_24 (fun _ => rfl) ?_
      refine kw_aload_n (pc := 37) (i := 19) (k := 0) (n := 0) rfl rfl rfl ?_
      refine kw_get (pc := 38) (i := 20) (v := .ref 2) rfl rfl rfl lkX7_18 (fun _ => rfl) ?_
      refine kw_iload_n (pc := 41) (i := 21) (k := 1) (n := 1) rfl rfl rfl ?_
      refine kw_callV (pc := 42) (i := 22) (Y := mX2_faultOf) (a := 3) (As := [.ref 2, .int a]) (st := []) kw_hE rfl rfl lvX7_113 arX2_faultOf (c_X2_faultOf_3_2 l σ hI a ) (by decide) (Nat.le_of_ble_eq_true rfl) rfl (fun v S19 p18 => ?_)
      obtain ⟨⟨I22, F23⟩, z21, rfl, ef20⟩ := p18
      have F24 : kw_F [8, 28, 3, 16, 39, 40, 41, 42, 43, 17, 44, 45, 46, 47, 48, 4, 18, 19, 21, 49, 50, 51] σ S19 := kw_F.tr hF0 F23 (by decide)
      replace hF := kf_be ef20 hF
      have r_z21 := kw_rng z21
      show kw_AW l 7 kw_E0 KX mX7_town (p_X7_town_0 σ a) 45 [(0, .ref 0), (1, .int a)] [.int z21] S19
      refine kw_bipush (pc := 45) (i := 23) (v := (-9)) rfl rfl ?_
      refine kw_icmp_eq (pc := 47) (i := 24) (tgt := 53) rfl rfl (fun c25 => ?_) (fun c25 => ?_)
      · replace hF := kf_p c25 hF
        refine kw_aload_n (pc := 53) (i := 27) (k := 0) (n := 0) rfl rfl rfl ?_
        refine kw_get (pc := 54) (i := 28) (v := .ref 4) rfl rfl rfl lkX7_31 (fun _ => rfl) ?_
        refine kw_get (pc := 57) (i := 29) (v := .ref 17) rfl rfl rfl lkX7_117 (fun _ => rfl) ?_
        refine kw_aload_n (pc := 60) (i := 30) (k := 0) (n := 0) rfl rfl rfl ?_
        refine kw_get (pc := 61) (i := 31) (v := .ref 3) rfl rfl rfl lkX7_24 (fun _ => rfl) ?_
        refine kw_get (pc := 64) (i := 32) (v := .ref 16) rfl rfl rfl lkX7_121 (fun _ => rfl) ?_
        refine kw_callV (pc := 67) (i := 33) (Y := mX1_copyFrom) (a := 17) (As := [.ref 16]) (st := []) kw_hE rfl rfl lvX7_124 arX1_copyFrom (c_X1_copyFrom_17_16 l S19 I22  ) (by decide) (Nat.le_of_ble_eq_true rfl) rfl (fun v S27 p26 => ?_)
        obtain ⟨⟨I29, F30⟩, rfl, ef28⟩ := p26
        have F31 : kw_F [8, 28, 3, 16, 39, 40, 41, 42, 43, 17, 44, 45, 46, 47, 48, 4, 18, 19, 21, 49, 50, 51] σ S27 := kw_F.tr F24 F30 (by decide)
        replace hF := kf_le ef28 hF
        show kw_AW l 7 kw_E0 KX mX7_town (p_X7_town_0 σ a) 70 [(0, .ref 0), (1, .int a)] [] S27
        refine kw_aload_n (pc := 70) (i := 34) (k := 0) (n := 0) rfl rfl rfl ?_
        refine kw_get (pc := 71) (i := 35) (v := .ref 4) rfl rfl rfl lkX7_31 (fun _ => rfl) ?_
        refine kw_iconst (pc := 74) (i := 36) (v := 0) rfl rfl ?_
        refine kw_callV (pc := 75) (i := 37) (Y := mX5_replay) (a := 4) (As := [.int 0]) (st := []) kw_hE rfl rfl lvX7_130 arX5_replay (c_X5_replay_4 l S27 I29 0 ) (by decide) (Nat.le_of_ble_eq_true rfl) rfl (fun v S33 p32 => ?_)
        obtain ⟨⟨I35, F36⟩, rfl, ef34⟩ := p32
        have F37 : kw_F [8, 28, 3, 16, 39, 40, 41, 42, 43, 17, 44, 45, 46, 47, 48, 4, 18, 19, 21, 49, 50, 51] σ S33 := kw_F.tr F31 F36 (by decide)
        replace hF := kf_le ef34 hF
        show kw_AW l 7 kw_E0 KX mX7_town (p_X7_town_0 σ a) 78 [(0, .ref 0), (1, .int a)] [] S33
        refine kw_iconst (pc := 78) (i := 38) (v := 0) rfl rfl ?_
        refine kw_istore_n (pc := 79) (i := 39) (n := 2) (lv' := [(2, .int 0), (0, .ref 0), (1, .int a)]) rfl rfl (by decide) rfl ?_
        have L42 : ∀ (n46 : Nat) (x38 : Int32) (S39 : kw_S), kw_I bX S39 → kw_F [8, 28, 3, 16, 39, 40, 41, 42, 43, 17, 44, 45, 46, 47, 48, 4, 18, 19, 21, 49, 50, 51] σ S39 → 0 ≤ x38.toInt → l_X7_town_0_80 a n46 x38 S39 = (f_X7_town_0 σ a) → (4 - x38.toInt).toNat < n46 → kw_AW l 7 kw_E0 KX mX7_town (p_X7_town_0 σ a) 80 [(2, .int x38), (0, .ref 0), (1, .int a)] [] S39 := by
          intro n46
          induction n46 with
          | zero => intro x38 S39 I40 F41 v44 hF m45; exact absurd m45 (Nat.not_lt_zero _)
          | succ n46 ih43 =>
            intro x38 S39 I40 F41 v44 hF m45
            replace hF := kf_st (l_X7_town_0_80_s _ _ _ _) hF
            have r_x38 := kw_rng x38
            refine kw_iload_n (pc := 80) (i := 40) (k := 0) (n := 2) rfl rfl rfl ?_
            refine kw_iconst (pc := 81) (i := 41) (v := 3) rfl rfl ?_
            refine kw_icmp_ge (pc := 82) (i := 42) (tgt := 99) rfl rfl (fun c47 => ?_) (fun c47 => ?_)
            · replace hF := kf_nl c47 hF
              refine kw_aload_n (pc := 99) (i := 49) (k := 1) (n := 0) rfl rfl rfl ?_
              refine kw_get (pc := 100) (i := 50) (v := .ref 4) rfl rfl rfl lkX7_31 (fun _ => rfl) ?_
              refine kw_get (pc := 103) (i := 51) (v := .ref 17) rfl rfl rfl lkX7_117 (fun _ => rfl) ?_
              refine kw_get (pc := 106) (i := 52) (v := .int (S39.1 17 5)) rfl rfl rfl lkX7_133 (fun _ => rfl) ?_
              have b48 : 0 ≤ (S39.1 17 5).toInt ∧ (S39.1 17 5).toInt ≤ 6 := I40 17 5
              exact kw_ireturn (pc := 109) (i := 53) (ty := .int) rfl rfl rfl ⟨⟨I40, F41⟩, _, rfl, hF⟩
            · replace hF := kf_p c47 hF
              refine kw_aload_n (pc := 85) (i := 43) (k := 1) (n := 0) rfl rfl rfl ?_
              refine kw_get (pc := 86) (i := 44) (v := .ref 5) rfl rfl rfl lkX7_35 (fun _ => rfl) ?_
              refine kw_iload_n (pc := 89) (i := 45) (k := 0) (n := 2) rfl rfl rfl ?_
              refine kw_callV (pc := 90) (i := 46) (Y := mX3_drop) (a := 5) (As := [.int x38]) (st := []) kw_hE rfl rfl lvX7_98 arX3_drop (c_X3_drop_5 l S39 I40 x38 ) (by decide) (Nat.le_of_ble_eq_true rfl) rfl (fun v S50 p49 => ?_)
              obtain ⟨⟨I52, F53⟩, rfl, ef51⟩ := p49
              have F54 : kw_F [8, 28, 3, 16, 39, 40, 41, 42, 43, 17, 44, 45, 46, 47, 48, 4, 18, 19, 21, 49, 50, 51] σ S50 := kw_F.tr F41 F53 (by decide)
              replace hF := kf_le ef51 hF
              show kw_AW l 7 kw_E0 KX mX7_town (p_X7_town_0 σ a) 93 [(2, .int x38), (0, .ref 0), (1, .int a)] [] S50
              refine kw_iinc' (pc := 93) (i := 47) (k := 0) (fun z => [(2, .int z), (0, .ref 0), (1, .int a)]) rfl rfl (by decide) rfl (fun _ => rfl) (fun z55 e_z55 t_z55 => ?_)
              replace hF := kf_le e_z55 hF
              refine kw_goto (pc := 96) (i := 48) (tgt := 80) rfl rfl ?_
              refine kw_sub (lv' := [(2, .int z55), (0, .ref 0), (1, .int a)]) [0, 1, 2] rfl ?_
              exact ih43 z55 S50 I52 F54 (by omega) hF (by omega)
        exact L42 _ 0 S33 I35 F37 (by omega) hF (Nat.lt_succ_self _)
      · replace hF := kf_n c25 hF
        refine kw_bipush (pc := 50) (i := 25) (v := (-4)) rfl rfl ?_
        exact kw_ireturn (pc := 52) (i := 26) (ty := .int) rfl rfl rfl ⟨⟨I22, F24⟩, _, rfl, hF⟩
    · replace hF := kf_n c17 hF
      refine kw_aload_n (pc := 24) (i := 12) (k := 0) (n := 0) rfl rfl rfl ?_
      refine kw_get (pc := 25) (i := 13) (v := .ref 8) rfl rfl rfl lkX7_55 (fun _ => rfl) ?_
      refine kw_iconst (pc := 28) (i := 14) (v := 1) rfl rfl ?_
      refine kw_callV (pc := 29) (i := 15) (Y := mX4_refuse) (a := 8) (As := [.int 1]) (st := []) kw_hE rfl rfl lvX7_81 arX4_refuse (c_X4_refuse_8 l σ hI 1 ) (by decide) (Nat.le_of_ble_eq_true rfl) rfl (fun v S57 p56 => ?_)
      obtain ⟨⟨I61, F62⟩, z60, rfl, f58, ef59⟩ := p56
      have F63 : kw_F [8, 28, 3, 16, 39, 40, 41, 42, 43, 17, 44, 45, 46, 47, 48, 4, 18, 19, 21, 49, 50, 51] σ S57 := kw_F.tr hF0 F62 (by decide)
      replace hF := kf_be ef59 hF
      have r_z60 := kw_rng z60
      show kw_AW l 7 kw_E0 KX mX7_town (p_X7_town_0 σ a) 32 [(0, .ref 0), (1, .int a)] [.int z60] S57
      exact kw_ireturn (pc := 32) (i := 16) (ty := .int) rfl rfl rfl ⟨⟨I61, F63⟩, _, rfl, hF⟩
  · replace hF := kf_p c9 hF
    refine kw_iconst (pc := 11) (i := 5) (v := (-1)) rfl rfl ?_
    exact kw_ireturn (pc := 12) (i := 6) (ty := .int) rfl rfl rfl ⟨⟨hI, hF0⟩, _, rfl, hF⟩
noncomputable def f_X7_line_0 (σ : kw_S) (i : Int32) (w : Int32) : Int32 × kw_S := kf_l (f_X1_hasLine_17 σ i) fun z1 => if z1.toInt = 0 then ((((-1) : Int32), σ)) else (if w.toInt < 0 then ((((-1) : Int32), σ)) else (if (6 : Int32).toInt < w.toInt then ((((-1) : Int32), σ)) else (kf_l (f_X5_trait_4 σ i w) fun z2 => kf_b (f_X4_answer_8 σ z2) fun z3 S4 => (z3, S4))))
theorem f_X7_line_0_u (σ : kw_S) (i : Int32) (w : Int32) : f_X7_line_0 σ i w = kf_l (f_X1_hasLine_17 σ i) fun z1 => if z1.toInt = 0 then ((((-1) : Int32), σ)) else (if w.toInt < 0 then ((((-1) : Int32), σ)) else (if (6 : Int32).toInt < w.toInt then ((((-1) : Int32), σ)) else (kf_l (f_X5_trait_4 σ i w) fun z2 => kf_b (f_X4_answer_8 σ z2) fun z3 S4 => (z3, S4)))) := rfl
abbrev p_X7_line_0 (σ : kw_S) (i : Int32) (w : Int32) : Option Value → kw_S → Prop := fun vv σ' => (kw_I bX σ' ∧ kw_F [8, 28] σ σ') ∧ ∃ r : Int32, vv = some (.int r) ∧ (r, σ') = f_X7_line_0 σ i w
set_option maxRecDepth 100000 in
set_option maxHeartbeats 4000000 in
theorem c_X7_line_0 (l : Launch) (σ : kw_S) (hI : kw_I bX σ) (i : Int32) (w : Int32) : kw_Met l 4 KX mX7_line [.ref 0, .int i, .int w] σ (p_X7_line_0 σ i w) := by
  have r_i := kw_rng i
  have r_w := kw_rng w
  have hF0 : kw_F [8, 28] σ σ := kw_F.rf
  have hF := (f_X7_line_0_u σ i w).symm
  have q_m1 : (-1 : Int32).toInt = -1 := rfl
  have q_6 : (6 : Int32).toInt = 6 := rfl
  refine kw_Met.of (by decide) rfl tX7_line (Nat.le_of_ble_eq_true rfl) ?_
  show kw_AW l 4 kw_E0 KX mX7_line (p_X7_line_0 σ i w) 0 [(0, .ref 0), (1, .int i), (2, .int w)] [] σ
  refine kw_aload_n (pc := 0) (i := 0) (k := 0) (n := 0) rfl rfl rfl ?_
  refine kw_get (pc := 1) (i := 1) (v := .ref 4) rfl rfl rfl lkX7_31 (fun _ => rfl) ?_
  refine kw_get (pc := 4) (i := 2) (v := .ref 17) rfl rfl rfl lkX7_117 (fun _ => rfl) ?_
  refine kw_iload_n (pc := 7) (i := 3) (k := 1) (n := 1) rfl rfl rfl ?_
  refine kw_callV (pc := 8) (i := 4) (Y := mX1_hasLine) (a := 17) (As := [.int i]) (st := []) kw_hE rfl rfl lvX7_137 arX1_hasLine (c_X1_hasLine_17 l σ hI i ) (by decide) (Nat.le_of_ble_eq_true rfl) rfl (fun v S2 p1 => ?_)
  obtain ⟨e7, z6, rfl, f3, f4, ef5⟩ := p1
  rw [e7]
  replace hF := kf_le ef5 hF
  have r_z6 := kw_rng z6
  show kw_AW l 4 kw_E0 KX mX7_line (p_X7_line_0 σ i w) 11 [(0, .ref 0), (1, .int i), (2, .int w)] [.int z6] σ
  refine kw_if_eq (pc := 11) (i := 5) (tgt := 24) rfl rfl (fun c8 => ?_) (fun c8 => ?_)
  · replace hF := kf_p c8 hF
    refine kw_iconst (pc := 24) (i := 11) (v := (-1)) rfl rfl ?_
    exact kw_ireturn (pc := 25) (i := 12) (ty := .int) rfl rfl rfl ⟨⟨hI, hF0⟩, _, rfl, hF⟩
  · replace hF := kf_n c8 hF
    refine kw_iload_n (pc := 14) (i := 6) (k := 2) (n := 2) rfl rfl rfl ?_
    refine kw_if_lt (pc := 15) (i := 7) (tgt := 24) rfl rfl (fun c9 => ?_) (fun c9 => ?_)
    · replace hF := kf_p c9 hF
      refine kw_iconst (pc := 24) (i := 11) (v := (-1)) rfl rfl ?_
      exact kw_ireturn (pc := 25) (i := 12) (ty := .int) rfl rfl rfl ⟨⟨hI, hF0⟩, _, rfl, hF⟩
    · replace hF := kf_nl c9 hF
      refine kw_iload_n (pc := 18) (i := 8) (k := 2) (n := 2) rfl rfl rfl ?_
      refine kw_bipush (pc := 19) (i := 9) (v := 6) rfl rfl ?_
      refine kw_icmp_le (pc := 21) (i := 10) (tgt := 26) rfl rfl (fun c10 => ?_) (fun c10 => ?_)
      · replace hF := kf_nl c10 hF
        refine kw_aload_n (pc := 26) (i := 13) (k := 0) (n := 0) rfl rfl rfl ?_
        refine kw_get (pc := 27) (i := 14) (v := .ref 8) rfl rfl rfl lkX7_55 (fun _ => rfl) ?_
        refine kw_aload_n (pc := 30) (i := 15) (k := 0) (n := 0) rfl rfl rfl ?_
        refine kw_get (pc := 31) (i := 16) (v := .ref 4) rfl rfl rfl lkX7_31 (fun _ => rfl) ?_
        refine kw_iload_n (pc := 34) (i := 17) (k := 1) (n := 1) rfl rfl rfl ?_
        refine kw_iload_n (pc := 35) (i := 18) (k := 2) (n := 2) rfl rfl rfl ?_
        refine kw_callV (pc := 36) (i := 19) (Y := mX5_trait) (a := 4) (As := [.int i, .int w]) (st := [.ref 8]) kw_hE rfl rfl lvX7_140 arX5_trait (c_X5_trait_4 l σ hI i w ) (by decide) (Nat.le_of_ble_eq_true rfl) rfl (fun v S12 p11 => ?_)
        obtain ⟨e15, z14, rfl, ef13⟩ := p11
        rw [e15]
        replace hF := kf_le ef13 hF
        have r_z14 := kw_rng z14
        show kw_AW l 4 kw_E0 KX mX7_line (p_X7_line_0 σ i w) 39 [(0, .ref 0), (1, .int i), (2, .int w)] [.int z14, .ref 8] σ
        refine kw_callV (pc := 39) (i := 20) (Y := mX4_answer) (a := 8) (As := [.int z14]) (st := []) kw_hE rfl rfl lvX7_92 arX4_answer (c_X4_answer_8 l σ hI z14 ) (by decide) (Nat.le_of_ble_eq_true rfl) rfl (fun v S17 p16 => ?_)
        obtain ⟨⟨I21, F22⟩, z20, rfl, f18, ef19⟩ := p16
        have F23 : kw_F [8, 28] σ S17 := kw_F.tr hF0 F22 (by decide)
        replace hF := kf_be ef19 hF
        have r_z20 := kw_rng z20
        show kw_AW l 4 kw_E0 KX mX7_line (p_X7_line_0 σ i w) 42 [(0, .ref 0), (1, .int i), (2, .int w)] [.int z20] S17
        exact kw_ireturn (pc := 42) (i := 21) (ty := .int) rfl rfl rfl ⟨⟨I21, F23⟩, _, rfl, hF⟩
      · replace hF := kf_p c10 hF
        refine kw_iconst (pc := 24) (i := 11) (v := (-1)) rfl rfl ?_
        exact kw_ireturn (pc := 25) (i := 12) (ty := .int) rfl rfl rfl ⟨⟨hI, hF0⟩, _, rfl, hF⟩
noncomputable def f_X7_mark_0 (σ : kw_S) (i : Int32) (kind : Int32) : Int32 × kw_S := kf_l (f_X1_hasLine_17 σ i) fun z1 => if z1.toInt = 0 then ((((-1) : Int32), σ)) else (if 0 < kind.toInt then (if kind.toInt < (6 : Int32).toInt then (kf_l (σ.1 44 i.toNatClampNeg) fun z2 => kf_l (f_X7_isA σ z2 kind) fun z3 => if z3.toInt = 0 then (kf_b (f_X4_refuse_8 σ (3 : Int32)) fun z17 S18 => (z17, S18)) else (if kind.toInt = 1 then (kf_l (f_X1_pullOf_17 σ i (5 : Int32)) fun z4 => (z4, σ)) else if kind.toInt = 2 then (kf_l (f_X5_hoursToStorm_4 σ) fun z5 => (z5, σ)) else if kind.toInt = 3 then (kf_l ((1 : Int32) <<< (i &&& 31)) fun z6 => kf_l (z6 ^^^ ((-1) : Int32)) fun z7 => kf_l ((σ.1 4 4) &&& z7) fun z8 => kf_l (f_J6_bitCount_0f7a4 σ z8) fun z9 => (z9, σ)) else if kind.toInt = 4 then (kf_l (f_X1_othersNoWider_17 σ i) fun z10 => (z10, σ)) else (kf_l (σ.1 46 i.toNatClampNeg) fun z11 => kf_l (f_X5_windNow_4 σ) fun z12 => kf_l (f_X7_pull σ (4 : Int32) z11 z12) fun z13 => kf_l (f_X5_windNow_4 σ) fun z14 => kf_l (f_X1_pullOf_17 σ i z14) fun z15 => kf_l (z13 - z15) fun z16 => (z16, σ)))) else ((((-1) : Int32), σ))) else ((((-1) : Int32), σ)))
theorem f_X7_mark_0_u (σ : kw_S) (i : Int32) (kind : Int32) : f_X7_mark_0 σ i kind = kf_l (f_X1_hasLine_17 σ i) fun z1 => if z1.toInt = 0 then ((((-1) : Int32), σ)) else (if 0 < kind.toInt then (if kind.toInt < (6 : Int32).toInt then (kf_l (σ.1 44 i.toNatClampNeg) fun z2 => kf_l (f_X7_isA σ z2 kind) fun z3 => if z3.toInt = 0 then (kf_b (f_X4_refuse_8 σ (3 : Int32)) fun z17 S18 => (z17, S18)) else (if kind.toInt = 1 then (kf_l (f_X1_pullOf_17 σ i (5 : Int32)) fun z4 => (z4, σ)) else if kind.toInt = 2 then (kf_l (f_X5_hoursToStorm_4 σ) fun z5 => (z5, σ)) else if kind.toInt = 3 then (kf_l ((1 : Int32) <<< (i &&& 31)) fun z6 => kf_l (z6 ^^^ ((-1) : Int32)) fun z7 => kf_l ((σ.1 4 4) &&& z7) fun z8 => kf_l (f_J6_bitCount_0f7a4 σ z8) fun z9 => (z9, σ)) else if kind.toInt = 4 then (kf_l (f_X1_othersNoWider_17 σ i) fun z10 => (z10, σ)) else (kf_l (σ.1 46 i.toNatClampNeg) fun z11 => kf_l (f_X5_windNow_4 σ) fun z12 => kf_l (f_X7_pull σ (4 : Int32) z11 z12) fun z13 => kf_l (f_X5_windNow_4 σ) fun z14 => kf_l (f_X1_pullOf_17 σ i z14) fun z15 => kf_l (z13 - z15) fun z16 => (z16, σ)))) else ((((-1) : Int32), σ))) else ((((-1) : Int32), σ))) := rfl
abbrev p_X7_mark_0 (σ : kw_S) (i : Int32) (kind : Int32) : Option Value → kw_S → Prop := fun vv σ' => (kw_I bX σ' ∧ kw_F [8, 28] σ σ') ∧ ∃ r : Int32, vv = some (.int r) ∧ (r, σ') = f_X7_mark_0 σ i kind
set_option maxRecDepth 100000 in
set_option maxHeartbeats 4000000 in
theorem c_X7_mark_0 (l : Launch) (σ : kw_S) (hI : kw_I bX σ) (i : Int32) (kind : Int32) : kw_Met l 4 KX mX7_mark [.ref 0, .int i, .int kind] σ (p_X7_mark_0 σ i kind) := by
  have r_i := kw_rng i
  have r_kind := kw_rng kind
  have hF0 : kw_F [8, 28] σ σ := kw_F.rf
  have hF := (f_X7_mark_0_u σ i kind).symm
  have q_m1 : (-1 : Int32).toInt = -1 := rfl
  have q_1 : (1 : Int32).toInt = 1 := rfl
  have q_3 : (3 : Int32).toInt = 3 := rfl
  have q_4 : (4 : Int32).toInt = 4 := rfl
  have q_5 : (5 : Int32).toInt = 5 := rfl
  have q_6 : (6 : Int32).toInt = 6 := rfl
  refine kw_Met.of (by decide) rfl tX7_mark (Nat.le_of_ble_eq_true rfl) ?_
  show kw_AW l 4 kw_E0 KX mX7_mark (p_X7_mark_0 σ i kind) 0 [(0, .ref 0), (1, .int i), (2, .int kind)] [] σ
  refine kw_aload_n (pc := 0) (i := 0) (k := 0) (n := 0) rfl rfl rfl ?_
  refine kw_get (pc := 1) (i := 1) (v := .ref 4) rfl rfl rfl lkX7_31 (fun _ => rfl) ?_
  refine kw_get (pc := 4) (i := 2) (v := .ref 17) rfl rfl rfl lkX7_117 (fun _ => rfl) ?_
  refine kw_astore_n (pc := 7) (i := 3) (n := 3) (lv' := [(3, .ref 17), (0, .ref 0), (1, .int i), (2, .int kind)]) rfl rfl (by decide) rfl ?_
  refine kw_aload_n (pc := 8) (i := 4) (k := 0) (n := 3) rfl rfl rfl ?_
  refine kw_iload_n (pc := 9) (i := 5) (k := 2) (n := 1) rfl rfl rfl ?_
  refine kw_callV (pc := 10) (i := 6) (Y := mX1_hasLine) (a := 17) (As := [.int i]) (st := []) kw_hE rfl rfl lvX7_137 arX1_hasLine (c_X1_hasLine_17 l σ hI i ) (by decide) (Nat.le_of_ble_eq_true rfl) rfl (fun v S2 p1 => ?_)
  obtain ⟨e7, z6, rfl, f3, f4, ef5⟩ := p1
  rw [e7]
  replace hF := kf_le ef5 hF
  have r_z6 := kw_rng z6
  show kw_AW l 4 kw_E0 KX mX7_mark (p_X7_mark_0 σ i kind) 13 [(3, .ref 17), (0, .ref 0), (1, .int i), (2, .int kind)] [.int z6] σ
  refine kw_if_eq (pc := 13) (i := 7) (tgt := 26) rfl rfl (fun c8 => ?_) (fun c8 => ?_)
  · replace hF := kf_p c8 hF
    refine kw_iconst (pc := 26) (i := 13) (v := (-1)) rfl rfl ?_
    exact kw_ireturn (pc := 27) (i := 14) (ty := .int) rfl rfl rfl ⟨⟨hI, hF0⟩, _, rfl, hF⟩
  · replace hF := kf_n c8 hF
    refine kw_iload_n (pc := 16) (i := 8) (k := 3) (n := 2) rfl rfl rfl ?_
    refine kw_if_le (pc := 17) (i := 9) (tgt := 26) rfl rfl (fun c9 => ?_) (fun c9 => ?_)
    · replace hF := kf_nl c9 hF
      refine kw_iconst (pc := 26) (i := 13) (v := (-1)) rfl rfl ?_
      exact kw_ireturn (pc := 27) (i := 14) (ty := .int) rfl rfl rfl ⟨⟨hI, hF0⟩, _, rfl, hF⟩
    · replace hF := kf_p c9 hF
      refine kw_iload_n (pc := 20) (i := 10) (k := 3) (n := 2) rfl rfl rfl ?_
      refine kw_bipush (pc := 21) (i := 11) (v := 6) rfl rfl ?_
      refine kw_icmp_lt (pc := 23) (i := 12) (tgt := 28) rfl rfl (fun c10 => ?_) (fun c10 => ?_)
      · replace hF := kf_p c10 hF
        refine kw_aload_n (pc := 28) (i := 15) (k := 0) (n := 3) rfl rfl rfl ?_
        refine kw_get (pc := 29) (i := 16) (v := .ref 44) rfl rfl rfl lkX7_143 (fun _ => rfl) ?_
        refine kw_iload_n (pc := 32) (i := 17) (k := 2) (n := 1) rfl rfl rfl ?_
        refine kw_iald (pc := 33) (i := 18) (n := 6) rfl rfl (by omega) (by omega) (fun z11 e_z11 => ?_)
        replace hF := kf_le e_z11 hF
        have t_z11 := congrArg Int32.toInt e_z11
        have r_z11 := kw_rng z11
        refine kw_iload_n (pc := 34) (i := 19) (k := 3) (n := 2) rfl rfl rfl ?_
        refine kw_callS (pc := 35) (i := 20) (Y := mX7_isA) (As := [.int z11, .int kind]) (st := []) kw_hE rfl lsX7_146 arX7_isA (c_X7_isA l σ hI z11 kind ) (by decide) (Nat.le_of_ble_eq_true rfl) rfl (fun v S13 p12 => ?_)
        obtain ⟨e17, z16, rfl, f14, ef15⟩ := p12
        rw [e17]
        replace hF := kf_le ef15 hF
        have r_z16 := kw_rng z16
        show kw_AW l 4 kw_E0 KX mX7_mark (p_X7_mark_0 σ i kind) 38 [(3, .ref 17), (0, .ref 0), (1, .int i), (2, .int kind)] [.int z16] σ
        refine kw_if_ne (pc := 38) (i := 21) (tgt := 50) rfl rfl (fun c18 => ?_) (fun c18 => ?_)
        · replace hF := kf_n c18 hF
          refine kw_iload_n (pc := 50) (i := 27) (k := 3) (n := 2) rfl rfl rfl ?_
          by_cases c19 : kind.toInt = 1
          · refine kw_tableIn (pc := 51) (i := 28) (k := 0) (tgt := 80) rfl (by omega) (by decide) rfl rfl ?_
            replace hF := kf_p c19 hF
            refine kw_aload_n (pc := 80) (i := 29) (k := 0) (n := 3) rfl rfl rfl ?_
            refine kw_iload_n (pc := 81) (i := 30) (k := 2) (n := 1) rfl rfl rfl ?_
            refine kw_iconst (pc := 82) (i := 31) (v := 5) rfl rfl ?_
            refine kw_callV (pc := 83) (i := 32) (Y := mX1_pullOf) (a := 17) (As := [.int i, .int 5]) (st := []) kw_hE rfl rfl lvX7_150 arX1_pullOf (c_X1_pullOf_17 l σ hI i 5 ) (by decide) (Nat.le_of_ble_eq_true rfl) rfl (fun v S21 p20 => ?_)
            obtain ⟨e24, z23, rfl, ef22⟩ := p20
            rw [e24]
            replace hF := kf_le ef22 hF
            have r_z23 := kw_rng z23
            show kw_AW l 4 kw_E0 KX mX7_mark (p_X7_mark_0 σ i kind) 86 [(3, .ref 17), (0, .ref 0), (1, .int i), (2, .int kind)] [.int z23] σ
            exact kw_ireturn (pc := 86) (i := 33) (ty := .int) rfl rfl rfl ⟨⟨hI, hF0⟩, _, rfl, hF⟩
          replace hF := kf_n c19 hF
          by_cases c25 : kind.toInt = 2
          · refine kw_tableIn (pc := 51) (i := 28) (k := 1) (tgt := 87) rfl (by omega) (by decide) rfl rfl ?_
            replace hF := kf_p c25 hF
            refine kw_aload_n (pc := 87) (i := 34) (k := 1) (n := 0) rfl rfl rfl ?_
            refine kw_get (pc := 88) (i := 35) (v := .ref 4) rfl rfl rfl lkX7_31 (fun _ => rfl) ?_
            refine kw_callV (pc := 91) (i := 36) (Y := mX5_hoursToStorm) (a := 4) (As := []) (st := []) kw_hE rfl rfl lvX7_153 arX5_hoursToStorm (c_X5_hoursToStorm_4 l σ hI  ) (by decide) (Nat.le_of_ble_eq_true rfl) rfl (fun v S27 p26 => ?_)
            obtain ⟨e30, z29, rfl, ef28⟩ := p26
            rw [e30]
            replace hF := kf_le ef28 hF
            have r_z29 := kw_rng z29
            show kw_AW l 4 kw_E0 KX mX7_mark (p_X7_mark_0 σ i kind) 94 [(3, .ref 17), (0, .ref 0), (1, .int i), (2, .int kind)] [.int z29] σ
            exact kw_ireturn (pc := 94) (i := 37) (ty := .int) rfl rfl rfl ⟨⟨hI, hF0⟩, _, rfl, hF⟩
          replace hF := kf_n c25 hF
          by_cases c31 : kind.toInt = 3
          · refine kw_tableIn (pc := 51) (i := 28) (k := 2) (tgt := 95) rfl (by omega) (by decide) rfl rfl ?_
            replace hF := kf_p c31 hF
            refine kw_aload_n (pc := 95) (i := 38) (k := 1) (n := 0) rfl rfl rfl ?_
            refine kw_get (pc := 96) (i := 39) (v := .ref 4) rfl rfl rfl lkX7_31 (fun _ => rfl) ?_
            refine kw_get (pc := 99) (i := 40) (v := .int (σ.1 4 4)) rfl rfl rfl lkX7_157 (fun _ => rfl) ?_
            have b32 := kw_rng (σ.1 4 4)
            refine kw_iconst (pc := 102) (i := 41) (v := 1) rfl rfl ?_
            refine kw_iload_n (pc := 103) (i := 42) (k := 2) (n := 1) rfl rfl rfl ?_
            refine kw_ishl (pc := 104) (i := 43) rfl (fun z33 e_z33 => ?_)
            have r_z33 := kw_rng z33
            replace hF := kf_le e_z33 hF
            refine kw_iconst (pc := 105) (i := 44) (v := (-1)) rfl rfl ?_
            refine kw_ixor (pc := 106) (i := 45) rfl (fun z34 e_z34 => ?_)
            have r_z34 := kw_rng z34
            replace hF := kf_le e_z34 hF
            refine kw_iand (pc := 107) (i := 46) rfl (fun z35 e_z35 => ?_)
            have r_z35 := kw_rng z35
            replace hF := kf_le e_z35 hF
            refine kw_callS (pc := 108) (i := 47) (Y := mJ6_bitCount_0f7a4) (As := [.int z35]) (st := []) kw_hE rfl lsX7_160 arJ6_bitCount_0f7a4 (c_J6_bitCount_0f7a4 l σ hI z35 ) (by decide) (Nat.le_of_ble_eq_true rfl) rfl (fun v S37 p36 => ?_)
            obtain ⟨e40, z39, rfl, ef38⟩ := p36
            rw [e40]
            replace hF := kf_le ef38 hF
            have r_z39 := kw_rng z39
            show kw_AW l 4 kw_E0 KX mX7_mark (p_X7_mark_0 σ i kind) 111 [(3, .ref 17), (0, .ref 0), (1, .int i), (2, .int kind)] [.int z39] σ
            exact kw_ireturn (pc := 111) (i := 48) (ty := .int) rfl rfl rfl ⟨⟨hI, hF0⟩, _, rfl, hF⟩
          replace hF := kf_n c31 hF
          by_cases c41 : kind.toInt = 4
          · refine kw_tableIn (pc := 51) (i := 28) (k := 3) (tgt := 112) rfl (by omega) (by decide) rfl rfl ?_
            replace hF := kf_p c41 hF
            refine kw_aload_n (pc := 112) (i := 49) (k := 0) (n := 3) rfl rfl rfl ?_
            refine kw_iload_n (pc := 113) (i := 50) (k := 2) (n := 1) rfl rfl rfl ?_
            refine kw_callV (pc := 114) (i := 51) (Y := mX1_othersNoWider) (a := 17) (As := [.int i]) (st := []) kw_hE rfl rfl lvX7_165 arX1_othersNoWider (c_X1_othersNoWider_17 l σ hI i ) (by decide) (Nat.le_of_ble_eq_true rfl) rfl (fun v S43 p42 => ?_)
            obtain ⟨e46, z45, rfl, ef44⟩ := p42
            rw [e46]
            replace hF := kf_le ef44 hF
            have r_z45 := kw_rng z45
            show kw_AW l 4 kw_E0 KX mX7_mark (p_X7_mark_0 σ i kind) 117 [(3, .ref 17), (0, .ref 0), (1, .int i), (2, .int kind)] [.int z45] σ
            exact kw_ireturn (pc := 117) (i := 52) (ty := .int) rfl rfl rfl ⟨⟨hI, hF0⟩, _, rfl, hF⟩
          replace hF := kf_n c41 hF
          refine kw_tableOut (pc := 51) (i := 28) (tgt := 118) rfl (by omega) rfl ?_
          refine kw_iconst (pc := 118) (i := 53) (v := 4) rfl rfl ?_
          refine kw_aload_n (pc := 119) (i := 54) (k := 0) (n := 3) rfl rfl rfl ?_
          refine kw_get (pc := 120) (i := 55) (v := .ref 46) rfl rfl rfl lkX7_168 (fun _ => rfl) ?_
          refine kw_iload_n (pc := 123) (i := 56) (k := 2) (n := 1) rfl rfl rfl ?_
          refine kw_iald (pc := 124) (i := 57) (n := 6) rfl rfl (by omega) (by omega) (fun z47 e_z47 => ?_)
          replace hF := kf_le e_z47 hF
          have t_z47 := congrArg Int32.toInt e_z47
          have r_z47 := kw_rng z47
          refine kw_aload_n (pc := 125) (i := 58) (k := 1) (n := 0) rfl rfl rfl ?_
          refine kw_get (pc := 126) (i := 59) (v := .ref 4) rfl rfl rfl lkX7_31 (fun _ => rfl) ?_
          refine kw_callV (pc := 129) (i := 60) (Y := mX5_windNow) (a := 4) (As := []) (st := [.int z47, .int 4]) kw_hE rfl rfl lvX7_171 arX5_windNow (c_X5_windNow_4 l σ hI  ) (by decide) (Nat.le_of_ble_eq_true rfl) rfl (fun v S49 p48 => ?_)
          obtain ⟨e52, z51, rfl, ef50⟩ := p48
          rw [e52]
          replace hF := kf_le ef50 hF
          have r_z51 := kw_rng z51
          show kw_AW l 4 kw_E0 KX mX7_mark (p_X7_mark_0 σ i kind) 132 [(3, .ref 17), (0, .ref 0), (1, .int i), (2, .int kind)] [.int z51, .int z47, .int 4] σ
          refine kw_callS (pc := 132) (i := 61) (Y := mX7_pull) (As := [.int 4, .int z47, .int z51]) (st := []) kw_hE rfl lsX7_174 arX7_pull (c_X7_pull l σ hI 4 z47 z51 ) (by decide) (Nat.le_of_ble_eq_true rfl) rfl (fun v S54 p53 => ?_)
          obtain ⟨e57, z56, rfl, ef55⟩ := p53
          rw [e57]
          replace hF := kf_le ef55 hF
          have r_z56 := kw_rng z56
          show kw_AW l 4 kw_E0 KX mX7_mark (p_X7_mark_0 σ i kind) 135 [(3, .ref 17), (0, .ref 0), (1, .int i), (2, .int kind)] [.int z56] σ
          refine kw_aload_n (pc := 135) (i := 62) (k := 0) (n := 3) rfl rfl rfl ?_
          refine kw_iload_n (pc := 136) (i := 63) (k := 2) (n := 1) rfl rfl rfl ?_
          refine kw_aload_n (pc := 137) (i := 64) (k := 1) (n := 0) rfl rfl rfl ?_
          refine kw_get (pc := 138) (i := 65) (v := .ref 4) rfl rfl rfl lkX7_31 (fun _ => rfl) ?_
          refine kw_callV (pc := 141) (i := 66) (Y := mX5_windNow) (a := 4) (As := []) (st := [.int i, .ref 17, .int z56]) kw_hE rfl rfl lvX7_171 arX5_windNow (c_X5_windNow_4 l σ hI  ) (by decide) (Nat.le_of_ble_eq_true rfl) rfl (fun v S59 p58 => ?_)
          obtain ⟨e62, z61, rfl, ef60⟩ := p58
          rw [e62]
          replace hF := kf_le ef60 hF
          have r_z61 := kw_rng z61
          show kw_AW l 4 kw_E0 KX mX7_mark (p_X7_mark_0 σ i kind) 144 [(3, .ref 17), (0, .ref 0), (1, .int i), (2, .int kind)] [.int z61, .int i, .ref 17, .int z56] σ
          refine kw_callV (pc := 144) (i := 67) (Y := mX1_pullOf) (a := 17) (As := [.int i, .int z61]) (st := [.int z56]) kw_hE rfl rfl lvX7_150 arX1_pullOf (c_X1_pullOf_17 l σ hI i z61 ) (by decide) (Nat.le_of_ble_eq_true rfl) rfl (fun v S64 p63 => ?_)
          obtain ⟨e67, z66, rfl, ef65⟩ := p63
          rw [e67]
          replace hF := kf_le ef65 hF
          have r_z66 := kw_rng z66
          show kw_AW l 4 kw_E0 KX mX7_mark (p_X7_mark_0 σ i kind) 147 [(3, .ref 17), (0, .ref 0), (1, .int i), (2, .int kind)] [.int z66, .int z56] σ
          refine kw_isub (pc := 147) (i := 68) rfl (fun z68 e_z68 t_z68 => ?_)
          replace hF := kf_le e_z68 hF
          exact kw_ireturn (pc := 148) (i := 69) (ty := .int) rfl rfl rfl ⟨⟨hI, hF0⟩, _, rfl, hF⟩
        · replace hF := kf_p c18 hF
          refine kw_aload_n (pc := 41) (i := 22) (k := 1) (n := 0) rfl rfl rfl ?_
          refine kw_get (pc := 42) (i := 23) (v := .ref 8) rfl rfl rfl lkX7_55 (fun _ => rfl) ?_
          refine kw_iconst (pc := 45) (i := 24) (v := 3) rfl rfl ?_
          refine kw_callV (pc := 46) (i := 25) (Y := mX4_refuse) (a := 8) (As := [.int 3]) (st := []) kw_hE rfl rfl lvX7_81 arX4_refuse (c_X4_refuse_8 l σ hI 3 ) (by decide) (Nat.le_of_ble_eq_true rfl) rfl (fun v S70 p69 => ?_)
          obtain ⟨⟨I74, F75⟩, z73, rfl, f71, ef72⟩ := p69
          have F76 : kw_F [8, 28] σ S70 := kw_F.tr hF0 F75 (by decide)
          replace hF := kf_be ef72 hF
          have r_z73 := kw_rng z73
          show kw_AW l 4 kw_E0 KX mX7_mark (p_X7_mark_0 σ i kind) 49 [(3, .ref 17), (0, .ref 0), (1, .int i), (2, .int kind)] [.int z73] S70
          exact kw_ireturn (pc := 49) (i := 26) (ty := .int) rfl rfl rfl ⟨⟨I74, F76⟩, _, rfl, hF⟩
      · replace hF := kf_nl c10 hF
        refine kw_iconst (pc := 26) (i := 13) (v := (-1)) rfl rfl ?_
        exact kw_ireturn (pc := 27) (i := 14) (ty := .int) rfl rfl rfl ⟨⟨hI, hF0⟩, _, rfl, hF⟩
noncomputable def f_X7_wind_0 (σ : kw_S) (h : Int32) : Int32 := if h.toInt < 0 then (((-1) : Int32)) else (if (999 : Int32).toInt < h.toInt then (((-1) : Int32)) else (kf_l (f_X5_isEmpty_4 σ) fun z1 => if z1.toInt = 0 then (kf_l (f_X1_windAt_17 σ h) fun z2 => z2) else (((-4) : Int32))))
theorem f_X7_wind_0_u (σ : kw_S) (h : Int32) : f_X7_wind_0 σ h = if h.toInt < 0 then (((-1) : Int32)) else (if (999 : Int32).toInt < h.toInt then (((-1) : Int32)) else (kf_l (f_X5_isEmpty_4 σ) fun z1 => if z1.toInt = 0 then (kf_l (f_X1_windAt_17 σ h) fun z2 => z2) else (((-4) : Int32)))) := rfl
abbrev p_X7_wind_0 (σ : kw_S) (h : Int32) : Option Value → kw_S → Prop := fun vv σ' => σ' = σ ∧ ∃ r : Int32, vv = some (.int r) ∧ r = f_X7_wind_0 σ h
set_option maxRecDepth 100000 in
set_option maxHeartbeats 4000000 in
theorem c_X7_wind_0 (l : Launch) (σ : kw_S) (hI : kw_I bX σ) (h : Int32) : kw_Met l 2 KX mX7_wind [.ref 0, .int h] σ (p_X7_wind_0 σ h) := by
  have r_h := kw_rng h
  have hF := (f_X7_wind_0_u σ h).symm
  have q_m4 : (-4 : Int32).toInt = -4 := rfl
  have q_m1 : (-1 : Int32).toInt = -1 := rfl
  have q_999 : (999 : Int32).toInt = 999 := rfl
  refine kw_Met.of (by decide) rfl tX7_wind (Nat.le_of_ble_eq_true rfl) ?_
  show kw_AW l 2 kw_E0 KX mX7_wind (p_X7_wind_0 σ h) 0 [(0, .ref 0), (1, .int h)] [] σ
  refine kw_iload_n (pc := 0) (i := 0) (k := 1) (n := 1) rfl rfl rfl ?_
  refine kw_if_lt (pc := 1) (i := 1) (tgt := 11) rfl rfl (fun c1 => ?_) (fun c1 => ?_)
  · replace hF := kf_p c1 hF
    refine kw_iconst (pc := 11) (i := 5) (v := (-1)) rfl rfl ?_
    exact kw_ireturn (pc := 12) (i := 6) (ty := .int) rfl rfl rfl ⟨rfl, _, rfl, hF⟩
  · replace hF := kf_nl c1 hF
    refine kw_iload_n (pc := 4) (i := 2) (k := 1) (n := 1) rfl rfl rfl ?_
    refine kw_sipush (pc := 5) (i := 3) (v := 999) rfl rfl ?_
    refine kw_icmp_le (pc := 8) (i := 4) (tgt := 13) rfl rfl (fun c2 => ?_) (fun c2 => ?_)
    · replace hF := kf_nl c2 hF
      refine kw_aload_n (pc := 13) (i := 7) (k := 0) (n := 0) rfl rfl rfl ?_
      refine kw_get (pc := 14) (i := 8) (v := .ref 4) rfl rfl rfl lkX7_31 (fun _ => rfl) ?_
      refine kw_callV (pc := 17) (i := 9) (Y := mX5_isEmpty) (a := 4) (As := []) (st := []) kw_hE rfl rfl lvX7_178 arX5_isEmpty (c_X5_isEmpty_4 l σ hI  ) (by decide) (Nat.le_of_ble_eq_true rfl) rfl (fun v S4 p3 => ?_)
      obtain ⟨e10, z9, rfl, f5, f6, f7, ef8⟩ := p3
      rw [e10]
      replace hF := kf_le ef8 hF
      have r_z9 := kw_rng z9
      show kw_AW l 2 kw_E0 KX mX7_wind (p_X7_wind_0 σ h) 20 [(0, .ref 0), (1, .int h)] [.int z9] σ
      refine kw_if_eq (pc := 20) (i := 10) (tgt := 26) rfl rfl (fun c11 => ?_) (fun c11 => ?_)
      · replace hF := kf_p c11 hF
        refine kw_aload_n (pc := 26) (i := 13) (k := 0) (n := 0) rfl rfl rfl ?_
        refine kw_get (pc := 27) (i := 14) (v := .ref 4) rfl rfl rfl lkX7_31 (fun _ => rfl) ?_
        refine kw_get (pc := 30) (i := 15) (v := .ref 17) rfl rfl rfl lkX7_117 (fun _ => rfl) ?_
        refine kw_iload_n (pc := 33) (i := 16) (k := 1) (n := 1) rfl rfl rfl ?_
        refine kw_callV (pc := 34) (i := 17) (Y := mX1_windAt) (a := 17) (As := [.int h]) (st := []) kw_hE rfl rfl lvX7_182 arX1_windAt (c_X1_windAt_17 l σ hI h ) (by decide) (Nat.le_of_ble_eq_true rfl) rfl (fun v S13 p12 => ?_)
        obtain ⟨e16, z15, rfl, ef14⟩ := p12
        rw [e16]
        replace hF := kf_le ef14 hF
        have r_z15 := kw_rng z15
        show kw_AW l 2 kw_E0 KX mX7_wind (p_X7_wind_0 σ h) 37 [(0, .ref 0), (1, .int h)] [.int z15] σ
        exact kw_ireturn (pc := 37) (i := 18) (ty := .int) rfl rfl rfl ⟨rfl, _, rfl, hF⟩
      · replace hF := kf_n c11 hF
        refine kw_bipush (pc := 23) (i := 11) (v := (-4)) rfl rfl ?_
        exact kw_ireturn (pc := 25) (i := 12) (ty := .int) rfl rfl rfl ⟨rfl, _, rfl, hF⟩
    · replace hF := kf_p c2 hF
      refine kw_iconst (pc := 11) (i := 5) (v := (-1)) rfl rfl ?_
      exact kw_ireturn (pc := 12) (i := 6) (ty := .int) rfl rfl rfl ⟨rfl, _, rfl, hF⟩
noncomputable def f_X7_hang_0 (σ : kw_S) (i : Int32) : Int32 × kw_S := kf_l (f_X1_hasLine_17 σ i) fun z1 => if z1.toInt = 0 then ((((-1) : Int32), σ)) else (kf_l (f_X5_isHung_4 σ i) fun z2 => if z2.toInt = 0 then (kf_l (f_X5_hasRoomFor_4 σ (1 : Int32)) fun z3 => if z3.toInt = 0 then ((((-2) : Int32), σ)) else (kf_l (f_X5_act_4 σ i) fun S4 => kf_l (f_J6_bitCount_0f7a4 S4 (S4.1 4 4)) fun z5 => (z5, S4))) else ((((-4) : Int32), σ)))
theorem f_X7_hang_0_u (σ : kw_S) (i : Int32) : f_X7_hang_0 σ i = kf_l (f_X1_hasLine_17 σ i) fun z1 => if z1.toInt = 0 then ((((-1) : Int32), σ)) else (kf_l (f_X5_isHung_4 σ i) fun z2 => if z2.toInt = 0 then (kf_l (f_X5_hasRoomFor_4 σ (1 : Int32)) fun z3 => if z3.toInt = 0 then ((((-2) : Int32), σ)) else (kf_l (f_X5_act_4 σ i) fun S4 => kf_l (f_J6_bitCount_0f7a4 S4 (S4.1 4 4)) fun z5 => (z5, S4))) else ((((-4) : Int32), σ))) := rfl
abbrev p_X7_hang_0 (σ : kw_S) (i : Int32) : Option Value → kw_S → Prop := fun vv σ' => (kw_I bX σ' ∧ kw_F [4, 18, 19] σ σ') ∧ ∃ r : Int32, vv = some (.int r) ∧ (r, σ') = f_X7_hang_0 σ i
set_option maxRecDepth 100000 in
set_option maxHeartbeats 4000000 in
theorem c_X7_hang_0 (l : Launch) (σ : kw_S) (hI : kw_I bX σ) (i : Int32) : kw_Met l 6 KX mX7_hang [.ref 0, .int i] σ (p_X7_hang_0 σ i) := by
  have r_i := kw_rng i
  have hF0 : kw_F [4, 18, 19] σ σ := kw_F.rf
  have hF := (f_X7_hang_0_u σ i).symm
  have q_m4 : (-4 : Int32).toInt = -4 := rfl
  have q_m2 : (-2 : Int32).toInt = -2 := rfl
  have q_m1 : (-1 : Int32).toInt = -1 := rfl
  have q_1 : (1 : Int32).toInt = 1 := rfl
  refine kw_Met.of (by decide) rfl tX7_hang (Nat.le_of_ble_eq_true rfl) ?_
  show kw_AW l 6 kw_E0 KX mX7_hang (p_X7_hang_0 σ i) 0 [(0, .ref 0), (1, .int i)] [] σ
  refine kw_aload_n (pc := 0) (i := 0) (k := 0) (n := 0) rfl rfl rfl ?_
  refine kw_get (pc := 1) (i := 1) (v := .ref 4) rfl rfl rfl lkX7_31 (fun _ => rfl) ?_
  refine kw_get (pc := 4) (i := 2) (v := .ref 17) rfl rfl rfl lkX7_117 (fun _ => rfl) ?_
  refine kw_iload_n (pc := 7) (i := 3) (k := 1) (n := 1) rfl rfl rfl ?_
  refine kw_callV (pc := 8) (i := 4) (Y := mX1_hasLine) (a := 17) (As := [.int i]) (st := []) kw_hE rfl rfl lvX7_137 arX1_hasLine (c_X1_hasLine_17 l σ hI i ) (by decide) (Nat.le_of_ble_eq_true rfl) rfl (fun v S2 p1 => ?_)
  obtain ⟨e7, z6, rfl, f3, f4, ef5⟩ := p1
  rw [e7]
  replace hF := kf_le ef5 hF
  have r_z6 := kw_rng z6
  show kw_AW l 6 kw_E0 KX mX7_hang (p_X7_hang_0 σ i) 11 [(0, .ref 0), (1, .int i)] [.int z6] σ
  refine kw_if_ne (pc := 11) (i := 5) (tgt := 16) rfl rfl (fun c8 => ?_) (fun c8 => ?_)
  · replace hF := kf_n c8 hF
    refine kw_aload_n (pc := 16) (i := 8) (k := 0) (n := 0) rfl rfl rfl ?_
    refine kw_get (pc := 17) (i := 9) (v := .ref 4) rfl rfl rfl lkX7_31 (fun _ => rfl) ?_
    refine kw_iload_n (pc := 20) (i := 10) (k := 1) (n := 1) rfl rfl rfl ?_
    refine kw_callV (pc := 21) (i := 11) (Y := mX5_isHung) (a := 4) (As := [.int i]) (st := []) kw_hE rfl rfl lvX7_185 arX5_isHung (c_X5_isHung_4 l σ hI i ) (by decide) (Nat.le_of_ble_eq_true rfl) rfl (fun v S10 p9 => ?_)
    obtain ⟨e14, z13, rfl, f11, ef12⟩ := p9
    rw [e14]
    replace hF := kf_le ef12 hF
    have r_z13 := kw_rng z13
    show kw_AW l 6 kw_E0 KX mX7_hang (p_X7_hang_0 σ i) 24 [(0, .ref 0), (1, .int i)] [.int z13] σ
    refine kw_if_eq (pc := 24) (i := 12) (tgt := 30) rfl rfl (fun c15 => ?_) (fun c15 => ?_)
    · replace hF := kf_p c15 hF
      refine kw_aload_n (pc := 30) (i := 15) (k := 0) (n := 0) rfl rfl rfl ?_
      refine kw_get (pc := 31) (i := 16) (v := .ref 4) rfl rfl rfl lkX7_31 (fun _ => rfl) ?_
      refine kw_iconst (pc := 34) (i := 17) (v := 1) rfl rfl ?_
      refine kw_callV (pc := 35) (i := 18) (Y := mX5_hasRoomFor) (a := 4) (As := [.int 1]) (st := []) kw_hE rfl rfl lvX7_188 arX5_hasRoomFor (c_X5_hasRoomFor_4 l σ hI 1 (by first | omega | decide) (by first | omega | decide)) (by decide) (Nat.le_of_ble_eq_true rfl) rfl (fun v S17 p16 => ?_)
      obtain ⟨e22, z21, rfl, f18, f19, ef20⟩ := p16
      rw [e22]
      replace hF := kf_le ef20 hF
      have r_z21 := kw_rng z21
      show kw_AW l 6 kw_E0 KX mX7_hang (p_X7_hang_0 σ i) 38 [(0, .ref 0), (1, .int i)] [.int z21] σ
      refine kw_if_ne (pc := 38) (i := 19) (tgt := 44) rfl rfl (fun c23 => ?_) (fun c23 => ?_)
      · replace hF := kf_n c23 hF
        refine kw_aload_n (pc := 44) (i := 22) (k := 0) (n := 0) rfl rfl rfl ?_
        refine kw_get (pc := 45) (i := 23) (v := .ref 4) rfl rfl rfl lkX7_31 (fun _ => rfl) ?_
        refine kw_iload_n (pc := 48) (i := 24) (k := 1) (n := 1) rfl rfl rfl ?_
        refine kw_callV (pc := 49) (i := 25) (Y := mX5_act) (a := 4) (As := [.int i]) (st := []) kw_hE rfl rfl lvX7_191 arX5_act (c_X5_act_4 l σ hI i ) (by decide) (Nat.le_of_ble_eq_true rfl) rfl (fun v S25 p24 => ?_)
        obtain ⟨⟨I27, F28⟩, rfl, ef26⟩ := p24
        have F29 : kw_F [4, 18, 19] σ S25 := kw_F.tr hF0 F28 (by decide)
        replace hF := kf_le ef26 hF
        show kw_AW l 6 kw_E0 KX mX7_hang (p_X7_hang_0 σ i) 52 [(0, .ref 0), (1, .int i)] [] S25
        refine kw_aload_n (pc := 52) (i := 26) (k := 0) (n := 0) rfl rfl rfl ?_
        refine kw_get (pc := 53) (i := 27) (v := .ref 4) rfl rfl rfl lkX7_31 (fun _ => rfl) ?_
        refine kw_get (pc := 56) (i := 28) (v := .int (S25.1 4 4)) rfl rfl rfl lkX7_157 (fun _ => rfl) ?_
        have b30 := kw_rng (S25.1 4 4)
        refine kw_callS (pc := 59) (i := 29) (Y := mJ6_bitCount_0f7a4) (As := [.int (S25.1 4 4)]) (st := []) kw_hE rfl lsX7_160 arJ6_bitCount_0f7a4 (c_J6_bitCount_0f7a4 l S25 I27 (S25.1 4 4) ) (by decide) (Nat.le_of_ble_eq_true rfl) rfl (fun v S32 p31 => ?_)
        obtain ⟨e35, z34, rfl, ef33⟩ := p31
        rw [e35]
        replace hF := kf_le ef33 hF
        have r_z34 := kw_rng z34
        show kw_AW l 6 kw_E0 KX mX7_hang (p_X7_hang_0 σ i) 62 [(0, .ref 0), (1, .int i)] [.int z34] S25
        exact kw_ireturn (pc := 62) (i := 30) (ty := .int) rfl rfl rfl ⟨⟨I27, F29⟩, _, rfl, hF⟩
      · replace hF := kf_p c23 hF
        refine kw_bipush (pc := 41) (i := 20) (v := (-2)) rfl rfl ?_
        exact kw_ireturn (pc := 43) (i := 21) (ty := .int) rfl rfl rfl ⟨⟨hI, hF0⟩, _, rfl, hF⟩
    · replace hF := kf_n c15 hF
      refine kw_bipush (pc := 27) (i := 13) (v := (-4)) rfl rfl ?_
      exact kw_ireturn (pc := 29) (i := 14) (ty := .int) rfl rfl rfl ⟨⟨hI, hF0⟩, _, rfl, hF⟩
  · replace hF := kf_p c8 hF
    refine kw_iconst (pc := 14) (i := 6) (v := (-1)) rfl rfl ?_
    exact kw_ireturn (pc := 15) (i := 7) (ty := .int) rfl rfl rfl ⟨⟨hI, hF0⟩, _, rfl, hF⟩
noncomputable def f_X7_take_0 (σ : kw_S) (i : Int32) : Int32 × kw_S := kf_l (f_X1_hasLine_17 σ i) fun z1 => if z1.toInt = 0 then ((((-1) : Int32), σ)) else (kf_l (f_X5_isHung_4 σ i) fun z2 => if z2.toInt = 0 then ((((-4) : Int32), σ)) else (kf_l (f_X5_hasRoomFor_4 σ (1 : Int32)) fun z3 => if z3.toInt = 0 then ((((-2) : Int32), σ)) else (kf_l (f_X5_act_4 σ i) fun S4 => kf_l (S4.1 19 i.toNatClampNeg) fun z5 => (z5, S4))))
theorem f_X7_take_0_u (σ : kw_S) (i : Int32) : f_X7_take_0 σ i = kf_l (f_X1_hasLine_17 σ i) fun z1 => if z1.toInt = 0 then ((((-1) : Int32), σ)) else (kf_l (f_X5_isHung_4 σ i) fun z2 => if z2.toInt = 0 then ((((-4) : Int32), σ)) else (kf_l (f_X5_hasRoomFor_4 σ (1 : Int32)) fun z3 => if z3.toInt = 0 then ((((-2) : Int32), σ)) else (kf_l (f_X5_act_4 σ i) fun S4 => kf_l (S4.1 19 i.toNatClampNeg) fun z5 => (z5, S4)))) := rfl
abbrev p_X7_take_0 (σ : kw_S) (i : Int32) : Option Value → kw_S → Prop := fun vv σ' => (kw_I bX σ' ∧ kw_F [4, 18, 19] σ σ') ∧ ∃ r : Int32, vv = some (.int r) ∧ (r, σ') = f_X7_take_0 σ i
set_option maxRecDepth 100000 in
set_option maxHeartbeats 4000000 in
theorem c_X7_take_0 (l : Launch) (σ : kw_S) (hI : kw_I bX σ) (i : Int32) : kw_Met l 6 KX mX7_take [.ref 0, .int i] σ (p_X7_take_0 σ i) := by
  have r_i := kw_rng i
  have hF0 : kw_F [4, 18, 19] σ σ := kw_F.rf
  have hF := (f_X7_take_0_u σ i).symm
  have q_m4 : (-4 : Int32).toInt = -4 := rfl
  have q_m2 : (-2 : Int32).toInt = -2 := rfl
  have q_m1 : (-1 : Int32).toInt = -1 := rfl
  have q_1 : (1 : Int32).toInt = 1 := rfl
  refine kw_Met.of (by decide) rfl tX7_take (Nat.le_of_ble_eq_true rfl) ?_
  show kw_AW l 6 kw_E0 KX mX7_take (p_X7_take_0 σ i) 0 [(0, .ref 0), (1, .int i)] [] σ
  refine kw_aload_n (pc := 0) (i := 0) (k := 0) (n := 0) rfl rfl rfl ?_
  refine kw_get (pc := 1) (i := 1) (v := .ref 4) rfl rfl rfl lkX7_31 (fun _ => rfl) ?_
  refine kw_get (pc := 4) (i := 2) (v := .ref 17) rfl rfl rfl lkX7_117 (fun _ => rfl) ?_
  refine kw_iload_n (pc := 7) (i := 3) (k := 1) (n := 1) rfl rfl rfl ?_
  refine kw_callV (pc := 8) (i := 4) (Y := mX1_hasLine) (a := 17) (As := [.int i]) (st := []) kw_hE rfl rfl lvX7_137 arX1_hasLine (c_X1_hasLine_17 l σ hI i ) (by decide) (Nat.le_of_ble_eq_true rfl) rfl (fun v S2 p1 => ?_)
  obtain ⟨e7, z6, rfl, f3, f4, ef5⟩ := p1
  rw [e7]
  replace hF := kf_le ef5 hF
  have r_z6 := kw_rng z6
  show kw_AW l 6 kw_E0 KX mX7_take (p_X7_take_0 σ i) 11 [(0, .ref 0), (1, .int i)] [.int z6] σ
  refine kw_if_ne (pc := 11) (i := 5) (tgt := 16) rfl rfl (fun c8 => ?_) (fun c8 => ?_)
  · replace hF := kf_n c8 hF
    refine kw_aload_n (pc := 16) (i := 8) (k := 0) (n := 0) rfl rfl rfl ?_
    refine kw_get (pc := 17) (i := 9) (v := .ref 4) rfl rfl rfl lkX7_31 (fun _ => rfl) ?_
    refine kw_iload_n (pc := 20) (i := 10) (k := 1) (n := 1) rfl rfl rfl ?_
    refine kw_callV (pc := 21) (i := 11) (Y := mX5_isHung) (a := 4) (As := [.int i]) (st := []) kw_hE rfl rfl lvX7_185 arX5_isHung (c_X5_isHung_4 l σ hI i ) (by decide) (Nat.le_of_ble_eq_true rfl) rfl (fun v S10 p9 => ?_)
    obtain ⟨e14, z13, rfl, f11, ef12⟩ := p9
    rw [e14]
    replace hF := kf_le ef12 hF
    have r_z13 := kw_rng z13
    show kw_AW l 6 kw_E0 KX mX7_take (p_X7_take_0 σ i) 24 [(0, .ref 0), (1, .int i)] [.int z13] σ
    refine kw_if_ne (pc := 24) (i := 12) (tgt := 30) rfl rfl (fun c15 => ?_) (fun c15 => ?_)
    · replace hF := kf_n c15 hF
      refine kw_aload_n (pc := 30) (i := 15) (k := 0) (n := 0) rfl rfl rfl ?_
      refine kw_get (pc := 31) (i := 16) (v := .ref 4) rfl rfl rfl lkX7_31 (fun _ => rfl) ?_
      refine kw_iconst (pc := 34) (i := 17) (v := 1) rfl rfl ?_
      refine kw_callV (pc := 35) (i := 18) (Y := mX5_hasRoomFor) (a := 4) (As := [.int 1]) (st := []) kw_hE rfl rfl lvX7_188 arX5_hasRoomFor (c_X5_hasRoomFor_4 l σ hI 1 (by first | omega | decide) (by first | omega | decide)) (by decide) (Nat.le_of_ble_eq_true rfl) rfl (fun v S17 p16 => ?_)
      obtain ⟨e22, z21, rfl, f18, f19, ef20⟩ := p16
      rw [e22]
      replace hF := kf_le ef20 hF
      have r_z21 := kw_rng z21
      show kw_AW l 6 kw_E0 KX mX7_take (p_X7_take_0 σ i) 38 [(0, .ref 0), (1, .int i)] [.int z21] σ
      refine kw_if_ne (pc := 38) (i := 19) (tgt := 44) rfl rfl (fun c23 => ?_) (fun c23 => ?_)
      · replace hF := kf_n c23 hF
        refine kw_aload_n (pc := 44) (i := 22) (k := 0) (n := 0) rfl rfl rfl ?_
        refine kw_get (pc := 45) (i := 23) (v := .ref 4) rfl rfl rfl lkX7_31 (fun _ => rfl) ?_
        refine kw_iload_n (pc := 48) (i := 24) (k := 1) (n := 1) rfl rfl rfl ?_
        refine kw_callV (pc := 49) (i := 25) (Y := mX5_act) (a := 4) (As := [.int i]) (st := []) kw_hE rfl rfl lvX7_191 arX5_act (c_X5_act_4 l σ hI i ) (by decide) (Nat.le_of_ble_eq_true rfl) rfl (fun v S25 p24 => ?_)
        obtain ⟨⟨I27, F28⟩, rfl, ef26⟩ := p24
        have F29 : kw_F [4, 18, 19] σ S25 := kw_F.tr hF0 F28 (by decide)
        replace hF := kf_le ef26 hF
        show kw_AW l 6 kw_E0 KX mX7_take (p_X7_take_0 σ i) 52 [(0, .ref 0), (1, .int i)] [] S25
        refine kw_aload_n (pc := 52) (i := 26) (k := 0) (n := 0) rfl rfl rfl ?_
        refine kw_get (pc := 53) (i := 27) (v := .ref 4) rfl rfl rfl lkX7_31 (fun _ => rfl) ?_
        refine kw_get (pc := 56) (i := 28) (v := .ref 19) rfl rfl rfl lkX7_194 (fun _ => rfl) ?_
        refine kw_iload_n (pc := 59) (i := 29) (k := 1) (n := 1) rfl rfl rfl ?_
        refine kw_iald (pc := 60) (i := 30) (n := 6) rfl rfl (by omega) (by omega) (fun z30 e_z30 => ?_)
        replace hF := kf_le e_z30 hF
        have t_z30 := congrArg Int32.toInt e_z30
        have r_z30 := kw_rng z30
        exact kw_ireturn (pc := 61) (i := 31) (ty := .int) rfl rfl rfl ⟨⟨I27, F29⟩, _, rfl, hF⟩
      · replace hF := kf_p c23 hF
        refine kw_bipush (pc := 41) (i := 20) (v := (-2)) rfl rfl ?_
        exact kw_ireturn (pc := 43) (i := 21) (ty := .int) rfl rfl rfl ⟨⟨hI, hF0⟩, _, rfl, hF⟩
    · replace hF := kf_p c15 hF
      refine kw_bipush (pc := 27) (i := 13) (v := (-4)) rfl rfl ?_
      exact kw_ireturn (pc := 29) (i := 14) (ty := .int) rfl rfl rfl ⟨⟨hI, hF0⟩, _, rfl, hF⟩
  · replace hF := kf_p c8 hF
    refine kw_iconst (pc := 14) (i := 6) (v := (-1)) rfl rfl ?_
    exact kw_ireturn (pc := 15) (i := 7) (ty := .int) rfl rfl rfl ⟨⟨hI, hF0⟩, _, rfl, hF⟩
end
section
noncomputable def f_X7_hour_0 (σ : kw_S)  : Int32 × kw_S := kf_l (f_X5_isEmpty_4 σ) fun z1 => if z1.toInt = 0 then (kf_l (f_X5_hasRoomFor_4 σ (1 : Int32)) fun z2 => if z2.toInt = 0 then ((((-2) : Int32), σ)) else (kf_l (f_X5_act_4 σ (6 : Int32)) fun S3 => kf_l (S3.1 4 7).toInt64 fun z4 => kf_l (f_X4_tellWhole_8 S3 z4) fun S5 => kf_b (f_X4_answer_8 S5 (S5.1 4 6)) fun z6 S7 => (z6, S7))) else ((((-4) : Int32), σ))
theorem f_X7_hour_0_u (σ : kw_S)  : f_X7_hour_0 σ  = kf_l (f_X5_isEmpty_4 σ) fun z1 => if z1.toInt = 0 then (kf_l (f_X5_hasRoomFor_4 σ (1 : Int32)) fun z2 => if z2.toInt = 0 then ((((-2) : Int32), σ)) else (kf_l (f_X5_act_4 σ (6 : Int32)) fun S3 => kf_l (S3.1 4 7).toInt64 fun z4 => kf_l (f_X4_tellWhole_8 S3 z4) fun S5 => kf_b (f_X4_answer_8 S5 (S5.1 4 6)) fun z6 S7 => (z6, S7))) else ((((-4) : Int32), σ)) := rfl
abbrev p_X7_hour_0 (σ : kw_S)  : Option Value → kw_S → Prop := fun vv σ' => (kw_I bX σ' ∧ kw_F [4, 18, 19, 8, 28] σ σ') ∧ ∃ r : Int32, vv = some (.int r) ∧ (r, σ') = f_X7_hour_0 σ
set_option maxRecDepth 100000 in
set_option maxHeartbeats 4000000 in
theorem c_X7_hour_0 (l : Launch) (σ : kw_S) (hI : kw_I bX σ)  : kw_Met l 6 KX mX7_hour [.ref 0] σ (p_X7_hour_0 σ) := by
  have hF0 : kw_F [4, 18, 19, 8, 28] σ σ := kw_F.rf
  have hF := (f_X7_hour_0_u σ).symm
  have q_m4 : (-4 : Int32).toInt = -4 := rfl
  have q_m2 : (-2 : Int32).toInt = -2 := rfl
  have q_1 : (1 : Int32).toInt = 1 := rfl
  have q_6 : (6 : Int32).toInt = 6 := rfl
  refine kw_Met.of (by decide) rfl tX7_hour (Nat.le_of_ble_eq_true rfl) ?_
  show kw_AW l 6 kw_E0 KX mX7_hour (p_X7_hour_0 σ) 0 [(0, .ref 0)] [] σ
  refine kw_aload_n (pc := 0) (i := 0) (k := 0) (n := 0) rfl rfl rfl ?_
  refine kw_get (pc := 1) (i := 1) (v := .ref 4) rfl rfl rfl lkX7_31 (fun _ => rfl) ?_
  refine kw_callV (pc := 4) (i := 2) (Y := mX5_isEmpty) (a := 4) (As := []) (st := []) kw_hE rfl rfl lvX7_178 arX5_isEmpty (c_X5_isEmpty_4 l σ hI  ) (by decide) (Nat.le_of_ble_eq_true rfl) rfl (fun v S2 p1 => ?_)
  obtain ⟨e8, z7, rfl, f3, f4, f5, ef6⟩ := p1
  rw [e8]
  replace hF := kf_le ef6 hF
  have r_z7 := kw_rng z7
  show kw_AW l 6 kw_E0 KX mX7_hour (p_X7_hour_0 σ) 7 [(0, .ref 0)] [.int z7] σ
  refine kw_if_eq (pc := 7) (i := 3) (tgt := 13) rfl rfl (fun c9 => ?_) (fun c9 => ?_)
  · replace hF := kf_p c9 hF
    refine kw_aload_n (pc := 13) (i := 6) (k := 0) (n := 0) rfl rfl rfl ?_
    refine kw_get (pc := 14) (i := 7) (v := .ref 4) rfl rfl rfl lkX7_31 (fun _ => rfl) ?_
    refine kw_iconst (pc := 17) (i := 8) (v := 1) rfl rfl ?_
    refine kw_callV (pc := 18) (i := 9) (Y := mX5_hasRoomFor) (a := 4) (As := [.int 1]) (st := []) kw_hE rfl rfl lvX7_188 arX5_hasRoomFor (c_X5_hasRoomFor_4 l σ hI 1 (by first | omega | decide) (by first | omega | decide)) (by decide) (Nat.le_of_ble_eq_true rfl) rfl (fun v S11 p10 => ?_)
    obtain ⟨e16, z15, rfl, f12, f13, ef14⟩ := p10
    rw [e16]
    replace hF := kf_le ef14 hF
    have r_z15 := kw_rng z15
    show kw_AW l 6 kw_E0 KX mX7_hour (p_X7_hour_0 σ) 21 [(0, .ref 0)] [.int z15] σ
    refine kw_if_ne (pc := 21) (i := 10) (tgt := 27) rfl rfl (fun c17 => ?_) (fun c17 => ?_)
    · replace hF := kf_n c17 hF
      refine kw_aload_n (pc := 27) (i := 13) (k := 0) (n := 0) rfl rfl rfl ?_
      refine kw_get (pc := 28) (i := 14) (v := .ref 4) rfl rfl rfl lkX7_31 (fun _ => rfl) ?_
      refine kw_bipush (pc := 31) (i := 15) (v := 6) rfl rfl ?_
      refine kw_callV (pc := 33) (i := 16) (Y := mX5_act) (a := 4) (As := [.int 6]) (st := []) kw_hE rfl rfl lvX7_191 arX5_act (c_X5_act_4 l σ hI 6 ) (by decide) (Nat.le_of_ble_eq_true rfl) rfl (fun v S19 p18 => ?_)
      obtain ⟨⟨I21, F22⟩, rfl, ef20⟩ := p18
      have F23 : kw_F [4, 18, 19, 8, 28] σ S19 := kw_F.tr hF0 F22 (by decide)
      replace hF := kf_le ef20 hF
      show kw_AW l 6 kw_E0 KX mX7_hour (p_X7_hour_0 σ) 36 [(0, .ref 0)] [] S19
      refine kw_aload_n (pc := 36) (i := 17) (k := 0) (n := 0) rfl rfl rfl ?_
      refine kw_get (pc := 37) (i := 18) (v := .ref 8) rfl rfl rfl lkX7_55 (fun _ => rfl) ?_
      refine kw_aload_n (pc := 40) (i := 19) (k := 0) (n := 0) rfl rfl rfl ?_
      refine kw_get (pc := 41) (i := 20) (v := .ref 4) rfl rfl rfl lkX7_31 (fun _ => rfl) ?_
      refine kw_get (pc := 44) (i := 21) (v := .int (S19.1 4 7)) rfl rfl rfl lkX7_197 (fun _ => rfl) ?_
      have b24 := kw_rng (S19.1 4 7)
      refine kw_i2l (pc := 47) (i := 22) rfl (fun z25 e_z25 t_z25 => ?_)
      replace hF := kf_le e_z25 hF
      refine kw_callV (pc := 48) (i := 23) (Y := mX4_tellWhole) (a := 8) (As := [.long z25]) (st := []) kw_hE rfl rfl lvX7_200 arX4_tellWhole (c_X4_tellWhole_8 l S19 I21 z25 ) (by decide) (Nat.le_of_ble_eq_true rfl) rfl (fun v S27 p26 => ?_)
      obtain ⟨⟨I29, F30⟩, rfl, ef28⟩ := p26
      have F31 : kw_F [4, 18, 19, 8, 28] σ S27 := kw_F.tr F23 F30 (by decide)
      replace hF := kf_le ef28 hF
      show kw_AW l 6 kw_E0 KX mX7_hour (p_X7_hour_0 σ) 51 [(0, .ref 0)] [] S27
      refine kw_aload_n (pc := 51) (i := 24) (k := 0) (n := 0) rfl rfl rfl ?_
      refine kw_get (pc := 52) (i := 25) (v := .ref 8) rfl rfl rfl lkX7_55 (fun _ => rfl) ?_
      refine kw_aload_n (pc := 55) (i := 26) (k := 0) (n := 0) rfl rfl rfl ?_
      refine kw_get (pc := 56) (i := 27) (v := .ref 4) rfl rfl rfl lkX7_31 (fun _ => rfl) ?_
      refine kw_get (pc := 59) (i := 28) (v := .int (S27.1 4 6)) rfl rfl rfl lkX7_204 (fun _ => rfl) ?_
      have b32 := kw_rng (S27.1 4 6)
      refine kw_callV (pc := 62) (i := 29) (Y := mX4_answer) (a := 8) (As := [.int (S27.1 4 6)]) (st := []) kw_hE rfl rfl lvX7_92 arX4_answer (c_X4_answer_8 l S27 I29 (S27.1 4 6) ) (by decide) (Nat.le_of_ble_eq_true rfl) rfl (fun v S34 p33 => ?_)
      obtain ⟨⟨I38, F39⟩, z37, rfl, f35, ef36⟩ := p33
      have F40 : kw_F [4, 18, 19, 8, 28] σ S34 := kw_F.tr F31 F39 (by decide)
      replace hF := kf_be ef36 hF
      have r_z37 := kw_rng z37
      show kw_AW l 6 kw_E0 KX mX7_hour (p_X7_hour_0 σ) 65 [(0, .ref 0)] [.int z37] S34
      exact kw_ireturn (pc := 65) (i := 30) (ty := .int) rfl rfl rfl ⟨⟨I38, F40⟩, _, rfl, hF⟩
    · replace hF := kf_p c17 hF
      refine kw_bipush (pc := 24) (i := 11) (v := (-2)) rfl rfl ?_
      exact kw_ireturn (pc := 26) (i := 12) (ty := .int) rfl rfl rfl ⟨⟨hI, hF0⟩, _, rfl, hF⟩
  · replace hF := kf_n c9 hF
    refine kw_bipush (pc := 10) (i := 4) (v := (-4)) rfl rfl ?_
    exact kw_ireturn (pc := 12) (i := 5) (ty := .int) rfl rfl rfl ⟨⟨hI, hF0⟩, _, rfl, hF⟩
noncomputable def f_X7_undo_0 (σ : kw_S) (n : Int32) : Int32 × kw_S := if n.toInt < 0 then ((((-1) : Int32), σ)) else (if (σ.1 4 3).toInt < n.toInt then ((((-1) : Int32), σ)) else (kf_l ((σ.1 4 3) - n) fun z1 => kf_l (f_X5_replay_4 σ n) fun S2 => (z1, S2)))
theorem f_X7_undo_0_u (σ : kw_S) (n : Int32) : f_X7_undo_0 σ n = if n.toInt < 0 then ((((-1) : Int32), σ)) else (if (σ.1 4 3).toInt < n.toInt then ((((-1) : Int32), σ)) else (kf_l ((σ.1 4 3) - n) fun z1 => kf_l (f_X5_replay_4 σ n) fun S2 => (z1, S2))) := rfl
abbrev p_X7_undo_0 (σ : kw_S) (n : Int32) : Option Value → kw_S → Prop := fun vv σ' => (kw_I bX σ' ∧ kw_F [4, 18, 19] σ σ') ∧ ∃ r : Int32, vv = some (.int r) ∧ (r, σ') = f_X7_undo_0 σ n
set_option maxRecDepth 100000 in
set_option maxHeartbeats 4000000 in
theorem c_X7_undo_0 (l : Launch) (σ : kw_S) (hI : kw_I bX σ) (n : Int32) : kw_Met l 7 KX mX7_undo [.ref 0, .int n] σ (p_X7_undo_0 σ n) := by
  have r_n := kw_rng n
  have hF0 : kw_F [4, 18, 19] σ σ := kw_F.rf
  have hF := (f_X7_undo_0_u σ n).symm
  have q_m1 : (-1 : Int32).toInt = -1 := rfl
  refine kw_Met.of (by decide) rfl tX7_undo (Nat.le_of_ble_eq_true rfl) ?_
  show kw_AW l 7 kw_E0 KX mX7_undo (p_X7_undo_0 σ n) 0 [(0, .ref 0), (1, .int n)] [] σ
  refine kw_iload_n (pc := 0) (i := 0) (k := 1) (n := 1) rfl rfl rfl ?_
  refine kw_if_lt (pc := 1) (i := 1) (tgt := 15) rfl rfl (fun c1 => ?_) (fun c1 => ?_)
  · replace hF := kf_p c1 hF
    refine kw_iconst (pc := 15) (i := 7) (v := (-1)) rfl rfl ?_
    exact kw_ireturn (pc := 16) (i := 8) (ty := .int) rfl rfl rfl ⟨⟨hI, hF0⟩, _, rfl, hF⟩
  · replace hF := kf_nl c1 hF
    refine kw_iload_n (pc := 4) (i := 2) (k := 1) (n := 1) rfl rfl rfl ?_
    refine kw_aload_n (pc := 5) (i := 3) (k := 0) (n := 0) rfl rfl rfl ?_
    refine kw_get (pc := 6) (i := 4) (v := .ref 4) rfl rfl rfl lkX7_31 (fun _ => rfl) ?_
    refine kw_get (pc := 9) (i := 5) (v := .int (σ.1 4 3)) rfl rfl rfl lkX7_207 (fun _ => rfl) ?_
    have b2 : 0 ≤ (σ.1 4 3).toInt ∧ (σ.1 4 3).toInt ≤ 40 := hI 4 3
    refine kw_icmp_le (pc := 12) (i := 6) (tgt := 17) rfl rfl (fun c3 => ?_) (fun c3 => ?_)
    · replace hF := kf_nl c3 hF
      refine kw_aload_n (pc := 17) (i := 9) (k := 0) (n := 0) rfl rfl rfl ?_
      refine kw_get (pc := 18) (i := 10) (v := .ref 4) rfl rfl rfl lkX7_31 (fun _ => rfl) ?_
      refine kw_get (pc := 21) (i := 11) (v := .int (σ.1 4 3)) rfl rfl rfl lkX7_207 (fun _ => rfl) ?_
      refine kw_iload_n (pc := 24) (i := 12) (k := 1) (n := 1) rfl rfl rfl ?_
      refine kw_isub (pc := 25) (i := 13) rfl (fun z4 e_z4 t_z4 => ?_)
      replace hF := kf_le e_z4 hF
      refine kw_istore_n (pc := 26) (i := 14) (n := 2) (lv' := [(2, .int z4), (0, .ref 0), (1, .int n)]) rfl rfl (by decide) rfl ?_
      refine kw_aload_n (pc := 27) (i := 15) (k := 1) (n := 0) rfl rfl rfl ?_
      refine kw_get (pc := 28) (i := 16) (v := .ref 4) rfl rfl rfl lkX7_31 (fun _ => rfl) ?_
      refine kw_iload_n (pc := 31) (i := 17) (k := 2) (n := 1) rfl rfl rfl ?_
      refine kw_callV (pc := 32) (i := 18) (Y := mX5_replay) (a := 4) (As := [.int n]) (st := []) kw_hE rfl rfl lvX7_130 arX5_replay (c_X5_replay_4 l σ hI n ) (by decide) (Nat.le_of_ble_eq_true rfl) rfl (fun v S6 p5 => ?_)
      obtain ⟨⟨I8, F9⟩, rfl, ef7⟩ := p5
      have F10 : kw_F [4, 18, 19] σ S6 := kw_F.tr hF0 F9 (by decide)
      replace hF := kf_le ef7 hF
      show kw_AW l 7 kw_E0 KX mX7_undo (p_X7_undo_0 σ n) 35 [(2, .int z4), (0, .ref 0), (1, .int n)] [] S6
      refine kw_iload_n (pc := 35) (i := 19) (k := 0) (n := 2) rfl rfl rfl ?_
      exact kw_ireturn (pc := 36) (i := 20) (ty := .int) rfl rfl rfl ⟨⟨I8, F10⟩, _, rfl, hF⟩
    · replace hF := kf_p c3 hF
      refine kw_iconst (pc := 15) (i := 7) (v := (-1)) rfl rfl ?_
      exact kw_ireturn (pc := 16) (i := 8) (ty := .int) rfl rfl rfl ⟨⟨hI, hF0⟩, _, rfl, hF⟩
noncomputable def l_X7_keep_0_44 (a1 : Int32) : Nat → Int32 → kw_S → Int32 × kw_S
  | 0, _, S => (0, S)
  | n + 1, x2, S => if x2.toInt < (S.1 4 3).toInt then (kf_l (S.1 18 x2.toNatClampNeg) fun z4 => kf_l (f_X3_change_5 S a1 x2 z4) fun S5 => kf_l (x2 + Int32.ofInt 1) fun z6 => l_X7_keep_0_44 a1 n z6 S5) else (((S.1 4 3), S))
theorem l_X7_keep_0_44_s (a1 : Int32) (n : Nat) (x2 : Int32) (S : kw_S) : l_X7_keep_0_44 a1 (n + 1) x2 S = if x2.toInt < (S.1 4 3).toInt then (kf_l (S.1 18 x2.toNatClampNeg) fun z4 => kf_l (f_X3_change_5 S a1 x2 z4) fun S5 => kf_l (x2 + Int32.ofInt 1) fun z6 => l_X7_keep_0_44 a1 n z6 S5) else (((S.1 4 3), S)) := rfl
noncomputable def f_X7_keep_0 (σ : kw_S) (k : Int32) : Int32 × kw_S := kf_l (f_X3_has_5 σ k) fun z1 => if z1.toInt = 0 then ((((-1) : Int32), σ)) else (kf_l (f_X5_isEmpty_4 σ) fun z2 => if z2.toInt = 0 then (kf_l (f_X3_make_5 σ k (σ.1 4 3) (0 : Int32)) fun S3 => l_X7_keep_0_44 k ((41 - (0 : Int32).toInt).toNat + 1) (0 : Int32) S3) else ((((-4) : Int32), σ)))
theorem f_X7_keep_0_u (σ : kw_S) (k : Int32) : f_X7_keep_0 σ k = kf_l (f_X3_has_5 σ k) fun z1 => if z1.toInt = 0 then ((((-1) : Int32), σ)) else (kf_l (f_X5_isEmpty_4 σ) fun z2 => if z2.toInt = 0 then (kf_l (f_X3_make_5 σ k (σ.1 4 3) (0 : Int32)) fun S3 => l_X7_keep_0_44 k ((41 - (0 : Int32).toInt).toNat + 1) (0 : Int32) S3) else ((((-4) : Int32), σ))) := rfl
abbrev p_X7_keep_0 (σ : kw_S) (k : Int32) : Option Value → kw_S → Prop := fun vv σ' => (kw_I bX σ' ∧ kw_F [21, 49, 50, 51] σ σ') ∧ ∃ r : Int32, vv = some (.int r) ∧ (r, σ') = f_X7_keep_0 σ k
set_option maxRecDepth 100000 in
set_option maxHeartbeats 4000000 in
theorem c_X7_keep_0 (l : Launch) (σ : kw_S) (hI : kw_I bX σ) (k : Int32) : kw_Met l 4 KX mX7_keep [.ref 0, .int k] σ (p_X7_keep_0 σ k) := by
  have r_k := kw_rng k
  have hF0 : kw_F [21, 49, 50, 51] σ σ := kw_F.rf
  have hF := (f_X7_keep_0_u σ k).symm
  have q_m4 : (-4 : Int32).toInt = -4 := rfl
  have q_m1 : (-1 : Int32).toInt = -1 := rfl
  have q_0 : (0 : Int32).toInt = 0 := rfl
  refine kw_Met.of (by decide) rfl tX7_keep (Nat.le_of_ble_eq_true rfl) ?_
  show kw_AW l 4 kw_E0 KX mX7_keep (p_X7_keep_0 σ k) 0 [(0, .ref 0), (1, .int k)] [] σ
  refine kw_aload_n (pc := 0) (i := 0) (k := 0) (n := 0) rfl rfl rfl ?_
  refine kw_get (pc := 1) (i := 1) (v := .ref 5) rfl rfl rfl lkX7_35 (fun _ => rfl) ?_
  refine kw_iload_n (pc := 4) (i := 2) (k := 1) (n := 1) rfl rfl rfl ?_
  refine kw_callV (pc := 5) (i := 3) (Y := mX3_has) (a := 5) (As := [.int k]) (st := []) kw_hE rfl rfl lvX7_73 arX3_has (c_X3_has_5 l σ hI k ) (by decide) (Nat.le_of_ble_eq_true rfl) rfl (fun v S2 p1 => ?_)
  obtain ⟨e8, z7, rfl, f3, f4, f5, ef6⟩ := p1
  rw [e8]
  replace hF := kf_le ef6 hF
  have r_z7 := kw_rng z7
  show kw_AW l 4 kw_E0 KX mX7_keep (p_X7_keep_0 σ k) 8 [(0, .ref 0), (1, .int k)] [.int z7] σ
  refine kw_if_ne (pc := 8) (i := 4) (tgt := 13) rfl rfl (fun c9 => ?_) (fun c9 => ?_)
  · replace hF := kf_n c9 hF
    refine kw_aload_n (pc := 13) (i := 7) (k := 0) (n := 0) rfl rfl rfl ?_
    refine kw_get (pc := 14) (i := 8) (v := .ref 4) rfl rfl rfl lkX7_31 (fun _ => rfl) ?_
    refine kw_callV (pc := 17) (i := 9) (Y := mX5_isEmpty) (a := 4) (As := []) (st := []) kw_hE rfl rfl lvX7_178 arX5_isEmpty (c_X5_isEmpty_4 l σ hI  ) (by decide) (Nat.le_of_ble_eq_true rfl) rfl (fun v S11 p10 => ?_)
    obtain ⟨e17, z16, rfl, f12, f13, f14, ef15⟩ := p10
    rw [e17]
    replace hF := kf_le ef15 hF
    have r_z16 := kw_rng z16
    show kw_AW l 4 kw_E0 KX mX7_keep (p_X7_keep_0 σ k) 20 [(0, .ref 0), (1, .int k)] [.int z16] σ
    refine kw_if_eq (pc := 20) (i := 10) (tgt := 26) rfl rfl (fun c18 => ?_) (fun c18 => ?_)
    · replace hF := kf_p c18 hF
      refine kw_aload_n (pc := 26) (i := 13) (k := 0) (n := 0) rfl rfl rfl ?_
      refine kw_get (pc := 27) (i := 14) (v := .ref 5) rfl rfl rfl lkX7_35 (fun _ => rfl) ?_
      refine kw_iload_n (pc := 30) (i := 15) (k := 1) (n := 1) rfl rfl rfl ?_
      refine kw_aload_n (pc := 31) (i := 16) (k := 0) (n := 0) rfl rfl rfl ?_
      refine kw_get (pc := 32) (i := 17) (v := .ref 4) rfl rfl rfl lkX7_31 (fun _ => rfl) ?_
      refine kw_get (pc := 35) (i := 18) (v := .int (σ.1 4 3)) rfl rfl rfl lkX7_207 (fun _ => rfl) ?_
      have b19 : 0 ≤ (σ.1 4 3).toInt ∧ (σ.1 4 3).toInt ≤ 40 := hI 4 3
      refine kw_iconst (pc := 38) (i := 19) (v := 0) rfl rfl ?_
      refine kw_callV (pc := 39) (i := 20) (Y := mX3_make) (a := 5) (As := [.int k, .int (σ.1 4 3), .int 0]) (st := []) kw_hE rfl rfl lvX7_210 arX3_make (c_X3_make_5 l σ hI k (σ.1 4 3) 0 ) (by decide) (Nat.le_of_ble_eq_true rfl) rfl (fun v S21 p20 => ?_)
      obtain ⟨⟨I23, F24⟩, rfl, ef22⟩ := p20
      have F25 : kw_F [21, 49, 50, 51] σ S21 := kw_F.tr hF0 F24 (by decide)
      replace hF := kf_le ef22 hF
      show kw_AW l 4 kw_E0 KX mX7_keep (p_X7_keep_0 σ k) 42 [(0, .ref 0), (1, .int k)] [] S21
      refine kw_iconst (pc := 42) (i := 21) (v := 0) rfl rfl ?_
      refine kw_istore_n (pc := 43) (i := 22) (n := 2) (lv' := [(2, .int 0), (0, .ref 0), (1, .int k)]) rfl rfl (by decide) rfl ?_
      have L30 : ∀ (n34 : Nat) (x26 : Int32) (S27 : kw_S), kw_I bX S27 → kw_F [21, 49, 50, 51] σ S27 → 0 ≤ x26.toInt → l_X7_keep_0_44 k n34 x26 S27 = (f_X7_keep_0 σ k) → (41 - x26.toInt).toNat < n34 → kw_AW l 4 kw_E0 KX mX7_keep (p_X7_keep_0 σ k) 44 [(2, .int x26), (0, .ref 0), (1, .int k)] [] S27 := by
        intro n34
        induction n34 with
        | zero => intro x26 S27 I28 F29 v32 hF m33; exact absurd m33 (Nat.not_lt_zero _)
        | succ n34 ih31 =>
          intro x26 S27 I28 F29 v32 hF m33
          replace hF := kf_st (l_X7_keep_0_44_s _ _ _ _) hF
          have r_x26 := kw_rng x26
          refine kw_iload_n (pc := 44) (i := 23) (k := 0) (n := 2) rfl rfl rfl ?_
          refine kw_aload_n (pc := 45) (i := 24) (k := 1) (n := 0) rfl rfl rfl ?_
          refine kw_get (pc := 46) (i := 25) (v := .ref 4) rfl rfl rfl lkX7_31 (fun _ => rfl) ?_
          refine kw_get (pc := 49) (i := 26) (v := .int (S27.1 4 3)) rfl rfl rfl lkX7_207 (fun _ => rfl) ?_
          have b35 : 0 ≤ (S27.1 4 3).toInt ∧ (S27.1 4 3).toInt ≤ 40 := I28 4 3
          refine kw_icmp_ge (pc := 52) (i := 27) (tgt := 79) rfl rfl (fun c36 => ?_) (fun c36 => ?_)
          · replace hF := kf_nl c36 hF
            refine kw_aload_n (pc := 79) (i := 40) (k := 1) (n := 0) rfl rfl rfl ?_
            refine kw_get (pc := 80) (i := 41) (v := .ref 4) rfl rfl rfl lkX7_31 (fun _ => rfl) ?_
            refine kw_get (pc := 83) (i := 42) (v := .int (S27.1 4 3)) rfl rfl rfl lkX7_207 (fun _ => rfl) ?_
            exact kw_ireturn (pc := 86) (i := 43) (ty := .int) rfl rfl rfl ⟨⟨I28, F29⟩, _, rfl, hF⟩
          · replace hF := kf_p c36 hF
            refine kw_aload_n (pc := 55) (i := 28) (k := 1) (n := 0) rfl rfl rfl ?_
            refine kw_get (pc := 56) (i := 29) (v := .ref 5) rfl rfl rfl lkX7_35 (fun _ => rfl) ?_
            refine kw_iload_n (pc := 59) (i := 30) (k := 2) (n := 1) rfl rfl rfl ?_
            refine kw_iload_n (pc := 60) (i := 31) (k := 0) (n := 2) rfl rfl rfl ?_
            refine kw_aload_n (pc := 61) (i := 32) (k := 1) (n := 0) rfl rfl rfl ?_
            refine kw_get (pc := 62) (i := 33) (v := .ref 4) rfl rfl rfl lkX7_31 (fun _ => rfl) ?_
            refine kw_get (pc := 65) (i := 34) (v := .ref 18) rfl rfl rfl lkX7_213 (fun _ => rfl) ?_
            refine kw_iload_n (pc := 68) (i := 35) (k := 0) (n := 2) rfl rfl rfl ?_
            refine kw_iald (pc := 69) (i := 36) (n := 40) rfl rfl (by omega) (by omega) (fun z37 e_z37 => ?_)
            replace hF := kf_le e_z37 hF
            have t_z37 := congrArg Int32.toInt e_z37
            have r_z37 := kw_rng z37
            refine kw_callV (pc := 70) (i := 37) (Y := mX3_change) (a := 5) (As := [.int k, .int x26, .int z37]) (st := []) kw_hE rfl rfl lvX7_88 arX3_change (c_X3_change_5 l S27 I28 k x26 z37 ) (by decide) (Nat.le_of_ble_eq_true rfl) rfl (fun v S39 p38 => ?_)
            obtain ⟨⟨I41, F42⟩, rfl, ef40⟩ := p38
            have F43 : kw_F [21, 49, 50, 51] σ S39 := kw_F.tr F29 F42 (by decide)
            replace hF := kf_le ef40 hF
            show kw_AW l 4 kw_E0 KX mX7_keep (p_X7_keep_0 σ k) 73 [(2, .int x26), (0, .ref 0), (1, .int k)] [] S39
            refine kw_iinc' (pc := 73) (i := 38) (k := 0) (fun z => [(2, .int z), (0, .ref 0), (1, .int k)]) rfl rfl (by decide) rfl (fun _ => rfl) (fun z44 e_z44 t_z44 => ?_)
            replace hF := kf_le e_z44 hF
            refine kw_goto (pc := 76) (i := 39) (tgt := 44) rfl rfl ?_
            refine kw_sub (lv' := [(2, .int z44), (0, .ref 0), (1, .int k)]) [0, 1, 2] rfl ?_
            exact ih31 z44 S39 I41 F43 (by omega) hF (by omega)
      exact L30 _ 0 S21 I23 F25 (by omega) hF (Nat.lt_succ_self _)
    · replace hF := kf_n c18 hF
      refine kw_bipush (pc := 23) (i := 11) (v := (-4)) rfl rfl ?_
      exact kw_ireturn (pc := 25) (i := 12) (ty := .int) rfl rfl rfl ⟨⟨hI, hF0⟩, _, rfl, hF⟩
  · replace hF := kf_p c9 hF
    refine kw_iconst (pc := 11) (i := 5) (v := (-1)) rfl rfl ?_
    exact kw_ireturn (pc := 12) (i := 6) (ty := .int) rfl rfl rfl ⟨⟨hI, hF0⟩, _, rfl, hF⟩
noncomputable def l_X7_on_0_44 (a1 : Int32) (a2 : Int32) : Nat → Int32 → kw_S → Int32 × kw_S
  | 0, _, S => (0, S)
  | n + 1, x3, S => if x3.toInt < a2.toInt then (kf_l (f_X3_valueAt_5 S a1 x3) fun z5 => kf_l (x3 + Int32.ofInt 1) fun z6 => l_X7_on_0_44 a1 a2 n z6 (kw_ui S 18 x3.toNatClampNeg z5)) else (kf_l (f_X5_replay_4 S a2) fun S4 => (a2, S4))
theorem l_X7_on_0_44_s (a1 : Int32) (a2 : Int32) (n : Nat) (x3 : Int32) (S : kw_S) : l_X7_on_0_44 a1 a2 (n + 1) x3 S = if x3.toInt < a2.toInt then (kf_l (f_X3_valueAt_5 S a1 x3) fun z5 => kf_l (x3 + Int32.ofInt 1) fun z6 => l_X7_on_0_44 a1 a2 n z6 (kw_ui S 18 x3.toNatClampNeg z5)) else (kf_l (f_X5_replay_4 S a2) fun S4 => (a2, S4)) := rfl
noncomputable def f_X7_on_0 (σ : kw_S) (k : Int32) : Int32 × kw_S := kf_l (f_X3_has_5 σ k) fun z1 => if z1.toInt = 0 then ((((-1) : Int32), σ)) else (kf_l (f_X3_isMissing_5 σ k) fun z2 => if z2.toInt = 0 then (kf_l (f_X3_sizeOf_5 σ k) fun z3 => l_X7_on_0_44 k z3 ((41 - (0 : Int32).toInt).toNat + 1) (0 : Int32) σ) else (kf_b (f_X4_refuse_8 σ (1 : Int32)) fun z7 S8 => (z7, S8)))
theorem f_X7_on_0_u (σ : kw_S) (k : Int32) : f_X7_on_0 σ k = kf_l (f_X3_has_5 σ k) fun z1 => if z1.toInt = 0 then ((((-1) : Int32), σ)) else (kf_l (f_X3_isMissing_5 σ k) fun z2 => if z2.toInt = 0 then (kf_l (f_X3_sizeOf_5 σ k) fun z3 => l_X7_on_0_44 k z3 ((41 - (0 : Int32).toInt).toNat + 1) (0 : Int32) σ) else (kf_b (f_X4_refuse_8 σ (1 : Int32)) fun z7 S8 => (z7, S8))) := rfl
abbrev p_X7_on_0 (σ : kw_S) (k : Int32) : Option Value → kw_S → Prop := fun vv σ' => (kw_I bX σ' ∧ kw_F [8, 28, 4, 18, 19] σ σ') ∧ ∃ r : Int32, vv = some (.int r) ∧ (r, σ') = f_X7_on_0 σ k
set_option maxRecDepth 100000 in
set_option maxHeartbeats 4000000 in
theorem c_X7_on_0 (l : Launch) (σ : kw_S) (hI : kw_I bX σ) (k : Int32) : kw_Met l 7 KX mX7_on [.ref 0, .int k] σ (p_X7_on_0 σ k) := by
  have r_k := kw_rng k
  have hF0 : kw_F [8, 28, 4, 18, 19] σ σ := kw_F.rf
  have hF := (f_X7_on_0_u σ k).symm
  have q_m1 : (-1 : Int32).toInt = -1 := rfl
  have q_0 : (0 : Int32).toInt = 0 := rfl
  have q_1 : (1 : Int32).toInt = 1 := rfl
  refine kw_Met.of (by decide) rfl tX7_on (Nat.le_of_ble_eq_true rfl) ?_
  show kw_AW l 7 kw_E0 KX mX7_on (p_X7_on_0 σ k) 0 [(0, .ref 0), (1, .int k)] [] σ
  refine kw_aload_n (pc := 0) (i := 0) (k := 0) (n := 0) rfl rfl rfl ?_
  refine kw_get (pc := 1) (i := 1) (v := .ref 5) rfl rfl rfl lkX7_35 (fun _ => rfl) ?_
  refine kw_iload_n (pc := 4) (i := 2) (k := 1) (n := 1) rfl rfl rfl ?_
  refine kw_callV (pc := 5) (i := 3) (Y := mX3_has) (a := 5) (As := [.int k]) (st := []) kw_hE rfl rfl lvX7_73 arX3_has (c_X3_has_5 l σ hI k ) (by decide) (Nat.le_of_ble_eq_true rfl) rfl (fun v S2 p1 => ?_)
  obtain ⟨e8, z7, rfl, f3, f4, f5, ef6⟩ := p1
  rw [e8]
  replace hF := kf_le ef6 hF
  have r_z7 := kw_rng z7
  show kw_AW l 7 kw_E0 KX mX7_on (p_X7_on_0 σ k) 8 [(0, .ref 0), (1, .int k)] [.int z7] σ
  refine kw_if_ne (pc := 8) (i := 4) (tgt := 13) rfl rfl (fun c9 => ?_) (fun c9 => ?_)
  · replace hF := kf_n c9 hF
    refine kw_aload_n (pc := 13) (i := 7) (k := 0) (n := 0) rfl rfl rfl ?_
    refine kw_get (pc := 14) (i := 8) (v := .ref 5) rfl rfl rfl lkX7_35 (fun _ => rfl) ?_
    refine kw_iload_n (pc := 17) (i := 9) (k := 1) (n := 1) rfl rfl rfl ?_
    refine kw_callV (pc := 18) (i := 10) (Y := mX3_isMissing) (a := 5) (As := [.int k]) (st := []) kw_hE rfl rfl lvX7_95 arX3_isMissing (c_X3_isMissing_5 l σ hI k ) (by decide) (Nat.le_of_ble_eq_true rfl) rfl (fun v S11 p10 => ?_)
    obtain ⟨e16, z15, rfl, f12, f13, ef14⟩ := p10
    rw [e16]
    replace hF := kf_le ef14 hF
    have r_z15 := kw_rng z15
    show kw_AW l 7 kw_E0 KX mX7_on (p_X7_on_0 σ k) 21 [(0, .ref 0), (1, .int k)] [.int z15] σ
    refine kw_if_eq (pc := 21) (i := 11) (tgt := 33) rfl rfl (fun c17 => ?_) (fun c17 => ?_)
    · replace hF := kf_p c17 hF
      refine kw_aload_n (pc := 33) (i := 17) (k := 0) (n := 0) rfl rfl rfl ?_
      refine kw_get (pc := 34) (i := 18) (v := .ref 5) rfl rfl rfl lkX7_35 (fun _ => rfl) ?_
      refine kw_iload_n (pc := 37) (i := 19) (k := 1) (n := 1) rfl rfl rfl ?_
      refine kw_callV (pc := 38) (i := 20) (Y := mX3_sizeOf) (a := 5) (As := [.int k]) (st := []) kw_hE rfl rfl lvX7_110 arX3_sizeOf (c_X3_sizeOf_5 l σ hI k ) (by decide) (Nat.le_of_ble_eq_true rfl) rfl (fun v S19 p18 => ?_)
      obtain ⟨e26, z25, rfl, f20, f21, f22, f23, ef24⟩ := p18
      rw [e26]
      replace hF := kf_le ef24 hF
      have r_z25 := kw_rng z25
      show kw_AW l 7 kw_E0 KX mX7_on (p_X7_on_0 σ k) 41 [(0, .ref 0), (1, .int k)] [.int z25] σ
      refine kw_istore_n (pc := 41) (i := 21) (n := 2) (lv' := [(2, .int z25), (0, .ref 0), (1, .int k)]) rfl rfl (by decide) rfl ?_
      refine kw_iconst (pc := 42) (i := 22) (v := 0) rfl rfl ?_
      refine kw_istore_n (pc := 43) (i := 23) (n := 3) (lv' := [(3, .int 0), (2, .int z25), (0, .ref 0), (1, .int k)]) rfl rfl (by decide) rfl ?_
      have L31 : ∀ (n35 : Nat) (x27 : Int32) (S28 : kw_S), kw_I bX S28 → kw_F [8, 28, 4, 18, 19] σ S28 → 0 ≤ x27.toInt → l_X7_on_0_44 k z25 n35 x27 S28 = (f_X7_on_0 σ k) → (41 - x27.toInt).toNat < n35 → kw_AW l 7 kw_E0 KX mX7_on (p_X7_on_0 σ k) 44 [(3, .int x27), (2, .int z25), (0, .ref 0), (1, .int k)] [] S28 := by
        intro n35
        induction n35 with
        | zero => intro x27 S28 I29 F30 v33 hF m34; exact absurd m34 (Nat.not_lt_zero _)
        | succ n35 ih32 =>
          intro x27 S28 I29 F30 v33 hF m34
          replace hF := kf_st (l_X7_on_0_44_s _ _ _ _ _) hF
          have r_x27 := kw_rng x27
          refine kw_iload_n (pc := 44) (i := 24) (k := 0) (n := 3) rfl rfl rfl ?_
          refine kw_iload_n (pc := 45) (i := 25) (k := 1) (n := 2) rfl rfl rfl ?_
          refine kw_icmp_ge (pc := 46) (i := 26) (tgt := 73) rfl rfl (fun c36 => ?_) (fun c36 => ?_)
          · replace hF := kf_nl c36 hF
            refine kw_aload_n (pc := 73) (i := 39) (k := 2) (n := 0) rfl rfl rfl ?_
            refine kw_get (pc := 74) (i := 40) (v := .ref 4) rfl rfl rfl lkX7_31 (fun _ => rfl) ?_
            refine kw_iload_n (pc := 77) (i := 41) (k := 1) (n := 2) rfl rfl rfl ?_
            refine kw_callV (pc := 78) (i := 42) (Y := mX5_replay) (a := 4) (As := [.int z25]) (st := []) kw_hE rfl rfl lvX7_130 arX5_replay (c_X5_replay_4 l S28 I29 z25 ) (by decide) (Nat.le_of_ble_eq_true rfl) rfl (fun v S38 p37 => ?_)
            obtain ⟨⟨I40, F41⟩, rfl, ef39⟩ := p37
            have F42 : kw_F [8, 28, 4, 18, 19] σ S38 := kw_F.tr F30 F41 (by decide)
            replace hF := kf_le ef39 hF
            show kw_AW l 7 kw_E0 KX mX7_on (p_X7_on_0 σ k) 81 [(3, .int x27), (2, .int z25), (0, .ref 0), (1, .int k)] [] S38
            refine kw_iload_n (pc := 81) (i := 43) (k := 1) (n := 2) rfl rfl rfl ?_
            exact kw_ireturn (pc := 82) (i := 44) (ty := .int) rfl rfl rfl ⟨⟨I40, F42⟩, _, rfl, hF⟩
          · replace hF := kf_p c36 hF
            refine kw_aload_n (pc := 49) (i := 27) (k := 2) (n := 0) rfl rfl rfl ?_
            refine kw_get (pc := 50) (i := 28) (v := .ref 4) rfl rfl rfl lkX7_31 (fun _ => rfl) ?_
            refine kw_get (pc := 53) (i := 29) (v := .ref 18) rfl rfl rfl lkX7_213 (fun _ => rfl) ?_
            refine kw_iload_n (pc := 56) (i := 30) (k := 0) (n := 3) rfl rfl rfl ?_
            refine kw_aload_n (pc := 57) (i := 31) (k := 2) (n := 0) rfl rfl rfl ?_
            refine kw_get (pc := 58) (i := 32) (v := .ref 5) rfl rfl rfl lkX7_35 (fun _ => rfl) ?_
            refine kw_iload_n (pc := 61) (i := 33) (k := 3) (n := 1) rfl rfl rfl ?_
            refine kw_iload_n (pc := 62) (i := 34) (k := 0) (n := 3) rfl rfl rfl ?_
            refine kw_callV (pc := 63) (i := 35) (Y := mX3_valueAt) (a := 5) (As := [.int k, .int x27]) (st := [.int x27, .ref 18]) kw_hE rfl rfl lvX7_85 arX3_valueAt (c_X3_valueAt_5 l S28 I29 k x27 ) (by decide) (Nat.le_of_ble_eq_true rfl) rfl (fun v S44 p43 => ?_)
            obtain ⟨e47, z46, rfl, ef45⟩ := p43
            rw [e47]
            replace hF := kf_le ef45 hF
            have r_z46 := kw_rng z46
            show kw_AW l 7 kw_E0 KX mX7_on (p_X7_on_0 σ k) 66 [(3, .int x27), (2, .int z25), (0, .ref 0), (1, .int k)] [.int z46, .int x27, .ref 18] S28
            refine kw_iast (pc := 66) (i := 36) (n := 40) rfl rfl (by omega) (by omega) ?_
            have I48 : kw_I bX (kw_ui S28 18 x27.toNatClampNeg z46) := kw_I_ui I29 (kw_rng z46).1 (Int.le_of_lt_add_one (kw_rng z46).2)
            have F49 : kw_F [8, 28, 4, 18, 19] σ (kw_ui S28 18 x27.toNatClampNeg z46) := kw_F_ui F30 (by decide)
            refine kw_iinc' (pc := 67) (i := 37) (k := 0) (fun z => [(3, .int z), (2, .int z25), (0, .ref 0), (1, .int k)]) rfl rfl (by decide) rfl (fun _ => rfl) (fun z50 e_z50 t_z50 => ?_)
            replace hF := kf_le e_z50 hF
            refine kw_goto (pc := 70) (i := 38) (tgt := 44) rfl rfl ?_
            refine kw_sub (lv' := [(3, .int z50), (2, .int z25), (0, .ref 0), (1, .int k)]) [0, 1, 2, 3] rfl ?_
            exact ih32 z50 (kw_ui S28 18 x27.toNatClampNeg z46) I48 F49 (by omega) hF (by omega)
      exact L31 _ 0 σ hI hF0 (by omega) hF (Nat.lt_succ_self _)
    · replace hF := kf_n c17 hF
      refine kw_aload_n (pc := 24) (i := 12) (k := 0) (n := 0) rfl rfl rfl ?_
      refine kw_get (pc := 25) (i := 13) (v := .ref 8) rfl rfl rfl lkX7_55 (fun _ => rfl) ?_
      refine kw_iconst (pc := 28) (i := 14) (v := 1) rfl rfl ?_
      refine kw_callV (pc := 29) (i := 15) (Y := mX4_refuse) (a := 8) (As := [.int 1]) (st := []) kw_hE rfl rfl lvX7_81 arX4_refuse (c_X4_refuse_8 l σ hI 1 ) (by decide) (Nat.le_of_ble_eq_true rfl) rfl (fun v S52 p51 => ?_)
      obtain ⟨⟨I56, F57⟩, z55, rfl, f53, ef54⟩ := p51
      have F58 : kw_F [8, 28, 4, 18, 19] σ S52 := kw_F.tr hF0 F57 (by decide)
      replace hF := kf_be ef54 hF
      have r_z55 := kw_rng z55
      show kw_AW l 7 kw_E0 KX mX7_on (p_X7_on_0 σ k) 32 [(0, .ref 0), (1, .int k)] [.int z55] S52
      exact kw_ireturn (pc := 32) (i := 16) (ty := .int) rfl rfl rfl ⟨⟨I56, F58⟩, _, rfl, hF⟩
  · replace hF := kf_p c9 hF
    refine kw_iconst (pc := 11) (i := 5) (v := (-1)) rfl rfl ?_
    exact kw_ireturn (pc := 12) (i := 6) (ty := .int) rfl rfl rfl ⟨⟨hI, hF0⟩, _, rfl, hF⟩
noncomputable def f_X7_goes_0 (σ : kw_S) (s : Int32) : Int32 × kw_S := kf_l (f_X1_hasSet_17 σ s) fun z1 => if z1.toInt = 0 then ((((-1) : Int32), σ)) else (kf_l (f_X5_windNow_4 σ) fun z2 => kf_l (f_X1_turnOf_17 σ s z2) fun z3 => kf_l z3.toInt64 fun z4 => kf_l (f_X4_tellWhole_8 σ z4) fun S5 => kf_l (f_X1_milesOf_17 S5 s z2) fun z6 => kf_b (f_X4_answer_8 S5 z6) fun z7 S8 => (z7, S8))
theorem f_X7_goes_0_u (σ : kw_S) (s : Int32) : f_X7_goes_0 σ s = kf_l (f_X1_hasSet_17 σ s) fun z1 => if z1.toInt = 0 then ((((-1) : Int32), σ)) else (kf_l (f_X5_windNow_4 σ) fun z2 => kf_l (f_X1_turnOf_17 σ s z2) fun z3 => kf_l z3.toInt64 fun z4 => kf_l (f_X4_tellWhole_8 σ z4) fun S5 => kf_l (f_X1_milesOf_17 S5 s z2) fun z6 => kf_b (f_X4_answer_8 S5 z6) fun z7 S8 => (z7, S8)) := rfl
abbrev p_X7_goes_0 (σ : kw_S) (s : Int32) : Option Value → kw_S → Prop := fun vv σ' => (kw_I bX σ' ∧ kw_F [8, 28] σ σ') ∧ ∃ r : Int32, vv = some (.int r) ∧ (r, σ') = f_X7_goes_0 σ s
set_option maxRecDepth 100000 in
set_option maxHeartbeats 4000000 in
theorem c_X7_goes_0 (l : Launch) (σ : kw_S) (hI : kw_I bX σ) (s : Int32) : kw_Met l 4 KX mX7_goes [.ref 0, .int s] σ (p_X7_goes_0 σ s) := by
  have r_s := kw_rng s
  have hF0 : kw_F [8, 28] σ σ := kw_F.rf
  have hF := (f_X7_goes_0_u σ s).symm
  have q_m1 : (-1 : Int32).toInt = -1 := rfl
  refine kw_Met.of (by decide) rfl tX7_goes (Nat.le_of_ble_eq_true rfl) ?_
  show kw_AW l 4 kw_E0 KX mX7_goes (p_X7_goes_0 σ s) 0 [(0, .ref 0), (1, .int s)] [] σ
  refine kw_aload_n (pc := 0) (i := 0) (k := 0) (n := 0) rfl rfl rfl ?_
  refine kw_get (pc := 1) (i := 1) (v := .ref 4) rfl rfl rfl lkX7_31 (fun _ => rfl) ?_
  refine kw_get (pc := 4) (i := 2) (v := .ref 17) rfl rfl rfl lkX7_117 (fun _ => rfl) ?_
  refine kw_iload_n (pc := 7) (i := 3) (k := 1) (n := 1) rfl rfl rfl ?_
  refine kw_callV (pc := 8) (i := 4) (Y := mX1_hasSet) (a := 17) (As := [.int s]) (st := []) kw_hE rfl rfl lvX7_216 arX1_hasSet (c_X1_hasSet_17 l σ hI s ) (by decide) (Nat.le_of_ble_eq_true rfl) rfl (fun v S2 p1 => ?_)
  obtain ⟨e6, z5, rfl, f3, ef4⟩ := p1
  rw [e6]
  replace hF := kf_le ef4 hF
  have r_z5 := kw_rng z5
  show kw_AW l 4 kw_E0 KX mX7_goes (p_X7_goes_0 σ s) 11 [(0, .ref 0), (1, .int s)] [.int z5] σ
  refine kw_if_ne (pc := 11) (i := 5) (tgt := 16) rfl rfl (fun c7 => ?_) (fun c7 => ?_)
  · replace hF := kf_n c7 hF
    refine kw_aload_n (pc := 16) (i := 8) (k := 0) (n := 0) rfl rfl rfl ?_
    refine kw_get (pc := 17) (i := 9) (v := .ref 4) rfl rfl rfl lkX7_31 (fun _ => rfl) ?_
    refine kw_callV (pc := 20) (i := 10) (Y := mX5_windNow) (a := 4) (As := []) (st := []) kw_hE rfl rfl lvX7_171 arX5_windNow (c_X5_windNow_4 l σ hI  ) (by decide) (Nat.le_of_ble_eq_true rfl) rfl (fun v S9 p8 => ?_)
    obtain ⟨e12, z11, rfl, ef10⟩ := p8
    rw [e12]
    replace hF := kf_le ef10 hF
    have r_z11 := kw_rng z11
    show kw_AW l 4 kw_E0 KX mX7_goes (p_X7_goes_0 σ s) 23 [(0, .ref 0), (1, .int s)] [.int z11] σ
    refine kw_istore_n (pc := 23) (i := 11) (n := 2) (lv' := [(2, .int z11), (0, .ref 0), (1, .int s)]) rfl rfl (by decide) rfl ?_
    refine kw_aload_n (pc := 24) (i := 12) (k := 1) (n := 0) rfl rfl rfl ?_
    refine kw_get (pc := 25) (i := 13) (v := .ref 8) rfl rfl rfl lkX7_55 (fun _ => rfl) ?_
    refine kw_aload_n (pc := 28) (i := 14) (k := 1) (n := 0) rfl rfl rfl ?_
    refine kw_get (pc := 29) (i := 15) (v := .ref 4) rfl rfl rfl lkX7_31 (fun _ => rfl) ?_
    refine kw_get (pc := 32) (i := 16) (v := .ref 17) rfl rfl rfl lkX7_117 (fun _ => rfl) ?_
    refine kw_iload_n (pc := 35) (i := 17) (k := 2) (n := 1) rfl rfl rfl ?_
    refine kw_iload_n (pc := 36) (i := 18) (k := 0) (n := 2) rfl rfl rfl ?_
    refine kw_callV (pc := 37) (i := 19) (Y := mX1_turnOf) (a := 17) (As := [.int s, .int z11]) (st := [.ref 8]) kw_hE rfl rfl lvX7_219 arX1_turnOf (c_X1_turnOf_17 l σ hI s z11 ) (by decide) (Nat.le_of_ble_eq_true rfl) rfl (fun v S14 p13 => ?_)
    obtain ⟨e17, z16, rfl, ef15⟩ := p13
    rw [e17]
    replace hF := kf_le ef15 hF
    have r_z16 := kw_rng z16
    show kw_AW l 4 kw_E0 KX mX7_goes (p_X7_goes_0 σ s) 40 [(2, .int z11), (0, .ref 0), (1, .int s)] [.int z16, .ref 8] σ
    refine kw_i2l (pc := 40) (i := 20) rfl (fun z18 e_z18 t_z18 => ?_)
    replace hF := kf_le e_z18 hF
    refine kw_callV (pc := 41) (i := 21) (Y := mX4_tellWhole) (a := 8) (As := [.long z18]) (st := []) kw_hE rfl rfl lvX7_200 arX4_tellWhole (c_X4_tellWhole_8 l σ hI z18 ) (by decide) (Nat.le_of_ble_eq_true rfl) rfl (fun v S20 p19 => ?_)
    obtain ⟨⟨I22, F23⟩, rfl, ef21⟩ := p19
    have F24 : kw_F [8, 28] σ S20 := kw_F.tr hF0 F23 (by decide)
    replace hF := kf_le ef21 hF
    show kw_AW l 4 kw_E0 KX mX7_goes (p_X7_goes_0 σ s) 44 [(2, .int z11), (0, .ref 0), (1, .int s)] [] S20
    refine kw_aload_n (pc := 44) (i := 22) (k := 1) (n := 0) rfl rfl rfl ?_
    refine kw_get (pc := 45) (i := 23) (v := .ref 8) rfl rfl rfl lkX7_55 (fun _ => rfl) ?_
    refine kw_aload_n (pc := 48) (i := 24) (k := 1) (n := 0) rfl rfl rfl ?_
    refine kw_get (pc := 49) (i := 25) (v := .ref 4) rfl rfl rfl lkX7_31 (fun _ => rfl) ?_
    refine kw_get (pc := 52) (i := 26) (v := .ref 17) rfl rfl rfl lkX7_117 (fun _ => rfl) ?_
    refine kw_iload_n (pc := 55) (i := 27) (k := 2) (n := 1) rfl rfl rfl ?_
    refine kw_iload_n (pc := 56) (i := 28) (k := 0) (n := 2) rfl rfl rfl ?_
    refine kw_callV (pc := 57) (i := 29) (Y := mX1_milesOf) (a := 17) (As := [.int s, .int z11]) (st := [.ref 8]) kw_hE rfl rfl lvX7_222 arX1_milesOf (c_X1_milesOf_17 l S20 I22 s z11 ) (by decide) (Nat.le_of_ble_eq_true rfl) rfl (fun v S26 p25 => ?_)
    obtain ⟨e29, z28, rfl, ef27⟩ := p25
    rw [e29]
    replace hF := kf_le ef27 hF
    have r_z28 := kw_rng z28
    show kw_AW l 4 kw_E0 KX mX7_goes (p_X7_goes_0 σ s) 60 [(2, .int z11), (0, .ref 0), (1, .int s)] [.int z28, .ref 8] S20
    refine kw_callV (pc := 60) (i := 30) (Y := mX4_answer) (a := 8) (As := [.int z28]) (st := []) kw_hE rfl rfl lvX7_92 arX4_answer (c_X4_answer_8 l S20 I22 z28 ) (by decide) (Nat.le_of_ble_eq_true rfl) rfl (fun v S31 p30 => ?_)
    obtain ⟨⟨I35, F36⟩, z34, rfl, f32, ef33⟩ := p30
    have F37 : kw_F [8, 28] σ S31 := kw_F.tr F24 F36 (by decide)
    replace hF := kf_be ef33 hF
    have r_z34 := kw_rng z34
    show kw_AW l 4 kw_E0 KX mX7_goes (p_X7_goes_0 σ s) 63 [(2, .int z11), (0, .ref 0), (1, .int s)] [.int z34] S31
    exact kw_ireturn (pc := 63) (i := 31) (ty := .int) rfl rfl rfl ⟨⟨I35, F37⟩, _, rfl, hF⟩
  · replace hF := kf_p c7 hF
    refine kw_iconst (pc := 14) (i := 6) (v := (-1)) rfl rfl ?_
    exact kw_ireturn (pc := 15) (i := 7) (ty := .int) rfl rfl rfl ⟨⟨hI, hF0⟩, _, rfl, hF⟩
noncomputable def l_X7_even_0_59 (a1 : Int32) (S : kw_S) : Nat → Int32 → Int32 → Int32 → Int32 → Int32 × kw_S
  | 0, _, _, _, _ => (0, S)
  | n + 1, x2, x3, x4, x5 => if x5.toInt < (S.1 6 3).toInt then (kf_l (f_X0_fits_6 S x5 a1 (0 : Int32)) fun z8 => if z8.toInt = 0 then (kf_l (x5 + Int32.ofInt 1) fun z16 => l_X7_even_0_59 a1 S n x2 x3 x4 z16) else (kf_l (f_X1_linenOf_17 S x5) fun z9 => if x2.toInt = 0 then (kf_l (x2 + Int32.ofInt 1) fun z10 => kf_l (x5 + Int32.ofInt 1) fun z11 => l_X7_even_0_59 a1 S n z10 x5 z9 z11) else (if z9.toInt < x4.toInt then (kf_l (x2 + Int32.ofInt 1) fun z14 => kf_l (x5 + Int32.ofInt 1) fun z15 => l_X7_even_0_59 a1 S n z14 x5 z9 z15) else (kf_l (x2 + Int32.ofInt 1) fun z12 => kf_l (x5 + Int32.ofInt 1) fun z13 => l_X7_even_0_59 a1 S n z12 x3 x4 z13)))) else (kf_l x2.toInt64 fun z4 => kf_l (f_X4_tellWhole_8 S z4) fun S5 => kf_b (f_X4_answer_8 S5 x3) fun z6 S7 => (z6, S7))
theorem l_X7_even_0_59_s (a1 : Int32) (S : kw_S) (n : Nat) (x2 : Int32) (x3 : Int32) (x4 : Int32) (x5 : Int32) : l_X7_even_0_59 a1 S (n + 1) x2 x3 x4 x5 = if x5.toInt < (S.1 6 3).toInt then (kf_l (f_X0_fits_6 S x5 a1 (0 : Int32)) fun z8 => if z8.toInt = 0 then (kf_l (x5 + Int32.ofInt 1) fun z16 => l_X7_even_0_59 a1 S n x2 x3 x4 z16) else (kf_l (f_X1_linenOf_17 S x5) fun z9 => if x2.toInt = 0 then (kf_l (x2 + Int32.ofInt 1) fun z10 => kf_l (x5 + Int32.ofInt 1) fun z11 => l_X7_even_0_59 a1 S n z10 x5 z9 z11) else (if z9.toInt < x4.toInt then (kf_l (x2 + Int32.ofInt 1) fun z14 => kf_l (x5 + Int32.ofInt 1) fun z15 => l_X7_even_0_59 a1 S n z14 x5 z9 z15) else (kf_l (x2 + Int32.ofInt 1) fun z12 => kf_l (x5 + Int32.ofInt 1) fun z13 => l_X7_even_0_59 a1 S n z12 x3 x4 z13)))) else (kf_l x2.toInt64 fun z4 => kf_l (f_X4_tellWhole_8 S z4) fun S5 => kf_b (f_X4_answer_8 S5 x3) fun z6 S7 => (z6, S7)) := rfl
noncomputable def f_X7_even_0 (σ : kw_S) (m : Int32) : Int32 × kw_S := if m.toInt < ((-99) : Int32).toInt then ((((-1) : Int32), σ)) else (if (99 : Int32).toInt < m.toInt then ((((-1) : Int32), σ)) else (kf_l (f_X5_isEmpty_4 σ) fun z1 => if z1.toInt = 0 then (kf_l (f_X5_windNow_4 σ) fun z2 => kf_l (f_X0_draw_6_17 σ z2) fun S3 => l_X7_even_0_59 m S3 ((((S3.1 6 3)).toInt - (0 : Int32).toInt).toNat + 1) (0 : Int32) ((-9) : Int32) (0 : Int32) (0 : Int32)) else ((((-4) : Int32), σ))))
theorem f_X7_even_0_u (σ : kw_S) (m : Int32) : f_X7_even_0 σ m = if m.toInt < ((-99) : Int32).toInt then ((((-1) : Int32), σ)) else (if (99 : Int32).toInt < m.toInt then ((((-1) : Int32), σ)) else (kf_l (f_X5_isEmpty_4 σ) fun z1 => if z1.toInt = 0 then (kf_l (f_X5_windNow_4 σ) fun z2 => kf_l (f_X0_draw_6_17 σ z2) fun S3 => l_X7_even_0_59 m S3 ((((S3.1 6 3)).toInt - (0 : Int32).toInt).toNat + 1) (0 : Int32) ((-9) : Int32) (0 : Int32) (0 : Int32)) else ((((-4) : Int32), σ)))) := rfl
abbrev p_X7_even_0 (σ : kw_S) (m : Int32) : Option Value → kw_S → Prop := fun vv σ' => (kw_I bX σ' ∧ kw_F [8, 28, 6, 22, 23] σ σ') ∧ ∃ r : Int32, vv = some (.int r) ∧ ((m.toInt < -99 ∨ 99 < m.toInt) ∧ r.toInt = -1 ∨ -99 ≤ m.toInt ∧ m.toInt ≤ 99 ∧ (σ.1 17 5).toInt < 1 ∧ r.toInt = -4 ∨ -99 ≤ m.toInt ∧ m.toInt ≤ 99 ∧ 1 ≤ (σ.1 17 5).toInt ∧ r.toInt = 1) ∧ (r, σ') = f_X7_even_0 σ m
set_option maxRecDepth 100000 in
set_option maxHeartbeats 4000000 in
theorem c_X7_even_0 (l : Launch) (σ : kw_S) (hI : kw_I bX σ) (m : Int32) : kw_Met l 4 KX mX7_even [.ref 0, .int m] σ (p_X7_even_0 σ m) := by
  have r_m := kw_rng m
  have hF0 : kw_F [8, 28, 6, 22, 23] σ σ := kw_F.rf
  have hF := (f_X7_even_0_u σ m).symm
  have q_m99 : (-99 : Int32).toInt = -99 := rfl
  have q_m9 : (-9 : Int32).toInt = -9 := rfl
  have q_m4 : (-4 : Int32).toInt = -4 := rfl
  have q_m1 : (-1 : Int32).toInt = -1 := rfl
  have q_0 : (0 : Int32).toInt = 0 := rfl
  have q_99 : (99 : Int32).toInt = 99 := rfl
  refine kw_Met.of (by decide) rfl tX7_even (Nat.le_of_ble_eq_true rfl) ?_
  show kw_AW l 4 kw_E0 KX mX7_even (p_X7_even_0 σ m) 0 [(0, .ref 0), (1, .int m)] [] σ
  refine kw_iload_n (pc := 0) (i := 0) (k := 1) (n := 1) rfl rfl rfl ?_
  refine kw_bipush (pc := 1) (i := 1) (v := (-99)) rfl rfl ?_
  refine kw_icmp_lt (pc := 3) (i := 2) (tgt := 12) rfl rfl (fun c1 => ?_) (fun c1 => ?_)
  · replace hF := kf_p c1 hF
    refine kw_iconst (pc := 12) (i := 6) (v := (-1)) rfl rfl ?_
    exact kw_ireturn (pc := 13) (i := 7) (ty := .int) rfl rfl rfl ⟨⟨hI, hF0⟩, _, rfl, by omega, hF⟩
  · replace hF := kf_nl c1 hF
    refine kw_iload_n (pc := 6) (i := 3) (k := 1) (n := 1) rfl rfl rfl ?_
    refine kw_bipush (pc := 7) (i := 4) (v := 99) rfl rfl ?_
    refine kw_icmp_le (pc := 9) (i := 5) (tgt := 14) rfl rfl (fun c2 => ?_) (fun c2 => ?_)
    · replace hF := kf_nl c2 hF
      refine kw_aload_n (pc := 14) (i := 8) (k := 0) (n := 0) rfl rfl rfl ?_
      refine kw_get (pc := 15) (i := 9) (v := .ref 4) rfl rfl rfl lkX7_31 (fun _ => rfl) ?_
      refine kw_callV (pc := 18) (i := 10) (Y := mX5_isEmpty) (a := 4) (As := []) (st := []) kw_hE rfl rfl lvX7_178 arX5_isEmpty (c_X5_isEmpty_4 l σ hI  ) (by decide) (Nat.le_of_ble_eq_true rfl) rfl (fun v S4 p3 => ?_)
      obtain ⟨e10, z9, rfl, f5, f6, f7, ef8⟩ := p3
      rw [e10]
      replace hF := kf_le ef8 hF
      have r_z9 := kw_rng z9
      show kw_AW l 4 kw_E0 KX mX7_even (p_X7_even_0 σ m) 21 [(0, .ref 0), (1, .int m)] [.int z9] σ
      refine kw_if_eq (pc := 21) (i := 11) (tgt := 27) rfl rfl (fun c11 => ?_) (fun c11 => ?_)
      · replace hF := kf_p c11 hF
        refine kw_aload_n (pc := 27) (i := 14) (k := 0) (n := 0) rfl rfl rfl ?_
        refine kw_get (pc := 28) (i := 15) (v := .ref 6) rfl rfl rfl lkX7_41 (fun _ => rfl) ?_
        refine kw_aload_n (pc := 31) (i := 16) (k := 0) (n := 0) rfl rfl rfl ?_
        refine kw_get (pc := 32) (i := 17) (v := .ref 4) rfl rfl rfl lkX7_31 (fun _ => rfl) ?_
        refine kw_get (pc := 35) (i := 18) (v := .ref 17) rfl rfl rfl lkX7_117 (fun _ => rfl) ?_
        refine kw_aload_n (pc := 38) (i := 19) (k := 0) (n := 0) rfl rfl rfl ?_
        refine kw_get (pc := 39) (i := 20) (v := .ref 4) rfl rfl rfl lkX7_31 (fun _ => rfl) ?_
        refine kw_callV (pc := 42) (i := 21) (Y := mX5_windNow) (a := 4) (As := []) (st := [.ref 17, .ref 6]) kw_hE rfl rfl lvX7_171 arX5_windNow (c_X5_windNow_4 l σ hI  ) (by decide) (Nat.le_of_ble_eq_true rfl) rfl (fun v S13 p12 => ?_)
        obtain ⟨e16, z15, rfl, ef14⟩ := p12
        rw [e16]
        replace hF := kf_le ef14 hF
        have r_z15 := kw_rng z15
        show kw_AW l 4 kw_E0 KX mX7_even (p_X7_even_0 σ m) 45 [(0, .ref 0), (1, .int m)] [.int z15, .ref 17, .ref 6] σ
        refine kw_callV (pc := 45) (i := 22) (Y := mX0_draw) (a := 6) (As := [.ref 17, .int z15]) (st := []) kw_hE rfl rfl lvX7_225 arX0_draw (c_X0_draw_6_17 l σ hI z15 ) (by decide) (Nat.le_of_ble_eq_true rfl) rfl (fun v S18 p17 => ?_)
        obtain ⟨⟨I20, F21⟩, rfl, ef19⟩ := p17
        have F22 : kw_F [8, 28, 6, 22, 23] σ S18 := kw_F.tr hF0 F21 (by decide)
        replace hF := kf_le ef19 hF
        show kw_AW l 4 kw_E0 KX mX7_even (p_X7_even_0 σ m) 48 [(0, .ref 0), (1, .int m)] [] S18
        refine kw_iconst (pc := 48) (i := 23) (v := 0) rfl rfl ?_
        refine kw_istore_n (pc := 49) (i := 24) (n := 2) (lv' := [(2, .int 0), (0, .ref 0), (1, .int m)]) rfl rfl (by decide) rfl ?_
        refine kw_bipush (pc := 50) (i := 25) (v := (-9)) rfl rfl ?_
        refine kw_istore_n (pc := 52) (i := 26) (n := 3) (lv' := [(3, .int (-9)), (2, .int 0), (0, .ref 0), (1, .int m)]) rfl rfl (by decide) rfl ?_
        refine kw_iconst (pc := 53) (i := 27) (v := 0) rfl rfl ?_
        refine kw_istore (pc := 54) (i := 28) (n := 4) (lv' := [(4, .int 0), (3, .int (-9)), (2, .int 0), (0, .ref 0), (1, .int m)]) rfl (by decide) rfl ?_
        refine kw_iconst (pc := 56) (i := 29) (v := 0) rfl rfl ?_
        refine kw_istore (pc := 57) (i := 30) (n := 5) (lv' := [(5, .int 0), (4, .int 0), (3, .int (-9)), (2, .int 0), (0, .ref 0), (1, .int m)]) rfl (by decide) rfl ?_
        have L27 : ∀ (n31 : Nat) (x23 : Int32) (x24 : Int32) (x25 : Int32) (x26 : Int32), 0 ≤ x23.toInt → l_X7_even_0_59 m S18 n31 x26 x25 x24 x23 = (f_X7_even_0 σ m) → (((S18.1 6 3)).toInt - x23.toInt).toNat < n31 → kw_AW l 4 kw_E0 KX mX7_even (p_X7_even_0 σ m) 59 [(5, .int x23), (4, .int x24), (3, .int x25), (2, .int x26), (0, .ref 0), (1, .int m)] [] S18 := by
          intro n31
          induction n31 with
          | zero => intro x23 x24 x25 x26 v29 hF m30; exact absurd m30 (Nat.not_lt_zero _)
          | succ n31 ih28 =>
            intro x23 x24 x25 x26 v29 hF m30
            replace hF := kf_st (l_X7_even_0_59_s _ _ _ _ _ _ _) hF
            have r_x23 := kw_rng x23
            have r_x24 := kw_rng x24
            have r_x25 := kw_rng x25
            have r_x26 := kw_rng x26
            refine kw_iload (pc := 59) (i := 31) (k := 0) (n := 5) rfl rfl ?_
            refine kw_aload_n (pc := 61) (i := 32) (k := 4) (n := 0) rfl rfl rfl ?_
            refine kw_get (pc := 62) (i := 33) (v := .ref 6) rfl rfl rfl lkX7_41 (fun _ => rfl) ?_
            refine kw_get (pc := 65) (i := 34) (v := .int (S18.1 6 3)) rfl rfl rfl lkX7_229 (fun _ => rfl) ?_
            have b32 := kw_rng (S18.1 6 3)
            refine kw_icmp_ge (pc := 68) (i := 35) (tgt := 129) rfl rfl (fun c33 => ?_) (fun c33 => ?_)
            · replace hF := kf_nl c33 hF
              refine kw_aload_n (pc := 129) (i := 62) (k := 4) (n := 0) rfl rfl rfl ?_
              refine kw_get (pc := 130) (i := 63) (v := .ref 8) rfl rfl rfl lkX7_55 (fun _ => rfl) ?_
              refine kw_iload_n (pc := 133) (i := 64) (k := 3) (n := 2) rfl rfl rfl ?_
              refine kw_i2l (pc := 134) (i := 65) rfl (fun z34 e_z34 t_z34 => ?_)
              replace hF := kf_le e_z34 hF
              refine kw_callV (pc := 135) (i := 66) (Y := mX4_tellWhole) (a := 8) (As := [.long z34]) (st := []) kw_hE rfl rfl lvX7_200 arX4_tellWhole (c_X4_tellWhole_8 l S18 I20 z34 ) (by decide) (Nat.le_of_ble_eq_true rfl) rfl (fun v S36 p35 => ?_)
              obtain ⟨⟨I38, F39⟩, rfl, ef37⟩ := p35
              have F40 : kw_F [8, 28, 6, 22, 23] σ S36 := kw_F.tr F22 F39 (by decide)
              replace hF := kf_le ef37 hF
              show kw_AW l 4 kw_E0 KX mX7_even (p_X7_even_0 σ m) 138 [(5, .int x23), (4, .int x24), (3, .int x25), (2, .int x26), (0, .ref 0), (1, .int m)] [] S36
              refine kw_aload_n (pc := 138) (i := 67) (k := 4) (n := 0) rfl rfl rfl ?_
              refine kw_get (pc := 139) (i := 68) (v := .ref 8) rfl rfl rfl lkX7_55 (fun _ => rfl) ?_
              refine kw_iload_n (pc := 142) (i := 69) (k := 2) (n := 3) rfl rfl rfl ?_
              refine kw_callV (pc := 143) (i := 70) (Y := mX4_answer) (a := 8) (As := [.int x25]) (st := []) kw_hE rfl rfl lvX7_92 arX4_answer (c_X4_answer_8 l S36 I38 x25 ) (by decide) (Nat.le_of_ble_eq_true rfl) rfl (fun v S42 p41 => ?_)
              obtain ⟨⟨I46, F47⟩, z45, rfl, f43, ef44⟩ := p41
              have F48 : kw_F [8, 28, 6, 22, 23] σ S42 := kw_F.tr F40 F47 (by decide)
              replace hF := kf_be ef44 hF
              have r_z45 := kw_rng z45
              show kw_AW l 4 kw_E0 KX mX7_even (p_X7_even_0 σ m) 146 [(5, .int x23), (4, .int x24), (3, .int x25), (2, .int x26), (0, .ref 0), (1, .int m)] [.int z45] S42
              exact kw_ireturn (pc := 146) (i := 71) (ty := .int) rfl rfl rfl ⟨⟨I46, F48⟩, _, rfl, by omega, hF⟩
            · replace hF := kf_p c33 hF
              refine kw_aload_n (pc := 71) (i := 36) (k := 4) (n := 0) rfl rfl rfl ?_
              refine kw_get (pc := 72) (i := 37) (v := .ref 6) rfl rfl rfl lkX7_41 (fun _ => rfl) ?_
              refine kw_iload (pc := 75) (i := 38) (k := 0) (n := 5) rfl rfl ?_
              refine kw_iload_n (pc := 77) (i := 39) (k := 5) (n := 1) rfl rfl rfl ?_
              refine kw_iconst (pc := 78) (i := 40) (v := 0) rfl rfl ?_
              refine kw_callV (pc := 79) (i := 41) (Y := mX0_fits) (a := 6) (As := [.int x23, .int m, .int 0]) (st := []) kw_hE rfl rfl lvX7_232 arX0_fits (c_X0_fits_6 l S18 I20 x23 m 0 ) (by decide) (Nat.le_of_ble_eq_true rfl) rfl (fun v S50 p49 => ?_)
              obtain ⟨e54, z53, rfl, f51, ef52⟩ := p49
              rw [e54]
              replace hF := kf_le ef52 hF
              have r_z53 := kw_rng z53
              show kw_AW l 4 kw_E0 KX mX7_even (p_X7_even_0 σ m) 82 [(5, .int x23), (4, .int x24), (3, .int x25), (2, .int x26), (0, .ref 0), (1, .int m)] [.int z53] S18
              refine kw_if_ne (pc := 82) (i := 42) (tgt := 88) rfl rfl (fun c55 => ?_) (fun c55 => ?_)
              · replace hF := kf_n c55 hF
                refine kw_aload_n (pc := 88) (i := 44) (k := 4) (n := 0) rfl rfl rfl ?_
                refine kw_get (pc := 89) (i := 45) (v := .ref 4) rfl rfl rfl lkX7_31 (fun _ => rfl) ?_
                refine kw_get (pc := 92) (i := 46) (v := .ref 17) rfl rfl rfl lkX7_117 (fun _ => rfl) ?_
                refine kw_iload (pc := 95) (i := 47) (k := 0) (n := 5) rfl rfl ?_
                refine kw_callV (pc := 97) (i := 48) (Y := mX1_linenOf) (a := 17) (As := [.int x23]) (st := []) kw_hE rfl rfl lvX7_235 arX1_linenOf (c_X1_linenOf_17 l S18 I20 x23 ) (by decide) (Nat.le_of_ble_eq_true rfl) rfl (fun v S57 p56 => ?_)
                obtain ⟨e60, z59, rfl, ef58⟩ := p56
                rw [e60]
                replace hF := kf_le ef58 hF
                have r_z59 := kw_rng z59
                show kw_AW l 4 kw_E0 KX mX7_even (p_X7_even_0 σ m) 100 [(5, .int x23), (4, .int x24), (3, .int x25), (2, .int x26), (0, .ref 0), (1, .int m)] [.int z59] S18
                refine kw_istore (pc := 100) (i := 49) (n := 6) (lv' := [(6, .int z59), (5, .int x23), (4, .int x24), (3, .int x25), (2, .int x26), (0, .ref 0), (1, .int m)]) rfl (by decide) rfl ?_
                refine kw_iload_n (pc := 102) (i := 50) (k := 4) (n := 2) rfl rfl rfl ?_
                refine kw_if_eq (pc := 103) (i := 51) (tgt := 113) rfl rfl (fun c61 => ?_) (fun c61 => ?_)
                · replace hF := kf_p c61 hF
                  refine kw_iload (pc := 113) (i := 55) (k := 1) (n := 5) rfl rfl ?_
                  refine kw_istore_n (pc := 115) (i := 56) (n := 3) (lv' := [(3, .int x23), (6, .int z59), (5, .int x23), (4, .int x24), (2, .int x26), (0, .ref 0), (1, .int m)]) rfl rfl (by decide) rfl ?_
                  refine kw_iload (pc := 116) (i := 57) (k := 1) (n := 6) rfl rfl ?_
                  refine kw_istore (pc := 118) (i := 58) (n := 4) (lv' := [(4, .int z59), (3, .int x23), (6, .int z59), (5, .int x23), (2, .int x26), (0, .ref 0), (1, .int m)]) rfl (by decide) rfl ?_
                  refine kw_iinc' (pc := 120) (i := 59) (k := 4) (fun z => [(2, .int z), (4, .int z59), (3, .int x23), (6, .int z59), (5, .int x23), (0, .ref 0), (1, .int m)]) rfl rfl (by decide) rfl (fun _ => rfl) (fun z62 e_z62 t_z62 => ?_)
                  replace hF := kf_le e_z62 hF
                  refine kw_iinc' (pc := 123) (i := 60) (k := 4) (fun z => [(5, .int z), (2, .int z62), (4, .int z59), (3, .int x23), (6, .int z59), (0, .ref 0), (1, .int m)]) rfl rfl (by decide) rfl (fun _ => rfl) (fun z63 e_z63 t_z63 => ?_)
                  replace hF := kf_le e_z63 hF
                  refine kw_goto (pc := 126) (i := 61) (tgt := 59) rfl rfl ?_
                  refine kw_sub (lv' := [(5, .int z63), (4, .int z59), (3, .int x23), (2, .int z62), (0, .ref 0), (1, .int m)]) [0, 2, 3, 1, 5, 6] rfl ?_
                  exact ih28 z63 z59 x23 z62 (by omega) hF (show (((S18.1 6 3)).toInt - z63.toInt).toNat < n31 from by omega)
                · replace hF := kf_n c61 hF
                  refine kw_iload (pc := 106) (i := 52) (k := 0) (n := 6) rfl rfl ?_
                  refine kw_iload (pc := 108) (i := 53) (k := 2) (n := 4) rfl rfl ?_
                  refine kw_icmp_ge (pc := 110) (i := 54) (tgt := 120) rfl rfl (fun c64 => ?_) (fun c64 => ?_)
                  · replace hF := kf_nl c64 hF
                    refine kw_iinc' (pc := 120) (i := 59) (k := 4) (fun z => [(2, .int z), (6, .int z59), (5, .int x23), (4, .int x24), (3, .int x25), (0, .ref 0), (1, .int m)]) rfl rfl (by decide) rfl (fun _ => rfl) (fun z65 e_z65 t_z65 => ?_)
                    replace hF := kf_le e_z65 hF
                    refine kw_iinc' (pc := 123) (i := 60) (k := 2) (fun z => [(5, .int z), (2, .int z65), (6, .int z59), (4, .int x24), (3, .int x25), (0, .ref 0), (1, .int m)]) rfl rfl (by decide) rfl (fun _ => rfl) (fun z66 e_z66 t_z66 => ?_)
                    replace hF := kf_le e_z66 hF
                    refine kw_goto (pc := 126) (i := 61) (tgt := 59) rfl rfl ?_
                    refine kw_sub (lv' := [(5, .int z66), (4, .int x24), (3, .int x25), (2, .int z65), (0, .ref 0), (1, .int m)]) [0, 3, 4, 1, 5, 6] rfl ?_
                    exact ih28 z66 x24 x25 z65 (by omega) hF (show (((S18.1 6 3)).toInt - z66.toInt).toNat < n31 from by omega)
                  · replace hF := kf_p c64 hF
                    refine kw_iload (pc := 113) (i := 55) (k := 1) (n := 5) rfl rfl ?_
                    refine kw_istore_n (pc := 115) (i := 56) (n := 3) (lv' := [(3, .int x23), (6, .int z59), (5, .int x23), (4, .int x24), (2, .int x26), (0, .ref 0), (1, .int m)]) rfl rfl (by decide) rfl ?_
                    refine kw_iload (pc := 116) (i := 57) (k := 1) (n := 6) rfl rfl ?_
                    refine kw_istore (pc := 118) (i := 58) (n := 4) (lv' := [(4, .int z59), (3, .int x23), (6, .int z59), (5, .int x23), (2, .int x26), (0, .ref 0), (1, .int m)]) rfl (by decide) rfl ?_
                    refine kw_iinc' (pc := 120) (i := 59) (k := 4) (fun z => [(2, .int z), (4, .int z59), (3, .int x23), (6, .int z59), (5, .int x23), (0, .ref 0), (1, .int m)]) rfl rfl (by decide) rfl (fun _ => rfl) (fun z67 e_z67 t_z67 => ?_)
                    replace hF := kf_le e_z67 hF
                    refine kw_iinc' (pc := 123) (i := 60) (k := 4) (fun z => [(5, .int z), (2, .int z67), (4, .int z59), (3, .int x23), (6, .int z59), (0, .ref 0), (1, .int m)]) rfl rfl (by decide) rfl (fun _ => rfl) (fun z68 e_z68 t_z68 => ?_)
                    replace hF := kf_le e_z68 hF
                    refine kw_goto (pc := 126) (i := 61) (tgt := 59) rfl rfl ?_
                    refine kw_sub (lv' := [(5, .int z68), (4, .int z59), (3, .int x23), (2, .int z67), (0, .ref 0), (1, .int m)]) [0, 2, 3, 1, 5, 6] rfl ?_
                    exact ih28 z68 z59 x23 z67 (by omega) hF (show (((S18.1 6 3)).toInt - z68.toInt).toNat < n31 from by omega)
              · replace hF := kf_p c55 hF
                refine kw_goto (pc := 85) (i := 43) (tgt := 123) rfl rfl ?_
                refine kw_iinc' (pc := 123) (i := 60) (k := 0) (fun z => [(5, .int z), (4, .int x24), (3, .int x25), (2, .int x26), (0, .ref 0), (1, .int m)]) rfl rfl (by decide) rfl (fun _ => rfl) (fun z69 e_z69 t_z69 => ?_)
                replace hF := kf_le e_z69 hF
                refine kw_goto (pc := 126) (i := 61) (tgt := 59) rfl rfl ?_
                refine kw_sub (lv' := [(5, .int z69), (4, .int x24), (3, .int x25), (2, .int x26), (0, .ref 0), (1, .int m)]) [0, 1, 2, 3, 4, 5] rfl ?_
                exact ih28 z69 x24 x25 x26 (by omega) hF (show (((S18.1 6 3)).toInt - z69.toInt).toNat < n31 from by omega)
        exact L27 _ 0 0 (-9) 0 (by omega) hF (Nat.lt_succ_self _)
      · replace hF := kf_n c11 hF
        refine kw_bipush (pc := 24) (i := 12) (v := (-4)) rfl rfl ?_
        exact kw_ireturn (pc := 26) (i := 13) (ty := .int) rfl rfl rfl ⟨⟨hI, hF0⟩, _, rfl, by omega, hF⟩
    · replace hF := kf_p c2 hF
      refine kw_iconst (pc := 12) (i := 6) (v := (-1)) rfl rfl ?_
      exact kw_ireturn (pc := 13) (i := 7) (ty := .int) rfl rfl rfl ⟨⟨hI, hF0⟩, _, rfl, by omega, hF⟩
noncomputable def l_X7_fast_0_50 (a1 : Int32) (S : kw_S) : Nat → Int32 → Int32 → Int32 × kw_S
  | 0, _, _ => (0, S)
  | n + 1, x2, x3 => if x3.toInt < (S.1 6 3).toInt then (kf_l (f_X1_linenOf_17 S x3) fun z7 => if a1.toInt < z7.toInt then (kf_l (x3 + Int32.ofInt 1) fun z8 => l_X7_fast_0_50 a1 S n x2 z8) else (kf_l (f_X0_milesOf_6 S x3) fun z9 => kf_l (f_X0_milesOf_6 S x2) fun z10 => if z10.toInt < z9.toInt then (kf_l (x3 + Int32.ofInt 1) fun z12 => l_X7_fast_0_50 a1 S n x3 z12) else (kf_l (x3 + Int32.ofInt 1) fun z11 => l_X7_fast_0_50 a1 S n x2 z11))) else (kf_b (f_X4_answer_8 S x2) fun z4 S5 => kf_l (f_X0_milesOf_6 S5 x2) fun z6 => (z6, S5))
theorem l_X7_fast_0_50_s (a1 : Int32) (S : kw_S) (n : Nat) (x2 : Int32) (x3 : Int32) : l_X7_fast_0_50 a1 S (n + 1) x2 x3 = if x3.toInt < (S.1 6 3).toInt then (kf_l (f_X1_linenOf_17 S x3) fun z7 => if a1.toInt < z7.toInt then (kf_l (x3 + Int32.ofInt 1) fun z8 => l_X7_fast_0_50 a1 S n x2 z8) else (kf_l (f_X0_milesOf_6 S x3) fun z9 => kf_l (f_X0_milesOf_6 S x2) fun z10 => if z10.toInt < z9.toInt then (kf_l (x3 + Int32.ofInt 1) fun z12 => l_X7_fast_0_50 a1 S n x3 z12) else (kf_l (x3 + Int32.ofInt 1) fun z11 => l_X7_fast_0_50 a1 S n x2 z11))) else (kf_b (f_X4_answer_8 S x2) fun z4 S5 => kf_l (f_X0_milesOf_6 S5 x2) fun z6 => (z6, S5)) := rfl
noncomputable def f_X7_fast_0 (σ : kw_S) (m : Int32) : Int32 × kw_S := if m.toInt < 0 then ((((-1) : Int32), σ)) else (if (99 : Int32).toInt < m.toInt then ((((-1) : Int32), σ)) else (kf_l (f_X5_isEmpty_4 σ) fun z1 => if z1.toInt = 0 then (kf_l (f_X5_windNow_4 σ) fun z2 => kf_l (f_X0_draw_6_17 σ z2) fun S3 => l_X7_fast_0_50 m S3 ((((S3.1 6 3)).toInt - (1 : Int32).toInt).toNat + 1) (0 : Int32) (1 : Int32)) else ((((-4) : Int32), σ))))
theorem f_X7_fast_0_u (σ : kw_S) (m : Int32) : f_X7_fast_0 σ m = if m.toInt < 0 then ((((-1) : Int32), σ)) else (if (99 : Int32).toInt < m.toInt then ((((-1) : Int32), σ)) else (kf_l (f_X5_isEmpty_4 σ) fun z1 => if z1.toInt = 0 then (kf_l (f_X5_windNow_4 σ) fun z2 => kf_l (f_X0_draw_6_17 σ z2) fun S3 => l_X7_fast_0_50 m S3 ((((S3.1 6 3)).toInt - (1 : Int32).toInt).toNat + 1) (0 : Int32) (1 : Int32)) else ((((-4) : Int32), σ)))) := rfl
abbrev p_X7_fast_0 (σ : kw_S) (m : Int32) : Option Value → kw_S → Prop := fun vv σ' => (kw_I bX σ' ∧ kw_F [8, 28, 6, 22, 23] σ σ') ∧ ∃ r : Int32, vv = some (.int r) ∧ (r, σ') = f_X7_fast_0 σ m
set_option maxRecDepth 100000 in
set_option maxHeartbeats 4000000 in
theorem c_X7_fast_0 (l : Launch) (σ : kw_S) (hI : kw_I bX σ) (m : Int32) : kw_Met l 4 KX mX7_fast [.ref 0, .int m] σ (p_X7_fast_0 σ m) := by
  have r_m := kw_rng m
  have hF0 : kw_F [8, 28, 6, 22, 23] σ σ := kw_F.rf
  have hF := (f_X7_fast_0_u σ m).symm
  have q_m4 : (-4 : Int32).toInt = -4 := rfl
  have q_m1 : (-1 : Int32).toInt = -1 := rfl
  have q_0 : (0 : Int32).toInt = 0 := rfl
  have q_1 : (1 : Int32).toInt = 1 := rfl
  have q_99 : (99 : Int32).toInt = 99 := rfl
  refine kw_Met.of (by decide) rfl tX7_fast (Nat.le_of_ble_eq_true rfl) ?_
  show kw_AW l 4 kw_E0 KX mX7_fast (p_X7_fast_0 σ m) 0 [(0, .ref 0), (1, .int m)] [] σ
  refine kw_iload_n (pc := 0) (i := 0) (k := 1) (n := 1) rfl rfl rfl ?_
  refine kw_if_lt (pc := 1) (i := 1) (tgt := 10) rfl rfl (fun c1 => ?_) (fun c1 => ?_)
  · replace hF := kf_p c1 hF
    refine kw_iconst (pc := 10) (i := 5) (v := (-1)) rfl rfl ?_
    exact kw_ireturn (pc := 11) (i := 6) (ty := .int) rfl rfl rfl ⟨⟨hI, hF0⟩, _, rfl, hF⟩
  · replace hF := kf_nl c1 hF
    refine kw_iload_n (pc := 4) (i := 2) (k := 1) (n := 1) rfl rfl rfl ?_
    refine kw_bipush (pc := 5) (i := 3) (v := 99) rfl rfl ?_
    refine kw_icmp_le (pc := 7) (i := 4) (tgt := 12) rfl rfl (fun c2 => ?_) (fun c2 => ?_)
    · replace hF := kf_nl c2 hF
      refine kw_aload_n (pc := 12) (i := 7) (k := 0) (n := 0) rfl rfl rfl ?_
      refine kw_get (pc := 13) (i := 8) (v := .ref 4) rfl rfl rfl lkX7_31 (fun _ => rfl) ?_
      refine kw_callV (pc := 16) (i := 9) (Y := mX5_isEmpty) (a := 4) (As := []) (st := []) kw_hE rfl rfl lvX7_178 arX5_isEmpty (c_X5_isEmpty_4 l σ hI  ) (by decide) (Nat.le_of_ble_eq_true rfl) rfl (fun v S4 p3 => ?_)
      obtain ⟨e10, z9, rfl, f5, f6, f7, ef8⟩ := p3
      rw [e10]
      replace hF := kf_le ef8 hF
      have r_z9 := kw_rng z9
      show kw_AW l 4 kw_E0 KX mX7_fast (p_X7_fast_0 σ m) 19 [(0, .ref 0), (1, .int m)] [.int z9] σ
      refine kw_if_eq (pc := 19) (i := 10) (tgt := 25) rfl rfl (fun c11 => ?_) (fun c11 => ?_)
      · replace hF := kf_p c11 hF
        refine kw_aload_n (pc := 25) (i := 13) (k := 0) (n := 0) rfl rfl rfl ?_
        refine kw_get (pc := 26) (i := 14) (v := .ref 6) rfl rfl rfl lkX7_41 (fun _ => rfl) ?_
        refine kw_aload_n (pc := 29) (i := 15) (k := 0) (n := 0) rfl rfl rfl ?_
        refine kw_get (pc := 30) (i := 16) (v := .ref 4) rfl rfl rfl lkX7_31 (fun _ => rfl) ?_
        refine kw_get (pc := 33) (i := 17) (v := .ref 17) rfl rfl rfl lkX7_117 (fun _ => rfl) ?_
        refine kw_aload_n (pc := 36) (i := 18) (k := 0) (n := 0) rfl rfl rfl ?_
        refine kw_get (pc := 37) (i := 19) (v := .ref 4) rfl rfl rfl lkX7_31 (fun _ => rfl) ?_
        refine kw_callV (pc := 40) (i := 20) (Y := mX5_windNow) (a := 4) (As := []) (st := [.ref 17, .ref 6]) kw_hE rfl rfl lvX7_171 arX5_windNow (c_X5_windNow_4 l σ hI  ) (by decide) (Nat.le_of_ble_eq_true rfl) rfl (fun v S13 p12 => ?_)
        obtain ⟨e16, z15, rfl, ef14⟩ := p12
        rw [e16]
        replace hF := kf_le ef14 hF
        have r_z15 := kw_rng z15
        show kw_AW l 4 kw_E0 KX mX7_fast (p_X7_fast_0 σ m) 43 [(0, .ref 0), (1, .int m)] [.int z15, .ref 17, .ref 6] σ
        refine kw_callV (pc := 43) (i := 21) (Y := mX0_draw) (a := 6) (As := [.ref 17, .int z15]) (st := []) kw_hE rfl rfl lvX7_225 arX0_draw (c_X0_draw_6_17 l σ hI z15 ) (by decide) (Nat.le_of_ble_eq_true rfl) rfl (fun v S18 p17 => ?_)
        obtain ⟨⟨I20, F21⟩, rfl, ef19⟩ := p17
        have F22 : kw_F [8, 28, 6, 22, 23] σ S18 := kw_F.tr hF0 F21 (by decide)
        replace hF := kf_le ef19 hF
        show kw_AW l 4 kw_E0 KX mX7_fast (p_X7_fast_0 σ m) 46 [(0, .ref 0), (1, .int m)] [] S18
        refine kw_iconst (pc := 46) (i := 22) (v := 0) rfl rfl ?_
        refine kw_istore_n (pc := 47) (i := 23) (n := 2) (lv' := [(2, .int 0), (0, .ref 0), (1, .int m)]) rfl rfl (by decide) rfl ?_
        refine kw_iconst (pc := 48) (i := 24) (v := 1) rfl rfl ?_
        refine kw_istore_n (pc := 49) (i := 25) (n := 3) (lv' := [(3, .int 1), (2, .int 0), (0, .ref 0), (1, .int m)]) rfl rfl (by decide) rfl ?_
        have L25 : ∀ (n29 : Nat) (x23 : Int32) (x24 : Int32), 0 ≤ x23.toInt → l_X7_fast_0_50 m S18 n29 x24 x23 = (f_X7_fast_0 σ m) → (((S18.1 6 3)).toInt - x23.toInt).toNat < n29 → kw_AW l 4 kw_E0 KX mX7_fast (p_X7_fast_0 σ m) 50 [(3, .int x23), (2, .int x24), (0, .ref 0), (1, .int m)] [] S18 := by
          intro n29
          induction n29 with
          | zero => intro x23 x24 v27 hF m28; exact absurd m28 (Nat.not_lt_zero _)
          | succ n29 ih26 =>
            intro x23 x24 v27 hF m28
            replace hF := kf_st (l_X7_fast_0_50_s _ _ _ _ _) hF
            have r_x23 := kw_rng x23
            have r_x24 := kw_rng x24
            refine kw_iload_n (pc := 50) (i := 26) (k := 0) (n := 3) rfl rfl rfl ?_
            refine kw_aload_n (pc := 51) (i := 27) (k := 2) (n := 0) rfl rfl rfl ?_
            refine kw_get (pc := 52) (i := 28) (v := .ref 6) rfl rfl rfl lkX7_41 (fun _ => rfl) ?_
            refine kw_get (pc := 55) (i := 29) (v := .int (S18.1 6 3)) rfl rfl rfl lkX7_229 (fun _ => rfl) ?_
            have b30 := kw_rng (S18.1 6 3)
            refine kw_icmp_ge (pc := 58) (i := 30) (tgt := 103) rfl rfl (fun c31 => ?_) (fun c31 => ?_)
            · replace hF := kf_nl c31 hF
              refine kw_aload_n (pc := 103) (i := 51) (k := 2) (n := 0) rfl rfl rfl ?_
              refine kw_get (pc := 104) (i := 52) (v := .ref 8) rfl rfl rfl lkX7_55 (fun _ => rfl) ?_
              refine kw_iload_n (pc := 107) (i := 53) (k := 1) (n := 2) rfl rfl rfl ?_
              refine kw_callV (pc := 108) (i := 54) (Y := mX4_answer) (a := 8) (As := [.int x24]) (st := []) kw_hE rfl rfl lvX7_92 arX4_answer (c_X4_answer_8 l S18 I20 x24 ) (by decide) (Nat.le_of_ble_eq_true rfl) rfl (fun v S33 p32 => ?_)
              obtain ⟨⟨I37, F38⟩, z36, rfl, f34, ef35⟩ := p32
              have F39 : kw_F [8, 28, 6, 22, 23] σ S33 := kw_F.tr F22 F38 (by decide)
              replace hF := kf_be ef35 hF
              have r_z36 := kw_rng z36
              show kw_AW l 4 kw_E0 KX mX7_fast (p_X7_fast_0 σ m) 111 [(3, .int x23), (2, .int x24), (0, .ref 0), (1, .int m)] [.int z36] S33
              refine kw_pop (pc := 111) (i := 55) rfl rfl ?_
              refine kw_aload_n (pc := 112) (i := 56) (k := 2) (n := 0) rfl rfl rfl ?_
              refine kw_get (pc := 113) (i := 57) (v := .ref 6) rfl rfl rfl lkX7_41 (fun _ => rfl) ?_
              refine kw_iload_n (pc := 116) (i := 58) (k := 1) (n := 2) rfl rfl rfl ?_
              refine kw_callV (pc := 117) (i := 59) (Y := mX0_milesOf) (a := 6) (As := [.int x24]) (st := []) kw_hE rfl rfl lvX7_238 arX0_milesOf (c_X0_milesOf_6 l S33 I37 x24 ) (by decide) (Nat.le_of_ble_eq_true rfl) rfl (fun v S41 p40 => ?_)
              obtain ⟨e44, z43, rfl, ef42⟩ := p40
              rw [e44]
              replace hF := kf_le ef42 hF
              have r_z43 := kw_rng z43
              show kw_AW l 4 kw_E0 KX mX7_fast (p_X7_fast_0 σ m) 120 [(3, .int x23), (2, .int x24), (0, .ref 0), (1, .int m)] [.int z43] S33
              exact kw_ireturn (pc := 120) (i := 60) (ty := .int) rfl rfl rfl ⟨⟨I37, F39⟩, _, rfl, hF⟩
            · replace hF := kf_p c31 hF
              refine kw_aload_n (pc := 61) (i := 31) (k := 2) (n := 0) rfl rfl rfl ?_
              refine kw_get (pc := 62) (i := 32) (v := .ref 4) rfl rfl rfl lkX7_31 (fun _ => rfl) ?_
              refine kw_get (pc := 65) (i := 33) (v := .ref 17) rfl rfl rfl lkX7_117 (fun _ => rfl) ?_
              refine kw_iload_n (pc := 68) (i := 34) (k := 0) (n := 3) rfl rfl rfl ?_
              refine kw_callV (pc := 69) (i := 35) (Y := mX1_linenOf) (a := 17) (As := [.int x23]) (st := []) kw_hE rfl rfl lvX7_235 arX1_linenOf (c_X1_linenOf_17 l S18 I20 x23 ) (by decide) (Nat.le_of_ble_eq_true rfl) rfl (fun v S46 p45 => ?_)
              obtain ⟨e49, z48, rfl, ef47⟩ := p45
              rw [e49]
              replace hF := kf_le ef47 hF
              have r_z48 := kw_rng z48
              show kw_AW l 4 kw_E0 KX mX7_fast (p_X7_fast_0 σ m) 72 [(3, .int x23), (2, .int x24), (0, .ref 0), (1, .int m)] [.int z48] S18
              refine kw_iload_n (pc := 72) (i := 36) (k := 3) (n := 1) rfl rfl rfl ?_
              refine kw_icmp_gt (pc := 73) (i := 37) (tgt := 97) rfl rfl (fun c50 => ?_) (fun c50 => ?_)
              · replace hF := kf_p c50 hF
                refine kw_iinc' (pc := 97) (i := 49) (k := 0) (fun z => [(3, .int z), (2, .int x24), (0, .ref 0), (1, .int m)]) rfl rfl (by decide) rfl (fun _ => rfl) (fun z51 e_z51 t_z51 => ?_)
                replace hF := kf_le e_z51 hF
                refine kw_goto (pc := 100) (i := 50) (tgt := 50) rfl rfl ?_
                refine kw_sub (lv' := [(3, .int z51), (2, .int x24), (0, .ref 0), (1, .int m)]) [0, 1, 2, 3] rfl ?_
                exact ih26 z51 x24 (by omega) hF (show (((S18.1 6 3)).toInt - z51.toInt).toNat < n29 from by omega)
              · replace hF := kf_nl c50 hF
                refine kw_aload_n (pc := 76) (i := 38) (k := 2) (n := 0) rfl rfl rfl ?_
                refine kw_get (pc := 77) (i := 39) (v := .ref 6) rfl rfl rfl lkX7_41 (fun _ => rfl) ?_
                refine kw_iload_n (pc := 80) (i := 40) (k := 0) (n := 3) rfl rfl rfl ?_
                refine kw_callV (pc := 81) (i := 41) (Y := mX0_milesOf) (a := 6) (As := [.int x23]) (st := []) kw_hE rfl rfl lvX7_238 arX0_milesOf (c_X0_milesOf_6 l S18 I20 x23 ) (by decide) (Nat.le_of_ble_eq_true rfl) rfl (fun v S53 p52 => ?_)
                obtain ⟨e56, z55, rfl, ef54⟩ := p52
                rw [e56]
                replace hF := kf_le ef54 hF
                have r_z55 := kw_rng z55
                show kw_AW l 4 kw_E0 KX mX7_fast (p_X7_fast_0 σ m) 84 [(3, .int x23), (2, .int x24), (0, .ref 0), (1, .int m)] [.int z55] S18
                refine kw_aload_n (pc := 84) (i := 42) (k := 2) (n := 0) rfl rfl rfl ?_
                refine kw_get (pc := 85) (i := 43) (v := .ref 6) rfl rfl rfl lkX7_41 (fun _ => rfl) ?_
                refine kw_iload_n (pc := 88) (i := 44) (k := 1) (n := 2) rfl rfl rfl ?_
                refine kw_callV (pc := 89) (i := 45) (Y := mX0_milesOf) (a := 6) (As := [.int x24]) (st := [.int z55]) kw_hE rfl rfl lvX7_238 arX0_milesOf (c_X0_milesOf_6 l S18 I20 x24 ) (by decide) (Nat.le_of_ble_eq_true rfl) rfl (fun v S58 p57 => ?_)
                obtain ⟨e61, z60, rfl, ef59⟩ := p57
                rw [e61]
                replace hF := kf_le ef59 hF
                have r_z60 := kw_rng z60
                show kw_AW l 4 kw_E0 KX mX7_fast (p_X7_fast_0 σ m) 92 [(3, .int x23), (2, .int x24), (0, .ref 0), (1, .int m)] [.int z60, .int z55] S18
                refine kw_icmp_le (pc := 92) (i := 46) (tgt := 97) rfl rfl (fun c62 => ?_) (fun c62 => ?_)
                · replace hF := kf_nl c62 hF
                  refine kw_iinc' (pc := 97) (i := 49) (k := 0) (fun z => [(3, .int z), (2, .int x24), (0, .ref 0), (1, .int m)]) rfl rfl (by decide) rfl (fun _ => rfl) (fun z63 e_z63 t_z63 => ?_)
                  replace hF := kf_le e_z63 hF
                  refine kw_goto (pc := 100) (i := 50) (tgt := 50) rfl rfl ?_
                  refine kw_sub (lv' := [(3, .int z63), (2, .int x24), (0, .ref 0), (1, .int m)]) [0, 1, 2, 3] rfl ?_
                  exact ih26 z63 x24 (by omega) hF (show (((S18.1 6 3)).toInt - z63.toInt).toNat < n29 from by omega)
                · replace hF := kf_p c62 hF
                  refine kw_iload_n (pc := 95) (i := 47) (k := 0) (n := 3) rfl rfl rfl ?_
                  refine kw_istore_n (pc := 96) (i := 48) (n := 2) (lv' := [(2, .int x23), (3, .int x23), (0, .ref 0), (1, .int m)]) rfl rfl (by decide) rfl ?_
                  refine kw_iinc' (pc := 97) (i := 49) (k := 1) (fun z => [(3, .int z), (2, .int x23), (0, .ref 0), (1, .int m)]) rfl rfl (by decide) rfl (fun _ => rfl) (fun z64 e_z64 t_z64 => ?_)
                  replace hF := kf_le e_z64 hF
                  refine kw_goto (pc := 100) (i := 50) (tgt := 50) rfl rfl ?_
                  refine kw_sub (lv' := [(3, .int z64), (2, .int x23), (0, .ref 0), (1, .int m)]) [0, 1, 2, 3] rfl ?_
                  exact ih26 z64 x23 (by omega) hF (show (((S18.1 6 3)).toInt - z64.toInt).toNat < n29 from by omega)
        exact L25 _ 1 0 (by omega) hF (Nat.lt_succ_self _)
      · replace hF := kf_n c11 hF
        refine kw_bipush (pc := 22) (i := 11) (v := (-4)) rfl rfl ?_
        exact kw_ireturn (pc := 24) (i := 12) (ty := .int) rfl rfl rfl ⟨⟨hI, hF0⟩, _, rfl, hF⟩
    · replace hF := kf_p c2 hF
      refine kw_iconst (pc := 10) (i := 5) (v := (-1)) rfl rfl ?_
      exact kw_ireturn (pc := 11) (i := 6) (ty := .int) rfl rfl rfl ⟨⟨hI, hF0⟩, _, rfl, hF⟩
noncomputable def f_X7_wet_0 (σ : kw_S)  : Int32 × kw_S := kf_l (f_X5_allWet_4 σ) fun z1 => kf_b (f_X4_answer_8 σ z1) fun z2 S3 => kf_l (f_X1_allLines_17 S3) fun z4 => kf_l (f_X7_drySet_0_19 S3) fun z5 => kf_l (z5 ^^^ ((-1) : Int32)) fun z6 => kf_l (z4 &&& z6) fun z7 => (z7, S3)
theorem f_X7_wet_0_u (σ : kw_S)  : f_X7_wet_0 σ  = kf_l (f_X5_allWet_4 σ) fun z1 => kf_b (f_X4_answer_8 σ z1) fun z2 S3 => kf_l (f_X1_allLines_17 S3) fun z4 => kf_l (f_X7_drySet_0_19 S3) fun z5 => kf_l (z5 ^^^ ((-1) : Int32)) fun z6 => kf_l (z4 &&& z6) fun z7 => (z7, S3) := rfl
abbrev p_X7_wet_0 (σ : kw_S)  : Option Value → kw_S → Prop := fun vv σ' => (kw_I bX σ' ∧ kw_F [8, 28] σ σ') ∧ ∃ r : Int32, vv = some (.int r) ∧ (r, σ') = f_X7_wet_0 σ
set_option maxRecDepth 100000 in
set_option maxHeartbeats 4000000 in
theorem c_X7_wet_0 (l : Launch) (σ : kw_S) (hI : kw_I bX σ)  : kw_Met l 2 KX mX7_wet [.ref 0] σ (p_X7_wet_0 σ) := by
  have hF0 : kw_F [8, 28] σ σ := kw_F.rf
  have hF := (f_X7_wet_0_u σ).symm
  have q_m1 : (-1 : Int32).toInt = -1 := rfl
  refine kw_Met.of (by decide) rfl tX7_wet (Nat.le_of_ble_eq_true rfl) ?_
  show kw_AW l 2 kw_E0 KX mX7_wet (p_X7_wet_0 σ) 0 [(0, .ref 0)] [] σ
  refine kw_aload_n (pc := 0) (i := 0) (k := 0) (n := 0) rfl rfl rfl ?_
  refine kw_get (pc := 1) (i := 1) (v := .ref 8) rfl rfl rfl lkX7_55 (fun _ => rfl) ?_
  refine kw_aload_n (pc := 4) (i := 2) (k := 0) (n := 0) rfl rfl rfl ?_
  refine kw_get (pc := 5) (i := 3) (v := .ref 4) rfl rfl rfl lkX7_31 (fun _ => rfl) ?_
  refine kw_callV (pc := 8) (i := 4) (Y := mX5_allWet) (a := 4) (As := []) (st := [.ref 8]) kw_hE rfl rfl lvX7_240 arX5_allWet (c_X5_allWet_4 l σ hI  ) (by decide) (Nat.le_of_ble_eq_true rfl) rfl (fun v S2 p1 => ?_)
  obtain ⟨e5, z4, rfl, ef3⟩ := p1
  rw [e5]
  replace hF := kf_le ef3 hF
  have r_z4 := kw_rng z4
  show kw_AW l 2 kw_E0 KX mX7_wet (p_X7_wet_0 σ) 11 [(0, .ref 0)] [.int z4, .ref 8] σ
  refine kw_callV (pc := 11) (i := 5) (Y := mX4_answer) (a := 8) (As := [.int z4]) (st := []) kw_hE rfl rfl lvX7_92 arX4_answer (c_X4_answer_8 l σ hI z4 ) (by decide) (Nat.le_of_ble_eq_true rfl) rfl (fun v S7 p6 => ?_)
  obtain ⟨⟨I11, F12⟩, z10, rfl, f8, ef9⟩ := p6
  have F13 : kw_F [8, 28] σ S7 := kw_F.tr hF0 F12 (by decide)
  replace hF := kf_be ef9 hF
  have r_z10 := kw_rng z10
  show kw_AW l 2 kw_E0 KX mX7_wet (p_X7_wet_0 σ) 14 [(0, .ref 0)] [.int z10] S7
  refine kw_pop (pc := 14) (i := 6) rfl rfl ?_
  refine kw_aload_n (pc := 15) (i := 7) (k := 0) (n := 0) rfl rfl rfl ?_
  refine kw_get (pc := 16) (i := 8) (v := .ref 4) rfl rfl rfl lkX7_31 (fun _ => rfl) ?_
  refine kw_get (pc := 19) (i := 9) (v := .ref 17) rfl rfl rfl lkX7_117 (fun _ => rfl) ?_
  refine kw_callV (pc := 22) (i := 10) (Y := mX1_allLines) (a := 17) (As := []) (st := []) kw_hE rfl rfl lvX7_243 arX1_allLines (c_X1_allLines_17 l S7 I11  ) (by decide) (Nat.le_of_ble_eq_true rfl) rfl (fun v S15 p14 => ?_)
  obtain ⟨e18, z17, rfl, ef16⟩ := p14
  rw [e18]
  replace hF := kf_le ef16 hF
  have r_z17 := kw_rng z17
  show kw_AW l 2 kw_E0 KX mX7_wet (p_X7_wet_0 σ) 25 [(0, .ref 0)] [.int z17] S7
  refine kw_aload_n (pc := 25) (i := 11) (k := 0) (n := 0) rfl rfl rfl ?_
  refine kw_aload_n (pc := 26) (i := 12) (k := 0) (n := 0) rfl rfl rfl ?_
  refine kw_get (pc := 27) (i := 13) (v := .ref 4) rfl rfl rfl lkX7_31 (fun _ => rfl) ?_
  refine kw_get (pc := 30) (i := 14) (v := .ref 19) rfl rfl rfl lkX7_194 (fun _ => rfl) ?_
  refine kw_callV (pc := 33) (i := 15) (Y := mX7_drySet) (a := 0) (As := [.ref 19]) (st := [.int z17]) kw_hE rfl rfl lvX7_246 arX7_drySet (c_X7_drySet_0_19 l S7 I11  ) (by decide) (Nat.le_of_ble_eq_true rfl) rfl (fun v S20 p19 => ?_)
  obtain ⟨e23, z22, rfl, ef21⟩ := p19
  rw [e23]
  replace hF := kf_le ef21 hF
  have r_z22 := kw_rng z22
  show kw_AW l 2 kw_E0 KX mX7_wet (p_X7_wet_0 σ) 36 [(0, .ref 0)] [.int z22, .int z17] S7
  refine kw_iconst (pc := 36) (i := 16) (v := (-1)) rfl rfl ?_
  refine kw_ixor (pc := 37) (i := 17) rfl (fun z24 e_z24 => ?_)
  have r_z24 := kw_rng z24
  replace hF := kf_le e_z24 hF
  refine kw_iand (pc := 38) (i := 18) rfl (fun z25 e_z25 => ?_)
  have r_z25 := kw_rng z25
  replace hF := kf_le e_z25 hF
  exact kw_ireturn (pc := 39) (i := 19) (ty := .int) rfl rfl rfl ⟨⟨I11, F13⟩, _, rfl, hF⟩
noncomputable def l_X7_sail_0_32 (a1 : Int32) (a2 : Int32) (S : kw_S) : Nat → Int32 → Int32 → Int32 → Int32 × kw_S
  | 0, _, _, _ => (0, S)
  | n + 1, x3, x4, x5 => kf_l (f_X3_sizeOf_1 S a1) fun z3 => if x5.toInt < z3.toInt then (kf_l (f_X5_windAhead_4 S x5) fun z8 => kf_l (f_X3_valueAt_1 S a1 x5) fun z9 => kf_l (f_X1_milesOf_17 S z9 z8) fun z10 => kf_l (x3 + z10) fun z11 => kf_l (f_X3_valueAt_1 S a1 x5) fun z12 => kf_l (f_X1_turnOf_17 S z12 z8) fun z13 => kf_l (x4 + z13) fun z14 => kf_l (x5 + Int32.ofInt 1) fun z15 => l_X7_sail_0_32 a1 a2 S n z11 z14 z15) else (kf_l x4.toInt64 fun z4 => kf_l (f_X4_tellWhole_8 S z4) fun S5 => kf_b (f_X4_answer_8 S5 x3) fun z6 S7 => (z6, S7))
theorem l_X7_sail_0_32_s (a1 : Int32) (a2 : Int32) (S : kw_S) (n : Nat) (x3 : Int32) (x4 : Int32) (x5 : Int32) : l_X7_sail_0_32 a1 a2 S (n + 1) x3 x4 x5 = kf_l (f_X3_sizeOf_1 S a1) fun z3 => if x5.toInt < z3.toInt then (kf_l (f_X5_windAhead_4 S x5) fun z8 => kf_l (f_X3_valueAt_1 S a1 x5) fun z9 => kf_l (f_X1_milesOf_17 S z9 z8) fun z10 => kf_l (x3 + z10) fun z11 => kf_l (f_X3_valueAt_1 S a1 x5) fun z12 => kf_l (f_X1_turnOf_17 S z12 z8) fun z13 => kf_l (x4 + z13) fun z14 => kf_l (x5 + Int32.ofInt 1) fun z15 => l_X7_sail_0_32 a1 a2 S n z11 z14 z15) else (kf_l x4.toInt64 fun z4 => kf_l (f_X4_tellWhole_8 S z4) fun S5 => kf_b (f_X4_answer_8 S5 x3) fun z6 S7 => (z6, S7)) := rfl
noncomputable def f_X7_sail_0 (σ : kw_S) (a : Int32) : Int32 × kw_S := kf_b (f_X7_planRefusal_0 σ a) fun z1 S2 => if z1.toInt = 0 then (l_X7_sail_0_32 a z1 S2 ((41 - (0 : Int32).toInt).toNat + 1) (S2.1 4 6) (S2.1 4 7) (0 : Int32)) else ((z1, S2))
theorem f_X7_sail_0_u (σ : kw_S) (a : Int32) : f_X7_sail_0 σ a = kf_b (f_X7_planRefusal_0 σ a) fun z1 S2 => if z1.toInt = 0 then (l_X7_sail_0_32 a z1 S2 ((41 - (0 : Int32).toInt).toNat + 1) (S2.1 4 6) (S2.1 4 7) (0 : Int32)) else ((z1, S2)) := rfl
abbrev p_X7_sail_0 (σ : kw_S) (a : Int32) : Option Value → kw_S → Prop := fun vv σ' => (kw_I bX σ' ∧ kw_F [8, 28] σ σ') ∧ ∃ r : Int32, vv = some (.int r) ∧ (r, σ') = f_X7_sail_0 σ a
set_option maxRecDepth 100000 in
set_option maxHeartbeats 4000000 in
theorem c_X7_sail_0 (l : Launch) (σ : kw_S) (hI : kw_I bX σ) (a : Int32) : kw_Met l 5 KX mX7_sail [.ref 0, .int a] σ (p_X7_sail_0 σ a) := by
  have r_a := kw_rng a
  have hF0 : kw_F [8, 28] σ σ := kw_F.rf
  have hF := (f_X7_sail_0_u σ a).symm
  have q_0 : (0 : Int32).toInt = 0 := rfl
  refine kw_Met.of (by decide) rfl tX7_sail (Nat.le_of_ble_eq_true rfl) ?_
  show kw_AW l 5 kw_E0 KX mX7_sail (p_X7_sail_0 σ a) 0 [(0, .ref 0), (1, .int a)] [] σ
  refine kw_aload_n (pc := 0) (i := 0) (k := 0) (n := 0) rfl rfl rfl ?_
  refine kw_iload_n (pc := 1) (i := 1) (k := 1) (n := 1) rfl rfl rfl ?_
  refine kw_callV (pc := 2) (i := 2) (Y := mX7_planRefusal) (a := 0) (As := [.int a]) (st := []) kw_hE rfl rfl lvX7_250 arX7_planRefusal (c_X7_planRefusal_0 l σ hI a ) (by decide) (Nat.le_of_ble_eq_true rfl) rfl (fun v S2 p1 => ?_)
  obtain ⟨⟨I6, F7⟩, z5, rfl, f3, ef4⟩ := p1
  have F8 : kw_F [8, 28] σ S2 := kw_F.tr hF0 F7 (by decide)
  replace hF := kf_be ef4 hF
  have r_z5 := kw_rng z5
  show kw_AW l 5 kw_E0 KX mX7_sail (p_X7_sail_0 σ a) 5 [(0, .ref 0), (1, .int a)] [.int z5] S2
  refine kw_istore_n (pc := 5) (i := 3) (n := 2) (lv' := [(2, .int z5), (0, .ref 0), (1, .int a)]) rfl rfl (by decide) rfl ?_
  refine kw_iload_n (pc := 6) (i := 4) (k := 0) (n := 2) rfl rfl rfl ?_
  refine kw_if_eq (pc := 7) (i := 5) (tgt := 12) rfl rfl (fun c9 => ?_) (fun c9 => ?_)
  · replace hF := kf_p c9 hF
    refine kw_aload_n (pc := 12) (i := 8) (k := 1) (n := 0) rfl rfl rfl ?_
    refine kw_get (pc := 13) (i := 9) (v := .ref 4) rfl rfl rfl lkX7_31 (fun _ => rfl) ?_
    refine kw_get (pc := 16) (i := 10) (v := .int (S2.1 4 6)) rfl rfl rfl lkX7_204 (fun _ => rfl) ?_
    have b10 := kw_rng (S2.1 4 6)
    refine kw_istore_n (pc := 19) (i := 11) (n := 3) (lv' := [(3, .int (S2.1 4 6)), (2, .int z5), (0, .ref 0), (1, .int a)]) rfl rfl (by decide) rfl ?_
    refine kw_aload_n (pc := 20) (i := 12) (k := 2) (n := 0) rfl rfl rfl ?_
    refine kw_get (pc := 21) (i := 13) (v := .ref 4) rfl rfl rfl lkX7_31 (fun _ => rfl) ?_
    refine kw_get (pc := 24) (i := 14) (v := .int (S2.1 4 7)) rfl rfl rfl lkX7_197 (fun _ => rfl) ?_
    have b11 := kw_rng (S2.1 4 7)
    refine kw_istore (pc := 27) (i := 15) (n := 4) (lv' := [(4, .int (S2.1 4 7)), (3, .int (S2.1 4 6)), (2, .int z5), (0, .ref 0), (1, .int a)]) rfl (by decide) rfl ?_
    refine kw_iconst (pc := 29) (i := 16) (v := 0) rfl rfl ?_
    refine kw_istore (pc := 30) (i := 17) (n := 5) (lv' := [(5, .int 0), (4, .int (S2.1 4 7)), (3, .int (S2.1 4 6)), (2, .int z5), (0, .ref 0), (1, .int a)]) rfl (by decide) rfl ?_
    have L15 : ∀ (n19 : Nat) (x12 : Int32) (x13 : Int32) (x14 : Int32), 0 ≤ x12.toInt → l_X7_sail_0_32 a z5 S2 n19 x14 x13 x12 = (f_X7_sail_0 σ a) → (41 - x12.toInt).toNat < n19 → kw_AW l 5 kw_E0 KX mX7_sail (p_X7_sail_0 σ a) 32 [(5, .int x12), (4, .int x13), (3, .int x14), (2, .int z5), (0, .ref 0), (1, .int a)] [] S2 := by
      intro n19
      induction n19 with
      | zero => intro x12 x13 x14 v17 hF m18; exact absurd m18 (Nat.not_lt_zero _)
      | succ n19 ih16 =>
        intro x12 x13 x14 v17 hF m18
        replace hF := kf_st (l_X7_sail_0_32_s _ _ _ _ _ _ _) hF
        have r_x12 := kw_rng x12
        have r_x13 := kw_rng x13
        have r_x14 := kw_rng x14
        refine kw_iload (pc := 32) (i := 18) (k := 0) (n := 5) rfl rfl ?_
        refine kw_aload_n (pc := 34) (i := 19) (k := 4) (n := 0) rfl rfl rfl ?_
        refine kw_get (pc := 35) (i := 20) (v := .ref 1) rfl rfl rfl lkX7_14 (fun _ => rfl) ?_
        refine kw_iload_n (pc := 38) (i := 21) (k := 5) (n := 1) rfl rfl rfl ?_
        refine kw_callV (pc := 39) (i := 22) (Y := mX3_sizeOf) (a := 1) (As := [.int a]) (st := [.int x12]) kw_hE rfl rfl lvX7_110 arX3_sizeOf (c_X3_sizeOf_1 l S2 I6 a ) (by decide) (Nat.le_of_ble_eq_true rfl) rfl (fun v S21 p20 => ?_)
        obtain ⟨e28, z27, rfl, f22, f23, f24, f25, ef26⟩ := p20
        rw [e28]
        replace hF := kf_le ef26 hF
        have r_z27 := kw_rng z27
        show kw_AW l 5 kw_E0 KX mX7_sail (p_X7_sail_0 σ a) 42 [(5, .int x12), (4, .int x13), (3, .int x14), (2, .int z5), (0, .ref 0), (1, .int a)] [.int z27, .int x12] S2
        refine kw_icmp_ge (pc := 42) (i := 23) (tgt := 114) rfl rfl (fun c29 => ?_) (fun c29 => ?_)
        · replace hF := kf_nl c29 hF
          refine kw_aload_n (pc := 114) (i := 57) (k := 4) (n := 0) rfl rfl rfl ?_
          refine kw_get (pc := 115) (i := 58) (v := .ref 8) rfl rfl rfl lkX7_55 (fun _ => rfl) ?_
          refine kw_iload (pc := 118) (i := 59) (k := 1) (n := 4) rfl rfl ?_
          refine kw_i2l (pc := 120) (i := 60) rfl (fun z30 e_z30 t_z30 => ?_)
          replace hF := kf_le e_z30 hF
          refine kw_callV (pc := 121) (i := 61) (Y := mX4_tellWhole) (a := 8) (As := [.long z30]) (st := []) kw_hE rfl rfl lvX7_200 arX4_tellWhole (c_X4_tellWhole_8 l S2 I6 z30 ) (by decide) (Nat.le_of_ble_eq_true rfl) rfl (fun v S32 p31 => ?_)
          obtain ⟨⟨I34, F35⟩, rfl, ef33⟩ := p31
          have F36 : kw_F [8, 28] σ S32 := kw_F.tr F8 F35 (by decide)
          replace hF := kf_le ef33 hF
          show kw_AW l 5 kw_E0 KX mX7_sail (p_X7_sail_0 σ a) 124 [(5, .int x12), (4, .int x13), (3, .int x14), (2, .int z5), (0, .ref 0), (1, .int a)] [] S32
          refine kw_aload_n (pc := 124) (i := 62) (k := 4) (n := 0) rfl rfl rfl ?_
          refine kw_get (pc := 125) (i := 63) (v := .ref 8) rfl rfl rfl lkX7_55 (fun _ => rfl) ?_
          refine kw_iload_n (pc := 128) (i := 64) (k := 2) (n := 3) rfl rfl rfl ?_
          refine kw_callV (pc := 129) (i := 65) (Y := mX4_answer) (a := 8) (As := [.int x14]) (st := []) kw_hE rfl rfl lvX7_92 arX4_answer (c_X4_answer_8 l S32 I34 x14 ) (by decide) (Nat.le_of_ble_eq_true rfl) rfl (fun v S38 p37 => ?_)
          obtain ⟨⟨I42, F43⟩, z41, rfl, f39, ef40⟩ := p37
          have F44 : kw_F [8, 28] σ S38 := kw_F.tr F36 F43 (by decide)
          replace hF := kf_be ef40 hF
          have r_z41 := kw_rng z41
          show kw_AW l 5 kw_E0 KX mX7_sail (p_X7_sail_0 σ a) 132 [(5, .int x12), (4, .int x13), (3, .int x14), (2, .int z5), (0, .ref 0), (1, .int a)] [.int z41] S38
          exact kw_ireturn (pc := 132) (i := 66) (ty := .int) rfl rfl rfl ⟨⟨I42, F44⟩, _, rfl, hF⟩
        · replace hF := kf_p c29 hF
          refine kw_aload_n (pc := 45) (i := 24) (k := 4) (n := 0) rfl rfl rfl ?_
          refine kw_get (pc := 46) (i := 25) (v := .ref 4) rfl rfl rfl lkX7_31 (fun _ => rfl) ?_
          refine kw_iload (pc := 49) (i := 26) (k := 0) (n := 5) rfl rfl ?_
          refine kw_callV (pc := 51) (i := 27) (Y := mX5_windAhead) (a := 4) (As := [.int x12]) (st := []) kw_hE rfl rfl lvX7_253 arX5_windAhead (c_X5_windAhead_4 l S2 I6 x12 ) (by decide) (Nat.le_of_ble_eq_true rfl) rfl (fun v S46 p45 => ?_)
          obtain ⟨e49, z48, rfl, ef47⟩ := p45
          rw [e49]
          replace hF := kf_le ef47 hF
          have r_z48 := kw_rng z48
          show kw_AW l 5 kw_E0 KX mX7_sail (p_X7_sail_0 σ a) 54 [(5, .int x12), (4, .int x13), (3, .int x14), (2, .int z5), (0, .ref 0), (1, .int a)] [.int z48] S2
          refine kw_istore (pc := 54) (i := 28) (n := 6) (lv' := [(6, .int z48), (5, .int x12), (4, .int x13), (3, .int x14), (2, .int z5), (0, .ref 0), (1, .int a)]) rfl (by decide) rfl ?_
          refine kw_iload_n (pc := 56) (i := 29) (k := 3) (n := 3) rfl rfl rfl ?_
          refine kw_aload_n (pc := 57) (i := 30) (k := 5) (n := 0) rfl rfl rfl ?_
          refine kw_get (pc := 58) (i := 31) (v := .ref 4) rfl rfl rfl lkX7_31 (fun _ => rfl) ?_
          refine kw_get (pc := 61) (i := 32) (v := .ref 17) rfl rfl rfl lkX7_117 (fun _ => rfl) ?_
          refine kw_aload_n (pc := 64) (i := 33) (k := 5) (n := 0) rfl rfl rfl ?_
          refine kw_get (pc := 65) (i := 34) (v := .ref 1) rfl rfl rfl lkX7_14 (fun _ => rfl) ?_
          refine kw_iload_n (pc := 68) (i := 35) (k := 6) (n := 1) rfl rfl rfl ?_
          refine kw_iload (pc := 69) (i := 36) (k := 1) (n := 5) rfl rfl ?_
          refine kw_callV (pc := 71) (i := 37) (Y := mX3_valueAt) (a := 1) (As := [.int a, .int x12]) (st := [.ref 17, .int x14]) kw_hE rfl rfl lvX7_85 arX3_valueAt (c_X3_valueAt_1 l S2 I6 a x12 ) (by decide) (Nat.le_of_ble_eq_true rfl) rfl (fun v S51 p50 => ?_)
          obtain ⟨e54, z53, rfl, ef52⟩ := p50
          rw [e54]
          replace hF := kf_le ef52 hF
          have r_z53 := kw_rng z53
          show kw_AW l 5 kw_E0 KX mX7_sail (p_X7_sail_0 σ a) 74 [(6, .int z48), (5, .int x12), (4, .int x13), (3, .int x14), (2, .int z5), (0, .ref 0), (1, .int a)] [.int z53, .ref 17, .int x14] S2
          refine kw_iload (pc := 74) (i := 38) (k := 0) (n := 6) rfl rfl ?_
          refine kw_callV (pc := 76) (i := 39) (Y := mX1_milesOf) (a := 17) (As := [.int z53, .int z48]) (st := [.int x14]) kw_hE rfl rfl lvX7_222 arX1_milesOf (c_X1_milesOf_17 l S2 I6 z53 z48 ) (by decide) (Nat.le_of_ble_eq_true rfl) rfl (fun v S56 p55 => ?_)
          obtain ⟨e59, z58, rfl, ef57⟩ := p55
          rw [e59]
          replace hF := kf_le ef57 hF
          have r_z58 := kw_rng z58
          show kw_AW l 5 kw_E0 KX mX7_sail (p_X7_sail_0 σ a) 79 [(6, .int z48), (5, .int x12), (4, .int x13), (3, .int x14), (2, .int z5), (0, .ref 0), (1, .int a)] [.int z58, .int x14] S2
          refine kw_iadd (pc := 79) (i := 40) rfl (fun z60 e_z60 t_z60 => ?_)
          replace hF := kf_le e_z60 hF
          refine kw_istore_n (pc := 80) (i := 41) (n := 3) (lv' := [(3, .int z60), (6, .int z48), (5, .int x12), (4, .int x13), (2, .int z5), (0, .ref 0), (1, .int a)]) rfl rfl (by decide) rfl ?_
          refine kw_iload (pc := 81) (i := 42) (k := 3) (n := 4) rfl rfl ?_
          refine kw_aload_n (pc := 83) (i := 43) (k := 5) (n := 0) rfl rfl rfl ?_
          refine kw_get (pc := 84) (i := 44) (v := .ref 4) rfl rfl rfl lkX7_31 (fun _ => rfl) ?_
          refine kw_get (pc := 87) (i := 45) (v := .ref 17) rfl rfl rfl lkX7_117 (fun _ => rfl) ?_
          refine kw_aload_n (pc := 90) (i := 46) (k := 5) (n := 0) rfl rfl rfl ?_
          refine kw_get (pc := 91) (i := 47) (v := .ref 1) rfl rfl rfl lkX7_14 (fun _ => rfl) ?_
          refine kw_iload_n (pc := 94) (i := 48) (k := 6) (n := 1) rfl rfl rfl ?_
          refine kw_iload (pc := 95) (i := 49) (k := 2) (n := 5) rfl rfl ?_
          refine kw_callV (pc := 97) (i := 50) (Y := mX3_valueAt) (a := 1) (As := [.int a, .int x12]) (st := [.ref 17, .int x13]) kw_hE rfl rfl lvX7_85 arX3_valueAt (c_X3_valueAt_1 l S2 I6 a x12 ) (by decide) (Nat.le_of_ble_eq_true rfl) rfl (fun v S62 p61 => ?_)
          obtain ⟨e65, z64, rfl, ef63⟩ := p61
          rw [e65]
          replace hF := kf_le ef63 hF
          have r_z64 := kw_rng z64
          show kw_AW l 5 kw_E0 KX mX7_sail (p_X7_sail_0 σ a) 100 [(3, .int z60), (6, .int z48), (5, .int x12), (4, .int x13), (2, .int z5), (0, .ref 0), (1, .int a)] [.int z64, .ref 17, .int x13] S2
          refine kw_iload (pc := 100) (i := 51) (k := 1) (n := 6) rfl rfl ?_
          refine kw_callV (pc := 102) (i := 52) (Y := mX1_turnOf) (a := 17) (As := [.int z64, .int z48]) (st := [.int x13]) kw_hE rfl rfl lvX7_219 arX1_turnOf (c_X1_turnOf_17 l S2 I6 z64 z48 ) (by decide) (Nat.le_of_ble_eq_true rfl) rfl (fun v S67 p66 => ?_)
          obtain ⟨e70, z69, rfl, ef68⟩ := p66
          rw [e70]
          replace hF := kf_le ef68 hF
          have r_z69 := kw_rng z69
          show kw_AW l 5 kw_E0 KX mX7_sail (p_X7_sail_0 σ a) 105 [(3, .int z60), (6, .int z48), (5, .int x12), (4, .int x13), (2, .int z5), (0, .ref 0), (1, .int a)] [.int z69, .int x13] S2
          refine kw_iadd (pc := 105) (i := 53) rfl (fun z71 e_z71 t_z71 => ?_)
          replace hF := kf_le e_z71 hF
          refine kw_istore (pc := 106) (i := 54) (n := 4) (lv' := [(4, .int z71), (3, .int z60), (6, .int z48), (5, .int x12), (2, .int z5), (0, .ref 0), (1, .int a)]) rfl (by decide) rfl ?_
          refine kw_iinc' (pc := 108) (i := 55) (k := 3) (fun z => [(5, .int z), (4, .int z71), (3, .int z60), (6, .int z48), (2, .int z5), (0, .ref 0), (1, .int a)]) rfl rfl (by decide) rfl (fun _ => rfl) (fun z72 e_z72 t_z72 => ?_)
          replace hF := kf_le e_z72 hF
          refine kw_goto (pc := 111) (i := 56) (tgt := 32) rfl rfl ?_
          refine kw_sub (lv' := [(5, .int z72), (4, .int z71), (3, .int z60), (2, .int z5), (0, .ref 0), (1, .int a)]) [0, 1, 2, 4, 5, 6] rfl ?_
          exact ih16 z72 z71 z60 (by omega) hF (by omega)
    exact L15 _ 0 (S2.1 4 7) (S2.1 4 6) (by omega) hF (Nat.lt_succ_self _)
  · replace hF := kf_n c9 hF
    refine kw_iload_n (pc := 10) (i := 6) (k := 0) (n := 2) rfl rfl rfl ?_
    exact kw_ireturn (pc := 11) (i := 7) (ty := .int) rfl rfl rfl ⟨⟨I6, F8⟩, _, rfl, hF⟩
noncomputable def l_X7_dry_0_32 (a1 : Int32) (a2 : Int32) : Nat → Int32 → kw_S → Int32 × kw_S
  | 0, _, S => (0, S)
  | n + 1, x3, S => kf_l (f_X3_sizeOf_1 S a1) fun z4 => if x3.toInt < z4.toInt then (kf_l (f_X3_valueAt_1 S a1 x3) fun z6 => kf_l (f_X5_windAhead_4 S x3) fun z7 => kf_l (f_X7_weather_9 S z6 z7) fun S8 => kf_l (x3 + Int32.ofInt 1) fun z9 => l_X7_dry_0_32 a1 a2 n z9 S8) else (kf_l (f_X7_drySet_0_9 S) fun z5 => (z5, S))
theorem l_X7_dry_0_32_s (a1 : Int32) (a2 : Int32) (n : Nat) (x3 : Int32) (S : kw_S) : l_X7_dry_0_32 a1 a2 (n + 1) x3 S = kf_l (f_X3_sizeOf_1 S a1) fun z4 => if x3.toInt < z4.toInt then (kf_l (f_X3_valueAt_1 S a1 x3) fun z6 => kf_l (f_X5_windAhead_4 S x3) fun z7 => kf_l (f_X7_weather_9 S z6 z7) fun S8 => kf_l (x3 + Int32.ofInt 1) fun z9 => l_X7_dry_0_32 a1 a2 n z9 S8) else (kf_l (f_X7_drySet_0_9 S) fun z5 => (z5, S)) := rfl
noncomputable def f_X7_dry_0 (σ : kw_S) (a : Int32) : Int32 × kw_S := kf_b (f_X7_planRefusal_0 σ a) fun z1 S2 => if z1.toInt = 0 then (kf_l (kw_ua S2 9 (va_cpy (S2.1 19) (S2.1 9) ((0 : Int32).toNatClampNeg) ((0 : Int32).toNatClampNeg) ((6 : Int32).toNatClampNeg))) fun S3 => l_X7_dry_0_32 a z1 ((41 - (0 : Int32).toInt).toNat + 1) (0 : Int32) S3) else ((z1, S2))
theorem f_X7_dry_0_u (σ : kw_S) (a : Int32) : f_X7_dry_0 σ a = kf_b (f_X7_planRefusal_0 σ a) fun z1 S2 => if z1.toInt = 0 then (kf_l (kw_ua S2 9 (va_cpy (S2.1 19) (S2.1 9) ((0 : Int32).toNatClampNeg) ((0 : Int32).toNatClampNeg) ((6 : Int32).toNatClampNeg))) fun S3 => l_X7_dry_0_32 a z1 ((41 - (0 : Int32).toInt).toNat + 1) (0 : Int32) S3) else ((z1, S2)) := rfl
abbrev p_X7_dry_0 (σ : kw_S) (a : Int32) : Option Value → kw_S → Prop := fun vv σ' => (kw_I bX σ' ∧ kw_F [8, 28, 9] σ σ') ∧ ∃ r : Int32, vv = some (.int r) ∧ (r, σ') = f_X7_dry_0 σ a
set_option maxRecDepth 100000 in
set_option maxHeartbeats 4000000 in
theorem c_X7_dry_0 (l : Launch) (σ : kw_S) (hI : kw_I bX σ) (a : Int32) : kw_Met l 5 KX mX7_dry [.ref 0, .int a] σ (p_X7_dry_0 σ a) := by
  have r_a := kw_rng a
  have hF0 : kw_F [8, 28, 9] σ σ := kw_F.rf
  have hF := (f_X7_dry_0_u σ a).symm
  have q_0 : (0 : Int32).toInt = 0 := rfl
  have q_6 : (6 : Int32).toInt = 6 := rfl
  refine kw_Met.of (by decide) rfl tX7_dry (Nat.le_of_ble_eq_true rfl) ?_
  show kw_AW l 5 kw_E0 KX mX7_dry (p_X7_dry_0 σ a) 0 [(0, .ref 0), (1, .int a)] [] σ
  refine kw_aload_n (pc := 0) (i := 0) (k := 0) (n := 0) rfl rfl rfl ?_
  refine kw_iload_n (pc := 1) (i := 1) (k := 1) (n := 1) rfl rfl rfl ?_
  refine kw_callV (pc := 2) (i := 2) (Y := mX7_planRefusal) (a := 0) (As := [.int a]) (st := []) kw_hE rfl rfl lvX7_250 arX7_planRefusal (c_X7_planRefusal_0 l σ hI a ) (by decide) (Nat.le_of_ble_eq_true rfl) rfl (fun v S2 p1 => ?_)
  obtain ⟨⟨I6, F7⟩, z5, rfl, f3, ef4⟩ := p1
  have F8 : kw_F [8, 28, 9] σ S2 := kw_F.tr hF0 F7 (by decide)
  replace hF := kf_be ef4 hF
  have r_z5 := kw_rng z5
  show kw_AW l 5 kw_E0 KX mX7_dry (p_X7_dry_0 σ a) 5 [(0, .ref 0), (1, .int a)] [.int z5] S2
  refine kw_istore_n (pc := 5) (i := 3) (n := 2) (lv' := [(2, .int z5), (0, .ref 0), (1, .int a)]) rfl rfl (by decide) rfl ?_
  refine kw_iload_n (pc := 6) (i := 4) (k := 0) (n := 2) rfl rfl rfl ?_
  refine kw_if_eq (pc := 7) (i := 5) (tgt := 12) rfl rfl (fun c9 => ?_) (fun c9 => ?_)
  · replace hF := kf_p c9 hF
    refine kw_aload_n (pc := 12) (i := 8) (k := 1) (n := 0) rfl rfl rfl ?_
    refine kw_get (pc := 13) (i := 9) (v := .ref 4) rfl rfl rfl lkX7_31 (fun _ => rfl) ?_
    refine kw_get (pc := 16) (i := 10) (v := .ref 19) rfl rfl rfl lkX7_194 (fun _ => rfl) ?_
    refine kw_iconst (pc := 19) (i := 11) (v := 0) rfl rfl ?_
    refine kw_aload_n (pc := 20) (i := 12) (k := 1) (n := 0) rfl rfl rfl ?_
    refine kw_get (pc := 21) (i := 13) (v := .ref 9) rfl rfl rfl lkX7_59 (fun _ => rfl) ?_
    refine kw_iconst (pc := 24) (i := 14) (v := 0) rfl rfl ?_
    refine kw_bipush (pc := 25) (i := 15) (v := 6) rfl rfl ?_
    refine kw_copy (pc := 27) (i := 16) (n := 6) (m_ := 6) rfl laX7_256 rfl rfl (by omega) (by omega) (by omega) (by omega) (by omega) (by omega) (Nat.le_of_ble_eq_true rfl) ?_
    have I10 : kw_I bX (kw_ua S2 9 (va_cpy (S2.1 19) (S2.1 9) ((0 : Int32).toNatClampNeg) ((0 : Int32).toNatClampNeg) ((6 : Int32).toNatClampNeg))) := kw_I_ua I6 (fun j => ⟨(kw_rng _).1, Int.le_of_lt_add_one (kw_rng _).2⟩)
    have F11 : kw_F [8, 28, 9] σ (kw_ua S2 9 (va_cpy (S2.1 19) (S2.1 9) ((0 : Int32).toNatClampNeg) ((0 : Int32).toNatClampNeg) ((6 : Int32).toNatClampNeg))) := kw_F_ua F8 (by decide)
    generalize hS12 : (kw_ua S2 9 (va_cpy (S2.1 19) (S2.1 9) ((0 : Int32).toNatClampNeg) ((0 : Int32).toNatClampNeg) ((6 : Int32).toNatClampNeg))) = S12 at I10 F11 ⊢
    replace hF := kf_le hS12.symm hF
    refine kw_iconst (pc := 30) (i := 17) (v := 0) rfl rfl ?_
    refine kw_istore_n (pc := 31) (i := 18) (n := 3) (lv' := [(3, .int 0), (2, .int z5), (0, .ref 0), (1, .int a)]) rfl rfl (by decide) rfl ?_
    have L17 : ∀ (n21 : Nat) (x13 : Int32) (S14 : kw_S), kw_I bX S14 → kw_F [8, 28, 9] σ S14 → 0 ≤ x13.toInt → l_X7_dry_0_32 a z5 n21 x13 S14 = (f_X7_dry_0 σ a) → (41 - x13.toInt).toNat < n21 → kw_AW l 5 kw_E0 KX mX7_dry (p_X7_dry_0 σ a) 32 [(3, .int x13), (2, .int z5), (0, .ref 0), (1, .int a)] [] S14 := by
      intro n21
      induction n21 with
      | zero => intro x13 S14 I15 F16 v19 hF m20; exact absurd m20 (Nat.not_lt_zero _)
      | succ n21 ih18 =>
        intro x13 S14 I15 F16 v19 hF m20
        replace hF := kf_st (l_X7_dry_0_32_s _ _ _ _ _) hF
        have r_x13 := kw_rng x13
        refine kw_iload_n (pc := 32) (i := 19) (k := 0) (n := 3) rfl rfl rfl ?_
        refine kw_aload_n (pc := 33) (i := 20) (k := 2) (n := 0) rfl rfl rfl ?_
        refine kw_get (pc := 34) (i := 21) (v := .ref 1) rfl rfl rfl lkX7_14 (fun _ => rfl) ?_
        refine kw_iload_n (pc := 37) (i := 22) (k := 3) (n := 1) rfl rfl rfl ?_
        refine kw_callV (pc := 38) (i := 23) (Y := mX3_sizeOf) (a := 1) (As := [.int a]) (st := [.int x13]) kw_hE rfl rfl lvX7_110 arX3_sizeOf (c_X3_sizeOf_1 l S14 I15 a ) (by decide) (Nat.le_of_ble_eq_true rfl) rfl (fun v S23 p22 => ?_)
        obtain ⟨e30, z29, rfl, f24, f25, f26, f27, ef28⟩ := p22
        rw [e30]
        replace hF := kf_le ef28 hF
        have r_z29 := kw_rng z29
        show kw_AW l 5 kw_E0 KX mX7_dry (p_X7_dry_0 σ a) 41 [(3, .int x13), (2, .int z5), (0, .ref 0), (1, .int a)] [.int z29, .int x13] S14
        refine kw_icmp_ge (pc := 41) (i := 24) (tgt := 74) rfl rfl (fun c31 => ?_) (fun c31 => ?_)
        · replace hF := kf_nl c31 hF
          refine kw_aload_n (pc := 74) (i := 39) (k := 2) (n := 0) rfl rfl rfl ?_
          refine kw_aload_n (pc := 75) (i := 40) (k := 2) (n := 0) rfl rfl rfl ?_
          refine kw_get (pc := 76) (i := 41) (v := .ref 9) rfl rfl rfl lkX7_59 (fun _ => rfl) ?_
          refine kw_callV (pc := 79) (i := 42) (Y := mX7_drySet) (a := 0) (As := [.ref 9]) (st := []) kw_hE rfl rfl lvX7_246 arX7_drySet (c_X7_drySet_0_9 l S14 I15  ) (by decide) (Nat.le_of_ble_eq_true rfl) rfl (fun v S33 p32 => ?_)
          obtain ⟨e36, z35, rfl, ef34⟩ := p32
          rw [e36]
          replace hF := kf_le ef34 hF
          have r_z35 := kw_rng z35
          show kw_AW l 5 kw_E0 KX mX7_dry (p_X7_dry_0 σ a) 82 [(3, .int x13), (2, .int z5), (0, .ref 0), (1, .int a)] [.int z35] S14
          exact kw_ireturn (pc := 82) (i := 43) (ty := .int) rfl rfl rfl ⟨⟨I15, F16⟩, _, rfl, hF⟩
        · replace hF := kf_p c31 hF
          refine kw_aload_n (pc := 44) (i := 25) (k := 2) (n := 0) rfl rfl rfl ?_
          refine kw_get (pc := 45) (i := 26) (v := .ref 9) rfl rfl rfl lkX7_59 (fun _ => rfl) ?_
          refine kw_aload_n (pc := 48) (i := 27) (k := 2) (n := 0) rfl rfl rfl ?_
          refine kw_get (pc := 49) (i := 28) (v := .ref 1) rfl rfl rfl lkX7_14 (fun _ => rfl) ?_
          refine kw_iload_n (pc := 52) (i := 29) (k := 3) (n := 1) rfl rfl rfl ?_
          refine kw_iload_n (pc := 53) (i := 30) (k := 0) (n := 3) rfl rfl rfl ?_
          refine kw_callV (pc := 54) (i := 31) (Y := mX3_valueAt) (a := 1) (As := [.int a, .int x13]) (st := [.ref 9]) kw_hE rfl rfl lvX7_85 arX3_valueAt (c_X3_valueAt_1 l S14 I15 a x13 ) (by decide) (Nat.le_of_ble_eq_true rfl) rfl (fun v S38 p37 => ?_)
          obtain ⟨e41, z40, rfl, ef39⟩ := p37
          rw [e41]
          replace hF := kf_le ef39 hF
          have r_z40 := kw_rng z40
          show kw_AW l 5 kw_E0 KX mX7_dry (p_X7_dry_0 σ a) 57 [(3, .int x13), (2, .int z5), (0, .ref 0), (1, .int a)] [.int z40, .ref 9] S14
          refine kw_aload_n (pc := 57) (i := 32) (k := 2) (n := 0) rfl rfl rfl ?_
          refine kw_get (pc := 58) (i := 33) (v := .ref 4) rfl rfl rfl lkX7_31 (fun _ => rfl) ?_
          refine kw_iload_n (pc := 61) (i := 34) (k := 0) (n := 3) rfl rfl rfl ?_
          refine kw_callV (pc := 62) (i := 35) (Y := mX5_windAhead) (a := 4) (As := [.int x13]) (st := [.int z40, .ref 9]) kw_hE rfl rfl lvX7_253 arX5_windAhead (c_X5_windAhead_4 l S14 I15 x13 ) (by decide) (Nat.le_of_ble_eq_true rfl) rfl (fun v S43 p42 => ?_)
          obtain ⟨e46, z45, rfl, ef44⟩ := p42
          rw [e46]
          replace hF := kf_le ef44 hF
          have r_z45 := kw_rng z45
          show kw_AW l 5 kw_E0 KX mX7_dry (p_X7_dry_0 σ a) 65 [(3, .int x13), (2, .int z5), (0, .ref 0), (1, .int a)] [.int z45, .int z40, .ref 9] S14
          refine kw_callS (pc := 65) (i := 36) (Y := mX7_weather) (As := [.ref 9, .int z40, .int z45]) (st := []) kw_hE rfl lsX7_262 arX7_weather (c_X7_weather_9 l S14 I15 z40 z45 ) (by decide) (Nat.le_of_ble_eq_true rfl) rfl (fun v S48 p47 => ?_)
          obtain ⟨⟨I50, F51⟩, rfl, ef49⟩ := p47
          have F52 : kw_F [8, 28, 9] σ S48 := kw_F.tr F16 F51 (by decide)
          replace hF := kf_le ef49 hF
          show kw_AW l 5 kw_E0 KX mX7_dry (p_X7_dry_0 σ a) 68 [(3, .int x13), (2, .int z5), (0, .ref 0), (1, .int a)] [] S48
          refine kw_iinc' (pc := 68) (i := 37) (k := 0) (fun z => [(3, .int z), (2, .int z5), (0, .ref 0), (1, .int a)]) rfl rfl (by decide) rfl (fun _ => rfl) (fun z53 e_z53 t_z53 => ?_)
          replace hF := kf_le e_z53 hF
          refine kw_goto (pc := 71) (i := 38) (tgt := 32) rfl rfl ?_
          refine kw_sub (lv' := [(3, .int z53), (2, .int z5), (0, .ref 0), (1, .int a)]) [0, 1, 2, 3] rfl ?_
          exact ih18 z53 S48 I50 F52 (by omega) hF (by omega)
    exact L17 _ 0 S12 I10 F11 (by omega) hF (Nat.lt_succ_self _)
  · replace hF := kf_n c9 hF
    refine kw_iload_n (pc := 10) (i := 6) (k := 0) (n := 2) rfl rfl rfl ?_
    exact kw_ireturn (pc := 11) (i := 7) (ty := .int) rfl rfl rfl ⟨⟨I6, F8⟩, _, rfl, hF⟩
noncomputable def l_X7_far_0_78 (a1 : Int32) (a2 : Int32) (a3 : Int32) : Nat → Int32 → kw_S → Int32 × kw_S
  | 0, _, S => (0, S)
  | n + 1, x4, S => if x4.toInt < a1.toInt then (kf_l (S.1 24 x4.toNatClampNeg) fun z8 => kf_l (f_X3_change_1 S a3 x4 z8) fun S9 => kf_l (x4 + Int32.ofInt 1) fun z10 => l_X7_far_0_78 a1 a2 a3 n z10 S9) else (kf_b (f_X4_answer_8 S (S.1 7 1)) fun z6 S7 => (z6, S7))
theorem l_X7_far_0_78_s (a1 : Int32) (a2 : Int32) (a3 : Int32) (n : Nat) (x4 : Int32) (S : kw_S) : l_X7_far_0_78 a1 a2 a3 (n + 1) x4 S = if x4.toInt < a1.toInt then (kf_l (S.1 24 x4.toNatClampNeg) fun z8 => kf_l (f_X3_change_1 S a3 x4 z8) fun S9 => kf_l (x4 + Int32.ofInt 1) fun z10 => l_X7_far_0_78 a1 a2 a3 n z10 S9) else (kf_b (f_X4_answer_8 S (S.1 7 1)) fun z6 S7 => (z6, S7)) := rfl
noncomputable def f_X7_far_0 (σ : kw_S) (n : Int32) (t : Int32) (a : Int32) : Int32 × kw_S := if n.toInt < 0 then ((((-1) : Int32), σ)) else (if (3 : Int32).toInt < n.toInt then ((((-1) : Int32), σ)) else (if t.toInt < 0 then ((((-1) : Int32), σ)) else (if (999 : Int32).toInt < t.toInt then ((((-1) : Int32), σ)) else (kf_l (f_X3_has_1 σ a) fun z1 => if z1.toInt = 0 then ((((-1) : Int32), σ)) else (kf_l (f_X5_isEmpty_4 σ) fun z2 => if z2.toInt = 0 then (kf_b (f_X6_find_7_4 σ n t) fun z3 S4 => if z3.toInt = 0 then ((((-9) : Int32), S4)) else (kf_l (f_X3_make_1 S4 a n (0 : Int32)) fun S5 => l_X7_far_0_78 n t a ((4 - (0 : Int32).toInt).toNat + 1) (0 : Int32) S5)) else ((((-4) : Int32), σ)))))))
theorem f_X7_far_0_u (σ : kw_S) (n : Int32) (t : Int32) (a : Int32) : f_X7_far_0 σ n t a = if n.toInt < 0 then ((((-1) : Int32), σ)) else (if (3 : Int32).toInt < n.toInt then ((((-1) : Int32), σ)) else (if t.toInt < 0 then ((((-1) : Int32), σ)) else (if (999 : Int32).toInt < t.toInt then ((((-1) : Int32), σ)) else (kf_l (f_X3_has_1 σ a) fun z1 => if z1.toInt = 0 then ((((-1) : Int32), σ)) else (kf_l (f_X5_isEmpty_4 σ) fun z2 => if z2.toInt = 0 then (kf_b (f_X6_find_7_4 σ n t) fun z3 S4 => if z3.toInt = 0 then ((((-9) : Int32), S4)) else (kf_l (f_X3_make_1 S4 a n (0 : Int32)) fun S5 => l_X7_far_0_78 n t a ((4 - (0 : Int32).toInt).toNat + 1) (0 : Int32) S5)) else ((((-4) : Int32), σ))))))) := rfl
abbrev p_X7_far_0 (σ : kw_S) (n : Int32) (t : Int32) (a : Int32) : Option Value → kw_S → Prop := fun vv σ' => (kw_I bX σ' ∧ kw_F [8, 28, 13, 29, 30, 31, 32, 33, 34, 7, 24, 26, 27, 52, 53, 54, 55, 56, 57, 58, 59, 60] σ σ') ∧ ∃ r : Int32, vv = some (.int r) ∧ (r, σ') = f_X7_far_0 σ n t a
set_option maxRecDepth 100000 in
set_option maxHeartbeats 4000000 in
theorem c_X7_far_0 (l : Launch) (σ : kw_S) (hI : kw_I bX σ) (n : Int32) (t : Int32) (a : Int32) : kw_Met l 8 KX mX7_far [.ref 0, .int n, .int t, .int a] σ (p_X7_far_0 σ n t a) := by
  have r_n := kw_rng n
  have r_t := kw_rng t
  have r_a := kw_rng a
  have hF0 : kw_F [8, 28, 13, 29, 30, 31, 32, 33, 34, 7, 24, 26, 27, 52, 53, 54, 55, 56, 57, 58, 59, 60] σ σ := kw_F.rf
  have hF := (f_X7_far_0_u σ n t a).symm
  have q_m9 : (-9 : Int32).toInt = -9 := rfl
  have q_m4 : (-4 : Int32).toInt = -4 := rfl
  have q_m1 : (-1 : Int32).toInt = -1 := rfl
  have q_0 : (0 : Int32).toInt = 0 := rfl
  have q_3 : (3 : Int32).toInt = 3 := rfl
  have q_999 : (999 : Int32).toInt = 999 := rfl
  refine kw_Met.of (by decide) rfl tX7_far (Nat.le_of_ble_eq_true rfl) ?_
  show kw_AW l 8 kw_E0 KX mX7_far (p_X7_far_0 σ n t a) 0 [(0, .ref 0), (1, .int n), (2, .int t), (3, .int a)] [] σ
  refine kw_iload_n (pc := 0) (i := 0) (k := 1) (n := 1) rfl rfl rfl ?_
  refine kw_if_lt (pc := 1) (i := 1) (tgt := 31) rfl rfl (fun c1 => ?_) (fun c1 => ?_)
  · replace hF := kf_p c1 hF
    refine kw_iconst (pc := 31) (i := 15) (v := (-1)) rfl rfl ?_
    exact kw_ireturn (pc := 32) (i := 16) (ty := .int) rfl rfl rfl ⟨⟨hI, hF0⟩, _, rfl, hF⟩
  · replace hF := kf_nl c1 hF
    refine kw_iload_n (pc := 4) (i := 2) (k := 1) (n := 1) rfl rfl rfl ?_
    refine kw_iconst (pc := 5) (i := 3) (v := 3) rfl rfl ?_
    refine kw_icmp_gt (pc := 6) (i := 4) (tgt := 31) rfl rfl (fun c2 => ?_) (fun c2 => ?_)
    · replace hF := kf_p c2 hF
      refine kw_iconst (pc := 31) (i := 15) (v := (-1)) rfl rfl ?_
      exact kw_ireturn (pc := 32) (i := 16) (ty := .int) rfl rfl rfl ⟨⟨hI, hF0⟩, _, rfl, hF⟩
    · replace hF := kf_nl c2 hF
      refine kw_iload_n (pc := 9) (i := 5) (k := 2) (n := 2) rfl rfl rfl ?_
      refine kw_if_lt (pc := 10) (i := 6) (tgt := 31) rfl rfl (fun c3 => ?_) (fun c3 => ?_)
      · replace hF := kf_p c3 hF
        refine kw_iconst (pc := 31) (i := 15) (v := (-1)) rfl rfl ?_
        exact kw_ireturn (pc := 32) (i := 16) (ty := .int) rfl rfl rfl ⟨⟨hI, hF0⟩, _, rfl, hF⟩
      · replace hF := kf_nl c3 hF
        refine kw_iload_n (pc := 13) (i := 7) (k := 2) (n := 2) rfl rfl rfl ?_
        refine kw_sipush (pc := 14) (i := 8) (v := 999) rfl rfl ?_
        refine kw_icmp_gt (pc := 17) (i := 9) (tgt := 31) rfl rfl (fun c4 => ?_) (fun c4 => ?_)
        · replace hF := kf_p c4 hF
          refine kw_iconst (pc := 31) (i := 15) (v := (-1)) rfl rfl ?_
          exact kw_ireturn (pc := 32) (i := 16) (ty := .int) rfl rfl rfl ⟨⟨hI, hF0⟩, _, rfl, hF⟩
        · replace hF := kf_nl c4 hF
          refine kw_aload_n (pc := 20) (i := 10) (k := 0) (n := 0) rfl rfl rfl ?_
          refine kw_get (pc := 21) (i := 11) (v := .ref 1) rfl rfl rfl lkX7_14 (fun _ => rfl) ?_
          refine kw_iload_n (pc := 24) (i := 12) (k := 3) (n := 3) rfl rfl rfl ?_
          refine kw_callV (pc := 25) (i := 13) (Y := mX3_has) (a := 1) (As := [.int a]) (st := []) kw_hE rfl rfl lvX7_73 arX3_has (c_X3_has_1 l σ hI a ) (by decide) (Nat.le_of_ble_eq_true rfl) rfl (fun v S6 p5 => ?_)
          obtain ⟨e12, z11, rfl, f7, f8, f9, ef10⟩ := p5
          rw [e12]
          replace hF := kf_le ef10 hF
          have r_z11 := kw_rng z11
          show kw_AW l 8 kw_E0 KX mX7_far (p_X7_far_0 σ n t a) 28 [(0, .ref 0), (1, .int n), (2, .int t), (3, .int a)] [.int z11] σ
          refine kw_if_ne (pc := 28) (i := 14) (tgt := 33) rfl rfl (fun c13 => ?_) (fun c13 => ?_)
          · replace hF := kf_n c13 hF
            refine kw_aload_n (pc := 33) (i := 17) (k := 0) (n := 0) rfl rfl rfl ?_
            refine kw_get (pc := 34) (i := 18) (v := .ref 4) rfl rfl rfl lkX7_31 (fun _ => rfl) ?_
            refine kw_callV (pc := 37) (i := 19) (Y := mX5_isEmpty) (a := 4) (As := []) (st := []) kw_hE rfl rfl lvX7_178 arX5_isEmpty (c_X5_isEmpty_4 l σ hI  ) (by decide) (Nat.le_of_ble_eq_true rfl) rfl (fun v S15 p14 => ?_)
            obtain ⟨e21, z20, rfl, f16, f17, f18, ef19⟩ := p14
            rw [e21]
            replace hF := kf_le ef19 hF
            have r_z20 := kw_rng z20
            show kw_AW l 8 kw_E0 KX mX7_far (p_X7_far_0 σ n t a) 40 [(0, .ref 0), (1, .int n), (2, .int t), (3, .int a)] [.int z20] σ
            refine kw_if_eq (pc := 40) (i := 20) (tgt := 46) rfl rfl (fun c22 => ?_) (fun c22 => ?_)
            · replace hF := kf_p c22 hF
              refine kw_aload_n (pc := 46) (i := 23) (k := 0) (n := 0) rfl rfl rfl ?_
              refine kw_get (pc := 47) (i := 24) (v := .ref 7) rfl rfl rfl lkX7_48 (fun _ => rfl) ?_
              refine kw_aload_n (pc := 50) (i := 25) (k := 0) (n := 0) rfl rfl rfl ?_
              refine kw_get (pc := 51) (i := 26) (v := .ref 4) rfl rfl rfl lkX7_31 (fun _ => rfl) ?_
              refine kw_iload_n (pc := 54) (i := 27) (k := 1) (n := 1) rfl rfl rfl ?_
              refine kw_iload_n (pc := 55) (i := 28) (k := 2) (n := 2) rfl rfl rfl ?_
              refine kw_callV (pc := 56) (i := 29) (Y := mX6_find) (a := 7) (As := [.ref 4, .int n, .int t]) (st := []) kw_hE rfl rfl lvX7_266 arX6_find (c_X6_find_7_4 l σ hI n t (by first | omega | decide)) (by decide) (Nat.le_of_ble_eq_true rfl) rfl (fun v S24 p23 => ?_)
              obtain ⟨⟨I28, F29⟩, z27, rfl, f25, ef26⟩ := p23
              have F30 : kw_F [8, 28, 13, 29, 30, 31, 32, 33, 34, 7, 24, 26, 27, 52, 53, 54, 55, 56, 57, 58, 59, 60] σ S24 := kw_F.tr hF0 F29 (by decide)
              replace hF := kf_be ef26 hF
              have r_z27 := kw_rng z27
              show kw_AW l 8 kw_E0 KX mX7_far (p_X7_far_0 σ n t a) 59 [(0, .ref 0), (1, .int n), (2, .int t), (3, .int a)] [.int z27] S24
              refine kw_if_ne (pc := 59) (i := 30) (tgt := 65) rfl rfl (fun c31 => ?_) (fun c31 => ?_)
              · replace hF := kf_n c31 hF
                refine kw_aload_n (pc := 65) (i := 33) (k := 0) (n := 0) rfl rfl rfl ?_
                refine kw_get (pc := 66) (i := 34) (v := .ref 1) rfl rfl rfl lkX7_14 (fun _ => rfl) ?_
                refine kw_iload_n (pc := 69) (i := 35) (k := 3) (n := 3) rfl rfl rfl ?_
                refine kw_iload_n (pc := 70) (i := 36) (k := 1) (n := 1) rfl rfl rfl ?_
                refine kw_iconst (pc := 71) (i := 37) (v := 0) rfl rfl ?_
                refine kw_callV (pc := 72) (i := 38) (Y := mX3_make) (a := 1) (As := [.int a, .int n, .int 0]) (st := []) kw_hE rfl rfl lvX7_210 arX3_make (c_X3_make_1 l S24 I28 a n 0 ) (by decide) (Nat.le_of_ble_eq_true rfl) rfl (fun v S33 p32 => ?_)
                obtain ⟨⟨I35, F36⟩, rfl, ef34⟩ := p32
                have F37 : kw_F [8, 28, 13, 29, 30, 31, 32, 33, 34, 7, 24, 26, 27, 52, 53, 54, 55, 56, 57, 58, 59, 60] σ S33 := kw_F.tr F30 F36 (by decide)
                replace hF := kf_le ef34 hF
                show kw_AW l 8 kw_E0 KX mX7_far (p_X7_far_0 σ n t a) 75 [(0, .ref 0), (1, .int n), (2, .int t), (3, .int a)] [] S33
                refine kw_iconst (pc := 75) (i := 39) (v := 0) rfl rfl ?_
                refine kw_istore (pc := 76) (i := 40) (n := 4) (lv' := [(4, .int 0), (0, .ref 0), (1, .int n), (2, .int t), (3, .int a)]) rfl (by decide) rfl ?_
                have L42 : ∀ (n46 : Nat) (x38 : Int32) (S39 : kw_S), kw_I bX S39 → kw_F [8, 28, 13, 29, 30, 31, 32, 33, 34, 7, 24, 26, 27, 52, 53, 54, 55, 56, 57, 58, 59, 60] σ S39 → 0 ≤ x38.toInt → l_X7_far_0_78 n t a n46 x38 S39 = (f_X7_far_0 σ n t a) → (4 - x38.toInt).toNat < n46 → kw_AW l 8 kw_E0 KX mX7_far (p_X7_far_0 σ n t a) 78 [(4, .int x38), (0, .ref 0), (1, .int n), (2, .int t), (3, .int a)] [] S39 := by
                  intro n46
                  induction n46 with
                  | zero => intro x38 S39 I40 F41 v44 hF m45; exact absurd m45 (Nat.not_lt_zero _)
                  | succ n46 ih43 =>
                    intro x38 S39 I40 F41 v44 hF m45
                    replace hF := kf_st (l_X7_far_0_78_s _ _ _ _ _ _) hF
                    have r_x38 := kw_rng x38
                    refine kw_iload (pc := 78) (i := 41) (k := 0) (n := 4) rfl rfl ?_
                    refine kw_iload_n (pc := 80) (i := 42) (k := 2) (n := 1) rfl rfl rfl ?_
                    refine kw_icmp_ge (pc := 81) (i := 43) (tgt := 110) rfl rfl (fun c47 => ?_) (fun c47 => ?_)
                    · replace hF := kf_nl c47 hF
                      refine kw_aload_n (pc := 110) (i := 56) (k := 1) (n := 0) rfl rfl rfl ?_
                      refine kw_get (pc := 111) (i := 57) (v := .ref 8) rfl rfl rfl lkX7_55 (fun _ => rfl) ?_
                      refine kw_aload_n (pc := 114) (i := 58) (k := 1) (n := 0) rfl rfl rfl ?_
                      refine kw_get (pc := 115) (i := 59) (v := .ref 7) rfl rfl rfl lkX7_48 (fun _ => rfl) ?_
                      refine kw_get (pc := 118) (i := 60) (v := .int (S39.1 7 1)) rfl rfl rfl lkX7_273 (fun _ => rfl) ?_
                      have b48 := kw_rng (S39.1 7 1)
                      refine kw_callV (pc := 121) (i := 61) (Y := mX4_answer) (a := 8) (As := [.int (S39.1 7 1)]) (st := []) kw_hE rfl rfl lvX7_92 arX4_answer (c_X4_answer_8 l S39 I40 (S39.1 7 1) ) (by decide) (Nat.le_of_ble_eq_true rfl) rfl (fun v S50 p49 => ?_)
                      obtain ⟨⟨I54, F55⟩, z53, rfl, f51, ef52⟩ := p49
                      have F56 : kw_F [8, 28, 13, 29, 30, 31, 32, 33, 34, 7, 24, 26, 27, 52, 53, 54, 55, 56, 57, 58, 59, 60] σ S50 := kw_F.tr F41 F55 (by decide)
                      replace hF := kf_be ef52 hF
                      have r_z53 := kw_rng z53
                      show kw_AW l 8 kw_E0 KX mX7_far (p_X7_far_0 σ n t a) 124 [(4, .int x38), (0, .ref 0), (1, .int n), (2, .int t), (3, .int a)] [.int z53] S50
                      exact kw_ireturn (pc := 124) (i := 62) (ty := .int) rfl rfl rfl ⟨⟨I54, F56⟩, _, rfl, hF⟩
                    · replace hF := kf_p c47 hF
                      refine kw_aload_n (pc := 84) (i := 44) (k := 1) (n := 0) rfl rfl rfl ?_
                      refine kw_get (pc := 85) (i := 45) (v := .ref 1) rfl rfl rfl lkX7_14 (fun _ => rfl) ?_
                      refine kw_iload_n (pc := 88) (i := 46) (k := 4) (n := 3) rfl rfl rfl ?_
                      refine kw_iload (pc := 89) (i := 47) (k := 0) (n := 4) rfl rfl ?_
                      refine kw_aload_n (pc := 91) (i := 48) (k := 1) (n := 0) rfl rfl rfl ?_
                      refine kw_get (pc := 92) (i := 49) (v := .ref 7) rfl rfl rfl lkX7_48 (fun _ => rfl) ?_
                      refine kw_get (pc := 95) (i := 50) (v := .ref 24) rfl rfl rfl lkX7_270 (fun _ => rfl) ?_
                      refine kw_iload (pc := 98) (i := 51) (k := 0) (n := 4) rfl rfl ?_
                      refine kw_iald (pc := 100) (i := 52) (n := 3) rfl rfl (by omega) (by omega) (fun z57 e_z57 => ?_)
                      replace hF := kf_le e_z57 hF
                      have t_z57 := congrArg Int32.toInt e_z57
                      have r_z57 := kw_rng z57
                      refine kw_callV (pc := 101) (i := 53) (Y := mX3_change) (a := 1) (As := [.int a, .int x38, .int z57]) (st := []) kw_hE rfl rfl lvX7_88 arX3_change (c_X3_change_1 l S39 I40 a x38 z57 ) (by decide) (Nat.le_of_ble_eq_true rfl) rfl (fun v S59 p58 => ?_)
                      obtain ⟨⟨I61, F62⟩, rfl, ef60⟩ := p58
                      have F63 : kw_F [8, 28, 13, 29, 30, 31, 32, 33, 34, 7, 24, 26, 27, 52, 53, 54, 55, 56, 57, 58, 59, 60] σ S59 := kw_F.tr F41 F62 (by decide)
                      replace hF := kf_le ef60 hF
                      show kw_AW l 8 kw_E0 KX mX7_far (p_X7_far_0 σ n t a) 104 [(4, .int x38), (0, .ref 0), (1, .int n), (2, .int t), (3, .int a)] [] S59
                      refine kw_iinc' (pc := 104) (i := 54) (k := 0) (fun z => [(4, .int z), (0, .ref 0), (1, .int n), (2, .int t), (3, .int a)]) rfl rfl (by decide) rfl (fun _ => rfl) (fun z64 e_z64 t_z64 => ?_)
                      replace hF := kf_le e_z64 hF
                      refine kw_goto (pc := 107) (i := 55) (tgt := 78) rfl rfl ?_
                      refine kw_sub (lv' := [(4, .int z64), (0, .ref 0), (1, .int n), (2, .int t), (3, .int a)]) [0, 1, 2, 3, 4] rfl ?_
                      exact ih43 z64 S59 I61 F63 (by omega) hF (by omega)
                exact L42 _ 0 S33 I35 F37 (by omega) hF (Nat.lt_succ_self _)
              · replace hF := kf_p c31 hF
                refine kw_bipush (pc := 62) (i := 31) (v := (-9)) rfl rfl ?_
                exact kw_ireturn (pc := 64) (i := 32) (ty := .int) rfl rfl rfl ⟨⟨I28, F30⟩, _, rfl, hF⟩
            · replace hF := kf_n c22 hF
              refine kw_bipush (pc := 43) (i := 21) (v := (-4)) rfl rfl ?_
              exact kw_ireturn (pc := 45) (i := 22) (ty := .int) rfl rfl rfl ⟨⟨hI, hF0⟩, _, rfl, hF⟩
          · replace hF := kf_p c13 hF
            refine kw_iconst (pc := 31) (i := 15) (v := (-1)) rfl rfl ?_
            exact kw_ireturn (pc := 32) (i := 16) (ty := .int) rfl rfl rfl ⟨⟨hI, hF0⟩, _, rfl, hF⟩
noncomputable def l_X7_soon_0_51 (a1 : Int32) (a2 : Int32) (S : kw_S) : Nat → Int32 → Int32 → Int32
  | 0, _, _ => 0
  | n + 1, x3, x4 => if (3 : Int32).toInt < x4.toInt then (((-9) : Int32)) else (if x3.toInt < a1.toInt then (kf_l (f_X5_windAhead_4 S x4) fun z3 => kf_l (f_X1_mostMilesOf_17 S a2 z3) fun z4 => kf_l (x3 + z4) fun z5 => kf_l (x4 + Int32.ofInt 1) fun z6 => l_X7_soon_0_51 a1 a2 S n z5 z6) else (x4))
theorem l_X7_soon_0_51_s (a1 : Int32) (a2 : Int32) (S : kw_S) (n : Nat) (x3 : Int32) (x4 : Int32) : l_X7_soon_0_51 a1 a2 S (n + 1) x3 x4 = if (3 : Int32).toInt < x4.toInt then (((-9) : Int32)) else (if x3.toInt < a1.toInt then (kf_l (f_X5_windAhead_4 S x4) fun z3 => kf_l (f_X1_mostMilesOf_17 S a2 z3) fun z4 => kf_l (x3 + z4) fun z5 => kf_l (x4 + Int32.ofInt 1) fun z6 => l_X7_soon_0_51 a1 a2 S n z5 z6) else (x4)) := rfl
noncomputable def f_X7_soon_0 (σ : kw_S) (m : Int32) : Int32 := if m.toInt < ((-999) : Int32).toInt then (((-1) : Int32)) else (if (999 : Int32).toInt < m.toInt then (((-1) : Int32)) else (kf_l (f_X5_isEmpty_4 σ) fun z1 => if z1.toInt = 0 then (kf_l (f_X1_allLines_17 σ) fun z2 => l_X7_soon_0_51 m z2 σ ((5 - (0 : Int32).toInt).toNat + 1) (σ.1 4 6) (0 : Int32)) else (((-4) : Int32))))
theorem f_X7_soon_0_u (σ : kw_S) (m : Int32) : f_X7_soon_0 σ m = if m.toInt < ((-999) : Int32).toInt then (((-1) : Int32)) else (if (999 : Int32).toInt < m.toInt then (((-1) : Int32)) else (kf_l (f_X5_isEmpty_4 σ) fun z1 => if z1.toInt = 0 then (kf_l (f_X1_allLines_17 σ) fun z2 => l_X7_soon_0_51 m z2 σ ((5 - (0 : Int32).toInt).toNat + 1) (σ.1 4 6) (0 : Int32)) else (((-4) : Int32)))) := rfl
abbrev p_X7_soon_0 (σ : kw_S) (m : Int32) : Option Value → kw_S → Prop := fun vv σ' => σ' = σ ∧ ∃ r : Int32, vv = some (.int r) ∧ r = f_X7_soon_0 σ m
set_option maxRecDepth 100000 in
set_option maxHeartbeats 4000000 in
theorem c_X7_soon_0 (l : Launch) (σ : kw_S) (hI : kw_I bX σ) (m : Int32) : kw_Met l 4 KX mX7_soon [.ref 0, .int m] σ (p_X7_soon_0 σ m) := by
  have r_m := kw_rng m
  have hF := (f_X7_soon_0_u σ m).symm
  have q_m999 : (-999 : Int32).toInt = -999 := rfl
  have q_m9 : (-9 : Int32).toInt = -9 := rfl
  have q_m4 : (-4 : Int32).toInt = -4 := rfl
  have q_m1 : (-1 : Int32).toInt = -1 := rfl
  have q_0 : (0 : Int32).toInt = 0 := rfl
  have q_3 : (3 : Int32).toInt = 3 := rfl
  have q_999 : (999 : Int32).toInt = 999 := rfl
  refine kw_Met.of (by decide) rfl tX7_soon (Nat.le_of_ble_eq_true rfl) ?_
  show kw_AW l 4 kw_E0 KX mX7_soon (p_X7_soon_0 σ m) 0 [(0, .ref 0), (1, .int m)] [] σ
  refine kw_iload_n (pc := 0) (i := 0) (k := 1) (n := 1) rfl rfl rfl ?_
  refine kw_sipush (pc := 1) (i := 1) (v := (-999)) rfl rfl ?_
  refine kw_icmp_lt (pc := 4) (i := 2) (tgt := 14) rfl rfl (fun c1 => ?_) (fun c1 => ?_)
  · replace hF := kf_p c1 hF
    refine kw_iconst (pc := 14) (i := 6) (v := (-1)) rfl rfl ?_
    exact kw_ireturn (pc := 15) (i := 7) (ty := .int) rfl rfl rfl ⟨rfl, _, rfl, hF⟩
  · replace hF := kf_nl c1 hF
    refine kw_iload_n (pc := 7) (i := 3) (k := 1) (n := 1) rfl rfl rfl ?_
    refine kw_sipush (pc := 8) (i := 4) (v := 999) rfl rfl ?_
    refine kw_icmp_le (pc := 11) (i := 5) (tgt := 16) rfl rfl (fun c2 => ?_) (fun c2 => ?_)
    · replace hF := kf_nl c2 hF
      refine kw_aload_n (pc := 16) (i := 8) (k := 0) (n := 0) rfl rfl rfl ?_
      refine kw_get (pc := 17) (i := 9) (v := .ref 4) rfl rfl rfl lkX7_31 (fun _ => rfl) ?_
      refine kw_callV (pc := 20) (i := 10) (Y := mX5_isEmpty) (a := 4) (As := []) (st := []) kw_hE rfl rfl lvX7_178 arX5_isEmpty (c_X5_isEmpty_4 l σ hI  ) (by decide) (Nat.le_of_ble_eq_true rfl) rfl (fun v S4 p3 => ?_)
      obtain ⟨e10, z9, rfl, f5, f6, f7, ef8⟩ := p3
      rw [e10]
      replace hF := kf_le ef8 hF
      have r_z9 := kw_rng z9
      show kw_AW l 4 kw_E0 KX mX7_soon (p_X7_soon_0 σ m) 23 [(0, .ref 0), (1, .int m)] [.int z9] σ
      refine kw_if_eq (pc := 23) (i := 11) (tgt := 29) rfl rfl (fun c11 => ?_) (fun c11 => ?_)
      · replace hF := kf_p c11 hF
        refine kw_aload_n (pc := 29) (i := 14) (k := 0) (n := 0) rfl rfl rfl ?_
        refine kw_get (pc := 30) (i := 15) (v := .ref 4) rfl rfl rfl lkX7_31 (fun _ => rfl) ?_
        refine kw_get (pc := 33) (i := 16) (v := .ref 17) rfl rfl rfl lkX7_117 (fun _ => rfl) ?_
        refine kw_callV (pc := 36) (i := 17) (Y := mX1_allLines) (a := 17) (As := []) (st := []) kw_hE rfl rfl lvX7_243 arX1_allLines (c_X1_allLines_17 l σ hI  ) (by decide) (Nat.le_of_ble_eq_true rfl) rfl (fun v S13 p12 => ?_)
        obtain ⟨e16, z15, rfl, ef14⟩ := p12
        rw [e16]
        replace hF := kf_le ef14 hF
        have r_z15 := kw_rng z15
        show kw_AW l 4 kw_E0 KX mX7_soon (p_X7_soon_0 σ m) 39 [(0, .ref 0), (1, .int m)] [.int z15] σ
        refine kw_istore_n (pc := 39) (i := 18) (n := 2) (lv' := [(2, .int z15), (0, .ref 0), (1, .int m)]) rfl rfl (by decide) rfl ?_
        refine kw_aload_n (pc := 40) (i := 19) (k := 1) (n := 0) rfl rfl rfl ?_
        refine kw_get (pc := 41) (i := 20) (v := .ref 4) rfl rfl rfl lkX7_31 (fun _ => rfl) ?_
        refine kw_get (pc := 44) (i := 21) (v := .int (σ.1 4 6)) rfl rfl rfl lkX7_204 (fun _ => rfl) ?_
        have b17 := kw_rng (σ.1 4 6)
        refine kw_istore_n (pc := 47) (i := 22) (n := 3) (lv' := [(3, .int (σ.1 4 6)), (2, .int z15), (0, .ref 0), (1, .int m)]) rfl rfl (by decide) rfl ?_
        refine kw_iconst (pc := 48) (i := 23) (v := 0) rfl rfl ?_
        refine kw_istore (pc := 49) (i := 24) (n := 4) (lv' := [(4, .int 0), (3, .int (σ.1 4 6)), (2, .int z15), (0, .ref 0), (1, .int m)]) rfl (by decide) rfl ?_
        have L20 : ∀ (n24 : Nat) (x18 : Int32) (x19 : Int32), 0 ≤ x18.toInt → l_X7_soon_0_51 m z15 σ n24 x19 x18 = (f_X7_soon_0 σ m) → (5 - x18.toInt).toNat < n24 → kw_AW l 4 kw_E0 KX mX7_soon (p_X7_soon_0 σ m) 51 [(4, .int x18), (3, .int x19), (2, .int z15), (0, .ref 0), (1, .int m)] [] σ := by
          intro n24
          induction n24 with
          | zero => intro x18 x19 v22 hF m23; exact absurd m23 (Nat.not_lt_zero _)
          | succ n24 ih21 =>
            intro x18 x19 v22 hF m23
            replace hF := kf_st (l_X7_soon_0_51_s _ _ _ _ _ _) hF
            have r_x18 := kw_rng x18
            have r_x19 := kw_rng x19
            refine kw_iload (pc := 51) (i := 25) (k := 0) (n := 4) rfl rfl ?_
            refine kw_iconst (pc := 53) (i := 26) (v := 3) rfl rfl ?_
            refine kw_icmp_gt (pc := 54) (i := 27) (tgt := 94) rfl rfl (fun c25 => ?_) (fun c25 => ?_)
            · replace hF := kf_p c25 hF
              refine kw_bipush (pc := 94) (i := 47) (v := (-9)) rfl rfl ?_
              exact kw_ireturn (pc := 96) (i := 48) (ty := .int) rfl rfl rfl ⟨rfl, _, rfl, hF⟩
            · replace hF := kf_nl c25 hF
              refine kw_iload_n (pc := 57) (i := 28) (k := 1) (n := 3) rfl rfl rfl ?_
              refine kw_iload_n (pc := 58) (i := 29) (k := 4) (n := 1) rfl rfl rfl ?_
              refine kw_icmp_lt (pc := 59) (i := 30) (tgt := 65) rfl rfl (fun c26 => ?_) (fun c26 => ?_)
              · replace hF := kf_p c26 hF
                refine kw_iload_n (pc := 65) (i := 33) (k := 1) (n := 3) rfl rfl rfl ?_
                refine kw_aload_n (pc := 66) (i := 34) (k := 3) (n := 0) rfl rfl rfl ?_
                refine kw_get (pc := 67) (i := 35) (v := .ref 4) rfl rfl rfl lkX7_31 (fun _ => rfl) ?_
                refine kw_get (pc := 70) (i := 36) (v := .ref 17) rfl rfl rfl lkX7_117 (fun _ => rfl) ?_
                refine kw_iload_n (pc := 73) (i := 37) (k := 2) (n := 2) rfl rfl rfl ?_
                refine kw_aload_n (pc := 74) (i := 38) (k := 3) (n := 0) rfl rfl rfl ?_
                refine kw_get (pc := 75) (i := 39) (v := .ref 4) rfl rfl rfl lkX7_31 (fun _ => rfl) ?_
                refine kw_iload (pc := 78) (i := 40) (k := 0) (n := 4) rfl rfl ?_
                refine kw_callV (pc := 80) (i := 41) (Y := mX5_windAhead) (a := 4) (As := [.int x18]) (st := [.int z15, .ref 17, .int x19]) kw_hE rfl rfl lvX7_253 arX5_windAhead (c_X5_windAhead_4 l σ hI x18 ) (by decide) (Nat.le_of_ble_eq_true rfl) rfl (fun v S28 p27 => ?_)
                obtain ⟨e31, z30, rfl, ef29⟩ := p27
                rw [e31]
                replace hF := kf_le ef29 hF
                have r_z30 := kw_rng z30
                show kw_AW l 4 kw_E0 KX mX7_soon (p_X7_soon_0 σ m) 83 [(4, .int x18), (3, .int x19), (2, .int z15), (0, .ref 0), (1, .int m)] [.int z30, .int z15, .ref 17, .int x19] σ
                refine kw_callV (pc := 83) (i := 42) (Y := mX1_mostMilesOf) (a := 17) (As := [.int z15, .int z30]) (st := [.int x19]) kw_hE rfl rfl lvX7_276 arX1_mostMilesOf (c_X1_mostMilesOf_17 l σ hI z15 z30 ) (by decide) (Nat.le_of_ble_eq_true rfl) rfl (fun v S33 p32 => ?_)
                obtain ⟨e36, z35, rfl, ef34⟩ := p32
                rw [e36]
                replace hF := kf_le ef34 hF
                have r_z35 := kw_rng z35
                show kw_AW l 4 kw_E0 KX mX7_soon (p_X7_soon_0 σ m) 86 [(4, .int x18), (3, .int x19), (2, .int z15), (0, .ref 0), (1, .int m)] [.int z35, .int x19] σ
                refine kw_iadd (pc := 86) (i := 43) rfl (fun z37 e_z37 t_z37 => ?_)
                replace hF := kf_le e_z37 hF
                refine kw_istore_n (pc := 87) (i := 44) (n := 3) (lv' := [(3, .int z37), (4, .int x18), (2, .int z15), (0, .ref 0), (1, .int m)]) rfl rfl (by decide) rfl ?_
                refine kw_iinc' (pc := 88) (i := 45) (k := 1) (fun z => [(4, .int z), (3, .int z37), (2, .int z15), (0, .ref 0), (1, .int m)]) rfl rfl (by decide) rfl (fun _ => rfl) (fun z38 e_z38 t_z38 => ?_)
                replace hF := kf_le e_z38 hF
                refine kw_goto (pc := 91) (i := 46) (tgt := 51) rfl rfl ?_
                refine kw_sub (lv' := [(4, .int z38), (3, .int z37), (2, .int z15), (0, .ref 0), (1, .int m)]) [0, 1, 2, 3, 4] rfl ?_
                exact ih21 z38 z37 (by omega) hF (by omega)
              · replace hF := kf_nl c26 hF
                refine kw_iload (pc := 62) (i := 31) (k := 0) (n := 4) rfl rfl ?_
                exact kw_ireturn (pc := 64) (i := 32) (ty := .int) rfl rfl rfl ⟨rfl, _, rfl, hF⟩
        exact L20 _ 0 (σ.1 4 6) (by omega) hF (Nat.lt_succ_self _)
      · replace hF := kf_n c11 hF
        refine kw_bipush (pc := 26) (i := 12) (v := (-4)) rfl rfl ?_
        exact kw_ireturn (pc := 28) (i := 13) (ty := .int) rfl rfl rfl ⟨rfl, _, rfl, hF⟩
    · replace hF := kf_p c2 hF
      refine kw_iconst (pc := 14) (i := 6) (v := (-1)) rfl rfl ?_
      exact kw_ireturn (pc := 15) (i := 7) (ty := .int) rfl rfl rfl ⟨rfl, _, rfl, hF⟩
noncomputable def l_X7_least_0_44 (a1 : Int32) (a2 : Int32) (a4 : Int32) (S : kw_S) : Nat → Int32 → Int32 → Int32
  | 0, _, _ => 0
  | n + 1, x3, x5 => if x5.toInt < a4.toInt then (kf_l (f_X7_mostMilesBehind_0 S a1 x5) fun z4 => if z4.toInt < a2.toInt then (kf_l (x5 + Int32.ofInt 1) fun z9 => l_X7_least_0_44 a1 a2 a4 S n x3 z9) else (kf_l (f_X1_linenOf_17 S x5) fun z5 => if x3.toInt = ((-9) : Int32).toInt then (kf_l (x5 + Int32.ofInt 1) fun z6 => l_X7_least_0_44 a1 a2 a4 S n z5 z6) else (if z5.toInt < x3.toInt then (kf_l (x5 + Int32.ofInt 1) fun z8 => l_X7_least_0_44 a1 a2 a4 S n z5 z8) else (kf_l (x5 + Int32.ofInt 1) fun z7 => l_X7_least_0_44 a1 a2 a4 S n x3 z7)))) else (x3)
theorem l_X7_least_0_44_s (a1 : Int32) (a2 : Int32) (a4 : Int32) (S : kw_S) (n : Nat) (x3 : Int32) (x5 : Int32) : l_X7_least_0_44 a1 a2 a4 S (n + 1) x3 x5 = if x5.toInt < a4.toInt then (kf_l (f_X7_mostMilesBehind_0 S a1 x5) fun z4 => if z4.toInt < a2.toInt then (kf_l (x5 + Int32.ofInt 1) fun z9 => l_X7_least_0_44 a1 a2 a4 S n x3 z9) else (kf_l (f_X1_linenOf_17 S x5) fun z5 => if x3.toInt = ((-9) : Int32).toInt then (kf_l (x5 + Int32.ofInt 1) fun z6 => l_X7_least_0_44 a1 a2 a4 S n z5 z6) else (if z5.toInt < x3.toInt then (kf_l (x5 + Int32.ofInt 1) fun z8 => l_X7_least_0_44 a1 a2 a4 S n z5 z8) else (kf_l (x5 + Int32.ofInt 1) fun z7 => l_X7_least_0_44 a1 a2 a4 S n x3 z7)))) else (x3) := rfl
noncomputable def f_X7_least_0 (σ : kw_S) (n : Int32) (m : Int32) : Int32 := if n.toInt < 0 then (((-1) : Int32)) else (if (3 : Int32).toInt < n.toInt then (((-1) : Int32)) else (kf_l (f_X5_isEmpty_4 σ) fun z1 => if z1.toInt = 0 then (kf_l (f_X1_allLines_17 σ) fun z2 => kf_l (z2 + (1 : Int32)) fun z3 => l_X7_least_0_44 n m z3 σ ((z3.toInt - (0 : Int32).toInt).toNat + 1) ((-9) : Int32) (0 : Int32)) else (((-4) : Int32))))
theorem f_X7_least_0_u (σ : kw_S) (n : Int32) (m : Int32) : f_X7_least_0 σ n m = if n.toInt < 0 then (((-1) : Int32)) else (if (3 : Int32).toInt < n.toInt then (((-1) : Int32)) else (kf_l (f_X5_isEmpty_4 σ) fun z1 => if z1.toInt = 0 then (kf_l (f_X1_allLines_17 σ) fun z2 => kf_l (z2 + (1 : Int32)) fun z3 => l_X7_least_0_44 n m z3 σ ((z3.toInt - (0 : Int32).toInt).toNat + 1) ((-9) : Int32) (0 : Int32)) else (((-4) : Int32)))) := rfl
abbrev p_X7_least_0 (σ : kw_S) (n : Int32) (m : Int32) : Option Value → kw_S → Prop := fun vv σ' => σ' = σ ∧ ∃ r : Int32, vv = some (.int r) ∧ r = f_X7_least_0 σ n m
set_option maxRecDepth 100000 in
set_option maxHeartbeats 4000000 in
theorem c_X7_least_0 (l : Launch) (σ : kw_S) (hI : kw_I bX σ) (n : Int32) (m : Int32) : kw_Met l 5 KX mX7_least [.ref 0, .int n, .int m] σ (p_X7_least_0 σ n m) := by
  have r_n := kw_rng n
  have r_m := kw_rng m
  have hF := (f_X7_least_0_u σ n m).symm
  have q_m9 : (-9 : Int32).toInt = -9 := rfl
  have q_m4 : (-4 : Int32).toInt = -4 := rfl
  have q_m1 : (-1 : Int32).toInt = -1 := rfl
  have q_0 : (0 : Int32).toInt = 0 := rfl
  have q_1 : (1 : Int32).toInt = 1 := rfl
  have q_3 : (3 : Int32).toInt = 3 := rfl
  refine kw_Met.of (by decide) rfl tX7_least (Nat.le_of_ble_eq_true rfl) ?_
  show kw_AW l 5 kw_E0 KX mX7_least (p_X7_least_0 σ n m) 0 [(0, .ref 0), (1, .int n), (2, .int m)] [] σ
  refine kw_iload_n (pc := 0) (i := 0) (k := 1) (n := 1) rfl rfl rfl ?_
  refine kw_if_lt (pc := 1) (i := 1) (tgt := 9) rfl rfl (fun c1 => ?_) (fun c1 => ?_)
  · replace hF := kf_p c1 hF
    refine kw_iconst (pc := 9) (i := 5) (v := (-1)) rfl rfl ?_
    exact kw_ireturn (pc := 10) (i := 6) (ty := .int) rfl rfl rfl ⟨rfl, _, rfl, hF⟩
  · replace hF := kf_nl c1 hF
    refine kw_iload_n (pc := 4) (i := 2) (k := 1) (n := 1) rfl rfl rfl ?_
    refine kw_iconst (pc := 5) (i := 3) (v := 3) rfl rfl ?_
    refine kw_icmp_le (pc := 6) (i := 4) (tgt := 11) rfl rfl (fun c2 => ?_) (fun c2 => ?_)
    · replace hF := kf_nl c2 hF
      refine kw_aload_n (pc := 11) (i := 7) (k := 0) (n := 0) rfl rfl rfl ?_
      refine kw_get (pc := 12) (i := 8) (v := .ref 4) rfl rfl rfl lkX7_31 (fun _ => rfl) ?_
      refine kw_callV (pc := 15) (i := 9) (Y := mX5_isEmpty) (a := 4) (As := []) (st := []) kw_hE rfl rfl lvX7_178 arX5_isEmpty (c_X5_isEmpty_4 l σ hI  ) (by decide) (Nat.le_of_ble_eq_true rfl) rfl (fun v S4 p3 => ?_)
      obtain ⟨e10, z9, rfl, f5, f6, f7, ef8⟩ := p3
      rw [e10]
      replace hF := kf_le ef8 hF
      have r_z9 := kw_rng z9
      show kw_AW l 5 kw_E0 KX mX7_least (p_X7_least_0 σ n m) 18 [(0, .ref 0), (1, .int n), (2, .int m)] [.int z9] σ
      refine kw_if_eq (pc := 18) (i := 10) (tgt := 24) rfl rfl (fun c11 => ?_) (fun c11 => ?_)
      · replace hF := kf_p c11 hF
        refine kw_bipush (pc := 24) (i := 13) (v := (-9)) rfl rfl ?_
        refine kw_istore_n (pc := 26) (i := 14) (n := 3) (lv' := [(3, .int (-9)), (0, .ref 0), (1, .int n), (2, .int m)]) rfl rfl (by decide) rfl ?_
        refine kw_aload_n (pc := 27) (i := 15) (k := 1) (n := 0) rfl rfl rfl ?_
        refine kw_get (pc := 28) (i := 16) (v := .ref 4) rfl rfl rfl lkX7_31 (fun _ => rfl) ?_
        refine kw_get (pc := 31) (i := 17) (v := .ref 17) rfl rfl rfl lkX7_117 (fun _ => rfl) ?_
        refine kw_callV (pc := 34) (i := 18) (Y := mX1_allLines) (a := 17) (As := []) (st := []) kw_hE rfl rfl lvX7_243 arX1_allLines (c_X1_allLines_17 l σ hI  ) (by decide) (Nat.le_of_ble_eq_true rfl) rfl (fun v S13 p12 => ?_)
        obtain ⟨e16, z15, rfl, ef14⟩ := p12
        rw [e16]
        replace hF := kf_le ef14 hF
        have r_z15 := kw_rng z15
        show kw_AW l 5 kw_E0 KX mX7_least (p_X7_least_0 σ n m) 37 [(3, .int (-9)), (0, .ref 0), (1, .int n), (2, .int m)] [.int z15] σ
        refine kw_iconst (pc := 37) (i := 19) (v := 1) rfl rfl ?_
        refine kw_iadd (pc := 38) (i := 20) rfl (fun z17 e_z17 t_z17 => ?_)
        replace hF := kf_le e_z17 hF
        refine kw_istore (pc := 39) (i := 21) (n := 4) (lv' := [(4, .int z17), (3, .int (-9)), (0, .ref 0), (1, .int n), (2, .int m)]) rfl (by decide) rfl ?_
        refine kw_iconst (pc := 41) (i := 22) (v := 0) rfl rfl ?_
        refine kw_istore (pc := 42) (i := 23) (n := 5) (lv' := [(5, .int 0), (4, .int z17), (3, .int (-9)), (0, .ref 0), (1, .int n), (2, .int m)]) rfl (by decide) rfl ?_
        have L20 : ∀ (n24 : Nat) (x18 : Int32) (x19 : Int32), 0 ≤ x18.toInt → l_X7_least_0_44 n m z17 σ n24 x19 x18 = (f_X7_least_0 σ n m) → (z17.toInt - x18.toInt).toNat < n24 → kw_AW l 5 kw_E0 KX mX7_least (p_X7_least_0 σ n m) 44 [(5, .int x18), (4, .int z17), (3, .int x19), (0, .ref 0), (1, .int n), (2, .int m)] [] σ := by
          intro n24
          induction n24 with
          | zero => intro x18 x19 v22 hF m23; exact absurd m23 (Nat.not_lt_zero _)
          | succ n24 ih21 =>
            intro x18 x19 v22 hF m23
            replace hF := kf_st (l_X7_least_0_44_s _ _ _ _ _ _ _) hF
            have r_x18 := kw_rng x18
            have r_x19 := kw_rng x19
            refine kw_iload (pc := 44) (i := 24) (k := 0) (n := 5) rfl rfl ?_
            refine kw_iload (pc := 46) (i := 25) (k := 1) (n := 4) rfl rfl ?_
            refine kw_icmp_ge (pc := 48) (i := 26) (tgt := 100) rfl rfl (fun c25 => ?_) (fun c25 => ?_)
            · replace hF := kf_nl c25 hF
              refine kw_iload_n (pc := 100) (i := 50) (k := 2) (n := 3) rfl rfl rfl ?_
              exact kw_ireturn (pc := 101) (i := 51) (ty := .int) rfl rfl rfl ⟨rfl, _, rfl, hF⟩
            · replace hF := kf_p c25 hF
              refine kw_aload_n (pc := 51) (i := 27) (k := 3) (n := 0) rfl rfl rfl ?_
              refine kw_iload_n (pc := 52) (i := 28) (k := 4) (n := 1) rfl rfl rfl ?_
              refine kw_iload (pc := 53) (i := 29) (k := 0) (n := 5) rfl rfl ?_
              refine kw_callV (pc := 55) (i := 30) (Y := mX7_mostMilesBehind) (a := 0) (As := [.int n, .int x18]) (st := []) kw_hE rfl rfl lvX7_279 arX7_mostMilesBehind (c_X7_mostMilesBehind_0 l σ hI n x18 ) (by decide) (Nat.le_of_ble_eq_true rfl) rfl (fun v S27 p26 => ?_)
              obtain ⟨e30, z29, rfl, ef28⟩ := p26
              rw [e30]
              replace hF := kf_le ef28 hF
              have r_z29 := kw_rng z29
              show kw_AW l 5 kw_E0 KX mX7_least (p_X7_least_0 σ n m) 58 [(5, .int x18), (4, .int z17), (3, .int x19), (0, .ref 0), (1, .int n), (2, .int m)] [.int z29] σ
              refine kw_iload_n (pc := 58) (i := 31) (k := 5) (n := 2) rfl rfl rfl ?_
              refine kw_icmp_ge (pc := 59) (i := 32) (tgt := 65) rfl rfl (fun c31 => ?_) (fun c31 => ?_)
              · replace hF := kf_nl c31 hF
                refine kw_aload_n (pc := 65) (i := 34) (k := 3) (n := 0) rfl rfl rfl ?_
                refine kw_get (pc := 66) (i := 35) (v := .ref 4) rfl rfl rfl lkX7_31 (fun _ => rfl) ?_
                refine kw_get (pc := 69) (i := 36) (v := .ref 17) rfl rfl rfl lkX7_117 (fun _ => rfl) ?_
                refine kw_iload (pc := 72) (i := 37) (k := 0) (n := 5) rfl rfl ?_
                refine kw_callV (pc := 74) (i := 38) (Y := mX1_linenOf) (a := 17) (As := [.int x18]) (st := []) kw_hE rfl rfl lvX7_235 arX1_linenOf (c_X1_linenOf_17 l σ hI x18 ) (by decide) (Nat.le_of_ble_eq_true rfl) rfl (fun v S33 p32 => ?_)
                obtain ⟨e36, z35, rfl, ef34⟩ := p32
                rw [e36]
                replace hF := kf_le ef34 hF
                have r_z35 := kw_rng z35
                show kw_AW l 5 kw_E0 KX mX7_least (p_X7_least_0 σ n m) 77 [(5, .int x18), (4, .int z17), (3, .int x19), (0, .ref 0), (1, .int n), (2, .int m)] [.int z35] σ
                refine kw_istore (pc := 77) (i := 39) (n := 6) (lv' := [(6, .int z35), (5, .int x18), (4, .int z17), (3, .int x19), (0, .ref 0), (1, .int n), (2, .int m)]) rfl (by decide) rfl ?_
                refine kw_iload_n (pc := 79) (i := 40) (k := 3) (n := 3) rfl rfl rfl ?_
                refine kw_bipush (pc := 80) (i := 41) (v := (-9)) rfl rfl ?_
                refine kw_icmp_eq (pc := 82) (i := 42) (tgt := 91) rfl rfl (fun c37 => ?_) (fun c37 => ?_)
                · replace hF := kf_p c37 hF
                  refine kw_iload (pc := 91) (i := 46) (k := 0) (n := 6) rfl rfl ?_
                  refine kw_istore_n (pc := 93) (i := 47) (n := 3) (lv' := [(3, .int z35), (6, .int z35), (5, .int x18), (4, .int z17), (0, .ref 0), (1, .int n), (2, .int m)]) rfl rfl (by decide) rfl ?_
                  refine kw_iinc' (pc := 94) (i := 48) (k := 2) (fun z => [(5, .int z), (3, .int z35), (6, .int z35), (4, .int z17), (0, .ref 0), (1, .int n), (2, .int m)]) rfl rfl (by decide) rfl (fun _ => rfl) (fun z38 e_z38 t_z38 => ?_)
                  replace hF := kf_le e_z38 hF
                  refine kw_goto (pc := 97) (i := 49) (tgt := 44) rfl rfl ?_
                  refine kw_sub (lv' := [(5, .int z38), (4, .int z17), (3, .int z35), (0, .ref 0), (1, .int n), (2, .int m)]) [0, 3, 1, 4, 5, 6] rfl ?_
                  exact ih21 z38 z35 (by omega) hF (by omega)
                · replace hF := kf_n c37 hF
                  refine kw_iload (pc := 85) (i := 43) (k := 0) (n := 6) rfl rfl ?_
                  refine kw_iload_n (pc := 87) (i := 44) (k := 3) (n := 3) rfl rfl rfl ?_
                  refine kw_icmp_ge (pc := 88) (i := 45) (tgt := 94) rfl rfl (fun c39 => ?_) (fun c39 => ?_)
                  · replace hF := kf_nl c39 hF
                    refine kw_iinc' (pc := 94) (i := 48) (k := 1) (fun z => [(5, .int z), (6, .int z35), (4, .int z17), (3, .int x19), (0, .ref 0), (1, .int n), (2, .int m)]) rfl rfl (by decide) rfl (fun _ => rfl) (fun z40 e_z40 t_z40 => ?_)
                    replace hF := kf_le e_z40 hF
                    refine kw_goto (pc := 97) (i := 49) (tgt := 44) rfl rfl ?_
                    refine kw_sub (lv' := [(5, .int z40), (4, .int z17), (3, .int x19), (0, .ref 0), (1, .int n), (2, .int m)]) [0, 2, 3, 4, 5, 6] rfl ?_
                    exact ih21 z40 x19 (by omega) hF (by omega)
                  · replace hF := kf_p c39 hF
                    refine kw_iload (pc := 91) (i := 46) (k := 0) (n := 6) rfl rfl ?_
                    refine kw_istore_n (pc := 93) (i := 47) (n := 3) (lv' := [(3, .int z35), (6, .int z35), (5, .int x18), (4, .int z17), (0, .ref 0), (1, .int n), (2, .int m)]) rfl rfl (by decide) rfl ?_
                    refine kw_iinc' (pc := 94) (i := 48) (k := 2) (fun z => [(5, .int z), (3, .int z35), (6, .int z35), (4, .int z17), (0, .ref 0), (1, .int n), (2, .int m)]) rfl rfl (by decide) rfl (fun _ => rfl) (fun z41 e_z41 t_z41 => ?_)
                    replace hF := kf_le e_z41 hF
                    refine kw_goto (pc := 97) (i := 49) (tgt := 44) rfl rfl ?_
                    refine kw_sub (lv' := [(5, .int z41), (4, .int z17), (3, .int z35), (0, .ref 0), (1, .int n), (2, .int m)]) [0, 3, 1, 4, 5, 6] rfl ?_
                    exact ih21 z41 z35 (by omega) hF (by omega)
              · replace hF := kf_p c31 hF
                refine kw_goto (pc := 62) (i := 33) (tgt := 94) rfl rfl ?_
                refine kw_iinc' (pc := 94) (i := 48) (k := 0) (fun z => [(5, .int z), (4, .int z17), (3, .int x19), (0, .ref 0), (1, .int n), (2, .int m)]) rfl rfl (by decide) rfl (fun _ => rfl) (fun z42 e_z42 t_z42 => ?_)
                replace hF := kf_le e_z42 hF
                refine kw_goto (pc := 97) (i := 49) (tgt := 44) rfl rfl ?_
                refine kw_sub (lv' := [(5, .int z42), (4, .int z17), (3, .int x19), (0, .ref 0), (1, .int n), (2, .int m)]) [0, 1, 2, 3, 4, 5] rfl ?_
                exact ih21 z42 x19 (by omega) hF (by omega)
        exact L20 _ 0 (-9) (by omega) hF (Nat.lt_succ_self _)
      · replace hF := kf_n c11 hF
        refine kw_bipush (pc := 21) (i := 11) (v := (-4)) rfl rfl ?_
        exact kw_ireturn (pc := 23) (i := 12) (ty := .int) rfl rfl rfl ⟨rfl, _, rfl, hF⟩
    · replace hF := kf_p c2 hF
      refine kw_iconst (pc := 9) (i := 5) (v := (-1)) rfl rfl ?_
      exact kw_ireturn (pc := 10) (i := 6) (ty := .int) rfl rfl rfl ⟨rfl, _, rfl, hF⟩
noncomputable def l_X7_ways_0_79 (a1 : Int32) (a2 : Int32) (S : kw_S) : Nat → Int32 → Int32 → Int32 → Int32 × kw_S
  | 0, _, _, _ => (0, S)
  | n + 1, x3, x4, x5 => if x5.toInt < (S.1 6 3).toInt then (kf_l (f_X0_fits_6 S x5 a1 a2) fun z11 => if z11.toInt = 0 then (kf_l (x5 + Int32.ofInt 1) fun z15 => l_X7_ways_0_79 a1 a2 S n x3 x4 z15) else (kf_l (x4 &&& x5) fun z12 => kf_l (x3 + Int32.ofInt 1) fun z13 => kf_l (x5 + Int32.ofInt 1) fun z14 => l_X7_ways_0_79 a1 a2 S n z13 z12 z14)) else (kf_l x3.toInt64 fun z5 => kf_l (f_X4_tellWhole_8 S z5) fun S6 => if x3.toInt = 0 then (kf_b (f_X4_answer_8 S6 (0 : Int32)) fun z9 S10 => (z9, S10)) else (kf_b (f_X4_answer_8 S6 x4) fun z7 S8 => (z7, S8)))
theorem l_X7_ways_0_79_s (a1 : Int32) (a2 : Int32) (S : kw_S) (n : Nat) (x3 : Int32) (x4 : Int32) (x5 : Int32) : l_X7_ways_0_79 a1 a2 S (n + 1) x3 x4 x5 = if x5.toInt < (S.1 6 3).toInt then (kf_l (f_X0_fits_6 S x5 a1 a2) fun z11 => if z11.toInt = 0 then (kf_l (x5 + Int32.ofInt 1) fun z15 => l_X7_ways_0_79 a1 a2 S n x3 x4 z15) else (kf_l (x4 &&& x5) fun z12 => kf_l (x3 + Int32.ofInt 1) fun z13 => kf_l (x5 + Int32.ofInt 1) fun z14 => l_X7_ways_0_79 a1 a2 S n z13 z12 z14)) else (kf_l x3.toInt64 fun z5 => kf_l (f_X4_tellWhole_8 S z5) fun S6 => if x3.toInt = 0 then (kf_b (f_X4_answer_8 S6 (0 : Int32)) fun z9 S10 => (z9, S10)) else (kf_b (f_X4_answer_8 S6 x4) fun z7 S8 => (z7, S8))) := rfl
noncomputable def f_X7_ways_0 (σ : kw_S) (m : Int32) (t : Int32) : Int32 × kw_S := if m.toInt < ((-99) : Int32).toInt then ((((-1) : Int32), σ)) else (if (99 : Int32).toInt < m.toInt then ((((-1) : Int32), σ)) else (if t.toInt < ((-999) : Int32).toInt then ((((-1) : Int32), σ)) else (if (999 : Int32).toInt < t.toInt then ((((-1) : Int32), σ)) else (kf_l (f_X5_isEmpty_4 σ) fun z1 => if z1.toInt = 0 then (kf_l (f_X5_windNow_4 σ) fun z2 => kf_l (f_X0_draw_6_17 σ z2) fun S3 => kf_l (f_X1_allLines_17 S3) fun z4 => l_X7_ways_0_79 m t S3 ((((S3.1 6 3)).toInt - (0 : Int32).toInt).toNat + 1) (0 : Int32) z4 (0 : Int32)) else ((((-4) : Int32), σ))))))
theorem f_X7_ways_0_u (σ : kw_S) (m : Int32) (t : Int32) : f_X7_ways_0 σ m t = if m.toInt < ((-99) : Int32).toInt then ((((-1) : Int32), σ)) else (if (99 : Int32).toInt < m.toInt then ((((-1) : Int32), σ)) else (if t.toInt < ((-999) : Int32).toInt then ((((-1) : Int32), σ)) else (if (999 : Int32).toInt < t.toInt then ((((-1) : Int32), σ)) else (kf_l (f_X5_isEmpty_4 σ) fun z1 => if z1.toInt = 0 then (kf_l (f_X5_windNow_4 σ) fun z2 => kf_l (f_X0_draw_6_17 σ z2) fun S3 => kf_l (f_X1_allLines_17 S3) fun z4 => l_X7_ways_0_79 m t S3 ((((S3.1 6 3)).toInt - (0 : Int32).toInt).toNat + 1) (0 : Int32) z4 (0 : Int32)) else ((((-4) : Int32), σ)))))) := rfl
abbrev p_X7_ways_0 (σ : kw_S) (m : Int32) (t : Int32) : Option Value → kw_S → Prop := fun vv σ' => (kw_I bX σ' ∧ kw_F [8, 28, 6, 22, 23] σ σ') ∧ ∃ r : Int32, vv = some (.int r) ∧ ((m.toInt < -99 ∨ 99 < m.toInt ∨ t.toInt < -999 ∨ 999 < t.toInt) ∧ r.toInt = -1 ∨ -99 ≤ m.toInt ∧ m.toInt ≤ 99 ∧ -999 ≤ t.toInt ∧ t.toInt ≤ 999 ∧ (σ.1 17 5).toInt < 1 ∧ r.toInt = -4 ∨ -99 ≤ m.toInt ∧ m.toInt ≤ 99 ∧ -999 ≤ t.toInt ∧ t.toInt ≤ 999 ∧ 1 ≤ (σ.1 17 5).toInt ∧ r.toInt = 1) ∧ (r, σ') = f_X7_ways_0 σ m t
set_option maxRecDepth 100000 in
set_option maxHeartbeats 4000000 in
theorem c_X7_ways_0 (l : Launch) (σ : kw_S) (hI : kw_I bX σ) (m : Int32) (t : Int32) : kw_Met l 4 KX mX7_ways [.ref 0, .int m, .int t] σ (p_X7_ways_0 σ m t) := by
  have r_m := kw_rng m
  have r_t := kw_rng t
  have hF0 : kw_F [8, 28, 6, 22, 23] σ σ := kw_F.rf
  have hF := (f_X7_ways_0_u σ m t).symm
  have q_m999 : (-999 : Int32).toInt = -999 := rfl
  have q_m99 : (-99 : Int32).toInt = -99 := rfl
  have q_m4 : (-4 : Int32).toInt = -4 := rfl
  have q_m1 : (-1 : Int32).toInt = -1 := rfl
  have q_0 : (0 : Int32).toInt = 0 := rfl
  have q_99 : (99 : Int32).toInt = 99 := rfl
  have q_999 : (999 : Int32).toInt = 999 := rfl
  refine kw_Met.of (by decide) rfl tX7_ways (Nat.le_of_ble_eq_true rfl) ?_
  show kw_AW l 4 kw_E0 KX mX7_ways (p_X7_ways_0 σ m t) 0 [(0, .ref 0), (1, .int m), (2, .int t)] [] σ
  refine kw_iload_n (pc := 0) (i := 0) (k := 1) (n := 1) rfl rfl rfl ?_
  refine kw_bipush (pc := 1) (i := 1) (v := (-99)) rfl rfl ?_
  refine kw_icmp_lt (pc := 3) (i := 2) (tgt := 26) rfl rfl (fun c1 => ?_) (fun c1 => ?_)
  · replace hF := kf_p c1 hF
    refine kw_iconst (pc := 26) (i := 12) (v := (-1)) rfl rfl ?_
    exact kw_ireturn (pc := 27) (i := 13) (ty := .int) rfl rfl rfl ⟨⟨hI, hF0⟩, _, rfl, by omega, hF⟩
  · replace hF := kf_nl c1 hF
    refine kw_iload_n (pc := 6) (i := 3) (k := 1) (n := 1) rfl rfl rfl ?_
    refine kw_bipush (pc := 7) (i := 4) (v := 99) rfl rfl ?_
    refine kw_icmp_gt (pc := 9) (i := 5) (tgt := 26) rfl rfl (fun c2 => ?_) (fun c2 => ?_)
    · replace hF := kf_p c2 hF
      refine kw_iconst (pc := 26) (i := 12) (v := (-1)) rfl rfl ?_
      exact kw_ireturn (pc := 27) (i := 13) (ty := .int) rfl rfl rfl ⟨⟨hI, hF0⟩, _, rfl, by omega, hF⟩
    · replace hF := kf_nl c2 hF
      refine kw_iload_n (pc := 12) (i := 6) (k := 2) (n := 2) rfl rfl rfl ?_
      refine kw_sipush (pc := 13) (i := 7) (v := (-999)) rfl rfl ?_
      refine kw_icmp_lt (pc := 16) (i := 8) (tgt := 26) rfl rfl (fun c3 => ?_) (fun c3 => ?_)
      · replace hF := kf_p c3 hF
        refine kw_iconst (pc := 26) (i := 12) (v := (-1)) rfl rfl ?_
        exact kw_ireturn (pc := 27) (i := 13) (ty := .int) rfl rfl rfl ⟨⟨hI, hF0⟩, _, rfl, by omega, hF⟩
      · replace hF := kf_nl c3 hF
        refine kw_iload_n (pc := 19) (i := 9) (k := 2) (n := 2) rfl rfl rfl ?_
        refine kw_sipush (pc := 20) (i := 10) (v := 999) rfl rfl ?_
        refine kw_icmp_le (pc := 23) (i := 11) (tgt := 28) rfl rfl (fun c4 => ?_) (fun c4 => ?_)
        · replace hF := kf_nl c4 hF
          refine kw_aload_n (pc := 28) (i := 14) (k := 0) (n := 0) rfl rfl rfl ?_
          refine kw_get (pc := 29) (i := 15) (v := .ref 4) rfl rfl rfl lkX7_31 (fun _ => rfl) ?_
          refine kw_callV (pc := 32) (i := 16) (Y := mX5_isEmpty) (a := 4) (As := []) (st := []) kw_hE rfl rfl lvX7_178 arX5_isEmpty (c_X5_isEmpty_4 l σ hI  ) (by decide) (Nat.le_of_ble_eq_true rfl) rfl (fun v S6 p5 => ?_)
          obtain ⟨e12, z11, rfl, f7, f8, f9, ef10⟩ := p5
          rw [e12]
          replace hF := kf_le ef10 hF
          have r_z11 := kw_rng z11
          show kw_AW l 4 kw_E0 KX mX7_ways (p_X7_ways_0 σ m t) 35 [(0, .ref 0), (1, .int m), (2, .int t)] [.int z11] σ
          refine kw_if_eq (pc := 35) (i := 17) (tgt := 41) rfl rfl (fun c13 => ?_) (fun c13 => ?_)
          · replace hF := kf_p c13 hF
            refine kw_aload_n (pc := 41) (i := 20) (k := 0) (n := 0) rfl rfl rfl ?_
            refine kw_get (pc := 42) (i := 21) (v := .ref 6) rfl rfl rfl lkX7_41 (fun _ => rfl) ?_
            refine kw_aload_n (pc := 45) (i := 22) (k := 0) (n := 0) rfl rfl rfl ?_
            refine kw_get (pc := 46) (i := 23) (v := .ref 4) rfl rfl rfl lkX7_31 (fun _ => rfl) ?_
            refine kw_get (pc := 49) (i := 24) (v := .ref 17) rfl rfl rfl lkX7_117 (fun _ => rfl) ?_
            refine kw_aload_n (pc := 52) (i := 25) (k := 0) (n := 0) rfl rfl rfl ?_
            refine kw_get (pc := 53) (i := 26) (v := .ref 4) rfl rfl rfl lkX7_31 (fun _ => rfl) ?_
            refine kw_callV (pc := 56) (i := 27) (Y := mX5_windNow) (a := 4) (As := []) (st := [.ref 17, .ref 6]) kw_hE rfl rfl lvX7_171 arX5_windNow (c_X5_windNow_4 l σ hI  ) (by decide) (Nat.le_of_ble_eq_true rfl) rfl (fun v S15 p14 => ?_)
            obtain ⟨e18, z17, rfl, ef16⟩ := p14
            rw [e18]
            replace hF := kf_le ef16 hF
            have r_z17 := kw_rng z17
            show kw_AW l 4 kw_E0 KX mX7_ways (p_X7_ways_0 σ m t) 59 [(0, .ref 0), (1, .int m), (2, .int t)] [.int z17, .ref 17, .ref 6] σ
            refine kw_callV (pc := 59) (i := 28) (Y := mX0_draw) (a := 6) (As := [.ref 17, .int z17]) (st := []) kw_hE rfl rfl lvX7_225 arX0_draw (c_X0_draw_6_17 l σ hI z17 ) (by decide) (Nat.le_of_ble_eq_true rfl) rfl (fun v S20 p19 => ?_)
            obtain ⟨⟨I22, F23⟩, rfl, ef21⟩ := p19
            have F24 : kw_F [8, 28, 6, 22, 23] σ S20 := kw_F.tr hF0 F23 (by decide)
            replace hF := kf_le ef21 hF
            show kw_AW l 4 kw_E0 KX mX7_ways (p_X7_ways_0 σ m t) 62 [(0, .ref 0), (1, .int m), (2, .int t)] [] S20
            refine kw_iconst (pc := 62) (i := 29) (v := 0) rfl rfl ?_
            refine kw_istore_n (pc := 63) (i := 30) (n := 3) (lv' := [(3, .int 0), (0, .ref 0), (1, .int m), (2, .int t)]) rfl rfl (by decide) rfl ?_
            refine kw_aload_n (pc := 64) (i := 31) (k := 1) (n := 0) rfl rfl rfl ?_
            refine kw_get (pc := 65) (i := 32) (v := .ref 4) rfl rfl rfl lkX7_31 (fun _ => rfl) ?_
            refine kw_get (pc := 68) (i := 33) (v := .ref 17) rfl rfl rfl lkX7_117 (fun _ => rfl) ?_
            refine kw_callV (pc := 71) (i := 34) (Y := mX1_allLines) (a := 17) (As := []) (st := []) kw_hE rfl rfl lvX7_243 arX1_allLines (c_X1_allLines_17 l S20 I22  ) (by decide) (Nat.le_of_ble_eq_true rfl) rfl (fun v S26 p25 => ?_)
            obtain ⟨e29, z28, rfl, ef27⟩ := p25
            rw [e29]
            replace hF := kf_le ef27 hF
            have r_z28 := kw_rng z28
            show kw_AW l 4 kw_E0 KX mX7_ways (p_X7_ways_0 σ m t) 74 [(3, .int 0), (0, .ref 0), (1, .int m), (2, .int t)] [.int z28] S20
            refine kw_istore (pc := 74) (i := 35) (n := 4) (lv' := [(4, .int z28), (3, .int 0), (0, .ref 0), (1, .int m), (2, .int t)]) rfl (by decide) rfl ?_
            refine kw_iconst (pc := 76) (i := 36) (v := 0) rfl rfl ?_
            refine kw_istore (pc := 77) (i := 37) (n := 5) (lv' := [(5, .int 0), (4, .int z28), (3, .int 0), (0, .ref 0), (1, .int m), (2, .int t)]) rfl (by decide) rfl ?_
            have L33 : ∀ (n37 : Nat) (x30 : Int32) (x31 : Int32) (x32 : Int32), 0 ≤ x30.toInt → l_X7_ways_0_79 m t S20 n37 x32 x31 x30 = (f_X7_ways_0 σ m t) → (((S20.1 6 3)).toInt - x30.toInt).toNat < n37 → kw_AW l 4 kw_E0 KX mX7_ways (p_X7_ways_0 σ m t) 79 [(5, .int x30), (4, .int x31), (3, .int x32), (0, .ref 0), (1, .int m), (2, .int t)] [] S20 := by
              intro n37
              induction n37 with
              | zero => intro x30 x31 x32 v35 hF m36; exact absurd m36 (Nat.not_lt_zero _)
              | succ n37 ih34 =>
                intro x30 x31 x32 v35 hF m36
                replace hF := kf_st (l_X7_ways_0_79_s _ _ _ _ _ _ _) hF
                have r_x30 := kw_rng x30
                have r_x31 := kw_rng x31
                have r_x32 := kw_rng x32
                refine kw_iload (pc := 79) (i := 38) (k := 0) (n := 5) rfl rfl ?_
                refine kw_aload_n (pc := 81) (i := 39) (k := 3) (n := 0) rfl rfl rfl ?_
                refine kw_get (pc := 82) (i := 40) (v := .ref 6) rfl rfl rfl lkX7_41 (fun _ => rfl) ?_
                refine kw_get (pc := 85) (i := 41) (v := .int (S20.1 6 3)) rfl rfl rfl lkX7_229 (fun _ => rfl) ?_
                have b38 := kw_rng (S20.1 6 3)
                refine kw_icmp_ge (pc := 88) (i := 42) (tgt := 124) rfl rfl (fun c39 => ?_) (fun c39 => ?_)
                · replace hF := kf_nl c39 hF
                  refine kw_aload_n (pc := 124) (i := 58) (k := 3) (n := 0) rfl rfl rfl ?_
                  refine kw_get (pc := 125) (i := 59) (v := .ref 8) rfl rfl rfl lkX7_55 (fun _ => rfl) ?_
                  refine kw_iload_n (pc := 128) (i := 60) (k := 2) (n := 3) rfl rfl rfl ?_
                  refine kw_i2l (pc := 129) (i := 61) rfl (fun z40 e_z40 t_z40 => ?_)
                  replace hF := kf_le e_z40 hF
                  refine kw_callV (pc := 130) (i := 62) (Y := mX4_tellWhole) (a := 8) (As := [.long z40]) (st := []) kw_hE rfl rfl lvX7_200 arX4_tellWhole (c_X4_tellWhole_8 l S20 I22 z40 ) (by decide) (Nat.le_of_ble_eq_true rfl) rfl (fun v S42 p41 => ?_)
                  obtain ⟨⟨I44, F45⟩, rfl, ef43⟩ := p41
                  have F46 : kw_F [8, 28, 6, 22, 23] σ S42 := kw_F.tr F24 F45 (by decide)
                  replace hF := kf_le ef43 hF
                  show kw_AW l 4 kw_E0 KX mX7_ways (p_X7_ways_0 σ m t) 133 [(5, .int x30), (4, .int x31), (3, .int x32), (0, .ref 0), (1, .int m), (2, .int t)] [] S42
                  refine kw_aload_n (pc := 133) (i := 63) (k := 3) (n := 0) rfl rfl rfl ?_
                  refine kw_get (pc := 134) (i := 64) (v := .ref 8) rfl rfl rfl lkX7_55 (fun _ => rfl) ?_
                  refine kw_iload_n (pc := 137) (i := 65) (k := 2) (n := 3) rfl rfl rfl ?_
                  refine kw_if_ne (pc := 138) (i := 66) (tgt := 145) rfl rfl (fun c47 => ?_) (fun c47 => ?_)
                  · replace hF := kf_n c47 hF
                    refine kw_iload (pc := 145) (i := 69) (k := 1) (n := 4) rfl rfl ?_
                    refine kw_callV (pc := 147) (i := 70) (Y := mX4_answer) (a := 8) (As := [.int x31]) (st := []) kw_hE rfl rfl lvX7_92 arX4_answer (c_X4_answer_8 l S42 I44 x31 ) (by decide) (Nat.le_of_ble_eq_true rfl) rfl (fun v S49 p48 => ?_)
                    obtain ⟨⟨I53, F54⟩, z52, rfl, f50, ef51⟩ := p48
                    have F55 : kw_F [8, 28, 6, 22, 23] σ S49 := kw_F.tr F46 F54 (by decide)
                    replace hF := kf_be ef51 hF
                    have r_z52 := kw_rng z52
                    show kw_AW l 4 kw_E0 KX mX7_ways (p_X7_ways_0 σ m t) 150 [(5, .int x30), (4, .int x31), (3, .int x32), (0, .ref 0), (1, .int m), (2, .int t)] [.int z52] S49
                    exact kw_ireturn (pc := 150) (i := 71) (ty := .int) rfl rfl rfl ⟨⟨I53, F55⟩, _, rfl, by omega, hF⟩
                  · replace hF := kf_p c47 hF
                    refine kw_iconst (pc := 141) (i := 67) (v := 0) rfl rfl ?_
                    refine kw_goto (pc := 142) (i := 68) (tgt := 147) rfl rfl ?_
                    refine kw_callV (pc := 147) (i := 70) (Y := mX4_answer) (a := 8) (As := [.int 0]) (st := []) kw_hE rfl rfl lvX7_92 arX4_answer (c_X4_answer_8 l S42 I44 0 ) (by decide) (Nat.le_of_ble_eq_true rfl) rfl (fun v S57 p56 => ?_)
                    obtain ⟨⟨I61, F62⟩, z60, rfl, f58, ef59⟩ := p56
                    have F63 : kw_F [8, 28, 6, 22, 23] σ S57 := kw_F.tr F46 F62 (by decide)
                    replace hF := kf_be ef59 hF
                    have r_z60 := kw_rng z60
                    show kw_AW l 4 kw_E0 KX mX7_ways (p_X7_ways_0 σ m t) 150 [(5, .int x30), (4, .int x31), (3, .int x32), (0, .ref 0), (1, .int m), (2, .int t)] [.int z60] S57
                    exact kw_ireturn (pc := 150) (i := 71) (ty := .int) rfl rfl rfl ⟨⟨I61, F63⟩, _, rfl, by omega, hF⟩
                · replace hF := kf_p c39 hF
                  refine kw_aload_n (pc := 91) (i := 43) (k := 3) (n := 0) rfl rfl rfl ?_
                  refine kw_get (pc := 92) (i := 44) (v := .ref 6) rfl rfl rfl lkX7_41 (fun _ => rfl) ?_
                  refine kw_iload (pc := 95) (i := 45) (k := 0) (n := 5) rfl rfl ?_
                  refine kw_iload_n (pc := 97) (i := 46) (k := 4) (n := 1) rfl rfl rfl ?_
                  refine kw_iload_n (pc := 98) (i := 47) (k := 5) (n := 2) rfl rfl rfl ?_
                  refine kw_callV (pc := 99) (i := 48) (Y := mX0_fits) (a := 6) (As := [.int x30, .int m, .int t]) (st := []) kw_hE rfl rfl lvX7_232 arX0_fits (c_X0_fits_6 l S20 I22 x30 m t ) (by decide) (Nat.le_of_ble_eq_true rfl) rfl (fun v S65 p64 => ?_)
                  obtain ⟨e69, z68, rfl, f66, ef67⟩ := p64
                  rw [e69]
                  replace hF := kf_le ef67 hF
                  have r_z68 := kw_rng z68
                  show kw_AW l 4 kw_E0 KX mX7_ways (p_X7_ways_0 σ m t) 102 [(5, .int x30), (4, .int x31), (3, .int x32), (0, .ref 0), (1, .int m), (2, .int t)] [.int z68] S20
                  refine kw_if_ne (pc := 102) (i := 49) (tgt := 108) rfl rfl (fun c70 => ?_) (fun c70 => ?_)
                  · replace hF := kf_n c70 hF
                    refine kw_iload (pc := 108) (i := 51) (k := 1) (n := 4) rfl rfl ?_
                    refine kw_iload (pc := 110) (i := 52) (k := 0) (n := 5) rfl rfl ?_
                    refine kw_iand (pc := 112) (i := 53) rfl (fun z71 e_z71 => ?_)
                    have r_z71 := kw_rng z71
                    replace hF := kf_le e_z71 hF
                    refine kw_istore (pc := 113) (i := 54) (n := 4) (lv' := [(4, .int z71), (5, .int x30), (3, .int x32), (0, .ref 0), (1, .int m), (2, .int t)]) rfl (by decide) rfl ?_
                    refine kw_iinc' (pc := 115) (i := 55) (k := 2) (fun z => [(3, .int z), (4, .int z71), (5, .int x30), (0, .ref 0), (1, .int m), (2, .int t)]) rfl rfl (by decide) rfl (fun _ => rfl) (fun z72 e_z72 t_z72 => ?_)
                    replace hF := kf_le e_z72 hF
                    refine kw_iinc' (pc := 118) (i := 56) (k := 2) (fun z => [(5, .int z), (3, .int z72), (4, .int z71), (0, .ref 0), (1, .int m), (2, .int t)]) rfl rfl (by decide) rfl (fun _ => rfl) (fun z73 e_z73 t_z73 => ?_)
                    replace hF := kf_le e_z73 hF
                    refine kw_goto (pc := 121) (i := 57) (tgt := 79) rfl rfl ?_
                    refine kw_sub (lv' := [(5, .int z73), (4, .int z71), (3, .int z72), (0, .ref 0), (1, .int m), (2, .int t)]) [0, 2, 1, 3, 4, 5] rfl ?_
                    exact ih34 z73 z71 z72 (by omega) hF (show (((S20.1 6 3)).toInt - z73.toInt).toNat < n37 from by omega)
                  · replace hF := kf_p c70 hF
                    refine kw_goto (pc := 105) (i := 50) (tgt := 118) rfl rfl ?_
                    refine kw_iinc' (pc := 118) (i := 56) (k := 0) (fun z => [(5, .int z), (4, .int x31), (3, .int x32), (0, .ref 0), (1, .int m), (2, .int t)]) rfl rfl (by decide) rfl (fun _ => rfl) (fun z74 e_z74 t_z74 => ?_)
                    replace hF := kf_le e_z74 hF
                    refine kw_goto (pc := 121) (i := 57) (tgt := 79) rfl rfl ?_
                    refine kw_sub (lv' := [(5, .int z74), (4, .int x31), (3, .int x32), (0, .ref 0), (1, .int m), (2, .int t)]) [0, 1, 2, 3, 4, 5] rfl ?_
                    exact ih34 z74 x31 x32 (by omega) hF (show (((S20.1 6 3)).toInt - z74.toInt).toNat < n37 from by omega)
            exact L33 _ 0 z28 0 (by omega) hF (Nat.lt_succ_self _)
          · replace hF := kf_n c13 hF
            refine kw_bipush (pc := 38) (i := 18) (v := (-4)) rfl rfl ?_
            exact kw_ireturn (pc := 40) (i := 19) (ty := .int) rfl rfl rfl ⟨⟨hI, hF0⟩, _, rfl, by omega, hF⟩
        · replace hF := kf_p c4 hF
          refine kw_iconst (pc := 26) (i := 12) (v := (-1)) rfl rfl ?_
          exact kw_ireturn (pc := 27) (i := 13) (ty := .int) rfl rfl rfl ⟨⟨hI, hF0⟩, _, rfl, by omega, hF⟩
end
section
noncomputable def l_X7_kinds_0_19 (a1 : Int32) (a2 : Int32) (a3 : Int32) (S : kw_S) : Nat → Int32 → Int32 → Int32 × kw_S
  | 0, _, _ => (0, S)
  | n + 1, x4, x5 => if x5.toInt < (6 : Int32).toInt then (kf_l (S.1 46 a1.toNatClampNeg) fun z3 => kf_l (f_X7_pulledSo_0 S a2 x5 z3) fun z4 => if z4.toInt = 0 then (kf_l (x5 + Int32.ofInt 1) fun z5 => l_X7_kinds_0_19 a1 a2 a3 S n x4 z5) else (kf_l ((1 : Int32) <<< (x5 &&& 31)) fun z6 => kf_l (x4 ||| z6) fun z7 => kf_l (x5 + Int32.ofInt 1) fun z8 => l_X7_kinds_0_19 a1 a2 a3 S n z7 z8)) else ((x4, S))
theorem l_X7_kinds_0_19_s (a1 : Int32) (a2 : Int32) (a3 : Int32) (S : kw_S) (n : Nat) (x4 : Int32) (x5 : Int32) : l_X7_kinds_0_19 a1 a2 a3 S (n + 1) x4 x5 = if x5.toInt < (6 : Int32).toInt then (kf_l (S.1 46 a1.toNatClampNeg) fun z3 => kf_l (f_X7_pulledSo_0 S a2 x5 z3) fun z4 => if z4.toInt = 0 then (kf_l (x5 + Int32.ofInt 1) fun z5 => l_X7_kinds_0_19 a1 a2 a3 S n x4 z5) else (kf_l ((1 : Int32) <<< (x5 &&& 31)) fun z6 => kf_l (x4 ||| z6) fun z7 => kf_l (x5 + Int32.ofInt 1) fun z8 => l_X7_kinds_0_19 a1 a2 a3 S n z7 z8)) else ((x4, S)) := rfl
noncomputable def f_X7_kinds_0 (σ : kw_S) (i : Int32) (a : Int32) : Int32 × kw_S := kf_b (f_X7_pairsRefusal_0 σ i a) fun z1 S2 => if z1.toInt = 0 then (l_X7_kinds_0_19 i a z1 S2 ((7 - (0 : Int32).toInt).toNat + 1) (0 : Int32) (0 : Int32)) else ((z1, S2))
theorem f_X7_kinds_0_u (σ : kw_S) (i : Int32) (a : Int32) : f_X7_kinds_0 σ i a = kf_b (f_X7_pairsRefusal_0 σ i a) fun z1 S2 => if z1.toInt = 0 then (l_X7_kinds_0_19 i a z1 S2 ((7 - (0 : Int32).toInt).toNat + 1) (0 : Int32) (0 : Int32)) else ((z1, S2)) := rfl
abbrev p_X7_kinds_0 (σ : kw_S) (i : Int32) (a : Int32) : Option Value → kw_S → Prop := fun vv σ' => (kw_I bX σ' ∧ kw_F [8, 28] σ σ') ∧ ∃ r : Int32, vv = some (.int r) ∧ (r, σ') = f_X7_kinds_0 σ i a
set_option maxRecDepth 100000 in
set_option maxHeartbeats 4000000 in
theorem c_X7_kinds_0 (l : Launch) (σ : kw_S) (hI : kw_I bX σ) (i : Int32) (a : Int32) : kw_Met l 5 KX mX7_kinds [.ref 0, .int i, .int a] σ (p_X7_kinds_0 σ i a) := by
  have r_i := kw_rng i
  have r_a := kw_rng a
  have hF0 : kw_F [8, 28] σ σ := kw_F.rf
  have hF := (f_X7_kinds_0_u σ i a).symm
  have q_0 : (0 : Int32).toInt = 0 := rfl
  have q_1 : (1 : Int32).toInt = 1 := rfl
  have q_6 : (6 : Int32).toInt = 6 := rfl
  refine kw_Met.of (by decide) rfl tX7_kinds (Nat.le_of_ble_eq_true rfl) ?_
  show kw_AW l 5 kw_E0 KX mX7_kinds (p_X7_kinds_0 σ i a) 0 [(0, .ref 0), (1, .int i), (2, .int a)] [] σ
  refine kw_aload_n (pc := 0) (i := 0) (k := 0) (n := 0) rfl rfl rfl ?_
  refine kw_iload_n (pc := 1) (i := 1) (k := 1) (n := 1) rfl rfl rfl ?_
  refine kw_iload_n (pc := 2) (i := 2) (k := 2) (n := 2) rfl rfl rfl ?_
  refine kw_callV (pc := 3) (i := 3) (Y := mX7_pairsRefusal) (a := 0) (As := [.int i, .int a]) (st := []) kw_hE rfl rfl lvX7_282 arX7_pairsRefusal (c_X7_pairsRefusal_0 l σ hI i a ) (by decide) (Nat.le_of_ble_eq_true rfl) rfl (fun v S2 p1 => ?_)
  obtain ⟨⟨I6, F7⟩, z5, rfl, f3, ef4⟩ := p1
  have F8 : kw_F [8, 28] σ S2 := kw_F.tr hF0 F7 (by decide)
  replace hF := kf_be ef4 hF
  have r_z5 := kw_rng z5
  show kw_AW l 5 kw_E0 KX mX7_kinds (p_X7_kinds_0 σ i a) 6 [(0, .ref 0), (1, .int i), (2, .int a)] [.int z5] S2
  refine kw_istore_n (pc := 6) (i := 4) (n := 3) (lv' := [(3, .int z5), (0, .ref 0), (1, .int i), (2, .int a)]) rfl rfl (by decide) rfl ?_
  refine kw_iload_n (pc := 7) (i := 5) (k := 0) (n := 3) rfl rfl rfl ?_
  refine kw_if_eq (pc := 8) (i := 6) (tgt := 13) rfl rfl (fun c9 => ?_) (fun c9 => ?_)
  · replace hF := kf_p c9 hF
    refine kw_iconst (pc := 13) (i := 9) (v := 0) rfl rfl ?_
    refine kw_istore (pc := 14) (i := 10) (n := 4) (lv' := [(4, .int 0), (3, .int z5), (0, .ref 0), (1, .int i), (2, .int a)]) rfl (by decide) rfl ?_
    refine kw_iconst (pc := 16) (i := 11) (v := 0) rfl rfl ?_
    refine kw_istore (pc := 17) (i := 12) (n := 5) (lv' := [(5, .int 0), (4, .int 0), (3, .int z5), (0, .ref 0), (1, .int i), (2, .int a)]) rfl (by decide) rfl ?_
    have L12 : ∀ (n16 : Nat) (x10 : Int32) (x11 : Int32), 0 ≤ x10.toInt → l_X7_kinds_0_19 i a z5 S2 n16 x11 x10 = (f_X7_kinds_0 σ i a) → (7 - x10.toInt).toNat < n16 → kw_AW l 5 kw_E0 KX mX7_kinds (p_X7_kinds_0 σ i a) 19 [(5, .int x10), (4, .int x11), (3, .int z5), (0, .ref 0), (1, .int i), (2, .int a)] [] S2 := by
      intro n16
      induction n16 with
      | zero => intro x10 x11 v14 hF m15; exact absurd m15 (Nat.not_lt_zero _)
      | succ n16 ih13 =>
        intro x10 x11 v14 hF m15
        replace hF := kf_st (l_X7_kinds_0_19_s _ _ _ _ _ _ _) hF
        have r_x10 := kw_rng x10
        have r_x11 := kw_rng x11
        refine kw_iload (pc := 19) (i := 13) (k := 0) (n := 5) rfl rfl ?_
        refine kw_bipush (pc := 21) (i := 14) (v := 6) rfl rfl ?_
        refine kw_icmp_ge (pc := 23) (i := 15) (tgt := 63) rfl rfl (fun c17 => ?_) (fun c17 => ?_)
        · replace hF := kf_nl c17 hF
          refine kw_iload (pc := 63) (i := 35) (k := 1) (n := 4) rfl rfl ?_
          exact kw_ireturn (pc := 65) (i := 36) (ty := .int) rfl rfl rfl ⟨⟨I6, F8⟩, _, rfl, hF⟩
        · replace hF := kf_p c17 hF
          refine kw_aload_n (pc := 26) (i := 16) (k := 3) (n := 0) rfl rfl rfl ?_
          refine kw_iload_n (pc := 27) (i := 17) (k := 5) (n := 2) rfl rfl rfl ?_
          refine kw_iload (pc := 28) (i := 18) (k := 0) (n := 5) rfl rfl ?_
          refine kw_aload_n (pc := 30) (i := 19) (k := 3) (n := 0) rfl rfl rfl ?_
          refine kw_get (pc := 31) (i := 20) (v := .ref 4) rfl rfl rfl lkX7_31 (fun _ => rfl) ?_
          refine kw_get (pc := 34) (i := 21) (v := .ref 17) rfl rfl rfl lkX7_117 (fun _ => rfl) ?_
          refine kw_get (pc := 37) (i := 22) (v := .ref 46) rfl rfl rfl lkX7_168 (fun _ => rfl) ?_
          refine kw_iload_n (pc := 40) (i := 23) (k := 4) (n := 1) rfl rfl rfl ?_
          refine kw_iald (pc := 41) (i := 24) (n := 6) rfl rfl (by omega) (by omega) (fun z18 e_z18 => ?_)
          replace hF := kf_le e_z18 hF
          have t_z18 := congrArg Int32.toInt e_z18
          have r_z18 := kw_rng z18
          refine kw_callV (pc := 42) (i := 25) (Y := mX7_pulledSo) (a := 0) (As := [.int a, .int x10, .int z18]) (st := []) kw_hE rfl rfl lvX7_285 arX7_pulledSo (c_X7_pulledSo_0 l S2 I6 a x10 z18 ) (by decide) (Nat.le_of_ble_eq_true rfl) rfl (fun v S20 p19 => ?_)
          obtain ⟨e24, z23, rfl, f21, ef22⟩ := p19
          rw [e24]
          replace hF := kf_le ef22 hF
          have r_z23 := kw_rng z23
          show kw_AW l 5 kw_E0 KX mX7_kinds (p_X7_kinds_0 σ i a) 45 [(5, .int x10), (4, .int x11), (3, .int z5), (0, .ref 0), (1, .int i), (2, .int a)] [.int z23] S2
          refine kw_if_eq (pc := 45) (i := 26) (tgt := 57) rfl rfl (fun c25 => ?_) (fun c25 => ?_)
          · replace hF := kf_p c25 hF
            refine kw_iinc' (pc := 57) (i := 33) (k := 0) (fun z => [(5, .int z), (4, .int x11), (3, .int z5), (0, .ref 0), (1, .int i), (2, .int a)]) rfl rfl (by decide) rfl (fun _ => rfl) (fun z26 e_z26 t_z26 => ?_)
            replace hF := kf_le e_z26 hF
            refine kw_goto (pc := 60) (i := 34) (tgt := 19) rfl rfl ?_
            refine kw_sub (lv' := [(5, .int z26), (4, .int x11), (3, .int z5), (0, .ref 0), (1, .int i), (2, .int a)]) [0, 1, 2, 3, 4, 5] rfl ?_
            exact ih13 z26 x11 (by omega) hF (by omega)
          · replace hF := kf_n c25 hF
            refine kw_iload (pc := 48) (i := 27) (k := 1) (n := 4) rfl rfl ?_
            refine kw_iconst (pc := 50) (i := 28) (v := 1) rfl rfl ?_
            refine kw_iload (pc := 51) (i := 29) (k := 0) (n := 5) rfl rfl ?_
            refine kw_ishl (pc := 53) (i := 30) rfl (fun z27 e_z27 => ?_)
            have r_z27 := kw_rng z27
            replace hF := kf_le e_z27 hF
            refine kw_ior (pc := 54) (i := 31) rfl (fun z28 e_z28 => ?_)
            have r_z28 := kw_rng z28
            replace hF := kf_le e_z28 hF
            refine kw_istore (pc := 55) (i := 32) (n := 4) (lv' := [(4, .int z28), (5, .int x10), (3, .int z5), (0, .ref 0), (1, .int i), (2, .int a)]) rfl (by decide) rfl ?_
            refine kw_iinc' (pc := 57) (i := 33) (k := 1) (fun z => [(5, .int z), (4, .int z28), (3, .int z5), (0, .ref 0), (1, .int i), (2, .int a)]) rfl rfl (by decide) rfl (fun _ => rfl) (fun z29 e_z29 t_z29 => ?_)
            replace hF := kf_le e_z29 hF
            refine kw_goto (pc := 60) (i := 34) (tgt := 19) rfl rfl ?_
            refine kw_sub (lv' := [(5, .int z29), (4, .int z28), (3, .int z5), (0, .ref 0), (1, .int i), (2, .int a)]) [0, 1, 2, 3, 4, 5] rfl ?_
            exact ih13 z29 z28 (by omega) hF (by omega)
    exact L12 _ 0 0 (by omega) hF (Nat.lt_succ_self _)
  · replace hF := kf_n c9 hF
    refine kw_iload_n (pc := 11) (i := 7) (k := 0) (n := 3) rfl rfl rfl ?_
    exact kw_ireturn (pc := 12) (i := 8) (ty := .int) rfl rfl rfl ⟨⟨I6, F8⟩, _, rfl, hF⟩
noncomputable def l_X7_areas_0_19 (a1 : Int32) (a2 : Int32) (a3 : Int32) (S : kw_S) : Nat → Int32 → Int32 → Int32 × kw_S
  | 0, _, _ => (0, S)
  | n + 1, x4, x5 => if (9 : Int32).toInt < x5.toInt then ((x4, S)) else (kf_l (S.1 44 a1.toNatClampNeg) fun z3 => kf_l (f_X7_pulledSo_0 S a2 z3 x5) fun z4 => if z4.toInt = 0 then (kf_l (x5 + Int32.ofInt 1) fun z5 => l_X7_areas_0_19 a1 a2 a3 S n x4 z5) else (kf_l ((1 : Int32) <<< (x5 &&& 31)) fun z6 => kf_l (x4 ||| z6) fun z7 => kf_l (x5 + Int32.ofInt 1) fun z8 => l_X7_areas_0_19 a1 a2 a3 S n z7 z8))
theorem l_X7_areas_0_19_s (a1 : Int32) (a2 : Int32) (a3 : Int32) (S : kw_S) (n : Nat) (x4 : Int32) (x5 : Int32) : l_X7_areas_0_19 a1 a2 a3 S (n + 1) x4 x5 = if (9 : Int32).toInt < x5.toInt then ((x4, S)) else (kf_l (S.1 44 a1.toNatClampNeg) fun z3 => kf_l (f_X7_pulledSo_0 S a2 z3 x5) fun z4 => if z4.toInt = 0 then (kf_l (x5 + Int32.ofInt 1) fun z5 => l_X7_areas_0_19 a1 a2 a3 S n x4 z5) else (kf_l ((1 : Int32) <<< (x5 &&& 31)) fun z6 => kf_l (x4 ||| z6) fun z7 => kf_l (x5 + Int32.ofInt 1) fun z8 => l_X7_areas_0_19 a1 a2 a3 S n z7 z8)) := rfl
noncomputable def f_X7_areas_0 (σ : kw_S) (i : Int32) (a : Int32) : Int32 × kw_S := kf_b (f_X7_pairsRefusal_0 σ i a) fun z1 S2 => if z1.toInt = 0 then (l_X7_areas_0_19 i a z1 S2 ((10 - (1 : Int32).toInt).toNat + 1) (0 : Int32) (1 : Int32)) else ((z1, S2))
theorem f_X7_areas_0_u (σ : kw_S) (i : Int32) (a : Int32) : f_X7_areas_0 σ i a = kf_b (f_X7_pairsRefusal_0 σ i a) fun z1 S2 => if z1.toInt = 0 then (l_X7_areas_0_19 i a z1 S2 ((10 - (1 : Int32).toInt).toNat + 1) (0 : Int32) (1 : Int32)) else ((z1, S2)) := rfl
abbrev p_X7_areas_0 (σ : kw_S) (i : Int32) (a : Int32) : Option Value → kw_S → Prop := fun vv σ' => (kw_I bX σ' ∧ kw_F [8, 28] σ σ') ∧ ∃ r : Int32, vv = some (.int r) ∧ (r, σ') = f_X7_areas_0 σ i a
set_option maxRecDepth 100000 in
set_option maxHeartbeats 4000000 in
theorem c_X7_areas_0 (l : Launch) (σ : kw_S) (hI : kw_I bX σ) (i : Int32) (a : Int32) : kw_Met l 5 KX mX7_areas [.ref 0, .int i, .int a] σ (p_X7_areas_0 σ i a) := by
  have r_i := kw_rng i
  have r_a := kw_rng a
  have hF0 : kw_F [8, 28] σ σ := kw_F.rf
  have hF := (f_X7_areas_0_u σ i a).symm
  have q_0 : (0 : Int32).toInt = 0 := rfl
  have q_1 : (1 : Int32).toInt = 1 := rfl
  have q_9 : (9 : Int32).toInt = 9 := rfl
  refine kw_Met.of (by decide) rfl tX7_areas (Nat.le_of_ble_eq_true rfl) ?_
  show kw_AW l 5 kw_E0 KX mX7_areas (p_X7_areas_0 σ i a) 0 [(0, .ref 0), (1, .int i), (2, .int a)] [] σ
  refine kw_aload_n (pc := 0) (i := 0) (k := 0) (n := 0) rfl rfl rfl ?_
  refine kw_iload_n (pc := 1) (i := 1) (k := 1) (n := 1) rfl rfl rfl ?_
  refine kw_iload_n (pc := 2) (i := 2) (k := 2) (n := 2) rfl rfl rfl ?_
  refine kw_callV (pc := 3) (i := 3) (Y := mX7_pairsRefusal) (a := 0) (As := [.int i, .int a]) (st := []) kw_hE rfl rfl lvX7_282 arX7_pairsRefusal (c_X7_pairsRefusal_0 l σ hI i a ) (by decide) (Nat.le_of_ble_eq_true rfl) rfl (fun v S2 p1 => ?_)
  obtain ⟨⟨I6, F7⟩, z5, rfl, f3, ef4⟩ := p1
  have F8 : kw_F [8, 28] σ S2 := kw_F.tr hF0 F7 (by decide)
  replace hF := kf_be ef4 hF
  have r_z5 := kw_rng z5
  show kw_AW l 5 kw_E0 KX mX7_areas (p_X7_areas_0 σ i a) 6 [(0, .ref 0), (1, .int i), (2, .int a)] [.int z5] S2
  refine kw_istore_n (pc := 6) (i := 4) (n := 3) (lv' := [(3, .int z5), (0, .ref 0), (1, .int i), (2, .int a)]) rfl rfl (by decide) rfl ?_
  refine kw_iload_n (pc := 7) (i := 5) (k := 0) (n := 3) rfl rfl rfl ?_
  refine kw_if_eq (pc := 8) (i := 6) (tgt := 13) rfl rfl (fun c9 => ?_) (fun c9 => ?_)
  · replace hF := kf_p c9 hF
    refine kw_iconst (pc := 13) (i := 9) (v := 0) rfl rfl ?_
    refine kw_istore (pc := 14) (i := 10) (n := 4) (lv' := [(4, .int 0), (3, .int z5), (0, .ref 0), (1, .int i), (2, .int a)]) rfl (by decide) rfl ?_
    refine kw_iconst (pc := 16) (i := 11) (v := 1) rfl rfl ?_
    refine kw_istore (pc := 17) (i := 12) (n := 5) (lv' := [(5, .int 1), (4, .int 0), (3, .int z5), (0, .ref 0), (1, .int i), (2, .int a)]) rfl (by decide) rfl ?_
    have L12 : ∀ (n16 : Nat) (x10 : Int32) (x11 : Int32), 1 ≤ x10.toInt → l_X7_areas_0_19 i a z5 S2 n16 x11 x10 = (f_X7_areas_0 σ i a) → (10 - x10.toInt).toNat < n16 → kw_AW l 5 kw_E0 KX mX7_areas (p_X7_areas_0 σ i a) 19 [(5, .int x10), (4, .int x11), (3, .int z5), (0, .ref 0), (1, .int i), (2, .int a)] [] S2 := by
      intro n16
      induction n16 with
      | zero => intro x10 x11 v14 hF m15; exact absurd m15 (Nat.not_lt_zero _)
      | succ n16 ih13 =>
        intro x10 x11 v14 hF m15
        replace hF := kf_st (l_X7_areas_0_19_s _ _ _ _ _ _ _) hF
        have r_x10 := kw_rng x10
        have r_x11 := kw_rng x11
        refine kw_iload (pc := 19) (i := 13) (k := 0) (n := 5) rfl rfl ?_
        refine kw_bipush (pc := 21) (i := 14) (v := 9) rfl rfl ?_
        refine kw_icmp_gt (pc := 23) (i := 15) (tgt := 63) rfl rfl (fun c17 => ?_) (fun c17 => ?_)
        · replace hF := kf_p c17 hF
          refine kw_iload (pc := 63) (i := 35) (k := 1) (n := 4) rfl rfl ?_
          exact kw_ireturn (pc := 65) (i := 36) (ty := .int) rfl rfl rfl ⟨⟨I6, F8⟩, _, rfl, hF⟩
        · replace hF := kf_nl c17 hF
          refine kw_aload_n (pc := 26) (i := 16) (k := 3) (n := 0) rfl rfl rfl ?_
          refine kw_iload_n (pc := 27) (i := 17) (k := 5) (n := 2) rfl rfl rfl ?_
          refine kw_aload_n (pc := 28) (i := 18) (k := 3) (n := 0) rfl rfl rfl ?_
          refine kw_get (pc := 29) (i := 19) (v := .ref 4) rfl rfl rfl lkX7_31 (fun _ => rfl) ?_
          refine kw_get (pc := 32) (i := 20) (v := .ref 17) rfl rfl rfl lkX7_117 (fun _ => rfl) ?_
          refine kw_get (pc := 35) (i := 21) (v := .ref 44) rfl rfl rfl lkX7_143 (fun _ => rfl) ?_
          refine kw_iload_n (pc := 38) (i := 22) (k := 4) (n := 1) rfl rfl rfl ?_
          refine kw_iald (pc := 39) (i := 23) (n := 6) rfl rfl (by omega) (by omega) (fun z18 e_z18 => ?_)
          replace hF := kf_le e_z18 hF
          have t_z18 := congrArg Int32.toInt e_z18
          have r_z18 := kw_rng z18
          refine kw_iload (pc := 40) (i := 24) (k := 0) (n := 5) rfl rfl ?_
          refine kw_callV (pc := 42) (i := 25) (Y := mX7_pulledSo) (a := 0) (As := [.int a, .int z18, .int x10]) (st := []) kw_hE rfl rfl lvX7_285 arX7_pulledSo (c_X7_pulledSo_0 l S2 I6 a z18 x10 ) (by decide) (Nat.le_of_ble_eq_true rfl) rfl (fun v S20 p19 => ?_)
          obtain ⟨e24, z23, rfl, f21, ef22⟩ := p19
          rw [e24]
          replace hF := kf_le ef22 hF
          have r_z23 := kw_rng z23
          show kw_AW l 5 kw_E0 KX mX7_areas (p_X7_areas_0 σ i a) 45 [(5, .int x10), (4, .int x11), (3, .int z5), (0, .ref 0), (1, .int i), (2, .int a)] [.int z23] S2
          refine kw_if_eq (pc := 45) (i := 26) (tgt := 57) rfl rfl (fun c25 => ?_) (fun c25 => ?_)
          · replace hF := kf_p c25 hF
            refine kw_iinc' (pc := 57) (i := 33) (k := 0) (fun z => [(5, .int z), (4, .int x11), (3, .int z5), (0, .ref 0), (1, .int i), (2, .int a)]) rfl rfl (by decide) rfl (fun _ => rfl) (fun z26 e_z26 t_z26 => ?_)
            replace hF := kf_le e_z26 hF
            refine kw_goto (pc := 60) (i := 34) (tgt := 19) rfl rfl ?_
            refine kw_sub (lv' := [(5, .int z26), (4, .int x11), (3, .int z5), (0, .ref 0), (1, .int i), (2, .int a)]) [0, 1, 2, 3, 4, 5] rfl ?_
            exact ih13 z26 x11 (by omega) hF (by omega)
          · replace hF := kf_n c25 hF
            refine kw_iload (pc := 48) (i := 27) (k := 1) (n := 4) rfl rfl ?_
            refine kw_iconst (pc := 50) (i := 28) (v := 1) rfl rfl ?_
            refine kw_iload (pc := 51) (i := 29) (k := 0) (n := 5) rfl rfl ?_
            refine kw_ishl (pc := 53) (i := 30) rfl (fun z27 e_z27 => ?_)
            have r_z27 := kw_rng z27
            replace hF := kf_le e_z27 hF
            refine kw_ior (pc := 54) (i := 31) rfl (fun z28 e_z28 => ?_)
            have r_z28 := kw_rng z28
            replace hF := kf_le e_z28 hF
            refine kw_istore (pc := 55) (i := 32) (n := 4) (lv' := [(4, .int z28), (5, .int x10), (3, .int z5), (0, .ref 0), (1, .int i), (2, .int a)]) rfl (by decide) rfl ?_
            refine kw_iinc' (pc := 57) (i := 33) (k := 1) (fun z => [(5, .int z), (4, .int z28), (3, .int z5), (0, .ref 0), (1, .int i), (2, .int a)]) rfl rfl (by decide) rfl (fun _ => rfl) (fun z29 e_z29 t_z29 => ?_)
            replace hF := kf_le e_z29 hF
            refine kw_goto (pc := 60) (i := 34) (tgt := 19) rfl rfl ?_
            refine kw_sub (lv' := [(5, .int z29), (4, .int z28), (3, .int z5), (0, .ref 0), (1, .int i), (2, .int a)]) [0, 1, 2, 3, 4, 5] rfl ?_
            exact ih13 z29 z28 (by omega) hF (by omega)
    exact L12 _ 1 0 (by omega) hF (Nat.lt_succ_self _)
  · replace hF := kf_n c9 hF
    refine kw_iload_n (pc := 11) (i := 7) (k := 0) (n := 3) rfl rfl rfl ?_
    exact kw_ireturn (pc := 12) (i := 8) (ty := .int) rfl rfl rfl ⟨⟨I6, F8⟩, _, rfl, hF⟩
noncomputable def f_X7_rival_0 (σ : kw_S) (n : Int32) : Int32 × kw_S := if n.toInt < 0 then ((((-1) : Int32), σ)) else (if (2 : Int32).toInt < n.toInt then ((((-1) : Int32), σ)) else (kf_l (f_X5_isEmpty_4 σ) fun z1 => if z1.toInt = 0 then (kf_l (f_X5_windNow_4 σ) fun z2 => kf_l (f_X0_draw_6_17 σ z2) fun S3 => kf_l ((2 : Int32) * n) fun z4 => kf_l (f_X7_play_6 4 S3 (S3.1 4 4) z4) fun z5 => kf_b (f_X4_answer_8 S3 z5) fun z6 S7 => (z6, S7)) else ((((-4) : Int32), σ))))
theorem f_X7_rival_0_u (σ : kw_S) (n : Int32) : f_X7_rival_0 σ n = if n.toInt < 0 then ((((-1) : Int32), σ)) else (if (2 : Int32).toInt < n.toInt then ((((-1) : Int32), σ)) else (kf_l (f_X5_isEmpty_4 σ) fun z1 => if z1.toInt = 0 then (kf_l (f_X5_windNow_4 σ) fun z2 => kf_l (f_X0_draw_6_17 σ z2) fun S3 => kf_l ((2 : Int32) * n) fun z4 => kf_l (f_X7_play_6 4 S3 (S3.1 4 4) z4) fun z5 => kf_b (f_X4_answer_8 S3 z5) fun z6 S7 => (z6, S7)) else ((((-4) : Int32), σ)))) := rfl
abbrev p_X7_rival_0 (σ : kw_S) (n : Int32) : Option Value → kw_S → Prop := fun vv σ' => (kw_I bX σ' ∧ kw_F [8, 28, 6, 22, 23] σ σ') ∧ ∃ r : Int32, vv = some (.int r) ∧ ((n.toInt < 0 ∨ 2 < n.toInt) ∧ r.toInt = -1 ∨ 0 ≤ n.toInt ∧ n.toInt ≤ 2 ∧ (σ.1 17 5).toInt < 1 ∧ r.toInt = -4 ∨ 0 ≤ n.toInt ∧ n.toInt ≤ 2 ∧ 1 ≤ (σ.1 17 5).toInt ∧ r.toInt = 1) ∧ (r, σ') = f_X7_rival_0 σ n
set_option maxRecDepth 100000 in
set_option maxHeartbeats 4000000 in
theorem c_X7_rival_0 (l : Launch) (σ : kw_S) (hI : kw_I bX σ) (n : Int32) : kw_Met l 7 KX mX7_rival [.ref 0, .int n] σ (p_X7_rival_0 σ n) := by
  have r_n := kw_rng n
  have hF0 : kw_F [8, 28, 6, 22, 23] σ σ := kw_F.rf
  have hF := (f_X7_rival_0_u σ n).symm
  have q_m4 : (-4 : Int32).toInt = -4 := rfl
  have q_m1 : (-1 : Int32).toInt = -1 := rfl
  have q_2 : (2 : Int32).toInt = 2 := rfl
  refine kw_Met.of (by decide) rfl tX7_rival (Nat.le_of_ble_eq_true rfl) ?_
  show kw_AW l 7 kw_E0 KX mX7_rival (p_X7_rival_0 σ n) 0 [(0, .ref 0), (1, .int n)] [] σ
  refine kw_iload_n (pc := 0) (i := 0) (k := 1) (n := 1) rfl rfl rfl ?_
  refine kw_if_lt (pc := 1) (i := 1) (tgt := 9) rfl rfl (fun c1 => ?_) (fun c1 => ?_)
  · replace hF := kf_p c1 hF
    refine kw_iconst (pc := 9) (i := 5) (v := (-1)) rfl rfl ?_
    exact kw_ireturn (pc := 10) (i := 6) (ty := .int) rfl rfl rfl ⟨⟨hI, hF0⟩, _, rfl, by omega, hF⟩
  · replace hF := kf_nl c1 hF
    refine kw_iload_n (pc := 4) (i := 2) (k := 1) (n := 1) rfl rfl rfl ?_
    refine kw_iconst (pc := 5) (i := 3) (v := 2) rfl rfl ?_
    refine kw_icmp_le (pc := 6) (i := 4) (tgt := 11) rfl rfl (fun c2 => ?_) (fun c2 => ?_)
    · replace hF := kf_nl c2 hF
      refine kw_aload_n (pc := 11) (i := 7) (k := 0) (n := 0) rfl rfl rfl ?_
      refine kw_get (pc := 12) (i := 8) (v := .ref 4) rfl rfl rfl lkX7_31 (fun _ => rfl) ?_
      refine kw_callV (pc := 15) (i := 9) (Y := mX5_isEmpty) (a := 4) (As := []) (st := []) kw_hE rfl rfl lvX7_178 arX5_isEmpty (c_X5_isEmpty_4 l σ hI  ) (by decide) (Nat.le_of_ble_eq_true rfl) rfl (fun v S4 p3 => ?_)
      obtain ⟨e10, z9, rfl, f5, f6, f7, ef8⟩ := p3
      rw [e10]
      replace hF := kf_le ef8 hF
      have r_z9 := kw_rng z9
      show kw_AW l 7 kw_E0 KX mX7_rival (p_X7_rival_0 σ n) 18 [(0, .ref 0), (1, .int n)] [.int z9] σ
      refine kw_if_eq (pc := 18) (i := 10) (tgt := 24) rfl rfl (fun c11 => ?_) (fun c11 => ?_)
      · replace hF := kf_p c11 hF
        refine kw_aload_n (pc := 24) (i := 13) (k := 0) (n := 0) rfl rfl rfl ?_
        refine kw_get (pc := 25) (i := 14) (v := .ref 6) rfl rfl rfl lkX7_41 (fun _ => rfl) ?_
        refine kw_aload_n (pc := 28) (i := 15) (k := 0) (n := 0) rfl rfl rfl ?_
        refine kw_get (pc := 29) (i := 16) (v := .ref 4) rfl rfl rfl lkX7_31 (fun _ => rfl) ?_
        refine kw_get (pc := 32) (i := 17) (v := .ref 17) rfl rfl rfl lkX7_117 (fun _ => rfl) ?_
        refine kw_aload_n (pc := 35) (i := 18) (k := 0) (n := 0) rfl rfl rfl ?_
        refine kw_get (pc := 36) (i := 19) (v := .ref 4) rfl rfl rfl lkX7_31 (fun _ => rfl) ?_
        refine kw_callV (pc := 39) (i := 20) (Y := mX5_windNow) (a := 4) (As := []) (st := [.ref 17, .ref 6]) kw_hE rfl rfl lvX7_171 arX5_windNow (c_X5_windNow_4 l σ hI  ) (by decide) (Nat.le_of_ble_eq_true rfl) rfl (fun v S13 p12 => ?_)
        obtain ⟨e16, z15, rfl, ef14⟩ := p12
        rw [e16]
        replace hF := kf_le ef14 hF
        have r_z15 := kw_rng z15
        show kw_AW l 7 kw_E0 KX mX7_rival (p_X7_rival_0 σ n) 42 [(0, .ref 0), (1, .int n)] [.int z15, .ref 17, .ref 6] σ
        refine kw_callV (pc := 42) (i := 21) (Y := mX0_draw) (a := 6) (As := [.ref 17, .int z15]) (st := []) kw_hE rfl rfl lvX7_225 arX0_draw (c_X0_draw_6_17 l σ hI z15 ) (by decide) (Nat.le_of_ble_eq_true rfl) rfl (fun v S18 p17 => ?_)
        obtain ⟨⟨I20, F21⟩, rfl, ef19⟩ := p17
        have F22 : kw_F [8, 28, 6, 22, 23] σ S18 := kw_F.tr hF0 F21 (by decide)
        replace hF := kf_le ef19 hF
        show kw_AW l 7 kw_E0 KX mX7_rival (p_X7_rival_0 σ n) 45 [(0, .ref 0), (1, .int n)] [] S18
        refine kw_aload_n (pc := 45) (i := 22) (k := 0) (n := 0) rfl rfl rfl ?_
        refine kw_get (pc := 46) (i := 23) (v := .ref 8) rfl rfl rfl lkX7_55 (fun _ => rfl) ?_
        refine kw_aload_n (pc := 49) (i := 24) (k := 0) (n := 0) rfl rfl rfl ?_
        refine kw_get (pc := 50) (i := 25) (v := .ref 6) rfl rfl rfl lkX7_41 (fun _ => rfl) ?_
        refine kw_aload_n (pc := 53) (i := 26) (k := 0) (n := 0) rfl rfl rfl ?_
        refine kw_get (pc := 54) (i := 27) (v := .ref 4) rfl rfl rfl lkX7_31 (fun _ => rfl) ?_
        refine kw_get (pc := 57) (i := 28) (v := .int (S18.1 4 4)) rfl rfl rfl lkX7_157 (fun _ => rfl) ?_
        have b23 := kw_rng (S18.1 4 4)
        refine kw_iconst (pc := 60) (i := 29) (v := 2) rfl rfl ?_
        refine kw_iload_n (pc := 61) (i := 30) (k := 1) (n := 1) rfl rfl rfl ?_
        refine kw_imul (pc := 62) (i := 31) rfl (fun z24 e_z24 t_z24 => ?_)
        replace hF := kf_le e_z24 hF
        rw [show (2 : Int32).toInt = 2 from rfl] at t_z24
        refine kw_callS (pc := 63) (i := 32) (Y := mX7_play) (As := [.ref 6, .int (S18.1 4 4), .int z24]) (st := [.ref 8]) kw_hE rfl lsX7_288 arX7_play (c_X7_play_6 l 4 S18 I20 (S18.1 4 4) z24 (by first | omega | decide)) (by decide) (Nat.le_of_ble_eq_true rfl) rfl (fun v S26 p25 => ?_)
        obtain ⟨e29, z28, rfl, ef27⟩ := p25
        rw [e29]
        replace hF := kf_le ef27 hF
        have r_z28 := kw_rng z28
        show kw_AW l 7 kw_E0 KX mX7_rival (p_X7_rival_0 σ n) 66 [(0, .ref 0), (1, .int n)] [.int z28, .ref 8] S18
        refine kw_callV (pc := 66) (i := 33) (Y := mX4_answer) (a := 8) (As := [.int z28]) (st := []) kw_hE rfl rfl lvX7_92 arX4_answer (c_X4_answer_8 l S18 I20 z28 ) (by decide) (Nat.le_of_ble_eq_true rfl) rfl (fun v S31 p30 => ?_)
        obtain ⟨⟨I35, F36⟩, z34, rfl, f32, ef33⟩ := p30
        have F37 : kw_F [8, 28, 6, 22, 23] σ S31 := kw_F.tr F22 F36 (by decide)
        replace hF := kf_be ef33 hF
        have r_z34 := kw_rng z34
        show kw_AW l 7 kw_E0 KX mX7_rival (p_X7_rival_0 σ n) 69 [(0, .ref 0), (1, .int n)] [.int z34] S31
        exact kw_ireturn (pc := 69) (i := 34) (ty := .int) rfl rfl rfl ⟨⟨I35, F37⟩, _, rfl, by omega, hF⟩
      · replace hF := kf_n c11 hF
        refine kw_bipush (pc := 21) (i := 11) (v := (-4)) rfl rfl ?_
        exact kw_ireturn (pc := 23) (i := 12) (ty := .int) rfl rfl rfl ⟨⟨hI, hF0⟩, _, rfl, by omega, hF⟩
    · replace hF := kf_p c2 hF
      refine kw_iconst (pc := 9) (i := 5) (v := (-1)) rfl rfl ?_
      exact kw_ireturn (pc := 10) (i := 6) (ty := .int) rfl rfl rfl ⟨⟨hI, hF0⟩, _, rfl, by omega, hF⟩
noncomputable def l_X7_mid_0_46 (a1 : Int32) (a2 : Int32) (a3 : Int32) (S : kw_S) : Nat → Int64 → Int32 → Int32 × kw_S
  | 0, _, _ => (0, S)
  | n + 1, x4, x6 => kf_l (f_X3_sizeOf_1 S a1) fun z6 => if x6.toInt < z6.toInt then (kf_l ((12 : Int32) - a2) fun z8 => kf_l (S.1 10 x6.toNatClampNeg) fun z9 => kf_l (z8 * z9) fun z10 => kf_l (S.1 11 x6.toNatClampNeg) fun z11 => kf_l (a2 * z11) fun z12 => kf_l (z10 + z12) fun z13 => kf_l z13.toInt64 fun z14 => kf_l (x4 + z14) fun z15 => kf_l (x6 + Int32.ofInt 1) fun z16 => l_X7_mid_0_46 a1 a2 a3 S n z15 z16) else (kf_l (f_X4_tellShare_8 S x4 (12 : Int64)) fun S7 => ((1 : Int32), S7))
theorem l_X7_mid_0_46_s (a1 : Int32) (a2 : Int32) (a3 : Int32) (S : kw_S) (n : Nat) (x4 : Int64) (x6 : Int32) : l_X7_mid_0_46 a1 a2 a3 S (n + 1) x4 x6 = kf_l (f_X3_sizeOf_1 S a1) fun z6 => if x6.toInt < z6.toInt then (kf_l ((12 : Int32) - a2) fun z8 => kf_l (S.1 10 x6.toNatClampNeg) fun z9 => kf_l (z8 * z9) fun z10 => kf_l (S.1 11 x6.toNatClampNeg) fun z11 => kf_l (a2 * z11) fun z12 => kf_l (z10 + z12) fun z13 => kf_l z13.toInt64 fun z14 => kf_l (x4 + z14) fun z15 => kf_l (x6 + Int32.ofInt 1) fun z16 => l_X7_mid_0_46 a1 a2 a3 S n z15 z16) else (kf_l (f_X4_tellShare_8 S x4 (12 : Int64)) fun S7 => ((1 : Int32), S7)) := rfl
noncomputable def f_X7_mid_0 (σ : kw_S) (a : Int32) (p : Int32) : Int32 × kw_S := if p.toInt < 0 then ((((-1) : Int32), σ)) else (if (12 : Int32).toInt < p.toInt then ((((-1) : Int32), σ)) else (kf_b (f_X7_planRefusal_0 σ a) fun z1 S2 => if z1.toInt = 0 then (kf_l (f_X7_foresee_0 S2 a) fun S3 => kf_l (S3.1 4 6).toInt64 fun z4 => kf_l ((12 : Int64) * z4) fun z5 => l_X7_mid_0_46 a p z1 S3 ((41 - (0 : Int32).toInt).toNat + 1) z5 (0 : Int32)) else ((z1, S2))))
theorem f_X7_mid_0_u (σ : kw_S) (a : Int32) (p : Int32) : f_X7_mid_0 σ a p = if p.toInt < 0 then ((((-1) : Int32), σ)) else (if (12 : Int32).toInt < p.toInt then ((((-1) : Int32), σ)) else (kf_b (f_X7_planRefusal_0 σ a) fun z1 S2 => if z1.toInt = 0 then (kf_l (f_X7_foresee_0 S2 a) fun S3 => kf_l (S3.1 4 6).toInt64 fun z4 => kf_l ((12 : Int64) * z4) fun z5 => l_X7_mid_0_46 a p z1 S3 ((41 - (0 : Int32).toInt).toNat + 1) z5 (0 : Int32)) else ((z1, S2)))) := rfl
abbrev p_X7_mid_0 (σ : kw_S) (a : Int32) (p : Int32) : Option Value → kw_S → Prop := fun vv σ' => (kw_I bX σ' ∧ kw_F [8, 28, 10, 11] σ σ') ∧ ∃ r : Int32, vv = some (.int r) ∧ (r, σ') = f_X7_mid_0 σ a p
set_option maxRecDepth 100000 in
set_option maxHeartbeats 4000000 in
theorem c_X7_mid_0 (l : Launch) (σ : kw_S) (hI : kw_I bX σ) (a : Int32) (p : Int32) : kw_Met l 5 KX mX7_mid [.ref 0, .int a, .int p] σ (p_X7_mid_0 σ a p) := by
  have r_a := kw_rng a
  have r_p := kw_rng p
  have hF0 : kw_F [8, 28, 10, 11] σ σ := kw_F.rf
  have hF := (f_X7_mid_0_u σ a p).symm
  have q_m1 : (-1 : Int32).toInt = -1 := rfl
  have q_0 : (0 : Int32).toInt = 0 := rfl
  have q_1 : (1 : Int32).toInt = 1 := rfl
  have q_12 : (12 : Int32).toInt = 12 := rfl
  refine kw_Met.of (by decide) rfl tX7_mid (Nat.le_of_ble_eq_true rfl) ?_
  show kw_AW l 5 kw_E0 KX mX7_mid (p_X7_mid_0 σ a p) 0 [(0, .ref 0), (1, .int a), (2, .int p)] [] σ
  refine kw_iload_n (pc := 0) (i := 0) (k := 2) (n := 2) rfl rfl rfl ?_
  refine kw_if_lt (pc := 1) (i := 1) (tgt := 10) rfl rfl (fun c1 => ?_) (fun c1 => ?_)
  · replace hF := kf_p c1 hF
    refine kw_iconst (pc := 10) (i := 5) (v := (-1)) rfl rfl ?_
    exact kw_ireturn (pc := 11) (i := 6) (ty := .int) rfl rfl rfl ⟨⟨hI, hF0⟩, _, rfl, hF⟩
  · replace hF := kf_nl c1 hF
    refine kw_iload_n (pc := 4) (i := 2) (k := 2) (n := 2) rfl rfl rfl ?_
    refine kw_bipush (pc := 5) (i := 3) (v := 12) rfl rfl ?_
    refine kw_icmp_le (pc := 7) (i := 4) (tgt := 12) rfl rfl (fun c2 => ?_) (fun c2 => ?_)
    · replace hF := kf_nl c2 hF
      refine kw_aload_n (pc := 12) (i := 7) (k := 0) (n := 0) rfl rfl rfl ?_
      refine kw_iload_n (pc := 13) (i := 8) (k := 1) (n := 1) rfl rfl rfl ?_
      refine kw_callV (pc := 14) (i := 9) (Y := mX7_planRefusal) (a := 0) (As := [.int a]) (st := []) kw_hE rfl rfl lvX7_250 arX7_planRefusal (c_X7_planRefusal_0 l σ hI a ) (by decide) (Nat.le_of_ble_eq_true rfl) rfl (fun v S4 p3 => ?_)
      obtain ⟨⟨I8, F9⟩, z7, rfl, f5, ef6⟩ := p3
      have F10 : kw_F [8, 28, 10, 11] σ S4 := kw_F.tr hF0 F9 (by decide)
      replace hF := kf_be ef6 hF
      have r_z7 := kw_rng z7
      show kw_AW l 5 kw_E0 KX mX7_mid (p_X7_mid_0 σ a p) 17 [(0, .ref 0), (1, .int a), (2, .int p)] [.int z7] S4
      refine kw_istore_n (pc := 17) (i := 10) (n := 3) (lv' := [(3, .int z7), (0, .ref 0), (1, .int a), (2, .int p)]) rfl rfl (by decide) rfl ?_
      refine kw_iload_n (pc := 18) (i := 11) (k := 0) (n := 3) rfl rfl rfl ?_
      refine kw_if_eq (pc := 19) (i := 12) (tgt := 24) rfl rfl (fun c11 => ?_) (fun c11 => ?_)
      · replace hF := kf_p c11 hF
        refine kw_aload_n (pc := 24) (i := 15) (k := 1) (n := 0) rfl rfl rfl ?_
        refine kw_iload_n (pc := 25) (i := 16) (k := 2) (n := 1) rfl rfl rfl ?_
        refine kw_callV (pc := 26) (i := 17) (Y := mX7_foresee) (a := 0) (As := [.int a]) (st := []) kw_hE rfl rfl lvX7_292 arX7_foresee (c_X7_foresee_0 l S4 I8 a ) (by decide) (Nat.le_of_ble_eq_true rfl) rfl (fun v S13 p12 => ?_)
        obtain ⟨⟨I15, F16⟩, rfl, ef14⟩ := p12
        have F17 : kw_F [8, 28, 10, 11] σ S13 := kw_F.tr F10 F16 (by decide)
        replace hF := kf_le ef14 hF
        show kw_AW l 5 kw_E0 KX mX7_mid (p_X7_mid_0 σ a p) 29 [(3, .int z7), (0, .ref 0), (1, .int a), (2, .int p)] [] S13
        have w_s := congrArg Int32.toInt (kw_F.at (a := 13) (j := a.toNatClampNeg) F16 (by decide))
        refine kw_ldc2 (pc := 29) (i := 18) (v := 12) rfl ckX7_295 ?_
        refine kw_aload_n (pc := 32) (i := 19) (k := 1) (n := 0) rfl rfl rfl ?_
        refine kw_get (pc := 33) (i := 20) (v := .ref 4) rfl rfl rfl lkX7_31 (fun _ => rfl) ?_
        refine kw_get (pc := 36) (i := 21) (v := .int (S13.1 4 6)) rfl rfl rfl lkX7_204 (fun _ => rfl) ?_
        have b18 := kw_rng (S13.1 4 6)
        refine kw_i2l (pc := 39) (i := 22) rfl (fun z19 e_z19 t_z19 => ?_)
        replace hF := kf_le e_z19 hF
        refine kw_lmul (pc := 40) (i := 23) rfl (fun z20 e_z20 => ?_)
        replace hF := kf_le e_z20 hF
        refine kw_lstore (pc := 41) (i := 24) (n := 4) (lv' := [(4, .long z20), (3, .int z7), (0, .ref 0), (1, .int a), (2, .int p)]) rfl (by decide) rfl ?_
        refine kw_iconst (pc := 43) (i := 25) (v := 0) rfl rfl ?_
        refine kw_istore (pc := 44) (i := 26) (n := 6) (lv' := [(6, .int 0), (4, .long z20), (3, .int z7), (0, .ref 0), (1, .int a), (2, .int p)]) rfl (by decide) rfl ?_
        have L23 : ∀ (n27 : Nat) (x21 : Int32) (x22 : Int64), 0 ≤ x21.toInt → l_X7_mid_0_46 a p z7 S13 n27 x22 x21 = (f_X7_mid_0 σ a p) → (41 - x21.toInt).toNat < n27 → kw_AW l 5 kw_E0 KX mX7_mid (p_X7_mid_0 σ a p) 46 [(6, .int x21), (4, .long x22), (3, .int z7), (0, .ref 0), (1, .int a), (2, .int p)] [] S13 := by
          intro n27
          induction n27 with
          | zero => intro x21 x22 v25 hF m26; exact absurd m26 (Nat.not_lt_zero _)
          | succ n27 ih24 =>
            intro x21 x22 v25 hF m26
            replace hF := kf_st (l_X7_mid_0_46_s _ _ _ _ _ _ _) hF
            have r_x21 := kw_rng x21
            refine kw_iload (pc := 46) (i := 27) (k := 0) (n := 6) rfl rfl ?_
            refine kw_aload_n (pc := 48) (i := 28) (k := 3) (n := 0) rfl rfl rfl ?_
            refine kw_get (pc := 49) (i := 29) (v := .ref 1) rfl rfl rfl lkX7_14 (fun _ => rfl) ?_
            refine kw_iload_n (pc := 52) (i := 30) (k := 4) (n := 1) rfl rfl rfl ?_
            refine kw_callV (pc := 53) (i := 31) (Y := mX3_sizeOf) (a := 1) (As := [.int a]) (st := [.int x21]) kw_hE rfl rfl lvX7_110 arX3_sizeOf (c_X3_sizeOf_1 l S13 I15 a ) (by decide) (Nat.le_of_ble_eq_true rfl) rfl (fun v S29 p28 => ?_)
            obtain ⟨e36, z35, rfl, f30, f31, f32, f33, ef34⟩ := p28
            rw [e36]
            replace hF := kf_le ef34 hF
            have r_z35 := kw_rng z35
            show kw_AW l 5 kw_E0 KX mX7_mid (p_X7_mid_0 σ a p) 56 [(6, .int x21), (4, .long x22), (3, .int z7), (0, .ref 0), (1, .int a), (2, .int p)] [.int z35, .int x21] S13
            refine kw_icmp_ge (pc := 56) (i := 32) (tgt := 93) rfl rfl (fun c37 => ?_) (fun c37 => ?_)
            · replace hF := kf_nl c37 hF
              refine kw_aload_n (pc := 93) (i := 54) (k := 3) (n := 0) rfl rfl rfl ?_
              refine kw_get (pc := 94) (i := 55) (v := .ref 8) rfl rfl rfl lkX7_55 (fun _ => rfl) ?_
              refine kw_lload (pc := 97) (i := 56) (k := 1) (n := 4) rfl rfl ?_
              refine kw_ldc2 (pc := 99) (i := 57) (v := 12) rfl ckX7_295 ?_
              refine kw_callV (pc := 102) (i := 58) (Y := mX4_tellShare) (a := 8) (As := [.long x22, .long 12]) (st := []) kw_hE rfl rfl lvX7_297 arX4_tellShare (c_X4_tellShare_8 l S13 I15 x22 12 ) (by decide) (Nat.le_of_ble_eq_true rfl) rfl (fun v S39 p38 => ?_)
              obtain ⟨⟨I41, F42⟩, rfl, ef40⟩ := p38
              have F43 : kw_F [8, 28, 10, 11] σ S39 := kw_F.tr F17 F42 (by decide)
              replace hF := kf_le ef40 hF
              show kw_AW l 5 kw_E0 KX mX7_mid (p_X7_mid_0 σ a p) 105 [(6, .int x21), (4, .long x22), (3, .int z7), (0, .ref 0), (1, .int a), (2, .int p)] [] S39
              refine kw_iconst (pc := 105) (i := 59) (v := 1) rfl rfl ?_
              exact kw_ireturn (pc := 106) (i := 60) (ty := .int) rfl rfl rfl ⟨⟨I41, F43⟩, _, rfl, hF⟩
            · replace hF := kf_p c37 hF
              refine kw_lload (pc := 59) (i := 33) (k := 1) (n := 4) rfl rfl ?_
              refine kw_bipush (pc := 61) (i := 34) (v := 12) rfl rfl ?_
              refine kw_iload_n (pc := 63) (i := 35) (k := 5) (n := 2) rfl rfl rfl ?_
              refine kw_isub (pc := 64) (i := 36) rfl (fun z44 e_z44 t_z44 => ?_)
              replace hF := kf_le e_z44 hF
              refine kw_aload_n (pc := 65) (i := 37) (k := 3) (n := 0) rfl rfl rfl ?_
              refine kw_get (pc := 66) (i := 38) (v := .ref 10) rfl rfl rfl lkX7_63 (fun _ => rfl) ?_
              refine kw_iload (pc := 69) (i := 39) (k := 0) (n := 6) rfl rfl ?_
              refine kw_iald (pc := 71) (i := 40) (n := 6) rfl rfl (by omega) (by omega) (fun z45 e_z45 => ?_)
              replace hF := kf_le e_z45 hF
              have t_z45 := congrArg Int32.toInt e_z45
              have r_z45 := kw_rng z45
              refine kw_imul (pc := 72) (i := 41) rfl (fun z46 e_z46 t_z46 => ?_)
              replace hF := kf_le e_z46 hF
              refine kw_iload_n (pc := 73) (i := 42) (k := 5) (n := 2) rfl rfl rfl ?_
              refine kw_aload_n (pc := 74) (i := 43) (k := 3) (n := 0) rfl rfl rfl ?_
              refine kw_get (pc := 75) (i := 44) (v := .ref 11) rfl rfl rfl lkX7_66 (fun _ => rfl) ?_
              refine kw_iload (pc := 78) (i := 45) (k := 0) (n := 6) rfl rfl ?_
              refine kw_iald (pc := 80) (i := 46) (n := 6) rfl rfl (by omega) (by omega) (fun z47 e_z47 => ?_)
              replace hF := kf_le e_z47 hF
              have t_z47 := congrArg Int32.toInt e_z47
              have r_z47 := kw_rng z47
              refine kw_imul (pc := 81) (i := 47) rfl (fun z48 e_z48 t_z48 => ?_)
              replace hF := kf_le e_z48 hF
              refine kw_iadd (pc := 82) (i := 48) rfl (fun z49 e_z49 t_z49 => ?_)
              replace hF := kf_le e_z49 hF
              refine kw_i2l (pc := 83) (i := 49) rfl (fun z50 e_z50 t_z50 => ?_)
              replace hF := kf_le e_z50 hF
              refine kw_ladd (pc := 84) (i := 50) rfl (fun z51 e_z51 => ?_)
              replace hF := kf_le e_z51 hF
              refine kw_lstore (pc := 85) (i := 51) (n := 4) (lv' := [(4, .long z51), (6, .int x21), (3, .int z7), (0, .ref 0), (1, .int a), (2, .int p)]) rfl (by decide) rfl ?_
              refine kw_iinc' (pc := 87) (i := 52) (k := 1) (fun z => [(6, .int z), (4, .long z51), (3, .int z7), (0, .ref 0), (1, .int a), (2, .int p)]) rfl rfl (by decide) rfl (fun _ => rfl) (fun z52 e_z52 t_z52 => ?_)
              replace hF := kf_le e_z52 hF
              refine kw_goto (pc := 90) (i := 53) (tgt := 46) rfl rfl ?_
              refine kw_sub (lv' := [(6, .int z52), (4, .long z51), (3, .int z7), (0, .ref 0), (1, .int a), (2, .int p)]) [0, 1, 2, 3, 4, 5] rfl ?_
              exact ih24 z52 z51 (by omega) hF (by omega)
        exact L23 _ 0 z20 (by omega) hF (Nat.lt_succ_self _)
      · replace hF := kf_n c11 hF
        refine kw_iload_n (pc := 22) (i := 13) (k := 0) (n := 3) rfl rfl rfl ?_
        exact kw_ireturn (pc := 23) (i := 14) (ty := .int) rfl rfl rfl ⟨⟨I8, F10⟩, _, rfl, hF⟩
    · replace hF := kf_p c2 hF
      refine kw_iconst (pc := 10) (i := 5) (v := (-1)) rfl rfl ?_
      exact kw_ireturn (pc := 11) (i := 6) (ty := .int) rfl rfl rfl ⟨⟨hI, hF0⟩, _, rfl, hF⟩
noncomputable def l_X7_odds_0_89 (a1 : Int32) (a2 : Int32) (a3 : Int32) (a4 : Int32) (a5 : Int32) (a6 : Int64) (S : kw_S) : Nat → Int64 → Int32 → Int32 × kw_S
  | 0, _, _ => (0, S)
  | n + 1, x8, x10 => kf_l ((1 : Int32) <<< (a5 &&& 31)) fun z5 => if x10.toInt < z5.toInt then (kf_l (f_X7_milesByGusts_0 S a5 x10) fun z7 => if z7.toInt < a2.toInt then (kf_l (x10 + Int32.ofInt 1) fun z8 => l_X7_odds_0_89 a1 a2 a3 a4 a5 a6 S n x8 z8) else (kf_l (f_X7_weightOfGusts S a5 x10 a3) fun z9 => kf_l (x8 + z9) fun z10 => kf_l (x10 + Int32.ofInt 1) fun z11 => l_X7_odds_0_89 a1 a2 a3 a4 a5 a6 S n z10 z11)) else (kf_l (f_X4_tellShare_8 S x8 a6) fun S6 => ((1 : Int32), S6))
theorem l_X7_odds_0_89_s (a1 : Int32) (a2 : Int32) (a3 : Int32) (a4 : Int32) (a5 : Int32) (a6 : Int64) (S : kw_S) (n : Nat) (x8 : Int64) (x10 : Int32) : l_X7_odds_0_89 a1 a2 a3 a4 a5 a6 S (n + 1) x8 x10 = kf_l ((1 : Int32) <<< (a5 &&& 31)) fun z5 => if x10.toInt < z5.toInt then (kf_l (f_X7_milesByGusts_0 S a5 x10) fun z7 => if z7.toInt < a2.toInt then (kf_l (x10 + Int32.ofInt 1) fun z8 => l_X7_odds_0_89 a1 a2 a3 a4 a5 a6 S n x8 z8) else (kf_l (f_X7_weightOfGusts S a5 x10 a3) fun z9 => kf_l (x8 + z9) fun z10 => kf_l (x10 + Int32.ofInt 1) fun z11 => l_X7_odds_0_89 a1 a2 a3 a4 a5 a6 S n z10 z11)) else (kf_l (f_X4_tellShare_8 S x8 a6) fun S6 => ((1 : Int32), S6)) := rfl
noncomputable def l_X7_odds_0_62 (a1 : Int32) (a2 : Int32) (a3 : Int32) (a4 : Int32) (a5 : Int32) (S : kw_S) : Nat → Int64 → Int32 → Int32 × kw_S
  | 0, _, _ => (0, S)
  | n + 1, x6, x8 => if x8.toInt < a5.toInt then (kf_l (x6 * (12 : Int64)) fun z12 => kf_l (x8 + Int32.ofInt 1) fun z13 => l_X7_odds_0_62 a1 a2 a3 a4 a5 S n z12 z13) else (l_X7_odds_0_89 a1 a2 a3 a4 a5 x6 S ((((1 : Int32) <<< (a5 &&& 31)).toInt - (0 : Int32).toInt).toNat + 1) (0 : Int64) (0 : Int32))
theorem l_X7_odds_0_62_s (a1 : Int32) (a2 : Int32) (a3 : Int32) (a4 : Int32) (a5 : Int32) (S : kw_S) (n : Nat) (x6 : Int64) (x8 : Int32) : l_X7_odds_0_62 a1 a2 a3 a4 a5 S (n + 1) x6 x8 = if x8.toInt < a5.toInt then (kf_l (x6 * (12 : Int64)) fun z12 => kf_l (x8 + Int32.ofInt 1) fun z13 => l_X7_odds_0_62 a1 a2 a3 a4 a5 S n z12 z13) else (l_X7_odds_0_89 a1 a2 a3 a4 a5 x6 S ((((1 : Int32) <<< (a5 &&& 31)).toInt - (0 : Int32).toInt).toNat + 1) (0 : Int64) (0 : Int32)) := rfl
noncomputable def f_X7_odds_0 (σ : kw_S) (a : Int32) (m : Int32) (p : Int32) : Int32 × kw_S := if m.toInt < ((-999) : Int32).toInt then ((((-1) : Int32), σ)) else (if (999 : Int32).toInt < m.toInt then ((((-1) : Int32), σ)) else (if p.toInt < 0 then ((((-1) : Int32), σ)) else (if (12 : Int32).toInt < p.toInt then ((((-1) : Int32), σ)) else (kf_b (f_X7_planRefusal_0 σ a) fun z1 S2 => if z1.toInt = 0 then (kf_l (f_X7_foresee_0 S2 a) fun S3 => kf_l (f_X3_sizeOf_1 S3 a) fun z4 => l_X7_odds_0_62 a m p z1 z4 S3 ((z4.toInt - (0 : Int32).toInt).toNat + 1) (1 : Int64) (0 : Int32)) else ((z1, S2))))))
theorem f_X7_odds_0_u (σ : kw_S) (a : Int32) (m : Int32) (p : Int32) : f_X7_odds_0 σ a m p = if m.toInt < ((-999) : Int32).toInt then ((((-1) : Int32), σ)) else (if (999 : Int32).toInt < m.toInt then ((((-1) : Int32), σ)) else (if p.toInt < 0 then ((((-1) : Int32), σ)) else (if (12 : Int32).toInt < p.toInt then ((((-1) : Int32), σ)) else (kf_b (f_X7_planRefusal_0 σ a) fun z1 S2 => if z1.toInt = 0 then (kf_l (f_X7_foresee_0 S2 a) fun S3 => kf_l (f_X3_sizeOf_1 S3 a) fun z4 => l_X7_odds_0_62 a m p z1 z4 S3 ((z4.toInt - (0 : Int32).toInt).toNat + 1) (1 : Int64) (0 : Int32)) else ((z1, S2)))))) := rfl
abbrev p_X7_odds_0 (σ : kw_S) (a : Int32) (m : Int32) (p : Int32) : Option Value → kw_S → Prop := fun vv σ' => (kw_I bX σ' ∧ kw_F [8, 28, 10, 11] σ σ') ∧ ∃ r : Int32, vv = some (.int r) ∧ (r, σ') = f_X7_odds_0 σ a m p
set_option maxRecDepth 100000 in
set_option maxHeartbeats 4000000 in
theorem c_X7_odds_0 (l : Launch) (σ : kw_S) (hI : kw_I bX σ) (a : Int32) (m : Int32) (p : Int32) : kw_Met l 5 KX mX7_odds [.ref 0, .int a, .int m, .int p] σ (p_X7_odds_0 σ a m p) := by
  have r_a := kw_rng a
  have r_m := kw_rng m
  have r_p := kw_rng p
  have hF0 : kw_F [8, 28, 10, 11] σ σ := kw_F.rf
  have hF := (f_X7_odds_0_u σ a m p).symm
  have q_m999 : (-999 : Int32).toInt = -999 := rfl
  have q_m1 : (-1 : Int32).toInt = -1 := rfl
  have q_0 : (0 : Int32).toInt = 0 := rfl
  have q_1 : (1 : Int32).toInt = 1 := rfl
  have q_12 : (12 : Int32).toInt = 12 := rfl
  have q_999 : (999 : Int32).toInt = 999 := rfl
  refine kw_Met.of (by decide) rfl tX7_odds (Nat.le_of_ble_eq_true rfl) ?_
  show kw_AW l 5 kw_E0 KX mX7_odds (p_X7_odds_0 σ a m p) 0 [(0, .ref 0), (1, .int a), (2, .int m), (3, .int p)] [] σ
  refine kw_iload_n (pc := 0) (i := 0) (k := 2) (n := 2) rfl rfl rfl ?_
  refine kw_sipush (pc := 1) (i := 1) (v := (-999)) rfl rfl ?_
  refine kw_icmp_lt (pc := 4) (i := 2) (tgt := 24) rfl rfl (fun c1 => ?_) (fun c1 => ?_)
  · replace hF := kf_p c1 hF
    refine kw_iconst (pc := 24) (i := 11) (v := (-1)) rfl rfl ?_
    exact kw_ireturn (pc := 25) (i := 12) (ty := .int) rfl rfl rfl ⟨⟨hI, hF0⟩, _, rfl, hF⟩
  · replace hF := kf_nl c1 hF
    refine kw_iload_n (pc := 7) (i := 3) (k := 2) (n := 2) rfl rfl rfl ?_
    refine kw_sipush (pc := 8) (i := 4) (v := 999) rfl rfl ?_
    refine kw_icmp_gt (pc := 11) (i := 5) (tgt := 24) rfl rfl (fun c2 => ?_) (fun c2 => ?_)
    · replace hF := kf_p c2 hF
      refine kw_iconst (pc := 24) (i := 11) (v := (-1)) rfl rfl ?_
      exact kw_ireturn (pc := 25) (i := 12) (ty := .int) rfl rfl rfl ⟨⟨hI, hF0⟩, _, rfl, hF⟩
    · replace hF := kf_nl c2 hF
      refine kw_iload_n (pc := 14) (i := 6) (k := 3) (n := 3) rfl rfl rfl ?_
      refine kw_if_lt (pc := 15) (i := 7) (tgt := 24) rfl rfl (fun c3 => ?_) (fun c3 => ?_)
      · replace hF := kf_p c3 hF
        refine kw_iconst (pc := 24) (i := 11) (v := (-1)) rfl rfl ?_
        exact kw_ireturn (pc := 25) (i := 12) (ty := .int) rfl rfl rfl ⟨⟨hI, hF0⟩, _, rfl, hF⟩
      · replace hF := kf_nl c3 hF
        refine kw_iload_n (pc := 18) (i := 8) (k := 3) (n := 3) rfl rfl rfl ?_
        refine kw_bipush (pc := 19) (i := 9) (v := 12) rfl rfl ?_
        refine kw_icmp_le (pc := 21) (i := 10) (tgt := 26) rfl rfl (fun c4 => ?_) (fun c4 => ?_)
        · replace hF := kf_nl c4 hF
          refine kw_aload_n (pc := 26) (i := 13) (k := 0) (n := 0) rfl rfl rfl ?_
          refine kw_iload_n (pc := 27) (i := 14) (k := 1) (n := 1) rfl rfl rfl ?_
          refine kw_callV (pc := 28) (i := 15) (Y := mX7_planRefusal) (a := 0) (As := [.int a]) (st := []) kw_hE rfl rfl lvX7_250 arX7_planRefusal (c_X7_planRefusal_0 l σ hI a ) (by decide) (Nat.le_of_ble_eq_true rfl) rfl (fun v S6 p5 => ?_)
          obtain ⟨⟨I10, F11⟩, z9, rfl, f7, ef8⟩ := p5
          have F12 : kw_F [8, 28, 10, 11] σ S6 := kw_F.tr hF0 F11 (by decide)
          replace hF := kf_be ef8 hF
          have r_z9 := kw_rng z9
          show kw_AW l 5 kw_E0 KX mX7_odds (p_X7_odds_0 σ a m p) 31 [(0, .ref 0), (1, .int a), (2, .int m), (3, .int p)] [.int z9] S6
          refine kw_istore (pc := 31) (i := 16) (n := 4) (lv' := [(4, .int z9), (0, .ref 0), (1, .int a), (2, .int m), (3, .int p)]) rfl (by decide) rfl ?_
          refine kw_iload (pc := 33) (i := 17) (k := 0) (n := 4) rfl rfl ?_
          refine kw_if_eq (pc := 35) (i := 18) (tgt := 41) rfl rfl (fun c13 => ?_) (fun c13 => ?_)
          · replace hF := kf_p c13 hF
            refine kw_aload_n (pc := 41) (i := 21) (k := 1) (n := 0) rfl rfl rfl ?_
            refine kw_iload_n (pc := 42) (i := 22) (k := 2) (n := 1) rfl rfl rfl ?_
            refine kw_callV (pc := 43) (i := 23) (Y := mX7_foresee) (a := 0) (As := [.int a]) (st := []) kw_hE rfl rfl lvX7_292 arX7_foresee (c_X7_foresee_0 l S6 I10 a ) (by decide) (Nat.le_of_ble_eq_true rfl) rfl (fun v S15 p14 => ?_)
            obtain ⟨⟨I17, F18⟩, rfl, ef16⟩ := p14
            have F19 : kw_F [8, 28, 10, 11] σ S15 := kw_F.tr F12 F18 (by decide)
            replace hF := kf_le ef16 hF
            show kw_AW l 5 kw_E0 KX mX7_odds (p_X7_odds_0 σ a m p) 46 [(4, .int z9), (0, .ref 0), (1, .int a), (2, .int m), (3, .int p)] [] S15
            have w_s := congrArg Int32.toInt (kw_F.at (a := 13) (j := a.toNatClampNeg) F18 (by decide))
            refine kw_aload_n (pc := 46) (i := 24) (k := 1) (n := 0) rfl rfl rfl ?_
            refine kw_get (pc := 47) (i := 25) (v := .ref 1) rfl rfl rfl lkX7_14 (fun _ => rfl) ?_
            refine kw_iload_n (pc := 50) (i := 26) (k := 2) (n := 1) rfl rfl rfl ?_
            refine kw_callV (pc := 51) (i := 27) (Y := mX3_sizeOf) (a := 1) (As := [.int a]) (st := []) kw_hE rfl rfl lvX7_110 arX3_sizeOf (c_X3_sizeOf_1 l S15 I17 a ) (by decide) (Nat.le_of_ble_eq_true rfl) rfl (fun v S21 p20 => ?_)
            obtain ⟨e28, z27, rfl, f22, f23, f24, f25, ef26⟩ := p20
            rw [e28]
            replace hF := kf_le ef26 hF
            have r_z27 := kw_rng z27
            show kw_AW l 5 kw_E0 KX mX7_odds (p_X7_odds_0 σ a m p) 54 [(4, .int z9), (0, .ref 0), (1, .int a), (2, .int m), (3, .int p)] [.int z27] S15
            refine kw_istore (pc := 54) (i := 28) (n := 5) (lv' := [(5, .int z27), (4, .int z9), (0, .ref 0), (1, .int a), (2, .int m), (3, .int p)]) rfl (by decide) rfl ?_
            refine kw_lconst (pc := 56) (i := 29) (v := 1) rfl rfl ?_
            refine kw_lstore (pc := 57) (i := 30) (n := 6) (lv' := [(6, .long 1), (5, .int z27), (4, .int z9), (0, .ref 0), (1, .int a), (2, .int m), (3, .int p)]) rfl (by decide) rfl ?_
            refine kw_iconst (pc := 59) (i := 31) (v := 0) rfl rfl ?_
            refine kw_istore (pc := 60) (i := 32) (n := 8) (lv' := [(8, .int 0), (6, .long 1), (5, .int z27), (4, .int z9), (0, .ref 0), (1, .int a), (2, .int m), (3, .int p)]) rfl (by decide) rfl ?_
            have L31 : ∀ (n35 : Nat) (x29 : Int32) (x30 : Int64), 0 ≤ x29.toInt → l_X7_odds_0_62 a m p z9 z27 S15 n35 x30 x29 = (f_X7_odds_0 σ a m p) → (z27.toInt - x29.toInt).toNat < n35 → kw_AW l 5 kw_E0 KX mX7_odds (p_X7_odds_0 σ a m p) 62 [(8, .int x29), (6, .long x30), (5, .int z27), (4, .int z9), (0, .ref 0), (1, .int a), (2, .int m), (3, .int p)] [] S15 := by
              intro n35
              induction n35 with
              | zero => intro x29 x30 v33 hF m34; exact absurd m34 (Nat.not_lt_zero _)
              | succ n35 ih32 =>
                intro x29 x30 v33 hF m34
                replace hF := kf_st (l_X7_odds_0_62_s _ _ _ _ _ _ _ _ _) hF
                have r_x29 := kw_rng x29
                refine kw_iload (pc := 62) (i := 33) (k := 0) (n := 8) rfl rfl ?_
                refine kw_iload (pc := 64) (i := 34) (k := 2) (n := 5) rfl rfl ?_
                refine kw_icmp_ge (pc := 66) (i := 35) (tgt := 83) rfl rfl (fun c36 => ?_) (fun c36 => ?_)
                · replace hF := kf_nl c36 hF
                  refine kw_lconst (pc := 83) (i := 42) (v := 0) rfl rfl ?_
                  refine kw_lstore (pc := 84) (i := 43) (n := 8) (lv' := [(8, .long 0), (6, .long x30), (5, .int z27), (4, .int z9), (0, .ref 0), (1, .int a), (2, .int m), (3, .int p)]) rfl (by decide) rfl ?_
                  refine kw_iconst (pc := 86) (i := 44) (v := 0) rfl rfl ?_
                  refine kw_istore (pc := 87) (i := 45) (n := 10) (lv' := [(10, .int 0), (8, .long 0), (6, .long x30), (5, .int z27), (4, .int z9), (0, .ref 0), (1, .int a), (2, .int m), (3, .int p)]) rfl (by decide) rfl ?_
                  have L39 : ∀ (n43 : Nat) (x37 : Int32) (x38 : Int64), 0 ≤ x37.toInt → l_X7_odds_0_89 a m p z9 z27 x30 S15 n43 x38 x37 = (f_X7_odds_0 σ a m p) → (((1 : Int32) <<< (z27 &&& 31)).toInt - x37.toInt).toNat < n43 → kw_AW l 5 kw_E0 KX mX7_odds (p_X7_odds_0 σ a m p) 89 [(10, .int x37), (8, .long x38), (6, .long x30), (5, .int z27), (4, .int z9), (0, .ref 0), (1, .int a), (2, .int m), (3, .int p)] [] S15 := by
                    intro n43
                    induction n43 with
                    | zero => intro x37 x38 v41 hF m42; exact absurd m42 (Nat.not_lt_zero _)
                    | succ n43 ih40 =>
                      intro x37 x38 v41 hF m42
                      replace hF := kf_st (l_X7_odds_0_89_s _ _ _ _ _ _ _ _ _ _) hF
                      have r_x37 := kw_rng x37
                      refine kw_iload (pc := 89) (i := 46) (k := 0) (n := 10) rfl rfl ?_
                      refine kw_iconst (pc := 91) (i := 47) (v := 1) rfl rfl ?_
                      refine kw_iload (pc := 92) (i := 48) (k := 3) (n := 5) rfl rfl ?_
                      refine kw_ishl (pc := 94) (i := 49) rfl (fun z44 e_z44 => ?_)
                      have r_z44 := kw_rng z44
                      replace hF := kf_le e_z44 hF
                      have t_z44 := congrArg Int32.toInt e_z44
                      refine kw_icmp_ge (pc := 95) (i := 50) (tgt := 129) rfl rfl (fun c45 => ?_) (fun c45 => ?_)
                      · replace hF := kf_nl c45 hF
                        refine kw_aload_n (pc := 129) (i := 66) (k := 5) (n := 0) rfl rfl rfl ?_
                        refine kw_get (pc := 130) (i := 67) (v := .ref 8) rfl rfl rfl lkX7_55 (fun _ => rfl) ?_
                        refine kw_lload (pc := 133) (i := 68) (k := 1) (n := 8) rfl rfl ?_
                        refine kw_lload (pc := 135) (i := 69) (k := 2) (n := 6) rfl rfl ?_
                        refine kw_callV (pc := 137) (i := 70) (Y := mX4_tellShare) (a := 8) (As := [.long x38, .long x30]) (st := []) kw_hE rfl rfl lvX7_297 arX4_tellShare (c_X4_tellShare_8 l S15 I17 x38 x30 ) (by decide) (Nat.le_of_ble_eq_true rfl) rfl (fun v S47 p46 => ?_)
                        obtain ⟨⟨I49, F50⟩, rfl, ef48⟩ := p46
                        have F51 : kw_F [8, 28, 10, 11] σ S47 := kw_F.tr F19 F50 (by decide)
                        replace hF := kf_le ef48 hF
                        show kw_AW l 5 kw_E0 KX mX7_odds (p_X7_odds_0 σ a m p) 140 [(10, .int x37), (8, .long x38), (6, .long x30), (5, .int z27), (4, .int z9), (0, .ref 0), (1, .int a), (2, .int m), (3, .int p)] [] S47
                        refine kw_iconst (pc := 140) (i := 71) (v := 1) rfl rfl ?_
                        exact kw_ireturn (pc := 141) (i := 72) (ty := .int) rfl rfl rfl ⟨⟨I49, F51⟩, _, rfl, hF⟩
                      · replace hF := kf_p c45 hF
                        refine kw_aload_n (pc := 98) (i := 51) (k := 5) (n := 0) rfl rfl rfl ?_
                        refine kw_iload (pc := 99) (i := 52) (k := 3) (n := 5) rfl rfl ?_
                        refine kw_iload (pc := 101) (i := 53) (k := 0) (n := 10) rfl rfl ?_
                        refine kw_callV (pc := 103) (i := 54) (Y := mX7_milesByGusts) (a := 0) (As := [.int z27, .int x37]) (st := []) kw_hE rfl rfl lvX7_301 arX7_milesByGusts (c_X7_milesByGusts_0 l S15 I17 z27 x37 (by first | omega | decide)) (by decide) (Nat.le_of_ble_eq_true rfl) rfl (fun v S53 p52 => ?_)
                        obtain ⟨e56, z55, rfl, ef54⟩ := p52
                        rw [e56]
                        replace hF := kf_le ef54 hF
                        have r_z55 := kw_rng z55
                        show kw_AW l 5 kw_E0 KX mX7_odds (p_X7_odds_0 σ a m p) 106 [(10, .int x37), (8, .long x38), (6, .long x30), (5, .int z27), (4, .int z9), (0, .ref 0), (1, .int a), (2, .int m), (3, .int p)] [.int z55] S15
                        refine kw_iload_n (pc := 106) (i := 55) (k := 7) (n := 2) rfl rfl rfl ?_
                        refine kw_icmp_lt (pc := 107) (i := 56) (tgt := 123) rfl rfl (fun c57 => ?_) (fun c57 => ?_)
                        · replace hF := kf_p c57 hF
                          refine kw_iinc' (pc := 123) (i := 64) (k := 0) (fun z => [(10, .int z), (8, .long x38), (6, .long x30), (5, .int z27), (4, .int z9), (0, .ref 0), (1, .int a), (2, .int m), (3, .int p)]) rfl rfl (by decide) rfl (fun _ => rfl) (fun z58 e_z58 t_z58 => ?_)
                          replace hF := kf_le e_z58 hF
                          refine kw_goto (pc := 126) (i := 65) (tgt := 89) rfl rfl ?_
                          refine kw_sub (lv' := [(10, .int z58), (8, .long x38), (6, .long x30), (5, .int z27), (4, .int z9), (0, .ref 0), (1, .int a), (2, .int m), (3, .int p)]) [0, 1, 2, 3, 4, 5, 6, 7, 8] rfl ?_
                          exact ih40 z58 x38 (by omega) hF (by omega)
                        · replace hF := kf_nl c57 hF
                          refine kw_lload (pc := 110) (i := 57) (k := 1) (n := 8) rfl rfl ?_
                          refine kw_iload (pc := 112) (i := 58) (k := 3) (n := 5) rfl rfl ?_
                          refine kw_iload (pc := 114) (i := 59) (k := 0) (n := 10) rfl rfl ?_
                          refine kw_iload_n (pc := 116) (i := 60) (k := 8) (n := 3) rfl rfl rfl ?_
                          refine kw_callS (pc := 117) (i := 61) (Y := mX7_weightOfGusts) (As := [.int z27, .int x37, .int p]) (st := [.long x38]) kw_hE rfl lsX7_304 arX7_weightOfGusts (c_X7_weightOfGusts l S15 I17 z27 x37 p ) (by decide) (Nat.le_of_ble_eq_true rfl) rfl (fun v S60 p59 => ?_)
                          obtain ⟨e63, z62, rfl, ef61⟩ := p59
                          rw [e63]
                          replace hF := kf_le ef61 hF
                          show kw_AW l 5 kw_E0 KX mX7_odds (p_X7_odds_0 σ a m p) 120 [(10, .int x37), (8, .long x38), (6, .long x30), (5, .int z27), (4, .int z9), (0, .ref 0), (1, .int a), (2, .int m), (3, .int p)] [.long z62, .long x38] S15
                          refine kw_ladd (pc := 120) (i := 62) rfl (fun z64 e_z64 => ?_)
                          replace hF := kf_le e_z64 hF
                          refine kw_lstore (pc := 121) (i := 63) (n := 8) (lv' := [(8, .long z64), (10, .int x37), (6, .long x30), (5, .int z27), (4, .int z9), (0, .ref 0), (1, .int a), (2, .int m), (3, .int p)]) rfl (by decide) rfl ?_
                          refine kw_iinc' (pc := 123) (i := 64) (k := 1) (fun z => [(10, .int z), (8, .long z64), (6, .long x30), (5, .int z27), (4, .int z9), (0, .ref 0), (1, .int a), (2, .int m), (3, .int p)]) rfl rfl (by decide) rfl (fun _ => rfl) (fun z65 e_z65 t_z65 => ?_)
                          replace hF := kf_le e_z65 hF
                          refine kw_goto (pc := 126) (i := 65) (tgt := 89) rfl rfl ?_
                          refine kw_sub (lv' := [(10, .int z65), (8, .long z64), (6, .long x30), (5, .int z27), (4, .int z9), (0, .ref 0), (1, .int a), (2, .int m), (3, .int p)]) [0, 1, 2, 3, 4, 5, 6, 7, 8] rfl ?_
                          exact ih40 z65 z64 (by omega) hF (by omega)
                  exact L39 _ 0 0 (by omega) hF (Nat.lt_succ_self _)
                · replace hF := kf_p c36 hF
                  refine kw_lload (pc := 69) (i := 36) (k := 1) (n := 6) rfl rfl ?_
                  refine kw_ldc2 (pc := 71) (i := 37) (v := 12) rfl ckX7_295 ?_
                  refine kw_lmul (pc := 74) (i := 38) rfl (fun z66 e_z66 => ?_)
                  replace hF := kf_le e_z66 hF
                  refine kw_lstore (pc := 75) (i := 39) (n := 6) (lv' := [(6, .long z66), (8, .int x29), (5, .int z27), (4, .int z9), (0, .ref 0), (1, .int a), (2, .int m), (3, .int p)]) rfl (by decide) rfl ?_
                  refine kw_iinc' (pc := 77) (i := 40) (k := 1) (fun z => [(8, .int z), (6, .long z66), (5, .int z27), (4, .int z9), (0, .ref 0), (1, .int a), (2, .int m), (3, .int p)]) rfl rfl (by decide) rfl (fun _ => rfl) (fun z67 e_z67 t_z67 => ?_)
                  replace hF := kf_le e_z67 hF
                  refine kw_goto (pc := 80) (i := 41) (tgt := 62) rfl rfl ?_
                  refine kw_sub (lv' := [(8, .int z67), (6, .long z66), (5, .int z27), (4, .int z9), (0, .ref 0), (1, .int a), (2, .int m), (3, .int p)]) [0, 1, 2, 3, 4, 5, 6, 7] rfl ?_
                  exact ih32 z67 z66 (by omega) hF (by omega)
            exact L31 _ 0 1 (by omega) hF (Nat.lt_succ_self _)
          · replace hF := kf_n c13 hF
            refine kw_iload (pc := 38) (i := 19) (k := 0) (n := 4) rfl rfl ?_
            exact kw_ireturn (pc := 40) (i := 20) (ty := .int) rfl rfl rfl ⟨⟨I10, F12⟩, _, rfl, hF⟩
        · replace hF := kf_p c4 hF
          refine kw_iconst (pc := 24) (i := 11) (v := (-1)) rfl rfl ?_
          exact kw_ireturn (pc := 25) (i := 12) (ty := .int) rfl rfl rfl ⟨⟨hI, hF0⟩, _, rfl, hF⟩
noncomputable def l_X7_lots_0_69 (a1 : Int32) (a2 : Int32) (a3 : Int32) : Nat → Int64 → Int32 → kw_S → Int32 × kw_S
  | 0, _, _, S => (0, S)
  | n + 1, x4, x6, S => if x6.toInt < a1.toInt then (kf_l (x4 * (48271 : Int64)) fun z8 => kf_l (z8 - z8 / (2147483647 : Int64) * (2147483647 : Int64)) fun z9 => kf_l a3.toInt64 fun z10 => kf_l (z9 - z9 / z10 * z10) fun z11 => kf_l z11.toInt32 fun z12 => kf_l (f_X5_act_4 S z12) fun S13 => kf_l (f_X5_act_4 S13 (6 : Int32)) fun S14 => kf_l (x6 + Int32.ofInt 1) fun z15 => l_X7_lots_0_69 a1 a2 a3 n z9 z15 S14) else (kf_b (f_X4_answer_8 S (S.1 4 6)) fun z6 S7 => (z6, S7))
theorem l_X7_lots_0_69_s (a1 : Int32) (a2 : Int32) (a3 : Int32) (n : Nat) (x4 : Int64) (x6 : Int32) (S : kw_S) : l_X7_lots_0_69 a1 a2 a3 (n + 1) x4 x6 S = if x6.toInt < a1.toInt then (kf_l (x4 * (48271 : Int64)) fun z8 => kf_l (z8 - z8 / (2147483647 : Int64) * (2147483647 : Int64)) fun z9 => kf_l a3.toInt64 fun z10 => kf_l (z9 - z9 / z10 * z10) fun z11 => kf_l z11.toInt32 fun z12 => kf_l (f_X5_act_4 S z12) fun S13 => kf_l (f_X5_act_4 S13 (6 : Int32)) fun S14 => kf_l (x6 + Int32.ofInt 1) fun z15 => l_X7_lots_0_69 a1 a2 a3 n z9 z15 S14) else (kf_b (f_X4_answer_8 S (S.1 4 6)) fun z6 S7 => (z6, S7)) := rfl
noncomputable def f_X7_lots_0 (σ : kw_S) (n : Int32) (seed : Int32) : Int32 × kw_S := if n.toInt < (1 : Int32).toInt then ((((-1) : Int32), σ)) else (if (20 : Int32).toInt < n.toInt then ((((-1) : Int32), σ)) else (if seed.toInt < (1 : Int32).toInt then ((((-1) : Int32), σ)) else (kf_l seed.toInt64 fun z1 => kf_l (lg_cmp z1 (2147483647 : Int64)) fun z2 => if z2.toInt < 0 then (if (σ.1 17 5).toInt < (1 : Int32).toInt then ((((-4) : Int32), σ)) else (kf_l ((2 : Int32) * n) fun z3 => kf_l (f_X5_hasRoomFor_4 σ z3) fun z4 => if z4.toInt = 0 then ((((-2) : Int32), σ)) else (kf_l seed.toInt64 fun z5 => l_X7_lots_0_69 n seed (σ.1 17 5) ((n.toInt - (0 : Int32).toInt).toNat + 1) z5 (0 : Int32) σ))) else ((((-1) : Int32), σ)))))
theorem f_X7_lots_0_u (σ : kw_S) (n : Int32) (seed : Int32) : f_X7_lots_0 σ n seed = if n.toInt < (1 : Int32).toInt then ((((-1) : Int32), σ)) else (if (20 : Int32).toInt < n.toInt then ((((-1) : Int32), σ)) else (if seed.toInt < (1 : Int32).toInt then ((((-1) : Int32), σ)) else (kf_l seed.toInt64 fun z1 => kf_l (lg_cmp z1 (2147483647 : Int64)) fun z2 => if z2.toInt < 0 then (if (σ.1 17 5).toInt < (1 : Int32).toInt then ((((-4) : Int32), σ)) else (kf_l ((2 : Int32) * n) fun z3 => kf_l (f_X5_hasRoomFor_4 σ z3) fun z4 => if z4.toInt = 0 then ((((-2) : Int32), σ)) else (kf_l seed.toInt64 fun z5 => l_X7_lots_0_69 n seed (σ.1 17 5) ((n.toInt - (0 : Int32).toInt).toNat + 1) z5 (0 : Int32) σ))) else ((((-1) : Int32), σ))))) := rfl
abbrev p_X7_lots_0 (σ : kw_S) (n : Int32) (seed : Int32) : Option Value → kw_S → Prop := fun vv σ' => (kw_I bX σ' ∧ kw_F [8, 28, 4, 18, 19] σ σ') ∧ ∃ r : Int32, vv = some (.int r) ∧ (r, σ') = f_X7_lots_0 σ n seed
set_option maxRecDepth 100000 in
set_option maxHeartbeats 4000000 in
theorem c_X7_lots_0 (l : Launch) (σ : kw_S) (hI : kw_I bX σ) (n : Int32) (seed : Int32) : kw_Met l 6 KX mX7_lots [.ref 0, .int n, .int seed] σ (p_X7_lots_0 σ n seed) := by
  have r_n := kw_rng n
  have r_seed := kw_rng seed
  have hF0 : kw_F [8, 28, 4, 18, 19] σ σ := kw_F.rf
  have hF := (f_X7_lots_0_u σ n seed).symm
  have q_m4 : (-4 : Int32).toInt = -4 := rfl
  have q_m2 : (-2 : Int32).toInt = -2 := rfl
  have q_m1 : (-1 : Int32).toInt = -1 := rfl
  have q_0 : (0 : Int32).toInt = 0 := rfl
  have q_1 : (1 : Int32).toInt = 1 := rfl
  have q_2 : (2 : Int32).toInt = 2 := rfl
  have q_6 : (6 : Int32).toInt = 6 := rfl
  have q_20 : (20 : Int32).toInt = 20 := rfl
  refine kw_Met.of (by decide) rfl tX7_lots (Nat.le_of_ble_eq_true rfl) ?_
  show kw_AW l 6 kw_E0 KX mX7_lots (p_X7_lots_0 σ n seed) 0 [(0, .ref 0), (1, .int n), (2, .int seed)] [] σ
  refine kw_iload_n (pc := 0) (i := 0) (k := 1) (n := 1) rfl rfl rfl ?_
  refine kw_iconst (pc := 1) (i := 1) (v := 1) rfl rfl ?_
  refine kw_icmp_lt (pc := 2) (i := 2) (tgt := 25) rfl rfl (fun c1 => ?_) (fun c1 => ?_)
  · replace hF := kf_p c1 hF
    refine kw_iconst (pc := 25) (i := 14) (v := (-1)) rfl rfl ?_
    exact kw_ireturn (pc := 26) (i := 15) (ty := .int) rfl rfl rfl ⟨⟨hI, hF0⟩, _, rfl, hF⟩
  · replace hF := kf_nl c1 hF
    refine kw_iload_n (pc := 5) (i := 3) (k := 1) (n := 1) rfl rfl rfl ?_
    refine kw_bipush (pc := 6) (i := 4) (v := 20) rfl rfl ?_
    refine kw_icmp_gt (pc := 8) (i := 5) (tgt := 25) rfl rfl (fun c2 => ?_) (fun c2 => ?_)
    · replace hF := kf_p c2 hF
      refine kw_iconst (pc := 25) (i := 14) (v := (-1)) rfl rfl ?_
      exact kw_ireturn (pc := 26) (i := 15) (ty := .int) rfl rfl rfl ⟨⟨hI, hF0⟩, _, rfl, hF⟩
    · replace hF := kf_nl c2 hF
      refine kw_iload_n (pc := 11) (i := 6) (k := 2) (n := 2) rfl rfl rfl ?_
      refine kw_iconst (pc := 12) (i := 7) (v := 1) rfl rfl ?_
      refine kw_icmp_lt (pc := 13) (i := 8) (tgt := 25) rfl rfl (fun c3 => ?_) (fun c3 => ?_)
      · replace hF := kf_p c3 hF
        refine kw_iconst (pc := 25) (i := 14) (v := (-1)) rfl rfl ?_
        exact kw_ireturn (pc := 26) (i := 15) (ty := .int) rfl rfl rfl ⟨⟨hI, hF0⟩, _, rfl, hF⟩
      · replace hF := kf_nl c3 hF
        refine kw_iload_n (pc := 16) (i := 9) (k := 2) (n := 2) rfl rfl rfl ?_
        refine kw_i2l (pc := 17) (i := 10) rfl (fun z4 e_z4 t_z4 => ?_)
        replace hF := kf_le e_z4 hF
        refine kw_ldc2 (pc := 18) (i := 11) (v := 2147483647) rfl ckX7_308 ?_
        refine kw_lcmp (pc := 21) (i := 12) rfl (fun z5 e_z5 t_z5 => ?_)
        replace hF := kf_le e_z5 hF
        have lq6 : (2147483647 : Int64).toInt = 2147483647 := rfl
        refine kw_if_lt (pc := 22) (i := 13) (tgt := 27) rfl rfl (fun c7 => ?_) (fun c7 => ?_)
        · replace hF := kf_p c7 hF
          refine kw_aload_n (pc := 27) (i := 16) (k := 0) (n := 0) rfl rfl rfl ?_
          refine kw_get (pc := 28) (i := 17) (v := .ref 4) rfl rfl rfl lkX7_31 (fun _ => rfl) ?_
          refine kw_get (pc := 31) (i := 18) (v := .ref 17) rfl rfl rfl lkX7_117 (fun _ => rfl) ?_
          refine kw_get (pc := 34) (i := 19) (v := .int (σ.1 17 5)) rfl rfl rfl lkX7_133 (fun _ => rfl) ?_
          have b8 : 0 ≤ (σ.1 17 5).toInt ∧ (σ.1 17 5).toInt ≤ 6 := hI 17 5
          refine kw_istore_n (pc := 37) (i := 20) (n := 3) (lv' := [(3, .int (σ.1 17 5)), (0, .ref 0), (1, .int n), (2, .int seed)]) rfl rfl (by decide) rfl ?_
          refine kw_iload_n (pc := 38) (i := 21) (k := 0) (n := 3) rfl rfl rfl ?_
          refine kw_iconst (pc := 39) (i := 22) (v := 1) rfl rfl ?_
          refine kw_icmp_ge (pc := 40) (i := 23) (tgt := 46) rfl rfl (fun c9 => ?_) (fun c9 => ?_)
          · replace hF := kf_nl c9 hF
            refine kw_aload_n (pc := 46) (i := 26) (k := 1) (n := 0) rfl rfl rfl ?_
            refine kw_get (pc := 47) (i := 27) (v := .ref 4) rfl rfl rfl lkX7_31 (fun _ => rfl) ?_
            refine kw_iconst (pc := 50) (i := 28) (v := 2) rfl rfl ?_
            refine kw_iload_n (pc := 51) (i := 29) (k := 2) (n := 1) rfl rfl rfl ?_
            refine kw_imul (pc := 52) (i := 30) rfl (fun z10 e_z10 t_z10 => ?_)
            replace hF := kf_le e_z10 hF
            rw [show (2 : Int32).toInt = 2 from rfl] at t_z10
            refine kw_callV (pc := 53) (i := 31) (Y := mX5_hasRoomFor) (a := 4) (As := [.int z10]) (st := []) kw_hE rfl rfl lvX7_188 arX5_hasRoomFor (c_X5_hasRoomFor_4 l σ hI z10 (by first | omega | decide) (by first | omega | decide)) (by decide) (Nat.le_of_ble_eq_true rfl) rfl (fun v S12 p11 => ?_)
            obtain ⟨e17, z16, rfl, f13, f14, ef15⟩ := p11
            rw [e17]
            replace hF := kf_le ef15 hF
            have r_z16 := kw_rng z16
            show kw_AW l 6 kw_E0 KX mX7_lots (p_X7_lots_0 σ n seed) 56 [(3, .int (σ.1 17 5)), (0, .ref 0), (1, .int n), (2, .int seed)] [.int z16] σ
            refine kw_if_ne (pc := 56) (i := 32) (tgt := 62) rfl rfl (fun c18 => ?_) (fun c18 => ?_)
            · replace hF := kf_n c18 hF
              refine kw_iload_n (pc := 62) (i := 35) (k := 3) (n := 2) rfl rfl rfl ?_
              refine kw_i2l (pc := 63) (i := 36) rfl (fun z19 e_z19 t_z19 => ?_)
              replace hF := kf_le e_z19 hF
              refine kw_lstore (pc := 64) (i := 37) (n := 4) (lv' := [(4, .long z19), (3, .int (σ.1 17 5)), (0, .ref 0), (1, .int n), (2, .int seed)]) rfl (by decide) rfl ?_
              refine kw_iconst (pc := 66) (i := 38) (v := 0) rfl rfl ?_
              refine kw_istore (pc := 67) (i := 39) (n := 6) (lv' := [(6, .int 0), (4, .long z19), (3, .int (σ.1 17 5)), (0, .ref 0), (1, .int n), (2, .int seed)]) rfl (by decide) rfl ?_
              have L25 : ∀ (n29 : Nat) (x20 : Int32) (x21 : Int64) (S22 : kw_S), kw_I bX S22 → kw_F [8, 28, 4, 18, 19] σ S22 → 0 ≤ x20.toInt → l_X7_lots_0_69 n seed (σ.1 17 5) n29 x21 x20 S22 = (f_X7_lots_0 σ n seed) → (n.toInt - x20.toInt).toNat < n29 → kw_AW l 6 kw_E0 KX mX7_lots (p_X7_lots_0 σ n seed) 69 [(6, .int x20), (4, .long x21), (3, .int (σ.1 17 5)), (0, .ref 0), (1, .int n), (2, .int seed)] [] S22 := by
                intro n29
                induction n29 with
                | zero => intro x20 x21 S22 I23 F24 v27 hF m28; exact absurd m28 (Nat.not_lt_zero _)
                | succ n29 ih26 =>
                  intro x20 x21 S22 I23 F24 v27 hF m28
                  replace hF := kf_st (l_X7_lots_0_69_s _ _ _ _ _ _ _) hF
                  have r_x20 := kw_rng x20
                  refine kw_iload (pc := 69) (i := 40) (k := 0) (n := 6) rfl rfl ?_
                  refine kw_iload_n (pc := 71) (i := 41) (k := 4) (n := 1) rfl rfl rfl ?_
                  refine kw_icmp_ge (pc := 72) (i := 42) (tgt := 115) rfl rfl (fun c30 => ?_) (fun c30 => ?_)
                  · replace hF := kf_nl c30 hF
                    refine kw_aload_n (pc := 115) (i := 63) (k := 3) (n := 0) rfl rfl rfl ?_
                    refine kw_get (pc := 116) (i := 64) (v := .ref 8) rfl rfl rfl lkX7_55 (fun _ => rfl) ?_
                    refine kw_aload_n (pc := 119) (i := 65) (k := 3) (n := 0) rfl rfl rfl ?_
                    refine kw_get (pc := 120) (i := 66) (v := .ref 4) rfl rfl rfl lkX7_31 (fun _ => rfl) ?_
                    refine kw_get (pc := 123) (i := 67) (v := .int (S22.1 4 6)) rfl rfl rfl lkX7_204 (fun _ => rfl) ?_
                    have b31 := kw_rng (S22.1 4 6)
                    refine kw_callV (pc := 126) (i := 68) (Y := mX4_answer) (a := 8) (As := [.int (S22.1 4 6)]) (st := []) kw_hE rfl rfl lvX7_92 arX4_answer (c_X4_answer_8 l S22 I23 (S22.1 4 6) ) (by decide) (Nat.le_of_ble_eq_true rfl) rfl (fun v S33 p32 => ?_)
                    obtain ⟨⟨I37, F38⟩, z36, rfl, f34, ef35⟩ := p32
                    have F39 : kw_F [8, 28, 4, 18, 19] σ S33 := kw_F.tr F24 F38 (by decide)
                    replace hF := kf_be ef35 hF
                    have r_z36 := kw_rng z36
                    show kw_AW l 6 kw_E0 KX mX7_lots (p_X7_lots_0 σ n seed) 129 [(6, .int x20), (4, .long x21), (3, .int (σ.1 17 5)), (0, .ref 0), (1, .int n), (2, .int seed)] [.int z36] S33
                    exact kw_ireturn (pc := 129) (i := 69) (ty := .int) rfl rfl rfl ⟨⟨I37, F39⟩, _, rfl, hF⟩
                  · replace hF := kf_p c30 hF
                    refine kw_lload (pc := 75) (i := 43) (k := 1) (n := 4) rfl rfl ?_
                    refine kw_ldc2 (pc := 77) (i := 44) (v := 48271) rfl ckX7_310 ?_
                    refine kw_lmul (pc := 80) (i := 45) rfl (fun z40 e_z40 => ?_)
                    replace hF := kf_le e_z40 hF
                    refine kw_ldc2 (pc := 81) (i := 46) (v := 2147483647) rfl ckX7_308 ?_
                    refine kw_lrem (pc := 84) (i := 47) rfl (by decide) (fun z41 e_z41 => ?_)
                    replace hF := kf_le e_z41 hF
                    refine kw_lstore (pc := 85) (i := 48) (n := 4) (lv' := [(4, .long z41), (6, .int x20), (3, .int (σ.1 17 5)), (0, .ref 0), (1, .int n), (2, .int seed)]) rfl (by decide) rfl ?_
                    refine kw_aload_n (pc := 87) (i := 49) (k := 3) (n := 0) rfl rfl rfl ?_
                    refine kw_get (pc := 88) (i := 50) (v := .ref 4) rfl rfl rfl lkX7_31 (fun _ => rfl) ?_
                    refine kw_lload (pc := 91) (i := 51) (k := 0) (n := 4) rfl rfl ?_
                    refine kw_iload_n (pc := 93) (i := 52) (k := 2) (n := 3) rfl rfl rfl ?_
                    refine kw_i2l (pc := 94) (i := 53) rfl (fun z42 e_z42 t_z42 => ?_)
                    replace hF := kf_le e_z42 hF
                    refine kw_lrem (pc := 95) (i := 54) rfl (by omega) (fun z43 e_z43 => ?_)
                    replace hF := kf_le e_z43 hF
                    refine kw_l2i (pc := 96) (i := 55) rfl (fun z44 e_z44 => ?_)
                    replace hF := kf_le e_z44 hF
                    have r_z44 := kw_rng z44
                    refine kw_callV (pc := 97) (i := 56) (Y := mX5_act) (a := 4) (As := [.int z44]) (st := []) kw_hE rfl rfl lvX7_191 arX5_act (c_X5_act_4 l S22 I23 z44 ) (by decide) (Nat.le_of_ble_eq_true rfl) rfl (fun v S46 p45 => ?_)
                    obtain ⟨⟨I48, F49⟩, rfl, ef47⟩ := p45
                    have F50 : kw_F [8, 28, 4, 18, 19] σ S46 := kw_F.tr F24 F49 (by decide)
                    replace hF := kf_le ef47 hF
                    show kw_AW l 6 kw_E0 KX mX7_lots (p_X7_lots_0 σ n seed) 100 [(4, .long z41), (6, .int x20), (3, .int (σ.1 17 5)), (0, .ref 0), (1, .int n), (2, .int seed)] [] S46
                    refine kw_aload_n (pc := 100) (i := 57) (k := 3) (n := 0) rfl rfl rfl ?_
                    refine kw_get (pc := 101) (i := 58) (v := .ref 4) rfl rfl rfl lkX7_31 (fun _ => rfl) ?_
                    refine kw_bipush (pc := 104) (i := 59) (v := 6) rfl rfl ?_
                    refine kw_callV (pc := 106) (i := 60) (Y := mX5_act) (a := 4) (As := [.int 6]) (st := []) kw_hE rfl rfl lvX7_191 arX5_act (c_X5_act_4 l S46 I48 6 ) (by decide) (Nat.le_of_ble_eq_true rfl) rfl (fun v S52 p51 => ?_)
                    obtain ⟨⟨I54, F55⟩, rfl, ef53⟩ := p51
                    have F56 : kw_F [8, 28, 4, 18, 19] σ S52 := kw_F.tr F50 F55 (by decide)
                    replace hF := kf_le ef53 hF
                    show kw_AW l 6 kw_E0 KX mX7_lots (p_X7_lots_0 σ n seed) 109 [(4, .long z41), (6, .int x20), (3, .int (σ.1 17 5)), (0, .ref 0), (1, .int n), (2, .int seed)] [] S52
                    refine kw_iinc' (pc := 109) (i := 61) (k := 1) (fun z => [(6, .int z), (4, .long z41), (3, .int (σ.1 17 5)), (0, .ref 0), (1, .int n), (2, .int seed)]) rfl rfl (by decide) rfl (fun _ => rfl) (fun z57 e_z57 t_z57 => ?_)
                    replace hF := kf_le e_z57 hF
                    refine kw_goto (pc := 112) (i := 62) (tgt := 69) rfl rfl ?_
                    refine kw_sub (lv' := [(6, .int z57), (4, .long z41), (3, .int (σ.1 17 5)), (0, .ref 0), (1, .int n), (2, .int seed)]) [0, 1, 2, 3, 4, 5] rfl ?_
                    exact ih26 z57 z41 S52 I54 F56 (by omega) hF (by omega)
              exact L25 _ 0 z19 σ hI hF0 (by omega) hF (Nat.lt_succ_self _)
            · replace hF := kf_p c18 hF
              refine kw_bipush (pc := 59) (i := 33) (v := (-2)) rfl rfl ?_
              exact kw_ireturn (pc := 61) (i := 34) (ty := .int) rfl rfl rfl ⟨⟨hI, hF0⟩, _, rfl, hF⟩
          · replace hF := kf_p c9 hF
            refine kw_bipush (pc := 43) (i := 24) (v := (-4)) rfl rfl ?_
            exact kw_ireturn (pc := 45) (i := 25) (ty := .int) rfl rfl rfl ⟨⟨hI, hF0⟩, _, rfl, hF⟩
        · replace hF := kf_nl c7 hF
          refine kw_iconst (pc := 25) (i := 14) (v := (-1)) rfl rfl ?_
          exact kw_ireturn (pc := 26) (i := 15) (ty := .int) rfl rfl rfl ⟨⟨hI, hF0⟩, _, rfl, hF⟩
noncomputable def f_X7_asked_0 (σ : kw_S)  : Int32 := (σ.1 8 2)
theorem f_X7_asked_0_u (σ : kw_S)  : f_X7_asked_0 σ  = (σ.1 8 2) := rfl
abbrev p_X7_asked_0 (σ : kw_S)  : Option Value → kw_S → Prop := fun vv σ' => σ' = σ ∧ ∃ r : Int32, vv = some (.int r) ∧ r = f_X7_asked_0 σ
set_option maxRecDepth 100000 in
set_option maxHeartbeats 4000000 in
theorem c_X7_asked_0 (l : Launch) (σ : kw_S) (hI : kw_I bX σ)  : kw_Met l 1 KX mX7_asked [.ref 0] σ (p_X7_asked_0 σ) := by
  have hF := (f_X7_asked_0_u σ).symm
  refine kw_Met.of (by decide) rfl tX7_asked (Nat.le_of_ble_eq_true rfl) ?_
  show kw_AW l 1 kw_E0 KX mX7_asked (p_X7_asked_0 σ) 0 [(0, .ref 0)] [] σ
  refine kw_aload_n (pc := 0) (i := 0) (k := 0) (n := 0) rfl rfl rfl ?_
  refine kw_get (pc := 1) (i := 1) (v := .ref 8) rfl rfl rfl lkX7_55 (fun _ => rfl) ?_
  refine kw_get (pc := 4) (i := 2) (v := .int (σ.1 8 2)) rfl rfl rfl lkX7_312 (fun _ => rfl) ?_
  have b1 := kw_rng (σ.1 8 2)
  exact kw_ireturn (pc := 7) (i := 3) (ty := .int) rfl rfl rfl ⟨rfl, _, rfl, hF⟩
noncomputable def f_X7_upper_0 (σ : kw_S)  : Int64 := (σ.2 8 3)
theorem f_X7_upper_0_u (σ : kw_S)  : f_X7_upper_0 σ  = (σ.2 8 3) := rfl
abbrev p_X7_upper_0 (σ : kw_S)  : Option Value → kw_S → Prop := fun vv σ' => σ' = σ ∧ ∃ r : Int64, vv = some (.long r) ∧ r = f_X7_upper_0 σ
set_option maxRecDepth 100000 in
set_option maxHeartbeats 4000000 in
theorem c_X7_upper_0 (l : Launch) (σ : kw_S) (hI : kw_I bX σ)  : kw_Met l 1 KX mX7_upper [.ref 0] σ (p_X7_upper_0 σ) := by
  have hF := (f_X7_upper_0_u σ).symm
  refine kw_Met.of (by decide) rfl tX7_upper (Nat.le_of_ble_eq_true rfl) ?_
  show kw_AW l 1 kw_E0 KX mX7_upper (p_X7_upper_0 σ) 0 [(0, .ref 0)] [] σ
  refine kw_aload_n (pc := 0) (i := 0) (k := 0) (n := 0) rfl rfl rfl ?_
  refine kw_get (pc := 1) (i := 1) (v := .ref 8) rfl rfl rfl lkX7_55 (fun _ => rfl) ?_
  refine kw_get (pc := 4) (i := 2) (v := .long (σ.2 8 3)) rfl rfl rfl lkX7_315 (fun _ => rfl) ?_
  exact kw_lreturn (pc := 7) (i := 3) rfl rfl ⟨rfl, _, rfl, hF⟩
noncomputable def f_X7_lower_0 (σ : kw_S)  : Int64 := (σ.2 8 4)
theorem f_X7_lower_0_u (σ : kw_S)  : f_X7_lower_0 σ  = (σ.2 8 4) := rfl
abbrev p_X7_lower_0 (σ : kw_S)  : Option Value → kw_S → Prop := fun vv σ' => σ' = σ ∧ ∃ r : Int64, vv = some (.long r) ∧ r = f_X7_lower_0 σ
set_option maxRecDepth 100000 in
set_option maxHeartbeats 4000000 in
theorem c_X7_lower_0 (l : Launch) (σ : kw_S) (hI : kw_I bX σ)  : kw_Met l 1 KX mX7_lower [.ref 0] σ (p_X7_lower_0 σ) := by
  have hF := (f_X7_lower_0_u σ).symm
  refine kw_Met.of (by decide) rfl tX7_lower (Nat.le_of_ble_eq_true rfl) ?_
  show kw_AW l 1 kw_E0 KX mX7_lower (p_X7_lower_0 σ) 0 [(0, .ref 0)] [] σ
  refine kw_aload_n (pc := 0) (i := 0) (k := 0) (n := 0) rfl rfl rfl ?_
  refine kw_get (pc := 1) (i := 1) (v := .ref 8) rfl rfl rfl lkX7_55 (fun _ => rfl) ?_
  refine kw_get (pc := 4) (i := 2) (v := .long (σ.2 8 4)) rfl rfl rfl lkX7_319 (fun _ => rfl) ?_
  exact kw_lreturn (pc := 7) (i := 3) rfl rfl ⟨rfl, _, rfl, hF⟩
noncomputable def f_X7_count_0 (σ : kw_S) (w : Int32) : Int32 := if w.toInt = 0 then ((σ.1 17 5)) else if w.toInt = 1 then ((σ.1 4 5)) else if w.toInt = 2 then ((σ.1 4 3)) else if w.toInt = 3 then (kf_l (f_J6_bitCount_0f7a4 σ (σ.1 4 4)) fun z1 => z1) else if w.toInt = 4 then (kf_l (f_X5_allWet_4 σ) fun z2 => z2) else if w.toInt = 5 then (kf_l (f_X1_howManyAre_17 σ (1 : Int32)) fun z3 => z3) else if w.toInt = 6 then (kf_l (f_X1_howManyAre_17 σ (4 : Int32)) fun z4 => z4) else if w.toInt = 7 then (kf_l (f_X3_howMany_1 σ) fun z5 => z5) else if w.toInt = 8 then (kf_l (f_X3_howMany_2 σ) fun z6 => z6) else if w.toInt = 9 then (kf_l (f_X3_howMany_5 σ) fun z7 => z7) else (((-1) : Int32))
theorem f_X7_count_0_u (σ : kw_S) (w : Int32) : f_X7_count_0 σ w = if w.toInt = 0 then ((σ.1 17 5)) else if w.toInt = 1 then ((σ.1 4 5)) else if w.toInt = 2 then ((σ.1 4 3)) else if w.toInt = 3 then (kf_l (f_J6_bitCount_0f7a4 σ (σ.1 4 4)) fun z1 => z1) else if w.toInt = 4 then (kf_l (f_X5_allWet_4 σ) fun z2 => z2) else if w.toInt = 5 then (kf_l (f_X1_howManyAre_17 σ (1 : Int32)) fun z3 => z3) else if w.toInt = 6 then (kf_l (f_X1_howManyAre_17 σ (4 : Int32)) fun z4 => z4) else if w.toInt = 7 then (kf_l (f_X3_howMany_1 σ) fun z5 => z5) else if w.toInt = 8 then (kf_l (f_X3_howMany_2 σ) fun z6 => z6) else if w.toInt = 9 then (kf_l (f_X3_howMany_5 σ) fun z7 => z7) else (((-1) : Int32)) := rfl
abbrev p_X7_count_0 (σ : kw_S) (w : Int32) : Option Value → kw_S → Prop := fun vv σ' => σ' = σ ∧ ∃ r : Int32, vv = some (.int r) ∧ r = f_X7_count_0 σ w
set_option maxRecDepth 100000 in
set_option maxHeartbeats 4000000 in
theorem c_X7_count_0 (l : Launch) (σ : kw_S) (hI : kw_I bX σ) (w : Int32) : kw_Met l 3 KX mX7_count [.ref 0, .int w] σ (p_X7_count_0 σ w) := by
  have r_w := kw_rng w
  have hF := (f_X7_count_0_u σ w).symm
  have q_m1 : (-1 : Int32).toInt = -1 := rfl
  have q_1 : (1 : Int32).toInt = 1 := rfl
  have q_4 : (4 : Int32).toInt = 4 := rfl
  refine kw_Met.of (by decide) rfl tX7_count (Nat.le_of_ble_eq_true rfl) ?_
  show kw_AW l 3 kw_E0 KX mX7_count (p_X7_count_0 σ w) 0 [(0, .ref 0), (1, .int w)] [] σ
  refine kw_iload_n (pc := 0) (i := 0) (k := 1) (n := 1) rfl rfl rfl ?_
  by_cases c1 : w.toInt = 0
  · refine kw_tableIn (pc := 1) (i := 1) (k := 0) (tgt := 56) rfl (by omega) (by decide) rfl rfl ?_
    replace hF := kf_p c1 hF
    refine kw_aload_n (pc := 56) (i := 2) (k := 0) (n := 0) rfl rfl rfl ?_
    refine kw_get (pc := 57) (i := 3) (v := .ref 4) rfl rfl rfl lkX7_31 (fun _ => rfl) ?_
    refine kw_get (pc := 60) (i := 4) (v := .ref 17) rfl rfl rfl lkX7_117 (fun _ => rfl) ?_
    refine kw_get (pc := 63) (i := 5) (v := .int (σ.1 17 5)) rfl rfl rfl lkX7_133 (fun _ => rfl) ?_
    have b2 : 0 ≤ (σ.1 17 5).toInt ∧ (σ.1 17 5).toInt ≤ 6 := hI 17 5
    exact kw_ireturn (pc := 66) (i := 6) (ty := .int) rfl rfl rfl ⟨rfl, _, rfl, hF⟩
  replace hF := kf_n c1 hF
  by_cases c3 : w.toInt = 1
  · refine kw_tableIn (pc := 1) (i := 1) (k := 1) (tgt := 67) rfl (by omega) (by decide) rfl rfl ?_
    replace hF := kf_p c3 hF
    refine kw_aload_n (pc := 67) (i := 7) (k := 0) (n := 0) rfl rfl rfl ?_
    refine kw_get (pc := 68) (i := 8) (v := .ref 4) rfl rfl rfl lkX7_31 (fun _ => rfl) ?_
    refine kw_get (pc := 71) (i := 9) (v := .int (σ.1 4 5)) rfl rfl rfl lkX7_322 (fun _ => rfl) ?_
    have b4 := kw_rng (σ.1 4 5)
    exact kw_ireturn (pc := 74) (i := 10) (ty := .int) rfl rfl rfl ⟨rfl, _, rfl, hF⟩
  replace hF := kf_n c3 hF
  by_cases c5 : w.toInt = 2
  · refine kw_tableIn (pc := 1) (i := 1) (k := 2) (tgt := 75) rfl (by omega) (by decide) rfl rfl ?_
    replace hF := kf_p c5 hF
    refine kw_aload_n (pc := 75) (i := 11) (k := 0) (n := 0) rfl rfl rfl ?_
    refine kw_get (pc := 76) (i := 12) (v := .ref 4) rfl rfl rfl lkX7_31 (fun _ => rfl) ?_
    refine kw_get (pc := 79) (i := 13) (v := .int (σ.1 4 3)) rfl rfl rfl lkX7_207 (fun _ => rfl) ?_
    have b6 : 0 ≤ (σ.1 4 3).toInt ∧ (σ.1 4 3).toInt ≤ 40 := hI 4 3
    exact kw_ireturn (pc := 82) (i := 14) (ty := .int) rfl rfl rfl ⟨rfl, _, rfl, hF⟩
  replace hF := kf_n c5 hF
  by_cases c7 : w.toInt = 3
  · refine kw_tableIn (pc := 1) (i := 1) (k := 3) (tgt := 83) rfl (by omega) (by decide) rfl rfl ?_
    replace hF := kf_p c7 hF
    refine kw_aload_n (pc := 83) (i := 15) (k := 0) (n := 0) rfl rfl rfl ?_
    refine kw_get (pc := 84) (i := 16) (v := .ref 4) rfl rfl rfl lkX7_31 (fun _ => rfl) ?_
    refine kw_get (pc := 87) (i := 17) (v := .int (σ.1 4 4)) rfl rfl rfl lkX7_157 (fun _ => rfl) ?_
    have b8 := kw_rng (σ.1 4 4)
    refine kw_callS (pc := 90) (i := 18) (Y := mJ6_bitCount_0f7a4) (As := [.int (σ.1 4 4)]) (st := []) kw_hE rfl lsX7_160 arJ6_bitCount_0f7a4 (c_J6_bitCount_0f7a4 l σ hI (σ.1 4 4) ) (by decide) (Nat.le_of_ble_eq_true rfl) rfl (fun v S10 p9 => ?_)
    obtain ⟨e13, z12, rfl, ef11⟩ := p9
    rw [e13]
    replace hF := kf_le ef11 hF
    have r_z12 := kw_rng z12
    show kw_AW l 3 kw_E0 KX mX7_count (p_X7_count_0 σ w) 93 [(0, .ref 0), (1, .int w)] [.int z12] σ
    exact kw_ireturn (pc := 93) (i := 19) (ty := .int) rfl rfl rfl ⟨rfl, _, rfl, hF⟩
  replace hF := kf_n c7 hF
  by_cases c14 : w.toInt = 4
  · refine kw_tableIn (pc := 1) (i := 1) (k := 4) (tgt := 94) rfl (by omega) (by decide) rfl rfl ?_
    replace hF := kf_p c14 hF
    refine kw_aload_n (pc := 94) (i := 20) (k := 0) (n := 0) rfl rfl rfl ?_
    refine kw_get (pc := 95) (i := 21) (v := .ref 4) rfl rfl rfl lkX7_31 (fun _ => rfl) ?_
    refine kw_callV (pc := 98) (i := 22) (Y := mX5_allWet) (a := 4) (As := []) (st := []) kw_hE rfl rfl lvX7_240 arX5_allWet (c_X5_allWet_4 l σ hI  ) (by decide) (Nat.le_of_ble_eq_true rfl) rfl (fun v S16 p15 => ?_)
    obtain ⟨e19, z18, rfl, ef17⟩ := p15
    rw [e19]
    replace hF := kf_le ef17 hF
    have r_z18 := kw_rng z18
    show kw_AW l 3 kw_E0 KX mX7_count (p_X7_count_0 σ w) 101 [(0, .ref 0), (1, .int w)] [.int z18] σ
    exact kw_ireturn (pc := 101) (i := 23) (ty := .int) rfl rfl rfl ⟨rfl, _, rfl, hF⟩
  replace hF := kf_n c14 hF
  by_cases c20 : w.toInt = 5
  · refine kw_tableIn (pc := 1) (i := 1) (k := 5) (tgt := 102) rfl (by omega) (by decide) rfl rfl ?_
    replace hF := kf_p c20 hF
    refine kw_aload_n (pc := 102) (i := 24) (k := 0) (n := 0) rfl rfl rfl ?_
    refine kw_get (pc := 103) (i := 25) (v := .ref 4) rfl rfl rfl lkX7_31 (fun _ => rfl) ?_
    refine kw_get (pc := 106) (i := 26) (v := .ref 17) rfl rfl rfl lkX7_117 (fun _ => rfl) ?_
    refine kw_iconst (pc := 109) (i := 27) (v := 1) rfl rfl ?_
    refine kw_callV (pc := 110) (i := 28) (Y := mX1_howManyAre) (a := 17) (As := [.int 1]) (st := []) kw_hE rfl rfl lvX7_325 arX1_howManyAre (c_X1_howManyAre_17 l σ hI 1 ) (by decide) (Nat.le_of_ble_eq_true rfl) rfl (fun v S22 p21 => ?_)
    obtain ⟨e25, z24, rfl, ef23⟩ := p21
    rw [e25]
    replace hF := kf_le ef23 hF
    have r_z24 := kw_rng z24
    show kw_AW l 3 kw_E0 KX mX7_count (p_X7_count_0 σ w) 113 [(0, .ref 0), (1, .int w)] [.int z24] σ
    exact kw_ireturn (pc := 113) (i := 29) (ty := .int) rfl rfl rfl ⟨rfl, _, rfl, hF⟩
  replace hF := kf_n c20 hF
  by_cases c26 : w.toInt = 6
  · refine kw_tableIn (pc := 1) (i := 1) (k := 6) (tgt := 114) rfl (by omega) (by decide) rfl rfl ?_
    replace hF := kf_p c26 hF
    refine kw_aload_n (pc := 114) (i := 30) (k := 0) (n := 0) rfl rfl rfl ?_
    refine kw_get (pc := 115) (i := 31) (v := .ref 4) rfl rfl rfl lkX7_31 (fun _ => rfl) ?_
    refine kw_get (pc := 118) (i := 32) (v := .ref 17) rfl rfl rfl lkX7_117 (fun _ => rfl) ?_
    refine kw_iconst (pc := 121) (i := 33) (v := 4) rfl rfl ?_
    refine kw_callV (pc := 122) (i := 34) (Y := mX1_howManyAre) (a := 17) (As := [.int 4]) (st := []) kw_hE rfl rfl lvX7_325 arX1_howManyAre (c_X1_howManyAre_17 l σ hI 4 ) (by decide) (Nat.le_of_ble_eq_true rfl) rfl (fun v S28 p27 => ?_)
    obtain ⟨e31, z30, rfl, ef29⟩ := p27
    rw [e31]
    replace hF := kf_le ef29 hF
    have r_z30 := kw_rng z30
    show kw_AW l 3 kw_E0 KX mX7_count (p_X7_count_0 σ w) 125 [(0, .ref 0), (1, .int w)] [.int z30] σ
    exact kw_ireturn (pc := 125) (i := 35) (ty := .int) rfl rfl rfl ⟨rfl, _, rfl, hF⟩
  replace hF := kf_n c26 hF
  by_cases c32 : w.toInt = 7
  · refine kw_tableIn (pc := 1) (i := 1) (k := 7) (tgt := 126) rfl (by omega) (by decide) rfl rfl ?_
    replace hF := kf_p c32 hF
    refine kw_aload_n (pc := 126) (i := 36) (k := 0) (n := 0) rfl rfl rfl ?_
    refine kw_get (pc := 127) (i := 37) (v := .ref 1) rfl rfl rfl lkX7_14 (fun _ => rfl) ?_
    refine kw_callV (pc := 130) (i := 38) (Y := mX3_howMany) (a := 1) (As := []) (st := []) kw_hE rfl rfl lvX7_328 arX3_howMany (c_X3_howMany_1 l σ hI  ) (by decide) (Nat.le_of_ble_eq_true rfl) rfl (fun v S34 p33 => ?_)
    obtain ⟨e37, z36, rfl, ef35⟩ := p33
    rw [e37]
    replace hF := kf_le ef35 hF
    have r_z36 := kw_rng z36
    show kw_AW l 3 kw_E0 KX mX7_count (p_X7_count_0 σ w) 133 [(0, .ref 0), (1, .int w)] [.int z36] σ
    exact kw_ireturn (pc := 133) (i := 39) (ty := .int) rfl rfl rfl ⟨rfl, _, rfl, hF⟩
  replace hF := kf_n c32 hF
  by_cases c38 : w.toInt = 8
  · refine kw_tableIn (pc := 1) (i := 1) (k := 8) (tgt := 134) rfl (by omega) (by decide) rfl rfl ?_
    replace hF := kf_p c38 hF
    refine kw_aload_n (pc := 134) (i := 40) (k := 0) (n := 0) rfl rfl rfl ?_
    refine kw_get (pc := 135) (i := 41) (v := .ref 2) rfl rfl rfl lkX7_18 (fun _ => rfl) ?_
    refine kw_callV (pc := 138) (i := 42) (Y := mX3_howMany) (a := 2) (As := []) (st := []) kw_hE rfl rfl lvX7_328 arX3_howMany (c_X3_howMany_2 l σ hI  ) (by decide) (Nat.le_of_ble_eq_true rfl) rfl (fun v S40 p39 => ?_)
    obtain ⟨e43, z42, rfl, ef41⟩ := p39
    rw [e43]
    replace hF := kf_le ef41 hF
    have r_z42 := kw_rng z42
    show kw_AW l 3 kw_E0 KX mX7_count (p_X7_count_0 σ w) 141 [(0, .ref 0), (1, .int w)] [.int z42] σ
    exact kw_ireturn (pc := 141) (i := 43) (ty := .int) rfl rfl rfl ⟨rfl, _, rfl, hF⟩
  replace hF := kf_n c38 hF
  by_cases c44 : w.toInt = 9
  · refine kw_tableIn (pc := 1) (i := 1) (k := 9) (tgt := 142) rfl (by omega) (by decide) rfl rfl ?_
    replace hF := kf_p c44 hF
    refine kw_aload_n (pc := 142) (i := 44) (k := 0) (n := 0) rfl rfl rfl ?_
    refine kw_get (pc := 143) (i := 45) (v := .ref 5) rfl rfl rfl lkX7_35 (fun _ => rfl) ?_
    refine kw_callV (pc := 146) (i := 46) (Y := mX3_howMany) (a := 5) (As := []) (st := []) kw_hE rfl rfl lvX7_328 arX3_howMany (c_X3_howMany_5 l σ hI  ) (by decide) (Nat.le_of_ble_eq_true rfl) rfl (fun v S46 p45 => ?_)
    obtain ⟨e49, z48, rfl, ef47⟩ := p45
    rw [e49]
    replace hF := kf_le ef47 hF
    have r_z48 := kw_rng z48
    show kw_AW l 3 kw_E0 KX mX7_count (p_X7_count_0 σ w) 149 [(0, .ref 0), (1, .int w)] [.int z48] σ
    exact kw_ireturn (pc := 149) (i := 47) (ty := .int) rfl rfl rfl ⟨rfl, _, rfl, hF⟩
  replace hF := kf_n c44 hF
  refine kw_tableOut (pc := 1) (i := 1) (tgt := 150) rfl (by omega) rfl ?_
  refine kw_iconst (pc := 150) (i := 48) (v := (-1)) rfl rfl ?_
  exact kw_ireturn (pc := 151) (i := 49) (ty := .int) rfl rfl rfl ⟨rfl, _, rfl, hF⟩
noncomputable def f_X7_miles_0 (σ : kw_S)  : Int32 × kw_S := kf_l (σ.1 4 7).toInt64 fun z1 => kf_l (f_X4_tellWhole_8 σ z1) fun S2 => ((S2.1 4 6), S2)
theorem f_X7_miles_0_u (σ : kw_S)  : f_X7_miles_0 σ  = kf_l (σ.1 4 7).toInt64 fun z1 => kf_l (f_X4_tellWhole_8 σ z1) fun S2 => ((S2.1 4 6), S2) := rfl
abbrev p_X7_miles_0 (σ : kw_S)  : Option Value → kw_S → Prop := fun vv σ' => (kw_I bX σ' ∧ kw_F [8, 28] σ σ') ∧ ∃ r : Int32, vv = some (.int r) ∧ (r, σ') = f_X7_miles_0 σ
set_option maxRecDepth 100000 in
set_option maxHeartbeats 4000000 in
theorem c_X7_miles_0 (l : Launch) (σ : kw_S) (hI : kw_I bX σ)  : kw_Met l 2 KX mX7_miles [.ref 0] σ (p_X7_miles_0 σ) := by
  have hF0 : kw_F [8, 28] σ σ := kw_F.rf
  have hF := (f_X7_miles_0_u σ).symm
  refine kw_Met.of (by decide) rfl tX7_miles (Nat.le_of_ble_eq_true rfl) ?_
  show kw_AW l 2 kw_E0 KX mX7_miles (p_X7_miles_0 σ) 0 [(0, .ref 0)] [] σ
  refine kw_aload_n (pc := 0) (i := 0) (k := 0) (n := 0) rfl rfl rfl ?_
  refine kw_get (pc := 1) (i := 1) (v := .ref 8) rfl rfl rfl lkX7_55 (fun _ => rfl) ?_
  refine kw_aload_n (pc := 4) (i := 2) (k := 0) (n := 0) rfl rfl rfl ?_
  refine kw_get (pc := 5) (i := 3) (v := .ref 4) rfl rfl rfl lkX7_31 (fun _ => rfl) ?_
  refine kw_get (pc := 8) (i := 4) (v := .int (σ.1 4 7)) rfl rfl rfl lkX7_197 (fun _ => rfl) ?_
  have b1 := kw_rng (σ.1 4 7)
  refine kw_i2l (pc := 11) (i := 5) rfl (fun z2 e_z2 t_z2 => ?_)
  replace hF := kf_le e_z2 hF
  refine kw_callV (pc := 12) (i := 6) (Y := mX4_tellWhole) (a := 8) (As := [.long z2]) (st := []) kw_hE rfl rfl lvX7_200 arX4_tellWhole (c_X4_tellWhole_8 l σ hI z2 ) (by decide) (Nat.le_of_ble_eq_true rfl) rfl (fun v S4 p3 => ?_)
  obtain ⟨⟨I6, F7⟩, rfl, ef5⟩ := p3
  have F8 : kw_F [8, 28] σ S4 := kw_F.tr hF0 F7 (by decide)
  replace hF := kf_le ef5 hF
  show kw_AW l 2 kw_E0 KX mX7_miles (p_X7_miles_0 σ) 15 [(0, .ref 0)] [] S4
  refine kw_aload_n (pc := 15) (i := 7) (k := 0) (n := 0) rfl rfl rfl ?_
  refine kw_get (pc := 16) (i := 8) (v := .ref 4) rfl rfl rfl lkX7_31 (fun _ => rfl) ?_
  refine kw_get (pc := 19) (i := 9) (v := .int (S4.1 4 6)) rfl rfl rfl lkX7_204 (fun _ => rfl) ?_
  have b9 := kw_rng (S4.1 4 6)
  exact kw_ireturn (pc := 22) (i := 10) (ty := .int) rfl rfl rfl ⟨⟨I6, F8⟩, _, rfl, hF⟩
noncomputable def f_X7_finding_0 (σ : kw_S)  : Int32 := (σ.1 8 1)
theorem f_X7_finding_0_u (σ : kw_S)  : f_X7_finding_0 σ  = (σ.1 8 1) := rfl
abbrev p_X7_finding_0 (σ : kw_S)  : Option Value → kw_S → Prop := fun vv σ' => σ' = σ ∧ ∃ r : Int32, vv = some (.int r) ∧ r = f_X7_finding_0 σ
set_option maxRecDepth 100000 in
set_option maxHeartbeats 4000000 in
theorem c_X7_finding_0 (l : Launch) (σ : kw_S) (hI : kw_I bX σ)  : kw_Met l 1 KX mX7_finding [.ref 0] σ (p_X7_finding_0 σ) := by
  have hF := (f_X7_finding_0_u σ).symm
  refine kw_Met.of (by decide) rfl tX7_finding (Nat.le_of_ble_eq_true rfl) ?_
  show kw_AW l 1 kw_E0 KX mX7_finding (p_X7_finding_0 σ) 0 [(0, .ref 0)] [] σ
  refine kw_aload_n (pc := 0) (i := 0) (k := 0) (n := 0) rfl rfl rfl ?_
  refine kw_get (pc := 1) (i := 1) (v := .ref 8) rfl rfl rfl lkX7_55 (fun _ => rfl) ?_
  refine kw_get (pc := 4) (i := 2) (v := .int (σ.1 8 1)) rfl rfl rfl lkX7_331 (fun _ => rfl) ?_
  have b1 := kw_rng (σ.1 8 1)
  exact kw_ireturn (pc := 7) (i := 3) (ty := .int) rfl rfl rfl ⟨rfl, _, rfl, hF⟩
noncomputable def f_X7_findings_0 (σ : kw_S) (f : Int32) : Int32 := if f.toInt < (1 : Int32).toInt then (((-1) : Int32)) else (if (5 : Int32).toInt < f.toInt then (((-1) : Int32)) else (kf_l (σ.1 28 f.toNatClampNeg) fun z1 => z1))
theorem f_X7_findings_0_u (σ : kw_S) (f : Int32) : f_X7_findings_0 σ f = if f.toInt < (1 : Int32).toInt then (((-1) : Int32)) else (if (5 : Int32).toInt < f.toInt then (((-1) : Int32)) else (kf_l (σ.1 28 f.toNatClampNeg) fun z1 => z1)) := rfl
abbrev p_X7_findings_0 (σ : kw_S) (f : Int32) : Option Value → kw_S → Prop := fun vv σ' => σ' = σ ∧ ∃ r : Int32, vv = some (.int r) ∧ r = f_X7_findings_0 σ f
set_option maxRecDepth 100000 in
set_option maxHeartbeats 4000000 in
theorem c_X7_findings_0 (l : Launch) (σ : kw_S) (hI : kw_I bX σ) (f : Int32) : kw_Met l 1 KX mX7_findings [.ref 0, .int f] σ (p_X7_findings_0 σ f) := by
  have r_f := kw_rng f
  have hF := (f_X7_findings_0_u σ f).symm
  have q_m1 : (-1 : Int32).toInt = -1 := rfl
  have q_1 : (1 : Int32).toInt = 1 := rfl
  have q_5 : (5 : Int32).toInt = 5 := rfl
  refine kw_Met.of (by decide) rfl tX7_findings (Nat.le_of_ble_eq_true rfl) ?_
  show kw_AW l 1 kw_E0 KX mX7_findings (p_X7_findings_0 σ f) 0 [(0, .ref 0), (1, .int f)] [] σ
  refine kw_iload_n (pc := 0) (i := 0) (k := 1) (n := 1) rfl rfl rfl ?_
  refine kw_iconst (pc := 1) (i := 1) (v := 1) rfl rfl ?_
  refine kw_icmp_lt (pc := 2) (i := 2) (tgt := 10) rfl rfl (fun c1 => ?_) (fun c1 => ?_)
  · replace hF := kf_p c1 hF
    refine kw_iconst (pc := 10) (i := 6) (v := (-1)) rfl rfl ?_
    exact kw_ireturn (pc := 11) (i := 7) (ty := .int) rfl rfl rfl ⟨rfl, _, rfl, hF⟩
  · replace hF := kf_nl c1 hF
    refine kw_iload_n (pc := 5) (i := 3) (k := 1) (n := 1) rfl rfl rfl ?_
    refine kw_iconst (pc := 6) (i := 4) (v := 5) rfl rfl ?_
    refine kw_icmp_le (pc := 7) (i := 5) (tgt := 12) rfl rfl (fun c2 => ?_) (fun c2 => ?_)
    · replace hF := kf_nl c2 hF
      refine kw_aload_n (pc := 12) (i := 8) (k := 0) (n := 0) rfl rfl rfl ?_
      refine kw_get (pc := 13) (i := 9) (v := .ref 8) rfl rfl rfl lkX7_55 (fun _ => rfl) ?_
      refine kw_get (pc := 16) (i := 10) (v := .ref 28) rfl rfl rfl lkX7_334 (fun _ => rfl) ?_
      refine kw_iload_n (pc := 19) (i := 11) (k := 1) (n := 1) rfl rfl rfl ?_
      refine kw_iald (pc := 20) (i := 12) (n := 6) rfl rfl (by omega) (by omega) (fun z3 e_z3 => ?_)
      replace hF := kf_le e_z3 hF
      have t_z3 := congrArg Int32.toInt e_z3
      have r_z3 := kw_rng z3
      exact kw_ireturn (pc := 21) (i := 13) (ty := .int) rfl rfl rfl ⟨rfl, _, rfl, hF⟩
    · replace hF := kf_p c2 hF
      refine kw_iconst (pc := 10) (i := 6) (v := (-1)) rfl rfl ?_
      exact kw_ireturn (pc := 11) (i := 7) (ty := .int) rfl rfl rfl ⟨rfl, _, rfl, hF⟩
noncomputable def l_X7_digest_0_119 (S : kw_S) : Nat → Int64 → Int32 → Int64
  | 0, _, _ => 0
  | n + 1, x1, x3 => if x3.toInt < (3 : Int32).toInt then (kf_l ((31 : Int64) * x1) fun z9 => kf_l (f_X3_sizeOf_5 S x3) fun z10 => kf_l z10.toInt64 fun z11 => kf_l (z9 + z11) fun z12 => kf_l (x3 + Int32.ofInt 1) fun z13 => l_X7_digest_0_119 S n z12 z13) else (kf_l (f_X3_fold_1 S x1) fun z7 => kf_l (f_X3_fold_2 S z7) fun z8 => z8)
theorem l_X7_digest_0_119_s (S : kw_S) (n : Nat) (x1 : Int64) (x3 : Int32) : l_X7_digest_0_119 S (n + 1) x1 x3 = if x3.toInt < (3 : Int32).toInt then (kf_l ((31 : Int64) * x1) fun z9 => kf_l (f_X3_sizeOf_5 S x3) fun z10 => kf_l z10.toInt64 fun z11 => kf_l (z9 + z11) fun z12 => kf_l (x3 + Int32.ofInt 1) fun z13 => l_X7_digest_0_119 S n z12 z13) else (kf_l (f_X3_fold_1 S x1) fun z7 => kf_l (f_X3_fold_2 S z7) fun z8 => z8) := rfl
noncomputable def l_X7_digest_0_80 (k63 : Int64 → Int32 → Int64) (a3 : Int32) (S : kw_S) : Nat → Int64 → Int32 → Int64
  | 0, _, _ => 0
  | n + 1, x1, x4 => if (6 : Int32).toInt < x4.toInt then (kf_l (a3 + Int32.ofInt 1) fun z14 => k63 x1 z14) else (kf_l ((31 : Int64) * x1) fun z15 => kf_l (f_X5_trait_4 S a3 x4) fun z16 => kf_l z16.toInt64 fun z17 => kf_l (z15 + z17) fun z18 => kf_l (x4 + Int32.ofInt 1) fun z19 => l_X7_digest_0_80 k63 a3 S n z18 z19)
theorem l_X7_digest_0_80_s (k63 : Int64 → Int32 → Int64) (a3 : Int32) (S : kw_S) (n : Nat) (x1 : Int64) (x4 : Int32) : l_X7_digest_0_80 k63 a3 S (n + 1) x1 x4 = if (6 : Int32).toInt < x4.toInt then (kf_l (a3 + Int32.ofInt 1) fun z14 => k63 x1 z14) else (kf_l ((31 : Int64) * x1) fun z15 => kf_l (f_X5_trait_4 S a3 x4) fun z16 => kf_l z16.toInt64 fun z17 => kf_l (z15 + z17) fun z18 => kf_l (x4 + Int32.ofInt 1) fun z19 => l_X7_digest_0_80 k63 a3 S n z18 z19) := rfl
noncomputable def l_X7_digest_0_63 (S : kw_S) : Nat → Int64 → Int32 → Int64
  | 0, _, _ => 0
  | n + 1, x1, x3 => if x3.toInt < (S.1 17 5).toInt then (l_X7_digest_0_80 (l_X7_digest_0_63 S n) x3 S ((8 - (0 : Int32).toInt).toNat + 1) x1 (0 : Int32)) else (l_X7_digest_0_119 S ((4 - (0 : Int32).toInt).toNat + 1) x1 (0 : Int32))
theorem l_X7_digest_0_63_s (S : kw_S) (n : Nat) (x1 : Int64) (x3 : Int32) : l_X7_digest_0_63 S (n + 1) x1 x3 = if x3.toInt < (S.1 17 5).toInt then (l_X7_digest_0_80 (l_X7_digest_0_63 S n) x3 S ((8 - (0 : Int32).toInt).toNat + 1) x1 (0 : Int32)) else (l_X7_digest_0_119 S ((4 - (0 : Int32).toInt).toNat + 1) x1 (0 : Int32)) := rfl
noncomputable def l_X7_digest_0_6 (S : kw_S) : Nat → Int64 → Int32 → Int64
  | 0, _, _ => 0
  | n + 1, x1, x3 => if (9 : Int32).toInt < x3.toInt then (kf_l ((31 : Int64) * x1) fun z1 => kf_l (S.1 4 6).toInt64 fun z2 => kf_l (z1 + z2) fun z3 => kf_l ((31 : Int64) * z3) fun z4 => kf_l (S.1 4 7).toInt64 fun z5 => kf_l (z4 + z5) fun z6 => l_X7_digest_0_63 S ((7 - (0 : Int32).toInt).toNat + 1) z6 (0 : Int32)) else (kf_l ((31 : Int64) * x1) fun z20 => kf_l (f_X7_count_0 S x3) fun z21 => kf_l z21.toInt64 fun z22 => kf_l (z20 + z22) fun z23 => kf_l (x3 + Int32.ofInt 1) fun z24 => l_X7_digest_0_6 S n z23 z24)
theorem l_X7_digest_0_6_s (S : kw_S) (n : Nat) (x1 : Int64) (x3 : Int32) : l_X7_digest_0_6 S (n + 1) x1 x3 = if (9 : Int32).toInt < x3.toInt then (kf_l ((31 : Int64) * x1) fun z1 => kf_l (S.1 4 6).toInt64 fun z2 => kf_l (z1 + z2) fun z3 => kf_l ((31 : Int64) * z3) fun z4 => kf_l (S.1 4 7).toInt64 fun z5 => kf_l (z4 + z5) fun z6 => l_X7_digest_0_63 S ((7 - (0 : Int32).toInt).toNat + 1) z6 (0 : Int32)) else (kf_l ((31 : Int64) * x1) fun z20 => kf_l (f_X7_count_0 S x3) fun z21 => kf_l z21.toInt64 fun z22 => kf_l (z20 + z22) fun z23 => kf_l (x3 + Int32.ofInt 1) fun z24 => l_X7_digest_0_6 S n z23 z24) := rfl
noncomputable def f_X7_digest_0 (σ : kw_S)  : Int64 := l_X7_digest_0_6 σ ((11 - (0 : Int32).toInt).toNat + 1) (17 : Int64) (0 : Int32)
theorem f_X7_digest_0_u (σ : kw_S)  : f_X7_digest_0 σ  = l_X7_digest_0_6 σ ((11 - (0 : Int32).toInt).toNat + 1) (17 : Int64) (0 : Int32) := rfl
abbrev p_X7_digest_0 (σ : kw_S)  : Option Value → kw_S → Prop := fun vv σ' => σ' = σ ∧ ∃ r : Int64, vv = some (.long r) ∧ r = f_X7_digest_0 σ
set_option maxRecDepth 100000 in
set_option maxHeartbeats 4000000 in
theorem c_X7_digest_0 (l : Launch) (σ : kw_S) (hI : kw_I bX σ)  : kw_Met l 4 KX mX7_digest [.ref 0] σ (p_X7_digest_0 σ) := by
  have hF := (f_X7_digest_0_u σ).symm
  have q_0 : (0 : Int32).toInt = 0 := rfl
  have q_3 : (3 : Int32).toInt = 3 := rfl
  have q_6 : (6 : Int32).toInt = 6 := rfl
  have q_9 : (9 : Int32).toInt = 9 := rfl
  refine kw_Met.of (by decide) rfl tX7_digest (Nat.le_of_ble_eq_true rfl) ?_
  show kw_AW l 4 kw_E0 KX mX7_digest (p_X7_digest_0 σ) 0 [(0, .ref 0)] [] σ
  refine kw_ldc2 (pc := 0) (i := 0) (v := 17) rfl ckX7_337 ?_
  refine kw_lstore_n (pc := 3) (i := 1) (n := 1) (lv' := [(1, .long 17), (0, .ref 0)]) rfl rfl (by decide) rfl ?_
  refine kw_iconst (pc := 4) (i := 2) (v := 0) rfl rfl ?_
  refine kw_istore_n (pc := 5) (i := 3) (n := 3) (lv' := [(3, .int 0), (1, .long 17), (0, .ref 0)]) rfl rfl (by decide) rfl ?_
  have L3 : ∀ (n7 : Nat) (x1 : Int32) (x2 : Int64), 0 ≤ x1.toInt → l_X7_digest_0_6 σ n7 x2 x1 = (f_X7_digest_0 σ) → (11 - x1.toInt).toNat < n7 → kw_AW l 4 kw_E0 KX mX7_digest (p_X7_digest_0 σ) 6 [(3, .int x1), (1, .long x2), (0, .ref 0)] [] σ := by
    intro n7
    induction n7 with
    | zero => intro x1 x2 v5 hF m6; exact absurd m6 (Nat.not_lt_zero _)
    | succ n7 ih4 =>
      intro x1 x2 v5 hF m6
      replace hF := kf_st (l_X7_digest_0_6_s _ _ _ _) hF
      have r_x1 := kw_rng x1
      refine kw_iload_n (pc := 6) (i := 4) (k := 0) (n := 3) rfl rfl rfl ?_
      refine kw_bipush (pc := 7) (i := 5) (v := 9) rfl rfl ?_
      refine kw_icmp_gt (pc := 9) (i := 6) (tgt := 31) rfl rfl (fun c8 => ?_) (fun c8 => ?_)
      · replace hF := kf_p c8 hF
        refine kw_ldc2 (pc := 31) (i := 18) (v := 31) rfl ckX7_339 ?_
        refine kw_lload_n (pc := 34) (i := 19) (k := 1) (n := 1) rfl rfl rfl ?_
        refine kw_lmul (pc := 35) (i := 20) rfl (fun z9 e_z9 => ?_)
        replace hF := kf_le e_z9 hF
        refine kw_aload_n (pc := 36) (i := 21) (k := 2) (n := 0) rfl rfl rfl ?_
        refine kw_get (pc := 37) (i := 22) (v := .ref 4) rfl rfl rfl lkX7_31 (fun _ => rfl) ?_
        refine kw_get (pc := 40) (i := 23) (v := .int (σ.1 4 6)) rfl rfl rfl lkX7_204 (fun _ => rfl) ?_
        have b10 := kw_rng (σ.1 4 6)
        refine kw_i2l (pc := 43) (i := 24) rfl (fun z11 e_z11 t_z11 => ?_)
        replace hF := kf_le e_z11 hF
        refine kw_ladd (pc := 44) (i := 25) rfl (fun z12 e_z12 => ?_)
        replace hF := kf_le e_z12 hF
        refine kw_lstore_n (pc := 45) (i := 26) (n := 1) (lv' := [(1, .long z12), (3, .int x1), (0, .ref 0)]) rfl rfl (by decide) rfl ?_
        refine kw_ldc2 (pc := 46) (i := 27) (v := 31) rfl ckX7_339 ?_
        refine kw_lload_n (pc := 49) (i := 28) (k := 0) (n := 1) rfl rfl rfl ?_
        refine kw_lmul (pc := 50) (i := 29) rfl (fun z13 e_z13 => ?_)
        replace hF := kf_le e_z13 hF
        refine kw_aload_n (pc := 51) (i := 30) (k := 2) (n := 0) rfl rfl rfl ?_
        refine kw_get (pc := 52) (i := 31) (v := .ref 4) rfl rfl rfl lkX7_31 (fun _ => rfl) ?_
        refine kw_get (pc := 55) (i := 32) (v := .int (σ.1 4 7)) rfl rfl rfl lkX7_197 (fun _ => rfl) ?_
        have b14 := kw_rng (σ.1 4 7)
        refine kw_i2l (pc := 58) (i := 33) rfl (fun z15 e_z15 t_z15 => ?_)
        replace hF := kf_le e_z15 hF
        refine kw_ladd (pc := 59) (i := 34) rfl (fun z16 e_z16 => ?_)
        replace hF := kf_le e_z16 hF
        refine kw_lstore_n (pc := 60) (i := 35) (n := 1) (lv' := [(1, .long z16), (3, .int x1), (0, .ref 0)]) rfl rfl (by decide) rfl ?_
        refine kw_iconst (pc := 61) (i := 36) (v := 0) rfl rfl ?_
        refine kw_istore_n (pc := 62) (i := 37) (n := 3) (lv' := [(3, .int 0), (1, .long z16), (0, .ref 0)]) rfl rfl (by decide) rfl ?_
        have L19 : ∀ (n23 : Nat) (x17 : Int32) (x18 : Int64), 0 ≤ x17.toInt → l_X7_digest_0_63 σ n23 x18 x17 = (f_X7_digest_0 σ) → (7 - x17.toInt).toNat < n23 → kw_AW l 4 kw_E0 KX mX7_digest (p_X7_digest_0 σ) 63 [(3, .int x17), (1, .long x18), (0, .ref 0)] [] σ := by
          intro n23
          induction n23 with
          | zero => intro x17 x18 v21 hF m22; exact absurd m22 (Nat.not_lt_zero _)
          | succ n23 ih20 =>
            intro x17 x18 v21 hF m22
            replace hF := kf_st (l_X7_digest_0_63_s _ _ _ _) hF
            have r_x17 := kw_rng x17
            refine kw_iload_n (pc := 63) (i := 38) (k := 0) (n := 3) rfl rfl rfl ?_
            refine kw_aload_n (pc := 64) (i := 39) (k := 2) (n := 0) rfl rfl rfl ?_
            refine kw_get (pc := 65) (i := 40) (v := .ref 4) rfl rfl rfl lkX7_31 (fun _ => rfl) ?_
            refine kw_get (pc := 68) (i := 41) (v := .ref 17) rfl rfl rfl lkX7_117 (fun _ => rfl) ?_
            refine kw_get (pc := 71) (i := 42) (v := .int (σ.1 17 5)) rfl rfl rfl lkX7_133 (fun _ => rfl) ?_
            have b24 : 0 ≤ (σ.1 17 5).toInt ∧ (σ.1 17 5).toInt ≤ 6 := hI 17 5
            refine kw_icmp_ge (pc := 74) (i := 43) (tgt := 117) rfl rfl (fun c25 => ?_) (fun c25 => ?_)
            · replace hF := kf_nl c25 hF
              refine kw_iconst (pc := 117) (i := 64) (v := 0) rfl rfl ?_
              refine kw_istore_n (pc := 118) (i := 65) (n := 3) (lv' := [(3, .int 0), (1, .long x18), (0, .ref 0)]) rfl rfl (by decide) rfl ?_
              have L28 : ∀ (n32 : Nat) (x26 : Int32) (x27 : Int64), 0 ≤ x26.toInt → l_X7_digest_0_119 σ n32 x27 x26 = (f_X7_digest_0 σ) → (4 - x26.toInt).toNat < n32 → kw_AW l 4 kw_E0 KX mX7_digest (p_X7_digest_0 σ) 119 [(3, .int x26), (1, .long x27), (0, .ref 0)] [] σ := by
                intro n32
                induction n32 with
                | zero => intro x26 x27 v30 hF m31; exact absurd m31 (Nat.not_lt_zero _)
                | succ n32 ih29 =>
                  intro x26 x27 v30 hF m31
                  replace hF := kf_st (l_X7_digest_0_119_s _ _ _ _) hF
                  have r_x26 := kw_rng x26
                  refine kw_iload_n (pc := 119) (i := 66) (k := 0) (n := 3) rfl rfl rfl ?_
                  refine kw_iconst (pc := 120) (i := 67) (v := 3) rfl rfl ?_
                  refine kw_icmp_ge (pc := 121) (i := 68) (tgt := 146) rfl rfl (fun c33 => ?_) (fun c33 => ?_)
                  · replace hF := kf_nl c33 hF
                    refine kw_aload_n (pc := 146) (i := 81) (k := 2) (n := 0) rfl rfl rfl ?_
                    refine kw_get (pc := 147) (i := 82) (v := .ref 2) rfl rfl rfl lkX7_18 (fun _ => rfl) ?_
                    refine kw_aload_n (pc := 150) (i := 83) (k := 2) (n := 0) rfl rfl rfl ?_
                    refine kw_get (pc := 151) (i := 84) (v := .ref 1) rfl rfl rfl lkX7_14 (fun _ => rfl) ?_
                    refine kw_lload_n (pc := 154) (i := 85) (k := 1) (n := 1) rfl rfl rfl ?_
                    refine kw_callV (pc := 155) (i := 86) (Y := mX3_fold) (a := 1) (As := [.long x27]) (st := [.ref 2]) kw_hE rfl rfl lvX7_344 arX3_fold (c_X3_fold_1 l σ hI x27 ) (by decide) (Nat.le_of_ble_eq_true rfl) rfl (fun v S35 p34 => ?_)
                    obtain ⟨e38, z37, rfl, ef36⟩ := p34
                    rw [e38]
                    replace hF := kf_le ef36 hF
                    show kw_AW l 4 kw_E0 KX mX7_digest (p_X7_digest_0 σ) 158 [(3, .int x26), (1, .long x27), (0, .ref 0)] [.long z37, .ref 2] σ
                    refine kw_callV (pc := 158) (i := 87) (Y := mX3_fold) (a := 2) (As := [.long z37]) (st := []) kw_hE rfl rfl lvX7_344 arX3_fold (c_X3_fold_2 l σ hI z37 ) (by decide) (Nat.le_of_ble_eq_true rfl) rfl (fun v S40 p39 => ?_)
                    obtain ⟨e43, z42, rfl, ef41⟩ := p39
                    rw [e43]
                    replace hF := kf_le ef41 hF
                    show kw_AW l 4 kw_E0 KX mX7_digest (p_X7_digest_0 σ) 161 [(3, .int x26), (1, .long x27), (0, .ref 0)] [.long z42] σ
                    exact kw_lreturn (pc := 161) (i := 88) rfl rfl ⟨rfl, _, rfl, hF⟩
                  · replace hF := kf_p c33 hF
                    refine kw_ldc2 (pc := 124) (i := 69) (v := 31) rfl ckX7_339 ?_
                    refine kw_lload_n (pc := 127) (i := 70) (k := 1) (n := 1) rfl rfl rfl ?_
                    refine kw_lmul (pc := 128) (i := 71) rfl (fun z44 e_z44 => ?_)
                    replace hF := kf_le e_z44 hF
                    refine kw_aload_n (pc := 129) (i := 72) (k := 2) (n := 0) rfl rfl rfl ?_
                    refine kw_get (pc := 130) (i := 73) (v := .ref 5) rfl rfl rfl lkX7_35 (fun _ => rfl) ?_
                    refine kw_iload_n (pc := 133) (i := 74) (k := 0) (n := 3) rfl rfl rfl ?_
                    refine kw_callV (pc := 134) (i := 75) (Y := mX3_sizeOf) (a := 5) (As := [.int x26]) (st := [.long z44]) kw_hE rfl rfl lvX7_110 arX3_sizeOf (c_X3_sizeOf_5 l σ hI x26 ) (by decide) (Nat.le_of_ble_eq_true rfl) rfl (fun v S46 p45 => ?_)
                    obtain ⟨e53, z52, rfl, f47, f48, f49, f50, ef51⟩ := p45
                    rw [e53]
                    replace hF := kf_le ef51 hF
                    have r_z52 := kw_rng z52
                    show kw_AW l 4 kw_E0 KX mX7_digest (p_X7_digest_0 σ) 137 [(3, .int x26), (1, .long x27), (0, .ref 0)] [.int z52, .long z44] σ
                    refine kw_i2l (pc := 137) (i := 76) rfl (fun z54 e_z54 t_z54 => ?_)
                    replace hF := kf_le e_z54 hF
                    refine kw_ladd (pc := 138) (i := 77) rfl (fun z55 e_z55 => ?_)
                    replace hF := kf_le e_z55 hF
                    refine kw_lstore_n (pc := 139) (i := 78) (n := 1) (lv' := [(1, .long z55), (3, .int x26), (0, .ref 0)]) rfl rfl (by decide) rfl ?_
                    refine kw_iinc' (pc := 140) (i := 79) (k := 1) (fun z => [(3, .int z), (1, .long z55), (0, .ref 0)]) rfl rfl (by decide) rfl (fun _ => rfl) (fun z56 e_z56 t_z56 => ?_)
                    replace hF := kf_le e_z56 hF
                    refine kw_goto (pc := 143) (i := 80) (tgt := 119) rfl rfl ?_
                    refine kw_sub (lv' := [(3, .int z56), (1, .long z55), (0, .ref 0)]) [0, 1, 2] rfl ?_
                    exact ih29 z56 z55 (by omega) hF (by omega)
              exact L28 _ 0 x18 (by omega) hF (Nat.lt_succ_self _)
            · replace hF := kf_p c25 hF
              refine kw_iconst (pc := 77) (i := 44) (v := 0) rfl rfl ?_
              refine kw_istore (pc := 78) (i := 45) (n := 4) (lv' := [(4, .int 0), (3, .int x17), (1, .long x18), (0, .ref 0)]) rfl (by decide) rfl ?_
              have L59 : ∀ (n63 : Nat) (x57 : Int32) (x58 : Int64), 0 ≤ x57.toInt → l_X7_digest_0_80 (l_X7_digest_0_63 σ n23) x17 σ n63 x58 x57 = (f_X7_digest_0 σ) → (8 - x57.toInt).toNat < n63 → kw_AW l 4 kw_E0 KX mX7_digest (p_X7_digest_0 σ) 80 [(4, .int x57), (3, .int x17), (1, .long x58), (0, .ref 0)] [] σ := by
                intro n63
                induction n63 with
                | zero => intro x57 x58 v61 hF m62; exact absurd m62 (Nat.not_lt_zero _)
                | succ n63 ih60 =>
                  intro x57 x58 v61 hF m62
                  replace hF := kf_st (l_X7_digest_0_80_s _ _ _ _ _ _) hF
                  have r_x57 := kw_rng x57
                  refine kw_iload (pc := 80) (i := 46) (k := 0) (n := 4) rfl rfl ?_
                  refine kw_bipush (pc := 82) (i := 47) (v := 6) rfl rfl ?_
                  refine kw_icmp_gt (pc := 84) (i := 48) (tgt := 111) rfl rfl (fun c64 => ?_) (fun c64 => ?_)
                  · replace hF := kf_p c64 hF
                    refine kw_iinc' (pc := 111) (i := 62) (k := 1) (fun z => [(3, .int z), (4, .int x57), (1, .long x58), (0, .ref 0)]) rfl rfl (by decide) rfl (fun _ => rfl) (fun z65 e_z65 t_z65 => ?_)
                    replace hF := kf_le e_z65 hF
                    refine kw_goto (pc := 114) (i := 63) (tgt := 63) rfl rfl ?_
                    refine kw_sub (lv' := [(3, .int z65), (1, .long x58), (0, .ref 0)]) [0, 2, 3] rfl ?_
                    exact ih20 z65 x58 (by omega) hF (by omega)
                  · replace hF := kf_nl c64 hF
                    refine kw_ldc2 (pc := 87) (i := 49) (v := 31) rfl ckX7_339 ?_
                    refine kw_lload_n (pc := 90) (i := 50) (k := 2) (n := 1) rfl rfl rfl ?_
                    refine kw_lmul (pc := 91) (i := 51) rfl (fun z66 e_z66 => ?_)
                    replace hF := kf_le e_z66 hF
                    refine kw_aload_n (pc := 92) (i := 52) (k := 3) (n := 0) rfl rfl rfl ?_
                    refine kw_get (pc := 93) (i := 53) (v := .ref 4) rfl rfl rfl lkX7_31 (fun _ => rfl) ?_
                    refine kw_iload_n (pc := 96) (i := 54) (k := 1) (n := 3) rfl rfl rfl ?_
                    refine kw_iload (pc := 97) (i := 55) (k := 0) (n := 4) rfl rfl ?_
                    refine kw_callV (pc := 99) (i := 56) (Y := mX5_trait) (a := 4) (As := [.int x17, .int x57]) (st := [.long z66]) kw_hE rfl rfl lvX7_140 arX5_trait (c_X5_trait_4 l σ hI x17 x57 ) (by decide) (Nat.le_of_ble_eq_true rfl) rfl (fun v S68 p67 => ?_)
                    obtain ⟨e71, z70, rfl, ef69⟩ := p67
                    rw [e71]
                    replace hF := kf_le ef69 hF
                    have r_z70 := kw_rng z70
                    show kw_AW l 4 kw_E0 KX mX7_digest (p_X7_digest_0 σ) 102 [(4, .int x57), (3, .int x17), (1, .long x58), (0, .ref 0)] [.int z70, .long z66] σ
                    refine kw_i2l (pc := 102) (i := 57) rfl (fun z72 e_z72 t_z72 => ?_)
                    replace hF := kf_le e_z72 hF
                    refine kw_ladd (pc := 103) (i := 58) rfl (fun z73 e_z73 => ?_)
                    replace hF := kf_le e_z73 hF
                    refine kw_lstore_n (pc := 104) (i := 59) (n := 1) (lv' := [(1, .long z73), (4, .int x57), (3, .int x17), (0, .ref 0)]) rfl rfl (by decide) rfl ?_
                    refine kw_iinc' (pc := 105) (i := 60) (k := 1) (fun z => [(4, .int z), (1, .long z73), (3, .int x17), (0, .ref 0)]) rfl rfl (by decide) rfl (fun _ => rfl) (fun z74 e_z74 t_z74 => ?_)
                    replace hF := kf_le e_z74 hF
                    refine kw_goto (pc := 108) (i := 61) (tgt := 80) rfl rfl ?_
                    refine kw_sub (lv' := [(4, .int z74), (3, .int x17), (1, .long z73), (0, .ref 0)]) [0, 2, 1, 3] rfl ?_
                    exact ih60 z74 z73 (by omega) hF (by omega)
              exact L59 _ 0 x18 (by omega) hF (Nat.lt_succ_self _)
        exact L19 _ 0 z16 (by omega) hF (Nat.lt_succ_self _)
      · replace hF := kf_nl c8 hF
        refine kw_ldc2 (pc := 12) (i := 7) (v := 31) rfl ckX7_339 ?_
        refine kw_lload_n (pc := 15) (i := 8) (k := 1) (n := 1) rfl rfl rfl ?_
        refine kw_lmul (pc := 16) (i := 9) rfl (fun z75 e_z75 => ?_)
        replace hF := kf_le e_z75 hF
        refine kw_aload_n (pc := 17) (i := 10) (k := 2) (n := 0) rfl rfl rfl ?_
        refine kw_iload_n (pc := 18) (i := 11) (k := 0) (n := 3) rfl rfl rfl ?_
        refine kw_callV (pc := 19) (i := 12) (Y := mX7_count) (a := 0) (As := [.int x1]) (st := [.long z75]) kw_hE rfl rfl lvX7_341 arX7_count (c_X7_count_0 l σ hI x1 ) (by decide) (Nat.le_of_ble_eq_true rfl) rfl (fun v S77 p76 => ?_)
        obtain ⟨e80, z79, rfl, ef78⟩ := p76
        rw [e80]
        replace hF := kf_le ef78 hF
        have r_z79 := kw_rng z79
        show kw_AW l 4 kw_E0 KX mX7_digest (p_X7_digest_0 σ) 22 [(3, .int x1), (1, .long x2), (0, .ref 0)] [.int z79, .long z75] σ
        refine kw_i2l (pc := 22) (i := 13) rfl (fun z81 e_z81 t_z81 => ?_)
        replace hF := kf_le e_z81 hF
        refine kw_ladd (pc := 23) (i := 14) rfl (fun z82 e_z82 => ?_)
        replace hF := kf_le e_z82 hF
        refine kw_lstore_n (pc := 24) (i := 15) (n := 1) (lv' := [(1, .long z82), (3, .int x1), (0, .ref 0)]) rfl rfl (by decide) rfl ?_
        refine kw_iinc' (pc := 25) (i := 16) (k := 1) (fun z => [(3, .int z), (1, .long z82), (0, .ref 0)]) rfl rfl (by decide) rfl (fun _ => rfl) (fun z83 e_z83 t_z83 => ?_)
        replace hF := kf_le e_z83 hF
        refine kw_goto (pc := 28) (i := 17) (tgt := 6) rfl rfl ?_
        refine kw_sub (lv' := [(3, .int z83), (1, .long z82), (0, .ref 0)]) [0, 1, 2] rfl ?_
        exact ih4 z83 z82 (by omega) hF (by omega)
  exact L3 _ 0 17 (by omega) hF (Nat.lt_succ_self _)
end
