noncomputable def f_X7_row_0 (σ : kw_S) (k : Int32) (n : Int32) : Int32 × kw_S := kf_b (f_X7_makeOn_0_1 σ k n (0 : Int32)) fun z1 S2 => (z1, S2)
theorem f_X7_row_0_u (σ : kw_S) (k : Int32) (n : Int32) : f_X7_row_0 σ k n = kf_b (f_X7_makeOn_0_1 σ k n (0 : Int32)) fun z1 S2 => (z1, S2) := rfl
abbrev p_X7_row_0 (σ : kw_S) (k : Int32) (n : Int32) : Option Value → kw_S → Prop := fun vv σ' => (kw_I bX σ' ∧ kw_F [8, 28, 13, 29, 30, 31, 32, 33, 34] σ σ') ∧ ∃ r : Int32, vv = some (.int r) ∧ ((k.toInt < 0 ∨ 6 ≤ k.toInt ∨ 40 < n.toInt) ∧ r.toInt = -1 ∨ 0 ≤ k.toInt ∧ k.toInt < 6 ∧ n.toInt < 0 ∧ r.toInt = -3 ∨ 0 ≤ k.toInt ∧ k.toInt < 6 ∧ 0 ≤ n.toInt ∧ n.toInt ≤ 40 ∧ r.toInt = n.toInt) ∧ (r, σ') = f_X7_row_0 σ k n
set_option maxRecDepth 100000 in
set_option maxHeartbeats 4000000 in
theorem c_X7_row_0 (l : Launch) (σ : kw_S) (hI : kw_I bX σ) (k : Int32) (n : Int32) : kw_Met l 4 KX mX7_row [.ref 0, .int k, .int n] σ (p_X7_row_0 σ k n) := by
  have r_k := kw_rng k
  have r_n := kw_rng n
  have hF0 : kw_F [8, 28, 13, 29, 30, 31, 32, 33, 34] σ σ := kw_F.rf
  have hF := (f_X7_row_0_u σ k n).symm
  have q_0 : (0 : Int32).toInt = 0 := rfl
  refine kw_Met.of (by decide) rfl tX7_row (Nat.le_of_ble_eq_true rfl) ?_
  show kw_AW l 4 kw_E0 KX mX7_row (p_X7_row_0 σ k n) 0 [(0, .ref 0), (1, .int k), (2, .int n)] [] σ
  refine kw_aload_n (pc := 0) (i := 0) (k := 0) (n := 0) rfl rfl rfl ?_
  refine kw_aload_n (pc := 1) (i := 1) (k := 0) (n := 0) rfl rfl rfl ?_
  refine kw_get (pc := 2) (i := 2) (v := .ref 1) rfl rfl rfl lkX7_14 (fun _ => rfl) ?_
  refine kw_iload_n (pc := 5) (i := 3) (k := 1) (n := 1) rfl rfl rfl ?_
  refine kw_iload_n (pc := 6) (i := 4) (k := 2) (n := 2) rfl rfl rfl ?_
  refine kw_iconst (pc := 7) (i := 5) (v := 0) rfl rfl ?_
  refine kw_callV (pc := 8) (i := 6) (Y := mX7_makeOn) (a := 0) (As := [.ref 1, .int k, .int n, .int 0]) (st := []) kw_hE rfl rfl lvX7_69 arX7_makeOn (c_X7_makeOn_0_1 l σ hI k n 0 ) (by decide) (Nat.le_of_ble_eq_true rfl) rfl (fun v S2 p1 => ?_)
  obtain ⟨⟨I6, F7⟩, z5, rfl, f3, ef4⟩ := p1
  have F8 : kw_F [8, 28, 13, 29, 30, 31, 32, 33, 34] σ S2 := kw_F.tr hF0 F7 (by decide)
  replace hF := kf_be ef4 hF
  have r_z5 := kw_rng z5
  show kw_AW l 4 kw_E0 KX mX7_row (p_X7_row_0 σ k n) 11 [(0, .ref 0), (1, .int k), (2, .int n)] [.int z5] S2
  exact kw_ireturn (pc := 11) (i := 7) (ty := .int) rfl rfl rfl ⟨⟨I6, F8⟩, _, rfl, by omega, hF⟩
noncomputable def f_X7_text_0 (σ : kw_S) (k : Int32) (n : Int32) : Int32 × kw_S := kf_b (f_X7_makeOn_0_2 σ k n (32 : Int32)) fun z1 S2 => (z1, S2)
theorem f_X7_text_0_u (σ : kw_S) (k : Int32) (n : Int32) : f_X7_text_0 σ k n = kf_b (f_X7_makeOn_0_2 σ k n (32 : Int32)) fun z1 S2 => (z1, S2) := rfl
abbrev p_X7_text_0 (σ : kw_S) (k : Int32) (n : Int32) : Option Value → kw_S → Prop := fun vv σ' => (kw_I bX σ' ∧ kw_F [8, 28, 15, 35, 36, 37, 38] σ σ') ∧ ∃ r : Int32, vv = some (.int r) ∧ ((k.toInt < 0 ∨ 4 ≤ k.toInt ∨ 60 < n.toInt) ∧ r.toInt = -1 ∨ 0 ≤ k.toInt ∧ k.toInt < 4 ∧ n.toInt < 0 ∧ r.toInt = -3 ∨ 0 ≤ k.toInt ∧ k.toInt < 4 ∧ 0 ≤ n.toInt ∧ n.toInt ≤ 60 ∧ r.toInt = n.toInt) ∧ (r, σ') = f_X7_text_0 σ k n
set_option maxRecDepth 100000 in
set_option maxHeartbeats 4000000 in
theorem c_X7_text_0 (l : Launch) (σ : kw_S) (hI : kw_I bX σ) (k : Int32) (n : Int32) : kw_Met l 4 KX mX7_text [.ref 0, .int k, .int n] σ (p_X7_text_0 σ k n) := by
  have r_k := kw_rng k
  have r_n := kw_rng n
  have hF0 : kw_F [8, 28, 15, 35, 36, 37, 38] σ σ := kw_F.rf
  have hF := (f_X7_text_0_u σ k n).symm
  have q_32 : (32 : Int32).toInt = 32 := rfl
  refine kw_Met.of (by decide) rfl tX7_text (Nat.le_of_ble_eq_true rfl) ?_
  show kw_AW l 4 kw_E0 KX mX7_text (p_X7_text_0 σ k n) 0 [(0, .ref 0), (1, .int k), (2, .int n)] [] σ
  refine kw_aload_n (pc := 0) (i := 0) (k := 0) (n := 0) rfl rfl rfl ?_
  refine kw_aload_n (pc := 1) (i := 1) (k := 0) (n := 0) rfl rfl rfl ?_
  refine kw_get (pc := 2) (i := 2) (v := .ref 2) rfl rfl rfl lkX7_18 (fun _ => rfl) ?_
  refine kw_iload_n (pc := 5) (i := 3) (k := 1) (n := 1) rfl rfl rfl ?_
  refine kw_iload_n (pc := 6) (i := 4) (k := 2) (n := 2) rfl rfl rfl ?_
  refine kw_bipush (pc := 7) (i := 5) (v := 32) rfl rfl ?_
  refine kw_callV (pc := 9) (i := 6) (Y := mX7_makeOn) (a := 0) (As := [.ref 2, .int k, .int n, .int 32]) (st := []) kw_hE rfl rfl lvX7_69 arX7_makeOn (c_X7_makeOn_0_2 l σ hI k n 32 ) (by decide) (Nat.le_of_ble_eq_true rfl) rfl (fun v S2 p1 => ?_)
  obtain ⟨⟨I6, F7⟩, z5, rfl, f3, ef4⟩ := p1
  have F8 : kw_F [8, 28, 15, 35, 36, 37, 38] σ S2 := kw_F.tr hF0 F7 (by decide)
  replace hF := kf_be ef4 hF
  have r_z5 := kw_rng z5
  show kw_AW l 4 kw_E0 KX mX7_text (p_X7_text_0 σ k n) 12 [(0, .ref 0), (1, .int k), (2, .int n)] [.int z5] S2
  exact kw_ireturn (pc := 12) (i := 7) (ty := .int) rfl rfl rfl ⟨⟨I6, F8⟩, _, rfl, by omega, hF⟩
noncomputable def f_X7_lay_0 (σ : kw_S) (a : Int32) (i : Int32) (v : Int32) : Int32 × kw_S := kf_l (f_X3_has_1 σ a) fun z1 => if z1.toInt = 0 then ((((-1) : Int32), σ)) else (kf_l (f_X3_findingAt_1 σ a i) fun z2 => if z2.toInt = 0 then (kf_l (f_X3_valueAt_1 σ a i) fun z3 => kf_l (f_X3_change_1 σ a i v) fun S4 => kf_b (f_X4_answer_8 S4 z3) fun z5 S6 => (z5, S6)) else (kf_b (f_X4_refuse_8 σ z2) fun z7 S8 => (z7, S8)))
theorem f_X7_lay_0_u (σ : kw_S) (a : Int32) (i : Int32) (v : Int32) : f_X7_lay_0 σ a i v = kf_l (f_X3_has_1 σ a) fun z1 => if z1.toInt = 0 then ((((-1) : Int32), σ)) else (kf_l (f_X3_findingAt_1 σ a i) fun z2 => if z2.toInt = 0 then (kf_l (f_X3_valueAt_1 σ a i) fun z3 => kf_l (f_X3_change_1 σ a i v) fun S4 => kf_b (f_X4_answer_8 S4 z3) fun z5 S6 => (z5, S6)) else (kf_b (f_X4_refuse_8 σ z2) fun z7 S8 => (z7, S8))) := rfl
abbrev p_X7_lay_0 (σ : kw_S) (a : Int32) (i : Int32) (v : Int32) : Option Value → kw_S → Prop := fun vv σ' => (kw_I bX σ' ∧ kw_F [8, 28, 13, 29, 30, 31, 32, 33, 34] σ σ') ∧ ∃ r : Int32, vv = some (.int r) ∧ (r, σ') = f_X7_lay_0 σ a i v
set_option maxRecDepth 100000 in
set_option maxHeartbeats 4000000 in
theorem c_X7_lay_0 (l : Launch) (σ : kw_S) (hI : kw_I bX σ) (a : Int32) (i : Int32) (v : Int32) : kw_Met l 5 KX mX7_lay [.ref 0, .int a, .int i, .int v] σ (p_X7_lay_0 σ a i v) := by
  have r_a := kw_rng a
  have r_i := kw_rng i
  have r_v := kw_rng v
  have hF0 : kw_F [8, 28, 13, 29, 30, 31, 32, 33, 34] σ σ := kw_F.rf
  have hF := (f_X7_lay_0_u σ a i v).symm
  have q_m1 : (-1 : Int32).toInt = -1 := rfl
  refine kw_Met.of (by decide) rfl tX7_lay (Nat.le_of_ble_eq_true rfl) ?_
  show kw_AW l 5 kw_E0 KX mX7_lay (p_X7_lay_0 σ a i v) 0 [(0, .ref 0), (1, .int a), (2, .int i), (3, .int v)] [] σ
  refine kw_aload_n (pc := 0) (i := 0) (k := 0) (n := 0) rfl rfl rfl ?_
  refine kw_get (pc := 1) (i := 1) (v := .ref 1) rfl rfl rfl lkX7_14 (fun _ => rfl) ?_
  refine kw_iload_n (pc := 4) (i := 2) (k := 1) (n := 1) rfl rfl rfl ?_
  refine kw_callV (pc := 5) (i := 3) (Y := mX3_has) (a := 1) (As := [.int a]) (st := []) kw_hE rfl rfl lvX7_73 arX3_has (c_X3_has_1 l σ hI a ) (by decide) (Nat.le_of_ble_eq_true rfl) rfl (fun v S2 p1 => ?_)
  obtain ⟨e8, z7, rfl, f3, f4, f5, ef6⟩ := p1
  rw [e8]
  replace hF := kf_le ef6 hF
  have r_z7 := kw_rng z7
  show kw_AW l 5 kw_E0 KX mX7_lay (p_X7_lay_0 σ a i v) 8 [(0, .ref 0), (1, .int a), (2, .int i), (3, .int v)] [.int z7] σ
  refine kw_if_ne (pc := 8) (i := 4) (tgt := 13) rfl rfl (fun c9 => ?_) (fun c9 => ?_)
  · replace hF := kf_n c9 hF
    refine kw_aload_n (pc := 13) (i := 7) (k := 0) (n := 0) rfl rfl rfl ?_
    refine kw_get (pc := 14) (i := 8) (v := .ref 1) rfl rfl rfl lkX7_14 (fun _ => rfl) ?_
    refine kw_iload_n (pc := 17) (i := 9) (k := 1) (n := 1) rfl rfl rfl ?_
    refine kw_iload_n (pc := 18) (i := 10) (k := 2) (n := 2) rfl rfl rfl ?_
    refine kw_callV (pc := 19) (i := 11) (Y := mX3_findingAt) (a := 1) (As := [.int a, .int i]) (st := []) kw_hE rfl rfl lvX7_77 arX3_findingAt (c_X3_findingAt_1 l σ hI a i ) (by decide) (Nat.le_of_ble_eq_true rfl) rfl (fun v S11 p10 => ?_)
    obtain ⟨e14, z13, rfl, ef12⟩ := p10
    rw [e14]
    replace hF := kf_le ef12 hF
    have r_z13 := kw_rng z13
    show kw_AW l 5 kw_E0 KX mX7_lay (p_X7_lay_0 σ a i v) 22 [(0, .ref 0), (1, .int a), (2, .int i), (3, .int v)] [.int z13] σ
    refine kw_istore (pc := 22) (i := 12) (n := 4) (lv' := [(4, .int z13), (0, .ref 0), (1, .int a), (2, .int i), (3, .int v)]) rfl (by decide) rfl ?_
    refine kw_iload (pc := 24) (i := 13) (k := 0) (n := 4) rfl rfl ?_
    refine kw_if_eq (pc := 26) (i := 14) (tgt := 39) rfl rfl (fun c15 => ?_) (fun c15 => ?_)
    · replace hF := kf_p c15 hF
      refine kw_aload_n (pc := 39) (i := 20) (k := 1) (n := 0) rfl rfl rfl ?_
      refine kw_get (pc := 40) (i := 21) (v := .ref 1) rfl rfl rfl lkX7_14 (fun _ => rfl) ?_
      refine kw_iload_n (pc := 43) (i := 22) (k := 2) (n := 1) rfl rfl rfl ?_
      refine kw_iload_n (pc := 44) (i := 23) (k := 3) (n := 2) rfl rfl rfl ?_
      refine kw_callV (pc := 45) (i := 24) (Y := mX3_valueAt) (a := 1) (As := [.int a, .int i]) (st := []) kw_hE rfl rfl lvX7_85 arX3_valueAt (c_X3_valueAt_1 l σ hI a i ) (by decide) (Nat.le_of_ble_eq_true rfl) rfl (fun v S17 p16 => ?_)
      obtain ⟨e20, z19, rfl, ef18⟩ := p16
      rw [e20]
      replace hF := kf_le ef18 hF
      have r_z19 := kw_rng z19
      show kw_AW l 5 kw_E0 KX mX7_lay (p_X7_lay_0 σ a i v) 48 [(4, .int z13), (0, .ref 0), (1, .int a), (2, .int i), (3, .int v)] [.int z19] σ
      refine kw_istore (pc := 48) (i := 25) (n := 5) (lv' := [(5, .int z19), (4, .int z13), (0, .ref 0), (1, .int a), (2, .int i), (3, .int v)]) rfl (by decide) rfl ?_
      refine kw_aload_n (pc := 50) (i := 26) (k := 2) (n := 0) rfl rfl rfl ?_
      refine kw_get (pc := 51) (i := 27) (v := .ref 1) rfl rfl rfl lkX7_14 (fun _ => rfl) ?_
      refine kw_iload_n (pc := 54) (i := 28) (k := 3) (n := 1) rfl rfl rfl ?_
      refine kw_iload_n (pc := 55) (i := 29) (k := 4) (n := 2) rfl rfl rfl ?_
      refine kw_iload_n (pc := 56) (i := 30) (k := 5) (n := 3) rfl rfl rfl ?_
      refine kw_callV (pc := 57) (i := 31) (Y := mX3_change) (a := 1) (As := [.int a, .int i, .int v]) (st := []) kw_hE rfl rfl lvX7_88 arX3_change (c_X3_change_1 l σ hI a i v ) (by decide) (Nat.le_of_ble_eq_true rfl) rfl (fun v S22 p21 => ?_)
      obtain ⟨⟨I24, F25⟩, rfl, ef23⟩ := p21
      have F26 : kw_F [8, 28, 13, 29, 30, 31, 32, 33, 34] σ S22 := kw_F.tr hF0 F25 (by decide)
      replace hF := kf_le ef23 hF
      show kw_AW l 5 kw_E0 KX mX7_lay (p_X7_lay_0 σ a i v) 60 [(5, .int z19), (4, .int z13), (0, .ref 0), (1, .int a), (2, .int i), (3, .int v)] [] S22
      refine kw_aload_n (pc := 60) (i := 32) (k := 2) (n := 0) rfl rfl rfl ?_
      refine kw_get (pc := 61) (i := 33) (v := .ref 8) rfl rfl rfl lkX7_55 (fun _ => rfl) ?_
      refine kw_iload (pc := 64) (i := 34) (k := 0) (n := 5) rfl rfl ?_
      refine kw_callV (pc := 66) (i := 35) (Y := mX4_answer) (a := 8) (As := [.int z19]) (st := []) kw_hE rfl rfl lvX7_92 arX4_answer (c_X4_answer_8 l S22 I24 z19 ) (by decide) (Nat.le_of_ble_eq_true rfl) rfl (fun v S28 p27 => ?_)
      obtain ⟨⟨I32, F33⟩, z31, rfl, f29, ef30⟩ := p27
      have F34 : kw_F [8, 28, 13, 29, 30, 31, 32, 33, 34] σ S28 := kw_F.tr F26 F33 (by decide)
      replace hF := kf_be ef30 hF
      have r_z31 := kw_rng z31
      show kw_AW l 5 kw_E0 KX mX7_lay (p_X7_lay_0 σ a i v) 69 [(5, .int z19), (4, .int z13), (0, .ref 0), (1, .int a), (2, .int i), (3, .int v)] [.int z31] S28
      exact kw_ireturn (pc := 69) (i := 36) (ty := .int) rfl rfl rfl ⟨⟨I32, F34⟩, _, rfl, hF⟩
    · replace hF := kf_n c15 hF
      refine kw_aload_n (pc := 29) (i := 15) (k := 1) (n := 0) rfl rfl rfl ?_
      refine kw_get (pc := 30) (i := 16) (v := .ref 8) rfl rfl rfl lkX7_55 (fun _ => rfl) ?_
      refine kw_iload (pc := 33) (i := 17) (k := 0) (n := 4) rfl rfl ?_
      refine kw_callV (pc := 35) (i := 18) (Y := mX4_refuse) (a := 8) (As := [.int z13]) (st := []) kw_hE rfl rfl lvX7_81 arX4_refuse (c_X4_refuse_8 l σ hI z13 ) (by decide) (Nat.le_of_ble_eq_true rfl) rfl (fun v S36 p35 => ?_)
      obtain ⟨⟨I40, F41⟩, z39, rfl, f37, ef38⟩ := p35
      have F42 : kw_F [8, 28, 13, 29, 30, 31, 32, 33, 34] σ S36 := kw_F.tr hF0 F41 (by decide)
      replace hF := kf_be ef38 hF
      have r_z39 := kw_rng z39
      show kw_AW l 5 kw_E0 KX mX7_lay (p_X7_lay_0 σ a i v) 38 [(4, .int z13), (0, .ref 0), (1, .int a), (2, .int i), (3, .int v)] [.int z39] S36
      exact kw_ireturn (pc := 38) (i := 19) (ty := .int) rfl rfl rfl ⟨⟨I40, F42⟩, _, rfl, hF⟩
  · replace hF := kf_p c9 hF
    refine kw_iconst (pc := 11) (i := 5) (v := (-1)) rfl rfl ?_
    exact kw_ireturn (pc := 12) (i := 6) (ty := .int) rfl rfl rfl ⟨⟨hI, hF0⟩, _, rfl, hF⟩
noncomputable def f_X7_at_0 (σ : kw_S) (a : Int32) (i : Int32) : Int32 × kw_S := kf_l (f_X3_has_1 σ a) fun z1 => if z1.toInt = 0 then ((((-1) : Int32), σ)) else (kf_l (f_X3_findingAt_1 σ a i) fun z2 => if z2.toInt = 0 then (kf_l (f_X3_valueAt_1 σ a i) fun z3 => kf_b (f_X4_answer_8 σ z3) fun z4 S5 => (z4, S5)) else (kf_b (f_X4_refuse_8 σ z2) fun z6 S7 => (z6, S7)))
theorem f_X7_at_0_u (σ : kw_S) (a : Int32) (i : Int32) : f_X7_at_0 σ a i = kf_l (f_X3_has_1 σ a) fun z1 => if z1.toInt = 0 then ((((-1) : Int32), σ)) else (kf_l (f_X3_findingAt_1 σ a i) fun z2 => if z2.toInt = 0 then (kf_l (f_X3_valueAt_1 σ a i) fun z3 => kf_b (f_X4_answer_8 σ z3) fun z4 S5 => (z4, S5)) else (kf_b (f_X4_refuse_8 σ z2) fun z6 S7 => (z6, S7))) := rfl
abbrev p_X7_at_0 (σ : kw_S) (a : Int32) (i : Int32) : Option Value → kw_S → Prop := fun vv σ' => (kw_I bX σ' ∧ kw_F [8, 28] σ σ') ∧ ∃ r : Int32, vv = some (.int r) ∧ (r, σ') = f_X7_at_0 σ a i
set_option maxRecDepth 100000 in
set_option maxHeartbeats 4000000 in
theorem c_X7_at_0 (l : Launch) (σ : kw_S) (hI : kw_I bX σ) (a : Int32) (i : Int32) : kw_Met l 5 KX mX7_at [.ref 0, .int a, .int i] σ (p_X7_at_0 σ a i) := by
  have r_a := kw_rng a
  have r_i := kw_rng i
  have hF0 : kw_F [8, 28] σ σ := kw_F.rf
  have hF := (f_X7_at_0_u σ a i).symm
  have q_m1 : (-1 : Int32).toInt = -1 := rfl
  refine kw_Met.of (by decide) rfl tX7_at (Nat.le_of_ble_eq_true rfl) ?_
  show kw_AW l 5 kw_E0 KX mX7_at (p_X7_at_0 σ a i) 0 [(0, .ref 0), (1, .int a), (2, .int i)] [] σ
  refine kw_aload_n (pc := 0) (i := 0) (k := 0) (n := 0) rfl rfl rfl ?_
  refine kw_get (pc := 1) (i := 1) (v := .ref 1) rfl rfl rfl lkX7_14 (fun _ => rfl) ?_
  refine kw_iload_n (pc := 4) (i := 2) (k := 1) (n := 1) rfl rfl rfl ?_
  refine kw_callV (pc := 5) (i := 3) (Y := mX3_has) (a := 1) (As := [.int a]) (st := []) kw_hE rfl rfl lvX7_73 arX3_has (c_X3_has_1 l σ hI a ) (by decide) (Nat.le_of_ble_eq_true rfl) rfl (fun v S2 p1 => ?_)
  obtain ⟨e8, z7, rfl, f3, f4, f5, ef6⟩ := p1
  rw [e8]
  replace hF := kf_le ef6 hF
  have r_z7 := kw_rng z7
  show kw_AW l 5 kw_E0 KX mX7_at (p_X7_at_0 σ a i) 8 [(0, .ref 0), (1, .int a), (2, .int i)] [.int z7] σ
  refine kw_if_ne (pc := 8) (i := 4) (tgt := 13) rfl rfl (fun c9 => ?_) (fun c9 => ?_)
  · replace hF := kf_n c9 hF
    refine kw_aload_n (pc := 13) (i := 7) (k := 0) (n := 0) rfl rfl rfl ?_
    refine kw_get (pc := 14) (i := 8) (v := .ref 1) rfl rfl rfl lkX7_14 (fun _ => rfl) ?_
    refine kw_iload_n (pc := 17) (i := 9) (k := 1) (n := 1) rfl rfl rfl ?_
    refine kw_iload_n (pc := 18) (i := 10) (k := 2) (n := 2) rfl rfl rfl ?_
    refine kw_callV (pc := 19) (i := 11) (Y := mX3_findingAt) (a := 1) (As := [.int a, .int i]) (st := []) kw_hE rfl rfl lvX7_77 arX3_findingAt (c_X3_findingAt_1 l σ hI a i ) (by decide) (Nat.le_of_ble_eq_true rfl) rfl (fun v S11 p10 => ?_)
    obtain ⟨e14, z13, rfl, ef12⟩ := p10
    rw [e14]
    replace hF := kf_le ef12 hF
    have r_z13 := kw_rng z13
    show kw_AW l 5 kw_E0 KX mX7_at (p_X7_at_0 σ a i) 22 [(0, .ref 0), (1, .int a), (2, .int i)] [.int z13] σ
    refine kw_istore_n (pc := 22) (i := 12) (n := 3) (lv' := [(3, .int z13), (0, .ref 0), (1, .int a), (2, .int i)]) rfl rfl (by decide) rfl ?_
    refine kw_iload_n (pc := 23) (i := 13) (k := 0) (n := 3) rfl rfl rfl ?_
    refine kw_if_eq (pc := 24) (i := 14) (tgt := 36) rfl rfl (fun c15 => ?_) (fun c15 => ?_)
    · replace hF := kf_p c15 hF
      refine kw_aload_n (pc := 36) (i := 20) (k := 1) (n := 0) rfl rfl rfl ?_
      refine kw_get (pc := 37) (i := 21) (v := .ref 8) rfl rfl rfl lkX7_55 (fun _ => rfl) ?_
      refine kw_aload_n (pc := 40) (i := 22) (k := 1) (n := 0) rfl rfl rfl ?_
      refine kw_get (pc := 41) (i := 23) (v := .ref 1) rfl rfl rfl lkX7_14 (fun _ => rfl) ?_
      refine kw_iload_n (pc := 44) (i := 24) (k := 2) (n := 1) rfl rfl rfl ?_
      refine kw_iload_n (pc := 45) (i := 25) (k := 3) (n := 2) rfl rfl rfl ?_
      refine kw_callV (pc := 46) (i := 26) (Y := mX3_valueAt) (a := 1) (As := [.int a, .int i]) (st := [.ref 8]) kw_hE rfl rfl lvX7_85 arX3_valueAt (c_X3_valueAt_1 l σ hI a i ) (by decide) (Nat.le_of_ble_eq_true rfl) rfl (fun v S17 p16 => ?_)
      obtain ⟨e20, z19, rfl, ef18⟩ := p16
      rw [e20]
      replace hF := kf_le ef18 hF
      have r_z19 := kw_rng z19
      show kw_AW l 5 kw_E0 KX mX7_at (p_X7_at_0 σ a i) 49 [(3, .int z13), (0, .ref 0), (1, .int a), (2, .int i)] [.int z19, .ref 8] σ
      refine kw_callV (pc := 49) (i := 27) (Y := mX4_answer) (a := 8) (As := [.int z19]) (st := []) kw_hE rfl rfl lvX7_92 arX4_answer (c_X4_answer_8 l σ hI z19 ) (by decide) (Nat.le_of_ble_eq_true rfl) rfl (fun v S22 p21 => ?_)
      obtain ⟨⟨I26, F27⟩, z25, rfl, f23, ef24⟩ := p21
      have F28 : kw_F [8, 28] σ S22 := kw_F.tr hF0 F27 (by decide)
      replace hF := kf_be ef24 hF
      have r_z25 := kw_rng z25
      show kw_AW l 5 kw_E0 KX mX7_at (p_X7_at_0 σ a i) 52 [(3, .int z13), (0, .ref 0), (1, .int a), (2, .int i)] [.int z25] S22
      exact kw_ireturn (pc := 52) (i := 28) (ty := .int) rfl rfl rfl ⟨⟨I26, F28⟩, _, rfl, hF⟩
    · replace hF := kf_n c15 hF
      refine kw_aload_n (pc := 27) (i := 15) (k := 1) (n := 0) rfl rfl rfl ?_
      refine kw_get (pc := 28) (i := 16) (v := .ref 8) rfl rfl rfl lkX7_55 (fun _ => rfl) ?_
      refine kw_iload_n (pc := 31) (i := 17) (k := 0) (n := 3) rfl rfl rfl ?_
      refine kw_callV (pc := 32) (i := 18) (Y := mX4_refuse) (a := 8) (As := [.int z13]) (st := []) kw_hE rfl rfl lvX7_81 arX4_refuse (c_X4_refuse_8 l σ hI z13 ) (by decide) (Nat.le_of_ble_eq_true rfl) rfl (fun v S30 p29 => ?_)
      obtain ⟨⟨I34, F35⟩, z33, rfl, f31, ef32⟩ := p29
      have F36 : kw_F [8, 28] σ S30 := kw_F.tr hF0 F35 (by decide)
      replace hF := kf_be ef32 hF
      have r_z33 := kw_rng z33
      show kw_AW l 5 kw_E0 KX mX7_at (p_X7_at_0 σ a i) 35 [(3, .int z13), (0, .ref 0), (1, .int a), (2, .int i)] [.int z33] S30
      exact kw_ireturn (pc := 35) (i := 19) (ty := .int) rfl rfl rfl ⟨⟨I34, F36⟩, _, rfl, hF⟩
  · replace hF := kf_p c9 hF
    refine kw_iconst (pc := 11) (i := 5) (v := (-1)) rfl rfl ?_
    exact kw_ireturn (pc := 12) (i := 6) (ty := .int) rfl rfl rfl ⟨⟨hI, hF0⟩, _, rfl, hF⟩
noncomputable def f_X7_tear_0 (σ : kw_S) (a : Int32) : Int32 × kw_S := kf_l (f_X3_has_1 σ a) fun z1 => if z1.toInt = 0 then ((((-1) : Int32), σ)) else (kf_l (f_X3_isMissing_1 σ a) fun z2 => if z2.toInt = 0 then (kf_l (f_X3_drop_1 σ a) fun S3 => ((1 : Int32), S3)) else (kf_b (f_X4_refuse_8 σ (1 : Int32)) fun z4 S5 => (z4, S5)))
theorem f_X7_tear_0_u (σ : kw_S) (a : Int32) : f_X7_tear_0 σ a = kf_l (f_X3_has_1 σ a) fun z1 => if z1.toInt = 0 then ((((-1) : Int32), σ)) else (kf_l (f_X3_isMissing_1 σ a) fun z2 => if z2.toInt = 0 then (kf_l (f_X3_drop_1 σ a) fun S3 => ((1 : Int32), S3)) else (kf_b (f_X4_refuse_8 σ (1 : Int32)) fun z4 S5 => (z4, S5))) := rfl
abbrev p_X7_tear_0 (σ : kw_S) (a : Int32) : Option Value → kw_S → Prop := fun vv σ' => (kw_I bX σ' ∧ kw_F [8, 28, 13, 29, 30, 31, 32, 33, 34] σ σ') ∧ ∃ r : Int32, vv = some (.int r) ∧ (r, σ') = f_X7_tear_0 σ a
set_option maxRecDepth 100000 in
set_option maxHeartbeats 4000000 in
theorem c_X7_tear_0 (l : Launch) (σ : kw_S) (hI : kw_I bX σ) (a : Int32) : kw_Met l 4 KX mX7_tear [.ref 0, .int a] σ (p_X7_tear_0 σ a) := by
  have r_a := kw_rng a
  have hF0 : kw_F [8, 28, 13, 29, 30, 31, 32, 33, 34] σ σ := kw_F.rf
  have hF := (f_X7_tear_0_u σ a).symm
  have q_m1 : (-1 : Int32).toInt = -1 := rfl
  have q_1 : (1 : Int32).toInt = 1 := rfl
  refine kw_Met.of (by decide) rfl tX7_tear (Nat.le_of_ble_eq_true rfl) ?_
  show kw_AW l 4 kw_E0 KX mX7_tear (p_X7_tear_0 σ a) 0 [(0, .ref 0), (1, .int a)] [] σ
  refine kw_aload_n (pc := 0) (i := 0) (k := 0) (n := 0) rfl rfl rfl ?_
  refine kw_get (pc := 1) (i := 1) (v := .ref 1) rfl rfl rfl lkX7_14 (fun _ => rfl) ?_
  refine kw_iload_n (pc := 4) (i := 2) (k := 1) (n := 1) rfl rfl rfl ?_
  refine kw_callV (pc := 5) (i := 3) (Y := mX3_has) (a := 1) (As := [.int a]) (st := []) kw_hE rfl rfl lvX7_73 arX3_has (c_X3_has_1 l σ hI a ) (by decide) (Nat.le_of_ble_eq_true rfl) rfl (fun v S2 p1 => ?_)
  obtain ⟨e8, z7, rfl, f3, f4, f5, ef6⟩ := p1
  rw [e8]
  replace hF := kf_le ef6 hF
  have r_z7 := kw_rng z7
  show kw_AW l 4 kw_E0 KX mX7_tear (p_X7_tear_0 σ a) 8 [(0, .ref 0), (1, .int a)] [.int z7] σ
  refine kw_if_ne (pc := 8) (i := 4) (tgt := 13) rfl rfl (fun c9 => ?_) (fun c9 => ?_)
  · replace hF := kf_n c9 hF
    refine kw_aload_n (pc := 13) (i := 7) (k := 0) (n := 0) rfl rfl rfl ?_
    refine kw_get (pc := 14) (i := 8) (v := .ref 1) rfl rfl rfl lkX7_14 (fun _ => rfl) ?_
    refine kw_iload_n (pc := 17) (i := 9) (k := 1) (n := 1) rfl rfl rfl ?_
    refine kw_callV (pc := 18) (i := 10) (Y := mX3_isMissing) (a := 1) (As := [.int a]) (st := []) kw_hE rfl rfl lvX7_95 arX3_isMissing (c_X3_isMissing_1 l σ hI a ) (by decide) (Nat.le_of_ble_eq_true rfl) rfl (fun v S11 p10 => ?_)
    obtain ⟨e16, z15, rfl, f12, f13, ef14⟩ := p10
    rw [e16]
    replace hF := kf_le ef14 hF
    have r_z15 := kw_rng z15
    show kw_AW l 4 kw_E0 KX mX7_tear (p_X7_tear_0 σ a) 21 [(0, .ref 0), (1, .int a)] [.int z15] σ
    refine kw_if_eq (pc := 21) (i := 11) (tgt := 33) rfl rfl (fun c17 => ?_) (fun c17 => ?_)
    · replace hF := kf_p c17 hF
      refine kw_aload_n (pc := 33) (i := 17) (k := 0) (n := 0) rfl rfl rfl ?_
      refine kw_get (pc := 34) (i := 18) (v := .ref 1) rfl rfl rfl lkX7_14 (fun _ => rfl) ?_
      refine kw_iload_n (pc := 37) (i := 19) (k := 1) (n := 1) rfl rfl rfl ?_
      refine kw_callV (pc := 38) (i := 20) (Y := mX3_drop) (a := 1) (As := [.int a]) (st := []) kw_hE rfl rfl lvX7_98 arX3_drop (c_X3_drop_1 l σ hI a ) (by decide) (Nat.le_of_ble_eq_true rfl) rfl (fun v S19 p18 => ?_)
      obtain ⟨⟨I21, F22⟩, rfl, ef20⟩ := p18
      have F23 : kw_F [8, 28, 13, 29, 30, 31, 32, 33, 34] σ S19 := kw_F.tr hF0 F22 (by decide)
      replace hF := kf_le ef20 hF
      show kw_AW l 4 kw_E0 KX mX7_tear (p_X7_tear_0 σ a) 41 [(0, .ref 0), (1, .int a)] [] S19
      refine kw_iconst (pc := 41) (i := 21) (v := 1) rfl rfl ?_
      exact kw_ireturn (pc := 42) (i := 22) (ty := .int) rfl rfl rfl ⟨⟨I21, F23⟩, _, rfl, hF⟩
    · replace hF := kf_n c17 hF
      refine kw_aload_n (pc := 24) (i := 12) (k := 0) (n := 0) rfl rfl rfl ?_
      refine kw_get (pc := 25) (i := 13) (v := .ref 8) rfl rfl rfl lkX7_55 (fun _ => rfl) ?_
      refine kw_iconst (pc := 28) (i := 14) (v := 1) rfl rfl ?_
      refine kw_callV (pc := 29) (i := 15) (Y := mX4_refuse) (a := 8) (As := [.int 1]) (st := []) kw_hE rfl rfl lvX7_81 arX4_refuse (c_X4_refuse_8 l σ hI 1 ) (by decide) (Nat.le_of_ble_eq_true rfl) rfl (fun v S25 p24 => ?_)
      obtain ⟨⟨I29, F30⟩, z28, rfl, f26, ef27⟩ := p24
      have F31 : kw_F [8, 28, 13, 29, 30, 31, 32, 33, 34] σ S25 := kw_F.tr hF0 F30 (by decide)
      replace hF := kf_be ef27 hF
      have r_z28 := kw_rng z28
      show kw_AW l 4 kw_E0 KX mX7_tear (p_X7_tear_0 σ a) 32 [(0, .ref 0), (1, .int a)] [.int z28] S25
      exact kw_ireturn (pc := 32) (i := 16) (ty := .int) rfl rfl rfl ⟨⟨I29, F31⟩, _, rfl, hF⟩
  · replace hF := kf_p c9 hF
    refine kw_iconst (pc := 11) (i := 5) (v := (-1)) rfl rfl ?_
    exact kw_ireturn (pc := 12) (i := 6) (ty := .int) rfl rfl rfl ⟨⟨hI, hF0⟩, _, rfl, hF⟩
noncomputable def f_X7_copy_0 (σ : kw_S) (a : Int32) (i : Int32) (t : Int32) (j : Int32) (n : Int32) : Int32 × kw_S := kf_l (f_X3_has_1 σ a) fun z1 => if z1.toInt = 0 then ((((-1) : Int32), σ)) else (kf_l (f_X3_has_1 σ t) fun z2 => if z2.toInt = 0 then ((((-1) : Int32), σ)) else (if n.toInt < 0 then (kf_b (f_X4_refuse_8 σ (5 : Int32)) fun z16 S17 => (z16, S17)) else (kf_l (f_X3_isMissing_1 σ a) fun z3 => if z3.toInt = 0 then (kf_l (f_X3_isMissing_1 σ t) fun z6 => if z6.toInt = 0 then (kf_l (f_X3_hasPlaces_1 σ a i n) fun z7 => if z7.toInt = 0 then (kf_b (f_X4_refuse_8 σ (2 : Int32)) fun z8 S9 => (z8, S9)) else (kf_l (f_X3_hasPlaces_1 σ t j n) fun z10 => if z10.toInt = 0 then (kf_b (f_X4_refuse_8 σ (2 : Int32)) fun z12 S13 => (z12, S13)) else (kf_l (f_X3_move_1 σ a i t j n) fun S11 => ((1 : Int32), S11)))) else (kf_b (f_X4_refuse_8 σ (1 : Int32)) fun z14 S15 => (z14, S15))) else (kf_b (f_X4_refuse_8 σ (1 : Int32)) fun z4 S5 => (z4, S5)))))
theorem f_X7_copy_0_u (σ : kw_S) (a : Int32) (i : Int32) (t : Int32) (j : Int32) (n : Int32) : f_X7_copy_0 σ a i t j n = kf_l (f_X3_has_1 σ a) fun z1 => if z1.toInt = 0 then ((((-1) : Int32), σ)) else (kf_l (f_X3_has_1 σ t) fun z2 => if z2.toInt = 0 then ((((-1) : Int32), σ)) else (if n.toInt < 0 then (kf_b (f_X4_refuse_8 σ (5 : Int32)) fun z16 S17 => (z16, S17)) else (kf_l (f_X3_isMissing_1 σ a) fun z3 => if z3.toInt = 0 then (kf_l (f_X3_isMissing_1 σ t) fun z6 => if z6.toInt = 0 then (kf_l (f_X3_hasPlaces_1 σ a i n) fun z7 => if z7.toInt = 0 then (kf_b (f_X4_refuse_8 σ (2 : Int32)) fun z8 S9 => (z8, S9)) else (kf_l (f_X3_hasPlaces_1 σ t j n) fun z10 => if z10.toInt = 0 then (kf_b (f_X4_refuse_8 σ (2 : Int32)) fun z12 S13 => (z12, S13)) else (kf_l (f_X3_move_1 σ a i t j n) fun S11 => ((1 : Int32), S11)))) else (kf_b (f_X4_refuse_8 σ (1 : Int32)) fun z14 S15 => (z14, S15))) else (kf_b (f_X4_refuse_8 σ (1 : Int32)) fun z4 S5 => (z4, S5))))) := rfl
abbrev p_X7_copy_0 (σ : kw_S) (a : Int32) (i : Int32) (t : Int32) (j : Int32) (n : Int32) : Option Value → kw_S → Prop := fun vv σ' => (kw_I bX σ' ∧ kw_F [8, 28, 13, 29, 30, 31, 32, 33, 34] σ σ') ∧ ∃ r : Int32, vv = some (.int r) ∧ (r, σ') = f_X7_copy_0 σ a i t j n
set_option maxRecDepth 100000 in
set_option maxHeartbeats 4000000 in
theorem c_X7_copy_0 (l : Launch) (σ : kw_S) (hI : kw_I bX σ) (a : Int32) (i : Int32) (t : Int32) (j : Int32) (n : Int32) : kw_Met l 4 KX mX7_copy [.ref 0, .int a, .int i, .int t, .int j, .int n] σ (p_X7_copy_0 σ a i t j n) := by
  have r_a := kw_rng a
  have r_i := kw_rng i
  have r_t := kw_rng t
  have r_j := kw_rng j
  have r_n := kw_rng n
  have hF0 : kw_F [8, 28, 13, 29, 30, 31, 32, 33, 34] σ σ := kw_F.rf
  have hF := (f_X7_copy_0_u σ a i t j n).symm
  have q_m1 : (-1 : Int32).toInt = -1 := rfl
  have q_1 : (1 : Int32).toInt = 1 := rfl
  have q_2 : (2 : Int32).toInt = 2 := rfl
  have q_5 : (5 : Int32).toInt = 5 := rfl
  refine kw_Met.of (by decide) rfl tX7_copy (Nat.le_of_ble_eq_true rfl) ?_
  show kw_AW l 4 kw_E0 KX mX7_copy (p_X7_copy_0 σ a i t j n) 0 [(0, .ref 0), (1, .int a), (2, .int i), (3, .int t), (4, .int j), (5, .int n)] [] σ
  refine kw_aload_n (pc := 0) (i := 0) (k := 0) (n := 0) rfl rfl rfl ?_
  refine kw_get (pc := 1) (i := 1) (v := .ref 1) rfl rfl rfl lkX7_14 (fun _ => rfl) ?_
  refine kw_iload_n (pc := 4) (i := 2) (k := 1) (n := 1) rfl rfl rfl ?_
  refine kw_callV (pc := 5) (i := 3) (Y := mX3_has) (a := 1) (As := [.int a]) (st := []) kw_hE rfl rfl lvX7_73 arX3_has (c_X3_has_1 l σ hI a ) (by decide) (Nat.le_of_ble_eq_true rfl) rfl (fun v S2 p1 => ?_)
  obtain ⟨e8, z7, rfl, f3, f4, f5, ef6⟩ := p1
  rw [e8]
  replace hF := kf_le ef6 hF
  have r_z7 := kw_rng z7
  show kw_AW l 4 kw_E0 KX mX7_copy (p_X7_copy_0 σ a i t j n) 8 [(0, .ref 0), (1, .int a), (2, .int i), (3, .int t), (4, .int j), (5, .int n)] [.int z7] σ
  refine kw_if_eq (pc := 8) (i := 4) (tgt := 22) rfl rfl (fun c9 => ?_) (fun c9 => ?_)
  · replace hF := kf_p c9 hF
    refine kw_iconst (pc := 22) (i := 10) (v := (-1)) rfl rfl ?_
    exact kw_ireturn (pc := 23) (i := 11) (ty := .int) rfl rfl rfl ⟨⟨hI, hF0⟩, _, rfl, hF⟩
  · replace hF := kf_n c9 hF
    refine kw_aload_n (pc := 11) (i := 5) (k := 0) (n := 0) rfl rfl rfl ?_
    refine kw_get (pc := 12) (i := 6) (v := .ref 1) rfl rfl rfl lkX7_14 (fun _ => rfl) ?_
    refine kw_iload_n (pc := 15) (i := 7) (k := 3) (n := 3) rfl rfl rfl ?_
    refine kw_callV (pc := 16) (i := 8) (Y := mX3_has) (a := 1) (As := [.int t]) (st := []) kw_hE rfl rfl lvX7_73 arX3_has (c_X3_has_1 l σ hI t ) (by decide) (Nat.le_of_ble_eq_true rfl) rfl (fun v S11 p10 => ?_)
    obtain ⟨e17, z16, rfl, f12, f13, f14, ef15⟩ := p10
    rw [e17]
    replace hF := kf_le ef15 hF
    have r_z16 := kw_rng z16
    show kw_AW l 4 kw_E0 KX mX7_copy (p_X7_copy_0 σ a i t j n) 19 [(0, .ref 0), (1, .int a), (2, .int i), (3, .int t), (4, .int j), (5, .int n)] [.int z16] σ
    refine kw_if_ne (pc := 19) (i := 9) (tgt := 24) rfl rfl (fun c18 => ?_) (fun c18 => ?_)
    · replace hF := kf_n c18 hF
      refine kw_iload (pc := 24) (i := 12) (k := 5) (n := 5) rfl rfl ?_
      refine kw_if_ge (pc := 26) (i := 13) (tgt := 38) rfl rfl (fun c19 => ?_) (fun c19 => ?_)
      · replace hF := kf_nl c19 hF
        refine kw_aload_n (pc := 38) (i := 19) (k := 0) (n := 0) rfl rfl rfl ?_
        refine kw_get (pc := 39) (i := 20) (v := .ref 1) rfl rfl rfl lkX7_14 (fun _ => rfl) ?_
        refine kw_iload_n (pc := 42) (i := 21) (k := 1) (n := 1) rfl rfl rfl ?_
        refine kw_callV (pc := 43) (i := 22) (Y := mX3_isMissing) (a := 1) (As := [.int a]) (st := []) kw_hE rfl rfl lvX7_95 arX3_isMissing (c_X3_isMissing_1 l σ hI a ) (by decide) (Nat.le_of_ble_eq_true rfl) rfl (fun v S21 p20 => ?_)
        obtain ⟨e26, z25, rfl, f22, f23, ef24⟩ := p20
        rw [e26]
        replace hF := kf_le ef24 hF
        have r_z25 := kw_rng z25
        show kw_AW l 4 kw_E0 KX mX7_copy (p_X7_copy_0 σ a i t j n) 46 [(0, .ref 0), (1, .int a), (2, .int i), (3, .int t), (4, .int j), (5, .int n)] [.int z25] σ
        refine kw_if_ne (pc := 46) (i := 23) (tgt := 60) rfl rfl (fun c27 => ?_) (fun c27 => ?_)
        · replace hF := kf_n c27 hF
          refine kw_aload_n (pc := 60) (i := 29) (k := 0) (n := 0) rfl rfl rfl ?_
          refine kw_get (pc := 61) (i := 30) (v := .ref 8) rfl rfl rfl lkX7_55 (fun _ => rfl) ?_
          refine kw_iconst (pc := 64) (i := 31) (v := 1) rfl rfl ?_
          refine kw_callV (pc := 65) (i := 32) (Y := mX4_refuse) (a := 8) (As := [.int 1]) (st := []) kw_hE rfl rfl lvX7_81 arX4_refuse (c_X4_refuse_8 l σ hI 1 ) (by decide) (Nat.le_of_ble_eq_true rfl) rfl (fun v S29 p28 => ?_)
          obtain ⟨⟨I33, F34⟩, z32, rfl, f30, ef31⟩ := p28
          have F35 : kw_F [8, 28, 13, 29, 30, 31, 32, 33, 34] σ S29 := kw_F.tr hF0 F34 (by decide)
          replace hF := kf_be ef31 hF
          have r_z32 := kw_rng z32
          show kw_AW l 4 kw_E0 KX mX7_copy (p_X7_copy_0 σ a i t j n) 68 [(0, .ref 0), (1, .int a), (2, .int i), (3, .int t), (4, .int j), (5, .int n)] [.int z32] S29
          exact kw_ireturn (pc := 68) (i := 33) (ty := .int) rfl rfl rfl ⟨⟨I33, F35⟩, _, rfl, hF⟩
        · replace hF := kf_p c27 hF
          refine kw_aload_n (pc := 49) (i := 24) (k := 0) (n := 0) rfl rfl rfl ?_
          refine kw_get (pc := 50) (i := 25) (v := .ref 1) rfl rfl rfl lkX7_14 (fun _ => rfl) ?_
          refine kw_iload_n (pc := 53) (i := 26) (k := 3) (n := 3) rfl rfl rfl ?_
          refine kw_callV (pc := 54) (i := 27) (Y := mX3_isMissing) (a := 1) (As := [.int t]) (st := []) kw_hE rfl rfl lvX7_95 arX3_isMissing (c_X3_isMissing_1 l σ hI t ) (by decide) (Nat.le_of_ble_eq_true rfl) rfl (fun v S37 p36 => ?_)
          obtain ⟨e42, z41, rfl, f38, f39, ef40⟩ := p36
          rw [e42]
          replace hF := kf_le ef40 hF
          have r_z41 := kw_rng z41
          show kw_AW l 4 kw_E0 KX mX7_copy (p_X7_copy_0 σ a i t j n) 57 [(0, .ref 0), (1, .int a), (2, .int i), (3, .int t), (4, .int j), (5, .int n)] [.int z41] σ
          refine kw_if_eq (pc := 57) (i := 28) (tgt := 69) rfl rfl (fun c43 => ?_) (fun c43 => ?_)
          · replace hF := kf_p c43 hF
            refine kw_aload_n (pc := 69) (i := 34) (k := 0) (n := 0) rfl rfl rfl ?_
            refine kw_get (pc := 70) (i := 35) (v := .ref 1) rfl rfl rfl lkX7_14 (fun _ => rfl) ?_
            refine kw_iload_n (pc := 73) (i := 36) (k := 1) (n := 1) rfl rfl rfl ?_
            refine kw_iload_n (pc := 74) (i := 37) (k := 2) (n := 2) rfl rfl rfl ?_
            refine kw_iload (pc := 75) (i := 38) (k := 5) (n := 5) rfl rfl ?_
            refine kw_callV (pc := 77) (i := 39) (Y := mX3_hasPlaces) (a := 1) (As := [.int a, .int i, .int n]) (st := []) kw_hE rfl rfl lvX7_102 arX3_hasPlaces (c_X3_hasPlaces_1 l σ hI a i n ) (by decide) (Nat.le_of_ble_eq_true rfl) rfl (fun v S45 p44 => ?_)
            obtain ⟨e50, z49, rfl, f46, f47, ef48⟩ := p44
            rw [e50]
            replace hF := kf_le ef48 hF
            have r_z49 := kw_rng z49
            show kw_AW l 4 kw_E0 KX mX7_copy (p_X7_copy_0 σ a i t j n) 80 [(0, .ref 0), (1, .int a), (2, .int i), (3, .int t), (4, .int j), (5, .int n)] [.int z49] σ
            refine kw_if_eq (pc := 80) (i := 40) (tgt := 98) rfl rfl (fun c51 => ?_) (fun c51 => ?_)
            · replace hF := kf_p c51 hF
              refine kw_aload_n (pc := 98) (i := 48) (k := 0) (n := 0) rfl rfl rfl ?_
              refine kw_get (pc := 99) (i := 49) (v := .ref 8) rfl rfl rfl lkX7_55 (fun _ => rfl) ?_
              refine kw_iconst (pc := 102) (i := 50) (v := 2) rfl rfl ?_
              refine kw_callV (pc := 103) (i := 51) (Y := mX4_refuse) (a := 8) (As := [.int 2]) (st := []) kw_hE rfl rfl lvX7_81 arX4_refuse (c_X4_refuse_8 l σ hI 2 ) (by decide) (Nat.le_of_ble_eq_true rfl) rfl (fun v S53 p52 => ?_)
              obtain ⟨⟨I57, F58⟩, z56, rfl, f54, ef55⟩ := p52
              have F59 : kw_F [8, 28, 13, 29, 30, 31, 32, 33, 34] σ S53 := kw_F.tr hF0 F58 (by decide)
              replace hF := kf_be ef55 hF
              have r_z56 := kw_rng z56
              show kw_AW l 4 kw_E0 KX mX7_copy (p_X7_copy_0 σ a i t j n) 106 [(0, .ref 0), (1, .int a), (2, .int i), (3, .int t), (4, .int j), (5, .int n)] [.int z56] S53
              exact kw_ireturn (pc := 106) (i := 52) (ty := .int) rfl rfl rfl ⟨⟨I57, F59⟩, _, rfl, hF⟩
            · replace hF := kf_n c51 hF
              refine kw_aload_n (pc := 83) (i := 41) (k := 0) (n := 0) rfl rfl rfl ?_
              refine kw_get (pc := 84) (i := 42) (v := .ref 1) rfl rfl rfl lkX7_14 (fun _ => rfl) ?_
              refine kw_iload_n (pc := 87) (i := 43) (k := 3) (n := 3) rfl rfl rfl ?_
              refine kw_iload (pc := 88) (i := 44) (k := 4) (n := 4) rfl rfl ?_
              refine kw_iload (pc := 90) (i := 45) (k := 5) (n := 5) rfl rfl ?_
              refine kw_callV (pc := 92) (i := 46) (Y := mX3_hasPlaces) (a := 1) (As := [.int t, .int j, .int n]) (st := []) kw_hE rfl rfl lvX7_102 arX3_hasPlaces (c_X3_hasPlaces_1 l σ hI t j n ) (by decide) (Nat.le_of_ble_eq_true rfl) rfl (fun v S61 p60 => ?_)
              obtain ⟨e66, z65, rfl, f62, f63, ef64⟩ := p60
              rw [e66]
              replace hF := kf_le ef64 hF
              have r_z65 := kw_rng z65
              show kw_AW l 4 kw_E0 KX mX7_copy (p_X7_copy_0 σ a i t j n) 95 [(0, .ref 0), (1, .int a), (2, .int i), (3, .int t), (4, .int j), (5, .int n)] [.int z65] σ
              refine kw_if_ne (pc := 95) (i := 47) (tgt := 107) rfl rfl (fun c67 => ?_) (fun c67 => ?_)
              · replace hF := kf_n c67 hF
                refine kw_aload_n (pc := 107) (i := 53) (k := 0) (n := 0) rfl rfl rfl ?_
                refine kw_get (pc := 108) (i := 54) (v := .ref 1) rfl rfl rfl lkX7_14 (fun _ => rfl) ?_
                refine kw_iload_n (pc := 111) (i := 55) (k := 1) (n := 1) rfl rfl rfl ?_
                refine kw_iload_n (pc := 112) (i := 56) (k := 2) (n := 2) rfl rfl rfl ?_
                refine kw_iload_n (pc := 113) (i := 57) (k := 3) (n := 3) rfl rfl rfl ?_
                refine kw_iload (pc := 114) (i := 58) (k := 4) (n := 4) rfl rfl ?_
                refine kw_iload (pc := 116) (i := 59) (k := 5) (n := 5) rfl rfl ?_
                refine kw_callV (pc := 118) (i := 60) (Y := mX3_move) (a := 1) (As := [.int a, .int i, .int t, .int j, .int n]) (st := []) kw_hE rfl rfl lvX7_106 arX3_move (c_X3_move_1 l σ hI a i t j n ) (by decide) (Nat.le_of_ble_eq_true rfl) rfl (fun v S69 p68 => ?_)
                obtain ⟨⟨I71, F72⟩, rfl, ef70⟩ := p68
                have F73 : kw_F [8, 28, 13, 29, 30, 31, 32, 33, 34] σ S69 := kw_F.tr hF0 F72 (by decide)
                replace hF := kf_le ef70 hF
                show kw_AW l 4 kw_E0 KX mX7_copy (p_X7_copy_0 σ a i t j n) 121 [(0, .ref 0), (1, .int a), (2, .int i), (3, .int t), (4, .int j), (5, .int n)] [] S69
                refine kw_iconst (pc := 121) (i := 61) (v := 1) rfl rfl ?_
                exact kw_ireturn (pc := 122) (i := 62) (ty := .int) rfl rfl rfl ⟨⟨I71, F73⟩, _, rfl, hF⟩
              · replace hF := kf_p c67 hF
                refine kw_aload_n (pc := 98) (i := 48) (k := 0) (n := 0) rfl rfl rfl ?_
                refine kw_get (pc := 99) (i := 49) (v := .ref 8) rfl rfl rfl lkX7_55 (fun _ => rfl) ?_
                refine kw_iconst (pc := 102) (i := 50) (v := 2) rfl rfl ?_
                refine kw_callV (pc := 103) (i := 51) (Y := mX4_refuse) (a := 8) (As := [.int 2]) (st := []) kw_hE rfl rfl lvX7_81 arX4_refuse (c_X4_refuse_8 l σ hI 2 ) (by decide) (Nat.le_of_ble_eq_true rfl) rfl (fun v S75 p74 => ?_)
                obtain ⟨⟨I79, F80⟩, z78, rfl, f76, ef77⟩ := p74
                have F81 : kw_F [8, 28, 13, 29, 30, 31, 32, 33, 34] σ S75 := kw_F.tr hF0 F80 (by decide)
                replace hF := kf_be ef77 hF
                have r_z78 := kw_rng z78
                show kw_AW l 4 kw_E0 KX mX7_copy (p_X7_copy_0 σ a i t j n) 106 [(0, .ref 0), (1, .int a), (2, .int i), (3, .int t), (4, .int j), (5, .int n)] [.int z78] S75
                exact kw_ireturn (pc := 106) (i := 52) (ty := .int) rfl rfl rfl ⟨⟨I79, F81⟩, _, rfl, hF⟩
          · replace hF := kf_n c43 hF
            refine kw_aload_n (pc := 60) (i := 29) (k := 0) (n := 0) rfl rfl rfl ?_
            refine kw_get (pc := 61) (i := 30) (v := .ref 8) rfl rfl rfl lkX7_55 (fun _ => rfl) ?_
            refine kw_iconst (pc := 64) (i := 31) (v := 1) rfl rfl ?_
            refine kw_callV (pc := 65) (i := 32) (Y := mX4_refuse) (a := 8) (As := [.int 1]) (st := []) kw_hE rfl rfl lvX7_81 arX4_refuse (c_X4_refuse_8 l σ hI 1 ) (by decide) (Nat.le_of_ble_eq_true rfl) rfl (fun v S83 p82 => ?_)
            obtain ⟨⟨I87, F88⟩, z86, rfl, f84, ef85⟩ := p82
            have F89 : kw_F [8, 28, 13, 29, 30, 31, 32, 33, 34] σ S83 := kw_F.tr hF0 F88 (by decide)
            replace hF := kf_be ef85 hF
            have r_z86 := kw_rng z86
            show kw_AW l 4 kw_E0 KX mX7_copy (p_X7_copy_0 σ a i t j n) 68 [(0, .ref 0), (1, .int a), (2, .int i), (3, .int t), (4, .int j), (5, .int n)] [.int z86] S83
            exact kw_ireturn (pc := 68) (i := 33) (ty := .int) rfl rfl rfl ⟨⟨I87, F89⟩, _, rfl, hF⟩
      · replace hF := kf_p c19 hF
        refine kw_aload_n (pc := 29) (i := 14) (k := 0) (n := 0) rfl rfl rfl ?_
        refine kw_get (pc := 30) (i := 15) (v := .ref 8) rfl rfl rfl lkX7_55 (fun _ => rfl) ?_
        refine kw_iconst (pc := 33) (i := 16) (v := 5) rfl rfl ?_
        refine kw_callV (pc := 34) (i := 17) (Y := mX4_refuse) (a := 8) (As := [.int 5]) (st := []) kw_hE rfl rfl lvX7_81 arX4_refuse (c_X4_refuse_8 l σ hI 5 ) (by decide) (Nat.le_of_ble_eq_true rfl) rfl (fun v S91 p90 => ?_)
        obtain ⟨⟨I95, F96⟩, z94, rfl, f92, ef93⟩ := p90
        have F97 : kw_F [8, 28, 13, 29, 30, 31, 32, 33, 34] σ S91 := kw_F.tr hF0 F96 (by decide)
        replace hF := kf_be ef93 hF
        have r_z94 := kw_rng z94
        show kw_AW l 4 kw_E0 KX mX7_copy (p_X7_copy_0 σ a i t j n) 37 [(0, .ref 0), (1, .int a), (2, .int i), (3, .int t), (4, .int j), (5, .int n)] [.int z94] S91
        exact kw_ireturn (pc := 37) (i := 18) (ty := .int) rfl rfl rfl ⟨⟨I95, F97⟩, _, rfl, hF⟩
    · replace hF := kf_p c18 hF
      refine kw_iconst (pc := 22) (i := 10) (v := (-1)) rfl rfl ?_
      exact kw_ireturn (pc := 23) (i := 11) (ty := .int) rfl rfl rfl ⟨⟨hI, hF0⟩, _, rfl, hF⟩
noncomputable def l_X7_mean_0_61 (a1 : Int32) (a2 : Int32) (S : kw_S) : Nat → Int64 → Int32 → Int32 × kw_S
  | 0, _, _ => (0, S)
  | n + 1, x3, x5 => if x5.toInt < a2.toInt then (kf_l (f_X3_valueAt_1 S a1 x5) fun z9 => kf_l z9.toInt64 fun z10 => kf_l (x3 + z10) fun z11 => kf_l (x5 + Int32.ofInt 1) fun z12 => l_X7_mean_0_61 a1 a2 S n z11 z12) else (kf_l a2.toInt64 fun z4 => kf_l (x3 / z4) fun z5 => kf_l z5.toInt32 fun z6 => kf_b (f_X4_answer_8 S z6) fun z7 S8 => (z7, S8))
theorem l_X7_mean_0_61_s (a1 : Int32) (a2 : Int32) (S : kw_S) (n : Nat) (x3 : Int64) (x5 : Int32) : l_X7_mean_0_61 a1 a2 S (n + 1) x3 x5 = if x5.toInt < a2.toInt then (kf_l (f_X3_valueAt_1 S a1 x5) fun z9 => kf_l z9.toInt64 fun z10 => kf_l (x3 + z10) fun z11 => kf_l (x5 + Int32.ofInt 1) fun z12 => l_X7_mean_0_61 a1 a2 S n z11 z12) else (kf_l a2.toInt64 fun z4 => kf_l (x3 / z4) fun z5 => kf_l z5.toInt32 fun z6 => kf_b (f_X4_answer_8 S z6) fun z7 S8 => (z7, S8)) := rfl
noncomputable def f_X7_mean_0 (σ : kw_S) (a : Int32) : Int32 × kw_S := kf_l (f_X3_has_1 σ a) fun z1 => if z1.toInt = 0 then ((((-1) : Int32), σ)) else (kf_l (f_X3_isMissing_1 σ a) fun z2 => if z2.toInt = 0 then (kf_l (f_X3_sizeOf_1 σ a) fun z3 => if z3.toInt < (1 : Int32).toInt then (kf_b (f_X4_refuse_8 σ (4 : Int32)) fun z13 S14 => (z13, S14)) else (l_X7_mean_0_61 a z3 σ ((41 - (0 : Int32).toInt).toNat + 1) (0 : Int64) (0 : Int32))) else (kf_b (f_X4_refuse_8 σ (1 : Int32)) fun z15 S16 => (z15, S16)))
theorem f_X7_mean_0_u (σ : kw_S) (a : Int32) : f_X7_mean_0 σ a = kf_l (f_X3_has_1 σ a) fun z1 => if z1.toInt = 0 then ((((-1) : Int32), σ)) else (kf_l (f_X3_isMissing_1 σ a) fun z2 => if z2.toInt = 0 then (kf_l (f_X3_sizeOf_1 σ a) fun z3 => if z3.toInt < (1 : Int32).toInt then (kf_b (f_X4_refuse_8 σ (4 : Int32)) fun z13 S14 => (z13, S14)) else (l_X7_mean_0_61 a z3 σ ((41 - (0 : Int32).toInt).toNat + 1) (0 : Int64) (0 : Int32))) else (kf_b (f_X4_refuse_8 σ (1 : Int32)) fun z15 S16 => (z15, S16))) := rfl
abbrev p_X7_mean_0 (σ : kw_S) (a : Int32) : Option Value → kw_S → Prop := fun vv σ' => (kw_I bX σ' ∧ kw_F [8, 28] σ σ') ∧ ∃ r : Int32, vv = some (.int r) ∧ (r, σ') = f_X7_mean_0 σ a
set_option maxRecDepth 100000 in
set_option maxHeartbeats 4000000 in
theorem c_X7_mean_0 (l : Launch) (σ : kw_S) (hI : kw_I bX σ) (a : Int32) : kw_Met l 4 KX mX7_mean [.ref 0, .int a] σ (p_X7_mean_0 σ a) := by
  have r_a := kw_rng a
  have hF0 : kw_F [8, 28] σ σ := kw_F.rf
  have hF := (f_X7_mean_0_u σ a).symm
  have q_m1 : (-1 : Int32).toInt = -1 := rfl
  have q_0 : (0 : Int32).toInt = 0 := rfl
  have q_1 : (1 : Int32).toInt = 1 := rfl
  have q_4 : (4 : Int32).toInt = 4 := rfl
  refine kw_Met.of (by decide) rfl tX7_mean (Nat.le_of_ble_eq_true rfl) ?_
  show kw_AW l 4 kw_E0 KX mX7_mean (p_X7_mean_0 σ a) 0 [(0, .ref 0), (1, .int a)] [] σ
  refine kw_aload_n (pc := 0) (i := 0) (k := 0) (n := 0) rfl rfl rfl ?_
  refine kw_get (pc := 1) (i := 1) (v := .ref 1) rfl rfl rfl lkX7_14 (fun _ => rfl) ?_
  refine kw_iload_n (pc := 4) (i := 2) (k := 1) (n := 1) rfl rfl rfl ?_
  refine kw_callV (pc := 5) (i := 3) (Y := mX3_has) (a := 1) (As := [.int a]) (st := []) kw_hE rfl rfl lvX7_73 arX3_has (c_X3_has_1 l σ hI a ) (by decide) (Nat.le_of_ble_eq_true rfl) rfl (fun v S2 p1 => ?_)
  obtain ⟨e8, z7, rfl, f3, f4, f5, ef6⟩ := p1
  rw [e8]
  replace hF := kf_le ef6 hF
  have r_z7 := kw_rng z7
  show kw_AW l 4 kw_E0 KX mX7_mean (p_X7_mean_0 σ a) 8 [(0, .ref 0), (1, .int a)] [.int z7] σ
  refine kw_if_ne (pc := 8) (i := 4) (tgt := 13) rfl rfl (fun c9 => ?_) (fun c9 => ?_)
  · replace hF := kf_n c9 hF
    refine kw_aload_n (pc := 13) (i := 7) (k := 0) (n := 0) rfl rfl rfl ?_
    refine kw_get (pc := 14) (i := 8) (v := .ref 1) rfl rfl rfl lkX7_14 (fun _ => rfl) ?_
    refine kw_iload_n (pc := 17) (i := 9) (k := 1) (n := 1) rfl rfl rfl ?_
    refine kw_callV (pc := 18) (i := 10) (Y := mX3_isMissing) (a := 1) (As := [.int a]) (st := []) kw_hE rfl rfl lvX7_95 arX3_isMissing (c_X3_isMissing_1 l σ hI a ) (by decide) (Nat.le_of_ble_eq_true rfl) rfl (fun v S11 p10 => ?_)
    obtain ⟨e16, z15, rfl, f12, f13, ef14⟩ := p10
    rw [e16]
    replace hF := kf_le ef14 hF
    have r_z15 := kw_rng z15
    show kw_AW l 4 kw_E0 KX mX7_mean (p_X7_mean_0 σ a) 21 [(0, .ref 0), (1, .int a)] [.int z15] σ
    refine kw_if_eq (pc := 21) (i := 11) (tgt := 33) rfl rfl (fun c17 => ?_) (fun c17 => ?_)
    · replace hF := kf_p c17 hF
      refine kw_aload_n (pc := 33) (i := 17) (k := 0) (n := 0) rfl rfl rfl ?_
      refine kw_get (pc := 34) (i := 18) (v := .ref 1) rfl rfl rfl lkX7_14 (fun _ => rfl) ?_
      refine kw_iload_n (pc := 37) (i := 19) (k := 1) (n := 1) rfl rfl rfl ?_
      refine kw_callV (pc := 38) (i := 20) (Y := mX3_sizeOf) (a := 1) (As := [.int a]) (st := []) kw_hE rfl rfl lvX7_110 arX3_sizeOf (c_X3_sizeOf_1 l σ hI a ) (by decide) (Nat.le_of_ble_eq_true rfl) rfl (fun v S19 p18 => ?_)
      obtain ⟨e26, z25, rfl, f20, f21, f22, f23, ef24⟩ := p18
      rw [e26]
      replace hF := kf_le ef24 hF
      have r_z25 := kw_rng z25
      show kw_AW l 4 kw_E0 KX mX7_mean (p_X7_mean_0 σ a) 41 [(0, .ref 0), (1, .int a)] [.int z25] σ
      refine kw_istore_n (pc := 41) (i := 21) (n := 2) (lv' := [(2, .int z25), (0, .ref 0), (1, .int a)]) rfl rfl (by decide) rfl ?_
      refine kw_iload_n (pc := 42) (i := 22) (k := 0) (n := 2) rfl rfl rfl ?_
      refine kw_iconst (pc := 43) (i := 23) (v := 1) rfl rfl ?_
      refine kw_icmp_ge (pc := 44) (i := 24) (tgt := 56) rfl rfl (fun c27 => ?_) (fun c27 => ?_)
      · replace hF := kf_nl c27 hF
        refine kw_lconst (pc := 56) (i := 30) (v := 0) rfl rfl ?_
        refine kw_lstore_n (pc := 57) (i := 31) (n := 3) (lv' := [(3, .long 0), (2, .int z25), (0, .ref 0), (1, .int a)]) rfl rfl (by decide) rfl ?_
        refine kw_iconst (pc := 58) (i := 32) (v := 0) rfl rfl ?_
        refine kw_istore (pc := 59) (i := 33) (n := 5) (lv' := [(5, .int 0), (3, .long 0), (2, .int z25), (0, .ref 0), (1, .int a)]) rfl (by decide) rfl ?_
        have L30 : ∀ (n34 : Nat) (x28 : Int32) (x29 : Int64), 0 ≤ x28.toInt → l_X7_mean_0_61 a z25 σ n34 x29 x28 = (f_X7_mean_0 σ a) → (41 - x28.toInt).toNat < n34 → kw_AW l 4 kw_E0 KX mX7_mean (p_X7_mean_0 σ a) 61 [(5, .int x28), (3, .long x29), (2, .int z25), (0, .ref 0), (1, .int a)] [] σ := by
          intro n34
          induction n34 with
          | zero => intro x28 x29 v32 hF m33; exact absurd m33 (Nat.not_lt_zero _)
          | succ n34 ih31 =>
            intro x28 x29 v32 hF m33
            replace hF := kf_st (l_X7_mean_0_61_s _ _ _ _ _ _) hF
            have r_x28 := kw_rng x28
            refine kw_iload (pc := 61) (i := 34) (k := 0) (n := 5) rfl rfl ?_
            refine kw_iload_n (pc := 63) (i := 35) (k := 2) (n := 2) rfl rfl rfl ?_
            refine kw_icmp_ge (pc := 64) (i := 36) (tgt := 87) rfl rfl (fun c35 => ?_) (fun c35 => ?_)
            · replace hF := kf_nl c35 hF
              refine kw_aload_n (pc := 87) (i := 48) (k := 3) (n := 0) rfl rfl rfl ?_
              refine kw_get (pc := 88) (i := 49) (v := .ref 8) rfl rfl rfl lkX7_55 (fun _ => rfl) ?_
              refine kw_lload_n (pc := 91) (i := 50) (k := 1) (n := 3) rfl rfl rfl ?_
              refine kw_iload_n (pc := 92) (i := 51) (k := 2) (n := 2) rfl rfl rfl ?_
              refine kw_i2l (pc := 93) (i := 52) rfl (fun z36 e_z36 t_z36 => ?_)
              replace hF := kf_le e_z36 hF
              refine kw_ldiv (pc := 94) (i := 53) rfl (by omega) (fun z37 e_z37 => ?_)
              replace hF := kf_le e_z37 hF
              refine kw_l2i (pc := 95) (i := 54) rfl (fun z38 e_z38 => ?_)
              replace hF := kf_le e_z38 hF
              have r_z38 := kw_rng z38
              refine kw_callV (pc := 96) (i := 55) (Y := mX4_answer) (a := 8) (As := [.int z38]) (st := []) kw_hE rfl rfl lvX7_92 arX4_answer (c_X4_answer_8 l σ hI z38 ) (by decide) (Nat.le_of_ble_eq_true rfl) rfl (fun v S40 p39 => ?_)
              obtain ⟨⟨I44, F45⟩, z43, rfl, f41, ef42⟩ := p39
              have F46 : kw_F [8, 28] σ S40 := kw_F.tr hF0 F45 (by decide)
              replace hF := kf_be ef42 hF
              have r_z43 := kw_rng z43
              show kw_AW l 4 kw_E0 KX mX7_mean (p_X7_mean_0 σ a) 99 [(5, .int x28), (3, .long x29), (2, .int z25), (0, .ref 0), (1, .int a)] [.int z43] S40
              exact kw_ireturn (pc := 99) (i := 56) (ty := .int) rfl rfl rfl ⟨⟨I44, F46⟩, _, rfl, hF⟩
            · replace hF := kf_p c35 hF
              refine kw_lload_n (pc := 67) (i := 37) (k := 1) (n := 3) rfl rfl rfl ?_
              refine kw_aload_n (pc := 68) (i := 38) (k := 3) (n := 0) rfl rfl rfl ?_
              refine kw_get (pc := 69) (i := 39) (v := .ref 1) rfl rfl rfl lkX7_14 (fun _ => rfl) ?_
              refine kw_iload_n (pc := 72) (i := 40) (k := 4) (n := 1) rfl rfl rfl ?_
              refine kw_iload (pc := 73) (i := 41) (k := 0) (n := 5) rfl rfl ?_
              refine kw_callV (pc := 75) (i := 42) (Y := mX3_valueAt) (a := 1) (As := [.int a, .int x28]) (st := [.long x29]) kw_hE rfl rfl lvX7_85 arX3_valueAt (c_X3_valueAt_1 l σ hI a x28 ) (by decide) (Nat.le_of_ble_eq_true rfl) rfl (fun v S48 p47 => ?_)
              obtain ⟨e51, z50, rfl, ef49⟩ := p47
              rw [e51]
              replace hF := kf_le ef49 hF
              have r_z50 := kw_rng z50
              show kw_AW l 4 kw_E0 KX mX7_mean (p_X7_mean_0 σ a) 78 [(5, .int x28), (3, .long x29), (2, .int z25), (0, .ref 0), (1, .int a)] [.int z50, .long x29] σ
              refine kw_i2l (pc := 78) (i := 43) rfl (fun z52 e_z52 t_z52 => ?_)
              replace hF := kf_le e_z52 hF
              refine kw_ladd (pc := 79) (i := 44) rfl (fun z53 e_z53 => ?_)
              replace hF := kf_le e_z53 hF
              refine kw_lstore_n (pc := 80) (i := 45) (n := 3) (lv' := [(3, .long z53), (5, .int x28), (2, .int z25), (0, .ref 0), (1, .int a)]) rfl rfl (by decide) rfl ?_
              refine kw_iinc' (pc := 81) (i := 46) (k := 1) (fun z => [(5, .int z), (3, .long z53), (2, .int z25), (0, .ref 0), (1, .int a)]) rfl rfl (by decide) rfl (fun _ => rfl) (fun z54 e_z54 t_z54 => ?_)
              replace hF := kf_le e_z54 hF
              refine kw_goto (pc := 84) (i := 47) (tgt := 61) rfl rfl ?_
              refine kw_sub (lv' := [(5, .int z54), (3, .long z53), (2, .int z25), (0, .ref 0), (1, .int a)]) [0, 1, 2, 3, 4] rfl ?_
              exact ih31 z54 z53 (by omega) hF (by omega)
        exact L30 _ 0 0 (by omega) hF (Nat.lt_succ_self _)
      · replace hF := kf_p c27 hF
        refine kw_aload_n (pc := 47) (i := 25) (k := 1) (n := 0) rfl rfl rfl ?_
        refine kw_get (pc := 48) (i := 26) (v := .ref 8) rfl rfl rfl lkX7_55 (fun _ => rfl) ?_
        refine kw_iconst (pc := 51) (i := 27) (v := 4) rfl rfl ?_
        refine kw_callV (pc := 52) (i := 28) (Y := mX4_refuse) (a := 8) (As := [.int 4]) (st := []) kw_hE rfl rfl lvX7_81 arX4_refuse (c_X4_refuse_8 l σ hI 4 ) (by decide) (Nat.le_of_ble_eq_true rfl) rfl (fun v S56 p55 => ?_)
        obtain ⟨⟨I60, F61⟩, z59, rfl, f57, ef58⟩ := p55
        have F62 : kw_F [8, 28] σ S56 := kw_F.tr hF0 F61 (by decide)
        replace hF := kf_be ef58 hF
        have r_z59 := kw_rng z59
        show kw_AW l 4 kw_E0 KX mX7_mean (p_X7_mean_0 σ a) 55 [(2, .int z25), (0, .ref 0), (1, .int a)] [.int z59] S56
        exact kw_ireturn (pc := 55) (i := 29) (ty := .int) rfl rfl rfl ⟨⟨I60, F62⟩, _, rfl, hF⟩
    · replace hF := kf_n c17 hF
      refine kw_aload_n (pc := 24) (i := 12) (k := 0) (n := 0) rfl rfl rfl ?_
      refine kw_get (pc := 25) (i := 13) (v := .ref 8) rfl rfl rfl lkX7_55 (fun _ => rfl) ?_
      refine kw_iconst (pc := 28) (i := 14) (v := 1) rfl rfl ?_
      refine kw_callV (pc := 29) (i := 15) (Y := mX4_refuse) (a := 8) (As := [.int 1]) (st := []) kw_hE rfl rfl lvX7_81 arX4_refuse (c_X4_refuse_8 l σ hI 1 ) (by decide) (Nat.le_of_ble_eq_true rfl) rfl (fun v S64 p63 => ?_)
      obtain ⟨⟨I68, F69⟩, z67, rfl, f65, ef66⟩ := p63
      have F70 : kw_F [8, 28] σ S64 := kw_F.tr hF0 F69 (by decide)
      replace hF := kf_be ef66 hF
      have r_z67 := kw_rng z67
      show kw_AW l 4 kw_E0 KX mX7_mean (p_X7_mean_0 σ a) 32 [(0, .ref 0), (1, .int a)] [.int z67] S64
      exact kw_ireturn (pc := 32) (i := 16) (ty := .int) rfl rfl rfl ⟨⟨I68, F70⟩, _, rfl, hF⟩
  · replace hF := kf_p c9 hF
    refine kw_iconst (pc := 11) (i := 5) (v := (-1)) rfl rfl ?_
    exact kw_ireturn (pc := 12) (i := 6) (ty := .int) rfl rfl rfl ⟨⟨hI, hF0⟩, _, rfl, hF⟩
noncomputable def f_X7_put_0 (σ : kw_S) (a : Int32) (i : Int32) (v : Int32) : Int32 × kw_S := kf_l (f_X3_has_2 σ a) fun z1 => if z1.toInt = 0 then ((((-1) : Int32), σ)) else (kf_l (f_X3_findingAt_2 σ a i) fun z2 => if z2.toInt = 0 then (kf_l (f_X3_valueAt_2 σ a i) fun z3 => kf_l v.toInt8.toInt32 fun z4 => kf_l (f_X3_change_2 σ a i z4) fun S5 => kf_l (z3 + (1000 : Int32)) fun z6 => (z6, S5)) else (kf_b (f_X4_refuse_8 σ z2) fun z7 S8 => (z7, S8)))
theorem f_X7_put_0_u (σ : kw_S) (a : Int32) (i : Int32) (v : Int32) : f_X7_put_0 σ a i v = kf_l (f_X3_has_2 σ a) fun z1 => if z1.toInt = 0 then ((((-1) : Int32), σ)) else (kf_l (f_X3_findingAt_2 σ a i) fun z2 => if z2.toInt = 0 then (kf_l (f_X3_valueAt_2 σ a i) fun z3 => kf_l v.toInt8.toInt32 fun z4 => kf_l (f_X3_change_2 σ a i z4) fun S5 => kf_l (z3 + (1000 : Int32)) fun z6 => (z6, S5)) else (kf_b (f_X4_refuse_8 σ z2) fun z7 S8 => (z7, S8))) := rfl
abbrev p_X7_put_0 (σ : kw_S) (a : Int32) (i : Int32) (v : Int32) : Option Value → kw_S → Prop := fun vv σ' => (kw_I bX σ' ∧ kw_F [8, 28, 15, 35, 36, 37, 38] σ σ') ∧ ∃ r : Int32, vv = some (.int r) ∧ (r, σ') = f_X7_put_0 σ a i v
set_option maxRecDepth 100000 in
set_option maxHeartbeats 4000000 in
theorem c_X7_put_0 (l : Launch) (σ : kw_S) (hI : kw_I bX σ) (a : Int32) (i : Int32) (v : Int32) : kw_Met l 5 KX mX7_put [.ref 0, .int a, .int i, .int v] σ (p_X7_put_0 σ a i v) := by
  have r_a := kw_rng a
  have r_i := kw_rng i
  have r_v := kw_rng v
  have hF0 : kw_F [8, 28, 15, 35, 36, 37, 38] σ σ := kw_F.rf
  have hF := (f_X7_put_0_u σ a i v).symm
  have q_m1 : (-1 : Int32).toInt = -1 := rfl
  have q_1000 : (1000 : Int32).toInt = 1000 := rfl
  refine kw_Met.of (by decide) rfl tX7_put (Nat.le_of_ble_eq_true rfl) ?_
  show kw_AW l 5 kw_E0 KX mX7_put (p_X7_put_0 σ a i v) 0 [(0, .ref 0), (1, .int a), (2, .int i), (3, .int v)] [] σ
  refine kw_aload_n (pc := 0) (i := 0) (k := 0) (n := 0) rfl rfl rfl ?_
  refine kw_get (pc := 1) (i := 1) (v := .ref 2) rfl rfl rfl lkX7_18 (fun _ => rfl) ?_
  refine kw_iload_n (pc := 4) (i := 2) (k := 1) (n := 1) rfl rfl rfl ?_
  refine kw_callV (pc := 5) (i := 3) (Y := mX3_has) (a := 2) (As := [.int a]) (st := []) kw_hE rfl rfl lvX7_73 arX3_has (c_X3_has_2 l σ hI a ) (by decide) (Nat.le_of_ble_eq_true rfl) rfl (fun v S2 p1 => ?_)
  obtain ⟨e8, z7, rfl, f3, f4, f5, ef6⟩ := p1
  rw [e8]
  replace hF := kf_le ef6 hF
  have r_z7 := kw_rng z7
  show kw_AW l 5 kw_E0 KX mX7_put (p_X7_put_0 σ a i v) 8 [(0, .ref 0), (1, .int a), (2, .int i), (3, .int v)] [.int z7] σ
  refine kw_if_ne (pc := 8) (i := 4) (tgt := 13) rfl rfl (fun c9 => ?_) (fun c9 => ?_)
  · replace hF := kf_n c9 hF
    refine kw_aload_n (pc := 13) (i := 7) (k := 0) (n := 0) rfl rfl rfl ?_
    refine kw_get (pc := 14) (i := 8) (v := .ref 2) rfl rfl rfl lkX7_18 (fun _ => rfl) ?_
    refine kw_iload_n (pc := 17) (i := 9) (k := 1) (n := 1) rfl rfl rfl ?_
    refine kw_iload_n (pc := 18) (i := 10) (k := 2) (n := 2) rfl rfl rfl ?_
    refine kw_callV (pc := 19) (i := 11) (Y := mX3_findingAt) (a := 2) (As := [.int a, .int i]) (st := []) kw_hE rfl rfl lvX7_77 arX3_findingAt (c_X3_findingAt_2 l σ hI a i ) (by decide) (Nat.le_of_ble_eq_true rfl) rfl (fun v S11 p10 => ?_)
    obtain ⟨e14, z13, rfl, ef12⟩ := p10
    rw [e14]
    replace hF := kf_le ef12 hF
    have r_z13 := kw_rng z13
    show kw_AW l 5 kw_E0 KX mX7_put (p_X7_put_0 σ a i v) 22 [(0, .ref 0), (1, .int a), (2, .int i), (3, .int v)] [.int z13] σ
    refine kw_istore (pc := 22) (i := 12) (n := 4) (lv' := [(4, .int z13), (0, .ref 0), (1, .int a), (2, .int i), (3, .int v)]) rfl (by decide) rfl ?_
    refine kw_iload (pc := 24) (i := 13) (k := 0) (n := 4) rfl rfl ?_
    refine kw_if_eq (pc := 26) (i := 14) (tgt := 39) rfl rfl (fun c15 => ?_) (fun c15 => ?_)
    · replace hF := kf_p c15 hF
      refine kw_aload_n (pc := 39) (i := 20) (k := 1) (n := 0) rfl rfl rfl ?_
      refine kw_get (pc := 40) (i := 21) (v := .ref 2) rfl rfl rfl lkX7_18 (fun _ => rfl) ?_
      refine kw_iload_n (pc := 43) (i := 22) (k := 2) (n := 1) rfl rfl rfl ?_
      refine kw_iload_n (pc := 44) (i := 23) (k := 3) (n := 2) rfl rfl rfl ?_
      refine kw_callV (pc := 45) (i := 24) (Y := mX3_valueAt) (a := 2) (As := [.int a, .int i]) (st := []) kw_hE rfl rfl lvX7_85 arX3_valueAt (c_X3_valueAt_2 l σ hI a i ) (by decide) (Nat.le_of_ble_eq_true rfl) rfl (fun v S17 p16 => ?_)
      obtain ⟨e20, z19, rfl, ef18⟩ := p16
      rw [e20]
      replace hF := kf_le ef18 hF
      have r_z19 := kw_rng z19
      show kw_AW l 5 kw_E0 KX mX7_put (p_X7_put_0 σ a i v) 48 [(4, .int z13), (0, .ref 0), (1, .int a), (2, .int i), (3, .int v)] [.int z19] σ
      refine kw_istore (pc := 48) (i := 25) (n := 5) (lv' := [(5, .int z19), (4, .int z13), (0, .ref 0), (1, .int a), (2, .int i), (3, .int v)]) rfl (by decide) rfl ?_
      refine kw_aload_n (pc := 50) (i := 26) (k := 2) (n := 0) rfl rfl rfl ?_
      refine kw_get (pc := 51) (i := 27) (v := .ref 2) rfl rfl rfl lkX7_18 (fun _ => rfl) ?_
      refine kw_iload_n (pc := 54) (i := 28) (k := 3) (n := 1) rfl rfl rfl ?_
      refine kw_iload_n (pc := 55) (i := 29) (k := 4) (n := 2) rfl rfl rfl ?_
      refine kw_iload_n (pc := 56) (i := 30) (k := 5) (n := 3) rfl rfl rfl ?_
      refine kw_i2b (pc := 57) (i := 31) rfl (fun z21 e_z21 => ?_)
      replace hF := kf_le e_z21 hF
      have r_z21 := kw_rng z21
      refine kw_callV (pc := 58) (i := 32) (Y := mX3_change) (a := 2) (As := [.int a, .int i, .int z21]) (st := []) kw_hE rfl rfl lvX7_88 arX3_change (c_X3_change_2 l σ hI a i z21 ) (by decide) (Nat.le_of_ble_eq_true rfl) rfl (fun v S23 p22 => ?_)
      obtain ⟨⟨I25, F26⟩, rfl, ef24⟩ := p22
      have F27 : kw_F [8, 28, 15, 35, 36, 37, 38] σ S23 := kw_F.tr hF0 F26 (by decide)
      replace hF := kf_le ef24 hF
      show kw_AW l 5 kw_E0 KX mX7_put (p_X7_put_0 σ a i v) 61 [(5, .int z19), (4, .int z13), (0, .ref 0), (1, .int a), (2, .int i), (3, .int v)] [] S23
      refine kw_iload (pc := 61) (i := 33) (k := 0) (n := 5) rfl rfl ?_
      refine kw_sipush (pc := 63) (i := 34) (v := 1000) rfl rfl ?_
      refine kw_iadd (pc := 66) (i := 35) rfl (fun z28 e_z28 t_z28 => ?_)
      replace hF := kf_le e_z28 hF
      exact kw_ireturn (pc := 67) (i := 36) (ty := .int) rfl rfl rfl ⟨⟨I25, F27⟩, _, rfl, hF⟩
    · replace hF := kf_n c15 hF
      refine kw_aload_n (pc := 29) (i := 15) (k := 1) (n := 0) rfl rfl rfl ?_
      refine kw_get (pc := 30) (i := 16) (v := .ref 8) rfl rfl rfl lkX7_55 (fun _ => rfl) ?_
      refine kw_iload (pc := 33) (i := 17) (k := 0) (n := 4) rfl rfl ?_
      refine kw_callV (pc := 35) (i := 18) (Y := mX4_refuse) (a := 8) (As := [.int z13]) (st := []) kw_hE rfl rfl lvX7_81 arX4_refuse (c_X4_refuse_8 l σ hI z13 ) (by decide) (Nat.le_of_ble_eq_true rfl) rfl (fun v S30 p29 => ?_)
      obtain ⟨⟨I34, F35⟩, z33, rfl, f31, ef32⟩ := p29
      have F36 : kw_F [8, 28, 15, 35, 36, 37, 38] σ S30 := kw_F.tr hF0 F35 (by decide)
      replace hF := kf_be ef32 hF
      have r_z33 := kw_rng z33
      show kw_AW l 5 kw_E0 KX mX7_put (p_X7_put_0 σ a i v) 38 [(4, .int z13), (0, .ref 0), (1, .int a), (2, .int i), (3, .int v)] [.int z33] S30
      exact kw_ireturn (pc := 38) (i := 19) (ty := .int) rfl rfl rfl ⟨⟨I34, F36⟩, _, rfl, hF⟩
  · replace hF := kf_p c9 hF
    refine kw_iconst (pc := 11) (i := 5) (v := (-1)) rfl rfl ?_
    exact kw_ireturn (pc := 12) (i := 6) (ty := .int) rfl rfl rfl ⟨⟨hI, hF0⟩, _, rfl, hF⟩
noncomputable def f_X7_fault_0 (σ : kw_S) (a : Int32) : Int32 × kw_S := kf_l (f_X3_has_2 σ a) fun z1 => if z1.toInt = 0 then ((((-1) : Int32), σ)) else (kf_l (f_X3_isMissing_2 σ a) fun z2 => if z2.toInt = 0 then (kf_b (f_X2_faultOf_3_2 σ a) fun z3 S4 => (z3, S4)) else (kf_b (f_X4_refuse_8 σ (1 : Int32)) fun z5 S6 => (z5, S6)))
theorem f_X7_fault_0_u (σ : kw_S) (a : Int32) : f_X7_fault_0 σ a = kf_l (f_X3_has_2 σ a) fun z1 => if z1.toInt = 0 then ((((-1) : Int32), σ)) else (kf_l (f_X3_isMissing_2 σ a) fun z2 => if z2.toInt = 0 then (kf_b (f_X2_faultOf_3_2 σ a) fun z3 S4 => (z3, S4)) else (kf_b (f_X4_refuse_8 σ (1 : Int32)) fun z5 S6 => (z5, S6))) := rfl
abbrev p_X7_fault_0 (σ : kw_S) (a : Int32) : Option Value → kw_S → Prop := fun vv σ' => (kw_I bX σ' ∧ kw_F [8, 28, 3, 16, 39, 40, 41, 42, 43] σ σ') ∧ ∃ r : Int32, vv = some (.int r) ∧ (r, σ') = f_X7_fault_0 σ a
set_option maxRecDepth 100000 in
set_option maxHeartbeats 4000000 in
theorem c_X7_fault_0 (l : Launch) (σ : kw_S) (hI : kw_I bX σ) (a : Int32) : kw_Met l 7 KX mX7_fault [.ref 0, .int a] σ (p_X7_fault_0 σ a) := by
  have r_a := kw_rng a
  have hF0 : kw_F [8, 28, 3, 16, 39, 40, 41, 42, 43] σ σ := kw_F.rf
  have hF := (f_X7_fault_0_u σ a).symm
  have q_m1 : (-1 : Int32).toInt = -1 := rfl
  have q_1 : (1 : Int32).toInt = 1 := rfl
  refine kw_Met.of (by decide) rfl tX7_fault (Nat.le_of_ble_eq_true rfl) ?_
  show kw_AW l 7 kw_E0 KX mX7_fault (p_X7_fault_0 σ a) 0 [(0, .ref 0), (1, .int a)] [] σ
  refine kw_aload_n (pc := 0) (i := 0) (k := 0) (n := 0) rfl rfl rfl ?_
  refine kw_get (pc := 1) (i := 1) (v := .ref 2) rfl rfl rfl lkX7_18 (fun _ => rfl) ?_
  refine kw_iload_n (pc := 4) (i := 2) (k := 1) (n := 1) rfl rfl rfl ?_
  refine kw_callV (pc := 5) (i := 3) (Y := mX3_has) (a := 2) (As := [.int a]) (st := []) kw_hE rfl rfl lvX7_73 arX3_has (c_X3_has_2 l σ hI a ) (by decide) (Nat.le_of_ble_eq_true rfl) rfl (fun v S2 p1 => ?_)
  obtain ⟨e8, z7, rfl, f3, f4, f5, ef6⟩ := p1
  rw [e8]
  replace hF := kf_le ef6 hF
  have r_z7 := kw_rng z7
  show kw_AW l 7 kw_E0 KX mX7_fault (p_X7_fault_0 σ a) 8 [(0, .ref 0), (1, .int a)] [.int z7] σ
  refine kw_if_ne (pc := 8) (i := 4) (tgt := 13) rfl rfl (fun c9 => ?_) (fun c9 => ?_)
  · replace hF := kf_n c9 hF
    refine kw_aload_n (pc := 13) (i := 7) (k := 0) (n := 0) rfl rfl rfl ?_
    refine kw_get (pc := 14) (i := 8) (v := .ref 2) rfl rfl rfl lkX7_18 (fun _ => rfl) ?_
    refine kw_iload_n (pc := 17) (i := 9) (k := 1) (n := 1) rfl rfl rfl ?_
    refine kw_callV (pc := 18) (i := 10) (Y := mX3_isMissing) (a := 2) (As := [.int a]) (st := []) kw_hE rfl rfl lvX7_95 arX3_isMissing (c_X3_isMissing_2 l σ hI a ) (by decide) (Nat.le_of_ble_eq_true rfl) rfl (fun v S11 p10 => ?_)
    obtain ⟨e16, z15, rfl, f12, f13, ef14⟩ := p10
    rw [e16]
    replace hF := kf_le ef14 hF
    have r_z15 := kw_rng z15
    show kw_AW l 7 kw_E0 KX mX7_fault (p_X7_fault_0 σ a) 21 [(0, .ref 0), (1, .int a)] [.int z15] σ
    refine kw_if_eq (pc := 21) (i := 11) (tgt := 33) rfl rfl (fun c17 => ?_) (fun c17 => ?_)
    · replace hF := kf_p c17 hF
      refine kw_aload_n (pc := 33) (i := 17) (k := 0) (n := 0) rfl rfl rfl ?_
      refine kw_get (pc := 34) (i := 18) (v := .ref 3) rfl rfl rfl lkX7_24 (fun _ => rfl) ?_
      refine kw_aload_n (pc := 37) (i := 19) (k := 0) (n := 0) rfl rfl rfl ?_
      refine kw_get (pc := 38) (i := 20) (v := .ref 2) rfl rfl rfl lkX7_18 (fun _ => rfl) ?_
      refine kw_iload_n (pc := 41) (i := 21) (k := 1) (n := 1) rfl rfl rfl ?_
      refine kw_callV (pc := 42) (i := 22) (Y := mX2_faultOf) (a := 3) (As := [.ref 2, .int a]) (st := []) kw_hE rfl rfl lvX7_113 arX2_faultOf (c_X2_faultOf_3_2 l σ hI a ) (by decide) (Nat.le_of_ble_eq_true rfl) rfl (fun v S19 p18 => ?_)
      obtain ⟨⟨I22, F23⟩, z21, rfl, ef20⟩ := p18
      have F24 : kw_F [8, 28, 3, 16, 39, 40, 41, 42, 43] σ S19 := kw_F.tr hF0 F23 (by decide)
      replace hF := kf_be ef20 hF
      have r_z21 := kw_rng z21
      show kw_AW l 7 kw_E0 KX mX7_fault (p_X7_fault_0 σ a) 45 [(0, .ref 0), (1, .int a)] [.int z21] S19
      exact kw_ireturn (pc := 45) (i := 23) (ty := .int) rfl rfl rfl ⟨⟨I22, F24⟩, _, rfl, hF⟩
    · replace hF := kf_n c17 hF
      refine kw_aload_n (pc := 24) (i := 12) (k := 0) (n := 0) rfl rfl rfl ?_
      refine kw_get (pc := 25) (i := 13) (v := .ref 8) rfl rfl rfl lkX7_55 (fun _ => rfl) ?_
      refine kw_iconst (pc := 28) (i := 14) (v := 1) rfl rfl ?_
      refine kw_callV (pc := 29) (i := 15) (Y := mX4_refuse) (a := 8) (As := [.int 1]) (st := []) kw_hE rfl rfl lvX7_81 arX4_refuse (c_X4_refuse_8 l σ hI 1 ) (by decide) (Nat.le_of_ble_eq_true rfl) rfl (fun v S26 p25 => ?_)
      obtain ⟨⟨I30, F31⟩, z29, rfl, f27, ef28⟩ := p25
      have F32 : kw_F [8, 28, 3, 16, 39, 40, 41, 42, 43] σ S26 := kw_F.tr hF0 F31 (by decide)
      replace hF := kf_be ef28 hF
      have r_z29 := kw_rng z29
      show kw_AW l 7 kw_E0 KX mX7_fault (p_X7_fault_0 σ a) 32 [(0, .ref 0), (1, .int a)] [.int z29] S26
      exact kw_ireturn (pc := 32) (i := 16) (ty := .int) rfl rfl rfl ⟨⟨I30, F32⟩, _, rfl, hF⟩
  · replace hF := kf_p c9 hF
    refine kw_iconst (pc := 11) (i := 5) (v := (-1)) rfl rfl ?_
    exact kw_ireturn (pc := 12) (i := 6) (ty := .int) rfl rfl rfl ⟨⟨hI, hF0⟩, _, rfl, hF⟩
noncomputable def l_X7_town_0_80 (a1 : Int32) : Nat → Int32 → kw_S → Int32 × kw_S
  | 0, _, S => (0, S)
  | n + 1, x2, S => if x2.toInt < (3 : Int32).toInt then (kf_l (f_X3_drop_5 S x2) fun S7 => kf_l (x2 + Int32.ofInt 1) fun z8 => l_X7_town_0_80 a1 n z8 S7) else (((S.1 17 5), S))
theorem l_X7_town_0_80_s (a1 : Int32) (n : Nat) (x2 : Int32) (S : kw_S) : l_X7_town_0_80 a1 (n + 1) x2 S = if x2.toInt < (3 : Int32).toInt then (kf_l (f_X3_drop_5 S x2) fun S7 => kf_l (x2 + Int32.ofInt 1) fun z8 => l_X7_town_0_80 a1 n z8 S7) else (((S.1 17 5), S)) := rfl
noncomputable def f_X7_town_0 (σ : kw_S) (a : Int32) : Int32 × kw_S := kf_l (f_X3_has_2 σ a) fun z1 => if z1.toInt = 0 then ((((-1) : Int32), σ)) else (kf_l (f_X3_isMissing_2 σ a) fun z2 => if z2.toInt = 0 then (kf_b (f_X2_faultOf_3_2 σ a) fun z3 S4 => if z3.toInt = ((-9) : Int32).toInt then (kf_l (f_X1_copyFrom_17_16 S4) fun S5 => kf_l (f_X5_replay_4 S5 (0 : Int32)) fun S6 => l_X7_town_0_80 a ((4 - (0 : Int32).toInt).toNat + 1) (0 : Int32) S6) else ((((-4) : Int32), S4))) else (kf_b (f_X4_refuse_8 σ (1 : Int32)) fun z9 S10 => (z9, S10)))
theorem f_X7_town_0_u (σ : kw_S) (a : Int32) : f_X7_town_0 σ a = kf_l (f_X3_has_2 σ a) fun z1 => if z1.toInt = 0 then ((((-1) : Int32), σ)) else (kf_l (f_X3_isMissing_2 σ a) fun z2 => if z2.toInt = 0 then (kf_b (f_X2_faultOf_3_2 σ a) fun z3 S4 => if z3.toInt = ((-9) : Int32).toInt then (kf_l (f_X1_copyFrom_17_16 S4) fun S5 => kf_l (f_X5_replay_4 S5 (0 : Int32)) fun S6 => l_X7_town_0_80 a ((4 - (0 : Int32).toInt).toNat + 1) (0 : Int32) S6) else ((((-4) : Int32), S4))) else (kf_b (f_X4_refuse_8 σ (1 : Int32)) fun z9 S10 => (z9, S10))) := rfl
abbrev p_X7_town_0 (σ : kw_S) (a : Int32) : Option Value → kw_S → Prop := fun vv σ' => (kw_I bX σ' ∧ kw_F [8, 28, 3, 16, 39, 40, 41, 42, 43, 17, 44, 45, 46, 47, 48, 4, 18, 19, 21, 49, 50, 51] σ σ') ∧ ∃ r : Int32, vv = some (.int r) ∧ (r, σ') = f_X7_town_0 σ a
set_option maxRecDepth 100000 in
set_option maxHeartbeats 4000000 in
theorem c_X7_town_0 (l : Launch) (σ : kw_S) (hI : kw_I bX σ) (a : Int32) : kw_Met l 7 KX mX7_town [.ref 0, .int a] σ (p_X7_town_0 σ a) := by
  have r_a := kw_rng a
  have hF0 : kw_F [8, 28, 3, 16, 39, 40, 41, 42, 43, 17, 44, 45, 46, 47, 48, 4, 18, 19, 21, 49, 50, 51] σ σ := kw_F.rf
  have hF := (f_X7_town_0_u σ a).symm
  have q_m9 : (-9 : Int32).toInt = -9 := rfl
  have q_m4 : (-4 : Int32).toInt = -4 := rfl
  have q_m1 : (-1 : Int32).toInt = -1 := rfl
  have q_0 : (0 : Int32).toInt = 0 := rfl
  have q_1 : (1 : Int32).toInt = 1 := rfl
  have q_3 : (3 : Int32).toInt = 3 := rfl
  refine kw_Met.of (by decide) rfl tX7_town (Nat.le_of_ble_eq_true rfl) ?_
  show kw_AW l 7 kw_E0 KX mX7_town (p_X7_town_0 σ a) 0 [(0, .ref 0), (1, .int a)] [] σ
  refine kw_aload_n (pc := 0) (i := 0) (k := 0) (n := 0) rfl rfl rfl ?_
  refine kw_get (pc := 1) (i := 1) (v := .ref 2) rfl rfl rfl lkX7_18 (fun _ => rfl) ?_
  refine kw_iload_n (pc := 4) (i := 2) (k := 1) (n := 1) rfl rfl rfl ?_
  refine kw_callV (pc := 5) (i := 3) (Y := mX3_has) (a := 2) (As := [.int a]) (st := []) kw_hE rfl rfl lvX7_73 arX3_has (c_X3_has_2 l σ hI a ) (by decide) (Nat.le_of_ble_eq_true rfl) rfl (fun v S2 p1 => ?_)
  obtain ⟨e8, z7, rfl, f3, f4, f5, ef6⟩ := p1
  rw [e8]
  replace hF := kf_le ef6 hF
  have r_z7 := kw_rng z7
  show kw_AW l 7 kw_E0 KX mX7_town (p_X7_town_0 σ a) 8 [(0, .ref 0), (1, .int a)] [.int z7] σ
  refine kw_if_ne (pc := 8) (i := 4) (tgt := 13) rfl rfl (fun c9 => ?_) (fun c9 => ?_)
  · replace hF := kf_n c9 hF
    refine kw_aload_n (pc := 13) (i := 7) (k := 0) (n := 0) rfl rfl rfl ?_
    refine kw_get (pc := 14) (i := 8) (v := .ref 2) rfl rfl rfl lkX7_18 (fun _ => rfl) ?_
    refine kw_iload_n (pc := 17) (i := 9) (k := 1) (n := 1) rfl rfl rfl ?_
    refine kw_callV (pc := 18) (i := 10) (Y := mX3_isMissing) (a := 2) (As := [.int a]) (st := []) kw_hE rfl rfl lvX7_95 arX3_isMissing (c_X3_isMissing_2 l σ hI a ) (by decide) (Nat.le_of_ble_eq_true rfl) rfl (fun v S11 p10 => ?_)
    obtain ⟨e16, z15, rfl, f12, f13, ef14⟩ := p10
    rw [e16]
    replace hF := kf_le ef14 hF
    have r_z15 := kw_rng z15
    show kw_AW l 7 kw_E0 KX mX7_town (p_X7_town_0 σ a) 21 [(0, .ref 0), (1, .int a)] [.int z15] σ
    refine kw_if_eq (pc := 21) (i := 11) (tgt := 33) rfl rfl (fun c17 => ?_) (fun c17 => ?_)
    · replace hF := kf_p c17 hF
      refine kw_aload_n (pc := 33) (i := 17) (k := 0) (n := 0) rfl rfl rfl ?_
      refine kw_get (pc := 34) (i := 18) (v := .ref 3) rfl rfl rfl lkX7_24 (fun _ => rfl) ?_
      refine kw_aload_n (pc := 37) (i := 19) (k := 0) (n := 0) rfl rfl rfl ?_
      refine kw_get (pc := 38) (i := 20) (v := .ref 2) rfl rfl rfl lkX7_18 (fun _ => rfl) ?_
      refine kw_iload_n (pc := 41) (i := 21) (k := 1) (n := 1) rfl rfl rfl ?_
      refine kw_callV (pc := 42) (i := 22) (Y := mX2_faultOf) (a := 3) (As := [.ref 2, .int a]) (st := []) kw_hE rfl rfl lvX7_113 arX2_faultOf (c_X2_faultOf_3_2 l σ hI a ) (by decide) (Nat.le_of_ble_eq_true rfl) rfl (fun v S19 p18 => ?_)
      obtain ⟨⟨I22, F23⟩, z21, rfl, ef20⟩ := p18
      have F24 : kw_F [8, 28, 3, 16, 39, 40, 41, 42, 43, 17, 44, 45, 46, 47, 48, 4, 18, 19, 21, 49, 50, 51] σ S19 := kw_F.tr hF0 F23 (by decide)
      replace hF := kf_be ef20 hF
      have r_z21 := kw_rng z21
      show kw_AW l 7 kw_E0 KX mX7_town (p_X7_town_0 σ a) 45 [(0, .ref 0), (1, .int a)] [.int z21] S19
      refine kw_bipush (pc := 45) (i := 23) (v := (-9)) rfl rfl ?_
      refine kw_icmp_eq (pc := 47) (i := 24) (tgt := 53) rfl rfl (fun c25 => ?_) (fun c25 => ?_)
      · replace hF := kf_p c25 hF
        refine kw_aload_n (pc := 53) (i := 27) (k := 0) (n := 0) rfl rfl rfl ?_
        refine kw_get (pc := 54) (i := 28) (v := .ref 4) rfl rfl rfl lkX7_31 (fun _ => rfl) ?_
        refine kw_get (pc := 57) (i := 29) (v := .ref 17) rfl rfl rfl lkX7_117 (fun _ => rfl) ?_
        refine kw_aload_n (pc := 60) (i := 30) (k := 0) (n := 0) rfl rfl rfl ?_
        refine kw_get (pc := 61) (i := 31) (v := .ref 3) rfl rfl rfl lkX7_24 (fun _ => rfl) ?_
        refine kw_get (pc := 64) (i := 32) (v := .ref 16) rfl rfl rfl lkX7_121 (fun _ => rfl) ?_
        refine kw_callV (pc := 67) (i := 33) (Y := mX1_copyFrom) (a := 17) (As := [.ref 16]) (st := []) kw_hE rfl rfl lvX7_124 arX1_copyFrom (c_X1_copyFrom_17_16 l S19 I22  ) (by decide) (Nat.le_of_ble_eq_true rfl) rfl (fun v S27 p26 => ?_)
        obtain ⟨⟨I29, F30⟩, rfl, ef28⟩ := p26
        have F31 : kw_F [8, 28, 3, 16, 39, 40, 41, 42, 43, 17, 44, 45, 46, 47, 48, 4, 18, 19, 21, 49, 50, 51] σ S27 := kw_F.tr F24 F30 (by decide)
        replace hF := kf_le ef28 hF
        show kw_AW l 7 kw_E0 KX mX7_town (p_X7_town_0 σ a) 70 [(0, .ref 0), (1, .int a)] [] S27
        refine kw_aload_n (pc := 70) (i := 34) (k := 0) (n := 0) rfl rfl rfl ?_
        refine kw_get (pc := 71) (i := 35) (v := .ref 4) rfl rfl rfl lkX7_31 (fun _ => rfl) ?_
        refine kw_iconst (pc := 74) (i := 36) (v := 0) rfl rfl ?_
        refine kw_callV (pc := 75) (i := 37) (Y := mX5_replay) (a := 4) (As := [.int 0]) (st := []) kw_hE rfl rfl lvX7_130 arX5_replay (c_X5_replay_4 l S27 I29 0 ) (by decide) (Nat.le_of_ble_eq_true rfl) rfl (fun v S33 p32 => ?_)
        obtain ⟨⟨I35, F36⟩, rfl, ef34⟩ := p32
        have F37 : kw_F [8, 28, 3, 16, 39, 40, 41, 42, 43, 17, 44, 45, 46, 47, 48, 4, 18, 19, 21, 49, 50, 51] σ S33 := kw_F.tr F31 F36 (by decide)
        replace hF := kf_le ef34 hF
        show kw_AW l 7 kw_E0 KX mX7_town (p_X7_town_0 σ a) 78 [(0, .ref 0), (1, .int a)] [] S33
        refine kw_iconst (pc := 78) (i := 38) (v := 0) rfl rfl ?_
        refine kw_istore_n (pc := 79) (i := 39) (n := 2) (lv' := [(2, .int 0), (0, .ref 0), (1, .int a)]) rfl rfl (by decide) rfl ?_
        have L42 : ∀ (n46 : Nat) (x38 : Int32) (S39 : kw_S), kw_I bX S39 → kw_F [8, 28, 3, 16, 39, 40, 41, 42, 43, 17, 44, 45, 46, 47, 48, 4, 18, 19, 21, 49, 50, 51] σ S39 → 0 ≤ x38.toInt → l_X7_town_0_80 a n46 x38 S39 = (f_X7_town_0 σ a) → (4 - x38.toInt).toNat < n46 → kw_AW l 7 kw_E0 KX mX7_town (p_X7_town_0 σ a) 80 [(2, .int x38), (0, .ref 0), (1, .int a)] [] S39 := by
          intro n46
          induction n46 with
          | zero => intro x38 S39 I40 F41 v44 hF m45; exact absurd m45 (Nat.not_lt_zero _)
          | succ n46 ih43 =>
            intro x38 S39 I40 F41 v44 hF m45
            replace hF := kf_st (l_X7_town_0_80_s _ _ _ _) hF
            have r_x38 := kw_rng x38
            refine kw_iload_n (pc := 80) (i := 40) (k := 0) (n := 2) rfl rfl rfl ?_
            refine kw_iconst (pc := 81) (i := 41) (v := 3) rfl rfl ?_
            refine kw_icmp_ge (pc := 82) (i := 42) (tgt := 99) rfl rfl (fun c47 => ?_) (fun c47 => ?_)
            · replace hF := kf_nl c47 hF
              refine kw_aload_n (pc := 99) (i := 49) (k := 1) (n := 0) rfl rfl rfl ?_
              refine kw_get (pc := 100) (i := 50) (v := .ref 4) rfl rfl rfl lkX7_31 (fun _ => rfl) ?_
              refine kw_get (pc := 103) (i := 51) (v := .ref 17) rfl rfl rfl lkX7_117 (fun _ => rfl) ?_
              refine kw_get (pc := 106) (i := 52) (v := .int (S39.1 17 5)) rfl rfl rfl lkX7_133 (fun _ => rfl) ?_
              have b48 : 0 ≤ (S39.1 17 5).toInt ∧ (S39.1 17 5).toInt ≤ 6 := I40 17 5
              exact kw_ireturn (pc := 109) (i := 53) (ty := .int) rfl rfl rfl ⟨⟨I40, F41⟩, _, rfl, hF⟩
            · replace hF := kf_p c47 hF
              refine kw_aload_n (pc := 85) (i := 43) (k := 1) (n := 0) rfl rfl rfl ?_
              refine kw_get (pc := 86) (i := 44) (v := .ref 5) rfl rfl rfl lkX7_35 (fun _ => rfl) ?_
              refine kw_iload_n (pc := 89) (i := 45) (k := 0) (n := 2) rfl rfl rfl ?_
              refine kw_callV (pc := 90) (i := 46) (Y := mX3_drop) (a := 5) (As := [.int x38]) (st := []) kw_hE rfl rfl lvX7_98 arX3_drop (c_X3_drop_5 l S39 I40 x38 ) (by decide) (Nat.le_of_ble_eq_true rfl) rfl (fun v S50 p49 => ?_)
              obtain ⟨⟨I52, F53⟩, rfl, ef51⟩ := p49
              have F54 : kw_F [8, 28, 3, 16, 39, 40, 41, 42, 43, 17, 44, 45, 46, 47, 48, 4, 18, 19, 21, 49, 50, 51] σ S50 := kw_F.tr F41 F53 (by decide)
              replace hF := kf_le ef51 hF
              show kw_AW l 7 kw_E0 KX mX7_town (p_X7_town_0 σ a) 93 [(2, .int x38), (0, .ref 0), (1, .int a)] [] S50
              refine kw_iinc' (pc := 93) (i := 47) (k := 0) (fun z => [(2, .int z), (0, .ref 0), (1, .int a)]) rfl rfl (by decide) rfl (fun _ => rfl) (fun z55 e_z55 t_z55 => ?_)
              replace hF := kf_le e_z55 hF
              refine kw_goto (pc := 96) (i := 48) (tgt := 80) rfl rfl ?_
              refine kw_sub (lv' := [(2, .int z55), (0, .ref 0), (1, .int a)]) [0, 1, 2] rfl ?_
              exact ih43 z55 S50 I52 F54 (by omega) hF (by omega)
        exact L42 _ 0 S33 I35 F37 (by omega) hF (Nat.lt_succ_self _)
      · replace hF := kf_n c25 hF
        refine kw_bipush (pc := 50) (i := 25) (v := (-4)) rfl rfl ?_
        exact kw_ireturn (pc := 52) (i := 26) (ty := .int) rfl rfl rfl ⟨⟨I22, F24⟩, _, rfl, hF⟩
    · replace hF := kf_n c17 hF
      refine kw_aload_n (pc := 24) (i := 12) (k := 0) (n := 0) rfl rfl rfl ?_
      refine kw_get (pc := 25) (i := 13) (v := .ref 8) rfl rfl rfl lkX7_55 (fun _ => rfl) ?_
      refine kw_iconst (pc := 28) (i := 14) (v := 1) rfl rfl ?_
      refine kw_callV (pc := 29) (i := 15) (Y := mX4_refuse) (a := 8) (As := [.int 1]) (st := []) kw_hE rfl rfl lvX7_81 arX4_refuse (c_X4_refuse_8 l σ hI 1 ) (by decide) (Nat.le_of_ble_eq_true rfl) rfl (fun v S57 p56 => ?_)
      obtain ⟨⟨I61, F62⟩, z60, rfl, f58, ef59⟩ := p56
      have F63 : kw_F [8, 28, 3, 16, 39, 40, 41, 42, 43, 17, 44, 45, 46, 47, 48, 4, 18, 19, 21, 49, 50, 51] σ S57 := kw_F.tr hF0 F62 (by decide)
      replace hF := kf_be ef59 hF
      have r_z60 := kw_rng z60
      show kw_AW l 7 kw_E0 KX mX7_town (p_X7_town_0 σ a) 32 [(0, .ref 0), (1, .int a)] [.int z60] S57
      exact kw_ireturn (pc := 32) (i := 16) (ty := .int) rfl rfl rfl ⟨⟨I61, F63⟩, _, rfl, hF⟩
  · replace hF := kf_p c9 hF
    refine kw_iconst (pc := 11) (i := 5) (v := (-1)) rfl rfl ?_
    exact kw_ireturn (pc := 12) (i := 6) (ty := .int) rfl rfl rfl ⟨⟨hI, hF0⟩, _, rfl, hF⟩
noncomputable def f_X7_line_0 (σ : kw_S) (i : Int32) (w : Int32) : Int32 × kw_S := kf_l (f_X1_hasLine_17 σ i) fun z1 => if z1.toInt = 0 then ((((-1) : Int32), σ)) else (if w.toInt < 0 then ((((-1) : Int32), σ)) else (if (6 : Int32).toInt < w.toInt then ((((-1) : Int32), σ)) else (kf_l (f_X5_trait_4 σ i w) fun z2 => kf_b (f_X4_answer_8 σ z2) fun z3 S4 => (z3, S4))))
theorem f_X7_line_0_u (σ : kw_S) (i : Int32) (w : Int32) : f_X7_line_0 σ i w = kf_l (f_X1_hasLine_17 σ i) fun z1 => if z1.toInt = 0 then ((((-1) : Int32), σ)) else (if w.toInt < 0 then ((((-1) : Int32), σ)) else (if (6 : Int32).toInt < w.toInt then ((((-1) : Int32), σ)) else (kf_l (f_X5_trait_4 σ i w) fun z2 => kf_b (f_X4_answer_8 σ z2) fun z3 S4 => (z3, S4)))) := rfl
abbrev p_X7_line_0 (σ : kw_S) (i : Int32) (w : Int32) : Option Value → kw_S → Prop := fun vv σ' => (kw_I bX σ' ∧ kw_F [8, 28] σ σ') ∧ ∃ r : Int32, vv = some (.int r) ∧ (r, σ') = f_X7_line_0 σ i w
set_option maxRecDepth 100000 in
set_option maxHeartbeats 4000000 in
theorem c_X7_line_0 (l : Launch) (σ : kw_S) (hI : kw_I bX σ) (i : Int32) (w : Int32) : kw_Met l 4 KX mX7_line [.ref 0, .int i, .int w] σ (p_X7_line_0 σ i w) := by
  have r_i := kw_rng i
  have r_w := kw_rng w
  have hF0 : kw_F [8, 28] σ σ := kw_F.rf
  have hF := (f_X7_line_0_u σ i w).symm
  have q_m1 : (-1 : Int32).toInt = -1 := rfl
  have q_6 : (6 : Int32).toInt = 6 := rfl
  refine kw_Met.of (by decide) rfl tX7_line (Nat.le_of_ble_eq_true rfl) ?_
  show kw_AW l 4 kw_E0 KX mX7_line (p_X7_line_0 σ i w) 0 [(0, .ref 0), (1, .int i), (2, .int w)] [] σ
  refine kw_aload_n (pc := 0) (i := 0) (k := 0) (n := 0) rfl rfl rfl ?_
  refine kw_get (pc := 1) (i := 1) (v := .ref 4) rfl rfl rfl lkX7_31 (fun _ => rfl) ?_
  refine kw_get (pc := 4) (i := 2) (v := .ref 17) rfl rfl rfl lkX7_117 (fun _ => rfl) ?_
  refine kw_iload_n (pc := 7) (i := 3) (k := 1) (n := 1) rfl rfl rfl ?_
  refine kw_callV (pc := 8) (i := 4) (Y := mX1_hasLine) (a := 17) (As := [.int i]) (st := []) kw_hE rfl rfl lvX7_137 arX1_hasLine (c_X1_hasLine_17 l σ hI i ) (by decide) (Nat.le_of_ble_eq_true rfl) rfl (fun v S2 p1 => ?_)
  obtain ⟨e7, z6, rfl, f3, f4, ef5⟩ := p1
  rw [e7]
  replace hF := kf_le ef5 hF
  have r_z6 := kw_rng z6
  show kw_AW l 4 kw_E0 KX mX7_line (p_X7_line_0 σ i w) 11 [(0, .ref 0), (1, .int i), (2, .int w)] [.int z6] σ
  refine kw_if_eq (pc := 11) (i := 5) (tgt := 24) rfl rfl (fun c8 => ?_) (fun c8 => ?_)
  · replace hF := kf_p c8 hF
    refine kw_iconst (pc := 24) (i := 11) (v := (-1)) rfl rfl ?_
    exact kw_ireturn (pc := 25) (i := 12) (ty := .int) rfl rfl rfl ⟨⟨hI, hF0⟩, _, rfl, hF⟩
  · replace hF := kf_n c8 hF
    refine kw_iload_n (pc := 14) (i := 6) (k := 2) (n := 2) rfl rfl rfl ?_
    refine kw_if_lt (pc := 15) (i := 7) (tgt := 24) rfl rfl (fun c9 => ?_) (fun c9 => ?_)
    · replace hF := kf_p c9 hF
      refine kw_iconst (pc := 24) (i := 11) (v := (-1)) rfl rfl ?_
      exact kw_ireturn (pc := 25) (i := 12) (ty := .int) rfl rfl rfl ⟨⟨hI, hF0⟩, _, rfl, hF⟩
    · replace hF := kf_nl c9 hF
      refine kw_iload_n (pc := 18) (i := 8) (k := 2) (n := 2) rfl rfl rfl ?_
      refine kw_bipush (pc := 19) (i := 9) (v := 6) rfl rfl ?_
      refine kw_icmp_le (pc := 21) (i := 10) (tgt := 26) rfl rfl (fun c10 => ?_) (fun c10 => ?_)
      · replace hF := kf_nl c10 hF
        refine kw_aload_n (pc := 26) (i := 13) (k := 0) (n := 0) rfl rfl rfl ?_
        refine kw_get (pc := 27) (i := 14) (v := .ref 8) rfl rfl rfl lkX7_55 (fun _ => rfl) ?_
        refine kw_aload_n (pc := 30) (i := 15) (k := 0) (n := 0) rfl rfl rfl ?_
        refine kw_get (pc := 31) (i := 16) (v := .ref 4) rfl rfl rfl lkX7_31 (fun _ => rfl) ?_
        refine kw_iload_n (pc := 34) (i := 17) (k := 1) (n := 1) rfl rfl rfl ?_
        refine kw_iload_n (pc := 35) (i := 18) (k := 2) (n := 2) rfl rfl rfl ?_
        refine kw_callV (pc := 36) (i := 19) (Y := mX5_trait) (a := 4) (As := [.int i, .int w]) (st := [.ref 8]) kw_hE rfl rfl lvX7_140 arX5_trait (c_X5_trait_4 l σ hI i w ) (by decide) (Nat.le_of_ble_eq_true rfl) rfl (fun v S12 p11 => ?_)
        obtain ⟨e15, z14, rfl, ef13⟩ := p11
        rw [e15]
        replace hF := kf_le ef13 hF
        have r_z14 := kw_rng z14
        show kw_AW l 4 kw_E0 KX mX7_line (p_X7_line_0 σ i w) 39 [(0, .ref 0), (1, .int i), (2, .int w)] [.int z14, .ref 8] σ
        refine kw_callV (pc := 39) (i := 20) (Y := mX4_answer) (a := 8) (As := [.int z14]) (st := []) kw_hE rfl rfl lvX7_92 arX4_answer (c_X4_answer_8 l σ hI z14 ) (by decide) (Nat.le_of_ble_eq_true rfl) rfl (fun v S17 p16 => ?_)
        obtain ⟨⟨I21, F22⟩, z20, rfl, f18, ef19⟩ := p16
        have F23 : kw_F [8, 28] σ S17 := kw_F.tr hF0 F22 (by decide)
        replace hF := kf_be ef19 hF
        have r_z20 := kw_rng z20
        show kw_AW l 4 kw_E0 KX mX7_line (p_X7_line_0 σ i w) 42 [(0, .ref 0), (1, .int i), (2, .int w)] [.int z20] S17
        exact kw_ireturn (pc := 42) (i := 21) (ty := .int) rfl rfl rfl ⟨⟨I21, F23⟩, _, rfl, hF⟩
      · replace hF := kf_p c10 hF
        refine kw_iconst (pc := 24) (i := 11) (v := (-1)) rfl rfl ?_
        exact kw_ireturn (pc := 25) (i := 12) (ty := .int) rfl rfl rfl ⟨⟨hI, hF0⟩, _, rfl, hF⟩
noncomputable def f_X7_mark_0 (σ : kw_S) (i : Int32) (kind : Int32) : Int32 × kw_S := kf_l (f_X1_hasLine_17 σ i) fun z1 => if z1.toInt = 0 then ((((-1) : Int32), σ)) else (if 0 < kind.toInt then (if kind.toInt < (6 : Int32).toInt then (kf_l (σ.1 44 i.toNatClampNeg) fun z2 => kf_l (f_X7_isA σ z2 kind) fun z3 => if z3.toInt = 0 then (kf_b (f_X4_refuse_8 σ (3 : Int32)) fun z17 S18 => (z17, S18)) else (if kind.toInt = 1 then (kf_l (f_X1_pullOf_17 σ i (5 : Int32)) fun z4 => (z4, σ)) else if kind.toInt = 2 then (kf_l (f_X5_hoursToStorm_4 σ) fun z5 => (z5, σ)) else if kind.toInt = 3 then (kf_l ((1 : Int32) <<< (i &&& 31)) fun z6 => kf_l (z6 ^^^ ((-1) : Int32)) fun z7 => kf_l ((σ.1 4 4) &&& z7) fun z8 => kf_l (f_J6_bitCount_0f7a4 σ z8) fun z9 => (z9, σ)) else if kind.toInt = 4 then (kf_l (f_X1_othersNoWider_17 σ i) fun z10 => (z10, σ)) else (kf_l (σ.1 46 i.toNatClampNeg) fun z11 => kf_l (f_X5_windNow_4 σ) fun z12 => kf_l (f_X7_pull σ (4 : Int32) z11 z12) fun z13 => kf_l (f_X5_windNow_4 σ) fun z14 => kf_l (f_X1_pullOf_17 σ i z14) fun z15 => kf_l (z13 - z15) fun z16 => (z16, σ)))) else ((((-1) : Int32), σ))) else ((((-1) : Int32), σ)))
theorem f_X7_mark_0_u (σ : kw_S) (i : Int32) (kind : Int32) : f_X7_mark_0 σ i kind = kf_l (f_X1_hasLine_17 σ i) fun z1 => if z1.toInt = 0 then ((((-1) : Int32), σ)) else (if 0 < kind.toInt then (if kind.toInt < (6 : Int32).toInt then (kf_l (σ.1 44 i.toNatClampNeg) fun z2 => kf_l (f_X7_isA σ z2 kind) fun z3 => if z3.toInt = 0 then (kf_b (f_X4_refuse_8 σ (3 : Int32)) fun z17 S18 => (z17, S18)) else (if kind.toInt = 1 then (kf_l (f_X1_pullOf_17 σ i (5 : Int32)) fun z4 => (z4, σ)) else if kind.toInt = 2 then (kf_l (f_X5_hoursToStorm_4 σ) fun z5 => (z5, σ)) else if kind.toInt = 3 then (kf_l ((1 : Int32) <<< (i &&& 31)) fun z6 => kf_l (z6 ^^^ ((-1) : Int32)) fun z7 => kf_l ((σ.1 4 4) &&& z7) fun z8 => kf_l (f_J6_bitCount_0f7a4 σ z8) fun z9 => (z9, σ)) else if kind.toInt = 4 then (kf_l (f_X1_othersNoWider_17 σ i) fun z10 => (z10, σ)) else (kf_l (σ.1 46 i.toNatClampNeg) fun z11 => kf_l (f_X5_windNow_4 σ) fun z12 => kf_l (f_X7_pull σ (4 : Int32) z11 z12) fun z13 => kf_l (f_X5_windNow_4 σ) fun z14 => kf_l (f_X1_pullOf_17 σ i z14) fun z15 => kf_l (z13 - z15) fun z16 => (z16, σ)))) else ((((-1) : Int32), σ))) else ((((-1) : Int32), σ))) := rfl
abbrev p_X7_mark_0 (σ : kw_S) (i : Int32) (kind : Int32) : Option Value → kw_S → Prop := fun vv σ' => (kw_I bX σ' ∧ kw_F [8, 28] σ σ') ∧ ∃ r : Int32, vv = some (.int r) ∧ (r, σ') = f_X7_mark_0 σ i kind
set_option maxRecDepth 100000 in
set_option maxHeartbeats 4000000 in
theorem c_X7_mark_0 (l : Launch) (σ : kw_S) (hI : kw_I bX σ) (i : Int32) (kind : Int32) : kw_Met l 4 KX mX7_mark [.ref 0, .int i, .int kind] σ (p_X7_mark_0 σ i kind) := by
  have r_i := kw_rng i
  have r_kind := kw_rng kind
  have hF0 : kw_F [8, 28] σ σ := kw_F.rf
  have hF := (f_X7_mark_0_u σ i kind).symm
  have q_m1 : (-1 : Int32).toInt = -1 := rfl
  have q_1 : (1 : Int32).toInt = 1 := rfl
  have q_3 : (3 : Int32).toInt = 3 := rfl
  have q_4 : (4 : Int32).toInt = 4 := rfl
  have q_5 : (5 : Int32).toInt = 5 := rfl
  have q_6 : (6 : Int32).toInt = 6 := rfl
  refine kw_Met.of (by decide) rfl tX7_mark (Nat.le_of_ble_eq_true rfl) ?_
  show kw_AW l 4 kw_E0 KX mX7_mark (p_X7_mark_0 σ i kind) 0 [(0, .ref 0), (1, .int i), (2, .int kind)] [] σ
  refine kw_aload_n (pc := 0) (i := 0) (k := 0) (n := 0) rfl rfl rfl ?_
  refine kw_get (pc := 1) (i := 1) (v := .ref 4) rfl rfl rfl lkX7_31 (fun _ => rfl) ?_
  refine kw_get (pc := 4) (i := 2) (v := .ref 17) rfl rfl rfl lkX7_117 (fun _ => rfl) ?_
  refine kw_astore_n (pc := 7) (i := 3) (n := 3) (lv' := [(3, .ref 17), (0, .ref 0), (1, .int i), (2, .int kind)]) rfl rfl (by decide) rfl ?_
  refine kw_aload_n (pc := 8) (i := 4) (k := 0) (n := 3) rfl rfl rfl ?_
  refine kw_iload_n (pc := 9) (i := 5) (k := 2) (n := 1) rfl rfl rfl ?_
  refine kw_callV (pc := 10) (i := 6) (Y := mX1_hasLine) (a := 17) (As := [.int i]) (st := []) kw_hE rfl rfl lvX7_137 arX1_hasLine (c_X1_hasLine_17 l σ hI i ) (by decide) (Nat.le_of_ble_eq_true rfl) rfl (fun v S2 p1 => ?_)
  obtain ⟨e7, z6, rfl, f3, f4, ef5⟩ := p1
  rw [e7]
  replace hF := kf_le ef5 hF
  have r_z6 := kw_rng z6
  show kw_AW l 4 kw_E0 KX mX7_mark (p_X7_mark_0 σ i kind) 13 [(3, .ref 17), (0, .ref 0), (1, .int i), (2, .int kind)] [.int z6] σ
  refine kw_if_eq (pc := 13) (i := 7) (tgt := 26) rfl rfl (fun c8 => ?_) (fun c8 => ?_)
  · replace hF := kf_p c8 hF
    refine kw_iconst (pc := 26) (i := 13) (v := (-1)) rfl rfl ?_
    exact kw_ireturn (pc := 27) (i := 14) (ty := .int) rfl rfl rfl ⟨⟨hI, hF0⟩, _, rfl, hF⟩
  · replace hF := kf_n c8 hF
    refine kw_iload_n (pc := 16) (i := 8) (k := 3) (n := 2) rfl rfl rfl ?_
    refine kw_if_le (pc := 17) (i := 9) (tgt := 26) rfl rfl (fun c9 => ?_) (fun c9 => ?_)
    · replace hF := kf_nl c9 hF
      refine kw_iconst (pc := 26) (i := 13) (v := (-1)) rfl rfl ?_
      exact kw_ireturn (pc := 27) (i := 14) (ty := .int) rfl rfl rfl ⟨⟨hI, hF0⟩, _, rfl, hF⟩
    · replace hF := kf_p c9 hF
      refine kw_iload_n (pc := 20) (i := 10) (k := 3) (n := 2) rfl rfl rfl ?_
      refine kw_bipush (pc := 21) (i := 11) (v := 6) rfl rfl ?_
      refine kw_icmp_lt (pc := 23) (i := 12) (tgt := 28) rfl rfl (fun c10 => ?_) (fun c10 => ?_)
      · replace hF := kf_p c10 hF
        refine kw_aload_n (pc := 28) (i := 15) (k := 0) (n := 3) rfl rfl rfl ?_
        refine kw_get (pc := 29) (i := 16) (v := .ref 44) rfl rfl rfl lkX7_143 (fun _ => rfl) ?_
        refine kw_iload_n (pc := 32) (i := 17) (k := 2) (n := 1) rfl rfl rfl ?_
        refine kw_iald (pc := 33) (i := 18) (n := 6) rfl rfl (by omega) (by omega) (fun z11 e_z11 => ?_)
        replace hF := kf_le e_z11 hF
        have t_z11 := congrArg Int32.toInt e_z11
        have r_z11 := kw_rng z11
        refine kw_iload_n (pc := 34) (i := 19) (k := 3) (n := 2) rfl rfl rfl ?_
        refine kw_callS (pc := 35) (i := 20) (Y := mX7_isA) (As := [.int z11, .int kind]) (st := []) kw_hE rfl lsX7_146 arX7_isA (c_X7_isA l σ hI z11 kind ) (by decide) (Nat.le_of_ble_eq_true rfl) rfl (fun v S13 p12 => ?_)
        obtain ⟨e17, z16, rfl, f14, ef15⟩ := p12
        rw [e17]
        replace hF := kf_le ef15 hF
        have r_z16 := kw_rng z16
        show kw_AW l 4 kw_E0 KX mX7_mark (p_X7_mark_0 σ i kind) 38 [(3, .ref 17), (0, .ref 0), (1, .int i), (2, .int kind)] [.int z16] σ
        refine kw_if_ne (pc := 38) (i := 21) (tgt := 50) rfl rfl (fun c18 => ?_) (fun c18 => ?_)
        · replace hF := kf_n c18 hF
          refine kw_iload_n (pc := 50) (i := 27) (k := 3) (n := 2) rfl rfl rfl ?_
          by_cases c19 : kind.toInt = 1
          · refine kw_tableIn (pc := 51) (i := 28) (k := 0) (tgt := 80) rfl (by omega) (by decide) rfl rfl ?_
            replace hF := kf_p c19 hF
            refine kw_aload_n (pc := 80) (i := 29) (k := 0) (n := 3) rfl rfl rfl ?_
            refine kw_iload_n (pc := 81) (i := 30) (k := 2) (n := 1) rfl rfl rfl ?_
            refine kw_iconst (pc := 82) (i := 31) (v := 5) rfl rfl ?_
            refine kw_callV (pc := 83) (i := 32) (Y := mX1_pullOf) (a := 17) (As := [.int i, .int 5]) (st := []) kw_hE rfl rfl lvX7_150 arX1_pullOf (c_X1_pullOf_17 l σ hI i 5 ) (by decide) (Nat.le_of_ble_eq_true rfl) rfl (fun v S21 p20 => ?_)
            obtain ⟨e24, z23, rfl, ef22⟩ := p20
            rw [e24]
            replace hF := kf_le ef22 hF
            have r_z23 := kw_rng z23
            show kw_AW l 4 kw_E0 KX mX7_mark (p_X7_mark_0 σ i kind) 86 [(3, .ref 17), (0, .ref 0), (1, .int i), (2, .int kind)] [.int z23] σ
            exact kw_ireturn (pc := 86) (i := 33) (ty := .int) rfl rfl rfl ⟨⟨hI, hF0⟩, _, rfl, hF⟩
          replace hF := kf_n c19 hF
          by_cases c25 : kind.toInt = 2
          · refine kw_tableIn (pc := 51) (i := 28) (k := 1) (tgt := 87) rfl (by omega) (by decide) rfl rfl ?_
            replace hF := kf_p c25 hF
            refine kw_aload_n (pc := 87) (i := 34) (k := 1) (n := 0) rfl rfl rfl ?_
            refine kw_get (pc := 88) (i := 35) (v := .ref 4) rfl rfl rfl lkX7_31 (fun _ => rfl) ?_
            refine kw_callV (pc := 91) (i := 36) (Y := mX5_hoursToStorm) (a := 4) (As := []) (st := []) kw_hE rfl rfl lvX7_153 arX5_hoursToStorm (c_X5_hoursToStorm_4 l σ hI  ) (by decide) (Nat.le_of_ble_eq_true rfl) rfl (fun v S27 p26 => ?_)
            obtain ⟨e30, z29, rfl, ef28⟩ := p26
            rw [e30]
            replace hF := kf_le ef28 hF
            have r_z29 := kw_rng z29
            show kw_AW l 4 kw_E0 KX mX7_mark (p_X7_mark_0 σ i kind) 94 [(3, .ref 17), (0, .ref 0), (1, .int i), (2, .int kind)] [.int z29] σ
            exact kw_ireturn (pc := 94) (i := 37) (ty := .int) rfl rfl rfl ⟨⟨hI, hF0⟩, _, rfl, hF⟩
          replace hF := kf_n c25 hF
          by_cases c31 : kind.toInt = 3
          · refine kw_tableIn (pc := 51) (i := 28) (k := 2) (tgt := 95) rfl (by omega) (by decide) rfl rfl ?_
            replace hF := kf_p c31 hF
            refine kw_aload_n (pc := 95) (i := 38) (k := 1) (n := 0) rfl rfl rfl ?_
            refine kw_get (pc := 96) (i := 39) (v := .ref 4) rfl rfl rfl lkX7_31 (fun _ => rfl) ?_
            refine kw_get (pc := 99) (i := 40) (v := .int (σ.1 4 4)) rfl rfl rfl lkX7_157 (fun _ => rfl) ?_
            have b32 := kw_rng (σ.1 4 4)
            refine kw_iconst (pc := 102) (i := 41) (v := 1) rfl rfl ?_
            refine kw_iload_n (pc := 103) (i := 42) (k := 2) (n := 1) rfl rfl rfl ?_
            refine kw_ishl (pc := 104) (i := 43) rfl (fun z33 e_z33 => ?_)
            have r_z33 := kw_rng z33
            replace hF := kf_le e_z33 hF
            refine kw_iconst (pc := 105) (i := 44) (v := (-1)) rfl rfl ?_
            refine kw_ixor (pc := 106) (i := 45) rfl (fun z34 e_z34 => ?_)
            have r_z34 := kw_rng z34
            replace hF := kf_le e_z34 hF
            refine kw_iand (pc := 107) (i := 46) rfl (fun z35 e_z35 => ?_)
            have r_z35 := kw_rng z35
            replace hF := kf_le e_z35 hF
            refine kw_callS (pc := 108) (i := 47) (Y := mJ6_bitCount_0f7a4) (As := [.int z35]) (st := []) kw_hE rfl lsX7_160 arJ6_bitCount_0f7a4 (c_J6_bitCount_0f7a4 l σ hI z35 ) (by decide) (Nat.le_of_ble_eq_true rfl) rfl (fun v S37 p36 => ?_)
            obtain ⟨e40, z39, rfl, ef38⟩ := p36
            rw [e40]
            replace hF := kf_le ef38 hF
            have r_z39 := kw_rng z39
            show kw_AW l 4 kw_E0 KX mX7_mark (p_X7_mark_0 σ i kind) 111 [(3, .ref 17), (0, .ref 0), (1, .int i), (2, .int kind)] [.int z39] σ
            exact kw_ireturn (pc := 111) (i := 48) (ty := .int) rfl rfl rfl ⟨⟨hI, hF0⟩, _, rfl, hF⟩
          replace hF := kf_n c31 hF
          by_cases c41 : kind.toInt = 4
          · refine kw_tableIn (pc := 51) (i := 28) (k := 3) (tgt := 112) rfl (by omega) (by decide) rfl rfl ?_
            replace hF := kf_p c41 hF
            refine kw_aload_n (pc := 112) (i := 49) (k := 0) (n := 3) rfl rfl rfl ?_
            refine kw_iload_n (pc := 113) (i := 50) (k := 2) (n := 1) rfl rfl rfl ?_
            refine kw_callV (pc := 114) (i := 51) (Y := mX1_othersNoWider) (a := 17) (As := [.int i]) (st := []) kw_hE rfl rfl lvX7_165 arX1_othersNoWider (c_X1_othersNoWider_17 l σ hI i ) (by decide) (Nat.le_of_ble_eq_true rfl) rfl (fun v S43 p42 => ?_)
            obtain ⟨e46, z45, rfl, ef44⟩ := p42
            rw [e46]
            replace hF := kf_le ef44 hF
            have r_z45 := kw_rng z45
            show kw_AW l 4 kw_E0 KX mX7_mark (p_X7_mark_0 σ i kind) 117 [(3, .ref 17), (0, .ref 0), (1, .int i), (2, .int kind)] [.int z45] σ
            exact kw_ireturn (pc := 117) (i := 52) (ty := .int) rfl rfl rfl ⟨⟨hI, hF0⟩, _, rfl, hF⟩
          replace hF := kf_n c41 hF
          refine kw_tableOut (pc := 51) (i := 28) (tgt := 118) rfl (by omega) rfl ?_
          refine kw_iconst (pc := 118) (i := 53) (v := 4) rfl rfl ?_
          refine kw_aload_n (pc := 119) (i := 54) (k := 0) (n := 3) rfl rfl rfl ?_
          refine kw_get (pc := 120) (i := 55) (v := .ref 46) rfl rfl rfl lkX7_168 (fun _ => rfl) ?_
          refine kw_iload_n (pc := 123) (i := 56) (k := 2) (n := 1) rfl rfl rfl ?_
          refine kw_iald (pc := 124) (i := 57) (n := 6) rfl rfl (by omega) (by omega) (fun z47 e_z47 => ?_)
          replace hF := kf_le e_z47 hF
          have t_z47 := congrArg Int32.toInt e_z47
          have r_z47 := kw_rng z47
          refine kw_aload_n (pc := 125) (i := 58) (k := 1) (n := 0) rfl rfl rfl ?_
          refine kw_get (pc := 126) (i := 59) (v := .ref 4) rfl rfl rfl lkX7_31 (fun _ => rfl) ?_
          refine kw_callV (pc := 129) (i := 60) (Y := mX5_windNow) (a := 4) (As := []) (st := [.int z47, .int 4]) kw_hE rfl rfl lvX7_171 arX5_windNow (c_X5_windNow_4 l σ hI  ) (by decide) (Nat.le_of_ble_eq_true rfl) rfl (fun v S49 p48 => ?_)
          obtain ⟨e52, z51, rfl, ef50⟩ := p48
          rw [e52]
          replace hF := kf_le ef50 hF
          have r_z51 := kw_rng z51
          show kw_AW l 4 kw_E0 KX mX7_mark (p_X7_mark_0 σ i kind) 132 [(3, .ref 17), (0, .ref 0), (1, .int i), (2, .int kind)] [.int z51, .int z47, .int 4] σ
          refine kw_callS (pc := 132) (i := 61) (Y := mX7_pull) (As := [.int 4, .int z47, .int z51]) (st := []) kw_hE rfl lsX7_174 arX7_pull (c_X7_pull l σ hI 4 z47 z51 ) (by decide) (Nat.le_of_ble_eq_true rfl) rfl (fun v S54 p53 => ?_)
          obtain ⟨e57, z56, rfl, ef55⟩ := p53
          rw [e57]
          replace hF := kf_le ef55 hF
          have r_z56 := kw_rng z56
          show kw_AW l 4 kw_E0 KX mX7_mark (p_X7_mark_0 σ i kind) 135 [(3, .ref 17), (0, .ref 0), (1, .int i), (2, .int kind)] [.int z56] σ
          refine kw_aload_n (pc := 135) (i := 62) (k := 0) (n := 3) rfl rfl rfl ?_
          refine kw_iload_n (pc := 136) (i := 63) (k := 2) (n := 1) rfl rfl rfl ?_
          refine kw_aload_n (pc := 137) (i := 64) (k := 1) (n := 0) rfl rfl rfl ?_
          refine kw_get (pc := 138) (i := 65) (v := .ref 4) rfl rfl rfl lkX7_31 (fun _ => rfl) ?_
          refine kw_callV (pc := 141) (i := 66) (Y := mX5_windNow) (a := 4) (As := []) (st := [.int i, .ref 17, .int z56]) kw_hE rfl rfl lvX7_171 arX5_windNow (c_X5_windNow_4 l σ hI  ) (by decide) (Nat.le_of_ble_eq_true rfl) rfl (fun v S59 p58 => ?_)
          obtain ⟨e62, z61, rfl, ef60⟩ := p58
          rw [e62]
          replace hF := kf_le ef60 hF
          have r_z61 := kw_rng z61
          show kw_AW l 4 kw_E0 KX mX7_mark (p_X7_mark_0 σ i kind) 144 [(3, .ref 17), (0, .ref 0), (1, .int i), (2, .int kind)] [.int z61, .int i, .ref 17, .int z56] σ
          refine kw_callV (pc := 144) (i := 67) (Y := mX1_pullOf) (a := 17) (As := [.int i, .int z61]) (st := [.int z56]) kw_hE rfl rfl lvX7_150 arX1_pullOf (c_X1_pullOf_17 l σ hI i z61 ) (by decide) (Nat.le_of_ble_eq_true rfl) rfl (fun v S64 p63 => ?_)
          obtain ⟨e67, z66, rfl, ef65⟩ := p63
          rw [e67]
          replace hF := kf_le ef65 hF
          have r_z66 := kw_rng z66
          show kw_AW l 4 kw_E0 KX mX7_mark (p_X7_mark_0 σ i kind) 147 [(3, .ref 17), (0, .ref 0), (1, .int i), (2, .int kind)] [.int z66, .int z56] σ
          refine kw_isub (pc := 147) (i := 68) rfl (fun z68 e_z68 t_z68 => ?_)
          replace hF := kf_le e_z68 hF
          exact kw_ireturn (pc := 148) (i := 69) (ty := .int) rfl rfl rfl ⟨⟨hI, hF0⟩, _, rfl, hF⟩
        · replace hF := kf_p c18 hF
          refine kw_aload_n (pc := 41) (i := 22) (k := 1) (n := 0) rfl rfl rfl ?_
          refine kw_get (pc := 42) (i := 23) (v := .ref 8) rfl rfl rfl lkX7_55 (fun _ => rfl) ?_
          refine kw_iconst (pc := 45) (i := 24) (v := 3) rfl rfl ?_
          refine kw_callV (pc := 46) (i := 25) (Y := mX4_refuse) (a := 8) (As := [.int 3]) (st := []) kw_hE rfl rfl lvX7_81 arX4_refuse (c_X4_refuse_8 l σ hI 3 ) (by decide) (Nat.le_of_ble_eq_true rfl) rfl (fun v S70 p69 => ?_)
          obtain ⟨⟨I74, F75⟩, z73, rfl, f71, ef72⟩ := p69
          have F76 : kw_F [8, 28] σ S70 := kw_F.tr hF0 F75 (by decide)
          replace hF := kf_be ef72 hF
          have r_z73 := kw_rng z73
          show kw_AW l 4 kw_E0 KX mX7_mark (p_X7_mark_0 σ i kind) 49 [(3, .ref 17), (0, .ref 0), (1, .int i), (2, .int kind)] [.int z73] S70
          exact kw_ireturn (pc := 49) (i := 26) (ty := .int) rfl rfl rfl ⟨⟨I74, F76⟩, _, rfl, hF⟩
      · replace hF := kf_nl c10 hF
        refine kw_iconst (pc := 26) (i := 13) (v := (-1)) rfl rfl ?_
        exact kw_ireturn (pc := 27) (i := 14) (ty := .int) rfl rfl rfl ⟨⟨hI, hF0⟩, _, rfl, hF⟩
noncomputable def f_X7_wind_0 (σ : kw_S) (h : Int32) : Int32 := if h.toInt < 0 then (((-1) : Int32)) else (if (999 : Int32).toInt < h.toInt then (((-1) : Int32)) else (kf_l (f_X5_isEmpty_4 σ) fun z1 => if z1.toInt = 0 then (kf_l (f_X1_windAt_17 σ h) fun z2 => z2) else (((-4) : Int32))))
theorem f_X7_wind_0_u (σ : kw_S) (h : Int32) : f_X7_wind_0 σ h = if h.toInt < 0 then (((-1) : Int32)) else (if (999 : Int32).toInt < h.toInt then (((-1) : Int32)) else (kf_l (f_X5_isEmpty_4 σ) fun z1 => if z1.toInt = 0 then (kf_l (f_X1_windAt_17 σ h) fun z2 => z2) else (((-4) : Int32)))) := rfl
abbrev p_X7_wind_0 (σ : kw_S) (h : Int32) : Option Value → kw_S → Prop := fun vv σ' => σ' = σ ∧ ∃ r : Int32, vv = some (.int r) ∧ r = f_X7_wind_0 σ h
set_option maxRecDepth 100000 in
set_option maxHeartbeats 4000000 in
theorem c_X7_wind_0 (l : Launch) (σ : kw_S) (hI : kw_I bX σ) (h : Int32) : kw_Met l 2 KX mX7_wind [.ref 0, .int h] σ (p_X7_wind_0 σ h) := by
  have r_h := kw_rng h
  have hF := (f_X7_wind_0_u σ h).symm
  have q_m4 : (-4 : Int32).toInt = -4 := rfl
  have q_m1 : (-1 : Int32).toInt = -1 := rfl
  have q_999 : (999 : Int32).toInt = 999 := rfl
  refine kw_Met.of (by decide) rfl tX7_wind (Nat.le_of_ble_eq_true rfl) ?_
  show kw_AW l 2 kw_E0 KX mX7_wind (p_X7_wind_0 σ h) 0 [(0, .ref 0), (1, .int h)] [] σ
  refine kw_iload_n (pc := 0) (i := 0) (k := 1) (n := 1) rfl rfl rfl ?_
  refine kw_if_lt (pc := 1) (i := 1) (tgt := 11) rfl rfl (fun c1 => ?_) (fun c1 => ?_)
  · replace hF := kf_p c1 hF
    refine kw_iconst (pc := 11) (i := 5) (v := (-1)) rfl rfl ?_
    exact kw_ireturn (pc := 12) (i := 6) (ty := .int) rfl rfl rfl ⟨rfl, _, rfl, hF⟩
  · replace hF := kf_nl c1 hF
    refine kw_iload_n (pc := 4) (i := 2) (k := 1) (n := 1) rfl rfl rfl ?_
    refine kw_sipush (pc := 5) (i := 3) (v := 999) rfl rfl ?_
    refine kw_icmp_le (pc := 8) (i := 4) (tgt := 13) rfl rfl (fun c2 => ?_) (fun c2 => ?_)
    · replace hF := kf_nl c2 hF
      refine kw_aload_n (pc := 13) (i := 7) (k := 0) (n := 0) rfl rfl rfl ?_
      refine kw_get (pc := 14) (i := 8) (v := .ref 4) rfl rfl rfl lkX7_31 (fun _ => rfl) ?_
      refine kw_callV (pc := 17) (i := 9) (Y := mX5_isEmpty) (a := 4) (As := []) (st := []) kw_hE rfl rfl lvX7_178 arX5_isEmpty (c_X5_isEmpty_4 l σ hI  ) (by decide) (Nat.le_of_ble_eq_true rfl) rfl (fun v S4 p3 => ?_)
      obtain ⟨e10, z9, rfl, f5, f6, f7, ef8⟩ := p3
      rw [e10]
      replace hF := kf_le ef8 hF
      have r_z9 := kw_rng z9
      show kw_AW l 2 kw_E0 KX mX7_wind (p_X7_wind_0 σ h) 20 [(0, .ref 0), (1, .int h)] [.int z9] σ
      refine kw_if_eq (pc := 20) (i := 10) (tgt := 26) rfl rfl (fun c11 => ?_) (fun c11 => ?_)
      · replace hF := kf_p c11 hF
        refine kw_aload_n (pc := 26) (i := 13) (k := 0) (n := 0) rfl rfl rfl ?_
        refine kw_get (pc := 27) (i := 14) (v := .ref 4) rfl rfl rfl lkX7_31 (fun _ => rfl) ?_
        refine kw_get (pc := 30) (i := 15) (v := .ref 17) rfl rfl rfl lkX7_117 (fun _ => rfl) ?_
        refine kw_iload_n (pc := 33) (i := 16) (k := 1) (n := 1) rfl rfl rfl ?_
        refine kw_callV (pc := 34) (i := 17) (Y := mX1_windAt) (a := 17) (As := [.int h]) (st := []) kw_hE rfl rfl lvX7_182 arX1_windAt (c_X1_windAt_17 l σ hI h ) (by decide) (Nat.le_of_ble_eq_true rfl) rfl (fun v S13 p12 => ?_)
        obtain ⟨e16, z15, rfl, ef14⟩ := p12
        rw [e16]
        replace hF := kf_le ef14 hF
        have r_z15 := kw_rng z15
        show kw_AW l 2 kw_E0 KX mX7_wind (p_X7_wind_0 σ h) 37 [(0, .ref 0), (1, .int h)] [.int z15] σ
        exact kw_ireturn (pc := 37) (i := 18) (ty := .int) rfl rfl rfl ⟨rfl, _, rfl, hF⟩
      · replace hF := kf_n c11 hF
        refine kw_bipush (pc := 23) (i := 11) (v := (-4)) rfl rfl ?_
        exact kw_ireturn (pc := 25) (i := 12) (ty := .int) rfl rfl rfl ⟨rfl, _, rfl, hF⟩
    · replace hF := kf_p c2 hF
      refine kw_iconst (pc := 11) (i := 5) (v := (-1)) rfl rfl ?_
      exact kw_ireturn (pc := 12) (i := 6) (ty := .int) rfl rfl rfl ⟨rfl, _, rfl, hF⟩
noncomputable def f_X7_hang_0 (σ : kw_S) (i : Int32) : Int32 × kw_S := kf_l (f_X1_hasLine_17 σ i) fun z1 => if z1.toInt = 0 then ((((-1) : Int32), σ)) else (kf_l (f_X5_isHung_4 σ i) fun z2 => if z2.toInt = 0 then (kf_l (f_X5_hasRoomFor_4 σ (1 : Int32)) fun z3 => if z3.toInt = 0 then ((((-2) : Int32), σ)) else (kf_l (f_X5_act_4 σ i) fun S4 => kf_l (f_J6_bitCount_0f7a4 S4 (S4.1 4 4)) fun z5 => (z5, S4))) else ((((-4) : Int32), σ)))
theorem f_X7_hang_0_u (σ : kw_S) (i : Int32) : f_X7_hang_0 σ i = kf_l (f_X1_hasLine_17 σ i) fun z1 => if z1.toInt = 0 then ((((-1) : Int32), σ)) else (kf_l (f_X5_isHung_4 σ i) fun z2 => if z2.toInt = 0 then (kf_l (f_X5_hasRoomFor_4 σ (1 : Int32)) fun z3 => if z3.toInt = 0 then ((((-2) : Int32), σ)) else (kf_l (f_X5_act_4 σ i) fun S4 => kf_l (f_J6_bitCount_0f7a4 S4 (S4.1 4 4)) fun z5 => (z5, S4))) else ((((-4) : Int32), σ))) := rfl
abbrev p_X7_hang_0 (σ : kw_S) (i : Int32) : Option Value → kw_S → Prop := fun vv σ' => (kw_I bX σ' ∧ kw_F [4, 18, 19] σ σ') ∧ ∃ r : Int32, vv = some (.int r) ∧ (r, σ') = f_X7_hang_0 σ i
set_option maxRecDepth 100000 in
set_option maxHeartbeats 4000000 in
theorem c_X7_hang_0 (l : Launch) (σ : kw_S) (hI : kw_I bX σ) (i : Int32) : kw_Met l 6 KX mX7_hang [.ref 0, .int i] σ (p_X7_hang_0 σ i) := by
  have r_i := kw_rng i
  have hF0 : kw_F [4, 18, 19] σ σ := kw_F.rf
  have hF := (f_X7_hang_0_u σ i).symm
  have q_m4 : (-4 : Int32).toInt = -4 := rfl
  have q_m2 : (-2 : Int32).toInt = -2 := rfl
  have q_m1 : (-1 : Int32).toInt = -1 := rfl
  have q_1 : (1 : Int32).toInt = 1 := rfl
  refine kw_Met.of (by decide) rfl tX7_hang (Nat.le_of_ble_eq_true rfl) ?_
  show kw_AW l 6 kw_E0 KX mX7_hang (p_X7_hang_0 σ i) 0 [(0, .ref 0), (1, .int i)] [] σ
  refine kw_aload_n (pc := 0) (i := 0) (k := 0) (n := 0) rfl rfl rfl ?_
  refine kw_get (pc := 1) (i := 1) (v := .ref 4) rfl rfl rfl lkX7_31 (fun _ => rfl) ?_
  refine kw_get (pc := 4) (i := 2) (v := .ref 17) rfl rfl rfl lkX7_117 (fun _ => rfl) ?_
  refine kw_iload_n (pc := 7) (i := 3) (k := 1) (n := 1) rfl rfl rfl ?_
  refine kw_callV (pc := 8) (i := 4) (Y := mX1_hasLine) (a := 17) (As := [.int i]) (st := []) kw_hE rfl rfl lvX7_137 arX1_hasLine (c_X1_hasLine_17 l σ hI i ) (by decide) (Nat.le_of_ble_eq_true rfl) rfl (fun v S2 p1 => ?_)
  obtain ⟨e7, z6, rfl, f3, f4, ef5⟩ := p1
  rw [e7]
  replace hF := kf_le ef5 hF
  have r_z6 := kw_rng z6
  show kw_AW l 6 kw_E0 KX mX7_hang (p_X7_hang_0 σ i) 11 [(0, .ref 0), (1, .int i)] [.int z6] σ
  refine kw_if_ne (pc := 11) (i := 5) (tgt := 16) rfl rfl (fun c8 => ?_) (fun c8 => ?_)
  · replace hF := kf_n c8 hF
    refine kw_aload_n (pc := 16) (i := 8) (k := 0) (n := 0) rfl rfl rfl ?_
    refine kw_get (pc := 17) (i := 9) (v := .ref 4) rfl rfl rfl lkX7_31 (fun _ => rfl) ?_
    refine kw_iload_n (pc := 20) (i := 10) (k := 1) (n := 1) rfl rfl rfl ?_
    refine kw_callV (pc := 21) (i := 11) (Y := mX5_isHung) (a := 4) (As := [.int i]) (st := []) kw_hE rfl rfl lvX7_185 arX5_isHung (c_X5_isHung_4 l σ hI i ) (by decide) (Nat.le_of_ble_eq_true rfl) rfl (fun v S10 p9 => ?_)
    obtain ⟨e14, z13, rfl, f11, ef12⟩ := p9
    rw [e14]
    replace hF := kf_le ef12 hF
    have r_z13 := kw_rng z13
    show kw_AW l 6 kw_E0 KX mX7_hang (p_X7_hang_0 σ i) 24 [(0, .ref 0), (1, .int i)] [.int z13] σ
    refine kw_if_eq (pc := 24) (i := 12) (tgt := 30) rfl rfl (fun c15 => ?_) (fun c15 => ?_)
    · replace hF := kf_p c15 hF
      refine kw_aload_n (pc := 30) (i := 15) (k := 0) (n := 0) rfl rfl rfl ?_
      refine kw_get (pc := 31) (i := 16) (v := .ref 4) rfl rfl rfl lkX7_31 (fun _ => rfl) ?_
      refine kw_iconst (pc := 34) (i := 17) (v := 1) rfl rfl ?_
      refine kw_callV (pc := 35) (i := 18) (Y := mX5_hasRoomFor) (a := 4) (As := [.int 1]) (st := []) kw_hE rfl rfl lvX7_188 arX5_hasRoomFor (c_X5_hasRoomFor_4 l σ hI 1 (by first | omega | decide) (by first | omega | decide)) (by decide) (Nat.le_of_ble_eq_true rfl) rfl (fun v S17 p16 => ?_)
      obtain ⟨e22, z21, rfl, f18, f19, ef20⟩ := p16
      rw [e22]
      replace hF := kf_le ef20 hF
      have r_z21 := kw_rng z21
      show kw_AW l 6 kw_E0 KX mX7_hang (p_X7_hang_0 σ i) 38 [(0, .ref 0), (1, .int i)] [.int z21] σ
      refine kw_if_ne (pc := 38) (i := 19) (tgt := 44) rfl rfl (fun c23 => ?_) (fun c23 => ?_)
      · replace hF := kf_n c23 hF
        refine kw_aload_n (pc := 44) (i := 22) (k := 0) (n := 0) rfl rfl rfl ?_
        refine kw_get (pc := 45) (i := 23) (v := .ref 4) rfl rfl rfl lkX7_31 (fun _ => rfl) ?_
        refine kw_iload_n (pc := 48) (i := 24) (k := 1) (n := 1) rfl rfl rfl ?_
        refine kw_callV (pc := 49) (i := 25) (Y := mX5_act) (a := 4) (As := [.int i]) (st := []) kw_hE rfl rfl lvX7_191 arX5_act (c_X5_act_4 l σ hI i ) (by decide) (Nat.le_of_ble_eq_true rfl) rfl (fun v S25 p24 => ?_)
        obtain ⟨⟨I27, F28⟩, rfl, ef26⟩ := p24
        have F29 : kw_F [4, 18, 19] σ S25 := kw_F.tr hF0 F28 (by decide)
        replace hF := kf_le ef26 hF
        show kw_AW l 6 kw_E0 KX mX7_hang (p_X7_hang_0 σ i) 52 [(0, .ref 0), (1, .int i)] [] S25
        refine kw_aload_n (pc := 52) (i := 26) (k := 0) (n := 0) rfl rfl rfl ?_
        refine kw_get (pc := 53) (i := 27) (v := .ref 4) rfl rfl rfl lkX7_31 (fun _ => rfl) ?_
        refine kw_get (pc := 56) (i := 28) (v := .int (S25.1 4 4)) rfl rfl rfl lkX7_157 (fun _ => rfl) ?_
        have b30 := kw_rng (S25.1 4 4)
        refine kw_callS (pc := 59) (i := 29) (Y := mJ6_bitCount_0f7a4) (As := [.int (S25.1 4 4)]) (st := []) kw_hE rfl lsX7_160 arJ6_bitCount_0f7a4 (c_J6_bitCount_0f7a4 l S25 I27 (S25.1 4 4) ) (by decide) (Nat.le_of_ble_eq_true rfl) rfl (fun v S32 p31 => ?_)
        obtain ⟨e35, z34, rfl, ef33⟩ := p31
        rw [e35]
        replace hF := kf_le ef33 hF
        have r_z34 := kw_rng z34
        show kw_AW l 6 kw_E0 KX mX7_hang (p_X7_hang_0 σ i) 62 [(0, .ref 0), (1, .int i)] [.int z34] S25
        exact kw_ireturn (pc := 62) (i := 30) (ty := .int) rfl rfl rfl ⟨⟨I27, F29⟩, _, rfl, hF⟩
      · replace hF := kf_p c23 hF
        refine kw_bipush (pc := 41) (i := 20) (v := (-2)) rfl rfl ?_
        exact kw_ireturn (pc := 43) (i := 21) (ty := .int) rfl rfl rfl ⟨⟨hI, hF0⟩, _, rfl, hF⟩
    · replace hF := kf_n c15 hF
      refine kw_bipush (pc := 27) (i := 13) (v := (-4)) rfl rfl ?_
      exact kw_ireturn (pc := 29) (i := 14) (ty := .int) rfl rfl rfl ⟨⟨hI, hF0⟩, _, rfl, hF⟩
  · replace hF := kf_p c8 hF
    refine kw_iconst (pc := 14) (i := 6) (v := (-1)) rfl rfl ?_
    exact kw_ireturn (pc := 15) (i := 7) (ty := .int) rfl rfl rfl ⟨⟨hI, hF0⟩, _, rfl, hF⟩
noncomputable def f_X7_take_0 (σ : kw_S) (i : Int32) : Int32 × kw_S := kf_l (f_X1_hasLine_17 σ i) fun z1 => if z1.toInt = 0 then ((((-1) : Int32), σ)) else (kf_l (f_X5_isHung_4 σ i) fun z2 => if z2.toInt = 0 then ((((-4) : Int32), σ)) else (kf_l (f_X5_hasRoomFor_4 σ (1 : Int32)) fun z3 => if z3.toInt = 0 then ((((-2) : Int32), σ)) else (kf_l (f_X5_act_4 σ i) fun S4 => kf_l (S4.1 19 i.toNatClampNeg) fun z5 => (z5, S4))))
theorem f_X7_take_0_u (σ : kw_S) (i : Int32) : f_X7_take_0 σ i = kf_l (f_X1_hasLine_17 σ i) fun z1 => if z1.toInt = 0 then ((((-1) : Int32), σ)) else (kf_l (f_X5_isHung_4 σ i) fun z2 => if z2.toInt = 0 then ((((-4) : Int32), σ)) else (kf_l (f_X5_hasRoomFor_4 σ (1 : Int32)) fun z3 => if z3.toInt = 0 then ((((-2) : Int32), σ)) else (kf_l (f_X5_act_4 σ i) fun S4 => kf_l (S4.1 19 i.toNatClampNeg) fun z5 => (z5, S4)))) := rfl
abbrev p_X7_take_0 (σ : kw_S) (i : Int32) : Option Value → kw_S → Prop := fun vv σ' => (kw_I bX σ' ∧ kw_F [4, 18, 19] σ σ') ∧ ∃ r : Int32, vv = some (.int r) ∧ (r, σ') = f_X7_take_0 σ i
set_option maxRecDepth 100000 in
set_option maxHeartbeats 4000000 in
theorem c_X7_take_0 (l : Launch) (σ : kw_S) (hI : kw_I bX σ) (i : Int32) : kw_Met l 6 KX mX7_take [.ref 0, .int i] σ (p_X7_take_0 σ i) := by
  have r_i := kw_rng i
  have hF0 : kw_F [4, 18, 19] σ σ := kw_F.rf
  have hF := (f_X7_take_0_u σ i).symm
  have q_m4 : (-4 : Int32).toInt = -4 := rfl
  have q_m2 : (-2 : Int32).toInt = -2 := rfl
  have q_m1 : (-1 : Int32).toInt = -1 := rfl
  have q_1 : (1 : Int32).toInt = 1 := rfl
  refine kw_Met.of (by decide) rfl tX7_take (Nat.le_of_ble_eq_true rfl) ?_
  show kw_AW l 6 kw_E0 KX mX7_take (p_X7_take_0 σ i) 0 [(0, .ref 0), (1, .int i)] [] σ
  refine kw_aload_n (pc := 0) (i := 0) (k := 0) (n := 0) rfl rfl rfl ?_
  refine kw_get (pc := 1) (i := 1) (v := .ref 4) rfl rfl rfl lkX7_31 (fun _ => rfl) ?_
  refine kw_get (pc := 4) (i := 2) (v := .ref 17) rfl rfl rfl lkX7_117 (fun _ => rfl) ?_
  refine kw_iload_n (pc := 7) (i := 3) (k := 1) (n := 1) rfl rfl rfl ?_
  refine kw_callV (pc := 8) (i := 4) (Y := mX1_hasLine) (a := 17) (As := [.int i]) (st := []) kw_hE rfl rfl lvX7_137 arX1_hasLine (c_X1_hasLine_17 l σ hI i ) (by decide) (Nat.le_of_ble_eq_true rfl) rfl (fun v S2 p1 => ?_)
  obtain ⟨e7, z6, rfl, f3, f4, ef5⟩ := p1
  rw [e7]
  replace hF := kf_le ef5 hF
  have r_z6 := kw_rng z6
  show kw_AW l 6 kw_E0 KX mX7_take (p_X7_take_0 σ i) 11 [(0, .ref 0), (1, .int i)] [.int z6] σ
  refine kw_if_ne (pc := 11) (i := 5) (tgt := 16) rfl rfl (fun c8 => ?_) (fun c8 => ?_)
  · replace hF := kf_n c8 hF
    refine kw_aload_n (pc := 16) (i := 8) (k := 0) (n := 0) rfl rfl rfl ?_
    refine kw_get (pc := 17) (i := 9) (v := .ref 4) rfl rfl rfl lkX7_31 (fun _ => rfl) ?_
    refine kw_iload_n (pc := 20) (i := 10) (k := 1) (n := 1) rfl rfl rfl ?_
    refine kw_callV (pc := 21) (i := 11) (Y := mX5_isHung) (a := 4) (As := [.int i]) (st := []) kw_hE rfl rfl lvX7_185 arX5_isHung (c_X5_isHung_4 l σ hI i ) (by decide) (Nat.le_of_ble_eq_true rfl) rfl (fun v S10 p9 => ?_)
    obtain ⟨e14, z13, rfl, f11, ef12⟩ := p9
    rw [e14]
    replace hF := kf_le ef12 hF
    have r_z13 := kw_rng z13
    show kw_AW l 6 kw_E0 KX mX7_take (p_X7_take_0 σ i) 24 [(0, .ref 0), (1, .int i)] [.int z13] σ
    refine kw_if_ne (pc := 24) (i := 12) (tgt := 30) rfl rfl (fun c15 => ?_) (fun c15 => ?_)
    · replace hF := kf_n c15 hF
      refine kw_aload_n (pc := 30) (i := 15) (k := 0) (n := 0) rfl rfl rfl ?_
      refine kw_get (pc := 31) (i := 16) (v := .ref 4) rfl rfl rfl lkX7_31 (fun _ => rfl) ?_
      refine kw_iconst (pc := 34) (i := 17) (v := 1) rfl rfl ?_
      refine kw_callV (pc := 35) (i := 18) (Y := mX5_hasRoomFor) (a := 4) (As := [.int 1]) (st := []) kw_hE rfl rfl lvX7_188 arX5_hasRoomFor (c_X5_hasRoomFor_4 l σ hI 1 (by first | omega | decide) (by first | omega | decide)) (by decide) (Nat.le_of_ble_eq_true rfl) rfl (fun v S17 p16 => ?_)
      obtain ⟨e22, z21, rfl, f18, f19, ef20⟩ := p16
      rw [e22]
      replace hF := kf_le ef20 hF
      have r_z21 := kw_rng z21
      show kw_AW l 6 kw_E0 KX mX7_take (p_X7_take_0 σ i) 38 [(0, .ref 0), (1, .int i)] [.int z21] σ
      refine kw_if_ne (pc := 38) (i := 19) (tgt := 44) rfl rfl (fun c23 => ?_) (fun c23 => ?_)
      · replace hF := kf_n c23 hF
        refine kw_aload_n (pc := 44) (i := 22) (k := 0) (n := 0) rfl rfl rfl ?_
        refine kw_get (pc := 45) (i := 23) (v := .ref 4) rfl rfl rfl lkX7_31 (fun _ => rfl) ?_
        refine kw_iload_n (pc := 48) (i := 24) (k := 1) (n := 1) rfl rfl rfl ?_
        refine kw_callV (pc := 49) (i := 25) (Y := mX5_act) (a := 4) (As := [.int i]) (st := []) kw_hE rfl rfl lvX7_191 arX5_act (c_X5_act_4 l σ hI i ) (by decide) (Nat.le_of_ble_eq_true rfl) rfl (fun v S25 p24 => ?_)
        obtain ⟨⟨I27, F28⟩, rfl, ef26⟩ := p24
        have F29 : kw_F [4, 18, 19] σ S25 := kw_F.tr hF0 F28 (by decide)
        replace hF := kf_le ef26 hF
        show kw_AW l 6 kw_E0 KX mX7_take (p_X7_take_0 σ i) 52 [(0, .ref 0), (1, .int i)] [] S25
        refine kw_aload_n (pc := 52) (i := 26) (k := 0) (n := 0) rfl rfl rfl ?_
        refine kw_get (pc := 53) (i := 27) (v := .ref 4) rfl rfl rfl lkX7_31 (fun _ => rfl) ?_
        refine kw_get (pc := 56) (i := 28) (v := .ref 19) rfl rfl rfl lkX7_194 (fun _ => rfl) ?_
        refine kw_iload_n (pc := 59) (i := 29) (k := 1) (n := 1) rfl rfl rfl ?_
        refine kw_iald (pc := 60) (i := 30) (n := 6) rfl rfl (by omega) (by omega) (fun z30 e_z30 => ?_)
        replace hF := kf_le e_z30 hF
        have t_z30 := congrArg Int32.toInt e_z30
        have r_z30 := kw_rng z30
        exact kw_ireturn (pc := 61) (i := 31) (ty := .int) rfl rfl rfl ⟨⟨I27, F29⟩, _, rfl, hF⟩
      · replace hF := kf_p c23 hF
        refine kw_bipush (pc := 41) (i := 20) (v := (-2)) rfl rfl ?_
        exact kw_ireturn (pc := 43) (i := 21) (ty := .int) rfl rfl rfl ⟨⟨hI, hF0⟩, _, rfl, hF⟩
    · replace hF := kf_p c15 hF
      refine kw_bipush (pc := 27) (i := 13) (v := (-4)) rfl rfl ?_
      exact kw_ireturn (pc := 29) (i := 14) (ty := .int) rfl rfl rfl ⟨⟨hI, hF0⟩, _, rfl, hF⟩
  · replace hF := kf_p c8 hF
    refine kw_iconst (pc := 14) (i := 6) (v := (-1)) rfl rfl ?_
    exact kw_ireturn (pc := 15) (i := 7) (ty := .int) rfl rfl rfl ⟨⟨hI, hF0⟩, _, rfl, hF⟩
