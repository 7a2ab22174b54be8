abbrev p_X7_row_0 (σ : kw_S) (k : Int32) (n : Int32) : Option Value → kw_S → Prop := fun v σ' => (kw_I bX σ' ∧ kw_F [8, 28, 13, 29, 30, 31, 32, 33, 34] σ σ') ∧ ∃ r : Int32, v = some (.int r) ∧ ((k.toInt < 0 ∨ 6 ≤ k.toInt ∨ 40 < n.toInt) ∧ r.toInt = -1 ∨ 0 ≤ k.toInt ∧ k.toInt < 6 ∧ n.toInt < 0 ∧ r.toInt = -3 ∨ 0 ≤ k.toInt ∧ k.toInt < 6 ∧ 0 ≤ n.toInt ∧ n.toInt ≤ 40 ∧ r.toInt = n.toInt)
set_option maxRecDepth 100000 in
set_option maxHeartbeats 4000000 in
theorem c_X7_row_0 (l : Launch) (σ : kw_S) (hI : kw_I bX σ) (k : Int32) (n : Int32) : kw_Met l 4 KX mX7_row [.ref 0, .int k, .int n] σ (p_X7_row_0 σ k n) := by
  have r_k := kw_rng k
  have r_n := kw_rng n
  have hF0 : kw_F [8, 28, 13, 29, 30, 31, 32, 33, 34] σ σ := kw_F.rf
  have q_0 : (0 : Int32).toInt = 0 := rfl
  refine kw_Met.of (by decide) rfl tX7_row (Nat.le_of_ble_eq_true rfl) ?_
  show kw_AW l 4 kw_E0 KX mX7_row (p_X7_row_0 σ k n) 0 [(0, .ref 0), (1, .int k), (2, .int n)] [] σ
  refine kw_aload_n (pc := 0) (i := 0) (k := 0) (n := 0) rfl rfl rfl ?_
  refine kw_aload_n (pc := 1) (i := 1) (k := 0) (n := 0) rfl rfl rfl ?_
  refine kw_get (pc := 2) (i := 2) (v := .ref 1) rfl rfl rfl lkX7_14 (fun _ => rfl) ?_
  refine kw_iload_n (pc := 5) (i := 3) (k := 1) (n := 1) rfl rfl rfl ?_
  refine kw_iload_n (pc := 6) (i := 4) (k := 2) (n := 2) rfl rfl rfl ?_
  refine kw_iconst (pc := 7) (i := 5) (v := 0) rfl rfl ?_
  refine kw_callV (pc := 8) (i := 6) (Y := mX7_makeOn) (a := 0) (As := [.ref 1, .int k, .int n, .int 0]) (st := []) kw_hE rfl rfl lvX7_69 arX7_makeOn (c_X7_makeOn_0_1 l σ hI k n 0 ) (by decide) (Nat.le_of_ble_eq_true rfl) rfl (fun v S2 p1 => ?_)
  obtain ⟨⟨I5, F6⟩, z4, rfl, f3⟩ := p1
  have F7 : kw_F [8, 28, 13, 29, 30, 31, 32, 33, 34] σ S2 := kw_F.tr hF0 F6 (by decide)
  have r_z4 := kw_rng z4
  show kw_AW l 4 kw_E0 KX mX7_row (p_X7_row_0 σ k n) 11 [(0, .ref 0), (1, .int k), (2, .int n)] [.int z4] S2
  exact kw_ireturn (pc := 11) (i := 7) (ty := .int) rfl rfl rfl ⟨⟨I5, F7⟩, _, rfl, by omega⟩
abbrev p_X7_text_0 (σ : kw_S) (k : Int32) (n : Int32) : Option Value → kw_S → Prop := fun v σ' => (kw_I bX σ' ∧ kw_F [8, 28, 15, 35, 36, 37, 38] σ σ') ∧ ∃ r : Int32, v = some (.int r) ∧ ((k.toInt < 0 ∨ 4 ≤ k.toInt ∨ 60 < n.toInt) ∧ r.toInt = -1 ∨ 0 ≤ k.toInt ∧ k.toInt < 4 ∧ n.toInt < 0 ∧ r.toInt = -3 ∨ 0 ≤ k.toInt ∧ k.toInt < 4 ∧ 0 ≤ n.toInt ∧ n.toInt ≤ 60 ∧ r.toInt = n.toInt)
set_option maxRecDepth 100000 in
set_option maxHeartbeats 4000000 in
theorem c_X7_text_0 (l : Launch) (σ : kw_S) (hI : kw_I bX σ) (k : Int32) (n : Int32) : kw_Met l 4 KX mX7_text [.ref 0, .int k, .int n] σ (p_X7_text_0 σ k n) := by
  have r_k := kw_rng k
  have r_n := kw_rng n
  have hF0 : kw_F [8, 28, 15, 35, 36, 37, 38] σ σ := kw_F.rf
  have q_32 : (32 : Int32).toInt = 32 := rfl
  refine kw_Met.of (by decide) rfl tX7_text (Nat.le_of_ble_eq_true rfl) ?_
  show kw_AW l 4 kw_E0 KX mX7_text (p_X7_text_0 σ k n) 0 [(0, .ref 0), (1, .int k), (2, .int n)] [] σ
  refine kw_aload_n (pc := 0) (i := 0) (k := 0) (n := 0) rfl rfl rfl ?_
  refine kw_aload_n (pc := 1) (i := 1) (k := 0) (n := 0) rfl rfl rfl ?_
  refine kw_get (pc := 2) (i := 2) (v := .ref 2) rfl rfl rfl lkX7_18 (fun _ => rfl) ?_
  refine kw_iload_n (pc := 5) (i := 3) (k := 1) (n := 1) rfl rfl rfl ?_
  refine kw_iload_n (pc := 6) (i := 4) (k := 2) (n := 2) rfl rfl rfl ?_
  refine kw_bipush (pc := 7) (i := 5) (v := 32) rfl rfl ?_
  refine kw_callV (pc := 9) (i := 6) (Y := mX7_makeOn) (a := 0) (As := [.ref 2, .int k, .int n, .int 32]) (st := []) kw_hE rfl rfl lvX7_69 arX7_makeOn (c_X7_makeOn_0_2 l σ hI k n 32 ) (by decide) (Nat.le_of_ble_eq_true rfl) rfl (fun v S2 p1 => ?_)
  obtain ⟨⟨I5, F6⟩, z4, rfl, f3⟩ := p1
  have F7 : kw_F [8, 28, 15, 35, 36, 37, 38] σ S2 := kw_F.tr hF0 F6 (by decide)
  have r_z4 := kw_rng z4
  show kw_AW l 4 kw_E0 KX mX7_text (p_X7_text_0 σ k n) 12 [(0, .ref 0), (1, .int k), (2, .int n)] [.int z4] S2
  exact kw_ireturn (pc := 12) (i := 7) (ty := .int) rfl rfl rfl ⟨⟨I5, F7⟩, _, rfl, by omega⟩
abbrev p_X7_lay_0 (σ : kw_S) (a : Int32) (i : Int32) (v : Int32) : Option Value → kw_S → Prop := fun v σ' => (kw_I bX σ' ∧ kw_F [8, 28, 13, 29, 30, 31, 32, 33, 34] σ σ') ∧ ∃ r : Int32, v = some (.int r)
set_option maxRecDepth 100000 in
set_option maxHeartbeats 4000000 in
theorem c_X7_lay_0 (l : Launch) (σ : kw_S) (hI : kw_I bX σ) (a : Int32) (i : Int32) (v : Int32) : kw_Met l 5 KX mX7_lay [.ref 0, .int a, .int i, .int v] σ (p_X7_lay_0 σ a i v) := by
  have r_a := kw_rng a
  have r_i := kw_rng i
  have r_v := kw_rng v
  have hF0 : kw_F [8, 28, 13, 29, 30, 31, 32, 33, 34] σ σ := kw_F.rf
  have q_m1 : (-1 : Int32).toInt = -1 := rfl
  refine kw_Met.of (by decide) rfl tX7_lay (Nat.le_of_ble_eq_true rfl) ?_
  show kw_AW l 5 kw_E0 KX mX7_lay (p_X7_lay_0 σ a i v) 0 [(0, .ref 0), (1, .int a), (2, .int i), (3, .int v)] [] σ
  refine kw_aload_n (pc := 0) (i := 0) (k := 0) (n := 0) rfl rfl rfl ?_
  refine kw_get (pc := 1) (i := 1) (v := .ref 1) rfl rfl rfl lkX7_14 (fun _ => rfl) ?_
  refine kw_iload_n (pc := 4) (i := 2) (k := 1) (n := 1) rfl rfl rfl ?_
  refine kw_callV (pc := 5) (i := 3) (Y := mX3_has) (a := 1) (As := [.int a]) (st := []) kw_hE rfl rfl lvX7_73 arX3_has (c_X3_has_1 l σ hI a ) (by decide) (Nat.le_of_ble_eq_true rfl) rfl (fun v S2 p1 => ?_)
  obtain ⟨e7, z6, rfl, f3, f4, f5⟩ := p1
  rw [e7]
  have r_z6 := kw_rng z6
  show kw_AW l 5 kw_E0 KX mX7_lay (p_X7_lay_0 σ a i v) 8 [(0, .ref 0), (1, .int a), (2, .int i), (3, .int v)] [.int z6] σ
  refine kw_if_ne (pc := 8) (i := 4) (tgt := 13) rfl rfl (fun c8 => ?_) (fun c8 => ?_)
  · refine kw_aload_n (pc := 13) (i := 7) (k := 0) (n := 0) rfl rfl rfl ?_
    refine kw_get (pc := 14) (i := 8) (v := .ref 1) rfl rfl rfl lkX7_14 (fun _ => rfl) ?_
    refine kw_iload_n (pc := 17) (i := 9) (k := 1) (n := 1) rfl rfl rfl ?_
    refine kw_iload_n (pc := 18) (i := 10) (k := 2) (n := 2) rfl rfl rfl ?_
    refine kw_callV (pc := 19) (i := 11) (Y := mX3_findingAt) (a := 1) (As := [.int a, .int i]) (st := []) kw_hE rfl rfl lvX7_77 arX3_findingAt (c_X3_findingAt_1 l σ hI a i ) (by decide) (Nat.le_of_ble_eq_true rfl) rfl (fun v S10 p9 => ?_)
    obtain ⟨e12, z11, rfl⟩ := p9
    rw [e12]
    have r_z11 := kw_rng z11
    show kw_AW l 5 kw_E0 KX mX7_lay (p_X7_lay_0 σ a i v) 22 [(0, .ref 0), (1, .int a), (2, .int i), (3, .int v)] [.int z11] σ
    refine kw_istore (pc := 22) (i := 12) (n := 4) (lv' := [(4, .int z11), (0, .ref 0), (1, .int a), (2, .int i), (3, .int v)]) rfl (by decide) rfl ?_
    refine kw_iload (pc := 24) (i := 13) (k := 0) (n := 4) rfl rfl ?_
    refine kw_if_eq (pc := 26) (i := 14) (tgt := 39) rfl rfl (fun c13 => ?_) (fun c13 => ?_)
    · refine kw_aload_n (pc := 39) (i := 20) (k := 1) (n := 0) rfl rfl rfl ?_
      refine kw_get (pc := 40) (i := 21) (v := .ref 1) rfl rfl rfl lkX7_14 (fun _ => rfl) ?_
      refine kw_iload_n (pc := 43) (i := 22) (k := 2) (n := 1) rfl rfl rfl ?_
      refine kw_iload_n (pc := 44) (i := 23) (k := 3) (n := 2) rfl rfl rfl ?_
      refine kw_callV (pc := 45) (i := 24) (Y := mX3_valueAt) (a := 1) (As := [.int a, .int i]) (st := []) kw_hE rfl rfl lvX7_85 arX3_valueAt (c_X3_valueAt_1 l σ hI a i ) (by decide) (Nat.le_of_ble_eq_true rfl) rfl (fun v S15 p14 => ?_)
      obtain ⟨e17, z16, rfl⟩ := p14
      rw [e17]
      have r_z16 := kw_rng z16
      show kw_AW l 5 kw_E0 KX mX7_lay (p_X7_lay_0 σ a i v) 48 [(4, .int z11), (0, .ref 0), (1, .int a), (2, .int i), (3, .int v)] [.int z16] σ
      refine kw_istore (pc := 48) (i := 25) (n := 5) (lv' := [(5, .int z16), (4, .int z11), (0, .ref 0), (1, .int a), (2, .int i), (3, .int v)]) rfl (by decide) rfl ?_
      refine kw_aload_n (pc := 50) (i := 26) (k := 2) (n := 0) rfl rfl rfl ?_
      refine kw_get (pc := 51) (i := 27) (v := .ref 1) rfl rfl rfl lkX7_14 (fun _ => rfl) ?_
      refine kw_iload_n (pc := 54) (i := 28) (k := 3) (n := 1) rfl rfl rfl ?_
      refine kw_iload_n (pc := 55) (i := 29) (k := 4) (n := 2) rfl rfl rfl ?_
      refine kw_iload_n (pc := 56) (i := 30) (k := 5) (n := 3) rfl rfl rfl ?_
      refine kw_callV (pc := 57) (i := 31) (Y := mX3_change) (a := 1) (As := [.int a, .int i, .int v]) (st := []) kw_hE rfl rfl lvX7_88 arX3_change (c_X3_change_1 l σ hI a i v ) (by decide) (Nat.le_of_ble_eq_true rfl) rfl (fun v S19 p18 => ?_)
      obtain ⟨⟨I20, F21⟩, rfl⟩ := p18
      have F22 : kw_F [8, 28, 13, 29, 30, 31, 32, 33, 34] σ S19 := kw_F.tr hF0 F21 (by decide)
      show kw_AW l 5 kw_E0 KX mX7_lay (p_X7_lay_0 σ a i v) 60 [(5, .int z16), (4, .int z11), (0, .ref 0), (1, .int a), (2, .int i), (3, .int v)] [] S19
      refine kw_aload_n (pc := 60) (i := 32) (k := 2) (n := 0) rfl rfl rfl ?_
      refine kw_get (pc := 61) (i := 33) (v := .ref 8) rfl rfl rfl lkX7_55 (fun _ => rfl) ?_
      refine kw_iload (pc := 64) (i := 34) (k := 0) (n := 5) rfl rfl ?_
      refine kw_callV (pc := 66) (i := 35) (Y := mX4_answer) (a := 8) (As := [.int z16]) (st := []) kw_hE rfl rfl lvX7_92 arX4_answer (c_X4_answer_8 l S19 I20 z16 ) (by decide) (Nat.le_of_ble_eq_true rfl) rfl (fun v S24 p23 => ?_)
      obtain ⟨⟨I27, F28⟩, z26, rfl, f25⟩ := p23
      have F29 : kw_F [8, 28, 13, 29, 30, 31, 32, 33, 34] σ S24 := kw_F.tr F22 F28 (by decide)
      have r_z26 := kw_rng z26
      show kw_AW l 5 kw_E0 KX mX7_lay (p_X7_lay_0 σ a i v) 69 [(5, .int z16), (4, .int z11), (0, .ref 0), (1, .int a), (2, .int i), (3, .int v)] [.int z26] S24
      exact kw_ireturn (pc := 69) (i := 36) (ty := .int) rfl rfl rfl ⟨⟨I27, F29⟩, _, rfl⟩
    · refine kw_aload_n (pc := 29) (i := 15) (k := 1) (n := 0) rfl rfl rfl ?_
      refine kw_get (pc := 30) (i := 16) (v := .ref 8) rfl rfl rfl lkX7_55 (fun _ => rfl) ?_
      refine kw_iload (pc := 33) (i := 17) (k := 0) (n := 4) rfl rfl ?_
      refine kw_callV (pc := 35) (i := 18) (Y := mX4_refuse) (a := 8) (As := [.int z11]) (st := []) kw_hE rfl rfl lvX7_81 arX4_refuse (c_X4_refuse_8 l σ hI z11 ) (by decide) (Nat.le_of_ble_eq_true rfl) rfl (fun v S31 p30 => ?_)
      obtain ⟨⟨I34, F35⟩, z33, rfl, f32⟩ := p30
      have F36 : kw_F [8, 28, 13, 29, 30, 31, 32, 33, 34] σ S31 := kw_F.tr hF0 F35 (by decide)
      have r_z33 := kw_rng z33
      show kw_AW l 5 kw_E0 KX mX7_lay (p_X7_lay_0 σ a i v) 38 [(4, .int z11), (0, .ref 0), (1, .int a), (2, .int i), (3, .int v)] [.int z33] S31
      exact kw_ireturn (pc := 38) (i := 19) (ty := .int) rfl rfl rfl ⟨⟨I34, F36⟩, _, rfl⟩
  · refine kw_iconst (pc := 11) (i := 5) (v := (-1)) rfl rfl ?_
    exact kw_ireturn (pc := 12) (i := 6) (ty := .int) rfl rfl rfl ⟨⟨hI, hF0⟩, _, rfl⟩
abbrev p_X7_at_0 (σ : kw_S) (a : Int32) (i : Int32) : Option Value → kw_S → Prop := fun v σ' => (kw_I bX σ' ∧ kw_F [8, 28] σ σ') ∧ ∃ r : Int32, v = some (.int r)
set_option maxRecDepth 100000 in
set_option maxHeartbeats 4000000 in
theorem c_X7_at_0 (l : Launch) (σ : kw_S) (hI : kw_I bX σ) (a : Int32) (i : Int32) : kw_Met l 5 KX mX7_at [.ref 0, .int a, .int i] σ (p_X7_at_0 σ a i) := by
  have r_a := kw_rng a
  have r_i := kw_rng i
  have hF0 : kw_F [8, 28] σ σ := kw_F.rf
  have q_m1 : (-1 : Int32).toInt = -1 := rfl
  refine kw_Met.of (by decide) rfl tX7_at (Nat.le_of_ble_eq_true rfl) ?_
  show kw_AW l 5 kw_E0 KX mX7_at (p_X7_at_0 σ a i) 0 [(0, .ref 0), (1, .int a), (2, .int i)] [] σ
  refine kw_aload_n (pc := 0) (i := 0) (k := 0) (n := 0) rfl rfl rfl ?_
  refine kw_get (pc := 1) (i := 1) (v := .ref 1) rfl rfl rfl lkX7_14 (fun _ => rfl) ?_
  refine kw_iload_n (pc := 4) (i := 2) (k := 1) (n := 1) rfl rfl rfl ?_
  refine kw_callV (pc := 5) (i := 3) (Y := mX3_has) (a := 1) (As := [.int a]) (st := []) kw_hE rfl rfl lvX7_73 arX3_has (c_X3_has_1 l σ hI a ) (by decide) (Nat.le_of_ble_eq_true rfl) rfl (fun v S2 p1 => ?_)
  obtain ⟨e7, z6, rfl, f3, f4, f5⟩ := p1
  rw [e7]
  have r_z6 := kw_rng z6
  show kw_AW l 5 kw_E0 KX mX7_at (p_X7_at_0 σ a i) 8 [(0, .ref 0), (1, .int a), (2, .int i)] [.int z6] σ
  refine kw_if_ne (pc := 8) (i := 4) (tgt := 13) rfl rfl (fun c8 => ?_) (fun c8 => ?_)
  · refine kw_aload_n (pc := 13) (i := 7) (k := 0) (n := 0) rfl rfl rfl ?_
    refine kw_get (pc := 14) (i := 8) (v := .ref 1) rfl rfl rfl lkX7_14 (fun _ => rfl) ?_
    refine kw_iload_n (pc := 17) (i := 9) (k := 1) (n := 1) rfl rfl rfl ?_
    refine kw_iload_n (pc := 18) (i := 10) (k := 2) (n := 2) rfl rfl rfl ?_
    refine kw_callV (pc := 19) (i := 11) (Y := mX3_findingAt) (a := 1) (As := [.int a, .int i]) (st := []) kw_hE rfl rfl lvX7_77 arX3_findingAt (c_X3_findingAt_1 l σ hI a i ) (by decide) (Nat.le_of_ble_eq_true rfl) rfl (fun v S10 p9 => ?_)
    obtain ⟨e12, z11, rfl⟩ := p9
    rw [e12]
    have r_z11 := kw_rng z11
    show kw_AW l 5 kw_E0 KX mX7_at (p_X7_at_0 σ a i) 22 [(0, .ref 0), (1, .int a), (2, .int i)] [.int z11] σ
    refine kw_istore_n (pc := 22) (i := 12) (n := 3) (lv' := [(3, .int z11), (0, .ref 0), (1, .int a), (2, .int i)]) rfl rfl (by decide) rfl ?_
    refine kw_iload_n (pc := 23) (i := 13) (k := 0) (n := 3) rfl rfl rfl ?_
    refine kw_if_eq (pc := 24) (i := 14) (tgt := 36) rfl rfl (fun c13 => ?_) (fun c13 => ?_)
    · refine kw_aload_n (pc := 36) (i := 20) (k := 1) (n := 0) rfl rfl rfl ?_
      refine kw_get (pc := 37) (i := 21) (v := .ref 8) rfl rfl rfl lkX7_55 (fun _ => rfl) ?_
      refine kw_aload_n (pc := 40) (i := 22) (k := 1) (n := 0) rfl rfl rfl ?_
      refine kw_get (pc := 41) (i := 23) (v := .ref 1) rfl rfl rfl lkX7_14 (fun _ => rfl) ?_
      refine kw_iload_n (pc := 44) (i := 24) (k := 2) (n := 1) rfl rfl rfl ?_
      refine kw_iload_n (pc := 45) (i := 25) (k := 3) (n := 2) rfl rfl rfl ?_
      refine kw_callV (pc := 46) (i := 26) (Y := mX3_valueAt) (a := 1) (As := [.int a, .int i]) (st := [.ref 8]) kw_hE rfl rfl lvX7_85 arX3_valueAt (c_X3_valueAt_1 l σ hI a i ) (by decide) (Nat.le_of_ble_eq_true rfl) rfl (fun v S15 p14 => ?_)
      obtain ⟨e17, z16, rfl⟩ := p14
      rw [e17]
      have r_z16 := kw_rng z16
      show kw_AW l 5 kw_E0 KX mX7_at (p_X7_at_0 σ a i) 49 [(3, .int z11), (0, .ref 0), (1, .int a), (2, .int i)] [.int z16, .ref 8] σ
      refine kw_callV (pc := 49) (i := 27) (Y := mX4_answer) (a := 8) (As := [.int z16]) (st := []) kw_hE rfl rfl lvX7_92 arX4_answer (c_X4_answer_8 l σ hI z16 ) (by decide) (Nat.le_of_ble_eq_true rfl) rfl (fun v S19 p18 => ?_)
      obtain ⟨⟨I22, F23⟩, z21, rfl, f20⟩ := p18
      have F24 : kw_F [8, 28] σ S19 := kw_F.tr hF0 F23 (by decide)
      have r_z21 := kw_rng z21
      show kw_AW l 5 kw_E0 KX mX7_at (p_X7_at_0 σ a i) 52 [(3, .int z11), (0, .ref 0), (1, .int a), (2, .int i)] [.int z21] S19
      exact kw_ireturn (pc := 52) (i := 28) (ty := .int) rfl rfl rfl ⟨⟨I22, F24⟩, _, rfl⟩
    · refine kw_aload_n (pc := 27) (i := 15) (k := 1) (n := 0) rfl rfl rfl ?_
      refine kw_get (pc := 28) (i := 16) (v := .ref 8) rfl rfl rfl lkX7_55 (fun _ => rfl) ?_
      refine kw_iload_n (pc := 31) (i := 17) (k := 0) (n := 3) rfl rfl rfl ?_
      refine kw_callV (pc := 32) (i := 18) (Y := mX4_refuse) (a := 8) (As := [.int z11]) (st := []) kw_hE rfl rfl lvX7_81 arX4_refuse (c_X4_refuse_8 l σ hI z11 ) (by decide) (Nat.le_of_ble_eq_true rfl) rfl (fun v S26 p25 => ?_)
      obtain ⟨⟨I29, F30⟩, z28, rfl, f27⟩ := p25
      have F31 : kw_F [8, 28] σ S26 := kw_F.tr hF0 F30 (by decide)
      have r_z28 := kw_rng z28
      show kw_AW l 5 kw_E0 KX mX7_at (p_X7_at_0 σ a i) 35 [(3, .int z11), (0, .ref 0), (1, .int a), (2, .int i)] [.int z28] S26
      exact kw_ireturn (pc := 35) (i := 19) (ty := .int) rfl rfl rfl ⟨⟨I29, F31⟩, _, rfl⟩
  · refine kw_iconst (pc := 11) (i := 5) (v := (-1)) rfl rfl ?_
    exact kw_ireturn (pc := 12) (i := 6) (ty := .int) rfl rfl rfl ⟨⟨hI, hF0⟩, _, rfl⟩
abbrev p_X7_tear_0 (σ : kw_S) (a : Int32) : Option Value → kw_S → Prop := fun v σ' => (kw_I bX σ' ∧ kw_F [8, 28, 13, 29, 30, 31, 32, 33, 34] σ σ') ∧ ∃ r : Int32, v = some (.int r)
set_option maxRecDepth 100000 in
set_option maxHeartbeats 4000000 in
theorem c_X7_tear_0 (l : Launch) (σ : kw_S) (hI : kw_I bX σ) (a : Int32) : kw_Met l 4 KX mX7_tear [.ref 0, .int a] σ (p_X7_tear_0 σ a) := by
  have r_a := kw_rng a
  have hF0 : kw_F [8, 28, 13, 29, 30, 31, 32, 33, 34] σ σ := kw_F.rf
  have q_m1 : (-1 : Int32).toInt = -1 := rfl
  have q_1 : (1 : Int32).toInt = 1 := rfl
  refine kw_Met.of (by decide) rfl tX7_tear (Nat.le_of_ble_eq_true rfl) ?_
  show kw_AW l 4 kw_E0 KX mX7_tear (p_X7_tear_0 σ a) 0 [(0, .ref 0), (1, .int a)] [] σ
  refine kw_aload_n (pc := 0) (i := 0) (k := 0) (n := 0) rfl rfl rfl ?_
  refine kw_get (pc := 1) (i := 1) (v := .ref 1) rfl rfl rfl lkX7_14 (fun _ => rfl) ?_
  refine kw_iload_n (pc := 4) (i := 2) (k := 1) (n := 1) rfl rfl rfl ?_
  refine kw_callV (pc := 5) (i := 3) (Y := mX3_has) (a := 1) (As := [.int a]) (st := []) kw_hE rfl rfl lvX7_73 arX3_has (c_X3_has_1 l σ hI a ) (by decide) (Nat.le_of_ble_eq_true rfl) rfl (fun v S2 p1 => ?_)
  obtain ⟨e7, z6, rfl, f3, f4, f5⟩ := p1
  rw [e7]
  have r_z6 := kw_rng z6
  show kw_AW l 4 kw_E0 KX mX7_tear (p_X7_tear_0 σ a) 8 [(0, .ref 0), (1, .int a)] [.int z6] σ
  refine kw_if_ne (pc := 8) (i := 4) (tgt := 13) rfl rfl (fun c8 => ?_) (fun c8 => ?_)
  · refine kw_aload_n (pc := 13) (i := 7) (k := 0) (n := 0) rfl rfl rfl ?_
    refine kw_get (pc := 14) (i := 8) (v := .ref 1) rfl rfl rfl lkX7_14 (fun _ => rfl) ?_
    refine kw_iload_n (pc := 17) (i := 9) (k := 1) (n := 1) rfl rfl rfl ?_
    refine kw_callV (pc := 18) (i := 10) (Y := mX3_isMissing) (a := 1) (As := [.int a]) (st := []) kw_hE rfl rfl lvX7_95 arX3_isMissing (c_X3_isMissing_1 l σ hI a ) (by decide) (Nat.le_of_ble_eq_true rfl) rfl (fun v S10 p9 => ?_)
    obtain ⟨e14, z13, rfl, f11, f12⟩ := p9
    rw [e14]
    have r_z13 := kw_rng z13
    show kw_AW l 4 kw_E0 KX mX7_tear (p_X7_tear_0 σ a) 21 [(0, .ref 0), (1, .int a)] [.int z13] σ
    refine kw_if_eq (pc := 21) (i := 11) (tgt := 33) rfl rfl (fun c15 => ?_) (fun c15 => ?_)
    · refine kw_aload_n (pc := 33) (i := 17) (k := 0) (n := 0) rfl rfl rfl ?_
      refine kw_get (pc := 34) (i := 18) (v := .ref 1) rfl rfl rfl lkX7_14 (fun _ => rfl) ?_
      refine kw_iload_n (pc := 37) (i := 19) (k := 1) (n := 1) rfl rfl rfl ?_
      refine kw_callV (pc := 38) (i := 20) (Y := mX3_drop) (a := 1) (As := [.int a]) (st := []) kw_hE rfl rfl lvX7_98 arX3_drop (c_X3_drop_1 l σ hI a ) (by decide) (Nat.le_of_ble_eq_true rfl) rfl (fun v S17 p16 => ?_)
      obtain ⟨⟨I18, F19⟩, rfl⟩ := p16
      have F20 : kw_F [8, 28, 13, 29, 30, 31, 32, 33, 34] σ S17 := kw_F.tr hF0 F19 (by decide)
      show kw_AW l 4 kw_E0 KX mX7_tear (p_X7_tear_0 σ a) 41 [(0, .ref 0), (1, .int a)] [] S17
      refine kw_iconst (pc := 41) (i := 21) (v := 1) rfl rfl ?_
      exact kw_ireturn (pc := 42) (i := 22) (ty := .int) rfl rfl rfl ⟨⟨I18, F20⟩, _, rfl⟩
    · refine kw_aload_n (pc := 24) (i := 12) (k := 0) (n := 0) rfl rfl rfl ?_
      refine kw_get (pc := 25) (i := 13) (v := .ref 8) rfl rfl rfl lkX7_55 (fun _ => rfl) ?_
      refine kw_iconst (pc := 28) (i := 14) (v := 1) rfl rfl ?_
      refine kw_callV (pc := 29) (i := 15) (Y := mX4_refuse) (a := 8) (As := [.int 1]) (st := []) kw_hE rfl rfl lvX7_81 arX4_refuse (c_X4_refuse_8 l σ hI 1 ) (by decide) (Nat.le_of_ble_eq_true rfl) rfl (fun v S22 p21 => ?_)
      obtain ⟨⟨I25, F26⟩, z24, rfl, f23⟩ := p21
      have F27 : kw_F [8, 28, 13, 29, 30, 31, 32, 33, 34] σ S22 := kw_F.tr hF0 F26 (by decide)
      have r_z24 := kw_rng z24
      show kw_AW l 4 kw_E0 KX mX7_tear (p_X7_tear_0 σ a) 32 [(0, .ref 0), (1, .int a)] [.int z24] S22
      exact kw_ireturn (pc := 32) (i := 16) (ty := .int) rfl rfl rfl ⟨⟨I25, F27⟩, _, rfl⟩
  · refine kw_iconst (pc := 11) (i := 5) (v := (-1)) rfl rfl ?_
    exact kw_ireturn (pc := 12) (i := 6) (ty := .int) rfl rfl rfl ⟨⟨hI, hF0⟩, _, rfl⟩
abbrev p_X7_copy_0 (σ : kw_S) (a : Int32) (i : Int32) (t : Int32) (j : Int32) (n : Int32) : Option Value → kw_S → Prop := fun v σ' => (kw_I bX σ' ∧ kw_F [8, 28, 13, 29, 30, 31, 32, 33, 34] σ σ') ∧ ∃ r : Int32, v = some (.int r)
set_option maxRecDepth 100000 in
set_option maxHeartbeats 4000000 in
theorem c_X7_copy_0 (l : Launch) (σ : kw_S) (hI : kw_I bX σ) (a : Int32) (i : Int32) (t : Int32) (j : Int32) (n : Int32) : kw_Met l 4 KX mX7_copy [.ref 0, .int a, .int i, .int t, .int j, .int n] σ (p_X7_copy_0 σ a i t j n) := by
  have r_a := kw_rng a
  have r_i := kw_rng i
  have r_t := kw_rng t
  have r_j := kw_rng j
  have r_n := kw_rng n
  have hF0 : kw_F [8, 28, 13, 29, 30, 31, 32, 33, 34] σ σ := kw_F.rf
  have q_m1 : (-1 : Int32).toInt = -1 := rfl
  have q_1 : (1 : Int32).toInt = 1 := rfl
  have q_2 : (2 : Int32).toInt = 2 := rfl
  have q_5 : (5 : Int32).toInt = 5 := rfl
  refine kw_Met.of (by decide) rfl tX7_copy (Nat.le_of_ble_eq_true rfl) ?_
  show kw_AW l 4 kw_E0 KX mX7_copy (p_X7_copy_0 σ a i t j n) 0 [(0, .ref 0), (1, .int a), (2, .int i), (3, .int t), (4, .int j), (5, .int n)] [] σ
  refine kw_aload_n (pc := 0) (i := 0) (k := 0) (n := 0) rfl rfl rfl ?_
  refine kw_get (pc := 1) (i := 1) (v := .ref 1) rfl rfl rfl lkX7_14 (fun _ => rfl) ?_
  refine kw_iload_n (pc := 4) (i := 2) (k := 1) (n := 1) rfl rfl rfl ?_
  refine kw_callV (pc := 5) (i := 3) (Y := mX3_has) (a := 1) (As := [.int a]) (st := []) kw_hE rfl rfl lvX7_73 arX3_has (c_X3_has_1 l σ hI a ) (by decide) (Nat.le_of_ble_eq_true rfl) rfl (fun v S2 p1 => ?_)
  obtain ⟨e7, z6, rfl, f3, f4, f5⟩ := p1
  rw [e7]
  have r_z6 := kw_rng z6
  show kw_AW l 4 kw_E0 KX mX7_copy (p_X7_copy_0 σ a i t j n) 8 [(0, .ref 0), (1, .int a), (2, .int i), (3, .int t), (4, .int j), (5, .int n)] [.int z6] σ
  refine kw_if_eq (pc := 8) (i := 4) (tgt := 22) rfl rfl (fun c8 => ?_) (fun c8 => ?_)
  · refine kw_iconst (pc := 22) (i := 10) (v := (-1)) rfl rfl ?_
    exact kw_ireturn (pc := 23) (i := 11) (ty := .int) rfl rfl rfl ⟨⟨hI, hF0⟩, _, rfl⟩
  · refine kw_aload_n (pc := 11) (i := 5) (k := 0) (n := 0) rfl rfl rfl ?_
    refine kw_get (pc := 12) (i := 6) (v := .ref 1) rfl rfl rfl lkX7_14 (fun _ => rfl) ?_
    refine kw_iload_n (pc := 15) (i := 7) (k := 3) (n := 3) rfl rfl rfl ?_
    refine kw_callV (pc := 16) (i := 8) (Y := mX3_has) (a := 1) (As := [.int t]) (st := []) kw_hE rfl rfl lvX7_73 arX3_has (c_X3_has_1 l σ hI t ) (by decide) (Nat.le_of_ble_eq_true rfl) rfl (fun v S10 p9 => ?_)
    obtain ⟨e15, z14, rfl, f11, f12, f13⟩ := p9
    rw [e15]
    have r_z14 := kw_rng z14
    show kw_AW l 4 kw_E0 KX mX7_copy (p_X7_copy_0 σ a i t j n) 19 [(0, .ref 0), (1, .int a), (2, .int i), (3, .int t), (4, .int j), (5, .int n)] [.int z14] σ
    refine kw_if_ne (pc := 19) (i := 9) (tgt := 24) rfl rfl (fun c16 => ?_) (fun c16 => ?_)
    · refine kw_iload (pc := 24) (i := 12) (k := 5) (n := 5) rfl rfl ?_
      refine kw_if_ge (pc := 26) (i := 13) (tgt := 38) rfl rfl (fun c17 => ?_) (fun c17 => ?_)
      · refine kw_aload_n (pc := 38) (i := 19) (k := 0) (n := 0) rfl rfl rfl ?_
        refine kw_get (pc := 39) (i := 20) (v := .ref 1) rfl rfl rfl lkX7_14 (fun _ => rfl) ?_
        refine kw_iload_n (pc := 42) (i := 21) (k := 1) (n := 1) rfl rfl rfl ?_
        refine kw_callV (pc := 43) (i := 22) (Y := mX3_isMissing) (a := 1) (As := [.int a]) (st := []) kw_hE rfl rfl lvX7_95 arX3_isMissing (c_X3_isMissing_1 l σ hI a ) (by decide) (Nat.le_of_ble_eq_true rfl) rfl (fun v S19 p18 => ?_)
        obtain ⟨e23, z22, rfl, f20, f21⟩ := p18
        rw [e23]
        have r_z22 := kw_rng z22
        show kw_AW l 4 kw_E0 KX mX7_copy (p_X7_copy_0 σ a i t j n) 46 [(0, .ref 0), (1, .int a), (2, .int i), (3, .int t), (4, .int j), (5, .int n)] [.int z22] σ
        refine kw_if_ne (pc := 46) (i := 23) (tgt := 60) rfl rfl (fun c24 => ?_) (fun c24 => ?_)
        · refine kw_aload_n (pc := 60) (i := 29) (k := 0) (n := 0) rfl rfl rfl ?_
          refine kw_get (pc := 61) (i := 30) (v := .ref 8) rfl rfl rfl lkX7_55 (fun _ => rfl) ?_
          refine kw_iconst (pc := 64) (i := 31) (v := 1) rfl rfl ?_
          refine kw_callV (pc := 65) (i := 32) (Y := mX4_refuse) (a := 8) (As := [.int 1]) (st := []) kw_hE rfl rfl lvX7_81 arX4_refuse (c_X4_refuse_8 l σ hI 1 ) (by decide) (Nat.le_of_ble_eq_true rfl) rfl (fun v S26 p25 => ?_)
          obtain ⟨⟨I29, F30⟩, z28, rfl, f27⟩ := p25
          have F31 : kw_F [8, 28, 13, 29, 30, 31, 32, 33, 34] σ S26 := kw_F.tr hF0 F30 (by decide)
          have r_z28 := kw_rng z28
          show kw_AW l 4 kw_E0 KX mX7_copy (p_X7_copy_0 σ a i t j n) 68 [(0, .ref 0), (1, .int a), (2, .int i), (3, .int t), (4, .int j), (5, .int n)] [.int z28] S26
          exact kw_ireturn (pc := 68) (i := 33) (ty := .int) rfl rfl rfl ⟨⟨I29, F31⟩, _, rfl⟩
        · refine kw_aload_n (pc := 49) (i := 24) (k := 0) (n := 0) rfl rfl rfl ?_
          refine kw_get (pc := 50) (i := 25) (v := .ref 1) rfl rfl rfl lkX7_14 (fun _ => rfl) ?_
          refine kw_iload_n (pc := 53) (i := 26) (k := 3) (n := 3) rfl rfl rfl ?_
          refine kw_callV (pc := 54) (i := 27) (Y := mX3_isMissing) (a := 1) (As := [.int t]) (st := []) kw_hE rfl rfl lvX7_95 arX3_isMissing (c_X3_isMissing_1 l σ hI t ) (by decide) (Nat.le_of_ble_eq_true rfl) rfl (fun v S33 p32 => ?_)
          obtain ⟨e37, z36, rfl, f34, f35⟩ := p32
          rw [e37]
          have r_z36 := kw_rng z36
          show kw_AW l 4 kw_E0 KX mX7_copy (p_X7_copy_0 σ a i t j n) 57 [(0, .ref 0), (1, .int a), (2, .int i), (3, .int t), (4, .int j), (5, .int n)] [.int z36] σ
          refine kw_if_eq (pc := 57) (i := 28) (tgt := 69) rfl rfl (fun c38 => ?_) (fun c38 => ?_)
          · refine kw_aload_n (pc := 69) (i := 34) (k := 0) (n := 0) rfl rfl rfl ?_
            refine kw_get (pc := 70) (i := 35) (v := .ref 1) rfl rfl rfl lkX7_14 (fun _ => rfl) ?_
            refine kw_iload_n (pc := 73) (i := 36) (k := 1) (n := 1) rfl rfl rfl ?_
            refine kw_iload_n (pc := 74) (i := 37) (k := 2) (n := 2) rfl rfl rfl ?_
            refine kw_iload (pc := 75) (i := 38) (k := 5) (n := 5) rfl rfl ?_
            refine kw_callV (pc := 77) (i := 39) (Y := mX3_hasPlaces) (a := 1) (As := [.int a, .int i, .int n]) (st := []) kw_hE rfl rfl lvX7_102 arX3_hasPlaces (c_X3_hasPlaces_1 l σ hI a i n ) (by decide) (Nat.le_of_ble_eq_true rfl) rfl (fun v S40 p39 => ?_)
            obtain ⟨e44, z43, rfl, f41, f42⟩ := p39
            rw [e44]
            have r_z43 := kw_rng z43
            show kw_AW l 4 kw_E0 KX mX7_copy (p_X7_copy_0 σ a i t j n) 80 [(0, .ref 0), (1, .int a), (2, .int i), (3, .int t), (4, .int j), (5, .int n)] [.int z43] σ
            refine kw_if_eq (pc := 80) (i := 40) (tgt := 98) rfl rfl (fun c45 => ?_) (fun c45 => ?_)
            · refine kw_aload_n (pc := 98) (i := 48) (k := 0) (n := 0) rfl rfl rfl ?_
              refine kw_get (pc := 99) (i := 49) (v := .ref 8) rfl rfl rfl lkX7_55 (fun _ => rfl) ?_
              refine kw_iconst (pc := 102) (i := 50) (v := 2) rfl rfl ?_
              refine kw_callV (pc := 103) (i := 51) (Y := mX4_refuse) (a := 8) (As := [.int 2]) (st := []) kw_hE rfl rfl lvX7_81 arX4_refuse (c_X4_refuse_8 l σ hI 2 ) (by decide) (Nat.le_of_ble_eq_true rfl) rfl (fun v S47 p46 => ?_)
              obtain ⟨⟨I50, F51⟩, z49, rfl, f48⟩ := p46
              have F52 : kw_F [8, 28, 13, 29, 30, 31, 32, 33, 34] σ S47 := kw_F.tr hF0 F51 (by decide)
              have r_z49 := kw_rng z49
              show kw_AW l 4 kw_E0 KX mX7_copy (p_X7_copy_0 σ a i t j n) 106 [(0, .ref 0), (1, .int a), (2, .int i), (3, .int t), (4, .int j), (5, .int n)] [.int z49] S47
              exact kw_ireturn (pc := 106) (i := 52) (ty := .int) rfl rfl rfl ⟨⟨I50, F52⟩, _, rfl⟩
            · refine kw_aload_n (pc := 83) (i := 41) (k := 0) (n := 0) rfl rfl rfl ?_
              refine kw_get (pc := 84) (i := 42) (v := .ref 1) rfl rfl rfl lkX7_14 (fun _ => rfl) ?_
              refine kw_iload_n (pc := 87) (i := 43) (k := 3) (n := 3) rfl rfl rfl ?_
              refine kw_iload (pc := 88) (i := 44) (k := 4) (n := 4) rfl rfl ?_
              refine kw_iload (pc := 90) (i := 45) (k := 5) (n := 5) rfl rfl ?_
              refine kw_callV (pc := 92) (i := 46) (Y := mX3_hasPlaces) (a := 1) (As := [.int t, .int j, .int n]) (st := []) kw_hE rfl rfl lvX7_102 arX3_hasPlaces (c_X3_hasPlaces_1 l σ hI t j n ) (by decide) (Nat.le_of_ble_eq_true rfl) rfl (fun v S54 p53 => ?_)
              obtain ⟨e58, z57, rfl, f55, f56⟩ := p53
              rw [e58]
              have r_z57 := kw_rng z57
              show kw_AW l 4 kw_E0 KX mX7_copy (p_X7_copy_0 σ a i t j n) 95 [(0, .ref 0), (1, .int a), (2, .int i), (3, .int t), (4, .int j), (5, .int n)] [.int z57] σ
              refine kw_if_ne (pc := 95) (i := 47) (tgt := 107) rfl rfl (fun c59 => ?_) (fun c59 => ?_)
              · refine kw_aload_n (pc := 107) (i := 53) (k := 0) (n := 0) rfl rfl rfl ?_
                refine kw_get (pc := 108) (i := 54) (v := .ref 1) rfl rfl rfl lkX7_14 (fun _ => rfl) ?_
                refine kw_iload_n (pc := 111) (i := 55) (k := 1) (n := 1) rfl rfl rfl ?_
                refine kw_iload_n (pc := 112) (i := 56) (k := 2) (n := 2) rfl rfl rfl ?_
                refine kw_iload_n (pc := 113) (i := 57) (k := 3) (n := 3) rfl rfl rfl ?_
                refine kw_iload (pc := 114) (i := 58) (k := 4) (n := 4) rfl rfl ?_
                refine kw_iload (pc := 116) (i := 59) (k := 5) (n := 5) rfl rfl ?_
                refine kw_callV (pc := 118) (i := 60) (Y := mX3_move) (a := 1) (As := [.int a, .int i, .int t, .int j, .int n]) (st := []) kw_hE rfl rfl lvX7_106 arX3_move (c_X3_move_1 l σ hI a i t j n ) (by decide) (Nat.le_of_ble_eq_true rfl) rfl (fun v S61 p60 => ?_)
                obtain ⟨⟨I62, F63⟩, rfl⟩ := p60
                have F64 : kw_F [8, 28, 13, 29, 30, 31, 32, 33, 34] σ S61 := kw_F.tr hF0 F63 (by decide)
                show kw_AW l 4 kw_E0 KX mX7_copy (p_X7_copy_0 σ a i t j n) 121 [(0, .ref 0), (1, .int a), (2, .int i), (3, .int t), (4, .int j), (5, .int n)] [] S61
                refine kw_iconst (pc := 121) (i := 61) (v := 1) rfl rfl ?_
                exact kw_ireturn (pc := 122) (i := 62) (ty := .int) rfl rfl rfl ⟨⟨I62, F64⟩, _, rfl⟩
              · refine kw_aload_n (pc := 98) (i := 48) (k := 0) (n := 0) rfl rfl rfl ?_
                refine kw_get (pc := 99) (i := 49) (v := .ref 8) rfl rfl rfl lkX7_55 (fun _ => rfl) ?_
                refine kw_iconst (pc := 102) (i := 50) (v := 2) rfl rfl ?_
                refine kw_callV (pc := 103) (i := 51) (Y := mX4_refuse) (a := 8) (As := [.int 2]) (st := []) kw_hE rfl rfl lvX7_81 arX4_refuse (c_X4_refuse_8 l σ hI 2 ) (by decide) (Nat.le_of_ble_eq_true rfl) rfl (fun v S66 p65 => ?_)
                obtain ⟨⟨I69, F70⟩, z68, rfl, f67⟩ := p65
                have F71 : kw_F [8, 28, 13, 29, 30, 31, 32, 33, 34] σ S66 := kw_F.tr hF0 F70 (by decide)
                have r_z68 := kw_rng z68
                show kw_AW l 4 kw_E0 KX mX7_copy (p_X7_copy_0 σ a i t j n) 106 [(0, .ref 0), (1, .int a), (2, .int i), (3, .int t), (4, .int j), (5, .int n)] [.int z68] S66
                exact kw_ireturn (pc := 106) (i := 52) (ty := .int) rfl rfl rfl ⟨⟨I69, F71⟩, _, rfl⟩
          · refine kw_aload_n (pc := 60) (i := 29) (k := 0) (n := 0) rfl rfl rfl ?_
            refine kw_get (pc := 61) (i := 30) (v := .ref 8) rfl rfl rfl lkX7_55 (fun _ => rfl) ?_
            refine kw_iconst (pc := 64) (i := 31) (v := 1) rfl rfl ?_
            refine kw_callV (pc := 65) (i := 32) (Y := mX4_refuse) (a := 8) (As := [.int 1]) (st := []) kw_hE rfl rfl lvX7_81 arX4_refuse (c_X4_refuse_8 l σ hI 1 ) (by decide) (Nat.le_of_ble_eq_true rfl) rfl (fun v S73 p72 => ?_)
            obtain ⟨⟨I76, F77⟩, z75, rfl, f74⟩ := p72
            have F78 : kw_F [8, 28, 13, 29, 30, 31, 32, 33, 34] σ S73 := kw_F.tr hF0 F77 (by decide)
            have r_z75 := kw_rng z75
            show kw_AW l 4 kw_E0 KX mX7_copy (p_X7_copy_0 σ a i t j n) 68 [(0, .ref 0), (1, .int a), (2, .int i), (3, .int t), (4, .int j), (5, .int n)] [.int z75] S73
            exact kw_ireturn (pc := 68) (i := 33) (ty := .int) rfl rfl rfl ⟨⟨I76, F78⟩, _, rfl⟩
      · refine kw_aload_n (pc := 29) (i := 14) (k := 0) (n := 0) rfl rfl rfl ?_
        refine kw_get (pc := 30) (i := 15) (v := .ref 8) rfl rfl rfl lkX7_55 (fun _ => rfl) ?_
        refine kw_iconst (pc := 33) (i := 16) (v := 5) rfl rfl ?_
        refine kw_callV (pc := 34) (i := 17) (Y := mX4_refuse) (a := 8) (As := [.int 5]) (st := []) kw_hE rfl rfl lvX7_81 arX4_refuse (c_X4_refuse_8 l σ hI 5 ) (by decide) (Nat.le_of_ble_eq_true rfl) rfl (fun v S80 p79 => ?_)
        obtain ⟨⟨I83, F84⟩, z82, rfl, f81⟩ := p79
        have F85 : kw_F [8, 28, 13, 29, 30, 31, 32, 33, 34] σ S80 := kw_F.tr hF0 F84 (by decide)
        have r_z82 := kw_rng z82
        show kw_AW l 4 kw_E0 KX mX7_copy (p_X7_copy_0 σ a i t j n) 37 [(0, .ref 0), (1, .int a), (2, .int i), (3, .int t), (4, .int j), (5, .int n)] [.int z82] S80
        exact kw_ireturn (pc := 37) (i := 18) (ty := .int) rfl rfl rfl ⟨⟨I83, F85⟩, _, rfl⟩
    · refine kw_iconst (pc := 22) (i := 10) (v := (-1)) rfl rfl ?_
      exact kw_ireturn (pc := 23) (i := 11) (ty := .int) rfl rfl rfl ⟨⟨hI, hF0⟩, _, rfl⟩
abbrev p_X7_mean_0 (σ : kw_S) (a : Int32) : Option Value → kw_S → Prop := fun v σ' => (kw_I bX σ' ∧ kw_F [8, 28] σ σ') ∧ ∃ r : Int32, v = some (.int r)
set_option maxRecDepth 100000 in
set_option maxHeartbeats 4000000 in
theorem c_X7_mean_0 (l : Launch) (σ : kw_S) (hI : kw_I bX σ) (a : Int32) : kw_Met l 4 KX mX7_mean [.ref 0, .int a] σ (p_X7_mean_0 σ a) := by
  have r_a := kw_rng a
  have hF0 : kw_F [8, 28] σ σ := kw_F.rf
  have q_m1 : (-1 : Int32).toInt = -1 := rfl
  have q_0 : (0 : Int32).toInt = 0 := rfl
  have q_1 : (1 : Int32).toInt = 1 := rfl
  have q_4 : (4 : Int32).toInt = 4 := rfl
  refine kw_Met.of (by decide) rfl tX7_mean (Nat.le_of_ble_eq_true rfl) ?_
  show kw_AW l 4 kw_E0 KX mX7_mean (p_X7_mean_0 σ a) 0 [(0, .ref 0), (1, .int a)] [] σ
  refine kw_aload_n (pc := 0) (i := 0) (k := 0) (n := 0) rfl rfl rfl ?_
  refine kw_get (pc := 1) (i := 1) (v := .ref 1) rfl rfl rfl lkX7_14 (fun _ => rfl) ?_
  refine kw_iload_n (pc := 4) (i := 2) (k := 1) (n := 1) rfl rfl rfl ?_
  refine kw_callV (pc := 5) (i := 3) (Y := mX3_has) (a := 1) (As := [.int a]) (st := []) kw_hE rfl rfl lvX7_73 arX3_has (c_X3_has_1 l σ hI a ) (by decide) (Nat.le_of_ble_eq_true rfl) rfl (fun v S2 p1 => ?_)
  obtain ⟨e7, z6, rfl, f3, f4, f5⟩ := p1
  rw [e7]
  have r_z6 := kw_rng z6
  show kw_AW l 4 kw_E0 KX mX7_mean (p_X7_mean_0 σ a) 8 [(0, .ref 0), (1, .int a)] [.int z6] σ
  refine kw_if_ne (pc := 8) (i := 4) (tgt := 13) rfl rfl (fun c8 => ?_) (fun c8 => ?_)
  · refine kw_aload_n (pc := 13) (i := 7) (k := 0) (n := 0) rfl rfl rfl ?_
    refine kw_get (pc := 14) (i := 8) (v := .ref 1) rfl rfl rfl lkX7_14 (fun _ => rfl) ?_
    refine kw_iload_n (pc := 17) (i := 9) (k := 1) (n := 1) rfl rfl rfl ?_
    refine kw_callV (pc := 18) (i := 10) (Y := mX3_isMissing) (a := 1) (As := [.int a]) (st := []) kw_hE rfl rfl lvX7_95 arX3_isMissing (c_X3_isMissing_1 l σ hI a ) (by decide) (Nat.le_of_ble_eq_true rfl) rfl (fun v S10 p9 => ?_)
    obtain ⟨e14, z13, rfl, f11, f12⟩ := p9
    rw [e14]
    have r_z13 := kw_rng z13
    show kw_AW l 4 kw_E0 KX mX7_mean (p_X7_mean_0 σ a) 21 [(0, .ref 0), (1, .int a)] [.int z13] σ
    refine kw_if_eq (pc := 21) (i := 11) (tgt := 33) rfl rfl (fun c15 => ?_) (fun c15 => ?_)
    · refine kw_aload_n (pc := 33) (i := 17) (k := 0) (n := 0) rfl rfl rfl ?_
      refine kw_get (pc := 34) (i := 18) (v := .ref 1) rfl rfl rfl lkX7_14 (fun _ => rfl) ?_
      refine kw_iload_n (pc := 37) (i := 19) (k := 1) (n := 1) rfl rfl rfl ?_
      refine kw_callV (pc := 38) (i := 20) (Y := mX3_sizeOf) (a := 1) (As := [.int a]) (st := []) kw_hE rfl rfl lvX7_110 arX3_sizeOf (c_X3_sizeOf_1 l σ hI a ) (by decide) (Nat.le_of_ble_eq_true rfl) rfl (fun v S17 p16 => ?_)
      obtain ⟨e23, z22, rfl, f18, f19, f20, f21⟩ := p16
      rw [e23]
      have r_z22 := kw_rng z22
      show kw_AW l 4 kw_E0 KX mX7_mean (p_X7_mean_0 σ a) 41 [(0, .ref 0), (1, .int a)] [.int z22] σ
      refine kw_istore_n (pc := 41) (i := 21) (n := 2) (lv' := [(2, .int z22), (0, .ref 0), (1, .int a)]) rfl rfl (by decide) rfl ?_
      refine kw_iload_n (pc := 42) (i := 22) (k := 0) (n := 2) rfl rfl rfl ?_
      refine kw_iconst (pc := 43) (i := 23) (v := 1) rfl rfl ?_
      refine kw_icmp_ge (pc := 44) (i := 24) (tgt := 56) rfl rfl (fun c24 => ?_) (fun c24 => ?_)
      · refine kw_lconst (pc := 56) (i := 30) (v := 0) rfl rfl ?_
        refine kw_lstore_n (pc := 57) (i := 31) (n := 3) (lv' := [(3, .long 0), (2, .int z22), (0, .ref 0), (1, .int a)]) rfl rfl (by decide) rfl ?_
        refine kw_iconst (pc := 58) (i := 32) (v := 0) rfl rfl ?_
        refine kw_istore (pc := 59) (i := 33) (n := 5) (lv' := [(5, .int 0), (3, .long 0), (2, .int z22), (0, .ref 0), (1, .int a)]) rfl (by decide) rfl ?_
        have L27 : ∀ (n31 : Nat) (x25 : Int32) (x26 : Int64), 0 ≤ x25.toInt → (41 - x25.toInt).toNat < n31 → kw_AW l 4 kw_E0 KX mX7_mean (p_X7_mean_0 σ a) 61 [(5, .int x25), (3, .long x26), (2, .int z22), (0, .ref 0), (1, .int a)] [] σ := by
          intro n31
          induction n31 with
          | zero => intro x25 x26 v29 m30; exact absurd m30 (Nat.not_lt_zero _)
          | succ n31 ih28 =>
            intro x25 x26 v29 m30
            have r_x25 := kw_rng x25
            refine kw_iload (pc := 61) (i := 34) (k := 0) (n := 5) rfl rfl ?_
            refine kw_iload_n (pc := 63) (i := 35) (k := 2) (n := 2) rfl rfl rfl ?_
            refine kw_icmp_ge (pc := 64) (i := 36) (tgt := 87) rfl rfl (fun c32 => ?_) (fun c32 => ?_)
            · refine kw_aload_n (pc := 87) (i := 48) (k := 3) (n := 0) rfl rfl rfl ?_
              refine kw_get (pc := 88) (i := 49) (v := .ref 8) rfl rfl rfl lkX7_55 (fun _ => rfl) ?_
              refine kw_lload_n (pc := 91) (i := 50) (k := 1) (n := 3) rfl rfl rfl ?_
              refine kw_iload_n (pc := 92) (i := 51) (k := 2) (n := 2) rfl rfl rfl ?_
              refine kw_i2l (pc := 93) (i := 52) rfl (fun z33 e_z33 t_z33 => ?_)
              refine kw_ldiv (pc := 94) (i := 53) rfl (by omega) (fun z34 e_z34 => ?_)
              refine kw_l2i (pc := 95) (i := 54) rfl (fun z35 e_z35 => ?_)
              have r_z35 := kw_rng z35
              refine kw_callV (pc := 96) (i := 55) (Y := mX4_answer) (a := 8) (As := [.int z35]) (st := []) kw_hE rfl rfl lvX7_92 arX4_answer (c_X4_answer_8 l σ hI z35 ) (by decide) (Nat.le_of_ble_eq_true rfl) rfl (fun v S37 p36 => ?_)
              obtain ⟨⟨I40, F41⟩, z39, rfl, f38⟩ := p36
              have F42 : kw_F [8, 28] σ S37 := kw_F.tr hF0 F41 (by decide)
              have r_z39 := kw_rng z39
              show kw_AW l 4 kw_E0 KX mX7_mean (p_X7_mean_0 σ a) 99 [(5, .int x25), (3, .long x26), (2, .int z22), (0, .ref 0), (1, .int a)] [.int z39] S37
              exact kw_ireturn (pc := 99) (i := 56) (ty := .int) rfl rfl rfl ⟨⟨I40, F42⟩, _, rfl⟩
            · refine kw_lload_n (pc := 67) (i := 37) (k := 1) (n := 3) rfl rfl rfl ?_
              refine kw_aload_n (pc := 68) (i := 38) (k := 3) (n := 0) rfl rfl rfl ?_
              refine kw_get (pc := 69) (i := 39) (v := .ref 1) rfl rfl rfl lkX7_14 (fun _ => rfl) ?_
              refine kw_iload_n (pc := 72) (i := 40) (k := 4) (n := 1) rfl rfl rfl ?_
              refine kw_iload (pc := 73) (i := 41) (k := 0) (n := 5) rfl rfl ?_
              refine kw_callV (pc := 75) (i := 42) (Y := mX3_valueAt) (a := 1) (As := [.int a, .int x25]) (st := [.long x26]) kw_hE rfl rfl lvX7_85 arX3_valueAt (c_X3_valueAt_1 l σ hI a x25 ) (by decide) (Nat.le_of_ble_eq_true rfl) rfl (fun v S44 p43 => ?_)
              obtain ⟨e46, z45, rfl⟩ := p43
              rw [e46]
              have r_z45 := kw_rng z45
              show kw_AW l 4 kw_E0 KX mX7_mean (p_X7_mean_0 σ a) 78 [(5, .int x25), (3, .long x26), (2, .int z22), (0, .ref 0), (1, .int a)] [.int z45, .long x26] σ
              refine kw_i2l (pc := 78) (i := 43) rfl (fun z47 e_z47 t_z47 => ?_)
              refine kw_ladd (pc := 79) (i := 44) rfl (fun z48 e_z48 => ?_)
              refine kw_lstore_n (pc := 80) (i := 45) (n := 3) (lv' := [(3, .long z48), (5, .int x25), (2, .int z22), (0, .ref 0), (1, .int a)]) rfl rfl (by decide) rfl ?_
              refine kw_iinc' (pc := 81) (i := 46) (k := 1) (fun z => [(5, .int z), (3, .long z48), (2, .int z22), (0, .ref 0), (1, .int a)]) rfl rfl (by decide) rfl (fun _ => rfl) (fun z49 e_z49 t_z49 => ?_)
              refine kw_goto (pc := 84) (i := 47) (tgt := 61) rfl rfl ?_
              refine kw_sub (lv' := [(5, .int z49), (3, .long z48), (2, .int z22), (0, .ref 0), (1, .int a)]) [0, 1, 2, 3, 4] rfl ?_
              exact ih28 z49 z48 (by omega) (by omega)
        exact L27 _ 0 0 (by omega) (Nat.lt_succ_self _)
      · refine kw_aload_n (pc := 47) (i := 25) (k := 1) (n := 0) rfl rfl rfl ?_
        refine kw_get (pc := 48) (i := 26) (v := .ref 8) rfl rfl rfl lkX7_55 (fun _ => rfl) ?_
        refine kw_iconst (pc := 51) (i := 27) (v := 4) rfl rfl ?_
        refine kw_callV (pc := 52) (i := 28) (Y := mX4_refuse) (a := 8) (As := [.int 4]) (st := []) kw_hE rfl rfl lvX7_81 arX4_refuse (c_X4_refuse_8 l σ hI 4 ) (by decide) (Nat.le_of_ble_eq_true rfl) rfl (fun v S51 p50 => ?_)
        obtain ⟨⟨I54, F55⟩, z53, rfl, f52⟩ := p50
        have F56 : kw_F [8, 28] σ S51 := kw_F.tr hF0 F55 (by decide)
        have r_z53 := kw_rng z53
        show kw_AW l 4 kw_E0 KX mX7_mean (p_X7_mean_0 σ a) 55 [(2, .int z22), (0, .ref 0), (1, .int a)] [.int z53] S51
        exact kw_ireturn (pc := 55) (i := 29) (ty := .int) rfl rfl rfl ⟨⟨I54, F56⟩, _, rfl⟩
    · refine kw_aload_n (pc := 24) (i := 12) (k := 0) (n := 0) rfl rfl rfl ?_
      refine kw_get (pc := 25) (i := 13) (v := .ref 8) rfl rfl rfl lkX7_55 (fun _ => rfl) ?_
      refine kw_iconst (pc := 28) (i := 14) (v := 1) rfl rfl ?_
      refine kw_callV (pc := 29) (i := 15) (Y := mX4_refuse) (a := 8) (As := [.int 1]) (st := []) kw_hE rfl rfl lvX7_81 arX4_refuse (c_X4_refuse_8 l σ hI 1 ) (by decide) (Nat.le_of_ble_eq_true rfl) rfl (fun v S58 p57 => ?_)
      obtain ⟨⟨I61, F62⟩, z60, rfl, f59⟩ := p57
      have F63 : kw_F [8, 28] σ S58 := kw_F.tr hF0 F62 (by decide)
      have r_z60 := kw_rng z60
      show kw_AW l 4 kw_E0 KX mX7_mean (p_X7_mean_0 σ a) 32 [(0, .ref 0), (1, .int a)] [.int z60] S58
      exact kw_ireturn (pc := 32) (i := 16) (ty := .int) rfl rfl rfl ⟨⟨I61, F63⟩, _, rfl⟩
  · refine kw_iconst (pc := 11) (i := 5) (v := (-1)) rfl rfl ?_
    exact kw_ireturn (pc := 12) (i := 6) (ty := .int) rfl rfl rfl ⟨⟨hI, hF0⟩, _, rfl⟩
abbrev p_X7_put_0 (σ : kw_S) (a : Int32) (i : Int32) (v : Int32) : Option Value → kw_S → Prop := fun v σ' => (kw_I bX σ' ∧ kw_F [8, 28, 15, 35, 36, 37, 38] σ σ') ∧ ∃ r : Int32, v = some (.int r)
set_option maxRecDepth 100000 in
set_option maxHeartbeats 4000000 in
theorem c_X7_put_0 (l : Launch) (σ : kw_S) (hI : kw_I bX σ) (a : Int32) (i : Int32) (v : Int32) : kw_Met l 5 KX mX7_put [.ref 0, .int a, .int i, .int v] σ (p_X7_put_0 σ a i v) := by
  have r_a := kw_rng a
  have r_i := kw_rng i
  have r_v := kw_rng v
  have hF0 : kw_F [8, 28, 15, 35, 36, 37, 38] σ σ := kw_F.rf
  have q_m1 : (-1 : Int32).toInt = -1 := rfl
  have q_1000 : (1000 : Int32).toInt = 1000 := rfl
  refine kw_Met.of (by decide) rfl tX7_put (Nat.le_of_ble_eq_true rfl) ?_
  show kw_AW l 5 kw_E0 KX mX7_put (p_X7_put_0 σ a i v) 0 [(0, .ref 0), (1, .int a), (2, .int i), (3, .int v)] [] σ
  refine kw_aload_n (pc := 0) (i := 0) (k := 0) (n := 0) rfl rfl rfl ?_
  refine kw_get (pc := 1) (i := 1) (v := .ref 2) rfl rfl rfl lkX7_18 (fun _ => rfl) ?_
  refine kw_iload_n (pc := 4) (i := 2) (k := 1) (n := 1) rfl rfl rfl ?_
  refine kw_callV (pc := 5) (i := 3) (Y := mX3_has) (a := 2) (As := [.int a]) (st := []) kw_hE rfl rfl lvX7_73 arX3_has (c_X3_has_2 l σ hI a ) (by decide) (Nat.le_of_ble_eq_true rfl) rfl (fun v S2 p1 => ?_)
  obtain ⟨e7, z6, rfl, f3, f4, f5⟩ := p1
  rw [e7]
  have r_z6 := kw_rng z6
  show kw_AW l 5 kw_E0 KX mX7_put (p_X7_put_0 σ a i v) 8 [(0, .ref 0), (1, .int a), (2, .int i), (3, .int v)] [.int z6] σ
  refine kw_if_ne (pc := 8) (i := 4) (tgt := 13) rfl rfl (fun c8 => ?_) (fun c8 => ?_)
  · refine kw_aload_n (pc := 13) (i := 7) (k := 0) (n := 0) rfl rfl rfl ?_
    refine kw_get (pc := 14) (i := 8) (v := .ref 2) rfl rfl rfl lkX7_18 (fun _ => rfl) ?_
    refine kw_iload_n (pc := 17) (i := 9) (k := 1) (n := 1) rfl rfl rfl ?_
    refine kw_iload_n (pc := 18) (i := 10) (k := 2) (n := 2) rfl rfl rfl ?_
    refine kw_callV (pc := 19) (i := 11) (Y := mX3_findingAt) (a := 2) (As := [.int a, .int i]) (st := []) kw_hE rfl rfl lvX7_77 arX3_findingAt (c_X3_findingAt_2 l σ hI a i ) (by decide) (Nat.le_of_ble_eq_true rfl) rfl (fun v S10 p9 => ?_)
    obtain ⟨e12, z11, rfl⟩ := p9
    rw [e12]
    have r_z11 := kw_rng z11
    show kw_AW l 5 kw_E0 KX mX7_put (p_X7_put_0 σ a i v) 22 [(0, .ref 0), (1, .int a), (2, .int i), (3, .int v)] [.int z11] σ
    refine kw_istore (pc := 22) (i := 12) (n := 4) (lv' := [(4, .int z11), (0, .ref 0), (1, .int a), (2, .int i), (3, .int v)]) rfl (by decide) rfl ?_
    refine kw_iload (pc := 24) (i := 13) (k := 0) (n := 4) rfl rfl ?_
    refine kw_if_eq (pc := 26) (i := 14) (tgt := 39) rfl rfl (fun c13 => ?_) (fun c13 => ?_)
    · refine kw_aload_n (pc := 39) (i := 20) (k := 1) (n := 0) rfl rfl rfl ?_
      refine kw_get (pc := 40) (i := 21) (v := .ref 2) rfl rfl rfl lkX7_18 (fun _ => rfl) ?_
      refine kw_iload_n (pc := 43) (i := 22) (k := 2) (n := 1) rfl rfl rfl ?_
      refine kw_iload_n (pc := 44) (i := 23) (k := 3) (n := 2) rfl rfl rfl ?_
      refine kw_callV (pc := 45) (i := 24) (Y := mX3_valueAt) (a := 2) (As := [.int a, .int i]) (st := []) kw_hE rfl rfl lvX7_85 arX3_valueAt (c_X3_valueAt_2 l σ hI a i ) (by decide) (Nat.le_of_ble_eq_true rfl) rfl (fun v S15 p14 => ?_)
      obtain ⟨e17, z16, rfl⟩ := p14
      rw [e17]
      have r_z16 := kw_rng z16
      show kw_AW l 5 kw_E0 KX mX7_put (p_X7_put_0 σ a i v) 48 [(4, .int z11), (0, .ref 0), (1, .int a), (2, .int i), (3, .int v)] [.int z16] σ
      refine kw_istore (pc := 48) (i := 25) (n := 5) (lv' := [(5, .int z16), (4, .int z11), (0, .ref 0), (1, .int a), (2, .int i), (3, .int v)]) rfl (by decide) rfl ?_
      refine kw_aload_n (pc := 50) (i := 26) (k := 2) (n := 0) rfl rfl rfl ?_
      refine kw_get (pc := 51) (i := 27) (v := .ref 2) rfl rfl rfl lkX7_18 (fun _ => rfl) ?_
      refine kw_iload_n (pc := 54) (i := 28) (k := 3) (n := 1) rfl rfl rfl ?_
      refine kw_iload_n (pc := 55) (i := 29) (k := 4) (n := 2) rfl rfl rfl ?_
      refine kw_iload_n (pc := 56) (i := 30) (k := 5) (n := 3) rfl rfl rfl ?_
      refine kw_i2b (pc := 57) (i := 31) rfl (fun z18 e_z18 => ?_)
      have r_z18 := kw_rng z18
      refine kw_callV (pc := 58) (i := 32) (Y := mX3_change) (a := 2) (As := [.int a, .int i, .int z18]) (st := []) kw_hE rfl rfl lvX7_88 arX3_change (c_X3_change_2 l σ hI a i z18 ) (by decide) (Nat.le_of_ble_eq_true rfl) rfl (fun v S20 p19 => ?_)
      obtain ⟨⟨I21, F22⟩, rfl⟩ := p19
      have F23 : kw_F [8, 28, 15, 35, 36, 37, 38] σ S20 := kw_F.tr hF0 F22 (by decide)
      show kw_AW l 5 kw_E0 KX mX7_put (p_X7_put_0 σ a i v) 61 [(5, .int z16), (4, .int z11), (0, .ref 0), (1, .int a), (2, .int i), (3, .int v)] [] S20
      refine kw_iload (pc := 61) (i := 33) (k := 0) (n := 5) rfl rfl ?_
      refine kw_sipush (pc := 63) (i := 34) (v := 1000) rfl rfl ?_
      refine kw_iadd (pc := 66) (i := 35) rfl (fun z24 e_z24 t_z24 => ?_)
      exact kw_ireturn (pc := 67) (i := 36) (ty := .int) rfl rfl rfl ⟨⟨I21, F23⟩, _, rfl⟩
    · refine kw_aload_n (pc := 29) (i := 15) (k := 1) (n := 0) rfl rfl rfl ?_
      refine kw_get (pc := 30) (i := 16) (v := .ref 8) rfl rfl rfl lkX7_55 (fun _ => rfl) ?_
      refine kw_iload (pc := 33) (i := 17) (k := 0) (n := 4) rfl rfl ?_
      refine kw_callV (pc := 35) (i := 18) (Y := mX4_refuse) (a := 8) (As := [.int z11]) (st := []) kw_hE rfl rfl lvX7_81 arX4_refuse (c_X4_refuse_8 l σ hI z11 ) (by decide) (Nat.le_of_ble_eq_true rfl) rfl (fun v S26 p25 => ?_)
      obtain ⟨⟨I29, F30⟩, z28, rfl, f27⟩ := p25
      have F31 : kw_F [8, 28, 15, 35, 36, 37, 38] σ S26 := kw_F.tr hF0 F30 (by decide)
      have r_z28 := kw_rng z28
      show kw_AW l 5 kw_E0 KX mX7_put (p_X7_put_0 σ a i v) 38 [(4, .int z11), (0, .ref 0), (1, .int a), (2, .int i), (3, .int v)] [.int z28] S26
      exact kw_ireturn (pc := 38) (i := 19) (ty := .int) rfl rfl rfl ⟨⟨I29, F31⟩, _, rfl⟩
  · refine kw_iconst (pc := 11) (i := 5) (v := (-1)) rfl rfl ?_
    exact kw_ireturn (pc := 12) (i := 6) (ty := .int) rfl rfl rfl ⟨⟨hI, hF0⟩, _, rfl⟩
abbrev p_X7_fault_0 (σ : kw_S) (a : Int32) : Option Value → kw_S → Prop := fun v σ' => (kw_I bX σ' ∧ kw_F [8, 28, 3, 16, 39, 40, 41, 42, 43] σ σ') ∧ ∃ r : Int32, v = some (.int r)
set_option maxRecDepth 100000 in
set_option maxHeartbeats 4000000 in
theorem c_X7_fault_0 (l : Launch) (σ : kw_S) (hI : kw_I bX σ) (a : Int32) : kw_Met l 7 KX mX7_fault [.ref 0, .int a] σ (p_X7_fault_0 σ a) := by
  have r_a := kw_rng a
  have hF0 : kw_F [8, 28, 3, 16, 39, 40, 41, 42, 43] σ σ := kw_F.rf
  have q_m1 : (-1 : Int32).toInt = -1 := rfl
  have q_1 : (1 : Int32).toInt = 1 := rfl
  refine kw_Met.of (by decide) rfl tX7_fault (Nat.le_of_ble_eq_true rfl) ?_
  show kw_AW l 7 kw_E0 KX mX7_fault (p_X7_fault_0 σ a) 0 [(0, .ref 0), (1, .int a)] [] σ
  refine kw_aload_n (pc := 0) (i := 0) (k := 0) (n := 0) rfl rfl rfl ?_
  refine kw_get (pc := 1) (i := 1) (v := .ref 2) rfl rfl rfl lkX7_18 (fun _ => rfl) ?_
  refine kw_iload_n (pc := 4) (i := 2) (k := 1) (n := 1) rfl rfl rfl ?_
  refine kw_callV (pc := 5) (i := 3) (Y := mX3_has) (a := 2) (As := [.int a]) (st := []) kw_hE rfl rfl lvX7_73 arX3_has (c_X3_has_2 l σ hI a ) (by decide) (Nat.le_of_ble_eq_true rfl) rfl (fun v S2 p1 => ?_)
  obtain ⟨e7, z6, rfl, f3, f4, f5⟩ := p1
  rw [e7]
  have r_z6 := kw_rng z6
  show kw_AW l 7 kw_E0 KX mX7_fault (p_X7_fault_0 σ a) 8 [(0, .ref 0), (1, .int a)] [.int z6] σ
  refine kw_if_ne (pc := 8) (i := 4) (tgt := 13) rfl rfl (fun c8 => ?_) (fun c8 => ?_)
  · refine kw_aload_n (pc := 13) (i := 7) (k := 0) (n := 0) rfl rfl rfl ?_
    refine kw_get (pc := 14) (i := 8) (v := .ref 2) rfl rfl rfl lkX7_18 (fun _ => rfl) ?_
    refine kw_iload_n (pc := 17) (i := 9) (k := 1) (n := 1) rfl rfl rfl ?_
    refine kw_callV (pc := 18) (i := 10) (Y := mX3_isMissing) (a := 2) (As := [.int a]) (st := []) kw_hE rfl rfl lvX7_95 arX3_isMissing (c_X3_isMissing_2 l σ hI a ) (by decide) (Nat.le_of_ble_eq_true rfl) rfl (fun v S10 p9 => ?_)
    obtain ⟨e14, z13, rfl, f11, f12⟩ := p9
    rw [e14]
    have r_z13 := kw_rng z13
    show kw_AW l 7 kw_E0 KX mX7_fault (p_X7_fault_0 σ a) 21 [(0, .ref 0), (1, .int a)] [.int z13] σ
    refine kw_if_eq (pc := 21) (i := 11) (tgt := 33) rfl rfl (fun c15 => ?_) (fun c15 => ?_)
    · refine kw_aload_n (pc := 33) (i := 17) (k := 0) (n := 0) rfl rfl rfl ?_
      refine kw_get (pc := 34) (i := 18) (v := .ref 3) rfl rfl rfl lkX7_24 (fun _ => rfl) ?_
      refine kw_aload_n (pc := 37) (i := 19) (k := 0) (n := 0) rfl rfl rfl ?_
      refine kw_get (pc := 38) (i := 20) (v := .ref 2) rfl rfl rfl lkX7_18 (fun _ => rfl) ?_
      refine kw_iload_n (pc := 41) (i := 21) (k := 1) (n := 1) rfl rfl rfl ?_
      refine kw_callV (pc := 42) (i := 22) (Y := mX2_faultOf) (a := 3) (As := [.ref 2, .int a]) (st := []) kw_hE rfl rfl lvX7_113 arX2_faultOf (c_X2_faultOf_3_2 l σ hI a ) (by decide) (Nat.le_of_ble_eq_true rfl) rfl (fun v S17 p16 => ?_)
      obtain ⟨⟨I19, F20⟩, z18, rfl⟩ := p16
      have F21 : kw_F [8, 28, 3, 16, 39, 40, 41, 42, 43] σ S17 := kw_F.tr hF0 F20 (by decide)
      have r_z18 := kw_rng z18
      show kw_AW l 7 kw_E0 KX mX7_fault (p_X7_fault_0 σ a) 45 [(0, .ref 0), (1, .int a)] [.int z18] S17
      exact kw_ireturn (pc := 45) (i := 23) (ty := .int) rfl rfl rfl ⟨⟨I19, F21⟩, _, rfl⟩
    · refine kw_aload_n (pc := 24) (i := 12) (k := 0) (n := 0) rfl rfl rfl ?_
      refine kw_get (pc := 25) (i := 13) (v := .ref 8) rfl rfl rfl lkX7_55 (fun _ => rfl) ?_
      refine kw_iconst (pc := 28) (i := 14) (v := 1) rfl rfl ?_
      refine kw_callV (pc := 29) (i := 15) (Y := mX4_refuse) (a := 8) (As := [.int 1]) (st := []) kw_hE rfl rfl lvX7_81 arX4_refuse (c_X4_refuse_8 l σ hI 1 ) (by decide) (Nat.le_of_ble_eq_true rfl) rfl (fun v S23 p22 => ?_)
      obtain ⟨⟨I26, F27⟩, z25, rfl, f24⟩ := p22
      have F28 : kw_F [8, 28, 3, 16, 39, 40, 41, 42, 43] σ S23 := kw_F.tr hF0 F27 (by decide)
      have r_z25 := kw_rng z25
      show kw_AW l 7 kw_E0 KX mX7_fault (p_X7_fault_0 σ a) 32 [(0, .ref 0), (1, .int a)] [.int z25] S23
      exact kw_ireturn (pc := 32) (i := 16) (ty := .int) rfl rfl rfl ⟨⟨I26, F28⟩, _, rfl⟩
  · refine kw_iconst (pc := 11) (i := 5) (v := (-1)) rfl rfl ?_
    exact kw_ireturn (pc := 12) (i := 6) (ty := .int) rfl rfl rfl ⟨⟨hI, hF0⟩, _, rfl⟩
abbrev p_X7_town_0 (σ : kw_S) (a : Int32) : Option Value → kw_S → Prop := fun v σ' => (kw_I bX σ' ∧ kw_F [8, 28, 3, 16, 39, 40, 41, 42, 43, 17, 44, 45, 46, 47, 48, 4, 18, 19, 21, 49, 50, 51] σ σ') ∧ ∃ r : Int32, v = some (.int r)
set_option maxRecDepth 100000 in
set_option maxHeartbeats 4000000 in
theorem c_X7_town_0 (l : Launch) (σ : kw_S) (hI : kw_I bX σ) (a : Int32) : kw_Met l 7 KX mX7_town [.ref 0, .int a] σ (p_X7_town_0 σ a) := by
  have r_a := kw_rng a
  have hF0 : kw_F [8, 28, 3, 16, 39, 40, 41, 42, 43, 17, 44, 45, 46, 47, 48, 4, 18, 19, 21, 49, 50, 51] σ σ := kw_F.rf
  have q_m9 : (-9 : Int32).toInt = -9 := rfl
  have q_m4 : (-4 : Int32).toInt = -4 := rfl
  have q_m1 : (-1 : Int32).toInt = -1 := rfl
  have q_0 : (0 : Int32).toInt = 0 := rfl
  have q_1 : (1 : Int32).toInt = 1 := rfl
  have q_3 : (3 : Int32).toInt = 3 := rfl
  refine kw_Met.of (by decide) rfl tX7_town (Nat.le_of_ble_eq_true rfl) ?_
  show kw_AW l 7 kw_E0 KX mX7_town (p_X7_town_0 σ a) 0 [(0, .ref 0), (1, .int a)] [] σ
  refine kw_aload_n (pc := 0) (i := 0) (k := 0) (n := 0) rfl rfl rfl ?_
  refine kw_get (pc := 1) (i := 1) (v := .ref 2) rfl rfl rfl lkX7_18 (fun _ => rfl) ?_
  refine kw_iload_n (pc := 4) (i := 2) (k := 1) (n := 1) rfl rfl rfl ?_
  refine kw_callV (pc := 5) (i := 3) (Y := mX3_has) (a := 2) (As := [.int a]) (st := []) kw_hE rfl rfl lvX7_73 arX3_has (c_X3_has_2 l σ hI a ) (by decide) (Nat.le_of_ble_eq_true rfl) rfl (fun v S2 p1 => ?_)
  obtain ⟨e7, z6, rfl, f3, f4, f5⟩ := p1
  rw [e7]
  have r_z6 := kw_rng z6
  show kw_AW l 7 kw_E0 KX mX7_town (p_X7_town_0 σ a) 8 [(0, .ref 0), (1, .int a)] [.int z6] σ
  refine kw_if_ne (pc := 8) (i := 4) (tgt := 13) rfl rfl (fun c8 => ?_) (fun c8 => ?_)
  · refine kw_aload_n (pc := 13) (i := 7) (k := 0) (n := 0) rfl rfl rfl ?_
    refine kw_get (pc := 14) (i := 8) (v := .ref 2) rfl rfl rfl lkX7_18 (fun _ => rfl) ?_
    refine kw_iload_n (pc := 17) (i := 9) (k := 1) (n := 1) rfl rfl rfl ?_
    refine kw_callV (pc := 18) (i := 10) (Y := mX3_isMissing) (a := 2) (As := [.int a]) (st := []) kw_hE rfl rfl lvX7_95 arX3_isMissing (c_X3_isMissing_2 l σ hI a ) (by decide) (Nat.le_of_ble_eq_true rfl) rfl (fun v S10 p9 => ?_)
    obtain ⟨e14, z13, rfl, f11, f12⟩ := p9
    rw [e14]
    have r_z13 := kw_rng z13
    show kw_AW l 7 kw_E0 KX mX7_town (p_X7_town_0 σ a) 21 [(0, .ref 0), (1, .int a)] [.int z13] σ
    refine kw_if_eq (pc := 21) (i := 11) (tgt := 33) rfl rfl (fun c15 => ?_) (fun c15 => ?_)
    · refine kw_aload_n (pc := 33) (i := 17) (k := 0) (n := 0) rfl rfl rfl ?_
      refine kw_get (pc := 34) (i := 18) (v := .ref 3) rfl rfl rfl lkX7_24 (fun _ => rfl) ?_
      refine kw_aload_n (pc := 37) (i := 19) (k := 0) (n := 0) rfl rfl rfl ?_
      refine kw_get (pc := 38) (i := 20) (v := .ref 2) rfl rfl rfl lkX7_18 (fun _ => rfl) ?_
      refine kw_iload_n (pc := 41) (i := 21) (k := 1) (n := 1) rfl rfl rfl ?_
      refine kw_callV (pc := 42) (i := 22) (Y := mX2_faultOf) (a := 3) (As := [.ref 2, .int a]) (st := []) kw_hE rfl rfl lvX7_113 arX2_faultOf (c_X2_faultOf_3_2 l σ hI a ) (by decide) (Nat.le_of_ble_eq_true rfl) rfl (fun v S17 p16 => ?_)
      obtain ⟨⟨I19, F20⟩, z18, rfl⟩ := p16
      have F21 : kw_F [8, 28, 3, 16, 39, 40, 41, 42, 43, 17, 44, 45, 46, 47, 48, 4, 18, 19, 21, 49, 50, 51] σ S17 := kw_F.tr hF0 F20 (by decide)
      have r_z18 := kw_rng z18
      show kw_AW l 7 kw_E0 KX mX7_town (p_X7_town_0 σ a) 45 [(0, .ref 0), (1, .int a)] [.int z18] S17
      refine kw_bipush (pc := 45) (i := 23) (v := (-9)) rfl rfl ?_
      refine kw_icmp_eq (pc := 47) (i := 24) (tgt := 53) rfl rfl (fun c22 => ?_) (fun c22 => ?_)
      · refine kw_aload_n (pc := 53) (i := 27) (k := 0) (n := 0) rfl rfl rfl ?_
        refine kw_get (pc := 54) (i := 28) (v := .ref 4) rfl rfl rfl lkX7_31 (fun _ => rfl) ?_
        refine kw_get (pc := 57) (i := 29) (v := .ref 17) rfl rfl rfl lkX7_117 (fun _ => rfl) ?_
        refine kw_aload_n (pc := 60) (i := 30) (k := 0) (n := 0) rfl rfl rfl ?_
        refine kw_get (pc := 61) (i := 31) (v := .ref 3) rfl rfl rfl lkX7_24 (fun _ => rfl) ?_
        refine kw_get (pc := 64) (i := 32) (v := .ref 16) rfl rfl rfl lkX7_121 (fun _ => rfl) ?_
        refine kw_callV (pc := 67) (i := 33) (Y := mX1_copyFrom) (a := 17) (As := [.ref 16]) (st := []) kw_hE rfl rfl lvX7_124 arX1_copyFrom (c_X1_copyFrom_17_16 l S17 I19  ) (by decide) (Nat.le_of_ble_eq_true rfl) rfl (fun v S24 p23 => ?_)
        obtain ⟨⟨I25, F26⟩, rfl⟩ := p23
        have F27 : kw_F [8, 28, 3, 16, 39, 40, 41, 42, 43, 17, 44, 45, 46, 47, 48, 4, 18, 19, 21, 49, 50, 51] σ S24 := kw_F.tr F21 F26 (by decide)
        show kw_AW l 7 kw_E0 KX mX7_town (p_X7_town_0 σ a) 70 [(0, .ref 0), (1, .int a)] [] S24
        refine kw_aload_n (pc := 70) (i := 34) (k := 0) (n := 0) rfl rfl rfl ?_
        refine kw_get (pc := 71) (i := 35) (v := .ref 4) rfl rfl rfl lkX7_31 (fun _ => rfl) ?_
        refine kw_iconst (pc := 74) (i := 36) (v := 0) rfl rfl ?_
        refine kw_callV (pc := 75) (i := 37) (Y := mX5_replay) (a := 4) (As := [.int 0]) (st := []) kw_hE rfl rfl lvX7_130 arX5_replay (c_X5_replay_4 l S24 I25 0 ) (by decide) (Nat.le_of_ble_eq_true rfl) rfl (fun v S29 p28 => ?_)
        obtain ⟨⟨I30, F31⟩, rfl⟩ := p28
        have F32 : kw_F [8, 28, 3, 16, 39, 40, 41, 42, 43, 17, 44, 45, 46, 47, 48, 4, 18, 19, 21, 49, 50, 51] σ S29 := kw_F.tr F27 F31 (by decide)
        show kw_AW l 7 kw_E0 KX mX7_town (p_X7_town_0 σ a) 78 [(0, .ref 0), (1, .int a)] [] S29
        refine kw_iconst (pc := 78) (i := 38) (v := 0) rfl rfl ?_
        refine kw_istore_n (pc := 79) (i := 39) (n := 2) (lv' := [(2, .int 0), (0, .ref 0), (1, .int a)]) rfl rfl (by decide) rfl ?_
        have L37 : ∀ (n41 : Nat) (x33 : Int32) (S34 : kw_S), kw_I bX S34 → kw_F [8, 28, 3, 16, 39, 40, 41, 42, 43, 17, 44, 45, 46, 47, 48, 4, 18, 19, 21, 49, 50, 51] σ S34 → 0 ≤ x33.toInt → (4 - x33.toInt).toNat < n41 → kw_AW l 7 kw_E0 KX mX7_town (p_X7_town_0 σ a) 80 [(2, .int x33), (0, .ref 0), (1, .int a)] [] S34 := by
          intro n41
          induction n41 with
          | zero => intro x33 S34 I35 F36 v39 m40; exact absurd m40 (Nat.not_lt_zero _)
          | succ n41 ih38 =>
            intro x33 S34 I35 F36 v39 m40
            have r_x33 := kw_rng x33
            refine kw_iload_n (pc := 80) (i := 40) (k := 0) (n := 2) rfl rfl rfl ?_
            refine kw_iconst (pc := 81) (i := 41) (v := 3) rfl rfl ?_
            refine kw_icmp_ge (pc := 82) (i := 42) (tgt := 99) rfl rfl (fun c42 => ?_) (fun c42 => ?_)
            · refine kw_aload_n (pc := 99) (i := 49) (k := 1) (n := 0) rfl rfl rfl ?_
              refine kw_get (pc := 100) (i := 50) (v := .ref 4) rfl rfl rfl lkX7_31 (fun _ => rfl) ?_
              refine kw_get (pc := 103) (i := 51) (v := .ref 17) rfl rfl rfl lkX7_117 (fun _ => rfl) ?_
              refine kw_get (pc := 106) (i := 52) (v := .int (S34.1 17 5)) rfl rfl rfl lkX7_133 (fun _ => rfl) ?_
              have b43 : 0 ≤ (S34.1 17 5).toInt ∧ (S34.1 17 5).toInt ≤ 6 := I35 17 5
              exact kw_ireturn (pc := 109) (i := 53) (ty := .int) rfl rfl rfl ⟨⟨I35, F36⟩, _, rfl⟩
            · refine kw_aload_n (pc := 85) (i := 43) (k := 1) (n := 0) rfl rfl rfl ?_
              refine kw_get (pc := 86) (i := 44) (v := .ref 5) rfl rfl rfl lkX7_35 (fun _ => rfl) ?_
              refine kw_iload_n (pc := 89) (i := 45) (k := 0) (n := 2) rfl rfl rfl ?_
              refine kw_callV (pc := 90) (i := 46) (Y := mX3_drop) (a := 5) (As := [.int x33]) (st := []) kw_hE rfl rfl lvX7_98 arX3_drop (c_X3_drop_5 l S34 I35 x33 ) (by decide) (Nat.le_of_ble_eq_true rfl) rfl (fun v S45 p44 => ?_)
              obtain ⟨⟨I46, F47⟩, rfl⟩ := p44
              have F48 : kw_F [8, 28, 3, 16, 39, 40, 41, 42, 43, 17, 44, 45, 46, 47, 48, 4, 18, 19, 21, 49, 50, 51] σ S45 := kw_F.tr F36 F47 (by decide)
              show kw_AW l 7 kw_E0 KX mX7_town (p_X7_town_0 σ a) 93 [(2, .int x33), (0, .ref 0), (1, .int a)] [] S45
              refine kw_iinc' (pc := 93) (i := 47) (k := 0) (fun z => [(2, .int z), (0, .ref 0), (1, .int a)]) rfl rfl (by decide) rfl (fun _ => rfl) (fun z49 e_z49 t_z49 => ?_)
              refine kw_goto (pc := 96) (i := 48) (tgt := 80) rfl rfl ?_
              refine kw_sub (lv' := [(2, .int z49), (0, .ref 0), (1, .int a)]) [0, 1, 2] rfl ?_
              exact ih38 z49 S45 I46 F48 (by omega) (by omega)
        exact L37 _ 0 S29 I30 F32 (by omega) (Nat.lt_succ_self _)
      · refine kw_bipush (pc := 50) (i := 25) (v := (-4)) rfl rfl ?_
        exact kw_ireturn (pc := 52) (i := 26) (ty := .int) rfl rfl rfl ⟨⟨I19, F21⟩, _, rfl⟩
    · refine kw_aload_n (pc := 24) (i := 12) (k := 0) (n := 0) rfl rfl rfl ?_
      refine kw_get (pc := 25) (i := 13) (v := .ref 8) rfl rfl rfl lkX7_55 (fun _ => rfl) ?_
      refine kw_iconst (pc := 28) (i := 14) (v := 1) rfl rfl ?_
      refine kw_callV (pc := 29) (i := 15) (Y := mX4_refuse) (a := 8) (As := [.int 1]) (st := []) kw_hE rfl rfl lvX7_81 arX4_refuse (c_X4_refuse_8 l σ hI 1 ) (by decide) (Nat.le_of_ble_eq_true rfl) rfl (fun v S51 p50 => ?_)
      obtain ⟨⟨I54, F55⟩, z53, rfl, f52⟩ := p50
      have F56 : kw_F [8, 28, 3, 16, 39, 40, 41, 42, 43, 17, 44, 45, 46, 47, 48, 4, 18, 19, 21, 49, 50, 51] σ S51 := kw_F.tr hF0 F55 (by decide)
      have r_z53 := kw_rng z53
      show kw_AW l 7 kw_E0 KX mX7_town (p_X7_town_0 σ a) 32 [(0, .ref 0), (1, .int a)] [.int z53] S51
      exact kw_ireturn (pc := 32) (i := 16) (ty := .int) rfl rfl rfl ⟨⟨I54, F56⟩, _, rfl⟩
  · refine kw_iconst (pc := 11) (i := 5) (v := (-1)) rfl rfl ?_
    exact kw_ireturn (pc := 12) (i := 6) (ty := .int) rfl rfl rfl ⟨⟨hI, hF0⟩, _, rfl⟩
abbrev p_X7_line_0 (σ : kw_S) (i : Int32) (w : Int32) : Option Value → kw_S → Prop := fun v σ' => (kw_I bX σ' ∧ kw_F [8, 28] σ σ') ∧ ∃ r : Int32, v = some (.int r)
set_option maxRecDepth 100000 in
set_option maxHeartbeats 4000000 in
theorem c_X7_line_0 (l : Launch) (σ : kw_S) (hI : kw_I bX σ) (i : Int32) (w : Int32) : kw_Met l 4 KX mX7_line [.ref 0, .int i, .int w] σ (p_X7_line_0 σ i w) := by
  have r_i := kw_rng i
  have r_w := kw_rng w
  have hF0 : kw_F [8, 28] σ σ := kw_F.rf
  have q_m1 : (-1 : Int32).toInt = -1 := rfl
  have q_6 : (6 : Int32).toInt = 6 := rfl
  refine kw_Met.of (by decide) rfl tX7_line (Nat.le_of_ble_eq_true rfl) ?_
  show kw_AW l 4 kw_E0 KX mX7_line (p_X7_line_0 σ i w) 0 [(0, .ref 0), (1, .int i), (2, .int w)] [] σ
  refine kw_aload_n (pc := 0) (i := 0) (k := 0) (n := 0) rfl rfl rfl ?_
  refine kw_get (pc := 1) (i := 1) (v := .ref 4) rfl rfl rfl lkX7_31 (fun _ => rfl) ?_
  refine kw_get (pc := 4) (i := 2) (v := .ref 17) rfl rfl rfl lkX7_117 (fun _ => rfl) ?_
  refine kw_iload_n (pc := 7) (i := 3) (k := 1) (n := 1) rfl rfl rfl ?_
  refine kw_callV (pc := 8) (i := 4) (Y := mX1_hasLine) (a := 17) (As := [.int i]) (st := []) kw_hE rfl rfl lvX7_137 arX1_hasLine (c_X1_hasLine_17 l σ hI i ) (by decide) (Nat.le_of_ble_eq_true rfl) rfl (fun v S2 p1 => ?_)
  obtain ⟨e6, z5, rfl, f3, f4⟩ := p1
  rw [e6]
  have r_z5 := kw_rng z5
  show kw_AW l 4 kw_E0 KX mX7_line (p_X7_line_0 σ i w) 11 [(0, .ref 0), (1, .int i), (2, .int w)] [.int z5] σ
  refine kw_if_eq (pc := 11) (i := 5) (tgt := 24) rfl rfl (fun c7 => ?_) (fun c7 => ?_)
  · refine kw_iconst (pc := 24) (i := 11) (v := (-1)) rfl rfl ?_
    exact kw_ireturn (pc := 25) (i := 12) (ty := .int) rfl rfl rfl ⟨⟨hI, hF0⟩, _, rfl⟩
  · refine kw_iload_n (pc := 14) (i := 6) (k := 2) (n := 2) rfl rfl rfl ?_
    refine kw_if_lt (pc := 15) (i := 7) (tgt := 24) rfl rfl (fun c8 => ?_) (fun c8 => ?_)
    · refine kw_iconst (pc := 24) (i := 11) (v := (-1)) rfl rfl ?_
      exact kw_ireturn (pc := 25) (i := 12) (ty := .int) rfl rfl rfl ⟨⟨hI, hF0⟩, _, rfl⟩
    · refine kw_iload_n (pc := 18) (i := 8) (k := 2) (n := 2) rfl rfl rfl ?_
      refine kw_bipush (pc := 19) (i := 9) (v := 6) rfl rfl ?_
      refine kw_icmp_le (pc := 21) (i := 10) (tgt := 26) rfl rfl (fun c9 => ?_) (fun c9 => ?_)
      · refine kw_aload_n (pc := 26) (i := 13) (k := 0) (n := 0) rfl rfl rfl ?_
        refine kw_get (pc := 27) (i := 14) (v := .ref 8) rfl rfl rfl lkX7_55 (fun _ => rfl) ?_
        refine kw_aload_n (pc := 30) (i := 15) (k := 0) (n := 0) rfl rfl rfl ?_
        refine kw_get (pc := 31) (i := 16) (v := .ref 4) rfl rfl rfl lkX7_31 (fun _ => rfl) ?_
        refine kw_iload_n (pc := 34) (i := 17) (k := 1) (n := 1) rfl rfl rfl ?_
        refine kw_iload_n (pc := 35) (i := 18) (k := 2) (n := 2) rfl rfl rfl ?_
        refine kw_callV (pc := 36) (i := 19) (Y := mX5_trait) (a := 4) (As := [.int i, .int w]) (st := [.ref 8]) kw_hE rfl rfl lvX7_140 arX5_trait (c_X5_trait_4 l σ hI i w ) (by decide) (Nat.le_of_ble_eq_true rfl) rfl (fun v S11 p10 => ?_)
        obtain ⟨e13, z12, rfl⟩ := p10
        rw [e13]
        have r_z12 := kw_rng z12
        show kw_AW l 4 kw_E0 KX mX7_line (p_X7_line_0 σ i w) 39 [(0, .ref 0), (1, .int i), (2, .int w)] [.int z12, .ref 8] σ
        refine kw_callV (pc := 39) (i := 20) (Y := mX4_answer) (a := 8) (As := [.int z12]) (st := []) kw_hE rfl rfl lvX7_92 arX4_answer (c_X4_answer_8 l σ hI z12 ) (by decide) (Nat.le_of_ble_eq_true rfl) rfl (fun v S15 p14 => ?_)
        obtain ⟨⟨I18, F19⟩, z17, rfl, f16⟩ := p14
        have F20 : kw_F [8, 28] σ S15 := kw_F.tr hF0 F19 (by decide)
        have r_z17 := kw_rng z17
        show kw_AW l 4 kw_E0 KX mX7_line (p_X7_line_0 σ i w) 42 [(0, .ref 0), (1, .int i), (2, .int w)] [.int z17] S15
        exact kw_ireturn (pc := 42) (i := 21) (ty := .int) rfl rfl rfl ⟨⟨I18, F20⟩, _, rfl⟩
      · refine kw_iconst (pc := 24) (i := 11) (v := (-1)) rfl rfl ?_
        exact kw_ireturn (pc := 25) (i := 12) (ty := .int) rfl rfl rfl ⟨⟨hI, hF0⟩, _, rfl⟩
abbrev p_X7_mark_0 (σ : kw_S) (i : Int32) (kind : Int32) : Option Value → kw_S → Prop := fun v σ' => (kw_I bX σ' ∧ kw_F [8, 28] σ σ') ∧ ∃ r : Int32, v = some (.int r)
set_option maxRecDepth 100000 in
set_option maxHeartbeats 4000000 in
theorem c_X7_mark_0 (l : Launch) (σ : kw_S) (hI : kw_I bX σ) (i : Int32) (kind : Int32) : kw_Met l 4 KX mX7_mark [.ref 0, .int i, .int kind] σ (p_X7_mark_0 σ i kind) := by
  have r_i := kw_rng i
  have r_kind := kw_rng kind
  have hF0 : kw_F [8, 28] σ σ := kw_F.rf
  have q_m1 : (-1 : Int32).toInt = -1 := rfl
  have q_1 : (1 : Int32).toInt = 1 := rfl
  have q_3 : (3 : Int32).toInt = 3 := rfl
  have q_4 : (4 : Int32).toInt = 4 := rfl
  have q_5 : (5 : Int32).toInt = 5 := rfl
  have q_6 : (6 : Int32).toInt = 6 := rfl
  refine kw_Met.of (by decide) rfl tX7_mark (Nat.le_of_ble_eq_true rfl) ?_
  show kw_AW l 4 kw_E0 KX mX7_mark (p_X7_mark_0 σ i kind) 0 [(0, .ref 0), (1, .int i), (2, .int kind)] [] σ
  refine kw_aload_n (pc := 0) (i := 0) (k := 0) (n := 0) rfl rfl rfl ?_
  refine kw_get (pc := 1) (i := 1) (v := .ref 4) rfl rfl rfl lkX7_31 (fun _ => rfl) ?_
  refine kw_get (pc := 4) (i := 2) (v := .ref 17) rfl rfl rfl lkX7_117 (fun _ => rfl) ?_
  refine kw_astore_n (pc := 7) (i := 3) (n := 3) (lv' := [(3, .ref 17), (0, .ref 0), (1, .int i), (2, .int kind)]) rfl rfl (by decide) rfl ?_
  refine kw_aload_n (pc := 8) (i := 4) (k := 0) (n := 3) rfl rfl rfl ?_
  refine kw_iload_n (pc := 9) (i := 5) (k := 2) (n := 1) rfl rfl rfl ?_
  refine kw_callV (pc := 10) (i := 6) (Y := mX1_hasLine) (a := 17) (As := [.int i]) (st := []) kw_hE rfl rfl lvX7_137 arX1_hasLine (c_X1_hasLine_17 l σ hI i ) (by decide) (Nat.le_of_ble_eq_true rfl) rfl (fun v S2 p1 => ?_)
  obtain ⟨e6, z5, rfl, f3, f4⟩ := p1
  rw [e6]
  have r_z5 := kw_rng z5
  show kw_AW l 4 kw_E0 KX mX7_mark (p_X7_mark_0 σ i kind) 13 [(3, .ref 17), (0, .ref 0), (1, .int i), (2, .int kind)] [.int z5] σ
  refine kw_if_eq (pc := 13) (i := 7) (tgt := 26) rfl rfl (fun c7 => ?_) (fun c7 => ?_)
  · refine kw_iconst (pc := 26) (i := 13) (v := (-1)) rfl rfl ?_
    exact kw_ireturn (pc := 27) (i := 14) (ty := .int) rfl rfl rfl ⟨⟨hI, hF0⟩, _, rfl⟩
  · refine kw_iload_n (pc := 16) (i := 8) (k := 3) (n := 2) rfl rfl rfl ?_
    refine kw_if_le (pc := 17) (i := 9) (tgt := 26) rfl rfl (fun c8 => ?_) (fun c8 => ?_)
    · refine kw_iconst (pc := 26) (i := 13) (v := (-1)) rfl rfl ?_
      exact kw_ireturn (pc := 27) (i := 14) (ty := .int) rfl rfl rfl ⟨⟨hI, hF0⟩, _, rfl⟩
    · refine kw_iload_n (pc := 20) (i := 10) (k := 3) (n := 2) rfl rfl rfl ?_
      refine kw_bipush (pc := 21) (i := 11) (v := 6) rfl rfl ?_
      refine kw_icmp_lt (pc := 23) (i := 12) (tgt := 28) rfl rfl (fun c9 => ?_) (fun c9 => ?_)
      · refine kw_aload_n (pc := 28) (i := 15) (k := 0) (n := 3) rfl rfl rfl ?_
        refine kw_get (pc := 29) (i := 16) (v := .ref 44) rfl rfl rfl lkX7_143 (fun _ => rfl) ?_
        refine kw_iload_n (pc := 32) (i := 17) (k := 2) (n := 1) rfl rfl rfl ?_
        refine kw_iald (pc := 33) (i := 18) (n := 6) rfl rfl (by omega) (by omega) (fun z10 e_z10 => ?_)
        have t_z10 := congrArg Int32.toInt e_z10
        have r_z10 := kw_rng z10
        refine kw_iload_n (pc := 34) (i := 19) (k := 3) (n := 2) rfl rfl rfl ?_
        refine kw_callS (pc := 35) (i := 20) (Y := mX7_isA) (As := [.int z10, .int kind]) (st := []) kw_hE rfl lsX7_146 arX7_isA (c_X7_isA l σ hI z10 kind ) (by decide) (Nat.le_of_ble_eq_true rfl) rfl (fun v S12 p11 => ?_)
        obtain ⟨e15, z14, rfl, f13⟩ := p11
        rw [e15]
        have r_z14 := kw_rng z14
        show kw_AW l 4 kw_E0 KX mX7_mark (p_X7_mark_0 σ i kind) 38 [(3, .ref 17), (0, .ref 0), (1, .int i), (2, .int kind)] [.int z14] σ
        refine kw_if_ne (pc := 38) (i := 21) (tgt := 50) rfl rfl (fun c16 => ?_) (fun c16 => ?_)
        · refine kw_iload_n (pc := 50) (i := 27) (k := 3) (n := 2) rfl rfl rfl ?_
          by_cases c17 : kind.toInt = 1
          · refine kw_tableIn (pc := 51) (i := 28) (k := 0) (tgt := 80) rfl (by omega) (by decide) rfl rfl ?_
            refine kw_aload_n (pc := 80) (i := 29) (k := 0) (n := 3) rfl rfl rfl ?_
            refine kw_iload_n (pc := 81) (i := 30) (k := 2) (n := 1) rfl rfl rfl ?_
            refine kw_iconst (pc := 82) (i := 31) (v := 5) rfl rfl ?_
            refine kw_callV (pc := 83) (i := 32) (Y := mX1_pullOf) (a := 17) (As := [.int i, .int 5]) (st := []) kw_hE rfl rfl lvX7_150 arX1_pullOf (c_X1_pullOf_17 l σ hI i 5 ) (by decide) (Nat.le_of_ble_eq_true rfl) rfl (fun v S19 p18 => ?_)
            obtain ⟨e21, z20, rfl⟩ := p18
            rw [e21]
            have r_z20 := kw_rng z20
            show kw_AW l 4 kw_E0 KX mX7_mark (p_X7_mark_0 σ i kind) 86 [(3, .ref 17), (0, .ref 0), (1, .int i), (2, .int kind)] [.int z20] σ
            exact kw_ireturn (pc := 86) (i := 33) (ty := .int) rfl rfl rfl ⟨⟨hI, hF0⟩, _, rfl⟩
          by_cases c22 : kind.toInt = 2
          · refine kw_tableIn (pc := 51) (i := 28) (k := 1) (tgt := 87) rfl (by omega) (by decide) rfl rfl ?_
            refine kw_aload_n (pc := 87) (i := 34) (k := 1) (n := 0) rfl rfl rfl ?_
            refine kw_get (pc := 88) (i := 35) (v := .ref 4) rfl rfl rfl lkX7_31 (fun _ => rfl) ?_
            refine kw_callV (pc := 91) (i := 36) (Y := mX5_hoursToStorm) (a := 4) (As := []) (st := []) kw_hE rfl rfl lvX7_153 arX5_hoursToStorm (c_X5_hoursToStorm_4 l σ hI  ) (by decide) (Nat.le_of_ble_eq_true rfl) rfl (fun v S24 p23 => ?_)
            obtain ⟨e26, z25, rfl⟩ := p23
            rw [e26]
            have r_z25 := kw_rng z25
            show kw_AW l 4 kw_E0 KX mX7_mark (p_X7_mark_0 σ i kind) 94 [(3, .ref 17), (0, .ref 0), (1, .int i), (2, .int kind)] [.int z25] σ
            exact kw_ireturn (pc := 94) (i := 37) (ty := .int) rfl rfl rfl ⟨⟨hI, hF0⟩, _, rfl⟩
          by_cases c27 : kind.toInt = 3
          · refine kw_tableIn (pc := 51) (i := 28) (k := 2) (tgt := 95) rfl (by omega) (by decide) rfl rfl ?_
            refine kw_aload_n (pc := 95) (i := 38) (k := 1) (n := 0) rfl rfl rfl ?_
            refine kw_get (pc := 96) (i := 39) (v := .ref 4) rfl rfl rfl lkX7_31 (fun _ => rfl) ?_
            refine kw_get (pc := 99) (i := 40) (v := .int (σ.1 4 4)) rfl rfl rfl lkX7_157 (fun _ => rfl) ?_
            have b28 := kw_rng (σ.1 4 4)
            refine kw_iconst (pc := 102) (i := 41) (v := 1) rfl rfl ?_
            refine kw_iload_n (pc := 103) (i := 42) (k := 2) (n := 1) rfl rfl rfl ?_
            refine kw_ishl (pc := 104) (i := 43) rfl (fun z29 e_z29 => ?_)
            have r_z29 := kw_rng z29
            refine kw_iconst (pc := 105) (i := 44) (v := (-1)) rfl rfl ?_
            refine kw_ixor (pc := 106) (i := 45) rfl (fun z30 e_z30 => ?_)
            have r_z30 := kw_rng z30
            refine kw_iand (pc := 107) (i := 46) rfl (fun z31 e_z31 => ?_)
            have r_z31 := kw_rng z31
            refine kw_callS (pc := 108) (i := 47) (Y := mJ6_bitCount_0f7a4) (As := [.int z31]) (st := []) kw_hE rfl lsX7_160 arJ6_bitCount_0f7a4 (c_J6_bitCount_0f7a4 l σ hI z31 ) (by decide) (Nat.le_of_ble_eq_true rfl) rfl (fun v S33 p32 => ?_)
            obtain ⟨e35, z34, rfl⟩ := p32
            rw [e35]
            have r_z34 := kw_rng z34
            show kw_AW l 4 kw_E0 KX mX7_mark (p_X7_mark_0 σ i kind) 111 [(3, .ref 17), (0, .ref 0), (1, .int i), (2, .int kind)] [.int z34] σ
            exact kw_ireturn (pc := 111) (i := 48) (ty := .int) rfl rfl rfl ⟨⟨hI, hF0⟩, _, rfl⟩
          by_cases c36 : kind.toInt = 4
          · refine kw_tableIn (pc := 51) (i := 28) (k := 3) (tgt := 112) rfl (by omega) (by decide) rfl rfl ?_
            refine kw_aload_n (pc := 112) (i := 49) (k := 0) (n := 3) rfl rfl rfl ?_
            refine kw_iload_n (pc := 113) (i := 50) (k := 2) (n := 1) rfl rfl rfl ?_
            refine kw_callV (pc := 114) (i := 51) (Y := mX1_othersNoWider) (a := 17) (As := [.int i]) (st := []) kw_hE rfl rfl lvX7_165 arX1_othersNoWider (c_X1_othersNoWider_17 l σ hI i ) (by decide) (Nat.le_of_ble_eq_true rfl) rfl (fun v S38 p37 => ?_)
            obtain ⟨e40, z39, rfl⟩ := p37
            rw [e40]
            have r_z39 := kw_rng z39
            show kw_AW l 4 kw_E0 KX mX7_mark (p_X7_mark_0 σ i kind) 117 [(3, .ref 17), (0, .ref 0), (1, .int i), (2, .int kind)] [.int z39] σ
            exact kw_ireturn (pc := 117) (i := 52) (ty := .int) rfl rfl rfl ⟨⟨hI, hF0⟩, _, rfl⟩
          refine kw_tableOut (pc := 51) (i := 28) (tgt := 118) rfl (by omega) rfl ?_
          refine kw_iconst (pc := 118) (i := 53) (v := 4) rfl rfl ?_
          refine kw_aload_n (pc := 119) (i := 54) (k := 0) (n := 3) rfl rfl rfl ?_
          refine kw_get (pc := 120) (i := 55) (v := .ref 46) rfl rfl rfl lkX7_168 (fun _ => rfl) ?_
          refine kw_iload_n (pc := 123) (i := 56) (k := 2) (n := 1) rfl rfl rfl ?_
          refine kw_iald (pc := 124) (i := 57) (n := 6) rfl rfl (by omega) (by omega) (fun z41 e_z41 => ?_)
          have t_z41 := congrArg Int32.toInt e_z41
          have r_z41 := kw_rng z41
          refine kw_aload_n (pc := 125) (i := 58) (k := 1) (n := 0) rfl rfl rfl ?_
          refine kw_get (pc := 126) (i := 59) (v := .ref 4) rfl rfl rfl lkX7_31 (fun _ => rfl) ?_
          refine kw_callV (pc := 129) (i := 60) (Y := mX5_windNow) (a := 4) (As := []) (st := [.int z41, .int 4]) kw_hE rfl rfl lvX7_171 arX5_windNow (c_X5_windNow_4 l σ hI  ) (by decide) (Nat.le_of_ble_eq_true rfl) rfl (fun v S43 p42 => ?_)
          obtain ⟨e45, z44, rfl⟩ := p42
          rw [e45]
          have r_z44 := kw_rng z44
          show kw_AW l 4 kw_E0 KX mX7_mark (p_X7_mark_0 σ i kind) 132 [(3, .ref 17), (0, .ref 0), (1, .int i), (2, .int kind)] [.int z44, .int z41, .int 4] σ
          refine kw_callS (pc := 132) (i := 61) (Y := mX7_pull) (As := [.int 4, .int z41, .int z44]) (st := []) kw_hE rfl lsX7_174 arX7_pull (c_X7_pull l σ hI 4 z41 z44 ) (by decide) (Nat.le_of_ble_eq_true rfl) rfl (fun v S47 p46 => ?_)
          obtain ⟨e49, z48, rfl⟩ := p46
          rw [e49]
          have r_z48 := kw_rng z48
          show kw_AW l 4 kw_E0 KX mX7_mark (p_X7_mark_0 σ i kind) 135 [(3, .ref 17), (0, .ref 0), (1, .int i), (2, .int kind)] [.int z48] σ
          refine kw_aload_n (pc := 135) (i := 62) (k := 0) (n := 3) rfl rfl rfl ?_
          refine kw_iload_n (pc := 136) (i := 63) (k := 2) (n := 1) rfl rfl rfl ?_
          refine kw_aload_n (pc := 137) (i := 64) (k := 1) (n := 0) rfl rfl rfl ?_
          refine kw_get (pc := 138) (i := 65) (v := .ref 4) rfl rfl rfl lkX7_31 (fun _ => rfl) ?_
          refine kw_callV (pc := 141) (i := 66) (Y := mX5_windNow) (a := 4) (As := []) (st := [.int i, .ref 17, .int z48]) kw_hE rfl rfl lvX7_171 arX5_windNow (c_X5_windNow_4 l σ hI  ) (by decide) (Nat.le_of_ble_eq_true rfl) rfl (fun v S51 p50 => ?_)
          obtain ⟨e53, z52, rfl⟩ := p50
          rw [e53]
          have r_z52 := kw_rng z52
          show kw_AW l 4 kw_E0 KX mX7_mark (p_X7_mark_0 σ i kind) 144 [(3, .ref 17), (0, .ref 0), (1, .int i), (2, .int kind)] [.int z52, .int i, .ref 17, .int z48] σ
          refine kw_callV (pc := 144) (i := 67) (Y := mX1_pullOf) (a := 17) (As := [.int i, .int z52]) (st := [.int z48]) kw_hE rfl rfl lvX7_150 arX1_pullOf (c_X1_pullOf_17 l σ hI i z52 ) (by decide) (Nat.le_of_ble_eq_true rfl) rfl (fun v S55 p54 => ?_)
          obtain ⟨e57, z56, rfl⟩ := p54
          rw [e57]
          have r_z56 := kw_rng z56
          show kw_AW l 4 kw_E0 KX mX7_mark (p_X7_mark_0 σ i kind) 147 [(3, .ref 17), (0, .ref 0), (1, .int i), (2, .int kind)] [.int z56, .int z48] σ
          refine kw_isub (pc := 147) (i := 68) rfl (fun z58 e_z58 t_z58 => ?_)
          exact kw_ireturn (pc := 148) (i := 69) (ty := .int) rfl rfl rfl ⟨⟨hI, hF0⟩, _, rfl⟩
        · refine kw_aload_n (pc := 41) (i := 22) (k := 1) (n := 0) rfl rfl rfl ?_
          refine kw_get (pc := 42) (i := 23) (v := .ref 8) rfl rfl rfl lkX7_55 (fun _ => rfl) ?_
          refine kw_iconst (pc := 45) (i := 24) (v := 3) rfl rfl ?_
          refine kw_callV (pc := 46) (i := 25) (Y := mX4_refuse) (a := 8) (As := [.int 3]) (st := []) kw_hE rfl rfl lvX7_81 arX4_refuse (c_X4_refuse_8 l σ hI 3 ) (by decide) (Nat.le_of_ble_eq_true rfl) rfl (fun v S60 p59 => ?_)
          obtain ⟨⟨I63, F64⟩, z62, rfl, f61⟩ := p59
          have F65 : kw_F [8, 28] σ S60 := kw_F.tr hF0 F64 (by decide)
          have r_z62 := kw_rng z62
          show kw_AW l 4 kw_E0 KX mX7_mark (p_X7_mark_0 σ i kind) 49 [(3, .ref 17), (0, .ref 0), (1, .int i), (2, .int kind)] [.int z62] S60
          exact kw_ireturn (pc := 49) (i := 26) (ty := .int) rfl rfl rfl ⟨⟨I63, F65⟩, _, rfl⟩
      · refine kw_iconst (pc := 26) (i := 13) (v := (-1)) rfl rfl ?_
        exact kw_ireturn (pc := 27) (i := 14) (ty := .int) rfl rfl rfl ⟨⟨hI, hF0⟩, _, rfl⟩
abbrev p_X7_wind_0 (σ : kw_S) (h : Int32) : Option Value → kw_S → Prop := fun v σ' => σ' = σ ∧ ∃ r : Int32, v = some (.int r)
set_option maxRecDepth 100000 in
set_option maxHeartbeats 4000000 in
theorem c_X7_wind_0 (l : Launch) (σ : kw_S) (hI : kw_I bX σ) (h : Int32) : kw_Met l 2 KX mX7_wind [.ref 0, .int h] σ (p_X7_wind_0 σ h) := by
  have r_h := kw_rng h
  have q_m4 : (-4 : Int32).toInt = -4 := rfl
  have q_m1 : (-1 : Int32).toInt = -1 := rfl
  have q_999 : (999 : Int32).toInt = 999 := rfl
  refine kw_Met.of (by decide) rfl tX7_wind (Nat.le_of_ble_eq_true rfl) ?_
  show kw_AW l 2 kw_E0 KX mX7_wind (p_X7_wind_0 σ h) 0 [(0, .ref 0), (1, .int h)] [] σ
  refine kw_iload_n (pc := 0) (i := 0) (k := 1) (n := 1) rfl rfl rfl ?_
  refine kw_if_lt (pc := 1) (i := 1) (tgt := 11) rfl rfl (fun c1 => ?_) (fun c1 => ?_)
  · refine kw_iconst (pc := 11) (i := 5) (v := (-1)) rfl rfl ?_
    exact kw_ireturn (pc := 12) (i := 6) (ty := .int) rfl rfl rfl ⟨rfl, _, rfl⟩
  · refine kw_iload_n (pc := 4) (i := 2) (k := 1) (n := 1) rfl rfl rfl ?_
    refine kw_sipush (pc := 5) (i := 3) (v := 999) rfl rfl ?_
    refine kw_icmp_le (pc := 8) (i := 4) (tgt := 13) rfl rfl (fun c2 => ?_) (fun c2 => ?_)
    · refine kw_aload_n (pc := 13) (i := 7) (k := 0) (n := 0) rfl rfl rfl ?_
      refine kw_get (pc := 14) (i := 8) (v := .ref 4) rfl rfl rfl lkX7_31 (fun _ => rfl) ?_
      refine kw_callV (pc := 17) (i := 9) (Y := mX5_isEmpty) (a := 4) (As := []) (st := []) kw_hE rfl rfl lvX7_178 arX5_isEmpty (c_X5_isEmpty_4 l σ hI  ) (by decide) (Nat.le_of_ble_eq_true rfl) rfl (fun v S4 p3 => ?_)
      obtain ⟨e8, z7, rfl, f5, f6⟩ := p3
      rw [e8]
      have r_z7 := kw_rng z7
      show kw_AW l 2 kw_E0 KX mX7_wind (p_X7_wind_0 σ h) 20 [(0, .ref 0), (1, .int h)] [.int z7] σ
      refine kw_if_eq (pc := 20) (i := 10) (tgt := 26) rfl rfl (fun c9 => ?_) (fun c9 => ?_)
      · refine kw_aload_n (pc := 26) (i := 13) (k := 0) (n := 0) rfl rfl rfl ?_
        refine kw_get (pc := 27) (i := 14) (v := .ref 4) rfl rfl rfl lkX7_31 (fun _ => rfl) ?_
        refine kw_get (pc := 30) (i := 15) (v := .ref 17) rfl rfl rfl lkX7_117 (fun _ => rfl) ?_
        refine kw_iload_n (pc := 33) (i := 16) (k := 1) (n := 1) rfl rfl rfl ?_
        refine kw_callV (pc := 34) (i := 17) (Y := mX1_windAt) (a := 17) (As := [.int h]) (st := []) kw_hE rfl rfl lvX7_182 arX1_windAt (c_X1_windAt_17 l σ hI h ) (by decide) (Nat.le_of_ble_eq_true rfl) rfl (fun v S11 p10 => ?_)
        obtain ⟨e13, z12, rfl⟩ := p10
        rw [e13]
        have r_z12 := kw_rng z12
        show kw_AW l 2 kw_E0 KX mX7_wind (p_X7_wind_0 σ h) 37 [(0, .ref 0), (1, .int h)] [.int z12] σ
        exact kw_ireturn (pc := 37) (i := 18) (ty := .int) rfl rfl rfl ⟨rfl, _, rfl⟩
      · refine kw_bipush (pc := 23) (i := 11) (v := (-4)) rfl rfl ?_
        exact kw_ireturn (pc := 25) (i := 12) (ty := .int) rfl rfl rfl ⟨rfl, _, rfl⟩
    · refine kw_iconst (pc := 11) (i := 5) (v := (-1)) rfl rfl ?_
      exact kw_ireturn (pc := 12) (i := 6) (ty := .int) rfl rfl rfl ⟨rfl, _, rfl⟩
abbrev p_X7_hang_0 (σ : kw_S) (i : Int32) : Option Value → kw_S → Prop := fun v σ' => (kw_I bX σ' ∧ kw_F [4, 18, 19] σ σ') ∧ ∃ r : Int32, v = some (.int r)
set_option maxRecDepth 100000 in
set_option maxHeartbeats 4000000 in
theorem c_X7_hang_0 (l : Launch) (σ : kw_S) (hI : kw_I bX σ) (i : Int32) : kw_Met l 6 KX mX7_hang [.ref 0, .int i] σ (p_X7_hang_0 σ i) := by
  have r_i := kw_rng i
  have hF0 : kw_F [4, 18, 19] σ σ := kw_F.rf
  have q_m4 : (-4 : Int32).toInt = -4 := rfl
  have q_m2 : (-2 : Int32).toInt = -2 := rfl
  have q_m1 : (-1 : Int32).toInt = -1 := rfl
  have q_1 : (1 : Int32).toInt = 1 := rfl
  refine kw_Met.of (by decide) rfl tX7_hang (Nat.le_of_ble_eq_true rfl) ?_
  show kw_AW l 6 kw_E0 KX mX7_hang (p_X7_hang_0 σ i) 0 [(0, .ref 0), (1, .int i)] [] σ
  refine kw_aload_n (pc := 0) (i := 0) (k := 0) (n := 0) rfl rfl rfl ?_
  refine kw_get (pc := 1) (i := 1) (v := .ref 4) rfl rfl rfl lkX7_31 (fun _ => rfl) ?_
  refine kw_get (pc := 4) (i := 2) (v := .ref 17) rfl rfl rfl lkX7_117 (fun _ => rfl) ?_
  refine kw_iload_n (pc := 7) (i := 3) (k := 1) (n := 1) rfl rfl rfl ?_
  refine kw_callV (pc := 8) (i := 4) (Y := mX1_hasLine) (a := 17) (As := [.int i]) (st := []) kw_hE rfl rfl lvX7_137 arX1_hasLine (c_X1_hasLine_17 l σ hI i ) (by decide) (Nat.le_of_ble_eq_true rfl) rfl (fun v S2 p1 => ?_)
  obtain ⟨e6, z5, rfl, f3, f4⟩ := p1
  rw [e6]
  have r_z5 := kw_rng z5
  show kw_AW l 6 kw_E0 KX mX7_hang (p_X7_hang_0 σ i) 11 [(0, .ref 0), (1, .int i)] [.int z5] σ
  refine kw_if_ne (pc := 11) (i := 5) (tgt := 16) rfl rfl (fun c7 => ?_) (fun c7 => ?_)
  · refine kw_aload_n (pc := 16) (i := 8) (k := 0) (n := 0) rfl rfl rfl ?_
    refine kw_get (pc := 17) (i := 9) (v := .ref 4) rfl rfl rfl lkX7_31 (fun _ => rfl) ?_
    refine kw_iload_n (pc := 20) (i := 10) (k := 1) (n := 1) rfl rfl rfl ?_
    refine kw_callV (pc := 21) (i := 11) (Y := mX5_isHung) (a := 4) (As := [.int i]) (st := []) kw_hE rfl rfl lvX7_185 arX5_isHung (c_X5_isHung_4 l σ hI i ) (by decide) (Nat.le_of_ble_eq_true rfl) rfl (fun v S9 p8 => ?_)
    obtain ⟨e12, z11, rfl, f10⟩ := p8
    rw [e12]
    have r_z11 := kw_rng z11
    show kw_AW l 6 kw_E0 KX mX7_hang (p_X7_hang_0 σ i) 24 [(0, .ref 0), (1, .int i)] [.int z11] σ
    refine kw_if_eq (pc := 24) (i := 12) (tgt := 30) rfl rfl (fun c13 => ?_) (fun c13 => ?_)
    · refine kw_aload_n (pc := 30) (i := 15) (k := 0) (n := 0) rfl rfl rfl ?_
      refine kw_get (pc := 31) (i := 16) (v := .ref 4) rfl rfl rfl lkX7_31 (fun _ => rfl) ?_
      refine kw_iconst (pc := 34) (i := 17) (v := 1) rfl rfl ?_
      refine kw_callV (pc := 35) (i := 18) (Y := mX5_hasRoomFor) (a := 4) (As := [.int 1]) (st := []) kw_hE rfl rfl lvX7_188 arX5_hasRoomFor (c_X5_hasRoomFor_4 l σ hI 1 (by omega) (by omega)) (by decide) (Nat.le_of_ble_eq_true rfl) rfl (fun v S15 p14 => ?_)
      obtain ⟨e19, z18, rfl, f16, f17⟩ := p14
      rw [e19]
      have r_z18 := kw_rng z18
      show kw_AW l 6 kw_E0 KX mX7_hang (p_X7_hang_0 σ i) 38 [(0, .ref 0), (1, .int i)] [.int z18] σ
      refine kw_if_ne (pc := 38) (i := 19) (tgt := 44) rfl rfl (fun c20 => ?_) (fun c20 => ?_)
      · refine kw_aload_n (pc := 44) (i := 22) (k := 0) (n := 0) rfl rfl rfl ?_
        refine kw_get (pc := 45) (i := 23) (v := .ref 4) rfl rfl rfl lkX7_31 (fun _ => rfl) ?_
        refine kw_iload_n (pc := 48) (i := 24) (k := 1) (n := 1) rfl rfl rfl ?_
        refine kw_callV (pc := 49) (i := 25) (Y := mX5_act) (a := 4) (As := [.int i]) (st := []) kw_hE rfl rfl lvX7_191 arX5_act (c_X5_act_4 l σ hI i ) (by decide) (Nat.le_of_ble_eq_true rfl) rfl (fun v S22 p21 => ?_)
        obtain ⟨⟨I23, F24⟩, rfl⟩ := p21
        have F25 : kw_F [4, 18, 19] σ S22 := kw_F.tr hF0 F24 (by decide)
        show kw_AW l 6 kw_E0 KX mX7_hang (p_X7_hang_0 σ i) 52 [(0, .ref 0), (1, .int i)] [] S22
        refine kw_aload_n (pc := 52) (i := 26) (k := 0) (n := 0) rfl rfl rfl ?_
        refine kw_get (pc := 53) (i := 27) (v := .ref 4) rfl rfl rfl lkX7_31 (fun _ => rfl) ?_
        refine kw_get (pc := 56) (i := 28) (v := .int (S22.1 4 4)) rfl rfl rfl lkX7_157 (fun _ => rfl) ?_
        have b26 := kw_rng (S22.1 4 4)
        refine kw_callS (pc := 59) (i := 29) (Y := mJ6_bitCount_0f7a4) (As := [.int (S22.1 4 4)]) (st := []) kw_hE rfl lsX7_160 arJ6_bitCount_0f7a4 (c_J6_bitCount_0f7a4 l S22 I23 (S22.1 4 4) ) (by decide) (Nat.le_of_ble_eq_true rfl) rfl (fun v S28 p27 => ?_)
        obtain ⟨e30, z29, rfl⟩ := p27
        rw [e30]
        have r_z29 := kw_rng z29
        show kw_AW l 6 kw_E0 KX mX7_hang (p_X7_hang_0 σ i) 62 [(0, .ref 0), (1, .int i)] [.int z29] S22
        exact kw_ireturn (pc := 62) (i := 30) (ty := .int) rfl rfl rfl ⟨⟨I23, F25⟩, _, rfl⟩
      · refine kw_bipush (pc := 41) (i := 20) (v := (-2)) rfl rfl ?_
        exact kw_ireturn (pc := 43) (i := 21) (ty := .int) rfl rfl rfl ⟨⟨hI, hF0⟩, _, rfl⟩
    · refine kw_bipush (pc := 27) (i := 13) (v := (-4)) rfl rfl ?_
      exact kw_ireturn (pc := 29) (i := 14) (ty := .int) rfl rfl rfl ⟨⟨hI, hF0⟩, _, rfl⟩
  · refine kw_iconst (pc := 14) (i := 6) (v := (-1)) rfl rfl ?_
    exact kw_ireturn (pc := 15) (i := 7) (ty := .int) rfl rfl rfl ⟨⟨hI, hF0⟩, _, rfl⟩
abbrev p_X7_take_0 (σ : kw_S) (i : Int32) : Option Value → kw_S → Prop := fun v σ' => (kw_I bX σ' ∧ kw_F [4, 18, 19] σ σ') ∧ ∃ r : Int32, v = some (.int r)
set_option maxRecDepth 100000 in
set_option maxHeartbeats 4000000 in
theorem c_X7_take_0 (l : Launch) (σ : kw_S) (hI : kw_I bX σ) (i : Int32) : kw_Met l 6 KX mX7_take [.ref 0, .int i] σ (p_X7_take_0 σ i) := by
  have r_i := kw_rng i
  have hF0 : kw_F [4, 18, 19] σ σ := kw_F.rf
  have q_m4 : (-4 : Int32).toInt = -4 := rfl
  have q_m2 : (-2 : Int32).toInt = -2 := rfl
  have q_m1 : (-1 : Int32).toInt = -1 := rfl
  have q_1 : (1 : Int32).toInt = 1 := rfl
  refine kw_Met.of (by decide) rfl tX7_take (Nat.le_of_ble_eq_true rfl) ?_
  show kw_AW l 6 kw_E0 KX mX7_take (p_X7_take_0 σ i) 0 [(0, .ref 0), (1, .int i)] [] σ
  refine kw_aload_n (pc := 0) (i := 0) (k := 0) (n := 0) rfl rfl rfl ?_
  refine kw_get (pc := 1) (i := 1) (v := .ref 4) rfl rfl rfl lkX7_31 (fun _ => rfl) ?_
  refine kw_get (pc := 4) (i := 2) (v := .ref 17) rfl rfl rfl lkX7_117 (fun _ => rfl) ?_
  refine kw_iload_n (pc := 7) (i := 3) (k := 1) (n := 1) rfl rfl rfl ?_
  refine kw_callV (pc := 8) (i := 4) (Y := mX1_hasLine) (a := 17) (As := [.int i]) (st := []) kw_hE rfl rfl lvX7_137 arX1_hasLine (c_X1_hasLine_17 l σ hI i ) (by decide) (Nat.le_of_ble_eq_true rfl) rfl (fun v S2 p1 => ?_)
  obtain ⟨e6, z5, rfl, f3, f4⟩ := p1
  rw [e6]
  have r_z5 := kw_rng z5
  show kw_AW l 6 kw_E0 KX mX7_take (p_X7_take_0 σ i) 11 [(0, .ref 0), (1, .int i)] [.int z5] σ
  refine kw_if_ne (pc := 11) (i := 5) (tgt := 16) rfl rfl (fun c7 => ?_) (fun c7 => ?_)
  · refine kw_aload_n (pc := 16) (i := 8) (k := 0) (n := 0) rfl rfl rfl ?_
    refine kw_get (pc := 17) (i := 9) (v := .ref 4) rfl rfl rfl lkX7_31 (fun _ => rfl) ?_
    refine kw_iload_n (pc := 20) (i := 10) (k := 1) (n := 1) rfl rfl rfl ?_
    refine kw_callV (pc := 21) (i := 11) (Y := mX5_isHung) (a := 4) (As := [.int i]) (st := []) kw_hE rfl rfl lvX7_185 arX5_isHung (c_X5_isHung_4 l σ hI i ) (by decide) (Nat.le_of_ble_eq_true rfl) rfl (fun v S9 p8 => ?_)
    obtain ⟨e12, z11, rfl, f10⟩ := p8
    rw [e12]
    have r_z11 := kw_rng z11
    show kw_AW l 6 kw_E0 KX mX7_take (p_X7_take_0 σ i) 24 [(0, .ref 0), (1, .int i)] [.int z11] σ
    refine kw_if_ne (pc := 24) (i := 12) (tgt := 30) rfl rfl (fun c13 => ?_) (fun c13 => ?_)
    · refine kw_aload_n (pc := 30) (i := 15) (k := 0) (n := 0) rfl rfl rfl ?_
      refine kw_get (pc := 31) (i := 16) (v := .ref 4) rfl rfl rfl lkX7_31 (fun _ => rfl) ?_
      refine kw_iconst (pc := 34) (i := 17) (v := 1) rfl rfl ?_
      refine kw_callV (pc := 35) (i := 18) (Y := mX5_hasRoomFor) (a := 4) (As := [.int 1]) (st := []) kw_hE rfl rfl lvX7_188 arX5_hasRoomFor (c_X5_hasRoomFor_4 l σ hI 1 (by omega) (by omega)) (by decide) (Nat.le_of_ble_eq_true rfl) rfl (fun v S15 p14 => ?_)
      obtain ⟨e19, z18, rfl, f16, f17⟩ := p14
      rw [e19]
      have r_z18 := kw_rng z18
      show kw_AW l 6 kw_E0 KX mX7_take (p_X7_take_0 σ i) 38 [(0, .ref 0), (1, .int i)] [.int z18] σ
      refine kw_if_ne (pc := 38) (i := 19) (tgt := 44) rfl rfl (fun c20 => ?_) (fun c20 => ?_)
      · refine kw_aload_n (pc := 44) (i := 22) (k := 0) (n := 0) rfl rfl rfl ?_
        refine kw_get (pc := 45) (i := 23) (v := .ref 4) rfl rfl rfl lkX7_31 (fun _ => rfl) ?_
        refine kw_iload_n (pc := 48) (i := 24) (k := 1) (n := 1) rfl rfl rfl ?_
        refine kw_callV (pc := 49) (i := 25) (Y := mX5_act) (a := 4) (As := [.int i]) (st := []) kw_hE rfl rfl lvX7_191 arX5_act (c_X5_act_4 l σ hI i ) (by decide) (Nat.le_of_ble_eq_true rfl) rfl (fun v S22 p21 => ?_)
        obtain ⟨⟨I23, F24⟩, rfl⟩ := p21
        have F25 : kw_F [4, 18, 19] σ S22 := kw_F.tr hF0 F24 (by decide)
        show kw_AW l 6 kw_E0 KX mX7_take (p_X7_take_0 σ i) 52 [(0, .ref 0), (1, .int i)] [] S22
        refine kw_aload_n (pc := 52) (i := 26) (k := 0) (n := 0) rfl rfl rfl ?_
        refine kw_get (pc := 53) (i := 27) (v := .ref 4) rfl rfl rfl lkX7_31 (fun _ => rfl) ?_
        refine kw_get (pc := 56) (i := 28) (v := .ref 19) rfl rfl rfl lkX7_194 (fun _ => rfl) ?_
        refine kw_iload_n (pc := 59) (i := 29) (k := 1) (n := 1) rfl rfl rfl ?_
        refine kw_iald (pc := 60) (i := 30) (n := 6) rfl rfl (by omega) (by omega) (fun z26 e_z26 => ?_)
        have t_z26 := congrArg Int32.toInt e_z26
        have r_z26 := kw_rng z26
        exact kw_ireturn (pc := 61) (i := 31) (ty := .int) rfl rfl rfl ⟨⟨I23, F25⟩, _, rfl⟩
      · refine kw_bipush (pc := 41) (i := 20) (v := (-2)) rfl rfl ?_
        exact kw_ireturn (pc := 43) (i := 21) (ty := .int) rfl rfl rfl ⟨⟨hI, hF0⟩, _, rfl⟩
    · refine kw_bipush (pc := 27) (i := 13) (v := (-4)) rfl rfl ?_
      exact kw_ireturn (pc := 29) (i := 14) (ty := .int) rfl rfl rfl ⟨⟨hI, hF0⟩, _, rfl⟩
  · refine kw_iconst (pc := 14) (i := 6) (v := (-1)) rfl rfl ?_
    exact kw_ireturn (pc := 15) (i := 7) (ty := .int) rfl rfl rfl ⟨⟨hI, hF0⟩, _, rfl⟩
