abbrev p_X7_hour_0 (σ : kw_S)  : Option Value → kw_S → Prop := fun v σ' => (kw_I bX σ' ∧ kw_F [4, 18, 19, 8, 28] σ σ') ∧ ∃ r : Int32, v = some (.int r)
set_option maxRecDepth 100000 in
set_option maxHeartbeats 4000000 in
theorem c_X7_hour_0 (l : Launch) (σ : kw_S) (hI : kw_I bX σ)  : kw_Met l 6 KX mX7_hour [.ref 0] σ (p_X7_hour_0 σ) := by
  have hF0 : kw_F [4, 18, 19, 8, 28] σ σ := kw_F.rf
  have q_m4 : (-4 : Int32).toInt = -4 := rfl
  have q_m2 : (-2 : Int32).toInt = -2 := rfl
  have q_1 : (1 : Int32).toInt = 1 := rfl
  have q_6 : (6 : Int32).toInt = 6 := rfl
  refine kw_Met.of (by decide) rfl tX7_hour (Nat.le_of_ble_eq_true rfl) ?_
  show kw_AW l 6 kw_E0 KX mX7_hour (p_X7_hour_0 σ) 0 [(0, .ref 0)] [] σ
  refine kw_aload_n (pc := 0) (i := 0) (k := 0) (n := 0) rfl rfl rfl ?_
  refine kw_get (pc := 1) (i := 1) (v := .ref 4) rfl rfl rfl lkX7_31 (fun _ => rfl) ?_
  refine kw_callV (pc := 4) (i := 2) (Y := mX5_isEmpty) (a := 4) (As := []) (st := []) kw_hE rfl rfl lvX7_178 arX5_isEmpty (c_X5_isEmpty_4 l σ hI  ) (by decide) (Nat.le_of_ble_eq_true rfl) rfl (fun v S2 p1 => ?_)
  obtain ⟨e6, z5, rfl, f3, f4⟩ := p1
  rw [e6]
  have r_z5 := kw_rng z5
  show kw_AW l 6 kw_E0 KX mX7_hour (p_X7_hour_0 σ) 7 [(0, .ref 0)] [.int z5] σ
  refine kw_if_eq (pc := 7) (i := 3) (tgt := 13) rfl rfl (fun c7 => ?_) (fun c7 => ?_)
  · refine kw_aload_n (pc := 13) (i := 6) (k := 0) (n := 0) rfl rfl rfl ?_
    refine kw_get (pc := 14) (i := 7) (v := .ref 4) rfl rfl rfl lkX7_31 (fun _ => rfl) ?_
    refine kw_iconst (pc := 17) (i := 8) (v := 1) rfl rfl ?_
    refine kw_callV (pc := 18) (i := 9) (Y := mX5_hasRoomFor) (a := 4) (As := [.int 1]) (st := []) kw_hE rfl rfl lvX7_188 arX5_hasRoomFor (c_X5_hasRoomFor_4 l σ hI 1 (by omega) (by omega)) (by decide) (Nat.le_of_ble_eq_true rfl) rfl (fun v S9 p8 => ?_)
    obtain ⟨e13, z12, rfl, f10, f11⟩ := p8
    rw [e13]
    have r_z12 := kw_rng z12
    show kw_AW l 6 kw_E0 KX mX7_hour (p_X7_hour_0 σ) 21 [(0, .ref 0)] [.int z12] σ
    refine kw_if_ne (pc := 21) (i := 10) (tgt := 27) rfl rfl (fun c14 => ?_) (fun c14 => ?_)
    · refine kw_aload_n (pc := 27) (i := 13) (k := 0) (n := 0) rfl rfl rfl ?_
      refine kw_get (pc := 28) (i := 14) (v := .ref 4) rfl rfl rfl lkX7_31 (fun _ => rfl) ?_
      refine kw_bipush (pc := 31) (i := 15) (v := 6) rfl rfl ?_
      refine kw_callV (pc := 33) (i := 16) (Y := mX5_act) (a := 4) (As := [.int 6]) (st := []) kw_hE rfl rfl lvX7_191 arX5_act (c_X5_act_4 l σ hI 6 ) (by decide) (Nat.le_of_ble_eq_true rfl) rfl (fun v S16 p15 => ?_)
      obtain ⟨⟨I17, F18⟩, rfl⟩ := p15
      have F19 : kw_F [4, 18, 19, 8, 28] σ S16 := kw_F.tr hF0 F18 (by decide)
      show kw_AW l 6 kw_E0 KX mX7_hour (p_X7_hour_0 σ) 36 [(0, .ref 0)] [] S16
      refine kw_aload_n (pc := 36) (i := 17) (k := 0) (n := 0) rfl rfl rfl ?_
      refine kw_get (pc := 37) (i := 18) (v := .ref 8) rfl rfl rfl lkX7_55 (fun _ => rfl) ?_
      refine kw_aload_n (pc := 40) (i := 19) (k := 0) (n := 0) rfl rfl rfl ?_
      refine kw_get (pc := 41) (i := 20) (v := .ref 4) rfl rfl rfl lkX7_31 (fun _ => rfl) ?_
      refine kw_get (pc := 44) (i := 21) (v := .int (S16.1 4 7)) rfl rfl rfl lkX7_197 (fun _ => rfl) ?_
      have b20 := kw_rng (S16.1 4 7)
      refine kw_i2l (pc := 47) (i := 22) rfl (fun z21 e_z21 t_z21 => ?_)
      refine kw_callV (pc := 48) (i := 23) (Y := mX4_tellWhole) (a := 8) (As := [.long z21]) (st := []) kw_hE rfl rfl lvX7_200 arX4_tellWhole (c_X4_tellWhole_8 l S16 I17 z21 ) (by decide) (Nat.le_of_ble_eq_true rfl) rfl (fun v S23 p22 => ?_)
      obtain ⟨⟨I24, F25⟩, rfl⟩ := p22
      have F26 : kw_F [4, 18, 19, 8, 28] σ S23 := kw_F.tr F19 F25 (by decide)
      show kw_AW l 6 kw_E0 KX mX7_hour (p_X7_hour_0 σ) 51 [(0, .ref 0)] [] S23
      refine kw_aload_n (pc := 51) (i := 24) (k := 0) (n := 0) rfl rfl rfl ?_
      refine kw_get (pc := 52) (i := 25) (v := .ref 8) rfl rfl rfl lkX7_55 (fun _ => rfl) ?_
      refine kw_aload_n (pc := 55) (i := 26) (k := 0) (n := 0) rfl rfl rfl ?_
      refine kw_get (pc := 56) (i := 27) (v := .ref 4) rfl rfl rfl lkX7_31 (fun _ => rfl) ?_
      refine kw_get (pc := 59) (i := 28) (v := .int (S23.1 4 6)) rfl rfl rfl lkX7_204 (fun _ => rfl) ?_
      have b27 := kw_rng (S23.1 4 6)
      refine kw_callV (pc := 62) (i := 29) (Y := mX4_answer) (a := 8) (As := [.int (S23.1 4 6)]) (st := []) kw_hE rfl rfl lvX7_92 arX4_answer (c_X4_answer_8 l S23 I24 (S23.1 4 6) ) (by decide) (Nat.le_of_ble_eq_true rfl) rfl (fun v S29 p28 => ?_)
      obtain ⟨⟨I32, F33⟩, z31, rfl, f30⟩ := p28
      have F34 : kw_F [4, 18, 19, 8, 28] σ S29 := kw_F.tr F26 F33 (by decide)
      have r_z31 := kw_rng z31
      show kw_AW l 6 kw_E0 KX mX7_hour (p_X7_hour_0 σ) 65 [(0, .ref 0)] [.int z31] S29
      exact kw_ireturn (pc := 65) (i := 30) (ty := .int) rfl rfl rfl ⟨⟨I32, F34⟩, _, rfl⟩
    · refine kw_bipush (pc := 24) (i := 11) (v := (-2)) rfl rfl ?_
      exact kw_ireturn (pc := 26) (i := 12) (ty := .int) rfl rfl rfl ⟨⟨hI, hF0⟩, _, rfl⟩
  · refine kw_bipush (pc := 10) (i := 4) (v := (-4)) rfl rfl ?_
    exact kw_ireturn (pc := 12) (i := 5) (ty := .int) rfl rfl rfl ⟨⟨hI, hF0⟩, _, rfl⟩
abbrev p_X7_undo_0 (σ : kw_S) (n : Int32) : Option Value → kw_S → Prop := fun v σ' => (kw_I bX σ' ∧ kw_F [4, 18, 19] σ σ') ∧ ∃ r : Int32, v = some (.int r)
set_option maxRecDepth 100000 in
set_option maxHeartbeats 4000000 in
theorem c_X7_undo_0 (l : Launch) (σ : kw_S) (hI : kw_I bX σ) (n : Int32) : kw_Met l 7 KX mX7_undo [.ref 0, .int n] σ (p_X7_undo_0 σ n) := by
  have r_n := kw_rng n
  have hF0 : kw_F [4, 18, 19] σ σ := kw_F.rf
  have q_m1 : (-1 : Int32).toInt = -1 := rfl
  refine kw_Met.of (by decide) rfl tX7_undo (Nat.le_of_ble_eq_true rfl) ?_
  show kw_AW l 7 kw_E0 KX mX7_undo (p_X7_undo_0 σ n) 0 [(0, .ref 0), (1, .int n)] [] σ
  refine kw_iload_n (pc := 0) (i := 0) (k := 1) (n := 1) rfl rfl rfl ?_
  refine kw_if_lt (pc := 1) (i := 1) (tgt := 15) rfl rfl (fun c1 => ?_) (fun c1 => ?_)
  · refine kw_iconst (pc := 15) (i := 7) (v := (-1)) rfl rfl ?_
    exact kw_ireturn (pc := 16) (i := 8) (ty := .int) rfl rfl rfl ⟨⟨hI, hF0⟩, _, rfl⟩
  · refine kw_iload_n (pc := 4) (i := 2) (k := 1) (n := 1) rfl rfl rfl ?_
    refine kw_aload_n (pc := 5) (i := 3) (k := 0) (n := 0) rfl rfl rfl ?_
    refine kw_get (pc := 6) (i := 4) (v := .ref 4) rfl rfl rfl lkX7_31 (fun _ => rfl) ?_
    refine kw_get (pc := 9) (i := 5) (v := .int (σ.1 4 3)) rfl rfl rfl lkX7_207 (fun _ => rfl) ?_
    have b2 : 0 ≤ (σ.1 4 3).toInt ∧ (σ.1 4 3).toInt ≤ 40 := hI 4 3
    refine kw_icmp_le (pc := 12) (i := 6) (tgt := 17) rfl rfl (fun c3 => ?_) (fun c3 => ?_)
    · refine kw_aload_n (pc := 17) (i := 9) (k := 0) (n := 0) rfl rfl rfl ?_
      refine kw_get (pc := 18) (i := 10) (v := .ref 4) rfl rfl rfl lkX7_31 (fun _ => rfl) ?_
      refine kw_get (pc := 21) (i := 11) (v := .int (σ.1 4 3)) rfl rfl rfl lkX7_207 (fun _ => rfl) ?_
      refine kw_iload_n (pc := 24) (i := 12) (k := 1) (n := 1) rfl rfl rfl ?_
      refine kw_isub (pc := 25) (i := 13) rfl (fun z4 e_z4 t_z4 => ?_)
      refine kw_istore_n (pc := 26) (i := 14) (n := 2) (lv' := [(2, .int z4), (0, .ref 0), (1, .int n)]) rfl rfl (by decide) rfl ?_
      refine kw_aload_n (pc := 27) (i := 15) (k := 1) (n := 0) rfl rfl rfl ?_
      refine kw_get (pc := 28) (i := 16) (v := .ref 4) rfl rfl rfl lkX7_31 (fun _ => rfl) ?_
      refine kw_iload_n (pc := 31) (i := 17) (k := 2) (n := 1) rfl rfl rfl ?_
      refine kw_callV (pc := 32) (i := 18) (Y := mX5_replay) (a := 4) (As := [.int n]) (st := []) kw_hE rfl rfl lvX7_130 arX5_replay (c_X5_replay_4 l σ hI n ) (by decide) (Nat.le_of_ble_eq_true rfl) rfl (fun v S6 p5 => ?_)
      obtain ⟨⟨I7, F8⟩, rfl⟩ := p5
      have F9 : kw_F [4, 18, 19] σ S6 := kw_F.tr hF0 F8 (by decide)
      show kw_AW l 7 kw_E0 KX mX7_undo (p_X7_undo_0 σ n) 35 [(2, .int z4), (0, .ref 0), (1, .int n)] [] S6
      refine kw_iload_n (pc := 35) (i := 19) (k := 0) (n := 2) rfl rfl rfl ?_
      exact kw_ireturn (pc := 36) (i := 20) (ty := .int) rfl rfl rfl ⟨⟨I7, F9⟩, _, rfl⟩
    · refine kw_iconst (pc := 15) (i := 7) (v := (-1)) rfl rfl ?_
      exact kw_ireturn (pc := 16) (i := 8) (ty := .int) rfl rfl rfl ⟨⟨hI, hF0⟩, _, rfl⟩
abbrev p_X7_keep_0 (σ : kw_S) (k : Int32) : Option Value → kw_S → Prop := fun v σ' => (kw_I bX σ' ∧ kw_F [21, 49, 50, 51] σ σ') ∧ ∃ r : Int32, v = some (.int r)
set_option maxRecDepth 100000 in
set_option maxHeartbeats 4000000 in
theorem c_X7_keep_0 (l : Launch) (σ : kw_S) (hI : kw_I bX σ) (k : Int32) : kw_Met l 4 KX mX7_keep [.ref 0, .int k] σ (p_X7_keep_0 σ k) := by
  have r_k := kw_rng k
  have hF0 : kw_F [21, 49, 50, 51] σ σ := kw_F.rf
  have q_m4 : (-4 : Int32).toInt = -4 := rfl
  have q_m1 : (-1 : Int32).toInt = -1 := rfl
  have q_0 : (0 : Int32).toInt = 0 := rfl
  refine kw_Met.of (by decide) rfl tX7_keep (Nat.le_of_ble_eq_true rfl) ?_
  show kw_AW l 4 kw_E0 KX mX7_keep (p_X7_keep_0 σ k) 0 [(0, .ref 0), (1, .int k)] [] σ
  refine kw_aload_n (pc := 0) (i := 0) (k := 0) (n := 0) rfl rfl rfl ?_
  refine kw_get (pc := 1) (i := 1) (v := .ref 5) rfl rfl rfl lkX7_35 (fun _ => rfl) ?_
  refine kw_iload_n (pc := 4) (i := 2) (k := 1) (n := 1) rfl rfl rfl ?_
  refine kw_callV (pc := 5) (i := 3) (Y := mX3_has) (a := 5) (As := [.int k]) (st := []) kw_hE rfl rfl lvX7_73 arX3_has (c_X3_has_5 l σ hI k ) (by decide) (Nat.le_of_ble_eq_true rfl) rfl (fun v S2 p1 => ?_)
  obtain ⟨e7, z6, rfl, f3, f4, f5⟩ := p1
  rw [e7]
  have r_z6 := kw_rng z6
  show kw_AW l 4 kw_E0 KX mX7_keep (p_X7_keep_0 σ k) 8 [(0, .ref 0), (1, .int k)] [.int z6] σ
  refine kw_if_ne (pc := 8) (i := 4) (tgt := 13) rfl rfl (fun c8 => ?_) (fun c8 => ?_)
  · refine kw_aload_n (pc := 13) (i := 7) (k := 0) (n := 0) rfl rfl rfl ?_
    refine kw_get (pc := 14) (i := 8) (v := .ref 4) rfl rfl rfl lkX7_31 (fun _ => rfl) ?_
    refine kw_callV (pc := 17) (i := 9) (Y := mX5_isEmpty) (a := 4) (As := []) (st := []) kw_hE rfl rfl lvX7_178 arX5_isEmpty (c_X5_isEmpty_4 l σ hI  ) (by decide) (Nat.le_of_ble_eq_true rfl) rfl (fun v S10 p9 => ?_)
    obtain ⟨e14, z13, rfl, f11, f12⟩ := p9
    rw [e14]
    have r_z13 := kw_rng z13
    show kw_AW l 4 kw_E0 KX mX7_keep (p_X7_keep_0 σ k) 20 [(0, .ref 0), (1, .int k)] [.int z13] σ
    refine kw_if_eq (pc := 20) (i := 10) (tgt := 26) rfl rfl (fun c15 => ?_) (fun c15 => ?_)
    · refine kw_aload_n (pc := 26) (i := 13) (k := 0) (n := 0) rfl rfl rfl ?_
      refine kw_get (pc := 27) (i := 14) (v := .ref 5) rfl rfl rfl lkX7_35 (fun _ => rfl) ?_
      refine kw_iload_n (pc := 30) (i := 15) (k := 1) (n := 1) rfl rfl rfl ?_
      refine kw_aload_n (pc := 31) (i := 16) (k := 0) (n := 0) rfl rfl rfl ?_
      refine kw_get (pc := 32) (i := 17) (v := .ref 4) rfl rfl rfl lkX7_31 (fun _ => rfl) ?_
      refine kw_get (pc := 35) (i := 18) (v := .int (σ.1 4 3)) rfl rfl rfl lkX7_207 (fun _ => rfl) ?_
      have b16 : 0 ≤ (σ.1 4 3).toInt ∧ (σ.1 4 3).toInt ≤ 40 := hI 4 3
      refine kw_iconst (pc := 38) (i := 19) (v := 0) rfl rfl ?_
      refine kw_callV (pc := 39) (i := 20) (Y := mX3_make) (a := 5) (As := [.int k, .int (σ.1 4 3), .int 0]) (st := []) kw_hE rfl rfl lvX7_210 arX3_make (c_X3_make_5 l σ hI k (σ.1 4 3) 0 ) (by decide) (Nat.le_of_ble_eq_true rfl) rfl (fun v S18 p17 => ?_)
      obtain ⟨⟨I19, F20⟩, rfl⟩ := p17
      have F21 : kw_F [21, 49, 50, 51] σ S18 := kw_F.tr hF0 F20 (by decide)
      show kw_AW l 4 kw_E0 KX mX7_keep (p_X7_keep_0 σ k) 42 [(0, .ref 0), (1, .int k)] [] S18
      refine kw_iconst (pc := 42) (i := 21) (v := 0) rfl rfl ?_
      refine kw_istore_n (pc := 43) (i := 22) (n := 2) (lv' := [(2, .int 0), (0, .ref 0), (1, .int k)]) rfl rfl (by decide) rfl ?_
      have L26 : ∀ (n30 : Nat) (x22 : Int32) (S23 : kw_S), kw_I bX S23 → kw_F [21, 49, 50, 51] σ S23 → 0 ≤ x22.toInt → (41 - x22.toInt).toNat < n30 → kw_AW l 4 kw_E0 KX mX7_keep (p_X7_keep_0 σ k) 44 [(2, .int x22), (0, .ref 0), (1, .int k)] [] S23 := by
        intro n30
        induction n30 with
        | zero => intro x22 S23 I24 F25 v28 m29; exact absurd m29 (Nat.not_lt_zero _)
        | succ n30 ih27 =>
          intro x22 S23 I24 F25 v28 m29
          have r_x22 := kw_rng x22
          refine kw_iload_n (pc := 44) (i := 23) (k := 0) (n := 2) rfl rfl rfl ?_
          refine kw_aload_n (pc := 45) (i := 24) (k := 1) (n := 0) rfl rfl rfl ?_
          refine kw_get (pc := 46) (i := 25) (v := .ref 4) rfl rfl rfl lkX7_31 (fun _ => rfl) ?_
          refine kw_get (pc := 49) (i := 26) (v := .int (S23.1 4 3)) rfl rfl rfl lkX7_207 (fun _ => rfl) ?_
          have b31 : 0 ≤ (S23.1 4 3).toInt ∧ (S23.1 4 3).toInt ≤ 40 := I24 4 3
          refine kw_icmp_ge (pc := 52) (i := 27) (tgt := 79) rfl rfl (fun c32 => ?_) (fun c32 => ?_)
          · refine kw_aload_n (pc := 79) (i := 40) (k := 1) (n := 0) rfl rfl rfl ?_
            refine kw_get (pc := 80) (i := 41) (v := .ref 4) rfl rfl rfl lkX7_31 (fun _ => rfl) ?_
            refine kw_get (pc := 83) (i := 42) (v := .int (S23.1 4 3)) rfl rfl rfl lkX7_207 (fun _ => rfl) ?_
            exact kw_ireturn (pc := 86) (i := 43) (ty := .int) rfl rfl rfl ⟨⟨I24, F25⟩, _, rfl⟩
          · refine kw_aload_n (pc := 55) (i := 28) (k := 1) (n := 0) rfl rfl rfl ?_
            refine kw_get (pc := 56) (i := 29) (v := .ref 5) rfl rfl rfl lkX7_35 (fun _ => rfl) ?_
            refine kw_iload_n (pc := 59) (i := 30) (k := 2) (n := 1) rfl rfl rfl ?_
            refine kw_iload_n (pc := 60) (i := 31) (k := 0) (n := 2) rfl rfl rfl ?_
            refine kw_aload_n (pc := 61) (i := 32) (k := 1) (n := 0) rfl rfl rfl ?_
            refine kw_get (pc := 62) (i := 33) (v := .ref 4) rfl rfl rfl lkX7_31 (fun _ => rfl) ?_
            refine kw_get (pc := 65) (i := 34) (v := .ref 18) rfl rfl rfl lkX7_213 (fun _ => rfl) ?_
            refine kw_iload_n (pc := 68) (i := 35) (k := 0) (n := 2) rfl rfl rfl ?_
            refine kw_iald (pc := 69) (i := 36) (n := 40) rfl rfl (by omega) (by omega) (fun z33 e_z33 => ?_)
            have t_z33 := congrArg Int32.toInt e_z33
            have r_z33 := kw_rng z33
            refine kw_callV (pc := 70) (i := 37) (Y := mX3_change) (a := 5) (As := [.int k, .int x22, .int z33]) (st := []) kw_hE rfl rfl lvX7_88 arX3_change (c_X3_change_5 l S23 I24 k x22 z33 ) (by decide) (Nat.le_of_ble_eq_true rfl) rfl (fun v S35 p34 => ?_)
            obtain ⟨⟨I36, F37⟩, rfl⟩ := p34
            have F38 : kw_F [21, 49, 50, 51] σ S35 := kw_F.tr F25 F37 (by decide)
            show kw_AW l 4 kw_E0 KX mX7_keep (p_X7_keep_0 σ k) 73 [(2, .int x22), (0, .ref 0), (1, .int k)] [] S35
            refine kw_iinc' (pc := 73) (i := 38) (k := 0) (fun z => [(2, .int z), (0, .ref 0), (1, .int k)]) rfl rfl (by decide) rfl (fun _ => rfl) (fun z39 e_z39 t_z39 => ?_)
            refine kw_goto (pc := 76) (i := 39) (tgt := 44) rfl rfl ?_
            refine kw_sub (lv' := [(2, .int z39), (0, .ref 0), (1, .int k)]) [0, 1, 2] rfl ?_
            exact ih27 z39 S35 I36 F38 (by omega) (by omega)
      exact L26 _ 0 S18 I19 F21 (by omega) (Nat.lt_succ_self _)
    · refine kw_bipush (pc := 23) (i := 11) (v := (-4)) rfl rfl ?_
      exact kw_ireturn (pc := 25) (i := 12) (ty := .int) rfl rfl rfl ⟨⟨hI, hF0⟩, _, rfl⟩
  · refine kw_iconst (pc := 11) (i := 5) (v := (-1)) rfl rfl ?_
    exact kw_ireturn (pc := 12) (i := 6) (ty := .int) rfl rfl rfl ⟨⟨hI, hF0⟩, _, rfl⟩
abbrev p_X7_on_0 (σ : kw_S) (k : Int32) : Option Value → kw_S → Prop := fun v σ' => (kw_I bX σ' ∧ kw_F [8, 28, 4, 18, 19] σ σ') ∧ ∃ r : Int32, v = some (.int r)
set_option maxRecDepth 100000 in
set_option maxHeartbeats 4000000 in
theorem c_X7_on_0 (l : Launch) (σ : kw_S) (hI : kw_I bX σ) (k : Int32) : kw_Met l 7 KX mX7_on [.ref 0, .int k] σ (p_X7_on_0 σ k) := by
  have r_k := kw_rng k
  have hF0 : kw_F [8, 28, 4, 18, 19] σ σ := kw_F.rf
  have q_m1 : (-1 : Int32).toInt = -1 := rfl
  have q_0 : (0 : Int32).toInt = 0 := rfl
  have q_1 : (1 : Int32).toInt = 1 := rfl
  refine kw_Met.of (by decide) rfl tX7_on (Nat.le_of_ble_eq_true rfl) ?_
  show kw_AW l 7 kw_E0 KX mX7_on (p_X7_on_0 σ k) 0 [(0, .ref 0), (1, .int k)] [] σ
  refine kw_aload_n (pc := 0) (i := 0) (k := 0) (n := 0) rfl rfl rfl ?_
  refine kw_get (pc := 1) (i := 1) (v := .ref 5) rfl rfl rfl lkX7_35 (fun _ => rfl) ?_
  refine kw_iload_n (pc := 4) (i := 2) (k := 1) (n := 1) rfl rfl rfl ?_
  refine kw_callV (pc := 5) (i := 3) (Y := mX3_has) (a := 5) (As := [.int k]) (st := []) kw_hE rfl rfl lvX7_73 arX3_has (c_X3_has_5 l σ hI k ) (by decide) (Nat.le_of_ble_eq_true rfl) rfl (fun v S2 p1 => ?_)
  obtain ⟨e7, z6, rfl, f3, f4, f5⟩ := p1
  rw [e7]
  have r_z6 := kw_rng z6
  show kw_AW l 7 kw_E0 KX mX7_on (p_X7_on_0 σ k) 8 [(0, .ref 0), (1, .int k)] [.int z6] σ
  refine kw_if_ne (pc := 8) (i := 4) (tgt := 13) rfl rfl (fun c8 => ?_) (fun c8 => ?_)
  · refine kw_aload_n (pc := 13) (i := 7) (k := 0) (n := 0) rfl rfl rfl ?_
    refine kw_get (pc := 14) (i := 8) (v := .ref 5) rfl rfl rfl lkX7_35 (fun _ => rfl) ?_
    refine kw_iload_n (pc := 17) (i := 9) (k := 1) (n := 1) rfl rfl rfl ?_
    refine kw_callV (pc := 18) (i := 10) (Y := mX3_isMissing) (a := 5) (As := [.int k]) (st := []) kw_hE rfl rfl lvX7_95 arX3_isMissing (c_X3_isMissing_5 l σ hI k ) (by decide) (Nat.le_of_ble_eq_true rfl) rfl (fun v S10 p9 => ?_)
    obtain ⟨e14, z13, rfl, f11, f12⟩ := p9
    rw [e14]
    have r_z13 := kw_rng z13
    show kw_AW l 7 kw_E0 KX mX7_on (p_X7_on_0 σ k) 21 [(0, .ref 0), (1, .int k)] [.int z13] σ
    refine kw_if_eq (pc := 21) (i := 11) (tgt := 33) rfl rfl (fun c15 => ?_) (fun c15 => ?_)
    · refine kw_aload_n (pc := 33) (i := 17) (k := 0) (n := 0) rfl rfl rfl ?_
      refine kw_get (pc := 34) (i := 18) (v := .ref 5) rfl rfl rfl lkX7_35 (fun _ => rfl) ?_
      refine kw_iload_n (pc := 37) (i := 19) (k := 1) (n := 1) rfl rfl rfl ?_
      refine kw_callV (pc := 38) (i := 20) (Y := mX3_sizeOf) (a := 5) (As := [.int k]) (st := []) kw_hE rfl rfl lvX7_110 arX3_sizeOf (c_X3_sizeOf_5 l σ hI k ) (by decide) (Nat.le_of_ble_eq_true rfl) rfl (fun v S17 p16 => ?_)
      obtain ⟨e23, z22, rfl, f18, f19, f20, f21⟩ := p16
      rw [e23]
      have r_z22 := kw_rng z22
      show kw_AW l 7 kw_E0 KX mX7_on (p_X7_on_0 σ k) 41 [(0, .ref 0), (1, .int k)] [.int z22] σ
      refine kw_istore_n (pc := 41) (i := 21) (n := 2) (lv' := [(2, .int z22), (0, .ref 0), (1, .int k)]) rfl rfl (by decide) rfl ?_
      refine kw_iconst (pc := 42) (i := 22) (v := 0) rfl rfl ?_
      refine kw_istore_n (pc := 43) (i := 23) (n := 3) (lv' := [(3, .int 0), (2, .int z22), (0, .ref 0), (1, .int k)]) rfl rfl (by decide) rfl ?_
      have L28 : ∀ (n32 : Nat) (x24 : Int32) (S25 : kw_S), kw_I bX S25 → kw_F [8, 28, 4, 18, 19] σ S25 → 0 ≤ x24.toInt → (41 - x24.toInt).toNat < n32 → kw_AW l 7 kw_E0 KX mX7_on (p_X7_on_0 σ k) 44 [(3, .int x24), (2, .int z22), (0, .ref 0), (1, .int k)] [] S25 := by
        intro n32
        induction n32 with
        | zero => intro x24 S25 I26 F27 v30 m31; exact absurd m31 (Nat.not_lt_zero _)
        | succ n32 ih29 =>
          intro x24 S25 I26 F27 v30 m31
          have r_x24 := kw_rng x24
          refine kw_iload_n (pc := 44) (i := 24) (k := 0) (n := 3) rfl rfl rfl ?_
          refine kw_iload_n (pc := 45) (i := 25) (k := 1) (n := 2) rfl rfl rfl ?_
          refine kw_icmp_ge (pc := 46) (i := 26) (tgt := 73) rfl rfl (fun c33 => ?_) (fun c33 => ?_)
          · refine kw_aload_n (pc := 73) (i := 39) (k := 2) (n := 0) rfl rfl rfl ?_
            refine kw_get (pc := 74) (i := 40) (v := .ref 4) rfl rfl rfl lkX7_31 (fun _ => rfl) ?_
            refine kw_iload_n (pc := 77) (i := 41) (k := 1) (n := 2) rfl rfl rfl ?_
            refine kw_callV (pc := 78) (i := 42) (Y := mX5_replay) (a := 4) (As := [.int z22]) (st := []) kw_hE rfl rfl lvX7_130 arX5_replay (c_X5_replay_4 l S25 I26 z22 ) (by decide) (Nat.le_of_ble_eq_true rfl) rfl (fun v S35 p34 => ?_)
            obtain ⟨⟨I36, F37⟩, rfl⟩ := p34
            have F38 : kw_F [8, 28, 4, 18, 19] σ S35 := kw_F.tr F27 F37 (by decide)
            show kw_AW l 7 kw_E0 KX mX7_on (p_X7_on_0 σ k) 81 [(3, .int x24), (2, .int z22), (0, .ref 0), (1, .int k)] [] S35
            refine kw_iload_n (pc := 81) (i := 43) (k := 1) (n := 2) rfl rfl rfl ?_
            exact kw_ireturn (pc := 82) (i := 44) (ty := .int) rfl rfl rfl ⟨⟨I36, F38⟩, _, rfl⟩
          · refine kw_aload_n (pc := 49) (i := 27) (k := 2) (n := 0) rfl rfl rfl ?_
            refine kw_get (pc := 50) (i := 28) (v := .ref 4) rfl rfl rfl lkX7_31 (fun _ => rfl) ?_
            refine kw_get (pc := 53) (i := 29) (v := .ref 18) rfl rfl rfl lkX7_213 (fun _ => rfl) ?_
            refine kw_iload_n (pc := 56) (i := 30) (k := 0) (n := 3) rfl rfl rfl ?_
            refine kw_aload_n (pc := 57) (i := 31) (k := 2) (n := 0) rfl rfl rfl ?_
            refine kw_get (pc := 58) (i := 32) (v := .ref 5) rfl rfl rfl lkX7_35 (fun _ => rfl) ?_
            refine kw_iload_n (pc := 61) (i := 33) (k := 3) (n := 1) rfl rfl rfl ?_
            refine kw_iload_n (pc := 62) (i := 34) (k := 0) (n := 3) rfl rfl rfl ?_
            refine kw_callV (pc := 63) (i := 35) (Y := mX3_valueAt) (a := 5) (As := [.int k, .int x24]) (st := [.int x24, .ref 18]) kw_hE rfl rfl lvX7_85 arX3_valueAt (c_X3_valueAt_5 l S25 I26 k x24 ) (by decide) (Nat.le_of_ble_eq_true rfl) rfl (fun v S40 p39 => ?_)
            obtain ⟨e42, z41, rfl⟩ := p39
            rw [e42]
            have r_z41 := kw_rng z41
            show kw_AW l 7 kw_E0 KX mX7_on (p_X7_on_0 σ k) 66 [(3, .int x24), (2, .int z22), (0, .ref 0), (1, .int k)] [.int z41, .int x24, .ref 18] S25
            refine kw_iast (pc := 66) (i := 36) (n := 40) rfl rfl (by omega) (by omega) ?_
            have I43 : kw_I bX (kw_ui S25 18 x24.toNatClampNeg z41) := kw_I_ui I26 (kw_rng z41).1 (Int.le_of_lt_add_one (kw_rng z41).2)
            have F44 : kw_F [8, 28, 4, 18, 19] σ (kw_ui S25 18 x24.toNatClampNeg z41) := kw_F_ui F27 (by decide)
            refine kw_iinc' (pc := 67) (i := 37) (k := 0) (fun z => [(3, .int z), (2, .int z22), (0, .ref 0), (1, .int k)]) rfl rfl (by decide) rfl (fun _ => rfl) (fun z45 e_z45 t_z45 => ?_)
            refine kw_goto (pc := 70) (i := 38) (tgt := 44) rfl rfl ?_
            refine kw_sub (lv' := [(3, .int z45), (2, .int z22), (0, .ref 0), (1, .int k)]) [0, 1, 2, 3] rfl ?_
            exact ih29 z45 (kw_ui S25 18 x24.toNatClampNeg z41) I43 F44 (by omega) (by omega)
      exact L28 _ 0 σ hI hF0 (by omega) (Nat.lt_succ_self _)
    · refine kw_aload_n (pc := 24) (i := 12) (k := 0) (n := 0) rfl rfl rfl ?_
      refine kw_get (pc := 25) (i := 13) (v := .ref 8) rfl rfl rfl lkX7_55 (fun _ => rfl) ?_
      refine kw_iconst (pc := 28) (i := 14) (v := 1) rfl rfl ?_
      refine kw_callV (pc := 29) (i := 15) (Y := mX4_refuse) (a := 8) (As := [.int 1]) (st := []) kw_hE rfl rfl lvX7_81 arX4_refuse (c_X4_refuse_8 l σ hI 1 ) (by decide) (Nat.le_of_ble_eq_true rfl) rfl (fun v S47 p46 => ?_)
      obtain ⟨⟨I50, F51⟩, z49, rfl, f48⟩ := p46
      have F52 : kw_F [8, 28, 4, 18, 19] σ S47 := kw_F.tr hF0 F51 (by decide)
      have r_z49 := kw_rng z49
      show kw_AW l 7 kw_E0 KX mX7_on (p_X7_on_0 σ k) 32 [(0, .ref 0), (1, .int k)] [.int z49] S47
      exact kw_ireturn (pc := 32) (i := 16) (ty := .int) rfl rfl rfl ⟨⟨I50, F52⟩, _, rfl⟩
  · refine kw_iconst (pc := 11) (i := 5) (v := (-1)) rfl rfl ?_
    exact kw_ireturn (pc := 12) (i := 6) (ty := .int) rfl rfl rfl ⟨⟨hI, hF0⟩, _, rfl⟩
abbrev p_X7_goes_0 (σ : kw_S) (s : Int32) : Option Value → kw_S → Prop := fun v σ' => (kw_I bX σ' ∧ kw_F [8, 28] σ σ') ∧ ∃ r : Int32, v = some (.int r)
set_option maxRecDepth 100000 in
set_option maxHeartbeats 4000000 in
theorem c_X7_goes_0 (l : Launch) (σ : kw_S) (hI : kw_I bX σ) (s : Int32) : kw_Met l 4 KX mX7_goes [.ref 0, .int s] σ (p_X7_goes_0 σ s) := by
  have r_s := kw_rng s
  have hF0 : kw_F [8, 28] σ σ := kw_F.rf
  have q_m1 : (-1 : Int32).toInt = -1 := rfl
  refine kw_Met.of (by decide) rfl tX7_goes (Nat.le_of_ble_eq_true rfl) ?_
  show kw_AW l 4 kw_E0 KX mX7_goes (p_X7_goes_0 σ s) 0 [(0, .ref 0), (1, .int s)] [] σ
  refine kw_aload_n (pc := 0) (i := 0) (k := 0) (n := 0) rfl rfl rfl ?_
  refine kw_get (pc := 1) (i := 1) (v := .ref 4) rfl rfl rfl lkX7_31 (fun _ => rfl) ?_
  refine kw_get (pc := 4) (i := 2) (v := .ref 17) rfl rfl rfl lkX7_117 (fun _ => rfl) ?_
  refine kw_iload_n (pc := 7) (i := 3) (k := 1) (n := 1) rfl rfl rfl ?_
  refine kw_callV (pc := 8) (i := 4) (Y := mX1_hasSet) (a := 17) (As := [.int s]) (st := []) kw_hE rfl rfl lvX7_216 arX1_hasSet (c_X1_hasSet_17 l σ hI s ) (by decide) (Nat.le_of_ble_eq_true rfl) rfl (fun v S2 p1 => ?_)
  obtain ⟨e5, z4, rfl, f3⟩ := p1
  rw [e5]
  have r_z4 := kw_rng z4
  show kw_AW l 4 kw_E0 KX mX7_goes (p_X7_goes_0 σ s) 11 [(0, .ref 0), (1, .int s)] [.int z4] σ
  refine kw_if_ne (pc := 11) (i := 5) (tgt := 16) rfl rfl (fun c6 => ?_) (fun c6 => ?_)
  · refine kw_aload_n (pc := 16) (i := 8) (k := 0) (n := 0) rfl rfl rfl ?_
    refine kw_get (pc := 17) (i := 9) (v := .ref 4) rfl rfl rfl lkX7_31 (fun _ => rfl) ?_
    refine kw_callV (pc := 20) (i := 10) (Y := mX5_windNow) (a := 4) (As := []) (st := []) kw_hE rfl rfl lvX7_171 arX5_windNow (c_X5_windNow_4 l σ hI  ) (by decide) (Nat.le_of_ble_eq_true rfl) rfl (fun v S8 p7 => ?_)
    obtain ⟨e10, z9, rfl⟩ := p7
    rw [e10]
    have r_z9 := kw_rng z9
    show kw_AW l 4 kw_E0 KX mX7_goes (p_X7_goes_0 σ s) 23 [(0, .ref 0), (1, .int s)] [.int z9] σ
    refine kw_istore_n (pc := 23) (i := 11) (n := 2) (lv' := [(2, .int z9), (0, .ref 0), (1, .int s)]) rfl rfl (by decide) rfl ?_
    refine kw_aload_n (pc := 24) (i := 12) (k := 1) (n := 0) rfl rfl rfl ?_
    refine kw_get (pc := 25) (i := 13) (v := .ref 8) rfl rfl rfl lkX7_55 (fun _ => rfl) ?_
    refine kw_aload_n (pc := 28) (i := 14) (k := 1) (n := 0) rfl rfl rfl ?_
    refine kw_get (pc := 29) (i := 15) (v := .ref 4) rfl rfl rfl lkX7_31 (fun _ => rfl) ?_
    refine kw_get (pc := 32) (i := 16) (v := .ref 17) rfl rfl rfl lkX7_117 (fun _ => rfl) ?_
    refine kw_iload_n (pc := 35) (i := 17) (k := 2) (n := 1) rfl rfl rfl ?_
    refine kw_iload_n (pc := 36) (i := 18) (k := 0) (n := 2) rfl rfl rfl ?_
    refine kw_callV (pc := 37) (i := 19) (Y := mX1_turnOf) (a := 17) (As := [.int s, .int z9]) (st := [.ref 8]) kw_hE rfl rfl lvX7_219 arX1_turnOf (c_X1_turnOf_17 l σ hI s z9 ) (by decide) (Nat.le_of_ble_eq_true rfl) rfl (fun v S12 p11 => ?_)
    obtain ⟨e14, z13, rfl⟩ := p11
    rw [e14]
    have r_z13 := kw_rng z13
    show kw_AW l 4 kw_E0 KX mX7_goes (p_X7_goes_0 σ s) 40 [(2, .int z9), (0, .ref 0), (1, .int s)] [.int z13, .ref 8] σ
    refine kw_i2l (pc := 40) (i := 20) rfl (fun z15 e_z15 t_z15 => ?_)
    refine kw_callV (pc := 41) (i := 21) (Y := mX4_tellWhole) (a := 8) (As := [.long z15]) (st := []) kw_hE rfl rfl lvX7_200 arX4_tellWhole (c_X4_tellWhole_8 l σ hI z15 ) (by decide) (Nat.le_of_ble_eq_true rfl) rfl (fun v S17 p16 => ?_)
    obtain ⟨⟨I18, F19⟩, rfl⟩ := p16
    have F20 : kw_F [8, 28] σ S17 := kw_F.tr hF0 F19 (by decide)
    show kw_AW l 4 kw_E0 KX mX7_goes (p_X7_goes_0 σ s) 44 [(2, .int z9), (0, .ref 0), (1, .int s)] [] S17
    refine kw_aload_n (pc := 44) (i := 22) (k := 1) (n := 0) rfl rfl rfl ?_
    refine kw_get (pc := 45) (i := 23) (v := .ref 8) rfl rfl rfl lkX7_55 (fun _ => rfl) ?_
    refine kw_aload_n (pc := 48) (i := 24) (k := 1) (n := 0) rfl rfl rfl ?_
    refine kw_get (pc := 49) (i := 25) (v := .ref 4) rfl rfl rfl lkX7_31 (fun _ => rfl) ?_
    refine kw_get (pc := 52) (i := 26) (v := .ref 17) rfl rfl rfl lkX7_117 (fun _ => rfl) ?_
    refine kw_iload_n (pc := 55) (i := 27) (k := 2) (n := 1) rfl rfl rfl ?_
    refine kw_iload_n (pc := 56) (i := 28) (k := 0) (n := 2) rfl rfl rfl ?_
    refine kw_callV (pc := 57) (i := 29) (Y := mX1_milesOf) (a := 17) (As := [.int s, .int z9]) (st := [.ref 8]) kw_hE rfl rfl lvX7_222 arX1_milesOf (c_X1_milesOf_17 l S17 I18 s z9 ) (by decide) (Nat.le_of_ble_eq_true rfl) rfl (fun v S22 p21 => ?_)
    obtain ⟨e24, z23, rfl⟩ := p21
    rw [e24]
    have r_z23 := kw_rng z23
    show kw_AW l 4 kw_E0 KX mX7_goes (p_X7_goes_0 σ s) 60 [(2, .int z9), (0, .ref 0), (1, .int s)] [.int z23, .ref 8] S17
    refine kw_callV (pc := 60) (i := 30) (Y := mX4_answer) (a := 8) (As := [.int z23]) (st := []) kw_hE rfl rfl lvX7_92 arX4_answer (c_X4_answer_8 l S17 I18 z23 ) (by decide) (Nat.le_of_ble_eq_true rfl) rfl (fun v S26 p25 => ?_)
    obtain ⟨⟨I29, F30⟩, z28, rfl, f27⟩ := p25
    have F31 : kw_F [8, 28] σ S26 := kw_F.tr F20 F30 (by decide)
    have r_z28 := kw_rng z28
    show kw_AW l 4 kw_E0 KX mX7_goes (p_X7_goes_0 σ s) 63 [(2, .int z9), (0, .ref 0), (1, .int s)] [.int z28] S26
    exact kw_ireturn (pc := 63) (i := 31) (ty := .int) rfl rfl rfl ⟨⟨I29, F31⟩, _, rfl⟩
  · refine kw_iconst (pc := 14) (i := 6) (v := (-1)) rfl rfl ?_
    exact kw_ireturn (pc := 15) (i := 7) (ty := .int) rfl rfl rfl ⟨⟨hI, hF0⟩, _, rfl⟩
abbrev p_X7_even_0 (σ : kw_S) (m : Int32) : Option Value → kw_S → Prop := fun v σ' => (kw_I bX σ' ∧ kw_F [8, 28, 6, 22, 23] σ σ') ∧ ∃ r : Int32, v = some (.int r)
set_option maxRecDepth 100000 in
set_option maxHeartbeats 4000000 in
theorem c_X7_even_0 (l : Launch) (σ : kw_S) (hI : kw_I bX σ) (m : Int32) : kw_Met l 4 KX mX7_even [.ref 0, .int m] σ (p_X7_even_0 σ m) := by
  have r_m := kw_rng m
  have hF0 : kw_F [8, 28, 6, 22, 23] σ σ := kw_F.rf
  have q_m99 : (-99 : Int32).toInt = -99 := rfl
  have q_m9 : (-9 : Int32).toInt = -9 := rfl
  have q_m4 : (-4 : Int32).toInt = -4 := rfl
  have q_m1 : (-1 : Int32).toInt = -1 := rfl
  have q_0 : (0 : Int32).toInt = 0 := rfl
  have q_99 : (99 : Int32).toInt = 99 := rfl
  refine kw_Met.of (by decide) rfl tX7_even (Nat.le_of_ble_eq_true rfl) ?_
  show kw_AW l 4 kw_E0 KX mX7_even (p_X7_even_0 σ m) 0 [(0, .ref 0), (1, .int m)] [] σ
  refine kw_iload_n (pc := 0) (i := 0) (k := 1) (n := 1) rfl rfl rfl ?_
  refine kw_bipush (pc := 1) (i := 1) (v := (-99)) rfl rfl ?_
  refine kw_icmp_lt (pc := 3) (i := 2) (tgt := 12) rfl rfl (fun c1 => ?_) (fun c1 => ?_)
  · refine kw_iconst (pc := 12) (i := 6) (v := (-1)) rfl rfl ?_
    exact kw_ireturn (pc := 13) (i := 7) (ty := .int) rfl rfl rfl ⟨⟨hI, hF0⟩, _, rfl⟩
  · refine kw_iload_n (pc := 6) (i := 3) (k := 1) (n := 1) rfl rfl rfl ?_
    refine kw_bipush (pc := 7) (i := 4) (v := 99) rfl rfl ?_
    refine kw_icmp_le (pc := 9) (i := 5) (tgt := 14) rfl rfl (fun c2 => ?_) (fun c2 => ?_)
    · refine kw_aload_n (pc := 14) (i := 8) (k := 0) (n := 0) rfl rfl rfl ?_
      refine kw_get (pc := 15) (i := 9) (v := .ref 4) rfl rfl rfl lkX7_31 (fun _ => rfl) ?_
      refine kw_callV (pc := 18) (i := 10) (Y := mX5_isEmpty) (a := 4) (As := []) (st := []) kw_hE rfl rfl lvX7_178 arX5_isEmpty (c_X5_isEmpty_4 l σ hI  ) (by decide) (Nat.le_of_ble_eq_true rfl) rfl (fun v S4 p3 => ?_)
      obtain ⟨e8, z7, rfl, f5, f6⟩ := p3
      rw [e8]
      have r_z7 := kw_rng z7
      show kw_AW l 4 kw_E0 KX mX7_even (p_X7_even_0 σ m) 21 [(0, .ref 0), (1, .int m)] [.int z7] σ
      refine kw_if_eq (pc := 21) (i := 11) (tgt := 27) rfl rfl (fun c9 => ?_) (fun c9 => ?_)
      · refine kw_aload_n (pc := 27) (i := 14) (k := 0) (n := 0) rfl rfl rfl ?_
        refine kw_get (pc := 28) (i := 15) (v := .ref 6) rfl rfl rfl lkX7_41 (fun _ => rfl) ?_
        refine kw_aload_n (pc := 31) (i := 16) (k := 0) (n := 0) rfl rfl rfl ?_
        refine kw_get (pc := 32) (i := 17) (v := .ref 4) rfl rfl rfl lkX7_31 (fun _ => rfl) ?_
        refine kw_get (pc := 35) (i := 18) (v := .ref 17) rfl rfl rfl lkX7_117 (fun _ => rfl) ?_
        refine kw_aload_n (pc := 38) (i := 19) (k := 0) (n := 0) rfl rfl rfl ?_
        refine kw_get (pc := 39) (i := 20) (v := .ref 4) rfl rfl rfl lkX7_31 (fun _ => rfl) ?_
        refine kw_callV (pc := 42) (i := 21) (Y := mX5_windNow) (a := 4) (As := []) (st := [.ref 17, .ref 6]) kw_hE rfl rfl lvX7_171 arX5_windNow (c_X5_windNow_4 l σ hI  ) (by decide) (Nat.le_of_ble_eq_true rfl) rfl (fun v S11 p10 => ?_)
        obtain ⟨e13, z12, rfl⟩ := p10
        rw [e13]
        have r_z12 := kw_rng z12
        show kw_AW l 4 kw_E0 KX mX7_even (p_X7_even_0 σ m) 45 [(0, .ref 0), (1, .int m)] [.int z12, .ref 17, .ref 6] σ
        refine kw_callV (pc := 45) (i := 22) (Y := mX0_draw) (a := 6) (As := [.ref 17, .int z12]) (st := []) kw_hE rfl rfl lvX7_225 arX0_draw (c_X0_draw_6_17 l σ hI z12 ) (by decide) (Nat.le_of_ble_eq_true rfl) rfl (fun v S15 p14 => ?_)
        obtain ⟨⟨I16, F17⟩, rfl⟩ := p14
        have F18 : kw_F [8, 28, 6, 22, 23] σ S15 := kw_F.tr hF0 F17 (by decide)
        show kw_AW l 4 kw_E0 KX mX7_even (p_X7_even_0 σ m) 48 [(0, .ref 0), (1, .int m)] [] S15
        refine kw_iconst (pc := 48) (i := 23) (v := 0) rfl rfl ?_
        refine kw_istore_n (pc := 49) (i := 24) (n := 2) (lv' := [(2, .int 0), (0, .ref 0), (1, .int m)]) rfl rfl (by decide) rfl ?_
        refine kw_bipush (pc := 50) (i := 25) (v := (-9)) rfl rfl ?_
        refine kw_istore_n (pc := 52) (i := 26) (n := 3) (lv' := [(3, .int (-9)), (2, .int 0), (0, .ref 0), (1, .int m)]) rfl rfl (by decide) rfl ?_
        refine kw_iconst (pc := 53) (i := 27) (v := 0) rfl rfl ?_
        refine kw_istore (pc := 54) (i := 28) (n := 4) (lv' := [(4, .int 0), (3, .int (-9)), (2, .int 0), (0, .ref 0), (1, .int m)]) rfl (by decide) rfl ?_
        refine kw_iconst (pc := 56) (i := 29) (v := 0) rfl rfl ?_
        refine kw_istore (pc := 57) (i := 30) (n := 5) (lv' := [(5, .int 0), (4, .int 0), (3, .int (-9)), (2, .int 0), (0, .ref 0), (1, .int m)]) rfl (by decide) rfl ?_
        have L23 : ∀ (n27 : Nat) (x19 : Int32) (x20 : Int32) (x21 : Int32) (x22 : Int32), 0 ≤ x19.toInt → (((S15.1 6 3)).toInt - x19.toInt).toNat < n27 → kw_AW l 4 kw_E0 KX mX7_even (p_X7_even_0 σ m) 59 [(5, .int x19), (4, .int x20), (3, .int x21), (2, .int x22), (0, .ref 0), (1, .int m)] [] S15 := by
          intro n27
          induction n27 with
          | zero => intro x19 x20 x21 x22 v25 m26; exact absurd m26 (Nat.not_lt_zero _)
          | succ n27 ih24 =>
            intro x19 x20 x21 x22 v25 m26
            have r_x19 := kw_rng x19
            have r_x20 := kw_rng x20
            have r_x21 := kw_rng x21
            have r_x22 := kw_rng x22
            refine kw_iload (pc := 59) (i := 31) (k := 0) (n := 5) rfl rfl ?_
            refine kw_aload_n (pc := 61) (i := 32) (k := 4) (n := 0) rfl rfl rfl ?_
            refine kw_get (pc := 62) (i := 33) (v := .ref 6) rfl rfl rfl lkX7_41 (fun _ => rfl) ?_
            refine kw_get (pc := 65) (i := 34) (v := .int (S15.1 6 3)) rfl rfl rfl lkX7_229 (fun _ => rfl) ?_
            have b28 := kw_rng (S15.1 6 3)
            refine kw_icmp_ge (pc := 68) (i := 35) (tgt := 129) rfl rfl (fun c29 => ?_) (fun c29 => ?_)
            · refine kw_aload_n (pc := 129) (i := 62) (k := 4) (n := 0) rfl rfl rfl ?_
              refine kw_get (pc := 130) (i := 63) (v := .ref 8) rfl rfl rfl lkX7_55 (fun _ => rfl) ?_
              refine kw_iload_n (pc := 133) (i := 64) (k := 3) (n := 2) rfl rfl rfl ?_
              refine kw_i2l (pc := 134) (i := 65) rfl (fun z30 e_z30 t_z30 => ?_)
              refine kw_callV (pc := 135) (i := 66) (Y := mX4_tellWhole) (a := 8) (As := [.long z30]) (st := []) kw_hE rfl rfl lvX7_200 arX4_tellWhole (c_X4_tellWhole_8 l S15 I16 z30 ) (by decide) (Nat.le_of_ble_eq_true rfl) rfl (fun v S32 p31 => ?_)
              obtain ⟨⟨I33, F34⟩, rfl⟩ := p31
              have F35 : kw_F [8, 28, 6, 22, 23] σ S32 := kw_F.tr F18 F34 (by decide)
              show kw_AW l 4 kw_E0 KX mX7_even (p_X7_even_0 σ m) 138 [(5, .int x19), (4, .int x20), (3, .int x21), (2, .int x22), (0, .ref 0), (1, .int m)] [] S32
              refine kw_aload_n (pc := 138) (i := 67) (k := 4) (n := 0) rfl rfl rfl ?_
              refine kw_get (pc := 139) (i := 68) (v := .ref 8) rfl rfl rfl lkX7_55 (fun _ => rfl) ?_
              refine kw_iload_n (pc := 142) (i := 69) (k := 2) (n := 3) rfl rfl rfl ?_
              refine kw_callV (pc := 143) (i := 70) (Y := mX4_answer) (a := 8) (As := [.int x21]) (st := []) kw_hE rfl rfl lvX7_92 arX4_answer (c_X4_answer_8 l S32 I33 x21 ) (by decide) (Nat.le_of_ble_eq_true rfl) rfl (fun v S37 p36 => ?_)
              obtain ⟨⟨I40, F41⟩, z39, rfl, f38⟩ := p36
              have F42 : kw_F [8, 28, 6, 22, 23] σ S37 := kw_F.tr F35 F41 (by decide)
              have r_z39 := kw_rng z39
              show kw_AW l 4 kw_E0 KX mX7_even (p_X7_even_0 σ m) 146 [(5, .int x19), (4, .int x20), (3, .int x21), (2, .int x22), (0, .ref 0), (1, .int m)] [.int z39] S37
              exact kw_ireturn (pc := 146) (i := 71) (ty := .int) rfl rfl rfl ⟨⟨I40, F42⟩, _, rfl⟩
            · refine kw_aload_n (pc := 71) (i := 36) (k := 4) (n := 0) rfl rfl rfl ?_
              refine kw_get (pc := 72) (i := 37) (v := .ref 6) rfl rfl rfl lkX7_41 (fun _ => rfl) ?_
              refine kw_iload (pc := 75) (i := 38) (k := 0) (n := 5) rfl rfl ?_
              refine kw_iload_n (pc := 77) (i := 39) (k := 5) (n := 1) rfl rfl rfl ?_
              refine kw_iconst (pc := 78) (i := 40) (v := 0) rfl rfl ?_
              refine kw_callV (pc := 79) (i := 41) (Y := mX0_fits) (a := 6) (As := [.int x19, .int m, .int 0]) (st := []) kw_hE rfl rfl lvX7_232 arX0_fits (c_X0_fits_6 l S15 I16 x19 m 0 ) (by decide) (Nat.le_of_ble_eq_true rfl) rfl (fun v S44 p43 => ?_)
              obtain ⟨e47, z46, rfl, f45⟩ := p43
              rw [e47]
              have r_z46 := kw_rng z46
              show kw_AW l 4 kw_E0 KX mX7_even (p_X7_even_0 σ m) 82 [(5, .int x19), (4, .int x20), (3, .int x21), (2, .int x22), (0, .ref 0), (1, .int m)] [.int z46] S15
              refine kw_if_ne (pc := 82) (i := 42) (tgt := 88) rfl rfl (fun c48 => ?_) (fun c48 => ?_)
              · refine kw_aload_n (pc := 88) (i := 44) (k := 4) (n := 0) rfl rfl rfl ?_
                refine kw_get (pc := 89) (i := 45) (v := .ref 4) rfl rfl rfl lkX7_31 (fun _ => rfl) ?_
                refine kw_get (pc := 92) (i := 46) (v := .ref 17) rfl rfl rfl lkX7_117 (fun _ => rfl) ?_
                refine kw_iload (pc := 95) (i := 47) (k := 0) (n := 5) rfl rfl ?_
                refine kw_callV (pc := 97) (i := 48) (Y := mX1_linenOf) (a := 17) (As := [.int x19]) (st := []) kw_hE rfl rfl lvX7_235 arX1_linenOf (c_X1_linenOf_17 l S15 I16 x19 ) (by decide) (Nat.le_of_ble_eq_true rfl) rfl (fun v S50 p49 => ?_)
                obtain ⟨e52, z51, rfl⟩ := p49
                rw [e52]
                have r_z51 := kw_rng z51
                show kw_AW l 4 kw_E0 KX mX7_even (p_X7_even_0 σ m) 100 [(5, .int x19), (4, .int x20), (3, .int x21), (2, .int x22), (0, .ref 0), (1, .int m)] [.int z51] S15
                refine kw_istore (pc := 100) (i := 49) (n := 6) (lv' := [(6, .int z51), (5, .int x19), (4, .int x20), (3, .int x21), (2, .int x22), (0, .ref 0), (1, .int m)]) rfl (by decide) rfl ?_
                refine kw_iload_n (pc := 102) (i := 50) (k := 4) (n := 2) rfl rfl rfl ?_
                refine kw_if_eq (pc := 103) (i := 51) (tgt := 113) rfl rfl (fun c53 => ?_) (fun c53 => ?_)
                · refine kw_iload (pc := 113) (i := 55) (k := 1) (n := 5) rfl rfl ?_
                  refine kw_istore_n (pc := 115) (i := 56) (n := 3) (lv' := [(3, .int x19), (6, .int z51), (5, .int x19), (4, .int x20), (2, .int x22), (0, .ref 0), (1, .int m)]) rfl rfl (by decide) rfl ?_
                  refine kw_iload (pc := 116) (i := 57) (k := 1) (n := 6) rfl rfl ?_
                  refine kw_istore (pc := 118) (i := 58) (n := 4) (lv' := [(4, .int z51), (3, .int x19), (6, .int z51), (5, .int x19), (2, .int x22), (0, .ref 0), (1, .int m)]) rfl (by decide) rfl ?_
                  refine kw_iinc' (pc := 120) (i := 59) (k := 4) (fun z => [(2, .int z), (4, .int z51), (3, .int x19), (6, .int z51), (5, .int x19), (0, .ref 0), (1, .int m)]) rfl rfl (by decide) rfl (fun _ => rfl) (fun z54 e_z54 t_z54 => ?_)
                  refine kw_iinc' (pc := 123) (i := 60) (k := 4) (fun z => [(5, .int z), (2, .int z54), (4, .int z51), (3, .int x19), (6, .int z51), (0, .ref 0), (1, .int m)]) rfl rfl (by decide) rfl (fun _ => rfl) (fun z55 e_z55 t_z55 => ?_)
                  refine kw_goto (pc := 126) (i := 61) (tgt := 59) rfl rfl ?_
                  refine kw_sub (lv' := [(5, .int z55), (4, .int z51), (3, .int x19), (2, .int z54), (0, .ref 0), (1, .int m)]) [0, 2, 3, 1, 5, 6] rfl ?_
                  exact ih24 z55 z51 x19 z54 (by omega) (by omega)
                · refine kw_iload (pc := 106) (i := 52) (k := 0) (n := 6) rfl rfl ?_
                  refine kw_iload (pc := 108) (i := 53) (k := 2) (n := 4) rfl rfl ?_
                  refine kw_icmp_ge (pc := 110) (i := 54) (tgt := 120) rfl rfl (fun c56 => ?_) (fun c56 => ?_)
                  · refine kw_iinc' (pc := 120) (i := 59) (k := 4) (fun z => [(2, .int z), (6, .int z51), (5, .int x19), (4, .int x20), (3, .int x21), (0, .ref 0), (1, .int m)]) rfl rfl (by decide) rfl (fun _ => rfl) (fun z57 e_z57 t_z57 => ?_)
                    refine kw_iinc' (pc := 123) (i := 60) (k := 2) (fun z => [(5, .int z), (2, .int z57), (6, .int z51), (4, .int x20), (3, .int x21), (0, .ref 0), (1, .int m)]) rfl rfl (by decide) rfl (fun _ => rfl) (fun z58 e_z58 t_z58 => ?_)
                    refine kw_goto (pc := 126) (i := 61) (tgt := 59) rfl rfl ?_
                    refine kw_sub (lv' := [(5, .int z58), (4, .int x20), (3, .int x21), (2, .int z57), (0, .ref 0), (1, .int m)]) [0, 3, 4, 1, 5, 6] rfl ?_
                    exact ih24 z58 x20 x21 z57 (by omega) (by omega)
                  · refine kw_iload (pc := 113) (i := 55) (k := 1) (n := 5) rfl rfl ?_
                    refine kw_istore_n (pc := 115) (i := 56) (n := 3) (lv' := [(3, .int x19), (6, .int z51), (5, .int x19), (4, .int x20), (2, .int x22), (0, .ref 0), (1, .int m)]) rfl rfl (by decide) rfl ?_
                    refine kw_iload (pc := 116) (i := 57) (k := 1) (n := 6) rfl rfl ?_
                    refine kw_istore (pc := 118) (i := 58) (n := 4) (lv' := [(4, .int z51), (3, .int x19), (6, .int z51), (5, .int x19), (2, .int x22), (0, .ref 0), (1, .int m)]) rfl (by decide) rfl ?_
                    refine kw_iinc' (pc := 120) (i := 59) (k := 4) (fun z => [(2, .int z), (4, .int z51), (3, .int x19), (6, .int z51), (5, .int x19), (0, .ref 0), (1, .int m)]) rfl rfl (by decide) rfl (fun _ => rfl) (fun z59 e_z59 t_z59 => ?_)
                    refine kw_iinc' (pc := 123) (i := 60) (k := 4) (fun z => [(5, .int z), (2, .int z59), (4, .int z51), (3, .int x19), (6, .int z51), (0, .ref 0), (1, .int m)]) rfl rfl (by decide) rfl (fun _ => rfl) (fun z60 e_z60 t_z60 => ?_)
                    refine kw_goto (pc := 126) (i := 61) (tgt := 59) rfl rfl ?_
                    refine kw_sub (lv' := [(5, .int z60), (4, .int z51), (3, .int x19), (2, .int z59), (0, .ref 0), (1, .int m)]) [0, 2, 3, 1, 5, 6] rfl ?_
                    exact ih24 z60 z51 x19 z59 (by omega) (by omega)
              · refine kw_goto (pc := 85) (i := 43) (tgt := 123) rfl rfl ?_
                refine kw_iinc' (pc := 123) (i := 60) (k := 0) (fun z => [(5, .int z), (4, .int x20), (3, .int x21), (2, .int x22), (0, .ref 0), (1, .int m)]) rfl rfl (by decide) rfl (fun _ => rfl) (fun z61 e_z61 t_z61 => ?_)
                refine kw_goto (pc := 126) (i := 61) (tgt := 59) rfl rfl ?_
                refine kw_sub (lv' := [(5, .int z61), (4, .int x20), (3, .int x21), (2, .int x22), (0, .ref 0), (1, .int m)]) [0, 1, 2, 3, 4, 5] rfl ?_
                exact ih24 z61 x20 x21 x22 (by omega) (by omega)
        exact L23 _ 0 0 (-9) 0 (by omega) (Nat.lt_succ_self _)
      · refine kw_bipush (pc := 24) (i := 12) (v := (-4)) rfl rfl ?_
        exact kw_ireturn (pc := 26) (i := 13) (ty := .int) rfl rfl rfl ⟨⟨hI, hF0⟩, _, rfl⟩
    · refine kw_iconst (pc := 12) (i := 6) (v := (-1)) rfl rfl ?_
      exact kw_ireturn (pc := 13) (i := 7) (ty := .int) rfl rfl rfl ⟨⟨hI, hF0⟩, _, rfl⟩
abbrev p_X7_fast_0 (σ : kw_S) (m : Int32) : Option Value → kw_S → Prop := fun v σ' => (kw_I bX σ' ∧ kw_F [8, 28, 6, 22, 23] σ σ') ∧ ∃ r : Int32, v = some (.int r)
set_option maxRecDepth 100000 in
set_option maxHeartbeats 4000000 in
theorem c_X7_fast_0 (l : Launch) (σ : kw_S) (hI : kw_I bX σ) (m : Int32) : kw_Met l 4 KX mX7_fast [.ref 0, .int m] σ (p_X7_fast_0 σ m) := by
  have r_m := kw_rng m
  have hF0 : kw_F [8, 28, 6, 22, 23] σ σ := kw_F.rf
  have q_m4 : (-4 : Int32).toInt = -4 := rfl
  have q_m1 : (-1 : Int32).toInt = -1 := rfl
  have q_0 : (0 : Int32).toInt = 0 := rfl
  have q_1 : (1 : Int32).toInt = 1 := rfl
  have q_99 : (99 : Int32).toInt = 99 := rfl
  refine kw_Met.of (by decide) rfl tX7_fast (Nat.le_of_ble_eq_true rfl) ?_
  show kw_AW l 4 kw_E0 KX mX7_fast (p_X7_fast_0 σ m) 0 [(0, .ref 0), (1, .int m)] [] σ
  refine kw_iload_n (pc := 0) (i := 0) (k := 1) (n := 1) rfl rfl rfl ?_
  refine kw_if_lt (pc := 1) (i := 1) (tgt := 10) rfl rfl (fun c1 => ?_) (fun c1 => ?_)
  · refine kw_iconst (pc := 10) (i := 5) (v := (-1)) rfl rfl ?_
    exact kw_ireturn (pc := 11) (i := 6) (ty := .int) rfl rfl rfl ⟨⟨hI, hF0⟩, _, rfl⟩
  · refine kw_iload_n (pc := 4) (i := 2) (k := 1) (n := 1) rfl rfl rfl ?_
    refine kw_bipush (pc := 5) (i := 3) (v := 99) rfl rfl ?_
    refine kw_icmp_le (pc := 7) (i := 4) (tgt := 12) rfl rfl (fun c2 => ?_) (fun c2 => ?_)
    · refine kw_aload_n (pc := 12) (i := 7) (k := 0) (n := 0) rfl rfl rfl ?_
      refine kw_get (pc := 13) (i := 8) (v := .ref 4) rfl rfl rfl lkX7_31 (fun _ => rfl) ?_
      refine kw_callV (pc := 16) (i := 9) (Y := mX5_isEmpty) (a := 4) (As := []) (st := []) kw_hE rfl rfl lvX7_178 arX5_isEmpty (c_X5_isEmpty_4 l σ hI  ) (by decide) (Nat.le_of_ble_eq_true rfl) rfl (fun v S4 p3 => ?_)
      obtain ⟨e8, z7, rfl, f5, f6⟩ := p3
      rw [e8]
      have r_z7 := kw_rng z7
      show kw_AW l 4 kw_E0 KX mX7_fast (p_X7_fast_0 σ m) 19 [(0, .ref 0), (1, .int m)] [.int z7] σ
      refine kw_if_eq (pc := 19) (i := 10) (tgt := 25) rfl rfl (fun c9 => ?_) (fun c9 => ?_)
      · refine kw_aload_n (pc := 25) (i := 13) (k := 0) (n := 0) rfl rfl rfl ?_
        refine kw_get (pc := 26) (i := 14) (v := .ref 6) rfl rfl rfl lkX7_41 (fun _ => rfl) ?_
        refine kw_aload_n (pc := 29) (i := 15) (k := 0) (n := 0) rfl rfl rfl ?_
        refine kw_get (pc := 30) (i := 16) (v := .ref 4) rfl rfl rfl lkX7_31 (fun _ => rfl) ?_
        refine kw_get (pc := 33) (i := 17) (v := .ref 17) rfl rfl rfl lkX7_117 (fun _ => rfl) ?_
        refine kw_aload_n (pc := 36) (i := 18) (k := 0) (n := 0) rfl rfl rfl ?_
        refine kw_get (pc := 37) (i := 19) (v := .ref 4) rfl rfl rfl lkX7_31 (fun _ => rfl) ?_
        refine kw_callV (pc := 40) (i := 20) (Y := mX5_windNow) (a := 4) (As := []) (st := [.ref 17, .ref 6]) kw_hE rfl rfl lvX7_171 arX5_windNow (c_X5_windNow_4 l σ hI  ) (by decide) (Nat.le_of_ble_eq_true rfl) rfl (fun v S11 p10 => ?_)
        obtain ⟨e13, z12, rfl⟩ := p10
        rw [e13]
        have r_z12 := kw_rng z12
        show kw_AW l 4 kw_E0 KX mX7_fast (p_X7_fast_0 σ m) 43 [(0, .ref 0), (1, .int m)] [.int z12, .ref 17, .ref 6] σ
        refine kw_callV (pc := 43) (i := 21) (Y := mX0_draw) (a := 6) (As := [.ref 17, .int z12]) (st := []) kw_hE rfl rfl lvX7_225 arX0_draw (c_X0_draw_6_17 l σ hI z12 ) (by decide) (Nat.le_of_ble_eq_true rfl) rfl (fun v S15 p14 => ?_)
        obtain ⟨⟨I16, F17⟩, rfl⟩ := p14
        have F18 : kw_F [8, 28, 6, 22, 23] σ S15 := kw_F.tr hF0 F17 (by decide)
        show kw_AW l 4 kw_E0 KX mX7_fast (p_X7_fast_0 σ m) 46 [(0, .ref 0), (1, .int m)] [] S15
        refine kw_iconst (pc := 46) (i := 22) (v := 0) rfl rfl ?_
        refine kw_istore_n (pc := 47) (i := 23) (n := 2) (lv' := [(2, .int 0), (0, .ref 0), (1, .int m)]) rfl rfl (by decide) rfl ?_
        refine kw_iconst (pc := 48) (i := 24) (v := 1) rfl rfl ?_
        refine kw_istore_n (pc := 49) (i := 25) (n := 3) (lv' := [(3, .int 1), (2, .int 0), (0, .ref 0), (1, .int m)]) rfl rfl (by decide) rfl ?_
        have L21 : ∀ (n25 : Nat) (x19 : Int32) (x20 : Int32), 0 ≤ x19.toInt → (((S15.1 6 3)).toInt - x19.toInt).toNat < n25 → kw_AW l 4 kw_E0 KX mX7_fast (p_X7_fast_0 σ m) 50 [(3, .int x19), (2, .int x20), (0, .ref 0), (1, .int m)] [] S15 := by
          intro n25
          induction n25 with
          | zero => intro x19 x20 v23 m24; exact absurd m24 (Nat.not_lt_zero _)
          | succ n25 ih22 =>
            intro x19 x20 v23 m24
            have r_x19 := kw_rng x19
            have r_x20 := kw_rng x20
            refine kw_iload_n (pc := 50) (i := 26) (k := 0) (n := 3) rfl rfl rfl ?_
            refine kw_aload_n (pc := 51) (i := 27) (k := 2) (n := 0) rfl rfl rfl ?_
            refine kw_get (pc := 52) (i := 28) (v := .ref 6) rfl rfl rfl lkX7_41 (fun _ => rfl) ?_
            refine kw_get (pc := 55) (i := 29) (v := .int (S15.1 6 3)) rfl rfl rfl lkX7_229 (fun _ => rfl) ?_
            have b26 := kw_rng (S15.1 6 3)
            refine kw_icmp_ge (pc := 58) (i := 30) (tgt := 103) rfl rfl (fun c27 => ?_) (fun c27 => ?_)
            · refine kw_aload_n (pc := 103) (i := 51) (k := 2) (n := 0) rfl rfl rfl ?_
              refine kw_get (pc := 104) (i := 52) (v := .ref 8) rfl rfl rfl lkX7_55 (fun _ => rfl) ?_
              refine kw_iload_n (pc := 107) (i := 53) (k := 1) (n := 2) rfl rfl rfl ?_
              refine kw_callV (pc := 108) (i := 54) (Y := mX4_answer) (a := 8) (As := [.int x20]) (st := []) kw_hE rfl rfl lvX7_92 arX4_answer (c_X4_answer_8 l S15 I16 x20 ) (by decide) (Nat.le_of_ble_eq_true rfl) rfl (fun v S29 p28 => ?_)
              obtain ⟨⟨I32, F33⟩, z31, rfl, f30⟩ := p28
              have F34 : kw_F [8, 28, 6, 22, 23] σ S29 := kw_F.tr F18 F33 (by decide)
              have r_z31 := kw_rng z31
              show kw_AW l 4 kw_E0 KX mX7_fast (p_X7_fast_0 σ m) 111 [(3, .int x19), (2, .int x20), (0, .ref 0), (1, .int m)] [.int z31] S29
              refine kw_pop (pc := 111) (i := 55) rfl rfl ?_
              refine kw_aload_n (pc := 112) (i := 56) (k := 2) (n := 0) rfl rfl rfl ?_
              refine kw_get (pc := 113) (i := 57) (v := .ref 6) rfl rfl rfl lkX7_41 (fun _ => rfl) ?_
              refine kw_iload_n (pc := 116) (i := 58) (k := 1) (n := 2) rfl rfl rfl ?_
              refine kw_callV (pc := 117) (i := 59) (Y := mX0_milesOf) (a := 6) (As := [.int x20]) (st := []) kw_hE rfl rfl lvX7_238 arX0_milesOf (c_X0_milesOf_6 l S29 I32 x20 ) (by decide) (Nat.le_of_ble_eq_true rfl) rfl (fun v S36 p35 => ?_)
              obtain ⟨e38, z37, rfl⟩ := p35
              rw [e38]
              have r_z37 := kw_rng z37
              show kw_AW l 4 kw_E0 KX mX7_fast (p_X7_fast_0 σ m) 120 [(3, .int x19), (2, .int x20), (0, .ref 0), (1, .int m)] [.int z37] S29
              exact kw_ireturn (pc := 120) (i := 60) (ty := .int) rfl rfl rfl ⟨⟨I32, F34⟩, _, rfl⟩
            · refine kw_aload_n (pc := 61) (i := 31) (k := 2) (n := 0) rfl rfl rfl ?_
              refine kw_get (pc := 62) (i := 32) (v := .ref 4) rfl rfl rfl lkX7_31 (fun _ => rfl) ?_
              refine kw_get (pc := 65) (i := 33) (v := .ref 17) rfl rfl rfl lkX7_117 (fun _ => rfl) ?_
              refine kw_iload_n (pc := 68) (i := 34) (k := 0) (n := 3) rfl rfl rfl ?_
              refine kw_callV (pc := 69) (i := 35) (Y := mX1_linenOf) (a := 17) (As := [.int x19]) (st := []) kw_hE rfl rfl lvX7_235 arX1_linenOf (c_X1_linenOf_17 l S15 I16 x19 ) (by decide) (Nat.le_of_ble_eq_true rfl) rfl (fun v S40 p39 => ?_)
              obtain ⟨e42, z41, rfl⟩ := p39
              rw [e42]
              have r_z41 := kw_rng z41
              show kw_AW l 4 kw_E0 KX mX7_fast (p_X7_fast_0 σ m) 72 [(3, .int x19), (2, .int x20), (0, .ref 0), (1, .int m)] [.int z41] S15
              refine kw_iload_n (pc := 72) (i := 36) (k := 3) (n := 1) rfl rfl rfl ?_
              refine kw_icmp_gt (pc := 73) (i := 37) (tgt := 97) rfl rfl (fun c43 => ?_) (fun c43 => ?_)
              · refine kw_iinc' (pc := 97) (i := 49) (k := 0) (fun z => [(3, .int z), (2, .int x20), (0, .ref 0), (1, .int m)]) rfl rfl (by decide) rfl (fun _ => rfl) (fun z44 e_z44 t_z44 => ?_)
                refine kw_goto (pc := 100) (i := 50) (tgt := 50) rfl rfl ?_
                refine kw_sub (lv' := [(3, .int z44), (2, .int x20), (0, .ref 0), (1, .int m)]) [0, 1, 2, 3] rfl ?_
                exact ih22 z44 x20 (by omega) (by omega)
              · refine kw_aload_n (pc := 76) (i := 38) (k := 2) (n := 0) rfl rfl rfl ?_
                refine kw_get (pc := 77) (i := 39) (v := .ref 6) rfl rfl rfl lkX7_41 (fun _ => rfl) ?_
                refine kw_iload_n (pc := 80) (i := 40) (k := 0) (n := 3) rfl rfl rfl ?_
                refine kw_callV (pc := 81) (i := 41) (Y := mX0_milesOf) (a := 6) (As := [.int x19]) (st := []) kw_hE rfl rfl lvX7_238 arX0_milesOf (c_X0_milesOf_6 l S15 I16 x19 ) (by decide) (Nat.le_of_ble_eq_true rfl) rfl (fun v S46 p45 => ?_)
                obtain ⟨e48, z47, rfl⟩ := p45
                rw [e48]
                have r_z47 := kw_rng z47
                show kw_AW l 4 kw_E0 KX mX7_fast (p_X7_fast_0 σ m) 84 [(3, .int x19), (2, .int x20), (0, .ref 0), (1, .int m)] [.int z47] S15
                refine kw_aload_n (pc := 84) (i := 42) (k := 2) (n := 0) rfl rfl rfl ?_
                refine kw_get (pc := 85) (i := 43) (v := .ref 6) rfl rfl rfl lkX7_41 (fun _ => rfl) ?_
                refine kw_iload_n (pc := 88) (i := 44) (k := 1) (n := 2) rfl rfl rfl ?_
                refine kw_callV (pc := 89) (i := 45) (Y := mX0_milesOf) (a := 6) (As := [.int x20]) (st := [.int z47]) kw_hE rfl rfl lvX7_238 arX0_milesOf (c_X0_milesOf_6 l S15 I16 x20 ) (by decide) (Nat.le_of_ble_eq_true rfl) rfl (fun v S50 p49 => ?_)
                obtain ⟨e52, z51, rfl⟩ := p49
                rw [e52]
                have r_z51 := kw_rng z51
                show kw_AW l 4 kw_E0 KX mX7_fast (p_X7_fast_0 σ m) 92 [(3, .int x19), (2, .int x20), (0, .ref 0), (1, .int m)] [.int z51, .int z47] S15
                refine kw_icmp_le (pc := 92) (i := 46) (tgt := 97) rfl rfl (fun c53 => ?_) (fun c53 => ?_)
                · refine kw_iinc' (pc := 97) (i := 49) (k := 0) (fun z => [(3, .int z), (2, .int x20), (0, .ref 0), (1, .int m)]) rfl rfl (by decide) rfl (fun _ => rfl) (fun z54 e_z54 t_z54 => ?_)
                  refine kw_goto (pc := 100) (i := 50) (tgt := 50) rfl rfl ?_
                  refine kw_sub (lv' := [(3, .int z54), (2, .int x20), (0, .ref 0), (1, .int m)]) [0, 1, 2, 3] rfl ?_
                  exact ih22 z54 x20 (by omega) (by omega)
                · refine kw_iload_n (pc := 95) (i := 47) (k := 0) (n := 3) rfl rfl rfl ?_
                  refine kw_istore_n (pc := 96) (i := 48) (n := 2) (lv' := [(2, .int x19), (3, .int x19), (0, .ref 0), (1, .int m)]) rfl rfl (by decide) rfl ?_
                  refine kw_iinc' (pc := 97) (i := 49) (k := 1) (fun z => [(3, .int z), (2, .int x19), (0, .ref 0), (1, .int m)]) rfl rfl (by decide) rfl (fun _ => rfl) (fun z55 e_z55 t_z55 => ?_)
                  refine kw_goto (pc := 100) (i := 50) (tgt := 50) rfl rfl ?_
                  refine kw_sub (lv' := [(3, .int z55), (2, .int x19), (0, .ref 0), (1, .int m)]) [0, 1, 2, 3] rfl ?_
                  exact ih22 z55 x19 (by omega) (by omega)
        exact L21 _ 1 0 (by omega) (Nat.lt_succ_self _)
      · refine kw_bipush (pc := 22) (i := 11) (v := (-4)) rfl rfl ?_
        exact kw_ireturn (pc := 24) (i := 12) (ty := .int) rfl rfl rfl ⟨⟨hI, hF0⟩, _, rfl⟩
    · refine kw_iconst (pc := 10) (i := 5) (v := (-1)) rfl rfl ?_
      exact kw_ireturn (pc := 11) (i := 6) (ty := .int) rfl rfl rfl ⟨⟨hI, hF0⟩, _, rfl⟩
abbrev p_X7_wet_0 (σ : kw_S)  : Option Value → kw_S → Prop := fun v σ' => (kw_I bX σ' ∧ kw_F [8, 28] σ σ') ∧ ∃ r : Int32, v = some (.int r)
set_option maxRecDepth 100000 in
set_option maxHeartbeats 4000000 in
theorem c_X7_wet_0 (l : Launch) (σ : kw_S) (hI : kw_I bX σ)  : kw_Met l 2 KX mX7_wet [.ref 0] σ (p_X7_wet_0 σ) := by
  have hF0 : kw_F [8, 28] σ σ := kw_F.rf
  have q_m1 : (-1 : Int32).toInt = -1 := rfl
  refine kw_Met.of (by decide) rfl tX7_wet (Nat.le_of_ble_eq_true rfl) ?_
  show kw_AW l 2 kw_E0 KX mX7_wet (p_X7_wet_0 σ) 0 [(0, .ref 0)] [] σ
  refine kw_aload_n (pc := 0) (i := 0) (k := 0) (n := 0) rfl rfl rfl ?_
  refine kw_get (pc := 1) (i := 1) (v := .ref 8) rfl rfl rfl lkX7_55 (fun _ => rfl) ?_
  refine kw_aload_n (pc := 4) (i := 2) (k := 0) (n := 0) rfl rfl rfl ?_
  refine kw_get (pc := 5) (i := 3) (v := .ref 4) rfl rfl rfl lkX7_31 (fun _ => rfl) ?_
  refine kw_callV (pc := 8) (i := 4) (Y := mX5_allWet) (a := 4) (As := []) (st := [.ref 8]) kw_hE rfl rfl lvX7_240 arX5_allWet (c_X5_allWet_4 l σ hI  ) (by decide) (Nat.le_of_ble_eq_true rfl) rfl (fun v S2 p1 => ?_)
  obtain ⟨e4, z3, rfl⟩ := p1
  rw [e4]
  have r_z3 := kw_rng z3
  show kw_AW l 2 kw_E0 KX mX7_wet (p_X7_wet_0 σ) 11 [(0, .ref 0)] [.int z3, .ref 8] σ
  refine kw_callV (pc := 11) (i := 5) (Y := mX4_answer) (a := 8) (As := [.int z3]) (st := []) kw_hE rfl rfl lvX7_92 arX4_answer (c_X4_answer_8 l σ hI z3 ) (by decide) (Nat.le_of_ble_eq_true rfl) rfl (fun v S6 p5 => ?_)
  obtain ⟨⟨I9, F10⟩, z8, rfl, f7⟩ := p5
  have F11 : kw_F [8, 28] σ S6 := kw_F.tr hF0 F10 (by decide)
  have r_z8 := kw_rng z8
  show kw_AW l 2 kw_E0 KX mX7_wet (p_X7_wet_0 σ) 14 [(0, .ref 0)] [.int z8] S6
  refine kw_pop (pc := 14) (i := 6) rfl rfl ?_
  refine kw_aload_n (pc := 15) (i := 7) (k := 0) (n := 0) rfl rfl rfl ?_
  refine kw_get (pc := 16) (i := 8) (v := .ref 4) rfl rfl rfl lkX7_31 (fun _ => rfl) ?_
  refine kw_get (pc := 19) (i := 9) (v := .ref 17) rfl rfl rfl lkX7_117 (fun _ => rfl) ?_
  refine kw_callV (pc := 22) (i := 10) (Y := mX1_allLines) (a := 17) (As := []) (st := []) kw_hE rfl rfl lvX7_243 arX1_allLines (c_X1_allLines_17 l S6 I9  ) (by decide) (Nat.le_of_ble_eq_true rfl) rfl (fun v S13 p12 => ?_)
  obtain ⟨e15, z14, rfl⟩ := p12
  rw [e15]
  have r_z14 := kw_rng z14
  show kw_AW l 2 kw_E0 KX mX7_wet (p_X7_wet_0 σ) 25 [(0, .ref 0)] [.int z14] S6
  refine kw_aload_n (pc := 25) (i := 11) (k := 0) (n := 0) rfl rfl rfl ?_
  refine kw_aload_n (pc := 26) (i := 12) (k := 0) (n := 0) rfl rfl rfl ?_
  refine kw_get (pc := 27) (i := 13) (v := .ref 4) rfl rfl rfl lkX7_31 (fun _ => rfl) ?_
  refine kw_get (pc := 30) (i := 14) (v := .ref 19) rfl rfl rfl lkX7_194 (fun _ => rfl) ?_
  refine kw_callV (pc := 33) (i := 15) (Y := mX7_drySet) (a := 0) (As := [.ref 19]) (st := [.int z14]) kw_hE rfl rfl lvX7_246 arX7_drySet (c_X7_drySet_0_19 l S6 I9  ) (by decide) (Nat.le_of_ble_eq_true rfl) rfl (fun v S17 p16 => ?_)
  obtain ⟨e19, z18, rfl⟩ := p16
  rw [e19]
  have r_z18 := kw_rng z18
  show kw_AW l 2 kw_E0 KX mX7_wet (p_X7_wet_0 σ) 36 [(0, .ref 0)] [.int z18, .int z14] S6
  refine kw_iconst (pc := 36) (i := 16) (v := (-1)) rfl rfl ?_
  refine kw_ixor (pc := 37) (i := 17) rfl (fun z20 e_z20 => ?_)
  have r_z20 := kw_rng z20
  refine kw_iand (pc := 38) (i := 18) rfl (fun z21 e_z21 => ?_)
  have r_z21 := kw_rng z21
  exact kw_ireturn (pc := 39) (i := 19) (ty := .int) rfl rfl rfl ⟨⟨I9, F11⟩, _, rfl⟩
abbrev p_X7_sail_0 (σ : kw_S) (a : Int32) : Option Value → kw_S → Prop := fun v σ' => (kw_I bX σ' ∧ kw_F [8, 28] σ σ') ∧ ∃ r : Int32, v = some (.int r)
set_option maxRecDepth 100000 in
set_option maxHeartbeats 4000000 in
theorem c_X7_sail_0 (l : Launch) (σ : kw_S) (hI : kw_I bX σ) (a : Int32) : kw_Met l 5 KX mX7_sail [.ref 0, .int a] σ (p_X7_sail_0 σ a) := by
  have r_a := kw_rng a
  have hF0 : kw_F [8, 28] σ σ := kw_F.rf
  have q_0 : (0 : Int32).toInt = 0 := rfl
  refine kw_Met.of (by decide) rfl tX7_sail (Nat.le_of_ble_eq_true rfl) ?_
  show kw_AW l 5 kw_E0 KX mX7_sail (p_X7_sail_0 σ a) 0 [(0, .ref 0), (1, .int a)] [] σ
  refine kw_aload_n (pc := 0) (i := 0) (k := 0) (n := 0) rfl rfl rfl ?_
  refine kw_iload_n (pc := 1) (i := 1) (k := 1) (n := 1) rfl rfl rfl ?_
  refine kw_callV (pc := 2) (i := 2) (Y := mX7_planRefusal) (a := 0) (As := [.int a]) (st := []) kw_hE rfl rfl lvX7_250 arX7_planRefusal (c_X7_planRefusal_0 l σ hI a ) (by decide) (Nat.le_of_ble_eq_true rfl) rfl (fun v S2 p1 => ?_)
  obtain ⟨⟨I5, F6⟩, z4, rfl, f3⟩ := p1
  have F7 : kw_F [8, 28] σ S2 := kw_F.tr hF0 F6 (by decide)
  have r_z4 := kw_rng z4
  show kw_AW l 5 kw_E0 KX mX7_sail (p_X7_sail_0 σ a) 5 [(0, .ref 0), (1, .int a)] [.int z4] S2
  refine kw_istore_n (pc := 5) (i := 3) (n := 2) (lv' := [(2, .int z4), (0, .ref 0), (1, .int a)]) rfl rfl (by decide) rfl ?_
  refine kw_iload_n (pc := 6) (i := 4) (k := 0) (n := 2) rfl rfl rfl ?_
  refine kw_if_eq (pc := 7) (i := 5) (tgt := 12) rfl rfl (fun c8 => ?_) (fun c8 => ?_)
  · refine kw_aload_n (pc := 12) (i := 8) (k := 1) (n := 0) rfl rfl rfl ?_
    refine kw_get (pc := 13) (i := 9) (v := .ref 4) rfl rfl rfl lkX7_31 (fun _ => rfl) ?_
    refine kw_get (pc := 16) (i := 10) (v := .int (S2.1 4 6)) rfl rfl rfl lkX7_204 (fun _ => rfl) ?_
    have b9 := kw_rng (S2.1 4 6)
    refine kw_istore_n (pc := 19) (i := 11) (n := 3) (lv' := [(3, .int (S2.1 4 6)), (2, .int z4), (0, .ref 0), (1, .int a)]) rfl rfl (by decide) rfl ?_
    refine kw_aload_n (pc := 20) (i := 12) (k := 2) (n := 0) rfl rfl rfl ?_
    refine kw_get (pc := 21) (i := 13) (v := .ref 4) rfl rfl rfl lkX7_31 (fun _ => rfl) ?_
    refine kw_get (pc := 24) (i := 14) (v := .int (S2.1 4 7)) rfl rfl rfl lkX7_197 (fun _ => rfl) ?_
    have b10 := kw_rng (S2.1 4 7)
    refine kw_istore (pc := 27) (i := 15) (n := 4) (lv' := [(4, .int (S2.1 4 7)), (3, .int (S2.1 4 6)), (2, .int z4), (0, .ref 0), (1, .int a)]) rfl (by decide) rfl ?_
    refine kw_iconst (pc := 29) (i := 16) (v := 0) rfl rfl ?_
    refine kw_istore (pc := 30) (i := 17) (n := 5) (lv' := [(5, .int 0), (4, .int (S2.1 4 7)), (3, .int (S2.1 4 6)), (2, .int z4), (0, .ref 0), (1, .int a)]) rfl (by decide) rfl ?_
    have L14 : ∀ (n18 : Nat) (x11 : Int32) (x12 : Int32) (x13 : Int32), 0 ≤ x11.toInt → (41 - x11.toInt).toNat < n18 → kw_AW l 5 kw_E0 KX mX7_sail (p_X7_sail_0 σ a) 32 [(5, .int x11), (4, .int x12), (3, .int x13), (2, .int z4), (0, .ref 0), (1, .int a)] [] S2 := by
      intro n18
      induction n18 with
      | zero => intro x11 x12 x13 v16 m17; exact absurd m17 (Nat.not_lt_zero _)
      | succ n18 ih15 =>
        intro x11 x12 x13 v16 m17
        have r_x11 := kw_rng x11
        have r_x12 := kw_rng x12
        have r_x13 := kw_rng x13
        refine kw_iload (pc := 32) (i := 18) (k := 0) (n := 5) rfl rfl ?_
        refine kw_aload_n (pc := 34) (i := 19) (k := 4) (n := 0) rfl rfl rfl ?_
        refine kw_get (pc := 35) (i := 20) (v := .ref 1) rfl rfl rfl lkX7_14 (fun _ => rfl) ?_
        refine kw_iload_n (pc := 38) (i := 21) (k := 5) (n := 1) rfl rfl rfl ?_
        refine kw_callV (pc := 39) (i := 22) (Y := mX3_sizeOf) (a := 1) (As := [.int a]) (st := [.int x11]) kw_hE rfl rfl lvX7_110 arX3_sizeOf (c_X3_sizeOf_1 l S2 I5 a ) (by decide) (Nat.le_of_ble_eq_true rfl) rfl (fun v S20 p19 => ?_)
        obtain ⟨e26, z25, rfl, f21, f22, f23, f24⟩ := p19
        rw [e26]
        have r_z25 := kw_rng z25
        show kw_AW l 5 kw_E0 KX mX7_sail (p_X7_sail_0 σ a) 42 [(5, .int x11), (4, .int x12), (3, .int x13), (2, .int z4), (0, .ref 0), (1, .int a)] [.int z25, .int x11] S2
        refine kw_icmp_ge (pc := 42) (i := 23) (tgt := 114) rfl rfl (fun c27 => ?_) (fun c27 => ?_)
        · refine kw_aload_n (pc := 114) (i := 57) (k := 4) (n := 0) rfl rfl rfl ?_
          refine kw_get (pc := 115) (i := 58) (v := .ref 8) rfl rfl rfl lkX7_55 (fun _ => rfl) ?_
          refine kw_iload (pc := 118) (i := 59) (k := 1) (n := 4) rfl rfl ?_
          refine kw_i2l (pc := 120) (i := 60) rfl (fun z28 e_z28 t_z28 => ?_)
          refine kw_callV (pc := 121) (i := 61) (Y := mX4_tellWhole) (a := 8) (As := [.long z28]) (st := []) kw_hE rfl rfl lvX7_200 arX4_tellWhole (c_X4_tellWhole_8 l S2 I5 z28 ) (by decide) (Nat.le_of_ble_eq_true rfl) rfl (fun v S30 p29 => ?_)
          obtain ⟨⟨I31, F32⟩, rfl⟩ := p29
          have F33 : kw_F [8, 28] σ S30 := kw_F.tr F7 F32 (by decide)
          show kw_AW l 5 kw_E0 KX mX7_sail (p_X7_sail_0 σ a) 124 [(5, .int x11), (4, .int x12), (3, .int x13), (2, .int z4), (0, .ref 0), (1, .int a)] [] S30
          refine kw_aload_n (pc := 124) (i := 62) (k := 4) (n := 0) rfl rfl rfl ?_
          refine kw_get (pc := 125) (i := 63) (v := .ref 8) rfl rfl rfl lkX7_55 (fun _ => rfl) ?_
          refine kw_iload_n (pc := 128) (i := 64) (k := 2) (n := 3) rfl rfl rfl ?_
          refine kw_callV (pc := 129) (i := 65) (Y := mX4_answer) (a := 8) (As := [.int x13]) (st := []) kw_hE rfl rfl lvX7_92 arX4_answer (c_X4_answer_8 l S30 I31 x13 ) (by decide) (Nat.le_of_ble_eq_true rfl) rfl (fun v S35 p34 => ?_)
          obtain ⟨⟨I38, F39⟩, z37, rfl, f36⟩ := p34
          have F40 : kw_F [8, 28] σ S35 := kw_F.tr F33 F39 (by decide)
          have r_z37 := kw_rng z37
          show kw_AW l 5 kw_E0 KX mX7_sail (p_X7_sail_0 σ a) 132 [(5, .int x11), (4, .int x12), (3, .int x13), (2, .int z4), (0, .ref 0), (1, .int a)] [.int z37] S35
          exact kw_ireturn (pc := 132) (i := 66) (ty := .int) rfl rfl rfl ⟨⟨I38, F40⟩, _, rfl⟩
        · refine kw_aload_n (pc := 45) (i := 24) (k := 4) (n := 0) rfl rfl rfl ?_
          refine kw_get (pc := 46) (i := 25) (v := .ref 4) rfl rfl rfl lkX7_31 (fun _ => rfl) ?_
          refine kw_iload (pc := 49) (i := 26) (k := 0) (n := 5) rfl rfl ?_
          refine kw_callV (pc := 51) (i := 27) (Y := mX5_windAhead) (a := 4) (As := [.int x11]) (st := []) kw_hE rfl rfl lvX7_253 arX5_windAhead (c_X5_windAhead_4 l S2 I5 x11 ) (by decide) (Nat.le_of_ble_eq_true rfl) rfl (fun v S42 p41 => ?_)
          obtain ⟨e44, z43, rfl⟩ := p41
          rw [e44]
          have r_z43 := kw_rng z43
          show kw_AW l 5 kw_E0 KX mX7_sail (p_X7_sail_0 σ a) 54 [(5, .int x11), (4, .int x12), (3, .int x13), (2, .int z4), (0, .ref 0), (1, .int a)] [.int z43] S2
          refine kw_istore (pc := 54) (i := 28) (n := 6) (lv' := [(6, .int z43), (5, .int x11), (4, .int x12), (3, .int x13), (2, .int z4), (0, .ref 0), (1, .int a)]) rfl (by decide) rfl ?_
          refine kw_iload_n (pc := 56) (i := 29) (k := 3) (n := 3) rfl rfl rfl ?_
          refine kw_aload_n (pc := 57) (i := 30) (k := 5) (n := 0) rfl rfl rfl ?_
          refine kw_get (pc := 58) (i := 31) (v := .ref 4) rfl rfl rfl lkX7_31 (fun _ => rfl) ?_
          refine kw_get (pc := 61) (i := 32) (v := .ref 17) rfl rfl rfl lkX7_117 (fun _ => rfl) ?_
          refine kw_aload_n (pc := 64) (i := 33) (k := 5) (n := 0) rfl rfl rfl ?_
          refine kw_get (pc := 65) (i := 34) (v := .ref 1) rfl rfl rfl lkX7_14 (fun _ => rfl) ?_
          refine kw_iload_n (pc := 68) (i := 35) (k := 6) (n := 1) rfl rfl rfl ?_
          refine kw_iload (pc := 69) (i := 36) (k := 1) (n := 5) rfl rfl ?_
          refine kw_callV (pc := 71) (i := 37) (Y := mX3_valueAt) (a := 1) (As := [.int a, .int x11]) (st := [.ref 17, .int x13]) kw_hE rfl rfl lvX7_85 arX3_valueAt (c_X3_valueAt_1 l S2 I5 a x11 ) (by decide) (Nat.le_of_ble_eq_true rfl) rfl (fun v S46 p45 => ?_)
          obtain ⟨e48, z47, rfl⟩ := p45
          rw [e48]
          have r_z47 := kw_rng z47
          show kw_AW l 5 kw_E0 KX mX7_sail (p_X7_sail_0 σ a) 74 [(6, .int z43), (5, .int x11), (4, .int x12), (3, .int x13), (2, .int z4), (0, .ref 0), (1, .int a)] [.int z47, .ref 17, .int x13] S2
          refine kw_iload (pc := 74) (i := 38) (k := 0) (n := 6) rfl rfl ?_
          refine kw_callV (pc := 76) (i := 39) (Y := mX1_milesOf) (a := 17) (As := [.int z47, .int z43]) (st := [.int x13]) kw_hE rfl rfl lvX7_222 arX1_milesOf (c_X1_milesOf_17 l S2 I5 z47 z43 ) (by decide) (Nat.le_of_ble_eq_true rfl) rfl (fun v S50 p49 => ?_)
          obtain ⟨e52, z51, rfl⟩ := p49
          rw [e52]
          have r_z51 := kw_rng z51
          show kw_AW l 5 kw_E0 KX mX7_sail (p_X7_sail_0 σ a) 79 [(6, .int z43), (5, .int x11), (4, .int x12), (3, .int x13), (2, .int z4), (0, .ref 0), (1, .int a)] [.int z51, .int x13] S2
          refine kw_iadd (pc := 79) (i := 40) rfl (fun z53 e_z53 t_z53 => ?_)
          refine kw_istore_n (pc := 80) (i := 41) (n := 3) (lv' := [(3, .int z53), (6, .int z43), (5, .int x11), (4, .int x12), (2, .int z4), (0, .ref 0), (1, .int a)]) rfl rfl (by decide) rfl ?_
          refine kw_iload (pc := 81) (i := 42) (k := 3) (n := 4) rfl rfl ?_
          refine kw_aload_n (pc := 83) (i := 43) (k := 5) (n := 0) rfl rfl rfl ?_
          refine kw_get (pc := 84) (i := 44) (v := .ref 4) rfl rfl rfl lkX7_31 (fun _ => rfl) ?_
          refine kw_get (pc := 87) (i := 45) (v := .ref 17) rfl rfl rfl lkX7_117 (fun _ => rfl) ?_
          refine kw_aload_n (pc := 90) (i := 46) (k := 5) (n := 0) rfl rfl rfl ?_
          refine kw_get (pc := 91) (i := 47) (v := .ref 1) rfl rfl rfl lkX7_14 (fun _ => rfl) ?_
          refine kw_iload_n (pc := 94) (i := 48) (k := 6) (n := 1) rfl rfl rfl ?_
          refine kw_iload (pc := 95) (i := 49) (k := 2) (n := 5) rfl rfl ?_
          refine kw_callV (pc := 97) (i := 50) (Y := mX3_valueAt) (a := 1) (As := [.int a, .int x11]) (st := [.ref 17, .int x12]) kw_hE rfl rfl lvX7_85 arX3_valueAt (c_X3_valueAt_1 l S2 I5 a x11 ) (by decide) (Nat.le_of_ble_eq_true rfl) rfl (fun v S55 p54 => ?_)
          obtain ⟨e57, z56, rfl⟩ := p54
          rw [e57]
          have r_z56 := kw_rng z56
          show kw_AW l 5 kw_E0 KX mX7_sail (p_X7_sail_0 σ a) 100 [(3, .int z53), (6, .int z43), (5, .int x11), (4, .int x12), (2, .int z4), (0, .ref 0), (1, .int a)] [.int z56, .ref 17, .int x12] S2
          refine kw_iload (pc := 100) (i := 51) (k := 1) (n := 6) rfl rfl ?_
          refine kw_callV (pc := 102) (i := 52) (Y := mX1_turnOf) (a := 17) (As := [.int z56, .int z43]) (st := [.int x12]) kw_hE rfl rfl lvX7_219 arX1_turnOf (c_X1_turnOf_17 l S2 I5 z56 z43 ) (by decide) (Nat.le_of_ble_eq_true rfl) rfl (fun v S59 p58 => ?_)
          obtain ⟨e61, z60, rfl⟩ := p58
          rw [e61]
          have r_z60 := kw_rng z60
          show kw_AW l 5 kw_E0 KX mX7_sail (p_X7_sail_0 σ a) 105 [(3, .int z53), (6, .int z43), (5, .int x11), (4, .int x12), (2, .int z4), (0, .ref 0), (1, .int a)] [.int z60, .int x12] S2
          refine kw_iadd (pc := 105) (i := 53) rfl (fun z62 e_z62 t_z62 => ?_)
          refine kw_istore (pc := 106) (i := 54) (n := 4) (lv' := [(4, .int z62), (3, .int z53), (6, .int z43), (5, .int x11), (2, .int z4), (0, .ref 0), (1, .int a)]) rfl (by decide) rfl ?_
          refine kw_iinc' (pc := 108) (i := 55) (k := 3) (fun z => [(5, .int z), (4, .int z62), (3, .int z53), (6, .int z43), (2, .int z4), (0, .ref 0), (1, .int a)]) rfl rfl (by decide) rfl (fun _ => rfl) (fun z63 e_z63 t_z63 => ?_)
          refine kw_goto (pc := 111) (i := 56) (tgt := 32) rfl rfl ?_
          refine kw_sub (lv' := [(5, .int z63), (4, .int z62), (3, .int z53), (2, .int z4), (0, .ref 0), (1, .int a)]) [0, 1, 2, 4, 5, 6] rfl ?_
          exact ih15 z63 z62 z53 (by omega) (by omega)
    exact L14 _ 0 (S2.1 4 7) (S2.1 4 6) (by omega) (Nat.lt_succ_self _)
  · refine kw_iload_n (pc := 10) (i := 6) (k := 0) (n := 2) rfl rfl rfl ?_
    exact kw_ireturn (pc := 11) (i := 7) (ty := .int) rfl rfl rfl ⟨⟨I5, F7⟩, _, rfl⟩
abbrev p_X7_dry_0 (σ : kw_S) (a : Int32) : Option Value → kw_S → Prop := fun v σ' => (kw_I bX σ' ∧ kw_F [8, 28, 9] σ σ') ∧ ∃ r : Int32, v = some (.int r)
set_option maxRecDepth 100000 in
set_option maxHeartbeats 4000000 in
theorem c_X7_dry_0 (l : Launch) (σ : kw_S) (hI : kw_I bX σ) (a : Int32) : kw_Met l 5 KX mX7_dry [.ref 0, .int a] σ (p_X7_dry_0 σ a) := by
  have r_a := kw_rng a
  have hF0 : kw_F [8, 28, 9] σ σ := kw_F.rf
  have q_0 : (0 : Int32).toInt = 0 := rfl
  have q_6 : (6 : Int32).toInt = 6 := rfl
  refine kw_Met.of (by decide) rfl tX7_dry (Nat.le_of_ble_eq_true rfl) ?_
  show kw_AW l 5 kw_E0 KX mX7_dry (p_X7_dry_0 σ a) 0 [(0, .ref 0), (1, .int a)] [] σ
  refine kw_aload_n (pc := 0) (i := 0) (k := 0) (n := 0) rfl rfl rfl ?_
  refine kw_iload_n (pc := 1) (i := 1) (k := 1) (n := 1) rfl rfl rfl ?_
  refine kw_callV (pc := 2) (i := 2) (Y := mX7_planRefusal) (a := 0) (As := [.int a]) (st := []) kw_hE rfl rfl lvX7_250 arX7_planRefusal (c_X7_planRefusal_0 l σ hI a ) (by decide) (Nat.le_of_ble_eq_true rfl) rfl (fun v S2 p1 => ?_)
  obtain ⟨⟨I5, F6⟩, z4, rfl, f3⟩ := p1
  have F7 : kw_F [8, 28, 9] σ S2 := kw_F.tr hF0 F6 (by decide)
  have r_z4 := kw_rng z4
  show kw_AW l 5 kw_E0 KX mX7_dry (p_X7_dry_0 σ a) 5 [(0, .ref 0), (1, .int a)] [.int z4] S2
  refine kw_istore_n (pc := 5) (i := 3) (n := 2) (lv' := [(2, .int z4), (0, .ref 0), (1, .int a)]) rfl rfl (by decide) rfl ?_
  refine kw_iload_n (pc := 6) (i := 4) (k := 0) (n := 2) rfl rfl rfl ?_
  refine kw_if_eq (pc := 7) (i := 5) (tgt := 12) rfl rfl (fun c8 => ?_) (fun c8 => ?_)
  · refine kw_aload_n (pc := 12) (i := 8) (k := 1) (n := 0) rfl rfl rfl ?_
    refine kw_get (pc := 13) (i := 9) (v := .ref 4) rfl rfl rfl lkX7_31 (fun _ => rfl) ?_
    refine kw_get (pc := 16) (i := 10) (v := .ref 19) rfl rfl rfl lkX7_194 (fun _ => rfl) ?_
    refine kw_iconst (pc := 19) (i := 11) (v := 0) rfl rfl ?_
    refine kw_aload_n (pc := 20) (i := 12) (k := 1) (n := 0) rfl rfl rfl ?_
    refine kw_get (pc := 21) (i := 13) (v := .ref 9) rfl rfl rfl lkX7_59 (fun _ => rfl) ?_
    refine kw_iconst (pc := 24) (i := 14) (v := 0) rfl rfl ?_
    refine kw_bipush (pc := 25) (i := 15) (v := 6) rfl rfl ?_
    refine kw_copy (pc := 27) (i := 16) (n := 6) (m_ := 6) rfl laX7_256 rfl rfl (by omega) (by omega) (by omega) (by omega) (by omega) (by omega) (Nat.le_of_ble_eq_true rfl) ?_
    have I9 : kw_I bX (kw_ua S2 9 (va_cpy (S2.1 19) (S2.1 9) ((0 : Int32).toNatClampNeg) ((0 : Int32).toNatClampNeg) ((6 : Int32).toNatClampNeg))) := kw_I_ua I5 (fun j => ⟨(kw_rng _).1, Int.le_of_lt_add_one (kw_rng _).2⟩)
    have F10 : kw_F [8, 28, 9] σ (kw_ua S2 9 (va_cpy (S2.1 19) (S2.1 9) ((0 : Int32).toNatClampNeg) ((0 : Int32).toNatClampNeg) ((6 : Int32).toNatClampNeg))) := kw_F_ua F7 (by decide)
    generalize (kw_ua S2 9 (va_cpy (S2.1 19) (S2.1 9) ((0 : Int32).toNatClampNeg) ((0 : Int32).toNatClampNeg) ((6 : Int32).toNatClampNeg))) = S11 at I9 F10 ⊢
    refine kw_iconst (pc := 30) (i := 17) (v := 0) rfl rfl ?_
    refine kw_istore_n (pc := 31) (i := 18) (n := 3) (lv' := [(3, .int 0), (2, .int z4), (0, .ref 0), (1, .int a)]) rfl rfl (by decide) rfl ?_
    have L16 : ∀ (n20 : Nat) (x12 : Int32) (S13 : kw_S), kw_I bX S13 → kw_F [8, 28, 9] σ S13 → 0 ≤ x12.toInt → (41 - x12.toInt).toNat < n20 → kw_AW l 5 kw_E0 KX mX7_dry (p_X7_dry_0 σ a) 32 [(3, .int x12), (2, .int z4), (0, .ref 0), (1, .int a)] [] S13 := by
      intro n20
      induction n20 with
      | zero => intro x12 S13 I14 F15 v18 m19; exact absurd m19 (Nat.not_lt_zero _)
      | succ n20 ih17 =>
        intro x12 S13 I14 F15 v18 m19
        have r_x12 := kw_rng x12
        refine kw_iload_n (pc := 32) (i := 19) (k := 0) (n := 3) rfl rfl rfl ?_
        refine kw_aload_n (pc := 33) (i := 20) (k := 2) (n := 0) rfl rfl rfl ?_
        refine kw_get (pc := 34) (i := 21) (v := .ref 1) rfl rfl rfl lkX7_14 (fun _ => rfl) ?_
        refine kw_iload_n (pc := 37) (i := 22) (k := 3) (n := 1) rfl rfl rfl ?_
        refine kw_callV (pc := 38) (i := 23) (Y := mX3_sizeOf) (a := 1) (As := [.int a]) (st := [.int x12]) kw_hE rfl rfl lvX7_110 arX3_sizeOf (c_X3_sizeOf_1 l S13 I14 a ) (by decide) (Nat.le_of_ble_eq_true rfl) rfl (fun v S22 p21 => ?_)
        obtain ⟨e28, z27, rfl, f23, f24, f25, f26⟩ := p21
        rw [e28]
        have r_z27 := kw_rng z27
        show kw_AW l 5 kw_E0 KX mX7_dry (p_X7_dry_0 σ a) 41 [(3, .int x12), (2, .int z4), (0, .ref 0), (1, .int a)] [.int z27, .int x12] S13
        refine kw_icmp_ge (pc := 41) (i := 24) (tgt := 74) rfl rfl (fun c29 => ?_) (fun c29 => ?_)
        · refine kw_aload_n (pc := 74) (i := 39) (k := 2) (n := 0) rfl rfl rfl ?_
          refine kw_aload_n (pc := 75) (i := 40) (k := 2) (n := 0) rfl rfl rfl ?_
          refine kw_get (pc := 76) (i := 41) (v := .ref 9) rfl rfl rfl lkX7_59 (fun _ => rfl) ?_
          refine kw_callV (pc := 79) (i := 42) (Y := mX7_drySet) (a := 0) (As := [.ref 9]) (st := []) kw_hE rfl rfl lvX7_246 arX7_drySet (c_X7_drySet_0_9 l S13 I14  ) (by decide) (Nat.le_of_ble_eq_true rfl) rfl (fun v S31 p30 => ?_)
          obtain ⟨e33, z32, rfl⟩ := p30
          rw [e33]
          have r_z32 := kw_rng z32
          show kw_AW l 5 kw_E0 KX mX7_dry (p_X7_dry_0 σ a) 82 [(3, .int x12), (2, .int z4), (0, .ref 0), (1, .int a)] [.int z32] S13
          exact kw_ireturn (pc := 82) (i := 43) (ty := .int) rfl rfl rfl ⟨⟨I14, F15⟩, _, rfl⟩
        · refine kw_aload_n (pc := 44) (i := 25) (k := 2) (n := 0) rfl rfl rfl ?_
          refine kw_get (pc := 45) (i := 26) (v := .ref 9) rfl rfl rfl lkX7_59 (fun _ => rfl) ?_
          refine kw_aload_n (pc := 48) (i := 27) (k := 2) (n := 0) rfl rfl rfl ?_
          refine kw_get (pc := 49) (i := 28) (v := .ref 1) rfl rfl rfl lkX7_14 (fun _ => rfl) ?_
          refine kw_iload_n (pc := 52) (i := 29) (k := 3) (n := 1) rfl rfl rfl ?_
          refine kw_iload_n (pc := 53) (i := 30) (k := 0) (n := 3) rfl rfl rfl ?_
          refine kw_callV (pc := 54) (i := 31) (Y := mX3_valueAt) (a := 1) (As := [.int a, .int x12]) (st := [.ref 9]) kw_hE rfl rfl lvX7_85 arX3_valueAt (c_X3_valueAt_1 l S13 I14 a x12 ) (by decide) (Nat.le_of_ble_eq_true rfl) rfl (fun v S35 p34 => ?_)
          obtain ⟨e37, z36, rfl⟩ := p34
          rw [e37]
          have r_z36 := kw_rng z36
          show kw_AW l 5 kw_E0 KX mX7_dry (p_X7_dry_0 σ a) 57 [(3, .int x12), (2, .int z4), (0, .ref 0), (1, .int a)] [.int z36, .ref 9] S13
          refine kw_aload_n (pc := 57) (i := 32) (k := 2) (n := 0) rfl rfl rfl ?_
          refine kw_get (pc := 58) (i := 33) (v := .ref 4) rfl rfl rfl lkX7_31 (fun _ => rfl) ?_
          refine kw_iload_n (pc := 61) (i := 34) (k := 0) (n := 3) rfl rfl rfl ?_
          refine kw_callV (pc := 62) (i := 35) (Y := mX5_windAhead) (a := 4) (As := [.int x12]) (st := [.int z36, .ref 9]) kw_hE rfl rfl lvX7_253 arX5_windAhead (c_X5_windAhead_4 l S13 I14 x12 ) (by decide) (Nat.le_of_ble_eq_true rfl) rfl (fun v S39 p38 => ?_)
          obtain ⟨e41, z40, rfl⟩ := p38
          rw [e41]
          have r_z40 := kw_rng z40
          show kw_AW l 5 kw_E0 KX mX7_dry (p_X7_dry_0 σ a) 65 [(3, .int x12), (2, .int z4), (0, .ref 0), (1, .int a)] [.int z40, .int z36, .ref 9] S13
          refine kw_callS (pc := 65) (i := 36) (Y := mX7_weather) (As := [.ref 9, .int z36, .int z40]) (st := []) kw_hE rfl lsX7_262 arX7_weather (c_X7_weather_9 l S13 I14 z36 z40 ) (by decide) (Nat.le_of_ble_eq_true rfl) rfl (fun v S43 p42 => ?_)
          obtain ⟨⟨I44, F45⟩, rfl⟩ := p42
          have F46 : kw_F [8, 28, 9] σ S43 := kw_F.tr F15 F45 (by decide)
          show kw_AW l 5 kw_E0 KX mX7_dry (p_X7_dry_0 σ a) 68 [(3, .int x12), (2, .int z4), (0, .ref 0), (1, .int a)] [] S43
          refine kw_iinc' (pc := 68) (i := 37) (k := 0) (fun z => [(3, .int z), (2, .int z4), (0, .ref 0), (1, .int a)]) rfl rfl (by decide) rfl (fun _ => rfl) (fun z47 e_z47 t_z47 => ?_)
          refine kw_goto (pc := 71) (i := 38) (tgt := 32) rfl rfl ?_
          refine kw_sub (lv' := [(3, .int z47), (2, .int z4), (0, .ref 0), (1, .int a)]) [0, 1, 2, 3] rfl ?_
          exact ih17 z47 S43 I44 F46 (by omega) (by omega)
    exact L16 _ 0 S11 I9 F10 (by omega) (Nat.lt_succ_self _)
  · refine kw_iload_n (pc := 10) (i := 6) (k := 0) (n := 2) rfl rfl rfl ?_
    exact kw_ireturn (pc := 11) (i := 7) (ty := .int) rfl rfl rfl ⟨⟨I5, F7⟩, _, rfl⟩
abbrev p_X7_far_0 (σ : kw_S) (n : Int32) (t : Int32) (a : Int32) : Option Value → kw_S → Prop := fun v σ' => (kw_I bX σ' ∧ kw_F [8, 28, 13, 29, 30, 31, 32, 33, 34, 7, 24, 26, 27, 52, 53, 54, 55, 56, 57, 58, 59, 60] σ σ') ∧ ∃ r : Int32, v = some (.int r)
set_option maxRecDepth 100000 in
set_option maxHeartbeats 4000000 in
theorem c_X7_far_0 (l : Launch) (σ : kw_S) (hI : kw_I bX σ) (n : Int32) (t : Int32) (a : Int32) : kw_Met l 8 KX mX7_far [.ref 0, .int n, .int t, .int a] σ (p_X7_far_0 σ n t a) := by
  have r_n := kw_rng n
  have r_t := kw_rng t
  have r_a := kw_rng a
  have hF0 : kw_F [8, 28, 13, 29, 30, 31, 32, 33, 34, 7, 24, 26, 27, 52, 53, 54, 55, 56, 57, 58, 59, 60] σ σ := kw_F.rf
  have q_m9 : (-9 : Int32).toInt = -9 := rfl
  have q_m4 : (-4 : Int32).toInt = -4 := rfl
  have q_m1 : (-1 : Int32).toInt = -1 := rfl
  have q_0 : (0 : Int32).toInt = 0 := rfl
  have q_3 : (3 : Int32).toInt = 3 := rfl
  have q_999 : (999 : Int32).toInt = 999 := rfl
  refine kw_Met.of (by decide) rfl tX7_far (Nat.le_of_ble_eq_true rfl) ?_
  show kw_AW l 8 kw_E0 KX mX7_far (p_X7_far_0 σ n t a) 0 [(0, .ref 0), (1, .int n), (2, .int t), (3, .int a)] [] σ
  refine kw_iload_n (pc := 0) (i := 0) (k := 1) (n := 1) rfl rfl rfl ?_
  refine kw_if_lt (pc := 1) (i := 1) (tgt := 31) rfl rfl (fun c1 => ?_) (fun c1 => ?_)
  · refine kw_iconst (pc := 31) (i := 15) (v := (-1)) rfl rfl ?_
    exact kw_ireturn (pc := 32) (i := 16) (ty := .int) rfl rfl rfl ⟨⟨hI, hF0⟩, _, rfl⟩
  · refine kw_iload_n (pc := 4) (i := 2) (k := 1) (n := 1) rfl rfl rfl ?_
    refine kw_iconst (pc := 5) (i := 3) (v := 3) rfl rfl ?_
    refine kw_icmp_gt (pc := 6) (i := 4) (tgt := 31) rfl rfl (fun c2 => ?_) (fun c2 => ?_)
    · refine kw_iconst (pc := 31) (i := 15) (v := (-1)) rfl rfl ?_
      exact kw_ireturn (pc := 32) (i := 16) (ty := .int) rfl rfl rfl ⟨⟨hI, hF0⟩, _, rfl⟩
    · refine kw_iload_n (pc := 9) (i := 5) (k := 2) (n := 2) rfl rfl rfl ?_
      refine kw_if_lt (pc := 10) (i := 6) (tgt := 31) rfl rfl (fun c3 => ?_) (fun c3 => ?_)
      · refine kw_iconst (pc := 31) (i := 15) (v := (-1)) rfl rfl ?_
        exact kw_ireturn (pc := 32) (i := 16) (ty := .int) rfl rfl rfl ⟨⟨hI, hF0⟩, _, rfl⟩
      · refine kw_iload_n (pc := 13) (i := 7) (k := 2) (n := 2) rfl rfl rfl ?_
        refine kw_sipush (pc := 14) (i := 8) (v := 999) rfl rfl ?_
        refine kw_icmp_gt (pc := 17) (i := 9) (tgt := 31) rfl rfl (fun c4 => ?_) (fun c4 => ?_)
        · refine kw_iconst (pc := 31) (i := 15) (v := (-1)) rfl rfl ?_
          exact kw_ireturn (pc := 32) (i := 16) (ty := .int) rfl rfl rfl ⟨⟨hI, hF0⟩, _, rfl⟩
        · refine kw_aload_n (pc := 20) (i := 10) (k := 0) (n := 0) rfl rfl rfl ?_
          refine kw_get (pc := 21) (i := 11) (v := .ref 1) rfl rfl rfl lkX7_14 (fun _ => rfl) ?_
          refine kw_iload_n (pc := 24) (i := 12) (k := 3) (n := 3) rfl rfl rfl ?_
          refine kw_callV (pc := 25) (i := 13) (Y := mX3_has) (a := 1) (As := [.int a]) (st := []) kw_hE rfl rfl lvX7_73 arX3_has (c_X3_has_1 l σ hI a ) (by decide) (Nat.le_of_ble_eq_true rfl) rfl (fun v S6 p5 => ?_)
          obtain ⟨e11, z10, rfl, f7, f8, f9⟩ := p5
          rw [e11]
          have r_z10 := kw_rng z10
          show kw_AW l 8 kw_E0 KX mX7_far (p_X7_far_0 σ n t a) 28 [(0, .ref 0), (1, .int n), (2, .int t), (3, .int a)] [.int z10] σ
          refine kw_if_ne (pc := 28) (i := 14) (tgt := 33) rfl rfl (fun c12 => ?_) (fun c12 => ?_)
          · refine kw_aload_n (pc := 33) (i := 17) (k := 0) (n := 0) rfl rfl rfl ?_
            refine kw_get (pc := 34) (i := 18) (v := .ref 4) rfl rfl rfl lkX7_31 (fun _ => rfl) ?_
            refine kw_callV (pc := 37) (i := 19) (Y := mX5_isEmpty) (a := 4) (As := []) (st := []) kw_hE rfl rfl lvX7_178 arX5_isEmpty (c_X5_isEmpty_4 l σ hI  ) (by decide) (Nat.le_of_ble_eq_true rfl) rfl (fun v S14 p13 => ?_)
            obtain ⟨e18, z17, rfl, f15, f16⟩ := p13
            rw [e18]
            have r_z17 := kw_rng z17
            show kw_AW l 8 kw_E0 KX mX7_far (p_X7_far_0 σ n t a) 40 [(0, .ref 0), (1, .int n), (2, .int t), (3, .int a)] [.int z17] σ
            refine kw_if_eq (pc := 40) (i := 20) (tgt := 46) rfl rfl (fun c19 => ?_) (fun c19 => ?_)
            · refine kw_aload_n (pc := 46) (i := 23) (k := 0) (n := 0) rfl rfl rfl ?_
              refine kw_get (pc := 47) (i := 24) (v := .ref 7) rfl rfl rfl lkX7_48 (fun _ => rfl) ?_
              refine kw_aload_n (pc := 50) (i := 25) (k := 0) (n := 0) rfl rfl rfl ?_
              refine kw_get (pc := 51) (i := 26) (v := .ref 4) rfl rfl rfl lkX7_31 (fun _ => rfl) ?_
              refine kw_iload_n (pc := 54) (i := 27) (k := 1) (n := 1) rfl rfl rfl ?_
              refine kw_iload_n (pc := 55) (i := 28) (k := 2) (n := 2) rfl rfl rfl ?_
              refine kw_callV (pc := 56) (i := 29) (Y := mX6_find) (a := 7) (As := [.ref 4, .int n, .int t]) (st := []) kw_hE rfl rfl lvX7_266 arX6_find (c_X6_find_7_4 l σ hI n t (by omega)) (by decide) (Nat.le_of_ble_eq_true rfl) rfl (fun v S21 p20 => ?_)
              obtain ⟨⟨I24, F25⟩, z23, rfl, f22⟩ := p20
              have F26 : kw_F [8, 28, 13, 29, 30, 31, 32, 33, 34, 7, 24, 26, 27, 52, 53, 54, 55, 56, 57, 58, 59, 60] σ S21 := kw_F.tr hF0 F25 (by decide)
              have r_z23 := kw_rng z23
              show kw_AW l 8 kw_E0 KX mX7_far (p_X7_far_0 σ n t a) 59 [(0, .ref 0), (1, .int n), (2, .int t), (3, .int a)] [.int z23] S21
              refine kw_if_ne (pc := 59) (i := 30) (tgt := 65) rfl rfl (fun c27 => ?_) (fun c27 => ?_)
              · refine kw_aload_n (pc := 65) (i := 33) (k := 0) (n := 0) rfl rfl rfl ?_
                refine kw_get (pc := 66) (i := 34) (v := .ref 1) rfl rfl rfl lkX7_14 (fun _ => rfl) ?_
                refine kw_iload_n (pc := 69) (i := 35) (k := 3) (n := 3) rfl rfl rfl ?_
                refine kw_iload_n (pc := 70) (i := 36) (k := 1) (n := 1) rfl rfl rfl ?_
                refine kw_iconst (pc := 71) (i := 37) (v := 0) rfl rfl ?_
                refine kw_callV (pc := 72) (i := 38) (Y := mX3_make) (a := 1) (As := [.int a, .int n, .int 0]) (st := []) kw_hE rfl rfl lvX7_210 arX3_make (c_X3_make_1 l S21 I24 a n 0 ) (by decide) (Nat.le_of_ble_eq_true rfl) rfl (fun v S29 p28 => ?_)
                obtain ⟨⟨I30, F31⟩, rfl⟩ := p28
                have F32 : kw_F [8, 28, 13, 29, 30, 31, 32, 33, 34, 7, 24, 26, 27, 52, 53, 54, 55, 56, 57, 58, 59, 60] σ S29 := kw_F.tr F26 F31 (by decide)
                show kw_AW l 8 kw_E0 KX mX7_far (p_X7_far_0 σ n t a) 75 [(0, .ref 0), (1, .int n), (2, .int t), (3, .int a)] [] S29
                refine kw_iconst (pc := 75) (i := 39) (v := 0) rfl rfl ?_
                refine kw_istore (pc := 76) (i := 40) (n := 4) (lv' := [(4, .int 0), (0, .ref 0), (1, .int n), (2, .int t), (3, .int a)]) rfl (by decide) rfl ?_
                have L37 : ∀ (n41 : Nat) (x33 : Int32) (S34 : kw_S), kw_I bX S34 → kw_F [8, 28, 13, 29, 30, 31, 32, 33, 34, 7, 24, 26, 27, 52, 53, 54, 55, 56, 57, 58, 59, 60] σ S34 → 0 ≤ x33.toInt → (4 - x33.toInt).toNat < n41 → kw_AW l 8 kw_E0 KX mX7_far (p_X7_far_0 σ n t a) 78 [(4, .int x33), (0, .ref 0), (1, .int n), (2, .int t), (3, .int a)] [] S34 := by
                  intro n41
                  induction n41 with
                  | zero => intro x33 S34 I35 F36 v39 m40; exact absurd m40 (Nat.not_lt_zero _)
                  | succ n41 ih38 =>
                    intro x33 S34 I35 F36 v39 m40
                    have r_x33 := kw_rng x33
                    refine kw_iload (pc := 78) (i := 41) (k := 0) (n := 4) rfl rfl ?_
                    refine kw_iload_n (pc := 80) (i := 42) (k := 2) (n := 1) rfl rfl rfl ?_
                    refine kw_icmp_ge (pc := 81) (i := 43) (tgt := 110) rfl rfl (fun c42 => ?_) (fun c42 => ?_)
                    · refine kw_aload_n (pc := 110) (i := 56) (k := 1) (n := 0) rfl rfl rfl ?_
                      refine kw_get (pc := 111) (i := 57) (v := .ref 8) rfl rfl rfl lkX7_55 (fun _ => rfl) ?_
                      refine kw_aload_n (pc := 114) (i := 58) (k := 1) (n := 0) rfl rfl rfl ?_
                      refine kw_get (pc := 115) (i := 59) (v := .ref 7) rfl rfl rfl lkX7_48 (fun _ => rfl) ?_
                      refine kw_get (pc := 118) (i := 60) (v := .int (S34.1 7 1)) rfl rfl rfl lkX7_273 (fun _ => rfl) ?_
                      have b43 := kw_rng (S34.1 7 1)
                      refine kw_callV (pc := 121) (i := 61) (Y := mX4_answer) (a := 8) (As := [.int (S34.1 7 1)]) (st := []) kw_hE rfl rfl lvX7_92 arX4_answer (c_X4_answer_8 l S34 I35 (S34.1 7 1) ) (by decide) (Nat.le_of_ble_eq_true rfl) rfl (fun v S45 p44 => ?_)
                      obtain ⟨⟨I48, F49⟩, z47, rfl, f46⟩ := p44
                      have F50 : kw_F [8, 28, 13, 29, 30, 31, 32, 33, 34, 7, 24, 26, 27, 52, 53, 54, 55, 56, 57, 58, 59, 60] σ S45 := kw_F.tr F36 F49 (by decide)
                      have r_z47 := kw_rng z47
                      show kw_AW l 8 kw_E0 KX mX7_far (p_X7_far_0 σ n t a) 124 [(4, .int x33), (0, .ref 0), (1, .int n), (2, .int t), (3, .int a)] [.int z47] S45
                      exact kw_ireturn (pc := 124) (i := 62) (ty := .int) rfl rfl rfl ⟨⟨I48, F50⟩, _, rfl⟩
                    · refine kw_aload_n (pc := 84) (i := 44) (k := 1) (n := 0) rfl rfl rfl ?_
                      refine kw_get (pc := 85) (i := 45) (v := .ref 1) rfl rfl rfl lkX7_14 (fun _ => rfl) ?_
                      refine kw_iload_n (pc := 88) (i := 46) (k := 4) (n := 3) rfl rfl rfl ?_
                      refine kw_iload (pc := 89) (i := 47) (k := 0) (n := 4) rfl rfl ?_
                      refine kw_aload_n (pc := 91) (i := 48) (k := 1) (n := 0) rfl rfl rfl ?_
                      refine kw_get (pc := 92) (i := 49) (v := .ref 7) rfl rfl rfl lkX7_48 (fun _ => rfl) ?_
                      refine kw_get (pc := 95) (i := 50) (v := .ref 24) rfl rfl rfl lkX7_270 (fun _ => rfl) ?_
                      refine kw_iload (pc := 98) (i := 51) (k := 0) (n := 4) rfl rfl ?_
                      refine kw_iald (pc := 100) (i := 52) (n := 3) rfl rfl (by omega) (by omega) (fun z51 e_z51 => ?_)
                      have t_z51 := congrArg Int32.toInt e_z51
                      have r_z51 := kw_rng z51
                      refine kw_callV (pc := 101) (i := 53) (Y := mX3_change) (a := 1) (As := [.int a, .int x33, .int z51]) (st := []) kw_hE rfl rfl lvX7_88 arX3_change (c_X3_change_1 l S34 I35 a x33 z51 ) (by decide) (Nat.le_of_ble_eq_true rfl) rfl (fun v S53 p52 => ?_)
                      obtain ⟨⟨I54, F55⟩, rfl⟩ := p52
                      have F56 : kw_F [8, 28, 13, 29, 30, 31, 32, 33, 34, 7, 24, 26, 27, 52, 53, 54, 55, 56, 57, 58, 59, 60] σ S53 := kw_F.tr F36 F55 (by decide)
                      show kw_AW l 8 kw_E0 KX mX7_far (p_X7_far_0 σ n t a) 104 [(4, .int x33), (0, .ref 0), (1, .int n), (2, .int t), (3, .int a)] [] S53
                      refine kw_iinc' (pc := 104) (i := 54) (k := 0) (fun z => [(4, .int z), (0, .ref 0), (1, .int n), (2, .int t), (3, .int a)]) rfl rfl (by decide) rfl (fun _ => rfl) (fun z57 e_z57 t_z57 => ?_)
                      refine kw_goto (pc := 107) (i := 55) (tgt := 78) rfl rfl ?_
                      refine kw_sub (lv' := [(4, .int z57), (0, .ref 0), (1, .int n), (2, .int t), (3, .int a)]) [0, 1, 2, 3, 4] rfl ?_
                      exact ih38 z57 S53 I54 F56 (by omega) (by omega)
                exact L37 _ 0 S29 I30 F32 (by omega) (Nat.lt_succ_self _)
              · refine kw_bipush (pc := 62) (i := 31) (v := (-9)) rfl rfl ?_
                exact kw_ireturn (pc := 64) (i := 32) (ty := .int) rfl rfl rfl ⟨⟨I24, F26⟩, _, rfl⟩
            · refine kw_bipush (pc := 43) (i := 21) (v := (-4)) rfl rfl ?_
              exact kw_ireturn (pc := 45) (i := 22) (ty := .int) rfl rfl rfl ⟨⟨hI, hF0⟩, _, rfl⟩
          · refine kw_iconst (pc := 31) (i := 15) (v := (-1)) rfl rfl ?_
            exact kw_ireturn (pc := 32) (i := 16) (ty := .int) rfl rfl rfl ⟨⟨hI, hF0⟩, _, rfl⟩
abbrev p_X7_soon_0 (σ : kw_S) (m : Int32) : Option Value → kw_S → Prop := fun v σ' => σ' = σ ∧ ∃ r : Int32, v = some (.int r)
set_option maxRecDepth 100000 in
set_option maxHeartbeats 4000000 in
theorem c_X7_soon_0 (l : Launch) (σ : kw_S) (hI : kw_I bX σ) (m : Int32) : kw_Met l 4 KX mX7_soon [.ref 0, .int m] σ (p_X7_soon_0 σ m) := by
  have r_m := kw_rng m
  have q_m999 : (-999 : Int32).toInt = -999 := rfl
  have q_m9 : (-9 : Int32).toInt = -9 := rfl
  have q_m4 : (-4 : Int32).toInt = -4 := rfl
  have q_m1 : (-1 : Int32).toInt = -1 := rfl
  have q_0 : (0 : Int32).toInt = 0 := rfl
  have q_3 : (3 : Int32).toInt = 3 := rfl
  have q_999 : (999 : Int32).toInt = 999 := rfl
  refine kw_Met.of (by decide) rfl tX7_soon (Nat.le_of_ble_eq_true rfl) ?_
  show kw_AW l 4 kw_E0 KX mX7_soon (p_X7_soon_0 σ m) 0 [(0, .ref 0), (1, .int m)] [] σ
  refine kw_iload_n (pc := 0) (i := 0) (k := 1) (n := 1) rfl rfl rfl ?_
  refine kw_sipush (pc := 1) (i := 1) (v := (-999)) rfl rfl ?_
  refine kw_icmp_lt (pc := 4) (i := 2) (tgt := 14) rfl rfl (fun c1 => ?_) (fun c1 => ?_)
  · refine kw_iconst (pc := 14) (i := 6) (v := (-1)) rfl rfl ?_
    exact kw_ireturn (pc := 15) (i := 7) (ty := .int) rfl rfl rfl ⟨rfl, _, rfl⟩
  · refine kw_iload_n (pc := 7) (i := 3) (k := 1) (n := 1) rfl rfl rfl ?_
    refine kw_sipush (pc := 8) (i := 4) (v := 999) rfl rfl ?_
    refine kw_icmp_le (pc := 11) (i := 5) (tgt := 16) rfl rfl (fun c2 => ?_) (fun c2 => ?_)
    · refine kw_aload_n (pc := 16) (i := 8) (k := 0) (n := 0) rfl rfl rfl ?_
      refine kw_get (pc := 17) (i := 9) (v := .ref 4) rfl rfl rfl lkX7_31 (fun _ => rfl) ?_
      refine kw_callV (pc := 20) (i := 10) (Y := mX5_isEmpty) (a := 4) (As := []) (st := []) kw_hE rfl rfl lvX7_178 arX5_isEmpty (c_X5_isEmpty_4 l σ hI  ) (by decide) (Nat.le_of_ble_eq_true rfl) rfl (fun v S4 p3 => ?_)
      obtain ⟨e8, z7, rfl, f5, f6⟩ := p3
      rw [e8]
      have r_z7 := kw_rng z7
      show kw_AW l 4 kw_E0 KX mX7_soon (p_X7_soon_0 σ m) 23 [(0, .ref 0), (1, .int m)] [.int z7] σ
      refine kw_if_eq (pc := 23) (i := 11) (tgt := 29) rfl rfl (fun c9 => ?_) (fun c9 => ?_)
      · refine kw_aload_n (pc := 29) (i := 14) (k := 0) (n := 0) rfl rfl rfl ?_
        refine kw_get (pc := 30) (i := 15) (v := .ref 4) rfl rfl rfl lkX7_31 (fun _ => rfl) ?_
        refine kw_get (pc := 33) (i := 16) (v := .ref 17) rfl rfl rfl lkX7_117 (fun _ => rfl) ?_
        refine kw_callV (pc := 36) (i := 17) (Y := mX1_allLines) (a := 17) (As := []) (st := []) kw_hE rfl rfl lvX7_243 arX1_allLines (c_X1_allLines_17 l σ hI  ) (by decide) (Nat.le_of_ble_eq_true rfl) rfl (fun v S11 p10 => ?_)
        obtain ⟨e13, z12, rfl⟩ := p10
        rw [e13]
        have r_z12 := kw_rng z12
        show kw_AW l 4 kw_E0 KX mX7_soon (p_X7_soon_0 σ m) 39 [(0, .ref 0), (1, .int m)] [.int z12] σ
        refine kw_istore_n (pc := 39) (i := 18) (n := 2) (lv' := [(2, .int z12), (0, .ref 0), (1, .int m)]) rfl rfl (by decide) rfl ?_
        refine kw_aload_n (pc := 40) (i := 19) (k := 1) (n := 0) rfl rfl rfl ?_
        refine kw_get (pc := 41) (i := 20) (v := .ref 4) rfl rfl rfl lkX7_31 (fun _ => rfl) ?_
        refine kw_get (pc := 44) (i := 21) (v := .int (σ.1 4 6)) rfl rfl rfl lkX7_204 (fun _ => rfl) ?_
        have b14 := kw_rng (σ.1 4 6)
        refine kw_istore_n (pc := 47) (i := 22) (n := 3) (lv' := [(3, .int (σ.1 4 6)), (2, .int z12), (0, .ref 0), (1, .int m)]) rfl rfl (by decide) rfl ?_
        refine kw_iconst (pc := 48) (i := 23) (v := 0) rfl rfl ?_
        refine kw_istore (pc := 49) (i := 24) (n := 4) (lv' := [(4, .int 0), (3, .int (σ.1 4 6)), (2, .int z12), (0, .ref 0), (1, .int m)]) rfl (by decide) rfl ?_
        have L17 : ∀ (n21 : Nat) (x15 : Int32) (x16 : Int32), 0 ≤ x15.toInt → (5 - x15.toInt).toNat < n21 → kw_AW l 4 kw_E0 KX mX7_soon (p_X7_soon_0 σ m) 51 [(4, .int x15), (3, .int x16), (2, .int z12), (0, .ref 0), (1, .int m)] [] σ := by
          intro n21
          induction n21 with
          | zero => intro x15 x16 v19 m20; exact absurd m20 (Nat.not_lt_zero _)
          | succ n21 ih18 =>
            intro x15 x16 v19 m20
            have r_x15 := kw_rng x15
            have r_x16 := kw_rng x16
            refine kw_iload (pc := 51) (i := 25) (k := 0) (n := 4) rfl rfl ?_
            refine kw_iconst (pc := 53) (i := 26) (v := 3) rfl rfl ?_
            refine kw_icmp_gt (pc := 54) (i := 27) (tgt := 94) rfl rfl (fun c22 => ?_) (fun c22 => ?_)
            · refine kw_bipush (pc := 94) (i := 47) (v := (-9)) rfl rfl ?_
              exact kw_ireturn (pc := 96) (i := 48) (ty := .int) rfl rfl rfl ⟨rfl, _, rfl⟩
            · refine kw_iload_n (pc := 57) (i := 28) (k := 1) (n := 3) rfl rfl rfl ?_
              refine kw_iload_n (pc := 58) (i := 29) (k := 4) (n := 1) rfl rfl rfl ?_
              refine kw_icmp_lt (pc := 59) (i := 30) (tgt := 65) rfl rfl (fun c23 => ?_) (fun c23 => ?_)
              · refine kw_iload_n (pc := 65) (i := 33) (k := 1) (n := 3) rfl rfl rfl ?_
                refine kw_aload_n (pc := 66) (i := 34) (k := 3) (n := 0) rfl rfl rfl ?_
                refine kw_get (pc := 67) (i := 35) (v := .ref 4) rfl rfl rfl lkX7_31 (fun _ => rfl) ?_
                refine kw_get (pc := 70) (i := 36) (v := .ref 17) rfl rfl rfl lkX7_117 (fun _ => rfl) ?_
                refine kw_iload_n (pc := 73) (i := 37) (k := 2) (n := 2) rfl rfl rfl ?_
                refine kw_aload_n (pc := 74) (i := 38) (k := 3) (n := 0) rfl rfl rfl ?_
                refine kw_get (pc := 75) (i := 39) (v := .ref 4) rfl rfl rfl lkX7_31 (fun _ => rfl) ?_
                refine kw_iload (pc := 78) (i := 40) (k := 0) (n := 4) rfl rfl ?_
                refine kw_callV (pc := 80) (i := 41) (Y := mX5_windAhead) (a := 4) (As := [.int x15]) (st := [.int z12, .ref 17, .int x16]) kw_hE rfl rfl lvX7_253 arX5_windAhead (c_X5_windAhead_4 l σ hI x15 ) (by decide) (Nat.le_of_ble_eq_true rfl) rfl (fun v S25 p24 => ?_)
                obtain ⟨e27, z26, rfl⟩ := p24
                rw [e27]
                have r_z26 := kw_rng z26
                show kw_AW l 4 kw_E0 KX mX7_soon (p_X7_soon_0 σ m) 83 [(4, .int x15), (3, .int x16), (2, .int z12), (0, .ref 0), (1, .int m)] [.int z26, .int z12, .ref 17, .int x16] σ
                refine kw_callV (pc := 83) (i := 42) (Y := mX1_mostMilesOf) (a := 17) (As := [.int z12, .int z26]) (st := [.int x16]) kw_hE rfl rfl lvX7_276 arX1_mostMilesOf (c_X1_mostMilesOf_17 l σ hI z12 z26 ) (by decide) (Nat.le_of_ble_eq_true rfl) rfl (fun v S29 p28 => ?_)
                obtain ⟨e31, z30, rfl⟩ := p28
                rw [e31]
                have r_z30 := kw_rng z30
                show kw_AW l 4 kw_E0 KX mX7_soon (p_X7_soon_0 σ m) 86 [(4, .int x15), (3, .int x16), (2, .int z12), (0, .ref 0), (1, .int m)] [.int z30, .int x16] σ
                refine kw_iadd (pc := 86) (i := 43) rfl (fun z32 e_z32 t_z32 => ?_)
                refine kw_istore_n (pc := 87) (i := 44) (n := 3) (lv' := [(3, .int z32), (4, .int x15), (2, .int z12), (0, .ref 0), (1, .int m)]) rfl rfl (by decide) rfl ?_
                refine kw_iinc' (pc := 88) (i := 45) (k := 1) (fun z => [(4, .int z), (3, .int z32), (2, .int z12), (0, .ref 0), (1, .int m)]) rfl rfl (by decide) rfl (fun _ => rfl) (fun z33 e_z33 t_z33 => ?_)
                refine kw_goto (pc := 91) (i := 46) (tgt := 51) rfl rfl ?_
                refine kw_sub (lv' := [(4, .int z33), (3, .int z32), (2, .int z12), (0, .ref 0), (1, .int m)]) [0, 1, 2, 3, 4] rfl ?_
                exact ih18 z33 z32 (by omega) (by omega)
              · refine kw_iload (pc := 62) (i := 31) (k := 0) (n := 4) rfl rfl ?_
                exact kw_ireturn (pc := 64) (i := 32) (ty := .int) rfl rfl rfl ⟨rfl, _, rfl⟩
        exact L17 _ 0 (σ.1 4 6) (by omega) (Nat.lt_succ_self _)
      · refine kw_bipush (pc := 26) (i := 12) (v := (-4)) rfl rfl ?_
        exact kw_ireturn (pc := 28) (i := 13) (ty := .int) rfl rfl rfl ⟨rfl, _, rfl⟩
    · refine kw_iconst (pc := 14) (i := 6) (v := (-1)) rfl rfl ?_
      exact kw_ireturn (pc := 15) (i := 7) (ty := .int) rfl rfl rfl ⟨rfl, _, rfl⟩
abbrev p_X7_least_0 (σ : kw_S) (n : Int32) (m : Int32) : Option Value → kw_S → Prop := fun v σ' => σ' = σ ∧ ∃ r : Int32, v = some (.int r)
set_option maxRecDepth 100000 in
set_option maxHeartbeats 4000000 in
theorem c_X7_least_0 (l : Launch) (σ : kw_S) (hI : kw_I bX σ) (n : Int32) (m : Int32) : kw_Met l 5 KX mX7_least [.ref 0, .int n, .int m] σ (p_X7_least_0 σ n m) := by
  have r_n := kw_rng n
  have r_m := kw_rng m
  have q_m9 : (-9 : Int32).toInt = -9 := rfl
  have q_m4 : (-4 : Int32).toInt = -4 := rfl
  have q_m1 : (-1 : Int32).toInt = -1 := rfl
  have q_0 : (0 : Int32).toInt = 0 := rfl
  have q_1 : (1 : Int32).toInt = 1 := rfl
  have q_3 : (3 : Int32).toInt = 3 := rfl
  refine kw_Met.of (by decide) rfl tX7_least (Nat.le_of_ble_eq_true rfl) ?_
  show kw_AW l 5 kw_E0 KX mX7_least (p_X7_least_0 σ n m) 0 [(0, .ref 0), (1, .int n), (2, .int m)] [] σ
  refine kw_iload_n (pc := 0) (i := 0) (k := 1) (n := 1) rfl rfl rfl ?_
  refine kw_if_lt (pc := 1) (i := 1) (tgt := 9) rfl rfl (fun c1 => ?_) (fun c1 => ?_)
  · refine kw_iconst (pc := 9) (i := 5) (v := (-1)) rfl rfl ?_
    exact kw_ireturn (pc := 10) (i := 6) (ty := .int) rfl rfl rfl ⟨rfl, _, rfl⟩
  · refine kw_iload_n (pc := 4) (i := 2) (k := 1) (n := 1) rfl rfl rfl ?_
    refine kw_iconst (pc := 5) (i := 3) (v := 3) rfl rfl ?_
    refine kw_icmp_le (pc := 6) (i := 4) (tgt := 11) rfl rfl (fun c2 => ?_) (fun c2 => ?_)
    · refine kw_aload_n (pc := 11) (i := 7) (k := 0) (n := 0) rfl rfl rfl ?_
      refine kw_get (pc := 12) (i := 8) (v := .ref 4) rfl rfl rfl lkX7_31 (fun _ => rfl) ?_
      refine kw_callV (pc := 15) (i := 9) (Y := mX5_isEmpty) (a := 4) (As := []) (st := []) kw_hE rfl rfl lvX7_178 arX5_isEmpty (c_X5_isEmpty_4 l σ hI  ) (by decide) (Nat.le_of_ble_eq_true rfl) rfl (fun v S4 p3 => ?_)
      obtain ⟨e8, z7, rfl, f5, f6⟩ := p3
      rw [e8]
      have r_z7 := kw_rng z7
      show kw_AW l 5 kw_E0 KX mX7_least (p_X7_least_0 σ n m) 18 [(0, .ref 0), (1, .int n), (2, .int m)] [.int z7] σ
      refine kw_if_eq (pc := 18) (i := 10) (tgt := 24) rfl rfl (fun c9 => ?_) (fun c9 => ?_)
      · refine kw_bipush (pc := 24) (i := 13) (v := (-9)) rfl rfl ?_
        refine kw_istore_n (pc := 26) (i := 14) (n := 3) (lv' := [(3, .int (-9)), (0, .ref 0), (1, .int n), (2, .int m)]) rfl rfl (by decide) rfl ?_
        refine kw_aload_n (pc := 27) (i := 15) (k := 1) (n := 0) rfl rfl rfl ?_
        refine kw_get (pc := 28) (i := 16) (v := .ref 4) rfl rfl rfl lkX7_31 (fun _ => rfl) ?_
        refine kw_get (pc := 31) (i := 17) (v := .ref 17) rfl rfl rfl lkX7_117 (fun _ => rfl) ?_
        refine kw_callV (pc := 34) (i := 18) (Y := mX1_allLines) (a := 17) (As := []) (st := []) kw_hE rfl rfl lvX7_243 arX1_allLines (c_X1_allLines_17 l σ hI  ) (by decide) (Nat.le_of_ble_eq_true rfl) rfl (fun v S11 p10 => ?_)
        obtain ⟨e13, z12, rfl⟩ := p10
        rw [e13]
        have r_z12 := kw_rng z12
        show kw_AW l 5 kw_E0 KX mX7_least (p_X7_least_0 σ n m) 37 [(3, .int (-9)), (0, .ref 0), (1, .int n), (2, .int m)] [.int z12] σ
        refine kw_iconst (pc := 37) (i := 19) (v := 1) rfl rfl ?_
        refine kw_iadd (pc := 38) (i := 20) rfl (fun z14 e_z14 t_z14 => ?_)
        refine kw_istore (pc := 39) (i := 21) (n := 4) (lv' := [(4, .int z14), (3, .int (-9)), (0, .ref 0), (1, .int n), (2, .int m)]) rfl (by decide) rfl ?_
        refine kw_iconst (pc := 41) (i := 22) (v := 0) rfl rfl ?_
        refine kw_istore (pc := 42) (i := 23) (n := 5) (lv' := [(5, .int 0), (4, .int z14), (3, .int (-9)), (0, .ref 0), (1, .int n), (2, .int m)]) rfl (by decide) rfl ?_
        have L17 : ∀ (n21 : Nat) (x15 : Int32) (x16 : Int32), 0 ≤ x15.toInt → (z14.toInt - x15.toInt).toNat < n21 → kw_AW l 5 kw_E0 KX mX7_least (p_X7_least_0 σ n m) 44 [(5, .int x15), (4, .int z14), (3, .int x16), (0, .ref 0), (1, .int n), (2, .int m)] [] σ := by
          intro n21
          induction n21 with
          | zero => intro x15 x16 v19 m20; exact absurd m20 (Nat.not_lt_zero _)
          | succ n21 ih18 =>
            intro x15 x16 v19 m20
            have r_x15 := kw_rng x15
            have r_x16 := kw_rng x16
            refine kw_iload (pc := 44) (i := 24) (k := 0) (n := 5) rfl rfl ?_
            refine kw_iload (pc := 46) (i := 25) (k := 1) (n := 4) rfl rfl ?_
            refine kw_icmp_ge (pc := 48) (i := 26) (tgt := 100) rfl rfl (fun c22 => ?_) (fun c22 => ?_)
            · refine kw_iload_n (pc := 100) (i := 50) (k := 2) (n := 3) rfl rfl rfl ?_
              exact kw_ireturn (pc := 101) (i := 51) (ty := .int) rfl rfl rfl ⟨rfl, _, rfl⟩
            · refine kw_aload_n (pc := 51) (i := 27) (k := 3) (n := 0) rfl rfl rfl ?_
              refine kw_iload_n (pc := 52) (i := 28) (k := 4) (n := 1) rfl rfl rfl ?_
              refine kw_iload (pc := 53) (i := 29) (k := 0) (n := 5) rfl rfl ?_
              refine kw_callV (pc := 55) (i := 30) (Y := mX7_mostMilesBehind) (a := 0) (As := [.int n, .int x15]) (st := []) kw_hE rfl rfl lvX7_279 arX7_mostMilesBehind (c_X7_mostMilesBehind_0 l σ hI n x15 ) (by decide) (Nat.le_of_ble_eq_true rfl) rfl (fun v S24 p23 => ?_)
              obtain ⟨e26, z25, rfl⟩ := p23
              rw [e26]
              have r_z25 := kw_rng z25
              show kw_AW l 5 kw_E0 KX mX7_least (p_X7_least_0 σ n m) 58 [(5, .int x15), (4, .int z14), (3, .int x16), (0, .ref 0), (1, .int n), (2, .int m)] [.int z25] σ
              refine kw_iload_n (pc := 58) (i := 31) (k := 5) (n := 2) rfl rfl rfl ?_
              refine kw_icmp_ge (pc := 59) (i := 32) (tgt := 65) rfl rfl (fun c27 => ?_) (fun c27 => ?_)
              · refine kw_aload_n (pc := 65) (i := 34) (k := 3) (n := 0) rfl rfl rfl ?_
                refine kw_get (pc := 66) (i := 35) (v := .ref 4) rfl rfl rfl lkX7_31 (fun _ => rfl) ?_
                refine kw_get (pc := 69) (i := 36) (v := .ref 17) rfl rfl rfl lkX7_117 (fun _ => rfl) ?_
                refine kw_iload (pc := 72) (i := 37) (k := 0) (n := 5) rfl rfl ?_
                refine kw_callV (pc := 74) (i := 38) (Y := mX1_linenOf) (a := 17) (As := [.int x15]) (st := []) kw_hE rfl rfl lvX7_235 arX1_linenOf (c_X1_linenOf_17 l σ hI x15 ) (by decide) (Nat.le_of_ble_eq_true rfl) rfl (fun v S29 p28 => ?_)
                obtain ⟨e31, z30, rfl⟩ := p28
                rw [e31]
                have r_z30 := kw_rng z30
                show kw_AW l 5 kw_E0 KX mX7_least (p_X7_least_0 σ n m) 77 [(5, .int x15), (4, .int z14), (3, .int x16), (0, .ref 0), (1, .int n), (2, .int m)] [.int z30] σ
                refine kw_istore (pc := 77) (i := 39) (n := 6) (lv' := [(6, .int z30), (5, .int x15), (4, .int z14), (3, .int x16), (0, .ref 0), (1, .int n), (2, .int m)]) rfl (by decide) rfl ?_
                refine kw_iload_n (pc := 79) (i := 40) (k := 3) (n := 3) rfl rfl rfl ?_
                refine kw_bipush (pc := 80) (i := 41) (v := (-9)) rfl rfl ?_
                refine kw_icmp_eq (pc := 82) (i := 42) (tgt := 91) rfl rfl (fun c32 => ?_) (fun c32 => ?_)
                · refine kw_iload (pc := 91) (i := 46) (k := 0) (n := 6) rfl rfl ?_
                  refine kw_istore_n (pc := 93) (i := 47) (n := 3) (lv' := [(3, .int z30), (6, .int z30), (5, .int x15), (4, .int z14), (0, .ref 0), (1, .int n), (2, .int m)]) rfl rfl (by decide) rfl ?_
                  refine kw_iinc' (pc := 94) (i := 48) (k := 2) (fun z => [(5, .int z), (3, .int z30), (6, .int z30), (4, .int z14), (0, .ref 0), (1, .int n), (2, .int m)]) rfl rfl (by decide) rfl (fun _ => rfl) (fun z33 e_z33 t_z33 => ?_)
                  refine kw_goto (pc := 97) (i := 49) (tgt := 44) rfl rfl ?_
                  refine kw_sub (lv' := [(5, .int z33), (4, .int z14), (3, .int z30), (0, .ref 0), (1, .int n), (2, .int m)]) [0, 3, 1, 4, 5, 6] rfl ?_
                  exact ih18 z33 z30 (by omega) (by omega)
                · refine kw_iload (pc := 85) (i := 43) (k := 0) (n := 6) rfl rfl ?_
                  refine kw_iload_n (pc := 87) (i := 44) (k := 3) (n := 3) rfl rfl rfl ?_
                  refine kw_icmp_ge (pc := 88) (i := 45) (tgt := 94) rfl rfl (fun c34 => ?_) (fun c34 => ?_)
                  · refine kw_iinc' (pc := 94) (i := 48) (k := 1) (fun z => [(5, .int z), (6, .int z30), (4, .int z14), (3, .int x16), (0, .ref 0), (1, .int n), (2, .int m)]) rfl rfl (by decide) rfl (fun _ => rfl) (fun z35 e_z35 t_z35 => ?_)
                    refine kw_goto (pc := 97) (i := 49) (tgt := 44) rfl rfl ?_
                    refine kw_sub (lv' := [(5, .int z35), (4, .int z14), (3, .int x16), (0, .ref 0), (1, .int n), (2, .int m)]) [0, 2, 3, 4, 5, 6] rfl ?_
                    exact ih18 z35 x16 (by omega) (by omega)
                  · refine kw_iload (pc := 91) (i := 46) (k := 0) (n := 6) rfl rfl ?_
                    refine kw_istore_n (pc := 93) (i := 47) (n := 3) (lv' := [(3, .int z30), (6, .int z30), (5, .int x15), (4, .int z14), (0, .ref 0), (1, .int n), (2, .int m)]) rfl rfl (by decide) rfl ?_
                    refine kw_iinc' (pc := 94) (i := 48) (k := 2) (fun z => [(5, .int z), (3, .int z30), (6, .int z30), (4, .int z14), (0, .ref 0), (1, .int n), (2, .int m)]) rfl rfl (by decide) rfl (fun _ => rfl) (fun z36 e_z36 t_z36 => ?_)
                    refine kw_goto (pc := 97) (i := 49) (tgt := 44) rfl rfl ?_
                    refine kw_sub (lv' := [(5, .int z36), (4, .int z14), (3, .int z30), (0, .ref 0), (1, .int n), (2, .int m)]) [0, 3, 1, 4, 5, 6] rfl ?_
                    exact ih18 z36 z30 (by omega) (by omega)
              · refine kw_goto (pc := 62) (i := 33) (tgt := 94) rfl rfl ?_
                refine kw_iinc' (pc := 94) (i := 48) (k := 0) (fun z => [(5, .int z), (4, .int z14), (3, .int x16), (0, .ref 0), (1, .int n), (2, .int m)]) rfl rfl (by decide) rfl (fun _ => rfl) (fun z37 e_z37 t_z37 => ?_)
                refine kw_goto (pc := 97) (i := 49) (tgt := 44) rfl rfl ?_
                refine kw_sub (lv' := [(5, .int z37), (4, .int z14), (3, .int x16), (0, .ref 0), (1, .int n), (2, .int m)]) [0, 1, 2, 3, 4, 5] rfl ?_
                exact ih18 z37 x16 (by omega) (by omega)
        exact L17 _ 0 (-9) (by omega) (Nat.lt_succ_self _)
      · refine kw_bipush (pc := 21) (i := 11) (v := (-4)) rfl rfl ?_
        exact kw_ireturn (pc := 23) (i := 12) (ty := .int) rfl rfl rfl ⟨rfl, _, rfl⟩
    · refine kw_iconst (pc := 9) (i := 5) (v := (-1)) rfl rfl ?_
      exact kw_ireturn (pc := 10) (i := 6) (ty := .int) rfl rfl rfl ⟨rfl, _, rfl⟩
abbrev p_X7_ways_0 (σ : kw_S) (m : Int32) (t : Int32) : Option Value → kw_S → Prop := fun v σ' => (kw_I bX σ' ∧ kw_F [8, 28, 6, 22, 23] σ σ') ∧ ∃ r : Int32, v = some (.int r)
set_option maxRecDepth 100000 in
set_option maxHeartbeats 4000000 in
theorem c_X7_ways_0 (l : Launch) (σ : kw_S) (hI : kw_I bX σ) (m : Int32) (t : Int32) : kw_Met l 4 KX mX7_ways [.ref 0, .int m, .int t] σ (p_X7_ways_0 σ m t) := by
  have r_m := kw_rng m
  have r_t := kw_rng t
  have hF0 : kw_F [8, 28, 6, 22, 23] σ σ := kw_F.rf
  have q_m999 : (-999 : Int32).toInt = -999 := rfl
  have q_m99 : (-99 : Int32).toInt = -99 := rfl
  have q_m4 : (-4 : Int32).toInt = -4 := rfl
  have q_m1 : (-1 : Int32).toInt = -1 := rfl
  have q_0 : (0 : Int32).toInt = 0 := rfl
  have q_99 : (99 : Int32).toInt = 99 := rfl
  have q_999 : (999 : Int32).toInt = 999 := rfl
  refine kw_Met.of (by decide) rfl tX7_ways (Nat.le_of_ble_eq_true rfl) ?_
  show kw_AW l 4 kw_E0 KX mX7_ways (p_X7_ways_0 σ m t) 0 [(0, .ref 0), (1, .int m), (2, .int t)] [] σ
  refine kw_iload_n (pc := 0) (i := 0) (k := 1) (n := 1) rfl rfl rfl ?_
  refine kw_bipush (pc := 1) (i := 1) (v := (-99)) rfl rfl ?_
  refine kw_icmp_lt (pc := 3) (i := 2) (tgt := 26) rfl rfl (fun c1 => ?_) (fun c1 => ?_)
  · refine kw_iconst (pc := 26) (i := 12) (v := (-1)) rfl rfl ?_
    exact kw_ireturn (pc := 27) (i := 13) (ty := .int) rfl rfl rfl ⟨⟨hI, hF0⟩, _, rfl⟩
  · refine kw_iload_n (pc := 6) (i := 3) (k := 1) (n := 1) rfl rfl rfl ?_
    refine kw_bipush (pc := 7) (i := 4) (v := 99) rfl rfl ?_
    refine kw_icmp_gt (pc := 9) (i := 5) (tgt := 26) rfl rfl (fun c2 => ?_) (fun c2 => ?_)
    · refine kw_iconst (pc := 26) (i := 12) (v := (-1)) rfl rfl ?_
      exact kw_ireturn (pc := 27) (i := 13) (ty := .int) rfl rfl rfl ⟨⟨hI, hF0⟩, _, rfl⟩
    · refine kw_iload_n (pc := 12) (i := 6) (k := 2) (n := 2) rfl rfl rfl ?_
      refine kw_sipush (pc := 13) (i := 7) (v := (-999)) rfl rfl ?_
      refine kw_icmp_lt (pc := 16) (i := 8) (tgt := 26) rfl rfl (fun c3 => ?_) (fun c3 => ?_)
      · refine kw_iconst (pc := 26) (i := 12) (v := (-1)) rfl rfl ?_
        exact kw_ireturn (pc := 27) (i := 13) (ty := .int) rfl rfl rfl ⟨⟨hI, hF0⟩, _, rfl⟩
      · refine kw_iload_n (pc := 19) (i := 9) (k := 2) (n := 2) rfl rfl rfl ?_
        refine kw_sipush (pc := 20) (i := 10) (v := 999) rfl rfl ?_
        refine kw_icmp_le (pc := 23) (i := 11) (tgt := 28) rfl rfl (fun c4 => ?_) (fun c4 => ?_)
        · refine kw_aload_n (pc := 28) (i := 14) (k := 0) (n := 0) rfl rfl rfl ?_
          refine kw_get (pc := 29) (i := 15) (v := .ref 4) rfl rfl rfl lkX7_31 (fun _ => rfl) ?_
          refine kw_callV (pc := 32) (i := 16) (Y := mX5_isEmpty) (a := 4) (As := []) (st := []) kw_hE rfl rfl lvX7_178 arX5_isEmpty (c_X5_isEmpty_4 l σ hI  ) (by decide) (Nat.le_of_ble_eq_true rfl) rfl (fun v S6 p5 => ?_)
          obtain ⟨e10, z9, rfl, f7, f8⟩ := p5
          rw [e10]
          have r_z9 := kw_rng z9
          show kw_AW l 4 kw_E0 KX mX7_ways (p_X7_ways_0 σ m t) 35 [(0, .ref 0), (1, .int m), (2, .int t)] [.int z9] σ
          refine kw_if_eq (pc := 35) (i := 17) (tgt := 41) rfl rfl (fun c11 => ?_) (fun c11 => ?_)
          · refine kw_aload_n (pc := 41) (i := 20) (k := 0) (n := 0) rfl rfl rfl ?_
            refine kw_get (pc := 42) (i := 21) (v := .ref 6) rfl rfl rfl lkX7_41 (fun _ => rfl) ?_
            refine kw_aload_n (pc := 45) (i := 22) (k := 0) (n := 0) rfl rfl rfl ?_
            refine kw_get (pc := 46) (i := 23) (v := .ref 4) rfl rfl rfl lkX7_31 (fun _ => rfl) ?_
            refine kw_get (pc := 49) (i := 24) (v := .ref 17) rfl rfl rfl lkX7_117 (fun _ => rfl) ?_
            refine kw_aload_n (pc := 52) (i := 25) (k := 0) (n := 0) rfl rfl rfl ?_
            refine kw_get (pc := 53) (i := 26) (v := .ref 4) rfl rfl rfl lkX7_31 (fun _ => rfl) ?_
            refine kw_callV (pc := 56) (i := 27) (Y := mX5_windNow) (a := 4) (As := []) (st := [.ref 17, .ref 6]) kw_hE rfl rfl lvX7_171 arX5_windNow (c_X5_windNow_4 l σ hI  ) (by decide) (Nat.le_of_ble_eq_true rfl) rfl (fun v S13 p12 => ?_)
            obtain ⟨e15, z14, rfl⟩ := p12
            rw [e15]
            have r_z14 := kw_rng z14
            show kw_AW l 4 kw_E0 KX mX7_ways (p_X7_ways_0 σ m t) 59 [(0, .ref 0), (1, .int m), (2, .int t)] [.int z14, .ref 17, .ref 6] σ
            refine kw_callV (pc := 59) (i := 28) (Y := mX0_draw) (a := 6) (As := [.ref 17, .int z14]) (st := []) kw_hE rfl rfl lvX7_225 arX0_draw (c_X0_draw_6_17 l σ hI z14 ) (by decide) (Nat.le_of_ble_eq_true rfl) rfl (fun v S17 p16 => ?_)
            obtain ⟨⟨I18, F19⟩, rfl⟩ := p16
            have F20 : kw_F [8, 28, 6, 22, 23] σ S17 := kw_F.tr hF0 F19 (by decide)
            show kw_AW l 4 kw_E0 KX mX7_ways (p_X7_ways_0 σ m t) 62 [(0, .ref 0), (1, .int m), (2, .int t)] [] S17
            refine kw_iconst (pc := 62) (i := 29) (v := 0) rfl rfl ?_
            refine kw_istore_n (pc := 63) (i := 30) (n := 3) (lv' := [(3, .int 0), (0, .ref 0), (1, .int m), (2, .int t)]) rfl rfl (by decide) rfl ?_
            refine kw_aload_n (pc := 64) (i := 31) (k := 1) (n := 0) rfl rfl rfl ?_
            refine kw_get (pc := 65) (i := 32) (v := .ref 4) rfl rfl rfl lkX7_31 (fun _ => rfl) ?_
            refine kw_get (pc := 68) (i := 33) (v := .ref 17) rfl rfl rfl lkX7_117 (fun _ => rfl) ?_
            refine kw_callV (pc := 71) (i := 34) (Y := mX1_allLines) (a := 17) (As := []) (st := []) kw_hE rfl rfl lvX7_243 arX1_allLines (c_X1_allLines_17 l S17 I18  ) (by decide) (Nat.le_of_ble_eq_true rfl) rfl (fun v S22 p21 => ?_)
            obtain ⟨e24, z23, rfl⟩ := p21
            rw [e24]
            have r_z23 := kw_rng z23
            show kw_AW l 4 kw_E0 KX mX7_ways (p_X7_ways_0 σ m t) 74 [(3, .int 0), (0, .ref 0), (1, .int m), (2, .int t)] [.int z23] S17
            refine kw_istore (pc := 74) (i := 35) (n := 4) (lv' := [(4, .int z23), (3, .int 0), (0, .ref 0), (1, .int m), (2, .int t)]) rfl (by decide) rfl ?_
            refine kw_iconst (pc := 76) (i := 36) (v := 0) rfl rfl ?_
            refine kw_istore (pc := 77) (i := 37) (n := 5) (lv' := [(5, .int 0), (4, .int z23), (3, .int 0), (0, .ref 0), (1, .int m), (2, .int t)]) rfl (by decide) rfl ?_
            have L28 : ∀ (n32 : Nat) (x25 : Int32) (x26 : Int32) (x27 : Int32), 0 ≤ x25.toInt → (((S17.1 6 3)).toInt - x25.toInt).toNat < n32 → kw_AW l 4 kw_E0 KX mX7_ways (p_X7_ways_0 σ m t) 79 [(5, .int x25), (4, .int x26), (3, .int x27), (0, .ref 0), (1, .int m), (2, .int t)] [] S17 := by
              intro n32
              induction n32 with
              | zero => intro x25 x26 x27 v30 m31; exact absurd m31 (Nat.not_lt_zero _)
              | succ n32 ih29 =>
                intro x25 x26 x27 v30 m31
                have r_x25 := kw_rng x25
                have r_x26 := kw_rng x26
                have r_x27 := kw_rng x27
                refine kw_iload (pc := 79) (i := 38) (k := 0) (n := 5) rfl rfl ?_
                refine kw_aload_n (pc := 81) (i := 39) (k := 3) (n := 0) rfl rfl rfl ?_
                refine kw_get (pc := 82) (i := 40) (v := .ref 6) rfl rfl rfl lkX7_41 (fun _ => rfl) ?_
                refine kw_get (pc := 85) (i := 41) (v := .int (S17.1 6 3)) rfl rfl rfl lkX7_229 (fun _ => rfl) ?_
                have b33 := kw_rng (S17.1 6 3)
                refine kw_icmp_ge (pc := 88) (i := 42) (tgt := 124) rfl rfl (fun c34 => ?_) (fun c34 => ?_)
                · refine kw_aload_n (pc := 124) (i := 58) (k := 3) (n := 0) rfl rfl rfl ?_
                  refine kw_get (pc := 125) (i := 59) (v := .ref 8) rfl rfl rfl lkX7_55 (fun _ => rfl) ?_
                  refine kw_iload_n (pc := 128) (i := 60) (k := 2) (n := 3) rfl rfl rfl ?_
                  refine kw_i2l (pc := 129) (i := 61) rfl (fun z35 e_z35 t_z35 => ?_)
                  refine kw_callV (pc := 130) (i := 62) (Y := mX4_tellWhole) (a := 8) (As := [.long z35]) (st := []) kw_hE rfl rfl lvX7_200 arX4_tellWhole (c_X4_tellWhole_8 l S17 I18 z35 ) (by decide) (Nat.le_of_ble_eq_true rfl) rfl (fun v S37 p36 => ?_)
                  obtain ⟨⟨I38, F39⟩, rfl⟩ := p36
                  have F40 : kw_F [8, 28, 6, 22, 23] σ S37 := kw_F.tr F20 F39 (by decide)
                  show kw_AW l 4 kw_E0 KX mX7_ways (p_X7_ways_0 σ m t) 133 [(5, .int x25), (4, .int x26), (3, .int x27), (0, .ref 0), (1, .int m), (2, .int t)] [] S37
                  refine kw_aload_n (pc := 133) (i := 63) (k := 3) (n := 0) rfl rfl rfl ?_
                  refine kw_get (pc := 134) (i := 64) (v := .ref 8) rfl rfl rfl lkX7_55 (fun _ => rfl) ?_
                  refine kw_iload_n (pc := 137) (i := 65) (k := 2) (n := 3) rfl rfl rfl ?_
                  refine kw_if_ne (pc := 138) (i := 66) (tgt := 145) rfl rfl (fun c41 => ?_) (fun c41 => ?_)
                  · refine kw_iload (pc := 145) (i := 69) (k := 1) (n := 4) rfl rfl ?_
                    refine kw_callV (pc := 147) (i := 70) (Y := mX4_answer) (a := 8) (As := [.int x26]) (st := []) kw_hE rfl rfl lvX7_92 arX4_answer (c_X4_answer_8 l S37 I38 x26 ) (by decide) (Nat.le_of_ble_eq_true rfl) rfl (fun v S43 p42 => ?_)
                    obtain ⟨⟨I46, F47⟩, z45, rfl, f44⟩ := p42
                    have F48 : kw_F [8, 28, 6, 22, 23] σ S43 := kw_F.tr F40 F47 (by decide)
                    have r_z45 := kw_rng z45
                    show kw_AW l 4 kw_E0 KX mX7_ways (p_X7_ways_0 σ m t) 150 [(5, .int x25), (4, .int x26), (3, .int x27), (0, .ref 0), (1, .int m), (2, .int t)] [.int z45] S43
                    exact kw_ireturn (pc := 150) (i := 71) (ty := .int) rfl rfl rfl ⟨⟨I46, F48⟩, _, rfl⟩
                  · refine kw_iconst (pc := 141) (i := 67) (v := 0) rfl rfl ?_
                    refine kw_goto (pc := 142) (i := 68) (tgt := 147) rfl rfl ?_
                    refine kw_callV (pc := 147) (i := 70) (Y := mX4_answer) (a := 8) (As := [.int 0]) (st := []) kw_hE rfl rfl lvX7_92 arX4_answer (c_X4_answer_8 l S37 I38 0 ) (by decide) (Nat.le_of_ble_eq_true rfl) rfl (fun v S50 p49 => ?_)
                    obtain ⟨⟨I53, F54⟩, z52, rfl, f51⟩ := p49
                    have F55 : kw_F [8, 28, 6, 22, 23] σ S50 := kw_F.tr F40 F54 (by decide)
                    have r_z52 := kw_rng z52
                    show kw_AW l 4 kw_E0 KX mX7_ways (p_X7_ways_0 σ m t) 150 [(5, .int x25), (4, .int x26), (3, .int x27), (0, .ref 0), (1, .int m), (2, .int t)] [.int z52] S50
                    exact kw_ireturn (pc := 150) (i := 71) (ty := .int) rfl rfl rfl ⟨⟨I53, F55⟩, _, rfl⟩
                · refine kw_aload_n (pc := 91) (i := 43) (k := 3) (n := 0) rfl rfl rfl ?_
                  refine kw_get (pc := 92) (i := 44) (v := .ref 6) rfl rfl rfl lkX7_41 (fun _ => rfl) ?_
                  refine kw_iload (pc := 95) (i := 45) (k := 0) (n := 5) rfl rfl ?_
                  refine kw_iload_n (pc := 97) (i := 46) (k := 4) (n := 1) rfl rfl rfl ?_
                  refine kw_iload_n (pc := 98) (i := 47) (k := 5) (n := 2) rfl rfl rfl ?_
                  refine kw_callV (pc := 99) (i := 48) (Y := mX0_fits) (a := 6) (As := [.int x25, .int m, .int t]) (st := []) kw_hE rfl rfl lvX7_232 arX0_fits (c_X0_fits_6 l S17 I18 x25 m t ) (by decide) (Nat.le_of_ble_eq_true rfl) rfl (fun v S57 p56 => ?_)
                  obtain ⟨e60, z59, rfl, f58⟩ := p56
                  rw [e60]
                  have r_z59 := kw_rng z59
                  show kw_AW l 4 kw_E0 KX mX7_ways (p_X7_ways_0 σ m t) 102 [(5, .int x25), (4, .int x26), (3, .int x27), (0, .ref 0), (1, .int m), (2, .int t)] [.int z59] S17
                  refine kw_if_ne (pc := 102) (i := 49) (tgt := 108) rfl rfl (fun c61 => ?_) (fun c61 => ?_)
                  · refine kw_iload (pc := 108) (i := 51) (k := 1) (n := 4) rfl rfl ?_
                    refine kw_iload (pc := 110) (i := 52) (k := 0) (n := 5) rfl rfl ?_
                    refine kw_iand (pc := 112) (i := 53) rfl (fun z62 e_z62 => ?_)
                    have r_z62 := kw_rng z62
                    refine kw_istore (pc := 113) (i := 54) (n := 4) (lv' := [(4, .int z62), (5, .int x25), (3, .int x27), (0, .ref 0), (1, .int m), (2, .int t)]) rfl (by decide) rfl ?_
                    refine kw_iinc' (pc := 115) (i := 55) (k := 2) (fun z => [(3, .int z), (4, .int z62), (5, .int x25), (0, .ref 0), (1, .int m), (2, .int t)]) rfl rfl (by decide) rfl (fun _ => rfl) (fun z63 e_z63 t_z63 => ?_)
                    refine kw_iinc' (pc := 118) (i := 56) (k := 2) (fun z => [(5, .int z), (3, .int z63), (4, .int z62), (0, .ref 0), (1, .int m), (2, .int t)]) rfl rfl (by decide) rfl (fun _ => rfl) (fun z64 e_z64 t_z64 => ?_)
                    refine kw_goto (pc := 121) (i := 57) (tgt := 79) rfl rfl ?_
                    refine kw_sub (lv' := [(5, .int z64), (4, .int z62), (3, .int z63), (0, .ref 0), (1, .int m), (2, .int t)]) [0, 2, 1, 3, 4, 5] rfl ?_
                    exact ih29 z64 z62 z63 (by omega) (by omega)
                  · refine kw_goto (pc := 105) (i := 50) (tgt := 118) rfl rfl ?_
                    refine kw_iinc' (pc := 118) (i := 56) (k := 0) (fun z => [(5, .int z), (4, .int x26), (3, .int x27), (0, .ref 0), (1, .int m), (2, .int t)]) rfl rfl (by decide) rfl (fun _ => rfl) (fun z65 e_z65 t_z65 => ?_)
                    refine kw_goto (pc := 121) (i := 57) (tgt := 79) rfl rfl ?_
                    refine kw_sub (lv' := [(5, .int z65), (4, .int x26), (3, .int x27), (0, .ref 0), (1, .int m), (2, .int t)]) [0, 1, 2, 3, 4, 5] rfl ?_
                    exact ih29 z65 x26 x27 (by omega) (by omega)
            exact L28 _ 0 z23 0 (by omega) (Nat.lt_succ_self _)
          · refine kw_bipush (pc := 38) (i := 18) (v := (-4)) rfl rfl ?_
            exact kw_ireturn (pc := 40) (i := 19) (ty := .int) rfl rfl rfl ⟨⟨hI, hF0⟩, _, rfl⟩
        · refine kw_iconst (pc := 26) (i := 12) (v := (-1)) rfl rfl ?_
          exact kw_ireturn (pc := 27) (i := 13) (ty := .int) rfl rfl rfl ⟨⟨hI, hF0⟩, _, rfl⟩
