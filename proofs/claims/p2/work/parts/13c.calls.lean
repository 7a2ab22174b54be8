abbrev p_X7_kinds_0 (σ : kw_S) (i : Int32) (a : Int32) : Option Value → kw_S → Prop := fun v σ' => (kw_I bX σ' ∧ kw_F [8, 28] σ σ') ∧ ∃ r : Int32, v = some (.int r)
set_option maxRecDepth 100000 in
set_option maxHeartbeats 4000000 in
theorem c_X7_kinds_0 (l : Launch) (σ : kw_S) (hI : kw_I bX σ) (i : Int32) (a : Int32) : kw_Met l 5 KX mX7_kinds [.ref 0, .int i, .int a] σ (p_X7_kinds_0 σ i a) := by
  have r_i := kw_rng i
  have r_a := kw_rng a
  have hF0 : kw_F [8, 28] σ σ := kw_F.rf
  have q_0 : (0 : Int32).toInt = 0 := rfl
  have q_1 : (1 : Int32).toInt = 1 := rfl
  have q_6 : (6 : Int32).toInt = 6 := rfl
  refine kw_Met.of (by decide) rfl tX7_kinds (Nat.le_of_ble_eq_true rfl) ?_
  show kw_AW l 5 kw_E0 KX mX7_kinds (p_X7_kinds_0 σ i a) 0 [(0, .ref 0), (1, .int i), (2, .int a)] [] σ
  refine kw_aload_n (pc := 0) (i := 0) (k := 0) (n := 0) rfl rfl rfl ?_
  refine kw_iload_n (pc := 1) (i := 1) (k := 1) (n := 1) rfl rfl rfl ?_
  refine kw_iload_n (pc := 2) (i := 2) (k := 2) (n := 2) rfl rfl rfl ?_
  refine kw_callV (pc := 3) (i := 3) (Y := mX7_pairsRefusal) (a := 0) (As := [.int i, .int a]) (st := []) kw_hE rfl rfl lvX7_282 arX7_pairsRefusal (c_X7_pairsRefusal_0 l σ hI i a ) (by decide) (Nat.le_of_ble_eq_true rfl) rfl (fun v S2 p1 => ?_)
  obtain ⟨⟨I5, F6⟩, z4, rfl, f3⟩ := p1
  have F7 : kw_F [8, 28] σ S2 := kw_F.tr hF0 F6 (by decide)
  have r_z4 := kw_rng z4
  show kw_AW l 5 kw_E0 KX mX7_kinds (p_X7_kinds_0 σ i a) 6 [(0, .ref 0), (1, .int i), (2, .int a)] [.int z4] S2
  refine kw_istore_n (pc := 6) (i := 4) (n := 3) (lv' := [(3, .int z4), (0, .ref 0), (1, .int i), (2, .int a)]) rfl rfl (by decide) rfl ?_
  refine kw_iload_n (pc := 7) (i := 5) (k := 0) (n := 3) rfl rfl rfl ?_
  refine kw_if_eq (pc := 8) (i := 6) (tgt := 13) rfl rfl (fun c8 => ?_) (fun c8 => ?_)
  · refine kw_iconst (pc := 13) (i := 9) (v := 0) rfl rfl ?_
    refine kw_istore (pc := 14) (i := 10) (n := 4) (lv' := [(4, .int 0), (3, .int z4), (0, .ref 0), (1, .int i), (2, .int a)]) rfl (by decide) rfl ?_
    refine kw_iconst (pc := 16) (i := 11) (v := 0) rfl rfl ?_
    refine kw_istore (pc := 17) (i := 12) (n := 5) (lv' := [(5, .int 0), (4, .int 0), (3, .int z4), (0, .ref 0), (1, .int i), (2, .int a)]) rfl (by decide) rfl ?_
    have L11 : ∀ (n15 : Nat) (x9 : Int32) (x10 : Int32), 0 ≤ x9.toInt → (7 - x9.toInt).toNat < n15 → kw_AW l 5 kw_E0 KX mX7_kinds (p_X7_kinds_0 σ i a) 19 [(5, .int x9), (4, .int x10), (3, .int z4), (0, .ref 0), (1, .int i), (2, .int a)] [] S2 := by
      intro n15
      induction n15 with
      | zero => intro x9 x10 v13 m14; exact absurd m14 (Nat.not_lt_zero _)
      | succ n15 ih12 =>
        intro x9 x10 v13 m14
        have r_x9 := kw_rng x9
        have r_x10 := kw_rng x10
        refine kw_iload (pc := 19) (i := 13) (k := 0) (n := 5) rfl rfl ?_
        refine kw_bipush (pc := 21) (i := 14) (v := 6) rfl rfl ?_
        refine kw_icmp_ge (pc := 23) (i := 15) (tgt := 63) rfl rfl (fun c16 => ?_) (fun c16 => ?_)
        · refine kw_iload (pc := 63) (i := 35) (k := 1) (n := 4) rfl rfl ?_
          exact kw_ireturn (pc := 65) (i := 36) (ty := .int) rfl rfl rfl ⟨⟨I5, F7⟩, _, rfl⟩
        · refine kw_aload_n (pc := 26) (i := 16) (k := 3) (n := 0) rfl rfl rfl ?_
          refine kw_iload_n (pc := 27) (i := 17) (k := 5) (n := 2) rfl rfl rfl ?_
          refine kw_iload (pc := 28) (i := 18) (k := 0) (n := 5) rfl rfl ?_
          refine kw_aload_n (pc := 30) (i := 19) (k := 3) (n := 0) rfl rfl rfl ?_
          refine kw_get (pc := 31) (i := 20) (v := .ref 4) rfl rfl rfl lkX7_31 (fun _ => rfl) ?_
          refine kw_get (pc := 34) (i := 21) (v := .ref 17) rfl rfl rfl lkX7_117 (fun _ => rfl) ?_
          refine kw_get (pc := 37) (i := 22) (v := .ref 46) rfl rfl rfl lkX7_168 (fun _ => rfl) ?_
          refine kw_iload_n (pc := 40) (i := 23) (k := 4) (n := 1) rfl rfl rfl ?_
          refine kw_iald (pc := 41) (i := 24) (n := 6) rfl rfl (by omega) (by omega) (fun z17 e_z17 => ?_)
          have t_z17 := congrArg Int32.toInt e_z17
          have r_z17 := kw_rng z17
          refine kw_callV (pc := 42) (i := 25) (Y := mX7_pulledSo) (a := 0) (As := [.int a, .int x9, .int z17]) (st := []) kw_hE rfl rfl lvX7_285 arX7_pulledSo (c_X7_pulledSo_0 l S2 I5 a x9 z17 ) (by decide) (Nat.le_of_ble_eq_true rfl) rfl (fun v S19 p18 => ?_)
          obtain ⟨e22, z21, rfl, f20⟩ := p18
          rw [e22]
          have r_z21 := kw_rng z21
          show kw_AW l 5 kw_E0 KX mX7_kinds (p_X7_kinds_0 σ i a) 45 [(5, .int x9), (4, .int x10), (3, .int z4), (0, .ref 0), (1, .int i), (2, .int a)] [.int z21] S2
          refine kw_if_eq (pc := 45) (i := 26) (tgt := 57) rfl rfl (fun c23 => ?_) (fun c23 => ?_)
          · refine kw_iinc' (pc := 57) (i := 33) (k := 0) (fun z => [(5, .int z), (4, .int x10), (3, .int z4), (0, .ref 0), (1, .int i), (2, .int a)]) rfl rfl (by decide) rfl (fun _ => rfl) (fun z24 e_z24 t_z24 => ?_)
            refine kw_goto (pc := 60) (i := 34) (tgt := 19) rfl rfl ?_
            refine kw_sub (lv' := [(5, .int z24), (4, .int x10), (3, .int z4), (0, .ref 0), (1, .int i), (2, .int a)]) [0, 1, 2, 3, 4, 5] rfl ?_
            exact ih12 z24 x10 (by omega) (by omega)
          · refine kw_iload (pc := 48) (i := 27) (k := 1) (n := 4) rfl rfl ?_
            refine kw_iconst (pc := 50) (i := 28) (v := 1) rfl rfl ?_
            refine kw_iload (pc := 51) (i := 29) (k := 0) (n := 5) rfl rfl ?_
            refine kw_ishl (pc := 53) (i := 30) rfl (fun z25 e_z25 => ?_)
            have r_z25 := kw_rng z25
            refine kw_ior (pc := 54) (i := 31) rfl (fun z26 e_z26 => ?_)
            have r_z26 := kw_rng z26
            refine kw_istore (pc := 55) (i := 32) (n := 4) (lv' := [(4, .int z26), (5, .int x9), (3, .int z4), (0, .ref 0), (1, .int i), (2, .int a)]) rfl (by decide) rfl ?_
            refine kw_iinc' (pc := 57) (i := 33) (k := 1) (fun z => [(5, .int z), (4, .int z26), (3, .int z4), (0, .ref 0), (1, .int i), (2, .int a)]) rfl rfl (by decide) rfl (fun _ => rfl) (fun z27 e_z27 t_z27 => ?_)
            refine kw_goto (pc := 60) (i := 34) (tgt := 19) rfl rfl ?_
            refine kw_sub (lv' := [(5, .int z27), (4, .int z26), (3, .int z4), (0, .ref 0), (1, .int i), (2, .int a)]) [0, 1, 2, 3, 4, 5] rfl ?_
            exact ih12 z27 z26 (by omega) (by omega)
    exact L11 _ 0 0 (by omega) (Nat.lt_succ_self _)
  · refine kw_iload_n (pc := 11) (i := 7) (k := 0) (n := 3) rfl rfl rfl ?_
    exact kw_ireturn (pc := 12) (i := 8) (ty := .int) rfl rfl rfl ⟨⟨I5, F7⟩, _, rfl⟩
abbrev p_X7_areas_0 (σ : kw_S) (i : Int32) (a : Int32) : Option Value → kw_S → Prop := fun v σ' => (kw_I bX σ' ∧ kw_F [8, 28] σ σ') ∧ ∃ r : Int32, v = some (.int r)
set_option maxRecDepth 100000 in
set_option maxHeartbeats 4000000 in
theorem c_X7_areas_0 (l : Launch) (σ : kw_S) (hI : kw_I bX σ) (i : Int32) (a : Int32) : kw_Met l 5 KX mX7_areas [.ref 0, .int i, .int a] σ (p_X7_areas_0 σ i a) := by
  have r_i := kw_rng i
  have r_a := kw_rng a
  have hF0 : kw_F [8, 28] σ σ := kw_F.rf
  have q_0 : (0 : Int32).toInt = 0 := rfl
  have q_1 : (1 : Int32).toInt = 1 := rfl
  have q_9 : (9 : Int32).toInt = 9 := rfl
  refine kw_Met.of (by decide) rfl tX7_areas (Nat.le_of_ble_eq_true rfl) ?_
  show kw_AW l 5 kw_E0 KX mX7_areas (p_X7_areas_0 σ i a) 0 [(0, .ref 0), (1, .int i), (2, .int a)] [] σ
  refine kw_aload_n (pc := 0) (i := 0) (k := 0) (n := 0) rfl rfl rfl ?_
  refine kw_iload_n (pc := 1) (i := 1) (k := 1) (n := 1) rfl rfl rfl ?_
  refine kw_iload_n (pc := 2) (i := 2) (k := 2) (n := 2) rfl rfl rfl ?_
  refine kw_callV (pc := 3) (i := 3) (Y := mX7_pairsRefusal) (a := 0) (As := [.int i, .int a]) (st := []) kw_hE rfl rfl lvX7_282 arX7_pairsRefusal (c_X7_pairsRefusal_0 l σ hI i a ) (by decide) (Nat.le_of_ble_eq_true rfl) rfl (fun v S2 p1 => ?_)
  obtain ⟨⟨I5, F6⟩, z4, rfl, f3⟩ := p1
  have F7 : kw_F [8, 28] σ S2 := kw_F.tr hF0 F6 (by decide)
  have r_z4 := kw_rng z4
  show kw_AW l 5 kw_E0 KX mX7_areas (p_X7_areas_0 σ i a) 6 [(0, .ref 0), (1, .int i), (2, .int a)] [.int z4] S2
  refine kw_istore_n (pc := 6) (i := 4) (n := 3) (lv' := [(3, .int z4), (0, .ref 0), (1, .int i), (2, .int a)]) rfl rfl (by decide) rfl ?_
  refine kw_iload_n (pc := 7) (i := 5) (k := 0) (n := 3) rfl rfl rfl ?_
  refine kw_if_eq (pc := 8) (i := 6) (tgt := 13) rfl rfl (fun c8 => ?_) (fun c8 => ?_)
  · refine kw_iconst (pc := 13) (i := 9) (v := 0) rfl rfl ?_
    refine kw_istore (pc := 14) (i := 10) (n := 4) (lv' := [(4, .int 0), (3, .int z4), (0, .ref 0), (1, .int i), (2, .int a)]) rfl (by decide) rfl ?_
    refine kw_iconst (pc := 16) (i := 11) (v := 1) rfl rfl ?_
    refine kw_istore (pc := 17) (i := 12) (n := 5) (lv' := [(5, .int 1), (4, .int 0), (3, .int z4), (0, .ref 0), (1, .int i), (2, .int a)]) rfl (by decide) rfl ?_
    have L11 : ∀ (n15 : Nat) (x9 : Int32) (x10 : Int32), 1 ≤ x9.toInt → (10 - x9.toInt).toNat < n15 → kw_AW l 5 kw_E0 KX mX7_areas (p_X7_areas_0 σ i a) 19 [(5, .int x9), (4, .int x10), (3, .int z4), (0, .ref 0), (1, .int i), (2, .int a)] [] S2 := by
      intro n15
      induction n15 with
      | zero => intro x9 x10 v13 m14; exact absurd m14 (Nat.not_lt_zero _)
      | succ n15 ih12 =>
        intro x9 x10 v13 m14
        have r_x9 := kw_rng x9
        have r_x10 := kw_rng x10
        refine kw_iload (pc := 19) (i := 13) (k := 0) (n := 5) rfl rfl ?_
        refine kw_bipush (pc := 21) (i := 14) (v := 9) rfl rfl ?_
        refine kw_icmp_gt (pc := 23) (i := 15) (tgt := 63) rfl rfl (fun c16 => ?_) (fun c16 => ?_)
        · refine kw_iload (pc := 63) (i := 35) (k := 1) (n := 4) rfl rfl ?_
          exact kw_ireturn (pc := 65) (i := 36) (ty := .int) rfl rfl rfl ⟨⟨I5, F7⟩, _, rfl⟩
        · refine kw_aload_n (pc := 26) (i := 16) (k := 3) (n := 0) rfl rfl rfl ?_
          refine kw_iload_n (pc := 27) (i := 17) (k := 5) (n := 2) rfl rfl rfl ?_
          refine kw_aload_n (pc := 28) (i := 18) (k := 3) (n := 0) rfl rfl rfl ?_
          refine kw_get (pc := 29) (i := 19) (v := .ref 4) rfl rfl rfl lkX7_31 (fun _ => rfl) ?_
          refine kw_get (pc := 32) (i := 20) (v := .ref 17) rfl rfl rfl lkX7_117 (fun _ => rfl) ?_
          refine kw_get (pc := 35) (i := 21) (v := .ref 44) rfl rfl rfl lkX7_143 (fun _ => rfl) ?_
          refine kw_iload_n (pc := 38) (i := 22) (k := 4) (n := 1) rfl rfl rfl ?_
          refine kw_iald (pc := 39) (i := 23) (n := 6) rfl rfl (by omega) (by omega) (fun z17 e_z17 => ?_)
          have t_z17 := congrArg Int32.toInt e_z17
          have r_z17 := kw_rng z17
          refine kw_iload (pc := 40) (i := 24) (k := 0) (n := 5) rfl rfl ?_
          refine kw_callV (pc := 42) (i := 25) (Y := mX7_pulledSo) (a := 0) (As := [.int a, .int z17, .int x9]) (st := []) kw_hE rfl rfl lvX7_285 arX7_pulledSo (c_X7_pulledSo_0 l S2 I5 a z17 x9 ) (by decide) (Nat.le_of_ble_eq_true rfl) rfl (fun v S19 p18 => ?_)
          obtain ⟨e22, z21, rfl, f20⟩ := p18
          rw [e22]
          have r_z21 := kw_rng z21
          show kw_AW l 5 kw_E0 KX mX7_areas (p_X7_areas_0 σ i a) 45 [(5, .int x9), (4, .int x10), (3, .int z4), (0, .ref 0), (1, .int i), (2, .int a)] [.int z21] S2
          refine kw_if_eq (pc := 45) (i := 26) (tgt := 57) rfl rfl (fun c23 => ?_) (fun c23 => ?_)
          · refine kw_iinc' (pc := 57) (i := 33) (k := 0) (fun z => [(5, .int z), (4, .int x10), (3, .int z4), (0, .ref 0), (1, .int i), (2, .int a)]) rfl rfl (by decide) rfl (fun _ => rfl) (fun z24 e_z24 t_z24 => ?_)
            refine kw_goto (pc := 60) (i := 34) (tgt := 19) rfl rfl ?_
            refine kw_sub (lv' := [(5, .int z24), (4, .int x10), (3, .int z4), (0, .ref 0), (1, .int i), (2, .int a)]) [0, 1, 2, 3, 4, 5] rfl ?_
            exact ih12 z24 x10 (by omega) (by omega)
          · refine kw_iload (pc := 48) (i := 27) (k := 1) (n := 4) rfl rfl ?_
            refine kw_iconst (pc := 50) (i := 28) (v := 1) rfl rfl ?_
            refine kw_iload (pc := 51) (i := 29) (k := 0) (n := 5) rfl rfl ?_
            refine kw_ishl (pc := 53) (i := 30) rfl (fun z25 e_z25 => ?_)
            have r_z25 := kw_rng z25
            refine kw_ior (pc := 54) (i := 31) rfl (fun z26 e_z26 => ?_)
            have r_z26 := kw_rng z26
            refine kw_istore (pc := 55) (i := 32) (n := 4) (lv' := [(4, .int z26), (5, .int x9), (3, .int z4), (0, .ref 0), (1, .int i), (2, .int a)]) rfl (by decide) rfl ?_
            refine kw_iinc' (pc := 57) (i := 33) (k := 1) (fun z => [(5, .int z), (4, .int z26), (3, .int z4), (0, .ref 0), (1, .int i), (2, .int a)]) rfl rfl (by decide) rfl (fun _ => rfl) (fun z27 e_z27 t_z27 => ?_)
            refine kw_goto (pc := 60) (i := 34) (tgt := 19) rfl rfl ?_
            refine kw_sub (lv' := [(5, .int z27), (4, .int z26), (3, .int z4), (0, .ref 0), (1, .int i), (2, .int a)]) [0, 1, 2, 3, 4, 5] rfl ?_
            exact ih12 z27 z26 (by omega) (by omega)
    exact L11 _ 1 0 (by omega) (Nat.lt_succ_self _)
  · refine kw_iload_n (pc := 11) (i := 7) (k := 0) (n := 3) rfl rfl rfl ?_
    exact kw_ireturn (pc := 12) (i := 8) (ty := .int) rfl rfl rfl ⟨⟨I5, F7⟩, _, rfl⟩
abbrev p_X7_rival_0 (σ : kw_S) (n : Int32) : Option Value → kw_S → Prop := fun v σ' => (kw_I bX σ' ∧ kw_F [8, 28, 6, 22, 23] σ σ') ∧ ∃ r : Int32, v = some (.int r)
set_option maxRecDepth 100000 in
set_option maxHeartbeats 4000000 in
theorem c_X7_rival_0 (l : Launch) (σ : kw_S) (hI : kw_I bX σ) (n : Int32) : kw_Met l 7 KX mX7_rival [.ref 0, .int n] σ (p_X7_rival_0 σ n) := by
  have r_n := kw_rng n
  have hF0 : kw_F [8, 28, 6, 22, 23] σ σ := kw_F.rf
  have q_m4 : (-4 : Int32).toInt = -4 := rfl
  have q_m1 : (-1 : Int32).toInt = -1 := rfl
  have q_2 : (2 : Int32).toInt = 2 := rfl
  refine kw_Met.of (by decide) rfl tX7_rival (Nat.le_of_ble_eq_true rfl) ?_
  show kw_AW l 7 kw_E0 KX mX7_rival (p_X7_rival_0 σ n) 0 [(0, .ref 0), (1, .int n)] [] σ
  refine kw_iload_n (pc := 0) (i := 0) (k := 1) (n := 1) rfl rfl rfl ?_
  refine kw_if_lt (pc := 1) (i := 1) (tgt := 9) rfl rfl (fun c1 => ?_) (fun c1 => ?_)
  · refine kw_iconst (pc := 9) (i := 5) (v := (-1)) rfl rfl ?_
    exact kw_ireturn (pc := 10) (i := 6) (ty := .int) rfl rfl rfl ⟨⟨hI, hF0⟩, _, rfl⟩
  · refine kw_iload_n (pc := 4) (i := 2) (k := 1) (n := 1) rfl rfl rfl ?_
    refine kw_iconst (pc := 5) (i := 3) (v := 2) rfl rfl ?_
    refine kw_icmp_le (pc := 6) (i := 4) (tgt := 11) rfl rfl (fun c2 => ?_) (fun c2 => ?_)
    · refine kw_aload_n (pc := 11) (i := 7) (k := 0) (n := 0) rfl rfl rfl ?_
      refine kw_get (pc := 12) (i := 8) (v := .ref 4) rfl rfl rfl lkX7_31 (fun _ => rfl) ?_
      refine kw_callV (pc := 15) (i := 9) (Y := mX5_isEmpty) (a := 4) (As := []) (st := []) kw_hE rfl rfl lvX7_178 arX5_isEmpty (c_X5_isEmpty_4 l σ hI  ) (by decide) (Nat.le_of_ble_eq_true rfl) rfl (fun v S4 p3 => ?_)
      obtain ⟨e8, z7, rfl, f5, f6⟩ := p3
      rw [e8]
      have r_z7 := kw_rng z7
      show kw_AW l 7 kw_E0 KX mX7_rival (p_X7_rival_0 σ n) 18 [(0, .ref 0), (1, .int n)] [.int z7] σ
      refine kw_if_eq (pc := 18) (i := 10) (tgt := 24) rfl rfl (fun c9 => ?_) (fun c9 => ?_)
      · refine kw_aload_n (pc := 24) (i := 13) (k := 0) (n := 0) rfl rfl rfl ?_
        refine kw_get (pc := 25) (i := 14) (v := .ref 6) rfl rfl rfl lkX7_41 (fun _ => rfl) ?_
        refine kw_aload_n (pc := 28) (i := 15) (k := 0) (n := 0) rfl rfl rfl ?_
        refine kw_get (pc := 29) (i := 16) (v := .ref 4) rfl rfl rfl lkX7_31 (fun _ => rfl) ?_
        refine kw_get (pc := 32) (i := 17) (v := .ref 17) rfl rfl rfl lkX7_117 (fun _ => rfl) ?_
        refine kw_aload_n (pc := 35) (i := 18) (k := 0) (n := 0) rfl rfl rfl ?_
        refine kw_get (pc := 36) (i := 19) (v := .ref 4) rfl rfl rfl lkX7_31 (fun _ => rfl) ?_
        refine kw_callV (pc := 39) (i := 20) (Y := mX5_windNow) (a := 4) (As := []) (st := [.ref 17, .ref 6]) kw_hE rfl rfl lvX7_171 arX5_windNow (c_X5_windNow_4 l σ hI  ) (by decide) (Nat.le_of_ble_eq_true rfl) rfl (fun v S11 p10 => ?_)
        obtain ⟨e13, z12, rfl⟩ := p10
        rw [e13]
        have r_z12 := kw_rng z12
        show kw_AW l 7 kw_E0 KX mX7_rival (p_X7_rival_0 σ n) 42 [(0, .ref 0), (1, .int n)] [.int z12, .ref 17, .ref 6] σ
        refine kw_callV (pc := 42) (i := 21) (Y := mX0_draw) (a := 6) (As := [.ref 17, .int z12]) (st := []) kw_hE rfl rfl lvX7_225 arX0_draw (c_X0_draw_6_17 l σ hI z12 ) (by decide) (Nat.le_of_ble_eq_true rfl) rfl (fun v S15 p14 => ?_)
        obtain ⟨⟨I16, F17⟩, rfl⟩ := p14
        have F18 : kw_F [8, 28, 6, 22, 23] σ S15 := kw_F.tr hF0 F17 (by decide)
        show kw_AW l 7 kw_E0 KX mX7_rival (p_X7_rival_0 σ n) 45 [(0, .ref 0), (1, .int n)] [] S15
        refine kw_aload_n (pc := 45) (i := 22) (k := 0) (n := 0) rfl rfl rfl ?_
        refine kw_get (pc := 46) (i := 23) (v := .ref 8) rfl rfl rfl lkX7_55 (fun _ => rfl) ?_
        refine kw_aload_n (pc := 49) (i := 24) (k := 0) (n := 0) rfl rfl rfl ?_
        refine kw_get (pc := 50) (i := 25) (v := .ref 6) rfl rfl rfl lkX7_41 (fun _ => rfl) ?_
        refine kw_aload_n (pc := 53) (i := 26) (k := 0) (n := 0) rfl rfl rfl ?_
        refine kw_get (pc := 54) (i := 27) (v := .ref 4) rfl rfl rfl lkX7_31 (fun _ => rfl) ?_
        refine kw_get (pc := 57) (i := 28) (v := .int (S15.1 4 4)) rfl rfl rfl lkX7_157 (fun _ => rfl) ?_
        have b19 := kw_rng (S15.1 4 4)
        refine kw_iconst (pc := 60) (i := 29) (v := 2) rfl rfl ?_
        refine kw_iload_n (pc := 61) (i := 30) (k := 1) (n := 1) rfl rfl rfl ?_
        refine kw_imul (pc := 62) (i := 31) rfl (fun z20 e_z20 t_z20 => ?_)
        rw [show (2 : Int32).toInt = 2 from rfl] at t_z20
        refine kw_callS (pc := 63) (i := 32) (Y := mX7_play) (As := [.ref 6, .int (S15.1 4 4), .int z20]) (st := [.ref 8]) kw_hE rfl lsX7_288 arX7_play (c_X7_play_6 l 4 S15 I16 (S15.1 4 4) z20 (by omega)) (by decide) (Nat.le_of_ble_eq_true rfl) rfl (fun v S22 p21 => ?_)
        obtain ⟨e24, z23, rfl⟩ := p21
        rw [e24]
        have r_z23 := kw_rng z23
        show kw_AW l 7 kw_E0 KX mX7_rival (p_X7_rival_0 σ n) 66 [(0, .ref 0), (1, .int n)] [.int z23, .ref 8] S15
        refine kw_callV (pc := 66) (i := 33) (Y := mX4_answer) (a := 8) (As := [.int z23]) (st := []) kw_hE rfl rfl lvX7_92 arX4_answer (c_X4_answer_8 l S15 I16 z23 ) (by decide) (Nat.le_of_ble_eq_true rfl) rfl (fun v S26 p25 => ?_)
        obtain ⟨⟨I29, F30⟩, z28, rfl, f27⟩ := p25
        have F31 : kw_F [8, 28, 6, 22, 23] σ S26 := kw_F.tr F18 F30 (by decide)
        have r_z28 := kw_rng z28
        show kw_AW l 7 kw_E0 KX mX7_rival (p_X7_rival_0 σ n) 69 [(0, .ref 0), (1, .int n)] [.int z28] S26
        exact kw_ireturn (pc := 69) (i := 34) (ty := .int) rfl rfl rfl ⟨⟨I29, F31⟩, _, rfl⟩
      · refine kw_bipush (pc := 21) (i := 11) (v := (-4)) rfl rfl ?_
        exact kw_ireturn (pc := 23) (i := 12) (ty := .int) rfl rfl rfl ⟨⟨hI, hF0⟩, _, rfl⟩
    · refine kw_iconst (pc := 9) (i := 5) (v := (-1)) rfl rfl ?_
      exact kw_ireturn (pc := 10) (i := 6) (ty := .int) rfl rfl rfl ⟨⟨hI, hF0⟩, _, rfl⟩
abbrev p_X7_mid_0 (σ : kw_S) (a : Int32) (p : Int32) : Option Value → kw_S → Prop := fun v σ' => (kw_I bX σ' ∧ kw_F [8, 28, 10, 11] σ σ') ∧ ∃ r : Int32, v = some (.int r)
set_option maxRecDepth 100000 in
set_option maxHeartbeats 4000000 in
theorem c_X7_mid_0 (l : Launch) (σ : kw_S) (hI : kw_I bX σ) (a : Int32) (p : Int32) : kw_Met l 5 KX mX7_mid [.ref 0, .int a, .int p] σ (p_X7_mid_0 σ a p) := by
  have r_a := kw_rng a
  have r_p := kw_rng p
  have hF0 : kw_F [8, 28, 10, 11] σ σ := kw_F.rf
  have q_m1 : (-1 : Int32).toInt = -1 := rfl
  have q_0 : (0 : Int32).toInt = 0 := rfl
  have q_1 : (1 : Int32).toInt = 1 := rfl
  have q_12 : (12 : Int32).toInt = 12 := rfl
  refine kw_Met.of (by decide) rfl tX7_mid (Nat.le_of_ble_eq_true rfl) ?_
  show kw_AW l 5 kw_E0 KX mX7_mid (p_X7_mid_0 σ a p) 0 [(0, .ref 0), (1, .int a), (2, .int p)] [] σ
  refine kw_iload_n (pc := 0) (i := 0) (k := 2) (n := 2) rfl rfl rfl ?_
  refine kw_if_lt (pc := 1) (i := 1) (tgt := 10) rfl rfl (fun c1 => ?_) (fun c1 => ?_)
  · refine kw_iconst (pc := 10) (i := 5) (v := (-1)) rfl rfl ?_
    exact kw_ireturn (pc := 11) (i := 6) (ty := .int) rfl rfl rfl ⟨⟨hI, hF0⟩, _, rfl⟩
  · refine kw_iload_n (pc := 4) (i := 2) (k := 2) (n := 2) rfl rfl rfl ?_
    refine kw_bipush (pc := 5) (i := 3) (v := 12) rfl rfl ?_
    refine kw_icmp_le (pc := 7) (i := 4) (tgt := 12) rfl rfl (fun c2 => ?_) (fun c2 => ?_)
    · refine kw_aload_n (pc := 12) (i := 7) (k := 0) (n := 0) rfl rfl rfl ?_
      refine kw_iload_n (pc := 13) (i := 8) (k := 1) (n := 1) rfl rfl rfl ?_
      refine kw_callV (pc := 14) (i := 9) (Y := mX7_planRefusal) (a := 0) (As := [.int a]) (st := []) kw_hE rfl rfl lvX7_250 arX7_planRefusal (c_X7_planRefusal_0 l σ hI a ) (by decide) (Nat.le_of_ble_eq_true rfl) rfl (fun v S4 p3 => ?_)
      obtain ⟨⟨I7, F8⟩, z6, rfl, f5⟩ := p3
      have F9 : kw_F [8, 28, 10, 11] σ S4 := kw_F.tr hF0 F8 (by decide)
      have r_z6 := kw_rng z6
      show kw_AW l 5 kw_E0 KX mX7_mid (p_X7_mid_0 σ a p) 17 [(0, .ref 0), (1, .int a), (2, .int p)] [.int z6] S4
      refine kw_istore_n (pc := 17) (i := 10) (n := 3) (lv' := [(3, .int z6), (0, .ref 0), (1, .int a), (2, .int p)]) rfl rfl (by decide) rfl ?_
      refine kw_iload_n (pc := 18) (i := 11) (k := 0) (n := 3) rfl rfl rfl ?_
      refine kw_if_eq (pc := 19) (i := 12) (tgt := 24) rfl rfl (fun c10 => ?_) (fun c10 => ?_)
      · refine kw_aload_n (pc := 24) (i := 15) (k := 1) (n := 0) rfl rfl rfl ?_
        refine kw_iload_n (pc := 25) (i := 16) (k := 2) (n := 1) rfl rfl rfl ?_
        refine kw_callV (pc := 26) (i := 17) (Y := mX7_foresee) (a := 0) (As := [.int a]) (st := []) kw_hE rfl rfl lvX7_292 arX7_foresee (c_X7_foresee_0 l S4 I7 a ) (by decide) (Nat.le_of_ble_eq_true rfl) rfl (fun v S12 p11 => ?_)
        obtain ⟨⟨I13, F14⟩, rfl⟩ := p11
        have F15 : kw_F [8, 28, 10, 11] σ S12 := kw_F.tr F9 F14 (by decide)
        show kw_AW l 5 kw_E0 KX mX7_mid (p_X7_mid_0 σ a p) 29 [(3, .int z6), (0, .ref 0), (1, .int a), (2, .int p)] [] S12
        have w_s := congrArg Int32.toInt (kw_F.at (a := 13) (j := a.toNatClampNeg) F14 (by decide))
        refine kw_ldc2 (pc := 29) (i := 18) (v := 12) rfl ckX7_295 ?_
        refine kw_aload_n (pc := 32) (i := 19) (k := 1) (n := 0) rfl rfl rfl ?_
        refine kw_get (pc := 33) (i := 20) (v := .ref 4) rfl rfl rfl lkX7_31 (fun _ => rfl) ?_
        refine kw_get (pc := 36) (i := 21) (v := .int (S12.1 4 6)) rfl rfl rfl lkX7_204 (fun _ => rfl) ?_
        have b16 := kw_rng (S12.1 4 6)
        refine kw_i2l (pc := 39) (i := 22) rfl (fun z17 e_z17 t_z17 => ?_)
        refine kw_lmul (pc := 40) (i := 23) rfl (fun z18 e_z18 => ?_)
        refine kw_lstore (pc := 41) (i := 24) (n := 4) (lv' := [(4, .long z18), (3, .int z6), (0, .ref 0), (1, .int a), (2, .int p)]) rfl (by decide) rfl ?_
        refine kw_iconst (pc := 43) (i := 25) (v := 0) rfl rfl ?_
        refine kw_istore (pc := 44) (i := 26) (n := 6) (lv' := [(6, .int 0), (4, .long z18), (3, .int z6), (0, .ref 0), (1, .int a), (2, .int p)]) rfl (by decide) rfl ?_
        have L21 : ∀ (n25 : Nat) (x19 : Int32) (x20 : Int64), 0 ≤ x19.toInt → (41 - x19.toInt).toNat < n25 → kw_AW l 5 kw_E0 KX mX7_mid (p_X7_mid_0 σ a p) 46 [(6, .int x19), (4, .long x20), (3, .int z6), (0, .ref 0), (1, .int a), (2, .int p)] [] S12 := by
          intro n25
          induction n25 with
          | zero => intro x19 x20 v23 m24; exact absurd m24 (Nat.not_lt_zero _)
          | succ n25 ih22 =>
            intro x19 x20 v23 m24
            have r_x19 := kw_rng x19
            refine kw_iload (pc := 46) (i := 27) (k := 0) (n := 6) rfl rfl ?_
            refine kw_aload_n (pc := 48) (i := 28) (k := 3) (n := 0) rfl rfl rfl ?_
            refine kw_get (pc := 49) (i := 29) (v := .ref 1) rfl rfl rfl lkX7_14 (fun _ => rfl) ?_
            refine kw_iload_n (pc := 52) (i := 30) (k := 4) (n := 1) rfl rfl rfl ?_
            refine kw_callV (pc := 53) (i := 31) (Y := mX3_sizeOf) (a := 1) (As := [.int a]) (st := [.int x19]) kw_hE rfl rfl lvX7_110 arX3_sizeOf (c_X3_sizeOf_1 l S12 I13 a ) (by decide) (Nat.le_of_ble_eq_true rfl) rfl (fun v S27 p26 => ?_)
            obtain ⟨e33, z32, rfl, f28, f29, f30, f31⟩ := p26
            rw [e33]
            have r_z32 := kw_rng z32
            show kw_AW l 5 kw_E0 KX mX7_mid (p_X7_mid_0 σ a p) 56 [(6, .int x19), (4, .long x20), (3, .int z6), (0, .ref 0), (1, .int a), (2, .int p)] [.int z32, .int x19] S12
            refine kw_icmp_ge (pc := 56) (i := 32) (tgt := 93) rfl rfl (fun c34 => ?_) (fun c34 => ?_)
            · refine kw_aload_n (pc := 93) (i := 54) (k := 3) (n := 0) rfl rfl rfl ?_
              refine kw_get (pc := 94) (i := 55) (v := .ref 8) rfl rfl rfl lkX7_55 (fun _ => rfl) ?_
              refine kw_lload (pc := 97) (i := 56) (k := 1) (n := 4) rfl rfl ?_
              refine kw_ldc2 (pc := 99) (i := 57) (v := 12) rfl ckX7_295 ?_
              refine kw_callV (pc := 102) (i := 58) (Y := mX4_tellShare) (a := 8) (As := [.long x20, .long 12]) (st := []) kw_hE rfl rfl lvX7_297 arX4_tellShare (c_X4_tellShare_8 l S12 I13 x20 12 ) (by decide) (Nat.le_of_ble_eq_true rfl) rfl (fun v S36 p35 => ?_)
              obtain ⟨⟨I37, F38⟩, rfl⟩ := p35
              have F39 : kw_F [8, 28, 10, 11] σ S36 := kw_F.tr F15 F38 (by decide)
              show kw_AW l 5 kw_E0 KX mX7_mid (p_X7_mid_0 σ a p) 105 [(6, .int x19), (4, .long x20), (3, .int z6), (0, .ref 0), (1, .int a), (2, .int p)] [] S36
              refine kw_iconst (pc := 105) (i := 59) (v := 1) rfl rfl ?_
              exact kw_ireturn (pc := 106) (i := 60) (ty := .int) rfl rfl rfl ⟨⟨I37, F39⟩, _, rfl⟩
            · refine kw_lload (pc := 59) (i := 33) (k := 1) (n := 4) rfl rfl ?_
              refine kw_bipush (pc := 61) (i := 34) (v := 12) rfl rfl ?_
              refine kw_iload_n (pc := 63) (i := 35) (k := 5) (n := 2) rfl rfl rfl ?_
              refine kw_isub (pc := 64) (i := 36) rfl (fun z40 e_z40 t_z40 => ?_)
              refine kw_aload_n (pc := 65) (i := 37) (k := 3) (n := 0) rfl rfl rfl ?_
              refine kw_get (pc := 66) (i := 38) (v := .ref 10) rfl rfl rfl lkX7_63 (fun _ => rfl) ?_
              refine kw_iload (pc := 69) (i := 39) (k := 0) (n := 6) rfl rfl ?_
              refine kw_iald (pc := 71) (i := 40) (n := 6) rfl rfl (by omega) (by omega) (fun z41 e_z41 => ?_)
              have t_z41 := congrArg Int32.toInt e_z41
              have r_z41 := kw_rng z41
              refine kw_imul (pc := 72) (i := 41) rfl (fun z42 e_z42 t_z42 => ?_)
              refine kw_iload_n (pc := 73) (i := 42) (k := 5) (n := 2) rfl rfl rfl ?_
              refine kw_aload_n (pc := 74) (i := 43) (k := 3) (n := 0) rfl rfl rfl ?_
              refine kw_get (pc := 75) (i := 44) (v := .ref 11) rfl rfl rfl lkX7_66 (fun _ => rfl) ?_
              refine kw_iload (pc := 78) (i := 45) (k := 0) (n := 6) rfl rfl ?_
              refine kw_iald (pc := 80) (i := 46) (n := 6) rfl rfl (by omega) (by omega) (fun z43 e_z43 => ?_)
              have t_z43 := congrArg Int32.toInt e_z43
              have r_z43 := kw_rng z43
              refine kw_imul (pc := 81) (i := 47) rfl (fun z44 e_z44 t_z44 => ?_)
              refine kw_iadd (pc := 82) (i := 48) rfl (fun z45 e_z45 t_z45 => ?_)
              refine kw_i2l (pc := 83) (i := 49) rfl (fun z46 e_z46 t_z46 => ?_)
              refine kw_ladd (pc := 84) (i := 50) rfl (fun z47 e_z47 => ?_)
              refine kw_lstore (pc := 85) (i := 51) (n := 4) (lv' := [(4, .long z47), (6, .int x19), (3, .int z6), (0, .ref 0), (1, .int a), (2, .int p)]) rfl (by decide) rfl ?_
              refine kw_iinc' (pc := 87) (i := 52) (k := 1) (fun z => [(6, .int z), (4, .long z47), (3, .int z6), (0, .ref 0), (1, .int a), (2, .int p)]) rfl rfl (by decide) rfl (fun _ => rfl) (fun z48 e_z48 t_z48 => ?_)
              refine kw_goto (pc := 90) (i := 53) (tgt := 46) rfl rfl ?_
              refine kw_sub (lv' := [(6, .int z48), (4, .long z47), (3, .int z6), (0, .ref 0), (1, .int a), (2, .int p)]) [0, 1, 2, 3, 4, 5] rfl ?_
              exact ih22 z48 z47 (by omega) (by omega)
        exact L21 _ 0 z18 (by omega) (Nat.lt_succ_self _)
      · refine kw_iload_n (pc := 22) (i := 13) (k := 0) (n := 3) rfl rfl rfl ?_
        exact kw_ireturn (pc := 23) (i := 14) (ty := .int) rfl rfl rfl ⟨⟨I7, F9⟩, _, rfl⟩
    · refine kw_iconst (pc := 10) (i := 5) (v := (-1)) rfl rfl ?_
      exact kw_ireturn (pc := 11) (i := 6) (ty := .int) rfl rfl rfl ⟨⟨hI, hF0⟩, _, rfl⟩
abbrev p_X7_odds_0 (σ : kw_S) (a : Int32) (m : Int32) (p : Int32) : Option Value → kw_S → Prop := fun v σ' => (kw_I bX σ' ∧ kw_F [8, 28, 10, 11] σ σ') ∧ ∃ r : Int32, v = some (.int r)
set_option maxRecDepth 100000 in
set_option maxHeartbeats 4000000 in
theorem c_X7_odds_0 (l : Launch) (σ : kw_S) (hI : kw_I bX σ) (a : Int32) (m : Int32) (p : Int32) : kw_Met l 5 KX mX7_odds [.ref 0, .int a, .int m, .int p] σ (p_X7_odds_0 σ a m p) := by
  have r_a := kw_rng a
  have r_m := kw_rng m
  have r_p := kw_rng p
  have hF0 : kw_F [8, 28, 10, 11] σ σ := kw_F.rf
  have q_m999 : (-999 : Int32).toInt = -999 := rfl
  have q_m1 : (-1 : Int32).toInt = -1 := rfl
  have q_0 : (0 : Int32).toInt = 0 := rfl
  have q_1 : (1 : Int32).toInt = 1 := rfl
  have q_12 : (12 : Int32).toInt = 12 := rfl
  have q_999 : (999 : Int32).toInt = 999 := rfl
  refine kw_Met.of (by decide) rfl tX7_odds (Nat.le_of_ble_eq_true rfl) ?_
  show kw_AW l 5 kw_E0 KX mX7_odds (p_X7_odds_0 σ a m p) 0 [(0, .ref 0), (1, .int a), (2, .int m), (3, .int p)] [] σ
  refine kw_iload_n (pc := 0) (i := 0) (k := 2) (n := 2) rfl rfl rfl ?_
  refine kw_sipush (pc := 1) (i := 1) (v := (-999)) rfl rfl ?_
  refine kw_icmp_lt (pc := 4) (i := 2) (tgt := 24) rfl rfl (fun c1 => ?_) (fun c1 => ?_)
  · refine kw_iconst (pc := 24) (i := 11) (v := (-1)) rfl rfl ?_
    exact kw_ireturn (pc := 25) (i := 12) (ty := .int) rfl rfl rfl ⟨⟨hI, hF0⟩, _, rfl⟩
  · refine kw_iload_n (pc := 7) (i := 3) (k := 2) (n := 2) rfl rfl rfl ?_
    refine kw_sipush (pc := 8) (i := 4) (v := 999) rfl rfl ?_
    refine kw_icmp_gt (pc := 11) (i := 5) (tgt := 24) rfl rfl (fun c2 => ?_) (fun c2 => ?_)
    · refine kw_iconst (pc := 24) (i := 11) (v := (-1)) rfl rfl ?_
      exact kw_ireturn (pc := 25) (i := 12) (ty := .int) rfl rfl rfl ⟨⟨hI, hF0⟩, _, rfl⟩
    · refine kw_iload_n (pc := 14) (i := 6) (k := 3) (n := 3) rfl rfl rfl ?_
      refine kw_if_lt (pc := 15) (i := 7) (tgt := 24) rfl rfl (fun c3 => ?_) (fun c3 => ?_)
      · refine kw_iconst (pc := 24) (i := 11) (v := (-1)) rfl rfl ?_
        exact kw_ireturn (pc := 25) (i := 12) (ty := .int) rfl rfl rfl ⟨⟨hI, hF0⟩, _, rfl⟩
      · refine kw_iload_n (pc := 18) (i := 8) (k := 3) (n := 3) rfl rfl rfl ?_
        refine kw_bipush (pc := 19) (i := 9) (v := 12) rfl rfl ?_
        refine kw_icmp_le (pc := 21) (i := 10) (tgt := 26) rfl rfl (fun c4 => ?_) (fun c4 => ?_)
        · refine kw_aload_n (pc := 26) (i := 13) (k := 0) (n := 0) rfl rfl rfl ?_
          refine kw_iload_n (pc := 27) (i := 14) (k := 1) (n := 1) rfl rfl rfl ?_
          refine kw_callV (pc := 28) (i := 15) (Y := mX7_planRefusal) (a := 0) (As := [.int a]) (st := []) kw_hE rfl rfl lvX7_250 arX7_planRefusal (c_X7_planRefusal_0 l σ hI a ) (by decide) (Nat.le_of_ble_eq_true rfl) rfl (fun v S6 p5 => ?_)
          obtain ⟨⟨I9, F10⟩, z8, rfl, f7⟩ := p5
          have F11 : kw_F [8, 28, 10, 11] σ S6 := kw_F.tr hF0 F10 (by decide)
          have r_z8 := kw_rng z8
          show kw_AW l 5 kw_E0 KX mX7_odds (p_X7_odds_0 σ a m p) 31 [(0, .ref 0), (1, .int a), (2, .int m), (3, .int p)] [.int z8] S6
          refine kw_istore (pc := 31) (i := 16) (n := 4) (lv' := [(4, .int z8), (0, .ref 0), (1, .int a), (2, .int m), (3, .int p)]) rfl (by decide) rfl ?_
          refine kw_iload (pc := 33) (i := 17) (k := 0) (n := 4) rfl rfl ?_
          refine kw_if_eq (pc := 35) (i := 18) (tgt := 41) rfl rfl (fun c12 => ?_) (fun c12 => ?_)
          · refine kw_aload_n (pc := 41) (i := 21) (k := 1) (n := 0) rfl rfl rfl ?_
            refine kw_iload_n (pc := 42) (i := 22) (k := 2) (n := 1) rfl rfl rfl ?_
            refine kw_callV (pc := 43) (i := 23) (Y := mX7_foresee) (a := 0) (As := [.int a]) (st := []) kw_hE rfl rfl lvX7_292 arX7_foresee (c_X7_foresee_0 l S6 I9 a ) (by decide) (Nat.le_of_ble_eq_true rfl) rfl (fun v S14 p13 => ?_)
            obtain ⟨⟨I15, F16⟩, rfl⟩ := p13
            have F17 : kw_F [8, 28, 10, 11] σ S14 := kw_F.tr F11 F16 (by decide)
            show kw_AW l 5 kw_E0 KX mX7_odds (p_X7_odds_0 σ a m p) 46 [(4, .int z8), (0, .ref 0), (1, .int a), (2, .int m), (3, .int p)] [] S14
            have w_s := congrArg Int32.toInt (kw_F.at (a := 13) (j := a.toNatClampNeg) F16 (by decide))
            refine kw_aload_n (pc := 46) (i := 24) (k := 1) (n := 0) rfl rfl rfl ?_
            refine kw_get (pc := 47) (i := 25) (v := .ref 1) rfl rfl rfl lkX7_14 (fun _ => rfl) ?_
            refine kw_iload_n (pc := 50) (i := 26) (k := 2) (n := 1) rfl rfl rfl ?_
            refine kw_callV (pc := 51) (i := 27) (Y := mX3_sizeOf) (a := 1) (As := [.int a]) (st := []) kw_hE rfl rfl lvX7_110 arX3_sizeOf (c_X3_sizeOf_1 l S14 I15 a ) (by decide) (Nat.le_of_ble_eq_true rfl) rfl (fun v S19 p18 => ?_)
            obtain ⟨e25, z24, rfl, f20, f21, f22, f23⟩ := p18
            rw [e25]
            have r_z24 := kw_rng z24
            show kw_AW l 5 kw_E0 KX mX7_odds (p_X7_odds_0 σ a m p) 54 [(4, .int z8), (0, .ref 0), (1, .int a), (2, .int m), (3, .int p)] [.int z24] S14
            refine kw_istore (pc := 54) (i := 28) (n := 5) (lv' := [(5, .int z24), (4, .int z8), (0, .ref 0), (1, .int a), (2, .int m), (3, .int p)]) rfl (by decide) rfl ?_
            refine kw_lconst (pc := 56) (i := 29) (v := 1) rfl rfl ?_
            refine kw_lstore (pc := 57) (i := 30) (n := 6) (lv' := [(6, .long 1), (5, .int z24), (4, .int z8), (0, .ref 0), (1, .int a), (2, .int m), (3, .int p)]) rfl (by decide) rfl ?_
            refine kw_iconst (pc := 59) (i := 31) (v := 0) rfl rfl ?_
            refine kw_istore (pc := 60) (i := 32) (n := 8) (lv' := [(8, .int 0), (6, .long 1), (5, .int z24), (4, .int z8), (0, .ref 0), (1, .int a), (2, .int m), (3, .int p)]) rfl (by decide) rfl ?_
            have L28 : ∀ (n32 : Nat) (x26 : Int32) (x27 : Int64), 0 ≤ x26.toInt → (z24.toInt - x26.toInt).toNat < n32 → kw_AW l 5 kw_E0 KX mX7_odds (p_X7_odds_0 σ a m p) 62 [(8, .int x26), (6, .long x27), (5, .int z24), (4, .int z8), (0, .ref 0), (1, .int a), (2, .int m), (3, .int p)] [] S14 := by
              intro n32
              induction n32 with
              | zero => intro x26 x27 v30 m31; exact absurd m31 (Nat.not_lt_zero _)
              | succ n32 ih29 =>
                intro x26 x27 v30 m31
                have r_x26 := kw_rng x26
                refine kw_iload (pc := 62) (i := 33) (k := 0) (n := 8) rfl rfl ?_
                refine kw_iload (pc := 64) (i := 34) (k := 2) (n := 5) rfl rfl ?_
                refine kw_icmp_ge (pc := 66) (i := 35) (tgt := 83) rfl rfl (fun c33 => ?_) (fun c33 => ?_)
                · refine kw_lconst (pc := 83) (i := 42) (v := 0) rfl rfl ?_
                  refine kw_lstore (pc := 84) (i := 43) (n := 8) (lv' := [(8, .long 0), (6, .long x27), (5, .int z24), (4, .int z8), (0, .ref 0), (1, .int a), (2, .int m), (3, .int p)]) rfl (by decide) rfl ?_
                  refine kw_iconst (pc := 86) (i := 44) (v := 0) rfl rfl ?_
                  refine kw_istore (pc := 87) (i := 45) (n := 10) (lv' := [(10, .int 0), (8, .long 0), (6, .long x27), (5, .int z24), (4, .int z8), (0, .ref 0), (1, .int a), (2, .int m), (3, .int p)]) rfl (by decide) rfl ?_
                  have L36 : ∀ (n40 : Nat) (x34 : Int32) (x35 : Int64), 0 ≤ x34.toInt → (((1 : Int32) <<< (z24 &&& 31)).toInt - x34.toInt).toNat < n40 → kw_AW l 5 kw_E0 KX mX7_odds (p_X7_odds_0 σ a m p) 89 [(10, .int x34), (8, .long x35), (6, .long x27), (5, .int z24), (4, .int z8), (0, .ref 0), (1, .int a), (2, .int m), (3, .int p)] [] S14 := by
                    intro n40
                    induction n40 with
                    | zero => intro x34 x35 v38 m39; exact absurd m39 (Nat.not_lt_zero _)
                    | succ n40 ih37 =>
                      intro x34 x35 v38 m39
                      have r_x34 := kw_rng x34
                      refine kw_iload (pc := 89) (i := 46) (k := 0) (n := 10) rfl rfl ?_
                      refine kw_iconst (pc := 91) (i := 47) (v := 1) rfl rfl ?_
                      refine kw_iload (pc := 92) (i := 48) (k := 3) (n := 5) rfl rfl ?_
                      refine kw_ishl (pc := 94) (i := 49) rfl (fun z41 e_z41 => ?_)
                      have r_z41 := kw_rng z41
                      have t_z41 := congrArg Int32.toInt e_z41
                      refine kw_icmp_ge (pc := 95) (i := 50) (tgt := 129) rfl rfl (fun c42 => ?_) (fun c42 => ?_)
                      · refine kw_aload_n (pc := 129) (i := 66) (k := 5) (n := 0) rfl rfl rfl ?_
                        refine kw_get (pc := 130) (i := 67) (v := .ref 8) rfl rfl rfl lkX7_55 (fun _ => rfl) ?_
                        refine kw_lload (pc := 133) (i := 68) (k := 1) (n := 8) rfl rfl ?_
                        refine kw_lload (pc := 135) (i := 69) (k := 2) (n := 6) rfl rfl ?_
                        refine kw_callV (pc := 137) (i := 70) (Y := mX4_tellShare) (a := 8) (As := [.long x35, .long x27]) (st := []) kw_hE rfl rfl lvX7_297 arX4_tellShare (c_X4_tellShare_8 l S14 I15 x35 x27 ) (by decide) (Nat.le_of_ble_eq_true rfl) rfl (fun v S44 p43 => ?_)
                        obtain ⟨⟨I45, F46⟩, rfl⟩ := p43
                        have F47 : kw_F [8, 28, 10, 11] σ S44 := kw_F.tr F17 F46 (by decide)
                        show kw_AW l 5 kw_E0 KX mX7_odds (p_X7_odds_0 σ a m p) 140 [(10, .int x34), (8, .long x35), (6, .long x27), (5, .int z24), (4, .int z8), (0, .ref 0), (1, .int a), (2, .int m), (3, .int p)] [] S44
                        refine kw_iconst (pc := 140) (i := 71) (v := 1) rfl rfl ?_
                        exact kw_ireturn (pc := 141) (i := 72) (ty := .int) rfl rfl rfl ⟨⟨I45, F47⟩, _, rfl⟩
                      · refine kw_aload_n (pc := 98) (i := 51) (k := 5) (n := 0) rfl rfl rfl ?_
                        refine kw_iload (pc := 99) (i := 52) (k := 3) (n := 5) rfl rfl ?_
                        refine kw_iload (pc := 101) (i := 53) (k := 0) (n := 10) rfl rfl ?_
                        refine kw_callV (pc := 103) (i := 54) (Y := mX7_milesByGusts) (a := 0) (As := [.int z24, .int x34]) (st := []) kw_hE rfl rfl lvX7_301 arX7_milesByGusts (c_X7_milesByGusts_0 l S14 I15 z24 x34 (by omega)) (by decide) (Nat.le_of_ble_eq_true rfl) rfl (fun v S49 p48 => ?_)
                        obtain ⟨e51, z50, rfl⟩ := p48
                        rw [e51]
                        have r_z50 := kw_rng z50
                        show kw_AW l 5 kw_E0 KX mX7_odds (p_X7_odds_0 σ a m p) 106 [(10, .int x34), (8, .long x35), (6, .long x27), (5, .int z24), (4, .int z8), (0, .ref 0), (1, .int a), (2, .int m), (3, .int p)] [.int z50] S14
                        refine kw_iload_n (pc := 106) (i := 55) (k := 7) (n := 2) rfl rfl rfl ?_
                        refine kw_icmp_lt (pc := 107) (i := 56) (tgt := 123) rfl rfl (fun c52 => ?_) (fun c52 => ?_)
                        · refine kw_iinc' (pc := 123) (i := 64) (k := 0) (fun z => [(10, .int z), (8, .long x35), (6, .long x27), (5, .int z24), (4, .int z8), (0, .ref 0), (1, .int a), (2, .int m), (3, .int p)]) rfl rfl (by decide) rfl (fun _ => rfl) (fun z53 e_z53 t_z53 => ?_)
                          refine kw_goto (pc := 126) (i := 65) (tgt := 89) rfl rfl ?_
                          refine kw_sub (lv' := [(10, .int z53), (8, .long x35), (6, .long x27), (5, .int z24), (4, .int z8), (0, .ref 0), (1, .int a), (2, .int m), (3, .int p)]) [0, 1, 2, 3, 4, 5, 6, 7, 8] rfl ?_
                          exact ih37 z53 x35 (by omega) (by omega)
                        · refine kw_lload (pc := 110) (i := 57) (k := 1) (n := 8) rfl rfl ?_
                          refine kw_iload (pc := 112) (i := 58) (k := 3) (n := 5) rfl rfl ?_
                          refine kw_iload (pc := 114) (i := 59) (k := 0) (n := 10) rfl rfl ?_
                          refine kw_iload_n (pc := 116) (i := 60) (k := 8) (n := 3) rfl rfl rfl ?_
                          refine kw_callS (pc := 117) (i := 61) (Y := mX7_weightOfGusts) (As := [.int z24, .int x34, .int p]) (st := [.long x35]) kw_hE rfl lsX7_304 arX7_weightOfGusts (c_X7_weightOfGusts l S14 I15 z24 x34 p ) (by decide) (Nat.le_of_ble_eq_true rfl) rfl (fun v S55 p54 => ?_)
                          obtain ⟨e57, z56, rfl⟩ := p54
                          rw [e57]
                          show kw_AW l 5 kw_E0 KX mX7_odds (p_X7_odds_0 σ a m p) 120 [(10, .int x34), (8, .long x35), (6, .long x27), (5, .int z24), (4, .int z8), (0, .ref 0), (1, .int a), (2, .int m), (3, .int p)] [.long z56, .long x35] S14
                          refine kw_ladd (pc := 120) (i := 62) rfl (fun z58 e_z58 => ?_)
                          refine kw_lstore (pc := 121) (i := 63) (n := 8) (lv' := [(8, .long z58), (10, .int x34), (6, .long x27), (5, .int z24), (4, .int z8), (0, .ref 0), (1, .int a), (2, .int m), (3, .int p)]) rfl (by decide) rfl ?_
                          refine kw_iinc' (pc := 123) (i := 64) (k := 1) (fun z => [(10, .int z), (8, .long z58), (6, .long x27), (5, .int z24), (4, .int z8), (0, .ref 0), (1, .int a), (2, .int m), (3, .int p)]) rfl rfl (by decide) rfl (fun _ => rfl) (fun z59 e_z59 t_z59 => ?_)
                          refine kw_goto (pc := 126) (i := 65) (tgt := 89) rfl rfl ?_
                          refine kw_sub (lv' := [(10, .int z59), (8, .long z58), (6, .long x27), (5, .int z24), (4, .int z8), (0, .ref 0), (1, .int a), (2, .int m), (3, .int p)]) [0, 1, 2, 3, 4, 5, 6, 7, 8] rfl ?_
                          exact ih37 z59 z58 (by omega) (by omega)
                  exact L36 _ 0 0 (by omega) (Nat.lt_succ_self _)
                · refine kw_lload (pc := 69) (i := 36) (k := 1) (n := 6) rfl rfl ?_
                  refine kw_ldc2 (pc := 71) (i := 37) (v := 12) rfl ckX7_295 ?_
                  refine kw_lmul (pc := 74) (i := 38) rfl (fun z60 e_z60 => ?_)
                  refine kw_lstore (pc := 75) (i := 39) (n := 6) (lv' := [(6, .long z60), (8, .int x26), (5, .int z24), (4, .int z8), (0, .ref 0), (1, .int a), (2, .int m), (3, .int p)]) rfl (by decide) rfl ?_
                  refine kw_iinc' (pc := 77) (i := 40) (k := 1) (fun z => [(8, .int z), (6, .long z60), (5, .int z24), (4, .int z8), (0, .ref 0), (1, .int a), (2, .int m), (3, .int p)]) rfl rfl (by decide) rfl (fun _ => rfl) (fun z61 e_z61 t_z61 => ?_)
                  refine kw_goto (pc := 80) (i := 41) (tgt := 62) rfl rfl ?_
                  refine kw_sub (lv' := [(8, .int z61), (6, .long z60), (5, .int z24), (4, .int z8), (0, .ref 0), (1, .int a), (2, .int m), (3, .int p)]) [0, 1, 2, 3, 4, 5, 6, 7] rfl ?_
                  exact ih29 z61 z60 (by omega) (by omega)
            exact L28 _ 0 1 (by omega) (Nat.lt_succ_self _)
          · refine kw_iload (pc := 38) (i := 19) (k := 0) (n := 4) rfl rfl ?_
            exact kw_ireturn (pc := 40) (i := 20) (ty := .int) rfl rfl rfl ⟨⟨I9, F11⟩, _, rfl⟩
        · refine kw_iconst (pc := 24) (i := 11) (v := (-1)) rfl rfl ?_
          exact kw_ireturn (pc := 25) (i := 12) (ty := .int) rfl rfl rfl ⟨⟨hI, hF0⟩, _, rfl⟩
abbrev p_X7_lots_0 (σ : kw_S) (n : Int32) (seed : Int32) : Option Value → kw_S → Prop := fun v σ' => (kw_I bX σ' ∧ kw_F [8, 28, 4, 18, 19] σ σ') ∧ ∃ r : Int32, v = some (.int r)
set_option maxRecDepth 100000 in
set_option maxHeartbeats 4000000 in
theorem c_X7_lots_0 (l : Launch) (σ : kw_S) (hI : kw_I bX σ) (n : Int32) (seed : Int32) : kw_Met l 6 KX mX7_lots [.ref 0, .int n, .int seed] σ (p_X7_lots_0 σ n seed) := by
  have r_n := kw_rng n
  have r_seed := kw_rng seed
  have hF0 : kw_F [8, 28, 4, 18, 19] σ σ := kw_F.rf
  have q_m4 : (-4 : Int32).toInt = -4 := rfl
  have q_m2 : (-2 : Int32).toInt = -2 := rfl
  have q_m1 : (-1 : Int32).toInt = -1 := rfl
  have q_0 : (0 : Int32).toInt = 0 := rfl
  have q_1 : (1 : Int32).toInt = 1 := rfl
  have q_2 : (2 : Int32).toInt = 2 := rfl
  have q_6 : (6 : Int32).toInt = 6 := rfl
  have q_20 : (20 : Int32).toInt = 20 := rfl
  refine kw_Met.of (by decide) rfl tX7_lots (Nat.le_of_ble_eq_true rfl) ?_
  show kw_AW l 6 kw_E0 KX mX7_lots (p_X7_lots_0 σ n seed) 0 [(0, .ref 0), (1, .int n), (2, .int seed)] [] σ
  refine kw_iload_n (pc := 0) (i := 0) (k := 1) (n := 1) rfl rfl rfl ?_
  refine kw_iconst (pc := 1) (i := 1) (v := 1) rfl rfl ?_
  refine kw_icmp_lt (pc := 2) (i := 2) (tgt := 25) rfl rfl (fun c1 => ?_) (fun c1 => ?_)
  · refine kw_iconst (pc := 25) (i := 14) (v := (-1)) rfl rfl ?_
    exact kw_ireturn (pc := 26) (i := 15) (ty := .int) rfl rfl rfl ⟨⟨hI, hF0⟩, _, rfl⟩
  · refine kw_iload_n (pc := 5) (i := 3) (k := 1) (n := 1) rfl rfl rfl ?_
    refine kw_bipush (pc := 6) (i := 4) (v := 20) rfl rfl ?_
    refine kw_icmp_gt (pc := 8) (i := 5) (tgt := 25) rfl rfl (fun c2 => ?_) (fun c2 => ?_)
    · refine kw_iconst (pc := 25) (i := 14) (v := (-1)) rfl rfl ?_
      exact kw_ireturn (pc := 26) (i := 15) (ty := .int) rfl rfl rfl ⟨⟨hI, hF0⟩, _, rfl⟩
    · refine kw_iload_n (pc := 11) (i := 6) (k := 2) (n := 2) rfl rfl rfl ?_
      refine kw_iconst (pc := 12) (i := 7) (v := 1) rfl rfl ?_
      refine kw_icmp_lt (pc := 13) (i := 8) (tgt := 25) rfl rfl (fun c3 => ?_) (fun c3 => ?_)
      · refine kw_iconst (pc := 25) (i := 14) (v := (-1)) rfl rfl ?_
        exact kw_ireturn (pc := 26) (i := 15) (ty := .int) rfl rfl rfl ⟨⟨hI, hF0⟩, _, rfl⟩
      · refine kw_iload_n (pc := 16) (i := 9) (k := 2) (n := 2) rfl rfl rfl ?_
        refine kw_i2l (pc := 17) (i := 10) rfl (fun z4 e_z4 t_z4 => ?_)
        refine kw_ldc2 (pc := 18) (i := 11) (v := 2147483647) rfl ckX7_308 ?_
        refine kw_lcmp (pc := 21) (i := 12) rfl (fun z5 e_z5 t_z5 => ?_)
        have lq6 : (2147483647 : Int64).toInt = 2147483647 := rfl
        refine kw_if_lt (pc := 22) (i := 13) (tgt := 27) rfl rfl (fun c7 => ?_) (fun c7 => ?_)
        · refine kw_aload_n (pc := 27) (i := 16) (k := 0) (n := 0) rfl rfl rfl ?_
          refine kw_get (pc := 28) (i := 17) (v := .ref 4) rfl rfl rfl lkX7_31 (fun _ => rfl) ?_
          refine kw_get (pc := 31) (i := 18) (v := .ref 17) rfl rfl rfl lkX7_117 (fun _ => rfl) ?_
          refine kw_get (pc := 34) (i := 19) (v := .int (σ.1 17 5)) rfl rfl rfl lkX7_133 (fun _ => rfl) ?_
          have b8 : 0 ≤ (σ.1 17 5).toInt ∧ (σ.1 17 5).toInt ≤ 6 := hI 17 5
          refine kw_istore_n (pc := 37) (i := 20) (n := 3) (lv' := [(3, .int (σ.1 17 5)), (0, .ref 0), (1, .int n), (2, .int seed)]) rfl rfl (by decide) rfl ?_
          refine kw_iload_n (pc := 38) (i := 21) (k := 0) (n := 3) rfl rfl rfl ?_
          refine kw_iconst (pc := 39) (i := 22) (v := 1) rfl rfl ?_
          refine kw_icmp_ge (pc := 40) (i := 23) (tgt := 46) rfl rfl (fun c9 => ?_) (fun c9 => ?_)
          · refine kw_aload_n (pc := 46) (i := 26) (k := 1) (n := 0) rfl rfl rfl ?_
            refine kw_get (pc := 47) (i := 27) (v := .ref 4) rfl rfl rfl lkX7_31 (fun _ => rfl) ?_
            refine kw_iconst (pc := 50) (i := 28) (v := 2) rfl rfl ?_
            refine kw_iload_n (pc := 51) (i := 29) (k := 2) (n := 1) rfl rfl rfl ?_
            refine kw_imul (pc := 52) (i := 30) rfl (fun z10 e_z10 t_z10 => ?_)
            rw [show (2 : Int32).toInt = 2 from rfl] at t_z10
            refine kw_callV (pc := 53) (i := 31) (Y := mX5_hasRoomFor) (a := 4) (As := [.int z10]) (st := []) kw_hE rfl rfl lvX7_188 arX5_hasRoomFor (c_X5_hasRoomFor_4 l σ hI z10 (by omega) (by omega)) (by decide) (Nat.le_of_ble_eq_true rfl) rfl (fun v S12 p11 => ?_)
            obtain ⟨e16, z15, rfl, f13, f14⟩ := p11
            rw [e16]
            have r_z15 := kw_rng z15
            show kw_AW l 6 kw_E0 KX mX7_lots (p_X7_lots_0 σ n seed) 56 [(3, .int (σ.1 17 5)), (0, .ref 0), (1, .int n), (2, .int seed)] [.int z15] σ
            refine kw_if_ne (pc := 56) (i := 32) (tgt := 62) rfl rfl (fun c17 => ?_) (fun c17 => ?_)
            · refine kw_iload_n (pc := 62) (i := 35) (k := 3) (n := 2) rfl rfl rfl ?_
              refine kw_i2l (pc := 63) (i := 36) rfl (fun z18 e_z18 t_z18 => ?_)
              refine kw_lstore (pc := 64) (i := 37) (n := 4) (lv' := [(4, .long z18), (3, .int (σ.1 17 5)), (0, .ref 0), (1, .int n), (2, .int seed)]) rfl (by decide) rfl ?_
              refine kw_iconst (pc := 66) (i := 38) (v := 0) rfl rfl ?_
              refine kw_istore (pc := 67) (i := 39) (n := 6) (lv' := [(6, .int 0), (4, .long z18), (3, .int (σ.1 17 5)), (0, .ref 0), (1, .int n), (2, .int seed)]) rfl (by decide) rfl ?_
              have L24 : ∀ (n28 : Nat) (x19 : Int32) (x20 : Int64) (S21 : kw_S), kw_I bX S21 → kw_F [8, 28, 4, 18, 19] σ S21 → 0 ≤ x19.toInt → (n.toInt - x19.toInt).toNat < n28 → kw_AW l 6 kw_E0 KX mX7_lots (p_X7_lots_0 σ n seed) 69 [(6, .int x19), (4, .long x20), (3, .int (σ.1 17 5)), (0, .ref 0), (1, .int n), (2, .int seed)] [] S21 := by
                intro n28
                induction n28 with
                | zero => intro x19 x20 S21 I22 F23 v26 m27; exact absurd m27 (Nat.not_lt_zero _)
                | succ n28 ih25 =>
                  intro x19 x20 S21 I22 F23 v26 m27
                  have r_x19 := kw_rng x19
                  refine kw_iload (pc := 69) (i := 40) (k := 0) (n := 6) rfl rfl ?_
                  refine kw_iload_n (pc := 71) (i := 41) (k := 4) (n := 1) rfl rfl rfl ?_
                  refine kw_icmp_ge (pc := 72) (i := 42) (tgt := 115) rfl rfl (fun c29 => ?_) (fun c29 => ?_)
                  · refine kw_aload_n (pc := 115) (i := 63) (k := 3) (n := 0) rfl rfl rfl ?_
                    refine kw_get (pc := 116) (i := 64) (v := .ref 8) rfl rfl rfl lkX7_55 (fun _ => rfl) ?_
                    refine kw_aload_n (pc := 119) (i := 65) (k := 3) (n := 0) rfl rfl rfl ?_
                    refine kw_get (pc := 120) (i := 66) (v := .ref 4) rfl rfl rfl lkX7_31 (fun _ => rfl) ?_
                    refine kw_get (pc := 123) (i := 67) (v := .int (S21.1 4 6)) rfl rfl rfl lkX7_204 (fun _ => rfl) ?_
                    have b30 := kw_rng (S21.1 4 6)
                    refine kw_callV (pc := 126) (i := 68) (Y := mX4_answer) (a := 8) (As := [.int (S21.1 4 6)]) (st := []) kw_hE rfl rfl lvX7_92 arX4_answer (c_X4_answer_8 l S21 I22 (S21.1 4 6) ) (by decide) (Nat.le_of_ble_eq_true rfl) rfl (fun v S32 p31 => ?_)
                    obtain ⟨⟨I35, F36⟩, z34, rfl, f33⟩ := p31
                    have F37 : kw_F [8, 28, 4, 18, 19] σ S32 := kw_F.tr F23 F36 (by decide)
                    have r_z34 := kw_rng z34
                    show kw_AW l 6 kw_E0 KX mX7_lots (p_X7_lots_0 σ n seed) 129 [(6, .int x19), (4, .long x20), (3, .int (σ.1 17 5)), (0, .ref 0), (1, .int n), (2, .int seed)] [.int z34] S32
                    exact kw_ireturn (pc := 129) (i := 69) (ty := .int) rfl rfl rfl ⟨⟨I35, F37⟩, _, rfl⟩
                  · refine kw_lload (pc := 75) (i := 43) (k := 1) (n := 4) rfl rfl ?_
                    refine kw_ldc2 (pc := 77) (i := 44) (v := 48271) rfl ckX7_310 ?_
                    refine kw_lmul (pc := 80) (i := 45) rfl (fun z38 e_z38 => ?_)
                    refine kw_ldc2 (pc := 81) (i := 46) (v := 2147483647) rfl ckX7_308 ?_
                    refine kw_lrem (pc := 84) (i := 47) rfl (by decide) (fun z39 e_z39 => ?_)
                    refine kw_lstore (pc := 85) (i := 48) (n := 4) (lv' := [(4, .long z39), (6, .int x19), (3, .int (σ.1 17 5)), (0, .ref 0), (1, .int n), (2, .int seed)]) rfl (by decide) rfl ?_
                    refine kw_aload_n (pc := 87) (i := 49) (k := 3) (n := 0) rfl rfl rfl ?_
                    refine kw_get (pc := 88) (i := 50) (v := .ref 4) rfl rfl rfl lkX7_31 (fun _ => rfl) ?_
                    refine kw_lload (pc := 91) (i := 51) (k := 0) (n := 4) rfl rfl ?_
                    refine kw_iload_n (pc := 93) (i := 52) (k := 2) (n := 3) rfl rfl rfl ?_
                    refine kw_i2l (pc := 94) (i := 53) rfl (fun z40 e_z40 t_z40 => ?_)
                    refine kw_lrem (pc := 95) (i := 54) rfl (by omega) (fun z41 e_z41 => ?_)
                    refine kw_l2i (pc := 96) (i := 55) rfl (fun z42 e_z42 => ?_)
                    have r_z42 := kw_rng z42
                    refine kw_callV (pc := 97) (i := 56) (Y := mX5_act) (a := 4) (As := [.int z42]) (st := []) kw_hE rfl rfl lvX7_191 arX5_act (c_X5_act_4 l S21 I22 z42 ) (by decide) (Nat.le_of_ble_eq_true rfl) rfl (fun v S44 p43 => ?_)
                    obtain ⟨⟨I45, F46⟩, rfl⟩ := p43
                    have F47 : kw_F [8, 28, 4, 18, 19] σ S44 := kw_F.tr F23 F46 (by decide)
                    show kw_AW l 6 kw_E0 KX mX7_lots (p_X7_lots_0 σ n seed) 100 [(4, .long z39), (6, .int x19), (3, .int (σ.1 17 5)), (0, .ref 0), (1, .int n), (2, .int seed)] [] S44
                    refine kw_aload_n (pc := 100) (i := 57) (k := 3) (n := 0) rfl rfl rfl ?_
                    refine kw_get (pc := 101) (i := 58) (v := .ref 4) rfl rfl rfl lkX7_31 (fun _ => rfl) ?_
                    refine kw_bipush (pc := 104) (i := 59) (v := 6) rfl rfl ?_
                    refine kw_callV (pc := 106) (i := 60) (Y := mX5_act) (a := 4) (As := [.int 6]) (st := []) kw_hE rfl rfl lvX7_191 arX5_act (c_X5_act_4 l S44 I45 6 ) (by decide) (Nat.le_of_ble_eq_true rfl) rfl (fun v S49 p48 => ?_)
                    obtain ⟨⟨I50, F51⟩, rfl⟩ := p48
                    have F52 : kw_F [8, 28, 4, 18, 19] σ S49 := kw_F.tr F47 F51 (by decide)
                    show kw_AW l 6 kw_E0 KX mX7_lots (p_X7_lots_0 σ n seed) 109 [(4, .long z39), (6, .int x19), (3, .int (σ.1 17 5)), (0, .ref 0), (1, .int n), (2, .int seed)] [] S49
                    refine kw_iinc' (pc := 109) (i := 61) (k := 1) (fun z => [(6, .int z), (4, .long z39), (3, .int (σ.1 17 5)), (0, .ref 0), (1, .int n), (2, .int seed)]) rfl rfl (by decide) rfl (fun _ => rfl) (fun z53 e_z53 t_z53 => ?_)
                    refine kw_goto (pc := 112) (i := 62) (tgt := 69) rfl rfl ?_
                    refine kw_sub (lv' := [(6, .int z53), (4, .long z39), (3, .int (σ.1 17 5)), (0, .ref 0), (1, .int n), (2, .int seed)]) [0, 1, 2, 3, 4, 5] rfl ?_
                    exact ih25 z53 z39 S49 I50 F52 (by omega) (by omega)
              exact L24 _ 0 z18 σ hI hF0 (by omega) (Nat.lt_succ_self _)
            · refine kw_bipush (pc := 59) (i := 33) (v := (-2)) rfl rfl ?_
              exact kw_ireturn (pc := 61) (i := 34) (ty := .int) rfl rfl rfl ⟨⟨hI, hF0⟩, _, rfl⟩
          · refine kw_bipush (pc := 43) (i := 24) (v := (-4)) rfl rfl ?_
            exact kw_ireturn (pc := 45) (i := 25) (ty := .int) rfl rfl rfl ⟨⟨hI, hF0⟩, _, rfl⟩
        · refine kw_iconst (pc := 25) (i := 14) (v := (-1)) rfl rfl ?_
          exact kw_ireturn (pc := 26) (i := 15) (ty := .int) rfl rfl rfl ⟨⟨hI, hF0⟩, _, rfl⟩
abbrev p_X7_asked_0 (σ : kw_S)  : Option Value → kw_S → Prop := fun v σ' => σ' = σ ∧ ∃ r : Int32, v = some (.int r)
set_option maxRecDepth 100000 in
set_option maxHeartbeats 4000000 in
theorem c_X7_asked_0 (l : Launch) (σ : kw_S) (hI : kw_I bX σ)  : kw_Met l 1 KX mX7_asked [.ref 0] σ (p_X7_asked_0 σ) := by
  refine kw_Met.of (by decide) rfl tX7_asked (Nat.le_of_ble_eq_true rfl) ?_
  show kw_AW l 1 kw_E0 KX mX7_asked (p_X7_asked_0 σ) 0 [(0, .ref 0)] [] σ
  refine kw_aload_n (pc := 0) (i := 0) (k := 0) (n := 0) rfl rfl rfl ?_
  refine kw_get (pc := 1) (i := 1) (v := .ref 8) rfl rfl rfl lkX7_55 (fun _ => rfl) ?_
  refine kw_get (pc := 4) (i := 2) (v := .int (σ.1 8 2)) rfl rfl rfl lkX7_312 (fun _ => rfl) ?_
  have b1 := kw_rng (σ.1 8 2)
  exact kw_ireturn (pc := 7) (i := 3) (ty := .int) rfl rfl rfl ⟨rfl, _, rfl⟩
abbrev p_X7_upper_0 (σ : kw_S)  : Option Value → kw_S → Prop := fun v σ' => σ' = σ ∧ ∃ r : Int64, v = some (.long r)
set_option maxRecDepth 100000 in
set_option maxHeartbeats 4000000 in
theorem c_X7_upper_0 (l : Launch) (σ : kw_S) (hI : kw_I bX σ)  : kw_Met l 1 KX mX7_upper [.ref 0] σ (p_X7_upper_0 σ) := by
  refine kw_Met.of (by decide) rfl tX7_upper (Nat.le_of_ble_eq_true rfl) ?_
  show kw_AW l 1 kw_E0 KX mX7_upper (p_X7_upper_0 σ) 0 [(0, .ref 0)] [] σ
  refine kw_aload_n (pc := 0) (i := 0) (k := 0) (n := 0) rfl rfl rfl ?_
  refine kw_get (pc := 1) (i := 1) (v := .ref 8) rfl rfl rfl lkX7_55 (fun _ => rfl) ?_
  refine kw_get (pc := 4) (i := 2) (v := .long (σ.2 8 3)) rfl rfl rfl lkX7_315 (fun _ => rfl) ?_
  exact kw_lreturn (pc := 7) (i := 3) rfl rfl ⟨rfl, _, rfl⟩
abbrev p_X7_lower_0 (σ : kw_S)  : Option Value → kw_S → Prop := fun v σ' => σ' = σ ∧ ∃ r : Int64, v = some (.long r)
set_option maxRecDepth 100000 in
set_option maxHeartbeats 4000000 in
theorem c_X7_lower_0 (l : Launch) (σ : kw_S) (hI : kw_I bX σ)  : kw_Met l 1 KX mX7_lower [.ref 0] σ (p_X7_lower_0 σ) := by
  refine kw_Met.of (by decide) rfl tX7_lower (Nat.le_of_ble_eq_true rfl) ?_
  show kw_AW l 1 kw_E0 KX mX7_lower (p_X7_lower_0 σ) 0 [(0, .ref 0)] [] σ
  refine kw_aload_n (pc := 0) (i := 0) (k := 0) (n := 0) rfl rfl rfl ?_
  refine kw_get (pc := 1) (i := 1) (v := .ref 8) rfl rfl rfl lkX7_55 (fun _ => rfl) ?_
  refine kw_get (pc := 4) (i := 2) (v := .long (σ.2 8 4)) rfl rfl rfl lkX7_319 (fun _ => rfl) ?_
  exact kw_lreturn (pc := 7) (i := 3) rfl rfl ⟨rfl, _, rfl⟩
abbrev p_X7_count_0 (σ : kw_S) (w : Int32) : Option Value → kw_S → Prop := fun v σ' => σ' = σ ∧ ∃ r : Int32, v = some (.int r)
set_option maxRecDepth 100000 in
set_option maxHeartbeats 4000000 in
theorem c_X7_count_0 (l : Launch) (σ : kw_S) (hI : kw_I bX σ) (w : Int32) : kw_Met l 3 KX mX7_count [.ref 0, .int w] σ (p_X7_count_0 σ w) := by
  have r_w := kw_rng w
  have q_m1 : (-1 : Int32).toInt = -1 := rfl
  have q_1 : (1 : Int32).toInt = 1 := rfl
  have q_4 : (4 : Int32).toInt = 4 := rfl
  refine kw_Met.of (by decide) rfl tX7_count (Nat.le_of_ble_eq_true rfl) ?_
  show kw_AW l 3 kw_E0 KX mX7_count (p_X7_count_0 σ w) 0 [(0, .ref 0), (1, .int w)] [] σ
  refine kw_iload_n (pc := 0) (i := 0) (k := 1) (n := 1) rfl rfl rfl ?_
  by_cases c1 : w.toInt = 0
  · refine kw_tableIn (pc := 1) (i := 1) (k := 0) (tgt := 56) rfl (by omega) (by decide) rfl rfl ?_
    refine kw_aload_n (pc := 56) (i := 2) (k := 0) (n := 0) rfl rfl rfl ?_
    refine kw_get (pc := 57) (i := 3) (v := .ref 4) rfl rfl rfl lkX7_31 (fun _ => rfl) ?_
    refine kw_get (pc := 60) (i := 4) (v := .ref 17) rfl rfl rfl lkX7_117 (fun _ => rfl) ?_
    refine kw_get (pc := 63) (i := 5) (v := .int (σ.1 17 5)) rfl rfl rfl lkX7_133 (fun _ => rfl) ?_
    have b2 : 0 ≤ (σ.1 17 5).toInt ∧ (σ.1 17 5).toInt ≤ 6 := hI 17 5
    exact kw_ireturn (pc := 66) (i := 6) (ty := .int) rfl rfl rfl ⟨rfl, _, rfl⟩
  by_cases c3 : w.toInt = 1
  · refine kw_tableIn (pc := 1) (i := 1) (k := 1) (tgt := 67) rfl (by omega) (by decide) rfl rfl ?_
    refine kw_aload_n (pc := 67) (i := 7) (k := 0) (n := 0) rfl rfl rfl ?_
    refine kw_get (pc := 68) (i := 8) (v := .ref 4) rfl rfl rfl lkX7_31 (fun _ => rfl) ?_
    refine kw_get (pc := 71) (i := 9) (v := .int (σ.1 4 5)) rfl rfl rfl lkX7_322 (fun _ => rfl) ?_
    have b4 := kw_rng (σ.1 4 5)
    exact kw_ireturn (pc := 74) (i := 10) (ty := .int) rfl rfl rfl ⟨rfl, _, rfl⟩
  by_cases c5 : w.toInt = 2
  · refine kw_tableIn (pc := 1) (i := 1) (k := 2) (tgt := 75) rfl (by omega) (by decide) rfl rfl ?_
    refine kw_aload_n (pc := 75) (i := 11) (k := 0) (n := 0) rfl rfl rfl ?_
    refine kw_get (pc := 76) (i := 12) (v := .ref 4) rfl rfl rfl lkX7_31 (fun _ => rfl) ?_
    refine kw_get (pc := 79) (i := 13) (v := .int (σ.1 4 3)) rfl rfl rfl lkX7_207 (fun _ => rfl) ?_
    have b6 : 0 ≤ (σ.1 4 3).toInt ∧ (σ.1 4 3).toInt ≤ 40 := hI 4 3
    exact kw_ireturn (pc := 82) (i := 14) (ty := .int) rfl rfl rfl ⟨rfl, _, rfl⟩
  by_cases c7 : w.toInt = 3
  · refine kw_tableIn (pc := 1) (i := 1) (k := 3) (tgt := 83) rfl (by omega) (by decide) rfl rfl ?_
    refine kw_aload_n (pc := 83) (i := 15) (k := 0) (n := 0) rfl rfl rfl ?_
    refine kw_get (pc := 84) (i := 16) (v := .ref 4) rfl rfl rfl lkX7_31 (fun _ => rfl) ?_
    refine kw_get (pc := 87) (i := 17) (v := .int (σ.1 4 4)) rfl rfl rfl lkX7_157 (fun _ => rfl) ?_
    have b8 := kw_rng (σ.1 4 4)
    refine kw_callS (pc := 90) (i := 18) (Y := mJ6_bitCount_0f7a4) (As := [.int (σ.1 4 4)]) (st := []) kw_hE rfl lsX7_160 arJ6_bitCount_0f7a4 (c_J6_bitCount_0f7a4 l σ hI (σ.1 4 4) ) (by decide) (Nat.le_of_ble_eq_true rfl) rfl (fun v S10 p9 => ?_)
    obtain ⟨e12, z11, rfl⟩ := p9
    rw [e12]
    have r_z11 := kw_rng z11
    show kw_AW l 3 kw_E0 KX mX7_count (p_X7_count_0 σ w) 93 [(0, .ref 0), (1, .int w)] [.int z11] σ
    exact kw_ireturn (pc := 93) (i := 19) (ty := .int) rfl rfl rfl ⟨rfl, _, rfl⟩
  by_cases c13 : w.toInt = 4
  · refine kw_tableIn (pc := 1) (i := 1) (k := 4) (tgt := 94) rfl (by omega) (by decide) rfl rfl ?_
    refine kw_aload_n (pc := 94) (i := 20) (k := 0) (n := 0) rfl rfl rfl ?_
    refine kw_get (pc := 95) (i := 21) (v := .ref 4) rfl rfl rfl lkX7_31 (fun _ => rfl) ?_
    refine kw_callV (pc := 98) (i := 22) (Y := mX5_allWet) (a := 4) (As := []) (st := []) kw_hE rfl rfl lvX7_240 arX5_allWet (c_X5_allWet_4 l σ hI  ) (by decide) (Nat.le_of_ble_eq_true rfl) rfl (fun v S15 p14 => ?_)
    obtain ⟨e17, z16, rfl⟩ := p14
    rw [e17]
    have r_z16 := kw_rng z16
    show kw_AW l 3 kw_E0 KX mX7_count (p_X7_count_0 σ w) 101 [(0, .ref 0), (1, .int w)] [.int z16] σ
    exact kw_ireturn (pc := 101) (i := 23) (ty := .int) rfl rfl rfl ⟨rfl, _, rfl⟩
  by_cases c18 : w.toInt = 5
  · refine kw_tableIn (pc := 1) (i := 1) (k := 5) (tgt := 102) rfl (by omega) (by decide) rfl rfl ?_
    refine kw_aload_n (pc := 102) (i := 24) (k := 0) (n := 0) rfl rfl rfl ?_
    refine kw_get (pc := 103) (i := 25) (v := .ref 4) rfl rfl rfl lkX7_31 (fun _ => rfl) ?_
    refine kw_get (pc := 106) (i := 26) (v := .ref 17) rfl rfl rfl lkX7_117 (fun _ => rfl) ?_
    refine kw_iconst (pc := 109) (i := 27) (v := 1) rfl rfl ?_
    refine kw_callV (pc := 110) (i := 28) (Y := mX1_howManyAre) (a := 17) (As := [.int 1]) (st := []) kw_hE rfl rfl lvX7_325 arX1_howManyAre (c_X1_howManyAre_17 l σ hI 1 ) (by decide) (Nat.le_of_ble_eq_true rfl) rfl (fun v S20 p19 => ?_)
    obtain ⟨e22, z21, rfl⟩ := p19
    rw [e22]
    have r_z21 := kw_rng z21
    show kw_AW l 3 kw_E0 KX mX7_count (p_X7_count_0 σ w) 113 [(0, .ref 0), (1, .int w)] [.int z21] σ
    exact kw_ireturn (pc := 113) (i := 29) (ty := .int) rfl rfl rfl ⟨rfl, _, rfl⟩
  by_cases c23 : w.toInt = 6
  · refine kw_tableIn (pc := 1) (i := 1) (k := 6) (tgt := 114) rfl (by omega) (by decide) rfl rfl ?_
    refine kw_aload_n (pc := 114) (i := 30) (k := 0) (n := 0) rfl rfl rfl ?_
    refine kw_get (pc := 115) (i := 31) (v := .ref 4) rfl rfl rfl lkX7_31 (fun _ => rfl) ?_
    refine kw_get (pc := 118) (i := 32) (v := .ref 17) rfl rfl rfl lkX7_117 (fun _ => rfl) ?_
    refine kw_iconst (pc := 121) (i := 33) (v := 4) rfl rfl ?_
    refine kw_callV (pc := 122) (i := 34) (Y := mX1_howManyAre) (a := 17) (As := [.int 4]) (st := []) kw_hE rfl rfl lvX7_325 arX1_howManyAre (c_X1_howManyAre_17 l σ hI 4 ) (by decide) (Nat.le_of_ble_eq_true rfl) rfl (fun v S25 p24 => ?_)
    obtain ⟨e27, z26, rfl⟩ := p24
    rw [e27]
    have r_z26 := kw_rng z26
    show kw_AW l 3 kw_E0 KX mX7_count (p_X7_count_0 σ w) 125 [(0, .ref 0), (1, .int w)] [.int z26] σ
    exact kw_ireturn (pc := 125) (i := 35) (ty := .int) rfl rfl rfl ⟨rfl, _, rfl⟩
  by_cases c28 : w.toInt = 7
  · refine kw_tableIn (pc := 1) (i := 1) (k := 7) (tgt := 126) rfl (by omega) (by decide) rfl rfl ?_
    refine kw_aload_n (pc := 126) (i := 36) (k := 0) (n := 0) rfl rfl rfl ?_
    refine kw_get (pc := 127) (i := 37) (v := .ref 1) rfl rfl rfl lkX7_14 (fun _ => rfl) ?_
    refine kw_callV (pc := 130) (i := 38) (Y := mX3_howMany) (a := 1) (As := []) (st := []) kw_hE rfl rfl lvX7_328 arX3_howMany (c_X3_howMany_1 l σ hI  ) (by decide) (Nat.le_of_ble_eq_true rfl) rfl (fun v S30 p29 => ?_)
    obtain ⟨e32, z31, rfl⟩ := p29
    rw [e32]
    have r_z31 := kw_rng z31
    show kw_AW l 3 kw_E0 KX mX7_count (p_X7_count_0 σ w) 133 [(0, .ref 0), (1, .int w)] [.int z31] σ
    exact kw_ireturn (pc := 133) (i := 39) (ty := .int) rfl rfl rfl ⟨rfl, _, rfl⟩
  by_cases c33 : w.toInt = 8
  · refine kw_tableIn (pc := 1) (i := 1) (k := 8) (tgt := 134) rfl (by omega) (by decide) rfl rfl ?_
    refine kw_aload_n (pc := 134) (i := 40) (k := 0) (n := 0) rfl rfl rfl ?_
    refine kw_get (pc := 135) (i := 41) (v := .ref 2) rfl rfl rfl lkX7_18 (fun _ => rfl) ?_
    refine kw_callV (pc := 138) (i := 42) (Y := mX3_howMany) (a := 2) (As := []) (st := []) kw_hE rfl rfl lvX7_328 arX3_howMany (c_X3_howMany_2 l σ hI  ) (by decide) (Nat.le_of_ble_eq_true rfl) rfl (fun v S35 p34 => ?_)
    obtain ⟨e37, z36, rfl⟩ := p34
    rw [e37]
    have r_z36 := kw_rng z36
    show kw_AW l 3 kw_E0 KX mX7_count (p_X7_count_0 σ w) 141 [(0, .ref 0), (1, .int w)] [.int z36] σ
    exact kw_ireturn (pc := 141) (i := 43) (ty := .int) rfl rfl rfl ⟨rfl, _, rfl⟩
  by_cases c38 : w.toInt = 9
  · refine kw_tableIn (pc := 1) (i := 1) (k := 9) (tgt := 142) rfl (by omega) (by decide) rfl rfl ?_
    refine kw_aload_n (pc := 142) (i := 44) (k := 0) (n := 0) rfl rfl rfl ?_
    refine kw_get (pc := 143) (i := 45) (v := .ref 5) rfl rfl rfl lkX7_35 (fun _ => rfl) ?_
    refine kw_callV (pc := 146) (i := 46) (Y := mX3_howMany) (a := 5) (As := []) (st := []) kw_hE rfl rfl lvX7_328 arX3_howMany (c_X3_howMany_5 l σ hI  ) (by decide) (Nat.le_of_ble_eq_true rfl) rfl (fun v S40 p39 => ?_)
    obtain ⟨e42, z41, rfl⟩ := p39
    rw [e42]
    have r_z41 := kw_rng z41
    show kw_AW l 3 kw_E0 KX mX7_count (p_X7_count_0 σ w) 149 [(0, .ref 0), (1, .int w)] [.int z41] σ
    exact kw_ireturn (pc := 149) (i := 47) (ty := .int) rfl rfl rfl ⟨rfl, _, rfl⟩
  refine kw_tableOut (pc := 1) (i := 1) (tgt := 150) rfl (by omega) rfl ?_
  refine kw_iconst (pc := 150) (i := 48) (v := (-1)) rfl rfl ?_
  exact kw_ireturn (pc := 151) (i := 49) (ty := .int) rfl rfl rfl ⟨rfl, _, rfl⟩
abbrev p_X7_miles_0 (σ : kw_S)  : Option Value → kw_S → Prop := fun v σ' => (kw_I bX σ' ∧ kw_F [8, 28] σ σ') ∧ ∃ r : Int32, v = some (.int r)
set_option maxRecDepth 100000 in
set_option maxHeartbeats 4000000 in
theorem c_X7_miles_0 (l : Launch) (σ : kw_S) (hI : kw_I bX σ)  : kw_Met l 2 KX mX7_miles [.ref 0] σ (p_X7_miles_0 σ) := by
  have hF0 : kw_F [8, 28] σ σ := kw_F.rf
  refine kw_Met.of (by decide) rfl tX7_miles (Nat.le_of_ble_eq_true rfl) ?_
  show kw_AW l 2 kw_E0 KX mX7_miles (p_X7_miles_0 σ) 0 [(0, .ref 0)] [] σ
  refine kw_aload_n (pc := 0) (i := 0) (k := 0) (n := 0) rfl rfl rfl ?_
  refine kw_get (pc := 1) (i := 1) (v := .ref 8) rfl rfl rfl lkX7_55 (fun _ => rfl) ?_
  refine kw_aload_n (pc := 4) (i := 2) (k := 0) (n := 0) rfl rfl rfl ?_
  refine kw_get (pc := 5) (i := 3) (v := .ref 4) rfl rfl rfl lkX7_31 (fun _ => rfl) ?_
  refine kw_get (pc := 8) (i := 4) (v := .int (σ.1 4 7)) rfl rfl rfl lkX7_197 (fun _ => rfl) ?_
  have b1 := kw_rng (σ.1 4 7)
  refine kw_i2l (pc := 11) (i := 5) rfl (fun z2 e_z2 t_z2 => ?_)
  refine kw_callV (pc := 12) (i := 6) (Y := mX4_tellWhole) (a := 8) (As := [.long z2]) (st := []) kw_hE rfl rfl lvX7_200 arX4_tellWhole (c_X4_tellWhole_8 l σ hI z2 ) (by decide) (Nat.le_of_ble_eq_true rfl) rfl (fun v S4 p3 => ?_)
  obtain ⟨⟨I5, F6⟩, rfl⟩ := p3
  have F7 : kw_F [8, 28] σ S4 := kw_F.tr hF0 F6 (by decide)
  show kw_AW l 2 kw_E0 KX mX7_miles (p_X7_miles_0 σ) 15 [(0, .ref 0)] [] S4
  refine kw_aload_n (pc := 15) (i := 7) (k := 0) (n := 0) rfl rfl rfl ?_
  refine kw_get (pc := 16) (i := 8) (v := .ref 4) rfl rfl rfl lkX7_31 (fun _ => rfl) ?_
  refine kw_get (pc := 19) (i := 9) (v := .int (S4.1 4 6)) rfl rfl rfl lkX7_204 (fun _ => rfl) ?_
  have b8 := kw_rng (S4.1 4 6)
  exact kw_ireturn (pc := 22) (i := 10) (ty := .int) rfl rfl rfl ⟨⟨I5, F7⟩, _, rfl⟩
abbrev p_X7_finding_0 (σ : kw_S)  : Option Value → kw_S → Prop := fun v σ' => σ' = σ ∧ ∃ r : Int32, v = some (.int r)
set_option maxRecDepth 100000 in
set_option maxHeartbeats 4000000 in
theorem c_X7_finding_0 (l : Launch) (σ : kw_S) (hI : kw_I bX σ)  : kw_Met l 1 KX mX7_finding [.ref 0] σ (p_X7_finding_0 σ) := by
  refine kw_Met.of (by decide) rfl tX7_finding (Nat.le_of_ble_eq_true rfl) ?_
  show kw_AW l 1 kw_E0 KX mX7_finding (p_X7_finding_0 σ) 0 [(0, .ref 0)] [] σ
  refine kw_aload_n (pc := 0) (i := 0) (k := 0) (n := 0) rfl rfl rfl ?_
  refine kw_get (pc := 1) (i := 1) (v := .ref 8) rfl rfl rfl lkX7_55 (fun _ => rfl) ?_
  refine kw_get (pc := 4) (i := 2) (v := .int (σ.1 8 1)) rfl rfl rfl lkX7_331 (fun _ => rfl) ?_
  have b1 := kw_rng (σ.1 8 1)
  exact kw_ireturn (pc := 7) (i := 3) (ty := .int) rfl rfl rfl ⟨rfl, _, rfl⟩
abbrev p_X7_findings_0 (σ : kw_S) (f : Int32) : Option Value → kw_S → Prop := fun v σ' => σ' = σ ∧ ∃ r : Int32, v = some (.int r)
set_option maxRecDepth 100000 in
set_option maxHeartbeats 4000000 in
theorem c_X7_findings_0 (l : Launch) (σ : kw_S) (hI : kw_I bX σ) (f : Int32) : kw_Met l 1 KX mX7_findings [.ref 0, .int f] σ (p_X7_findings_0 σ f) := by
  have r_f := kw_rng f
  have q_m1 : (-1 : Int32).toInt = -1 := rfl
  have q_1 : (1 : Int32).toInt = 1 := rfl
  have q_5 : (5 : Int32).toInt = 5 := rfl
  refine kw_Met.of (by decide) rfl tX7_findings (Nat.le_of_ble_eq_true rfl) ?_
  show kw_AW l 1 kw_E0 KX mX7_findings (p_X7_findings_0 σ f) 0 [(0, .ref 0), (1, .int f)] [] σ
  refine kw_iload_n (pc := 0) (i := 0) (k := 1) (n := 1) rfl rfl rfl ?_
  refine kw_iconst (pc := 1) (i := 1) (v := 1) rfl rfl ?_
  refine kw_icmp_lt (pc := 2) (i := 2) (tgt := 10) rfl rfl (fun c1 => ?_) (fun c1 => ?_)
  · refine kw_iconst (pc := 10) (i := 6) (v := (-1)) rfl rfl ?_
    exact kw_ireturn (pc := 11) (i := 7) (ty := .int) rfl rfl rfl ⟨rfl, _, rfl⟩
  · refine kw_iload_n (pc := 5) (i := 3) (k := 1) (n := 1) rfl rfl rfl ?_
    refine kw_iconst (pc := 6) (i := 4) (v := 5) rfl rfl ?_
    refine kw_icmp_le (pc := 7) (i := 5) (tgt := 12) rfl rfl (fun c2 => ?_) (fun c2 => ?_)
    · refine kw_aload_n (pc := 12) (i := 8) (k := 0) (n := 0) rfl rfl rfl ?_
      refine kw_get (pc := 13) (i := 9) (v := .ref 8) rfl rfl rfl lkX7_55 (fun _ => rfl) ?_
      refine kw_get (pc := 16) (i := 10) (v := .ref 28) rfl rfl rfl lkX7_334 (fun _ => rfl) ?_
      refine kw_iload_n (pc := 19) (i := 11) (k := 1) (n := 1) rfl rfl rfl ?_
      refine kw_iald (pc := 20) (i := 12) (n := 6) rfl rfl (by omega) (by omega) (fun z3 e_z3 => ?_)
      have t_z3 := congrArg Int32.toInt e_z3
      have r_z3 := kw_rng z3
      exact kw_ireturn (pc := 21) (i := 13) (ty := .int) rfl rfl rfl ⟨rfl, _, rfl⟩
    · refine kw_iconst (pc := 10) (i := 6) (v := (-1)) rfl rfl ?_
      exact kw_ireturn (pc := 11) (i := 7) (ty := .int) rfl rfl rfl ⟨rfl, _, rfl⟩
abbrev p_X7_digest_0 (σ : kw_S)  : Option Value → kw_S → Prop := fun v σ' => σ' = σ ∧ ∃ r : Int64, v = some (.long r)
set_option maxRecDepth 100000 in
set_option maxHeartbeats 4000000 in
theorem c_X7_digest_0 (l : Launch) (σ : kw_S) (hI : kw_I bX σ)  : kw_Met l 4 KX mX7_digest [.ref 0] σ (p_X7_digest_0 σ) := by
  have q_0 : (0 : Int32).toInt = 0 := rfl
  have q_3 : (3 : Int32).toInt = 3 := rfl
  have q_6 : (6 : Int32).toInt = 6 := rfl
  have q_9 : (9 : Int32).toInt = 9 := rfl
  refine kw_Met.of (by decide) rfl tX7_digest (Nat.le_of_ble_eq_true rfl) ?_
  show kw_AW l 4 kw_E0 KX mX7_digest (p_X7_digest_0 σ) 0 [(0, .ref 0)] [] σ
  refine kw_ldc2 (pc := 0) (i := 0) (v := 17) rfl ckX7_337 ?_
  refine kw_lstore_n (pc := 3) (i := 1) (n := 1) (lv' := [(1, .long 17), (0, .ref 0)]) rfl rfl (by decide) rfl ?_
  refine kw_iconst (pc := 4) (i := 2) (v := 0) rfl rfl ?_
  refine kw_istore_n (pc := 5) (i := 3) (n := 3) (lv' := [(3, .int 0), (1, .long 17), (0, .ref 0)]) rfl rfl (by decide) rfl ?_
  have L3 : ∀ (n7 : Nat) (x1 : Int32) (x2 : Int64), 0 ≤ x1.toInt → (11 - x1.toInt).toNat < n7 → kw_AW l 4 kw_E0 KX mX7_digest (p_X7_digest_0 σ) 6 [(3, .int x1), (1, .long x2), (0, .ref 0)] [] σ := by
    intro n7
    induction n7 with
    | zero => intro x1 x2 v5 m6; exact absurd m6 (Nat.not_lt_zero _)
    | succ n7 ih4 =>
      intro x1 x2 v5 m6
      have r_x1 := kw_rng x1
      refine kw_iload_n (pc := 6) (i := 4) (k := 0) (n := 3) rfl rfl rfl ?_
      refine kw_bipush (pc := 7) (i := 5) (v := 9) rfl rfl ?_
      refine kw_icmp_gt (pc := 9) (i := 6) (tgt := 31) rfl rfl (fun c8 => ?_) (fun c8 => ?_)
      · refine kw_ldc2 (pc := 31) (i := 18) (v := 31) rfl ckX7_339 ?_
        refine kw_lload_n (pc := 34) (i := 19) (k := 1) (n := 1) rfl rfl rfl ?_
        refine kw_lmul (pc := 35) (i := 20) rfl (fun z9 e_z9 => ?_)
        refine kw_aload_n (pc := 36) (i := 21) (k := 2) (n := 0) rfl rfl rfl ?_
        refine kw_get (pc := 37) (i := 22) (v := .ref 4) rfl rfl rfl lkX7_31 (fun _ => rfl) ?_
        refine kw_get (pc := 40) (i := 23) (v := .int (σ.1 4 6)) rfl rfl rfl lkX7_204 (fun _ => rfl) ?_
        have b10 := kw_rng (σ.1 4 6)
        refine kw_i2l (pc := 43) (i := 24) rfl (fun z11 e_z11 t_z11 => ?_)
        refine kw_ladd (pc := 44) (i := 25) rfl (fun z12 e_z12 => ?_)
        refine kw_lstore_n (pc := 45) (i := 26) (n := 1) (lv' := [(1, .long z12), (3, .int x1), (0, .ref 0)]) rfl rfl (by decide) rfl ?_
        refine kw_ldc2 (pc := 46) (i := 27) (v := 31) rfl ckX7_339 ?_
        refine kw_lload_n (pc := 49) (i := 28) (k := 0) (n := 1) rfl rfl rfl ?_
        refine kw_lmul (pc := 50) (i := 29) rfl (fun z13 e_z13 => ?_)
        refine kw_aload_n (pc := 51) (i := 30) (k := 2) (n := 0) rfl rfl rfl ?_
        refine kw_get (pc := 52) (i := 31) (v := .ref 4) rfl rfl rfl lkX7_31 (fun _ => rfl) ?_
        refine kw_get (pc := 55) (i := 32) (v := .int (σ.1 4 7)) rfl rfl rfl lkX7_197 (fun _ => rfl) ?_
        have b14 := kw_rng (σ.1 4 7)
        refine kw_i2l (pc := 58) (i := 33) rfl (fun z15 e_z15 t_z15 => ?_)
        refine kw_ladd (pc := 59) (i := 34) rfl (fun z16 e_z16 => ?_)
        refine kw_lstore_n (pc := 60) (i := 35) (n := 1) (lv' := [(1, .long z16), (3, .int x1), (0, .ref 0)]) rfl rfl (by decide) rfl ?_
        refine kw_iconst (pc := 61) (i := 36) (v := 0) rfl rfl ?_
        refine kw_istore_n (pc := 62) (i := 37) (n := 3) (lv' := [(3, .int 0), (1, .long z16), (0, .ref 0)]) rfl rfl (by decide) rfl ?_
        have L19 : ∀ (n23 : Nat) (x17 : Int32) (x18 : Int64), 0 ≤ x17.toInt → (7 - x17.toInt).toNat < n23 → kw_AW l 4 kw_E0 KX mX7_digest (p_X7_digest_0 σ) 63 [(3, .int x17), (1, .long x18), (0, .ref 0)] [] σ := by
          intro n23
          induction n23 with
          | zero => intro x17 x18 v21 m22; exact absurd m22 (Nat.not_lt_zero _)
          | succ n23 ih20 =>
            intro x17 x18 v21 m22
            have r_x17 := kw_rng x17
            refine kw_iload_n (pc := 63) (i := 38) (k := 0) (n := 3) rfl rfl rfl ?_
            refine kw_aload_n (pc := 64) (i := 39) (k := 2) (n := 0) rfl rfl rfl ?_
            refine kw_get (pc := 65) (i := 40) (v := .ref 4) rfl rfl rfl lkX7_31 (fun _ => rfl) ?_
            refine kw_get (pc := 68) (i := 41) (v := .ref 17) rfl rfl rfl lkX7_117 (fun _ => rfl) ?_
            refine kw_get (pc := 71) (i := 42) (v := .int (σ.1 17 5)) rfl rfl rfl lkX7_133 (fun _ => rfl) ?_
            have b24 : 0 ≤ (σ.1 17 5).toInt ∧ (σ.1 17 5).toInt ≤ 6 := hI 17 5
            refine kw_icmp_ge (pc := 74) (i := 43) (tgt := 117) rfl rfl (fun c25 => ?_) (fun c25 => ?_)
            · refine kw_iconst (pc := 117) (i := 64) (v := 0) rfl rfl ?_
              refine kw_istore_n (pc := 118) (i := 65) (n := 3) (lv' := [(3, .int 0), (1, .long x18), (0, .ref 0)]) rfl rfl (by decide) rfl ?_
              have L28 : ∀ (n32 : Nat) (x26 : Int32) (x27 : Int64), 0 ≤ x26.toInt → (4 - x26.toInt).toNat < n32 → kw_AW l 4 kw_E0 KX mX7_digest (p_X7_digest_0 σ) 119 [(3, .int x26), (1, .long x27), (0, .ref 0)] [] σ := by
                intro n32
                induction n32 with
                | zero => intro x26 x27 v30 m31; exact absurd m31 (Nat.not_lt_zero _)
                | succ n32 ih29 =>
                  intro x26 x27 v30 m31
                  have r_x26 := kw_rng x26
                  refine kw_iload_n (pc := 119) (i := 66) (k := 0) (n := 3) rfl rfl rfl ?_
                  refine kw_iconst (pc := 120) (i := 67) (v := 3) rfl rfl ?_
                  refine kw_icmp_ge (pc := 121) (i := 68) (tgt := 146) rfl rfl (fun c33 => ?_) (fun c33 => ?_)
                  · refine kw_aload_n (pc := 146) (i := 81) (k := 2) (n := 0) rfl rfl rfl ?_
                    refine kw_get (pc := 147) (i := 82) (v := .ref 2) rfl rfl rfl lkX7_18 (fun _ => rfl) ?_
                    refine kw_aload_n (pc := 150) (i := 83) (k := 2) (n := 0) rfl rfl rfl ?_
                    refine kw_get (pc := 151) (i := 84) (v := .ref 1) rfl rfl rfl lkX7_14 (fun _ => rfl) ?_
                    refine kw_lload_n (pc := 154) (i := 85) (k := 1) (n := 1) rfl rfl rfl ?_
                    refine kw_callV (pc := 155) (i := 86) (Y := mX3_fold) (a := 1) (As := [.long x27]) (st := [.ref 2]) kw_hE rfl rfl lvX7_344 arX3_fold (c_X3_fold_1 l σ hI x27 ) (by decide) (Nat.le_of_ble_eq_true rfl) rfl (fun v S35 p34 => ?_)
                    obtain ⟨e37, z36, rfl⟩ := p34
                    rw [e37]
                    show kw_AW l 4 kw_E0 KX mX7_digest (p_X7_digest_0 σ) 158 [(3, .int x26), (1, .long x27), (0, .ref 0)] [.long z36, .ref 2] σ
                    refine kw_callV (pc := 158) (i := 87) (Y := mX3_fold) (a := 2) (As := [.long z36]) (st := []) kw_hE rfl rfl lvX7_344 arX3_fold (c_X3_fold_2 l σ hI z36 ) (by decide) (Nat.le_of_ble_eq_true rfl) rfl (fun v S39 p38 => ?_)
                    obtain ⟨e41, z40, rfl⟩ := p38
                    rw [e41]
                    show kw_AW l 4 kw_E0 KX mX7_digest (p_X7_digest_0 σ) 161 [(3, .int x26), (1, .long x27), (0, .ref 0)] [.long z40] σ
                    exact kw_lreturn (pc := 161) (i := 88) rfl rfl ⟨rfl, _, rfl⟩
                  · refine kw_ldc2 (pc := 124) (i := 69) (v := 31) rfl ckX7_339 ?_
                    refine kw_lload_n (pc := 127) (i := 70) (k := 1) (n := 1) rfl rfl rfl ?_
                    refine kw_lmul (pc := 128) (i := 71) rfl (fun z42 e_z42 => ?_)
                    refine kw_aload_n (pc := 129) (i := 72) (k := 2) (n := 0) rfl rfl rfl ?_
                    refine kw_get (pc := 130) (i := 73) (v := .ref 5) rfl rfl rfl lkX7_35 (fun _ => rfl) ?_
                    refine kw_iload_n (pc := 133) (i := 74) (k := 0) (n := 3) rfl rfl rfl ?_
                    refine kw_callV (pc := 134) (i := 75) (Y := mX3_sizeOf) (a := 5) (As := [.int x26]) (st := [.long z42]) kw_hE rfl rfl lvX7_110 arX3_sizeOf (c_X3_sizeOf_5 l σ hI x26 ) (by decide) (Nat.le_of_ble_eq_true rfl) rfl (fun v S44 p43 => ?_)
                    obtain ⟨e50, z49, rfl, f45, f46, f47, f48⟩ := p43
                    rw [e50]
                    have r_z49 := kw_rng z49
                    show kw_AW l 4 kw_E0 KX mX7_digest (p_X7_digest_0 σ) 137 [(3, .int x26), (1, .long x27), (0, .ref 0)] [.int z49, .long z42] σ
                    refine kw_i2l (pc := 137) (i := 76) rfl (fun z51 e_z51 t_z51 => ?_)
                    refine kw_ladd (pc := 138) (i := 77) rfl (fun z52 e_z52 => ?_)
                    refine kw_lstore_n (pc := 139) (i := 78) (n := 1) (lv' := [(1, .long z52), (3, .int x26), (0, .ref 0)]) rfl rfl (by decide) rfl ?_
                    refine kw_iinc' (pc := 140) (i := 79) (k := 1) (fun z => [(3, .int z), (1, .long z52), (0, .ref 0)]) rfl rfl (by decide) rfl (fun _ => rfl) (fun z53 e_z53 t_z53 => ?_)
                    refine kw_goto (pc := 143) (i := 80) (tgt := 119) rfl rfl ?_
                    refine kw_sub (lv' := [(3, .int z53), (1, .long z52), (0, .ref 0)]) [0, 1, 2] rfl ?_
                    exact ih29 z53 z52 (by omega) (by omega)
              exact L28 _ 0 x18 (by omega) (Nat.lt_succ_self _)
            · refine kw_iconst (pc := 77) (i := 44) (v := 0) rfl rfl ?_
              refine kw_istore (pc := 78) (i := 45) (n := 4) (lv' := [(4, .int 0), (3, .int x17), (1, .long x18), (0, .ref 0)]) rfl (by decide) rfl ?_
              have L56 : ∀ (n60 : Nat) (x54 : Int32) (x55 : Int64), 0 ≤ x54.toInt → (8 - x54.toInt).toNat < n60 → kw_AW l 4 kw_E0 KX mX7_digest (p_X7_digest_0 σ) 80 [(4, .int x54), (3, .int x17), (1, .long x55), (0, .ref 0)] [] σ := by
                intro n60
                induction n60 with
                | zero => intro x54 x55 v58 m59; exact absurd m59 (Nat.not_lt_zero _)
                | succ n60 ih57 =>
                  intro x54 x55 v58 m59
                  have r_x54 := kw_rng x54
                  refine kw_iload (pc := 80) (i := 46) (k := 0) (n := 4) rfl rfl ?_
                  refine kw_bipush (pc := 82) (i := 47) (v := 6) rfl rfl ?_
                  refine kw_icmp_gt (pc := 84) (i := 48) (tgt := 111) rfl rfl (fun c61 => ?_) (fun c61 => ?_)
                  · refine kw_iinc' (pc := 111) (i := 62) (k := 1) (fun z => [(3, .int z), (4, .int x54), (1, .long x55), (0, .ref 0)]) rfl rfl (by decide) rfl (fun _ => rfl) (fun z62 e_z62 t_z62 => ?_)
                    refine kw_goto (pc := 114) (i := 63) (tgt := 63) rfl rfl ?_
                    refine kw_sub (lv' := [(3, .int z62), (1, .long x55), (0, .ref 0)]) [0, 2, 3] rfl ?_
                    exact ih20 z62 x55 (by omega) (by omega)
                  · refine kw_ldc2 (pc := 87) (i := 49) (v := 31) rfl ckX7_339 ?_
                    refine kw_lload_n (pc := 90) (i := 50) (k := 2) (n := 1) rfl rfl rfl ?_
                    refine kw_lmul (pc := 91) (i := 51) rfl (fun z63 e_z63 => ?_)
                    refine kw_aload_n (pc := 92) (i := 52) (k := 3) (n := 0) rfl rfl rfl ?_
                    refine kw_get (pc := 93) (i := 53) (v := .ref 4) rfl rfl rfl lkX7_31 (fun _ => rfl) ?_
                    refine kw_iload_n (pc := 96) (i := 54) (k := 1) (n := 3) rfl rfl rfl ?_
                    refine kw_iload (pc := 97) (i := 55) (k := 0) (n := 4) rfl rfl ?_
                    refine kw_callV (pc := 99) (i := 56) (Y := mX5_trait) (a := 4) (As := [.int x17, .int x54]) (st := [.long z63]) kw_hE rfl rfl lvX7_140 arX5_trait (c_X5_trait_4 l σ hI x17 x54 ) (by decide) (Nat.le_of_ble_eq_true rfl) rfl (fun v S65 p64 => ?_)
                    obtain ⟨e67, z66, rfl⟩ := p64
                    rw [e67]
                    have r_z66 := kw_rng z66
                    show kw_AW l 4 kw_E0 KX mX7_digest (p_X7_digest_0 σ) 102 [(4, .int x54), (3, .int x17), (1, .long x55), (0, .ref 0)] [.int z66, .long z63] σ
                    refine kw_i2l (pc := 102) (i := 57) rfl (fun z68 e_z68 t_z68 => ?_)
                    refine kw_ladd (pc := 103) (i := 58) rfl (fun z69 e_z69 => ?_)
                    refine kw_lstore_n (pc := 104) (i := 59) (n := 1) (lv' := [(1, .long z69), (4, .int x54), (3, .int x17), (0, .ref 0)]) rfl rfl (by decide) rfl ?_
                    refine kw_iinc' (pc := 105) (i := 60) (k := 1) (fun z => [(4, .int z), (1, .long z69), (3, .int x17), (0, .ref 0)]) rfl rfl (by decide) rfl (fun _ => rfl) (fun z70 e_z70 t_z70 => ?_)
                    refine kw_goto (pc := 108) (i := 61) (tgt := 80) rfl rfl ?_
                    refine kw_sub (lv' := [(4, .int z70), (3, .int x17), (1, .long z69), (0, .ref 0)]) [0, 2, 1, 3] rfl ?_
                    exact ih57 z70 z69 (by omega) (by omega)
              exact L56 _ 0 x18 (by omega) (Nat.lt_succ_self _)
        exact L19 _ 0 z16 (by omega) (Nat.lt_succ_self _)
      · refine kw_ldc2 (pc := 12) (i := 7) (v := 31) rfl ckX7_339 ?_
        refine kw_lload_n (pc := 15) (i := 8) (k := 1) (n := 1) rfl rfl rfl ?_
        refine kw_lmul (pc := 16) (i := 9) rfl (fun z71 e_z71 => ?_)
        refine kw_aload_n (pc := 17) (i := 10) (k := 2) (n := 0) rfl rfl rfl ?_
        refine kw_iload_n (pc := 18) (i := 11) (k := 0) (n := 3) rfl rfl rfl ?_
        refine kw_callV (pc := 19) (i := 12) (Y := mX7_count) (a := 0) (As := [.int x1]) (st := [.long z71]) kw_hE rfl rfl lvX7_341 arX7_count (c_X7_count_0 l σ hI x1 ) (by decide) (Nat.le_of_ble_eq_true rfl) rfl (fun v S73 p72 => ?_)
        obtain ⟨e75, z74, rfl⟩ := p72
        rw [e75]
        have r_z74 := kw_rng z74
        show kw_AW l 4 kw_E0 KX mX7_digest (p_X7_digest_0 σ) 22 [(3, .int x1), (1, .long x2), (0, .ref 0)] [.int z74, .long z71] σ
        refine kw_i2l (pc := 22) (i := 13) rfl (fun z76 e_z76 t_z76 => ?_)
        refine kw_ladd (pc := 23) (i := 14) rfl (fun z77 e_z77 => ?_)
        refine kw_lstore_n (pc := 24) (i := 15) (n := 1) (lv' := [(1, .long z77), (3, .int x1), (0, .ref 0)]) rfl rfl (by decide) rfl ?_
        refine kw_iinc' (pc := 25) (i := 16) (k := 1) (fun z => [(3, .int z), (1, .long z77), (0, .ref 0)]) rfl rfl (by decide) rfl (fun _ => rfl) (fun z78 e_z78 t_z78 => ?_)
        refine kw_goto (pc := 28) (i := 17) (tgt := 6) rfl rfl ?_
        refine kw_sub (lv' := [(3, .int z78), (1, .long z77), (0, .ref 0)]) [0, 1, 2] rfl ?_
        exact ih4 z78 z77 (by omega) (by omega)
  exact L3 _ 0 17 (by omega) (Nat.lt_succ_self _)
