noncomputable def l_X7_kinds_0_19 (a1 : Int32) (a2 : Int32) (a3 : Int32) (S : kw_S) : Nat → Int32 → Int32 → Int32 × kw_S
  | 0, _, _ => (0, S)
  | n + 1, x4, x5 => if x5.toInt < (6 : Int32).toInt then (kf_l (S.1 46 a1.toNatClampNeg) fun z3 => kf_l (f_X7_pulledSo_0 S a2 x5 z3) fun z4 => if z4.toInt = 0 then (kf_l (x5 + Int32.ofInt 1) fun z5 => l_X7_kinds_0_19 a1 a2 a3 S n x4 z5) else (kf_l ((1 : Int32) <<< (x5 &&& 31)) fun z6 => kf_l (x4 ||| z6) fun z7 => kf_l (x5 + Int32.ofInt 1) fun z8 => l_X7_kinds_0_19 a1 a2 a3 S n z7 z8)) else ((x4, S))
theorem l_X7_kinds_0_19_s (a1 : Int32) (a2 : Int32) (a3 : Int32) (S : kw_S) (n : Nat) (x4 : Int32) (x5 : Int32) : l_X7_kinds_0_19 a1 a2 a3 S (n + 1) x4 x5 = if x5.toInt < (6 : Int32).toInt then (kf_l (S.1 46 a1.toNatClampNeg) fun z3 => kf_l (f_X7_pulledSo_0 S a2 x5 z3) fun z4 => if z4.toInt = 0 then (kf_l (x5 + Int32.ofInt 1) fun z5 => l_X7_kinds_0_19 a1 a2 a3 S n x4 z5) else (kf_l ((1 : Int32) <<< (x5 &&& 31)) fun z6 => kf_l (x4 ||| z6) fun z7 => kf_l (x5 + Int32.ofInt 1) fun z8 => l_X7_kinds_0_19 a1 a2 a3 S n z7 z8)) else ((x4, S)) := rfl
noncomputable def f_X7_kinds_0 (σ : kw_S) (i : Int32) (a : Int32) : Int32 × kw_S := kf_b (f_X7_pairsRefusal_0 σ i a) fun z1 S2 => if z1.toInt = 0 then (l_X7_kinds_0_19 i a z1 S2 ((7 - (0 : Int32).toInt).toNat + 1) (0 : Int32) (0 : Int32)) else ((z1, S2))
theorem f_X7_kinds_0_u (σ : kw_S) (i : Int32) (a : Int32) : f_X7_kinds_0 σ i a = kf_b (f_X7_pairsRefusal_0 σ i a) fun z1 S2 => if z1.toInt = 0 then (l_X7_kinds_0_19 i a z1 S2 ((7 - (0 : Int32).toInt).toNat + 1) (0 : Int32) (0 : Int32)) else ((z1, S2)) := rfl
abbrev p_X7_kinds_0 (σ : kw_S) (i : Int32) (a : Int32) : Option Value → kw_S → Prop := fun vv σ' => (kw_I bX σ' ∧ kw_F [8, 28] σ σ') ∧ ∃ r : Int32, vv = some (.int r) ∧ (r, σ') = f_X7_kinds_0 σ i a
set_option maxRecDepth 100000 in
set_option maxHeartbeats 4000000 in
theorem c_X7_kinds_0 (l : Launch) (σ : kw_S) (hI : kw_I bX σ) (i : Int32) (a : Int32) : kw_Met l 5 KX mX7_kinds [.ref 0, .int i, .int a] σ (p_X7_kinds_0 σ i a) := by
  have r_i := kw_rng i
  have r_a := kw_rng a
  have hF0 : kw_F [8, 28] σ σ := kw_F.rf
  have hF := (f_X7_kinds_0_u σ i a).symm
  have q_0 : (0 : Int32).toInt = 0 := rfl
  have q_1 : (1 : Int32).toInt = 1 := rfl
  have q_6 : (6 : Int32).toInt = 6 := rfl
  refine kw_Met.of (by decide) rfl tX7_kinds (Nat.le_of_ble_eq_true rfl) ?_
  show kw_AW l 5 kw_E0 KX mX7_kinds (p_X7_kinds_0 σ i a) 0 [(0, .ref 0), (1, .int i), (2, .int a)] [] σ
  refine kw_aload_n (pc := 0) (i := 0) (k := 0) (n := 0) rfl rfl rfl ?_
  refine kw_iload_n (pc := 1) (i := 1) (k := 1) (n := 1) rfl rfl rfl ?_
  refine kw_iload_n (pc := 2) (i := 2) (k := 2) (n := 2) rfl rfl rfl ?_
  refine kw_callV (pc := 3) (i := 3) (Y := mX7_pairsRefusal) (a := 0) (As := [.int i, .int a]) (st := []) kw_hE rfl rfl lvX7_282 arX7_pairsRefusal (c_X7_pairsRefusal_0 l σ hI i a ) (by decide) (Nat.le_of_ble_eq_true rfl) rfl (fun v S2 p1 => ?_)
  obtain ⟨⟨I6, F7⟩, z5, rfl, f3, ef4⟩ := p1
  have F8 : kw_F [8, 28] σ S2 := kw_F.tr hF0 F7 (by decide)
  replace hF := kf_be ef4 hF
  have r_z5 := kw_rng z5
  show kw_AW l 5 kw_E0 KX mX7_kinds (p_X7_kinds_0 σ i a) 6 [(0, .ref 0), (1, .int i), (2, .int a)] [.int z5] S2
  refine kw_istore_n (pc := 6) (i := 4) (n := 3) (lv' := [(3, .int z5), (0, .ref 0), (1, .int i), (2, .int a)]) rfl rfl (by decide) rfl ?_
  refine kw_iload_n (pc := 7) (i := 5) (k := 0) (n := 3) rfl rfl rfl ?_
  refine kw_if_eq (pc := 8) (i := 6) (tgt := 13) rfl rfl (fun c9 => ?_) (fun c9 => ?_)
  · replace hF := kf_p c9 hF
    refine kw_iconst (pc := 13) (i := 9) (v := 0) rfl rfl ?_
    refine kw_istore (pc := 14) (i := 10) (n := 4) (lv' := [(4, .int 0), (3, .int z5), (0, .ref 0), (1, .int i), (2, .int a)]) rfl (by decide) rfl ?_
    refine kw_iconst (pc := 16) (i := 11) (v := 0) rfl rfl ?_
    refine kw_istore (pc := 17) (i := 12) (n := 5) (lv' := [(5, .int 0), (4, .int 0), (3, .int z5), (0, .ref 0), (1, .int i), (2, .int a)]) rfl (by decide) rfl ?_
    have L12 : ∀ (n16 : Nat) (x10 : Int32) (x11 : Int32), 0 ≤ x10.toInt → l_X7_kinds_0_19 i a z5 S2 n16 x11 x10 = (f_X7_kinds_0 σ i a) → (7 - x10.toInt).toNat < n16 → kw_AW l 5 kw_E0 KX mX7_kinds (p_X7_kinds_0 σ i a) 19 [(5, .int x10), (4, .int x11), (3, .int z5), (0, .ref 0), (1, .int i), (2, .int a)] [] S2 := by
      intro n16
      induction n16 with
      | zero => intro x10 x11 v14 hF m15; exact absurd m15 (Nat.not_lt_zero _)
      | succ n16 ih13 =>
        intro x10 x11 v14 hF m15
        replace hF := kf_st (l_X7_kinds_0_19_s _ _ _ _ _ _ _) hF
        have r_x10 := kw_rng x10
        have r_x11 := kw_rng x11
        refine kw_iload (pc := 19) (i := 13) (k := 0) (n := 5) rfl rfl ?_
        refine kw_bipush (pc := 21) (i := 14) (v := 6) rfl rfl ?_
        refine kw_icmp_ge (pc := 23) (i := 15) (tgt := 63) rfl rfl (fun c17 => ?_) (fun c17 => ?_)
        · replace hF := kf_nl c17 hF
          refine kw_iload (pc := 63) (i := 35) (k := 1) (n := 4) rfl rfl ?_
          exact kw_ireturn (pc := 65) (i := 36) (ty := .int) rfl rfl rfl ⟨⟨I6, F8⟩, _, rfl, hF⟩
        · replace hF := kf_p c17 hF
          refine kw_aload_n (pc := 26) (i := 16) (k := 3) (n := 0) rfl rfl rfl ?_
          refine kw_iload_n (pc := 27) (i := 17) (k := 5) (n := 2) rfl rfl rfl ?_
          refine kw_iload (pc := 28) (i := 18) (k := 0) (n := 5) rfl rfl ?_
          refine kw_aload_n (pc := 30) (i := 19) (k := 3) (n := 0) rfl rfl rfl ?_
          refine kw_get (pc := 31) (i := 20) (v := .ref 4) rfl rfl rfl lkX7_31 (fun _ => rfl) ?_
          refine kw_get (pc := 34) (i := 21) (v := .ref 17) rfl rfl rfl lkX7_117 (fun _ => rfl) ?_
          refine kw_get (pc := 37) (i := 22) (v := .ref 46) rfl rfl rfl lkX7_168 (fun _ => rfl) ?_
          refine kw_iload_n (pc := 40) (i := 23) (k := 4) (n := 1) rfl rfl rfl ?_
          refine kw_iald (pc := 41) (i := 24) (n := 6) rfl rfl (by omega) (by omega) (fun z18 e_z18 => ?_)
          replace hF := kf_le e_z18 hF
          have t_z18 := congrArg Int32.toInt e_z18
          have r_z18 := kw_rng z18
          refine kw_callV (pc := 42) (i := 25) (Y := mX7_pulledSo) (a := 0) (As := [.int a, .int x10, .int z18]) (st := []) kw_hE rfl rfl lvX7_285 arX7_pulledSo (c_X7_pulledSo_0 l S2 I6 a x10 z18 ) (by decide) (Nat.le_of_ble_eq_true rfl) rfl (fun v S20 p19 => ?_)
          obtain ⟨e24, z23, rfl, f21, ef22⟩ := p19
          rw [e24]
          replace hF := kf_le ef22 hF
          have r_z23 := kw_rng z23
          show kw_AW l 5 kw_E0 KX mX7_kinds (p_X7_kinds_0 σ i a) 45 [(5, .int x10), (4, .int x11), (3, .int z5), (0, .ref 0), (1, .int i), (2, .int a)] [.int z23] S2
          refine kw_if_eq (pc := 45) (i := 26) (tgt := 57) rfl rfl (fun c25 => ?_) (fun c25 => ?_)
          · replace hF := kf_p c25 hF
            refine kw_iinc' (pc := 57) (i := 33) (k := 0) (fun z => [(5, .int z), (4, .int x11), (3, .int z5), (0, .ref 0), (1, .int i), (2, .int a)]) rfl rfl (by decide) rfl (fun _ => rfl) (fun z26 e_z26 t_z26 => ?_)
            replace hF := kf_le e_z26 hF
            refine kw_goto (pc := 60) (i := 34) (tgt := 19) rfl rfl ?_
            refine kw_sub (lv' := [(5, .int z26), (4, .int x11), (3, .int z5), (0, .ref 0), (1, .int i), (2, .int a)]) [0, 1, 2, 3, 4, 5] rfl ?_
            exact ih13 z26 x11 (by omega) hF (by omega)
          · replace hF := kf_n c25 hF
            refine kw_iload (pc := 48) (i := 27) (k := 1) (n := 4) rfl rfl ?_
            refine kw_iconst (pc := 50) (i := 28) (v := 1) rfl rfl ?_
            refine kw_iload (pc := 51) (i := 29) (k := 0) (n := 5) rfl rfl ?_
            refine kw_ishl (pc := 53) (i := 30) rfl (fun z27 e_z27 => ?_)
            have r_z27 := kw_rng z27
            replace hF := kf_le e_z27 hF
            refine kw_ior (pc := 54) (i := 31) rfl (fun z28 e_z28 => ?_)
            have r_z28 := kw_rng z28
            replace hF := kf_le e_z28 hF
            refine kw_istore (pc := 55) (i := 32) (n := 4) (lv' := [(4, .int z28), (5, .int x10), (3, .int z5), (0, .ref 0), (1, .int i), (2, .int a)]) rfl (by decide) rfl ?_
            refine kw_iinc' (pc := 57) (i := 33) (k := 1) (fun z => [(5, .int z), (4, .int z28), (3, .int z5), (0, .ref 0), (1, .int i), (2, .int a)]) rfl rfl (by decide) rfl (fun _ => rfl) (fun z29 e_z29 t_z29 => ?_)
            replace hF := kf_le e_z29 hF
            refine kw_goto (pc := 60) (i := 34) (tgt := 19) rfl rfl ?_
            refine kw_sub (lv' := [(5, .int z29), (4, .int z28), (3, .int z5), (0, .ref 0), (1, .int i), (2, .int a)]) [0, 1, 2, 3, 4, 5] rfl ?_
            exact ih13 z29 z28 (by omega) hF (by omega)
    exact L12 _ 0 0 (by omega) hF (Nat.lt_succ_self _)
  · replace hF := kf_n c9 hF
    refine kw_iload_n (pc := 11) (i := 7) (k := 0) (n := 3) rfl rfl rfl ?_
    exact kw_ireturn (pc := 12) (i := 8) (ty := .int) rfl rfl rfl ⟨⟨I6, F8⟩, _, rfl, hF⟩
noncomputable def l_X7_areas_0_19 (a1 : Int32) (a2 : Int32) (a3 : Int32) (S : kw_S) : Nat → Int32 → Int32 → Int32 × kw_S
  | 0, _, _ => (0, S)
  | n + 1, x4, x5 => if (9 : Int32).toInt < x5.toInt then ((x4, S)) else (kf_l (S.1 44 a1.toNatClampNeg) fun z3 => kf_l (f_X7_pulledSo_0 S a2 z3 x5) fun z4 => if z4.toInt = 0 then (kf_l (x5 + Int32.ofInt 1) fun z5 => l_X7_areas_0_19 a1 a2 a3 S n x4 z5) else (kf_l ((1 : Int32) <<< (x5 &&& 31)) fun z6 => kf_l (x4 ||| z6) fun z7 => kf_l (x5 + Int32.ofInt 1) fun z8 => l_X7_areas_0_19 a1 a2 a3 S n z7 z8))
theorem l_X7_areas_0_19_s (a1 : Int32) (a2 : Int32) (a3 : Int32) (S : kw_S) (n : Nat) (x4 : Int32) (x5 : Int32) : l_X7_areas_0_19 a1 a2 a3 S (n + 1) x4 x5 = if (9 : Int32).toInt < x5.toInt then ((x4, S)) else (kf_l (S.1 44 a1.toNatClampNeg) fun z3 => kf_l (f_X7_pulledSo_0 S a2 z3 x5) fun z4 => if z4.toInt = 0 then (kf_l (x5 + Int32.ofInt 1) fun z5 => l_X7_areas_0_19 a1 a2 a3 S n x4 z5) else (kf_l ((1 : Int32) <<< (x5 &&& 31)) fun z6 => kf_l (x4 ||| z6) fun z7 => kf_l (x5 + Int32.ofInt 1) fun z8 => l_X7_areas_0_19 a1 a2 a3 S n z7 z8)) := rfl
noncomputable def f_X7_areas_0 (σ : kw_S) (i : Int32) (a : Int32) : Int32 × kw_S := kf_b (f_X7_pairsRefusal_0 σ i a) fun z1 S2 => if z1.toInt = 0 then (l_X7_areas_0_19 i a z1 S2 ((10 - (1 : Int32).toInt).toNat + 1) (0 : Int32) (1 : Int32)) else ((z1, S2))
theorem f_X7_areas_0_u (σ : kw_S) (i : Int32) (a : Int32) : f_X7_areas_0 σ i a = kf_b (f_X7_pairsRefusal_0 σ i a) fun z1 S2 => if z1.toInt = 0 then (l_X7_areas_0_19 i a z1 S2 ((10 - (1 : Int32).toInt).toNat + 1) (0 : Int32) (1 : Int32)) else ((z1, S2)) := rfl
abbrev p_X7_areas_0 (σ : kw_S) (i : Int32) (a : Int32) : Option Value → kw_S → Prop := fun vv σ' => (kw_I bX σ' ∧ kw_F [8, 28] σ σ') ∧ ∃ r : Int32, vv = some (.int r) ∧ (r, σ') = f_X7_areas_0 σ i a
set_option maxRecDepth 100000 in
set_option maxHeartbeats 4000000 in
theorem c_X7_areas_0 (l : Launch) (σ : kw_S) (hI : kw_I bX σ) (i : Int32) (a : Int32) : kw_Met l 5 KX mX7_areas [.ref 0, .int i, .int a] σ (p_X7_areas_0 σ i a) := by
  have r_i := kw_rng i
  have r_a := kw_rng a
  have hF0 : kw_F [8, 28] σ σ := kw_F.rf
  have hF := (f_X7_areas_0_u σ i a).symm
  have q_0 : (0 : Int32).toInt = 0 := rfl
  have q_1 : (1 : Int32).toInt = 1 := rfl
  have q_9 : (9 : Int32).toInt = 9 := rfl
  refine kw_Met.of (by decide) rfl tX7_areas (Nat.le_of_ble_eq_true rfl) ?_
  show kw_AW l 5 kw_E0 KX mX7_areas (p_X7_areas_0 σ i a) 0 [(0, .ref 0), (1, .int i), (2, .int a)] [] σ
  refine kw_aload_n (pc := 0) (i := 0) (k := 0) (n := 0) rfl rfl rfl ?_
  refine kw_iload_n (pc := 1) (i := 1) (k := 1) (n := 1) rfl rfl rfl ?_
  refine kw_iload_n (pc := 2) (i := 2) (k := 2) (n := 2) rfl rfl rfl ?_
  refine kw_callV (pc := 3) (i := 3) (Y := mX7_pairsRefusal) (a := 0) (As := [.int i, .int a]) (st := []) kw_hE rfl rfl lvX7_282 arX7_pairsRefusal (c_X7_pairsRefusal_0 l σ hI i a ) (by decide) (Nat.le_of_ble_eq_true rfl) rfl (fun v S2 p1 => ?_)
  obtain ⟨⟨I6, F7⟩, z5, rfl, f3, ef4⟩ := p1
  have F8 : kw_F [8, 28] σ S2 := kw_F.tr hF0 F7 (by decide)
  replace hF := kf_be ef4 hF
  have r_z5 := kw_rng z5
  show kw_AW l 5 kw_E0 KX mX7_areas (p_X7_areas_0 σ i a) 6 [(0, .ref 0), (1, .int i), (2, .int a)] [.int z5] S2
  refine kw_istore_n (pc := 6) (i := 4) (n := 3) (lv' := [(3, .int z5), (0, .ref 0), (1, .int i), (2, .int a)]) rfl rfl (by decide) rfl ?_
  refine kw_iload_n (pc := 7) (i := 5) (k := 0) (n := 3) rfl rfl rfl ?_
  refine kw_if_eq (pc := 8) (i := 6) (tgt := 13) rfl rfl (fun c9 => ?_) (fun c9 => ?_)
  · replace hF := kf_p c9 hF
    refine kw_iconst (pc := 13) (i := 9) (v := 0) rfl rfl ?_
    refine kw_istore (pc := 14) (i := 10) (n := 4) (lv' := [(4, .int 0), (3, .int z5), (0, .ref 0), (1, .int i), (2, .int a)]) rfl (by decide) rfl ?_
    refine kw_iconst (pc := 16) (i := 11) (v := 1) rfl rfl ?_
    refine kw_istore (pc := 17) (i := 12) (n := 5) (lv' := [(5, .int 1), (4, .int 0), (3, .int z5), (0, .ref 0), (1, .int i), (2, .int a)]) rfl (by decide) rfl ?_
    have L12 : ∀ (n16 : Nat) (x10 : Int32) (x11 : Int32), 1 ≤ x10.toInt → l_X7_areas_0_19 i a z5 S2 n16 x11 x10 = (f_X7_areas_0 σ i a) → (10 - x10.toInt).toNat < n16 → kw_AW l 5 kw_E0 KX mX7_areas (p_X7_areas_0 σ i a) 19 [(5, .int x10), (4, .int x11), (3, .int z5), (0, .ref 0), (1, .int i), (2, .int a)] [] S2 := by
      intro n16
      induction n16 with
      | zero => intro x10 x11 v14 hF m15; exact absurd m15 (Nat.not_lt_zero _)
      | succ n16 ih13 =>
        intro x10 x11 v14 hF m15
        replace hF := kf_st (l_X7_areas_0_19_s _ _ _ _ _ _ _) hF
        have r_x10 := kw_rng x10
        have r_x11 := kw_rng x11
        refine kw_iload (pc := 19) (i := 13) (k := 0) (n := 5) rfl rfl ?_
        refine kw_bipush (pc := 21) (i := 14) (v := 9) rfl rfl ?_
        refine kw_icmp_gt (pc := 23) (i := 15) (tgt := 63) rfl rfl (fun c17 => ?_) (fun c17 => ?_)
        · replace hF := kf_p c17 hF
          refine kw_iload (pc := 63) (i := 35) (k := 1) (n := 4) rfl rfl ?_
          exact kw_ireturn (pc := 65) (i := 36) (ty := .int) rfl rfl rfl ⟨⟨I6, F8⟩, _, rfl, hF⟩
        · replace hF := kf_nl c17 hF
          refine kw_aload_n (pc := 26) (i := 16) (k := 3) (n := 0) rfl rfl rfl ?_
          refine kw_iload_n (pc := 27) (i := 17) (k := 5) (n := 2) rfl rfl rfl ?_
          refine kw_aload_n (pc := 28) (i := 18) (k := 3) (n := 0) rfl rfl rfl ?_
          refine kw_get (pc := 29) (i := 19) (v := .ref 4) rfl rfl rfl lkX7_31 (fun _ => rfl) ?_
          refine kw_get (pc := 32) (i := 20) (v := .ref 17) rfl rfl rfl lkX7_117 (fun _ => rfl) ?_
          refine kw_get (pc := 35) (i := 21) (v := .ref 44) rfl rfl rfl lkX7_143 (fun _ => rfl) ?_
          refine kw_iload_n (pc := 38) (i := 22) (k := 4) (n := 1) rfl rfl rfl ?_
          refine kw_iald (pc := 39) (i := 23) (n := 6) rfl rfl (by omega) (by omega) (fun z18 e_z18 => ?_)
          replace hF := kf_le e_z18 hF
          have t_z18 := congrArg Int32.toInt e_z18
          have r_z18 := kw_rng z18
          refine kw_iload (pc := 40) (i := 24) (k := 0) (n := 5) rfl rfl ?_
          refine kw_callV (pc := 42) (i := 25) (Y := mX7_pulledSo) (a := 0) (As := [.int a, .int z18, .int x10]) (st := []) kw_hE rfl rfl lvX7_285 arX7_pulledSo (c_X7_pulledSo_0 l S2 I6 a z18 x10 ) (by decide) (Nat.le_of_ble_eq_true rfl) rfl (fun v S20 p19 => ?_)
          obtain ⟨e24, z23, rfl, f21, ef22⟩ := p19
          rw [e24]
          replace hF := kf_le ef22 hF
          have r_z23 := kw_rng z23
          show kw_AW l 5 kw_E0 KX mX7_areas (p_X7_areas_0 σ i a) 45 [(5, .int x10), (4, .int x11), (3, .int z5), (0, .ref 0), (1, .int i), (2, .int a)] [.int z23] S2
          refine kw_if_eq (pc := 45) (i := 26) (tgt := 57) rfl rfl (fun c25 => ?_) (fun c25 => ?_)
          · replace hF := kf_p c25 hF
            refine kw_iinc' (pc := 57) (i := 33) (k := 0) (fun z => [(5, .int z), (4, .int x11), (3, .int z5), (0, .ref 0), (1, .int i), (2, .int a)]) rfl rfl (by decide) rfl (fun _ => rfl) (fun z26 e_z26 t_z26 => ?_)
            replace hF := kf_le e_z26 hF
            refine kw_goto (pc := 60) (i := 34) (tgt := 19) rfl rfl ?_
            refine kw_sub (lv' := [(5, .int z26), (4, .int x11), (3, .int z5), (0, .ref 0), (1, .int i), (2, .int a)]) [0, 1, 2, 3, 4, 5] rfl ?_
            exact ih13 z26 x11 (by omega) hF (by omega)
          · replace hF := kf_n c25 hF
            refine kw_iload (pc := 48) (i := 27) (k := 1) (n := 4) rfl rfl ?_
            refine kw_iconst (pc := 50) (i := 28) (v := 1) rfl rfl ?_
            refine kw_iload (pc := 51) (i := 29) (k := 0) (n := 5) rfl rfl ?_
            refine kw_ishl (pc := 53) (i := 30) rfl (fun z27 e_z27 => ?_)
            have r_z27 := kw_rng z27
            replace hF := kf_le e_z27 hF
            refine kw_ior (pc := 54) (i := 31) rfl (fun z28 e_z28 => ?_)
            have r_z28 := kw_rng z28
            replace hF := kf_le e_z28 hF
            refine kw_istore (pc := 55) (i := 32) (n := 4) (lv' := [(4, .int z28), (5, .int x10), (3, .int z5), (0, .ref 0), (1, .int i), (2, .int a)]) rfl (by decide) rfl ?_
            refine kw_iinc' (pc := 57) (i := 33) (k := 1) (fun z => [(5, .int z), (4, .int z28), (3, .int z5), (0, .ref 0), (1, .int i), (2, .int a)]) rfl rfl (by decide) rfl (fun _ => rfl) (fun z29 e_z29 t_z29 => ?_)
            replace hF := kf_le e_z29 hF
            refine kw_goto (pc := 60) (i := 34) (tgt := 19) rfl rfl ?_
            refine kw_sub (lv' := [(5, .int z29), (4, .int z28), (3, .int z5), (0, .ref 0), (1, .int i), (2, .int a)]) [0, 1, 2, 3, 4, 5] rfl ?_
            exact ih13 z29 z28 (by omega) hF (by omega)
    exact L12 _ 1 0 (by omega) hF (Nat.lt_succ_self _)
  · replace hF := kf_n c9 hF
    refine kw_iload_n (pc := 11) (i := 7) (k := 0) (n := 3) rfl rfl rfl ?_
    exact kw_ireturn (pc := 12) (i := 8) (ty := .int) rfl rfl rfl ⟨⟨I6, F8⟩, _, rfl, hF⟩
noncomputable def f_X7_rival_0 (σ : kw_S) (n : Int32) : Int32 × kw_S := if n.toInt < 0 then ((((-1) : Int32), σ)) else (if (2 : Int32).toInt < n.toInt then ((((-1) : Int32), σ)) else (kf_l (f_X5_isEmpty_4 σ) fun z1 => if z1.toInt = 0 then (kf_l (f_X5_windNow_4 σ) fun z2 => kf_l (f_X0_draw_6_17 σ z2) fun S3 => kf_l ((2 : Int32) * n) fun z4 => kf_l (f_X7_play_6 4 S3 (S3.1 4 4) z4) fun z5 => kf_b (f_X4_answer_8 S3 z5) fun z6 S7 => (z6, S7)) else ((((-4) : Int32), σ))))
theorem f_X7_rival_0_u (σ : kw_S) (n : Int32) : f_X7_rival_0 σ n = if n.toInt < 0 then ((((-1) : Int32), σ)) else (if (2 : Int32).toInt < n.toInt then ((((-1) : Int32), σ)) else (kf_l (f_X5_isEmpty_4 σ) fun z1 => if z1.toInt = 0 then (kf_l (f_X5_windNow_4 σ) fun z2 => kf_l (f_X0_draw_6_17 σ z2) fun S3 => kf_l ((2 : Int32) * n) fun z4 => kf_l (f_X7_play_6 4 S3 (S3.1 4 4) z4) fun z5 => kf_b (f_X4_answer_8 S3 z5) fun z6 S7 => (z6, S7)) else ((((-4) : Int32), σ)))) := rfl
abbrev p_X7_rival_0 (σ : kw_S) (n : Int32) : Option Value → kw_S → Prop := fun vv σ' => (kw_I bX σ' ∧ kw_F [8, 28, 6, 22, 23] σ σ') ∧ ∃ r : Int32, vv = some (.int r) ∧ ((n.toInt < 0 ∨ 2 < n.toInt) ∧ r.toInt = -1 ∨ 0 ≤ n.toInt ∧ n.toInt ≤ 2 ∧ (σ.1 17 5).toInt < 1 ∧ r.toInt = -4 ∨ 0 ≤ n.toInt ∧ n.toInt ≤ 2 ∧ 1 ≤ (σ.1 17 5).toInt ∧ r.toInt = 1) ∧ (r, σ') = f_X7_rival_0 σ n
set_option maxRecDepth 100000 in
set_option maxHeartbeats 4000000 in
theorem c_X7_rival_0 (l : Launch) (σ : kw_S) (hI : kw_I bX σ) (n : Int32) : kw_Met l 7 KX mX7_rival [.ref 0, .int n] σ (p_X7_rival_0 σ n) := by
  have r_n := kw_rng n
  have hF0 : kw_F [8, 28, 6, 22, 23] σ σ := kw_F.rf
  have hF := (f_X7_rival_0_u σ n).symm
  have q_m4 : (-4 : Int32).toInt = -4 := rfl
  have q_m1 : (-1 : Int32).toInt = -1 := rfl
  have q_2 : (2 : Int32).toInt = 2 := rfl
  refine kw_Met.of (by decide) rfl tX7_rival (Nat.le_of_ble_eq_true rfl) ?_
  show kw_AW l 7 kw_E0 KX mX7_rival (p_X7_rival_0 σ n) 0 [(0, .ref 0), (1, .int n)] [] σ
  refine kw_iload_n (pc := 0) (i := 0) (k := 1) (n := 1) rfl rfl rfl ?_
  refine kw_if_lt (pc := 1) (i := 1) (tgt := 9) rfl rfl (fun c1 => ?_) (fun c1 => ?_)
  · replace hF := kf_p c1 hF
    refine kw_iconst (pc := 9) (i := 5) (v := (-1)) rfl rfl ?_
    exact kw_ireturn (pc := 10) (i := 6) (ty := .int) rfl rfl rfl ⟨⟨hI, hF0⟩, _, rfl, by omega, hF⟩
  · replace hF := kf_nl c1 hF
    refine kw_iload_n (pc := 4) (i := 2) (k := 1) (n := 1) rfl rfl rfl ?_
    refine kw_iconst (pc := 5) (i := 3) (v := 2) rfl rfl ?_
    refine kw_icmp_le (pc := 6) (i := 4) (tgt := 11) rfl rfl (fun c2 => ?_) (fun c2 => ?_)
    · replace hF := kf_nl c2 hF
      refine kw_aload_n (pc := 11) (i := 7) (k := 0) (n := 0) rfl rfl rfl ?_
      refine kw_get (pc := 12) (i := 8) (v := .ref 4) rfl rfl rfl lkX7_31 (fun _ => rfl) ?_
      refine kw_callV (pc := 15) (i := 9) (Y := mX5_isEmpty) (a := 4) (As := []) (st := []) kw_hE rfl rfl lvX7_178 arX5_isEmpty (c_X5_isEmpty_4 l σ hI  ) (by decide) (Nat.le_of_ble_eq_true rfl) rfl (fun v S4 p3 => ?_)
      obtain ⟨e10, z9, rfl, f5, f6, f7, ef8⟩ := p3
      rw [e10]
      replace hF := kf_le ef8 hF
      have r_z9 := kw_rng z9
      show kw_AW l 7 kw_E0 KX mX7_rival (p_X7_rival_0 σ n) 18 [(0, .ref 0), (1, .int n)] [.int z9] σ
      refine kw_if_eq (pc := 18) (i := 10) (tgt := 24) rfl rfl (fun c11 => ?_) (fun c11 => ?_)
      · replace hF := kf_p c11 hF
        refine kw_aload_n (pc := 24) (i := 13) (k := 0) (n := 0) rfl rfl rfl ?_
        refine kw_get (pc := 25) (i := 14) (v := .ref 6) rfl rfl rfl lkX7_41 (fun _ => rfl) ?_
        refine kw_aload_n (pc := 28) (i := 15) (k := 0) (n := 0) rfl rfl rfl ?_
        refine kw_get (pc := 29) (i := 16) (v := .ref 4) rfl rfl rfl lkX7_31 (fun _ => rfl) ?_
        refine kw_get (pc := 32) (i := 17) (v := .ref 17) rfl rfl rfl lkX7_117 (fun _ => rfl) ?_
        refine kw_aload_n (pc := 35) (i := 18) (k := 0) (n := 0) rfl rfl rfl ?_
        refine kw_get (pc := 36) (i := 19) (v := .ref 4) rfl rfl rfl lkX7_31 (fun _ => rfl) ?_
        refine kw_callV (pc := 39) (i := 20) (Y := mX5_windNow) (a := 4) (As := []) (st := [.ref 17, .ref 6]) kw_hE rfl rfl lvX7_171 arX5_windNow (c_X5_windNow_4 l σ hI  ) (by decide) (Nat.le_of_ble_eq_true rfl) rfl (fun v S13 p12 => ?_)
        obtain ⟨e16, z15, rfl, ef14⟩ := p12
        rw [e16]
        replace hF := kf_le ef14 hF
        have r_z15 := kw_rng z15
        show kw_AW l 7 kw_E0 KX mX7_rival (p_X7_rival_0 σ n) 42 [(0, .ref 0), (1, .int n)] [.int z15, .ref 17, .ref 6] σ
        refine kw_callV (pc := 42) (i := 21) (Y := mX0_draw) (a := 6) (As := [.ref 17, .int z15]) (st := []) kw_hE rfl rfl lvX7_225 arX0_draw (c_X0_draw_6_17 l σ hI z15 ) (by decide) (Nat.le_of_ble_eq_true rfl) rfl (fun v S18 p17 => ?_)
        obtain ⟨⟨I20, F21⟩, rfl, ef19⟩ := p17
        have F22 : kw_F [8, 28, 6, 22, 23] σ S18 := kw_F.tr hF0 F21 (by decide)
        replace hF := kf_le ef19 hF
        show kw_AW l 7 kw_E0 KX mX7_rival (p_X7_rival_0 σ n) 45 [(0, .ref 0), (1, .int n)] [] S18
        refine kw_aload_n (pc := 45) (i := 22) (k := 0) (n := 0) rfl rfl rfl ?_
        refine kw_get (pc := 46) (i := 23) (v := .ref 8) rfl rfl rfl lkX7_55 (fun _ => rfl) ?_
        refine kw_aload_n (pc := 49) (i := 24) (k := 0) (n := 0) rfl rfl rfl ?_
        refine kw_get (pc := 50) (i := 25) (v := .ref 6) rfl rfl rfl lkX7_41 (fun _ => rfl) ?_
        refine kw_aload_n (pc := 53) (i := 26) (k := 0) (n := 0) rfl rfl rfl ?_
        refine kw_get (pc := 54) (i := 27) (v := .ref 4) rfl rfl rfl lkX7_31 (fun _ => rfl) ?_
        refine kw_get (pc := 57) (i := 28) (v := .int (S18.1 4 4)) rfl rfl rfl lkX7_157 (fun _ => rfl) ?_
        have b23 := kw_rng (S18.1 4 4)
        refine kw_iconst (pc := 60) (i := 29) (v := 2) rfl rfl ?_
        refine kw_iload_n (pc := 61) (i := 30) (k := 1) (n := 1) rfl rfl rfl ?_
        refine kw_imul (pc := 62) (i := 31) rfl (fun z24 e_z24 t_z24 => ?_)
        replace hF := kf_le e_z24 hF
        rw [show (2 : Int32).toInt = 2 from rfl] at t_z24
        refine kw_callS (pc := 63) (i := 32) (Y := mX7_play) (As := [.ref 6, .int (S18.1 4 4), .int z24]) (st := [.ref 8]) kw_hE rfl lsX7_288 arX7_play (c_X7_play_6 l 4 S18 I20 (S18.1 4 4) z24 (by first | omega | decide)) (by decide) (Nat.le_of_ble_eq_true rfl) rfl (fun v S26 p25 => ?_)
        obtain ⟨e29, z28, rfl, ef27⟩ := p25
        rw [e29]
        replace hF := kf_le ef27 hF
        have r_z28 := kw_rng z28
        show kw_AW l 7 kw_E0 KX mX7_rival (p_X7_rival_0 σ n) 66 [(0, .ref 0), (1, .int n)] [.int z28, .ref 8] S18
        refine kw_callV (pc := 66) (i := 33) (Y := mX4_answer) (a := 8) (As := [.int z28]) (st := []) kw_hE rfl rfl lvX7_92 arX4_answer (c_X4_answer_8 l S18 I20 z28 ) (by decide) (Nat.le_of_ble_eq_true rfl) rfl (fun v S31 p30 => ?_)
        obtain ⟨⟨I35, F36⟩, z34, rfl, f32, ef33⟩ := p30
        have F37 : kw_F [8, 28, 6, 22, 23] σ S31 := kw_F.tr F22 F36 (by decide)
        replace hF := kf_be ef33 hF
        have r_z34 := kw_rng z34
        show kw_AW l 7 kw_E0 KX mX7_rival (p_X7_rival_0 σ n) 69 [(0, .ref 0), (1, .int n)] [.int z34] S31
        exact kw_ireturn (pc := 69) (i := 34) (ty := .int) rfl rfl rfl ⟨⟨I35, F37⟩, _, rfl, by omega, hF⟩
      · replace hF := kf_n c11 hF
        refine kw_bipush (pc := 21) (i := 11) (v := (-4)) rfl rfl ?_
        exact kw_ireturn (pc := 23) (i := 12) (ty := .int) rfl rfl rfl ⟨⟨hI, hF0⟩, _, rfl, by omega, hF⟩
    · replace hF := kf_p c2 hF
      refine kw_iconst (pc := 9) (i := 5) (v := (-1)) rfl rfl ?_
      exact kw_ireturn (pc := 10) (i := 6) (ty := .int) rfl rfl rfl ⟨⟨hI, hF0⟩, _, rfl, by omega, hF⟩
noncomputable def l_X7_mid_0_46 (a1 : Int32) (a2 : Int32) (a3 : Int32) (S : kw_S) : Nat → Int64 → Int32 → Int32 × kw_S
  | 0, _, _ => (0, S)
  | n + 1, x4, x6 => kf_l (f_X3_sizeOf_1 S a1) fun z6 => if x6.toInt < z6.toInt then (kf_l ((12 : Int32) - a2) fun z8 => kf_l (S.1 10 x6.toNatClampNeg) fun z9 => kf_l (z8 * z9) fun z10 => kf_l (S.1 11 x6.toNatClampNeg) fun z11 => kf_l (a2 * z11) fun z12 => kf_l (z10 + z12) fun z13 => kf_l z13.toInt64 fun z14 => kf_l (x4 + z14) fun z15 => kf_l (x6 + Int32.ofInt 1) fun z16 => l_X7_mid_0_46 a1 a2 a3 S n z15 z16) else (kf_l (f_X4_tellShare_8 S x4 (12 : Int64)) fun S7 => ((1 : Int32), S7))
theorem l_X7_mid_0_46_s (a1 : Int32) (a2 : Int32) (a3 : Int32) (S : kw_S) (n : Nat) (x4 : Int64) (x6 : Int32) : l_X7_mid_0_46 a1 a2 a3 S (n + 1) x4 x6 = kf_l (f_X3_sizeOf_1 S a1) fun z6 => if x6.toInt < z6.toInt then (kf_l ((12 : Int32) - a2) fun z8 => kf_l (S.1 10 x6.toNatClampNeg) fun z9 => kf_l (z8 * z9) fun z10 => kf_l (S.1 11 x6.toNatClampNeg) fun z11 => kf_l (a2 * z11) fun z12 => kf_l (z10 + z12) fun z13 => kf_l z13.toInt64 fun z14 => kf_l (x4 + z14) fun z15 => kf_l (x6 + Int32.ofInt 1) fun z16 => l_X7_mid_0_46 a1 a2 a3 S n z15 z16) else (kf_l (f_X4_tellShare_8 S x4 (12 : Int64)) fun S7 => ((1 : Int32), S7)) := rfl
noncomputable def f_X7_mid_0 (σ : kw_S) (a : Int32) (p : Int32) : Int32 × kw_S := if p.toInt < 0 then ((((-1) : Int32), σ)) else (if (12 : Int32).toInt < p.toInt then ((((-1) : Int32), σ)) else (kf_b (f_X7_planRefusal_0 σ a) fun z1 S2 => if z1.toInt = 0 then (kf_l (f_X7_foresee_0 S2 a) fun S3 => kf_l (S3.1 4 6).toInt64 fun z4 => kf_l ((12 : Int64) * z4) fun z5 => l_X7_mid_0_46 a p z1 S3 ((41 - (0 : Int32).toInt).toNat + 1) z5 (0 : Int32)) else ((z1, S2))))
theorem f_X7_mid_0_u (σ : kw_S) (a : Int32) (p : Int32) : f_X7_mid_0 σ a p = if p.toInt < 0 then ((((-1) : Int32), σ)) else (if (12 : Int32).toInt < p.toInt then ((((-1) : Int32), σ)) else (kf_b (f_X7_planRefusal_0 σ a) fun z1 S2 => if z1.toInt = 0 then (kf_l (f_X7_foresee_0 S2 a) fun S3 => kf_l (S3.1 4 6).toInt64 fun z4 => kf_l ((12 : Int64) * z4) fun z5 => l_X7_mid_0_46 a p z1 S3 ((41 - (0 : Int32).toInt).toNat + 1) z5 (0 : Int32)) else ((z1, S2)))) := rfl
abbrev p_X7_mid_0 (σ : kw_S) (a : Int32) (p : Int32) : Option Value → kw_S → Prop := fun vv σ' => (kw_I bX σ' ∧ kw_F [8, 28, 10, 11] σ σ') ∧ ∃ r : Int32, vv = some (.int r) ∧ (r, σ') = f_X7_mid_0 σ a p
set_option maxRecDepth 100000 in
set_option maxHeartbeats 4000000 in
theorem c_X7_mid_0 (l : Launch) (σ : kw_S) (hI : kw_I bX σ) (a : Int32) (p : Int32) : kw_Met l 5 KX mX7_mid [.ref 0, .int a, .int p] σ (p_X7_mid_0 σ a p) := by
  have r_a := kw_rng a
  have r_p := kw_rng p
  have hF0 : kw_F [8, 28, 10, 11] σ σ := kw_F.rf
  have hF := (f_X7_mid_0_u σ a p).symm
  have q_m1 : (-1 : Int32).toInt = -1 := rfl
  have q_0 : (0 : Int32).toInt = 0 := rfl
  have q_1 : (1 : Int32).toInt = 1 := rfl
  have q_12 : (12 : Int32).toInt = 12 := rfl
  refine kw_Met.of (by decide) rfl tX7_mid (Nat.le_of_ble_eq_true rfl) ?_
  show kw_AW l 5 kw_E0 KX mX7_mid (p_X7_mid_0 σ a p) 0 [(0, .ref 0), (1, .int a), (2, .int p)] [] σ
  refine kw_iload_n (pc := 0) (i := 0) (k := 2) (n := 2) rfl rfl rfl ?_
  refine kw_if_lt (pc := 1) (i := 1) (tgt := 10) rfl rfl (fun c1 => ?_) (fun c1 => ?_)
  · replace hF := kf_p c1 hF
    refine kw_iconst (pc := 10) (i := 5) (v := (-1)) rfl rfl ?_
    exact kw_ireturn (pc := 11) (i := 6) (ty := .int) rfl rfl rfl ⟨⟨hI, hF0⟩, _, rfl, hF⟩
  · replace hF := kf_nl c1 hF
    refine kw_iload_n (pc := 4) (i := 2) (k := 2) (n := 2) rfl rfl rfl ?_
    refine kw_bipush (pc := 5) (i := 3) (v := 12) rfl rfl ?_
    refine kw_icmp_le (pc := 7) (i := 4) (tgt := 12) rfl rfl (fun c2 => ?_) (fun c2 => ?_)
    · replace hF := kf_nl c2 hF
      refine kw_aload_n (pc := 12) (i := 7) (k := 0) (n := 0) rfl rfl rfl ?_
      refine kw_iload_n (pc := 13) (i := 8) (k := 1) (n := 1) rfl rfl rfl ?_
      refine kw_callV (pc := 14) (i := 9) (Y := mX7_planRefusal) (a := 0) (As := [.int a]) (st := []) kw_hE rfl rfl lvX7_250 arX7_planRefusal (c_X7_planRefusal_0 l σ hI a ) (by decide) (Nat.le_of_ble_eq_true rfl) rfl (fun v S4 p3 => ?_)
      obtain ⟨⟨I8, F9⟩, z7, rfl, f5, ef6⟩ := p3
      have F10 : kw_F [8, 28, 10, 11] σ S4 := kw_F.tr hF0 F9 (by decide)
      replace hF := kf_be ef6 hF
      have r_z7 := kw_rng z7
      show kw_AW l 5 kw_E0 KX mX7_mid (p_X7_mid_0 σ a p) 17 [(0, .ref 0), (1, .int a), (2, .int p)] [.int z7] S4
      refine kw_istore_n (pc := 17) (i := 10) (n := 3) (lv' := [(3, .int z7), (0, .ref 0), (1, .int a), (2, .int p)]) rfl rfl (by decide) rfl ?_
      refine kw_iload_n (pc := 18) (i := 11) (k := 0) (n := 3) rfl rfl rfl ?_
      refine kw_if_eq (pc := 19) (i := 12) (tgt := 24) rfl rfl (fun c11 => ?_) (fun c11 => ?_)
      · replace hF := kf_p c11 hF
        refine kw_aload_n (pc := 24) (i := 15) (k := 1) (n := 0) rfl rfl rfl ?_
        refine kw_iload_n (pc := 25) (i := 16) (k := 2) (n := 1) rfl rfl rfl ?_
        refine kw_callV (pc := 26) (i := 17) (Y := mX7_foresee) (a := 0) (As := [.int a]) (st := []) kw_hE rfl rfl lvX7_292 arX7_foresee (c_X7_foresee_0 l S4 I8 a ) (by decide) (Nat.le_of_ble_eq_true rfl) rfl (fun v S13 p12 => ?_)
        obtain ⟨⟨I15, F16⟩, rfl, ef14⟩ := p12
        have F17 : kw_F [8, 28, 10, 11] σ S13 := kw_F.tr F10 F16 (by decide)
        replace hF := kf_le ef14 hF
        show kw_AW l 5 kw_E0 KX mX7_mid (p_X7_mid_0 σ a p) 29 [(3, .int z7), (0, .ref 0), (1, .int a), (2, .int p)] [] S13
        have w_s := congrArg Int32.toInt (kw_F.at (a := 13) (j := a.toNatClampNeg) F16 (by decide))
        refine kw_ldc2 (pc := 29) (i := 18) (v := 12) rfl ckX7_295 ?_
        refine kw_aload_n (pc := 32) (i := 19) (k := 1) (n := 0) rfl rfl rfl ?_
        refine kw_get (pc := 33) (i := 20) (v := .ref 4) rfl rfl rfl lkX7_31 (fun _ => rfl) ?_
        refine kw_get (pc := 36) (i := 21) (v := .int (S13.1 4 6)) rfl rfl rfl lkX7_204 (fun _ => rfl) ?_
        have b18 := kw_rng (S13.1 4 6)
        refine kw_i2l (pc := 39) (i := 22) rfl (fun z19 e_z19 t_z19 => ?_)
        replace hF := kf_le e_z19 hF
        refine kw_lmul (pc := 40) (i := 23) rfl (fun z20 e_z20 => ?_)
        replace hF := kf_le e_z20 hF
        refine kw_lstore (pc := 41) (i := 24) (n := 4) (lv' := [(4, .long z20), (3, .int z7), (0, .ref 0), (1, .int a), (2, .int p)]) rfl (by decide) rfl ?_
        refine kw_iconst (pc := 43) (i := 25) (v := 0) rfl rfl ?_
        refine kw_istore (pc := 44) (i := 26) (n := 6) (lv' := [(6, .int 0), (4, .long z20), (3, .int z7), (0, .ref 0), (1, .int a), (2, .int p)]) rfl (by decide) rfl ?_
        have L23 : ∀ (n27 : Nat) (x21 : Int32) (x22 : Int64), 0 ≤ x21.toInt → l_X7_mid_0_46 a p z7 S13 n27 x22 x21 = (f_X7_mid_0 σ a p) → (41 - x21.toInt).toNat < n27 → kw_AW l 5 kw_E0 KX mX7_mid (p_X7_mid_0 σ a p) 46 [(6, .int x21), (4, .long x22), (3, .int z7), (0, .ref 0), (1, .int a), (2, .int p)] [] S13 := by
          intro n27
          induction n27 with
          | zero => intro x21 x22 v25 hF m26; exact absurd m26 (Nat.not_lt_zero _)
          | succ n27 ih24 =>
            intro x21 x22 v25 hF m26
            replace hF := kf_st (l_X7_mid_0_46_s _ _ _ _ _ _ _) hF
            have r_x21 := kw_rng x21
            refine kw_iload (pc := 46) (i := 27) (k := 0) (n := 6) rfl rfl ?_
            refine kw_aload_n (pc := 48) (i := 28) (k := 3) (n := 0) rfl rfl rfl ?_
            refine kw_get (pc := 49) (i := 29) (v := .ref 1) rfl rfl rfl lkX7_14 (fun _ => rfl) ?_
            refine kw_iload_n (pc := 52) (i := 30) (k := 4) (n := 1) rfl rfl rfl ?_
            refine kw_callV (pc := 53) (i := 31) (Y := mX3_sizeOf) (a := 1) (As := [.int a]) (st := [.int x21]) kw_hE rfl rfl lvX7_110 arX3_sizeOf (c_X3_sizeOf_1 l S13 I15 a ) (by decide) (Nat.le_of_ble_eq_true rfl) rfl (fun v S29 p28 => ?_)
            obtain ⟨e36, z35, rfl, f30, f31, f32, f33, ef34⟩ := p28
            rw [e36]
            replace hF := kf_le ef34 hF
            have r_z35 := kw_rng z35
            show kw_AW l 5 kw_E0 KX mX7_mid (p_X7_mid_0 σ a p) 56 [(6, .int x21), (4, .long x22), (3, .int z7), (0, .ref 0), (1, .int a), (2, .int p)] [.int z35, .int x21] S13
            refine kw_icmp_ge (pc := 56) (i := 32) (tgt := 93) rfl rfl (fun c37 => ?_) (fun c37 => ?_)
            · replace hF := kf_nl c37 hF
              refine kw_aload_n (pc := 93) (i := 54) (k := 3) (n := 0) rfl rfl rfl ?_
              refine kw_get (pc := 94) (i := 55) (v := .ref 8) rfl rfl rfl lkX7_55 (fun _ => rfl) ?_
              refine kw_lload (pc := 97) (i := 56) (k := 1) (n := 4) rfl rfl ?_
              refine kw_ldc2 (pc := 99) (i := 57) (v := 12) rfl ckX7_295 ?_
              refine kw_callV (pc := 102) (i := 58) (Y := mX4_tellShare) (a := 8) (As := [.long x22, .long 12]) (st := []) kw_hE rfl rfl lvX7_297 arX4_tellShare (c_X4_tellShare_8 l S13 I15 x22 12 ) (by decide) (Nat.le_of_ble_eq_true rfl) rfl (fun v S39 p38 => ?_)
              obtain ⟨⟨I41, F42⟩, rfl, ef40⟩ := p38
              have F43 : kw_F [8, 28, 10, 11] σ S39 := kw_F.tr F17 F42 (by decide)
              replace hF := kf_le ef40 hF
              show kw_AW l 5 kw_E0 KX mX7_mid (p_X7_mid_0 σ a p) 105 [(6, .int x21), (4, .long x22), (3, .int z7), (0, .ref 0), (1, .int a), (2, .int p)] [] S39
              refine kw_iconst (pc := 105) (i := 59) (v := 1) rfl rfl ?_
              exact kw_ireturn (pc := 106) (i := 60) (ty := .int) rfl rfl rfl ⟨⟨I41, F43⟩, _, rfl, hF⟩
            · replace hF := kf_p c37 hF
              refine kw_lload (pc := 59) (i := 33) (k := 1) (n := 4) rfl rfl ?_
              refine kw_bipush (pc := 61) (i := 34) (v := 12) rfl rfl ?_
              refine kw_iload_n (pc := 63) (i := 35) (k := 5) (n := 2) rfl rfl rfl ?_
              refine kw_isub (pc := 64) (i := 36) rfl (fun z44 e_z44 t_z44 => ?_)
              replace hF := kf_le e_z44 hF
              refine kw_aload_n (pc := 65) (i := 37) (k := 3) (n := 0) rfl rfl rfl ?_
              refine kw_get (pc := 66) (i := 38) (v := .ref 10) rfl rfl rfl lkX7_63 (fun _ => rfl) ?_
              refine kw_iload (pc := 69) (i := 39) (k := 0) (n := 6) rfl rfl ?_
              refine kw_iald (pc := 71) (i := 40) (n := 6) rfl rfl (by omega) (by omega) (fun z45 e_z45 => ?_)
              replace hF := kf_le e_z45 hF
              have t_z45 := congrArg Int32.toInt e_z45
              have r_z45 := kw_rng z45
              refine kw_imul (pc := 72) (i := 41) rfl (fun z46 e_z46 t_z46 => ?_)
              replace hF := kf_le e_z46 hF
              refine kw_iload_n (pc := 73) (i := 42) (k := 5) (n := 2) rfl rfl rfl ?_
              refine kw_aload_n (pc := 74) (i := 43) (k := 3) (n := 0) rfl rfl rfl ?_
              refine kw_get (pc := 75) (i := 44) (v := .ref 11) rfl rfl rfl lkX7_66 (fun _ => rfl) ?_
              refine kw_iload (pc := 78) (i := 45) (k := 0) (n := 6) rfl rfl ?_
              refine kw_iald (pc := 80) (i := 46) (n := 6) rfl rfl (by omega) (by omega) (fun z47 e_z47 => ?_)
              replace hF := kf_le e_z47 hF
              have t_z47 := congrArg Int32.toInt e_z47
              have r_z47 := kw_rng z47
              refine kw_imul (pc := 81) (i := 47) rfl (fun z48 e_z48 t_z48 => ?_)
              replace hF := kf_le e_z48 hF
              refine kw_iadd (pc := 82) (i := 48) rfl (fun z49 e_z49 t_z49 => ?_)
              replace hF := kf_le e_z49 hF
              refine kw_i2l (pc := 83) (i := 49) rfl (fun z50 e_z50 t_z50 => ?_)
              replace hF := kf_le e_z50 hF
              refine kw_ladd (pc := 84) (i := 50) rfl (fun z51 e_z51 => ?_)
              replace hF := kf_le e_z51 hF
              refine kw_lstore (pc := 85) (i := 51) (n := 4) (lv' := [(4, .long z51), (6, .int x21), (3, .int z7), (0, .ref 0), (1, .int a), (2, .int p)]) rfl (by decide) rfl ?_
              refine kw_iinc' (pc := 87) (i := 52) (k := 1) (fun z => [(6, .int z), (4, .long z51), (3, .int z7), (0, .ref 0), (1, .int a), (2, .int p)]) rfl rfl (by decide) rfl (fun _ => rfl) (fun z52 e_z52 t_z52 => ?_)
              replace hF := kf_le e_z52 hF
              refine kw_goto (pc := 90) (i := 53) (tgt := 46) rfl rfl ?_
              refine kw_sub (lv' := [(6, .int z52), (4, .long z51), (3, .int z7), (0, .ref 0), (1, .int a), (2, .int p)]) [0, 1, 2, 3, 4, 5] rfl ?_
              exact ih24 z52 z51 (by omega) hF (by omega)
        exact L23 _ 0 z20 (by omega) hF (Nat.lt_succ_self _)
      · replace hF := kf_n c11 hF
        refine kw_iload_n (pc := 22) (i := 13) (k := 0) (n := 3) rfl rfl rfl ?_
        exact kw_ireturn (pc := 23) (i := 14) (ty := .int) rfl rfl rfl ⟨⟨I8, F10⟩, _, rfl, hF⟩
    · replace hF := kf_p c2 hF
      refine kw_iconst (pc := 10) (i := 5) (v := (-1)) rfl rfl ?_
      exact kw_ireturn (pc := 11) (i := 6) (ty := .int) rfl rfl rfl ⟨⟨hI, hF0⟩, _, rfl, hF⟩
noncomputable def l_X7_odds_0_89 (a1 : Int32) (a2 : Int32) (a3 : Int32) (a4 : Int32) (a5 : Int32) (a6 : Int64) (S : kw_S) : Nat → Int64 → Int32 → Int32 × kw_S
  | 0, _, _ => (0, S)
  | n + 1, x8, x10 => kf_l ((1 : Int32) <<< (a5 &&& 31)) fun z5 => if x10.toInt < z5.toInt then (kf_l (f_X7_milesByGusts_0 S a5 x10) fun z7 => if z7.toInt < a2.toInt then (kf_l (x10 + Int32.ofInt 1) fun z8 => l_X7_odds_0_89 a1 a2 a3 a4 a5 a6 S n x8 z8) else (kf_l (f_X7_weightOfGusts S a5 x10 a3) fun z9 => kf_l (x8 + z9) fun z10 => kf_l (x10 + Int32.ofInt 1) fun z11 => l_X7_odds_0_89 a1 a2 a3 a4 a5 a6 S n z10 z11)) else (kf_l (f_X4_tellShare_8 S x8 a6) fun S6 => ((1 : Int32), S6))
theorem l_X7_odds_0_89_s (a1 : Int32) (a2 : Int32) (a3 : Int32) (a4 : Int32) (a5 : Int32) (a6 : Int64) (S : kw_S) (n : Nat) (x8 : Int64) (x10 : Int32) : l_X7_odds_0_89 a1 a2 a3 a4 a5 a6 S (n + 1) x8 x10 = kf_l ((1 : Int32) <<< (a5 &&& 31)) fun z5 => if x10.toInt < z5.toInt then (kf_l (f_X7_milesByGusts_0 S a5 x10) fun z7 => if z7.toInt < a2.toInt then (kf_l (x10 + Int32.ofInt 1) fun z8 => l_X7_odds_0_89 a1 a2 a3 a4 a5 a6 S n x8 z8) else (kf_l (f_X7_weightOfGusts S a5 x10 a3) fun z9 => kf_l (x8 + z9) fun z10 => kf_l (x10 + Int32.ofInt 1) fun z11 => l_X7_odds_0_89 a1 a2 a3 a4 a5 a6 S n z10 z11)) else (kf_l (f_X4_tellShare_8 S x8 a6) fun S6 => ((1 : Int32), S6)) := rfl
noncomputable def l_X7_odds_0_62 (a1 : Int32) (a2 : Int32) (a3 : Int32) (a4 : Int32) (a5 : Int32) (S : kw_S) : Nat → Int64 → Int32 → Int32 × kw_S
  | 0, _, _ => (0, S)
  | n + 1, x6, x8 => if x8.toInt < a5.toInt then (kf_l (x6 * (12 : Int64)) fun z12 => kf_l (x8 + Int32.ofInt 1) fun z13 => l_X7_odds_0_62 a1 a2 a3 a4 a5 S n z12 z13) else (l_X7_odds_0_89 a1 a2 a3 a4 a5 x6 S ((((1 : Int32) <<< (a5 &&& 31)).toInt - (0 : Int32).toInt).toNat + 1) (0 : Int64) (0 : Int32))
theorem l_X7_odds_0_62_s (a1 : Int32) (a2 : Int32) (a3 : Int32) (a4 : Int32) (a5 : Int32) (S : kw_S) (n : Nat) (x6 : Int64) (x8 : Int32) : l_X7_odds_0_62 a1 a2 a3 a4 a5 S (n + 1) x6 x8 = if x8.toInt < a5.toInt then (kf_l (x6 * (12 : Int64)) fun z12 => kf_l (x8 + Int32.ofInt 1) fun z13 => l_X7_odds_0_62 a1 a2 a3 a4 a5 S n z12 z13) else (l_X7_odds_0_89 a1 a2 a3 a4 a5 x6 S ((((1 : Int32) <<< (a5 &&& 31)).toInt - (0 : Int32).toInt).toNat + 1) (0 : Int64) (0 : Int32)) := rfl
noncomputable def f_X7_odds_0 (σ : kw_S) (a : Int32) (m : Int32) (p : Int32) : Int32 × kw_S := if m.toInt < ((-999) : Int32).toInt then ((((-1) : Int32), σ)) else (if (999 : Int32).toInt < m.toInt then ((((-1) : Int32), σ)) else (if p.toInt < 0 then ((((-1) : Int32), σ)) else (if (12 : Int32).toInt < p.toInt then ((((-1) : Int32), σ)) else (kf_b (f_X7_planRefusal_0 σ a) fun z1 S2 => if z1.toInt = 0 then (kf_l (f_X7_foresee_0 S2 a) fun S3 => kf_l (f_X3_sizeOf_1 S3 a) fun z4 => l_X7_odds_0_62 a m p z1 z4 S3 ((z4.toInt - (0 : Int32).toInt).toNat + 1) (1 : Int64) (0 : Int32)) else ((z1, S2))))))
theorem f_X7_odds_0_u (σ : kw_S) (a : Int32) (m : Int32) (p : Int32) : f_X7_odds_0 σ a m p = if m.toInt < ((-999) : Int32).toInt then ((((-1) : Int32), σ)) else (if (999 : Int32).toInt < m.toInt then ((((-1) : Int32), σ)) else (if p.toInt < 0 then ((((-1) : Int32), σ)) else (if (12 : Int32).toInt < p.toInt then ((((-1) : Int32), σ)) else (kf_b (f_X7_planRefusal_0 σ a) fun z1 S2 => if z1.toInt = 0 then (kf_l (f_X7_foresee_0 S2 a) fun S3 => kf_l (f_X3_sizeOf_1 S3 a) fun z4 => l_X7_odds_0_62 a m p z1 z4 S3 ((z4.toInt - (0 : Int32).toInt).toNat + 1) (1 : Int64) (0 : Int32)) else ((z1, S2)))))) := rfl
abbrev p_X7_odds_0 (σ : kw_S) (a : Int32) (m : Int32) (p : Int32) : Option Value → kw_S → Prop := fun vv σ' => (kw_I bX σ' ∧ kw_F [8, 28, 10, 11] σ σ') ∧ ∃ r : Int32, vv = some (.int r) ∧ (r, σ') = f_X7_odds_0 σ a m p
set_option maxRecDepth 100000 in
set_option maxHeartbeats 4000000 in
theorem c_X7_odds_0 (l : Launch) (σ : kw_S) (hI : kw_I bX σ) (a : Int32) (m : Int32) (p : Int32) : kw_Met l 5 KX mX7_odds [.ref 0, .int a, .int m, .int p] σ (p_X7_odds_0 σ a m p) := by
  have r_a := kw_rng a
  have r_m := kw_rng m
  have r_p := kw_rng p
  have hF0 : kw_F [8, 28, 10, 11] σ σ := kw_F.rf
  have hF := (f_X7_odds_0_u σ a m p).symm
  have q_m999 : (-999 : Int32).toInt = -999 := rfl
  have q_m1 : (-1 : Int32).toInt = -1 := rfl
  have q_0 : (0 : Int32).toInt = 0 := rfl
  have q_1 : (1 : Int32).toInt = 1 := rfl
  have q_12 : (12 : Int32).toInt = 12 := rfl
  have q_999 : (999 : Int32).toInt = 999 := rfl
  refine kw_Met.of (by decide) rfl tX7_odds (Nat.le_of_ble_eq_true rfl) ?_
  show kw_AW l 5 kw_E0 KX mX7_odds (p_X7_odds_0 σ a m p) 0 [(0, .ref 0), (1, .int a), (2, .int m), (3, .int p)] [] σ
  refine kw_iload_n (pc := 0) (i := 0) (k := 2) (n := 2) rfl rfl rfl ?_
  refine kw_sipush (pc := 1) (i := 1) (v := (-999)) rfl rfl ?_
  refine kw_icmp_lt (pc := 4) (i := 2) (tgt := 24) rfl rfl (fun c1 => ?_) (fun c1 => ?_)
  · replace hF := kf_p c1 hF
    refine kw_iconst (pc := 24) (i := 11) (v := (-1)) rfl rfl ?_
    exact kw_ireturn (pc := 25) (i := 12) (ty := .int) rfl rfl rfl ⟨⟨hI, hF0⟩, _, rfl, hF⟩
  · replace hF := kf_nl c1 hF
    refine kw_iload_n (pc := 7) (i := 3) (k := 2) (n := 2) rfl rfl rfl ?_
    refine kw_sipush (pc := 8) (i := 4) (v := 999) rfl rfl ?_
    refine kw_icmp_gt (pc := 11) (i := 5) (tgt := 24) rfl rfl (fun c2 => ?_) (fun c2 => ?_)
    · replace hF := kf_p c2 hF
      refine kw_iconst (pc := 24) (i := 11) (v := (-1)) rfl rfl ?_
      exact kw_ireturn (pc := 25) (i := 12) (ty := .int) rfl rfl rfl ⟨⟨hI, hF0⟩, _, rfl, hF⟩
    · replace hF := kf_nl c2 hF
      refine kw_iload_n (pc := 14) (i := 6) (k := 3) (n := 3) rfl rfl rfl ?_
      refine kw_if_lt (pc := 15) (i := 7) (tgt := 24) rfl rfl (fun c3 => ?_) (fun c3 => ?_)
      · replace hF := kf_p c3 hF
        refine kw_iconst (pc := 24) (i := 11) (v := (-1)) rfl rfl ?_
        exact kw_ireturn (pc := 25) (i := 12) (ty := .int) rfl rfl rfl ⟨⟨hI, hF0⟩, _, rfl, hF⟩
      · replace hF := kf_nl c3 hF
        refine kw_iload_n (pc := 18) (i := 8) (k := 3) (n := 3) rfl rfl rfl ?_
        refine kw_bipush (pc := 19) (i := 9) (v := 12) rfl rfl ?_
        refine kw_icmp_le (pc := 21) (i := 10) (tgt := 26) rfl rfl (fun c4 => ?_) (fun c4 => ?_)
        · replace hF := kf_nl c4 hF
          refine kw_aload_n (pc := 26) (i := 13) (k := 0) (n := 0) rfl rfl rfl ?_
          refine kw_iload_n (pc := 27) (i := 14) (k := 1) (n := 1) rfl rfl rfl ?_
          refine kw_callV (pc := 28) (i := 15) (Y := mX7_planRefusal) (a := 0) (As := [.int a]) (st := []) kw_hE rfl rfl lvX7_250 arX7_planRefusal (c_X7_planRefusal_0 l σ hI a ) (by decide) (Nat.le_of_ble_eq_true rfl) rfl (fun v S6 p5 => ?_)
          obtain ⟨⟨I10, F11⟩, z9, rfl, f7, ef8⟩ := p5
          have F12 : kw_F [8, 28, 10, 11] σ S6 := kw_F.tr hF0 F11 (by decide)
          replace hF := kf_be ef8 hF
          have r_z9 := kw_rng z9
          show kw_AW l 5 kw_E0 KX mX7_odds (p_X7_odds_0 σ a m p) 31 [(0, .ref 0), (1, .int a), (2, .int m), (3, .int p)] [.int z9] S6
          refine kw_istore (pc := 31) (i := 16) (n := 4) (lv' := [(4, .int z9), (0, .ref 0), (1, .int a), (2, .int m), (3, .int p)]) rfl (by decide) rfl ?_
          refine kw_iload (pc := 33) (i := 17) (k := 0) (n := 4) rfl rfl ?_
          refine kw_if_eq (pc := 35) (i := 18) (tgt := 41) rfl rfl (fun c13 => ?_) (fun c13 => ?_)
          · replace hF := kf_p c13 hF
            refine kw_aload_n (pc := 41) (i := 21) (k := 1) (n := 0) rfl rfl rfl ?_
            refine kw_iload_n (pc := 42) (i := 22) (k := 2) (n := 1) rfl rfl rfl ?_
            refine kw_callV (pc := 43) (i := 23) (Y := mX7_foresee) (a := 0) (As := [.int a]) (st := []) kw_hE rfl rfl lvX7_292 arX7_foresee (c_X7_foresee_0 l S6 I10 a ) (by decide) (Nat.le_of_ble_eq_true rfl) rfl (fun v S15 p14 => ?_)
            obtain ⟨⟨I17, F18⟩, rfl, ef16⟩ := p14
            have F19 : kw_F [8, 28, 10, 11] σ S15 := kw_F.tr F12 F18 (by decide)
            replace hF := kf_le ef16 hF
            show kw_AW l 5 kw_E0 KX mX7_odds (p_X7_odds_0 σ a m p) 46 [(4, .int z9), (0, .ref 0), (1, .int a), (2, .int m), (3, .int p)] [] S15
            have w_s := congrArg Int32.toInt (kw_F.at (a := 13) (j := a.toNatClampNeg) F18 (by decide))
            refine kw_aload_n (pc := 46) (i := 24) (k := 1) (n := 0) rfl rfl rfl ?_
            refine kw_get (pc := 47) (i := 25) (v := .ref 1) rfl rfl rfl lkX7_14 (fun _ => rfl) ?_
            refine kw_iload_n (pc := 50) (i := 26) (k := 2) (n := 1) rfl rfl rfl ?_
            refine kw_callV (pc := 51) (i := 27) (Y := mX3_sizeOf) (a := 1) (As := [.int a]) (st := []) kw_hE rfl rfl lvX7_110 arX3_sizeOf (c_X3_sizeOf_1 l S15 I17 a ) (by decide) (Nat.le_of_ble_eq_true rfl) rfl (fun v S21 p20 => ?_)
            obtain ⟨e28, z27, rfl, f22, f23, f24, f25, ef26⟩ := p20
            rw [e28]
            replace hF := kf_le ef26 hF
            have r_z27 := kw_rng z27
            show kw_AW l 5 kw_E0 KX mX7_odds (p_X7_odds_0 σ a m p) 54 [(4, .int z9), (0, .ref 0), (1, .int a), (2, .int m), (3, .int p)] [.int z27] S15
            refine kw_istore (pc := 54) (i := 28) (n := 5) (lv' := [(5, .int z27), (4, .int z9), (0, .ref 0), (1, .int a), (2, .int m), (3, .int p)]) rfl (by decide) rfl ?_
            refine kw_lconst (pc := 56) (i := 29) (v := 1) rfl rfl ?_
            refine kw_lstore (pc := 57) (i := 30) (n := 6) (lv' := [(6, .long 1), (5, .int z27), (4, .int z9), (0, .ref 0), (1, .int a), (2, .int m), (3, .int p)]) rfl (by decide) rfl ?_
            refine kw_iconst (pc := 59) (i := 31) (v := 0) rfl rfl ?_
            refine kw_istore (pc := 60) (i := 32) (n := 8) (lv' := [(8, .int 0), (6, .long 1), (5, .int z27), (4, .int z9), (0, .ref 0), (1, .int a), (2, .int m), (3, .int p)]) rfl (by decide) rfl ?_
            have L31 : ∀ (n35 : Nat) (x29 : Int32) (x30 : Int64), 0 ≤ x29.toInt → l_X7_odds_0_62 a m p z9 z27 S15 n35 x30 x29 = (f_X7_odds_0 σ a m p) → (z27.toInt - x29.toInt).toNat < n35 → kw_AW l 5 kw_E0 KX mX7_odds (p_X7_odds_0 σ a m p) 62 [(8, .int x29), (6, .long x30), (5, .int z27), (4, .int z9), (0, .ref 0), (1, .int a), (2, .int m), (3, .int p)] [] S15 := by
              intro n35
              induction n35 with
              | zero => intro x29 x30 v33 hF m34; exact absurd m34 (Nat.not_lt_zero _)
              | succ n35 ih32 =>
                intro x29 x30 v33 hF m34
                replace hF := kf_st (l_X7_odds_0_62_s _ _ _ _ _ _ _ _ _) hF
                have r_x29 := kw_rng x29
                refine kw_iload (pc := 62) (i := 33) (k := 0) (n := 8) rfl rfl ?_
                refine kw_iload (pc := 64) (i := 34) (k := 2) (n := 5) rfl rfl ?_
                refine kw_icmp_ge (pc := 66) (i := 35) (tgt := 83) rfl rfl (fun c36 => ?_) (fun c36 => ?_)
                · replace hF := kf_nl c36 hF
                  refine kw_lconst (pc := 83) (i := 42) (v := 0) rfl rfl ?_
                  refine kw_lstore (pc := 84) (i := 43) (n := 8) (lv' := [(8, .long 0), (6, .long x30), (5, .int z27), (4, .int z9), (0, .ref 0), (1, .int a), (2, .int m), (3, .int p)]) rfl (by decide) rfl ?_
                  refine kw_iconst (pc := 86) (i := 44) (v := 0) rfl rfl ?_
                  refine kw_istore (pc := 87) (i := 45) (n := 10) (lv' := [(10, .int 0), (8, .long 0), (6, .long x30), (5, .int z27), (4, .int z9), (0, .ref 0), (1, .int a), (2, .int m), (3, .int p)]) rfl (by decide) rfl ?_
                  have L39 : ∀ (n43 : Nat) (x37 : Int32) (x38 : Int64), 0 ≤ x37.toInt → l_X7_odds_0_89 a m p z9 z27 x30 S15 n43 x38 x37 = (f_X7_odds_0 σ a m p) → (((1 : Int32) <<< (z27 &&& 31)).toInt - x37.toInt).toNat < n43 → kw_AW l 5 kw_E0 KX mX7_odds (p_X7_odds_0 σ a m p) 89 [(10, .int x37), (8, .long x38), (6, .long x30), (5, .int z27), (4, .int z9), (0, .ref 0), (1, .int a), (2, .int m), (3, .int p)] [] S15 := by
                    intro n43
                    induction n43 with
                    | zero => intro x37 x38 v41 hF m42; exact absurd m42 (Nat.not_lt_zero _)
                    | succ n43 ih40 =>
                      intro x37 x38 v41 hF m42
                      replace hF := kf_st (l_X7_odds_0_89_s _ _ _ _ _ _ _ _ _ _) hF
                      have r_x37 := kw_rng x37
                      refine kw_iload (pc := 89) (i := 46) (k := 0) (n := 10) rfl rfl ?_
                      refine kw_iconst (pc := 91) (i := 47) (v := 1) rfl rfl ?_
                      refine kw_iload (pc := 92) (i := 48) (k := 3) (n := 5) rfl rfl ?_
                      refine kw_ishl (pc := 94) (i := 49) rfl (fun z44 e_z44 => ?_)
                      have r_z44 := kw_rng z44
                      replace hF := kf_le e_z44 hF
                      have t_z44 := congrArg Int32.toInt e_z44
                      refine kw_icmp_ge (pc := 95) (i := 50) (tgt := 129) rfl rfl (fun c45 => ?_) (fun c45 => ?_)
                      · replace hF := kf_nl c45 hF
                        refine kw_aload_n (pc := 129) (i := 66) (k := 5) (n := 0) rfl rfl rfl ?_
                        refine kw_get (pc := 130) (i := 67) (v := .ref 8) rfl rfl rfl lkX7_55 (fun _ => rfl) ?_
                        refine kw_lload (pc := 133) (i := 68) (k := 1) (n := 8) rfl rfl ?_
                        refine kw_lload (pc := 135) (i := 69) (k := 2) (n := 6) rfl rfl ?_
                        refine kw_callV (pc := 137) (i := 70) (Y := mX4_tellShare) (a := 8) (As := [.long x38, .long x30]) (st := []) kw_hE rfl rfl lvX7_297 arX4_tellShare (c_X4_tellShare_8 l S15 I17 x38 x30 ) (by decide) (Nat.le_of_ble_eq_true rfl) rfl (fun v S47 p46 => ?_)
                        obtain ⟨⟨I49, F50⟩, rfl, ef48⟩ := p46
                        have F51 : kw_F [8, 28, 10, 11] σ S47 := kw_F.tr F19 F50 (by decide)
                        replace hF := kf_le ef48 hF
                        show kw_AW l 5 kw_E0 KX mX7_odds (p_X7_odds_0 σ a m p) 140 [(10, .int x37), (8, .long x38), (6, .long x30), (5, .int z27), (4, .int z9), (0, .ref 0), (1, .int a), (2, .int m), (3, .int p)] [] S47
                        refine kw_iconst (pc := 140) (i := 71) (v := 1) rfl rfl ?_
                        exact kw_ireturn (pc := 141) (i := 72) (ty := .int) rfl rfl rfl ⟨⟨I49, F51⟩, _, rfl, hF⟩
                      · replace hF := kf_p c45 hF
                        refine kw_aload_n (pc := 98) (i := 51) (k := 5) (n := 0) rfl rfl rfl ?_
                        refine kw_iload (pc := 99) (i := 52) (k := 3) (n := 5) rfl rfl ?_
                        refine kw_iload (pc := 101) (i := 53) (k := 0) (n := 10) rfl rfl ?_
                        refine kw_callV (pc := 103) (i := 54) (Y := mX7_milesByGusts) (a := 0) (As := [.int z27, .int x37]) (st := []) kw_hE rfl rfl lvX7_301 arX7_milesByGusts (c_X7_milesByGusts_0 l S15 I17 z27 x37 (by first | omega | decide)) (by decide) (Nat.le_of_ble_eq_true rfl) rfl (fun v S53 p52 => ?_)
                        obtain ⟨e56, z55, rfl, ef54⟩ := p52
                        rw [e56]
                        replace hF := kf_le ef54 hF
                        have r_z55 := kw_rng z55
                        show kw_AW l 5 kw_E0 KX mX7_odds (p_X7_odds_0 σ a m p) 106 [(10, .int x37), (8, .long x38), (6, .long x30), (5, .int z27), (4, .int z9), (0, .ref 0), (1, .int a), (2, .int m), (3, .int p)] [.int z55] S15
                        refine kw_iload_n (pc := 106) (i := 55) (k := 7) (n := 2) rfl rfl rfl ?_
                        refine kw_icmp_lt (pc := 107) (i := 56) (tgt := 123) rfl rfl (fun c57 => ?_) (fun c57 => ?_)
                        · replace hF := kf_p c57 hF
                          refine kw_iinc' (pc := 123) (i := 64) (k := 0) (fun z => [(10, .int z), (8, .long x38), (6, .long x30), (5, .int z27), (4, .int z9), (0, .ref 0), (1, .int a), (2, .int m), (3, .int p)]) rfl rfl (by decide) rfl (fun _ => rfl) (fun z58 e_z58 t_z58 => ?_)
                          replace hF := kf_le e_z58 hF
                          refine kw_goto (pc := 126) (i := 65) (tgt := 89) rfl rfl ?_
                          refine kw_sub (lv' := [(10, .int z58), (8, .long x38), (6, .long x30), (5, .int z27), (4, .int z9), (0, .ref 0), (1, .int a), (2, .int m), (3, .int p)]) [0, 1, 2, 3, 4, 5, 6, 7, 8] rfl ?_
                          exact ih40 z58 x38 (by omega) hF (by omega)
                        · replace hF := kf_nl c57 hF
                          refine kw_lload (pc := 110) (i := 57) (k := 1) (n := 8) rfl rfl ?_
                          refine kw_iload (pc := 112) (i := 58) (k := 3) (n := 5) rfl rfl ?_
                          refine kw_iload (pc := 114) (i := 59) (k := 0) (n := 10) rfl rfl ?_
                          refine kw_iload_n (pc := 116) (i := 60) (k := 8) (n := 3) rfl rfl rfl ?_
                          refine kw_callS (pc := 117) (i := 61) (Y := mX7_weightOfGusts) (As := [.int z27, .int x37, .int p]) (st := [.long x38]) kw_hE rfl lsX7_304 arX7_weightOfGusts (c_X7_weightOfGusts l S15 I17 z27 x37 p ) (by decide) (Nat.le_of_ble_eq_true rfl) rfl (fun v S60 p59 => ?_)
                          obtain ⟨e63, z62, rfl, ef61⟩ := p59
                          rw [e63]
                          replace hF := kf_le ef61 hF
                          show kw_AW l 5 kw_E0 KX mX7_odds (p_X7_odds_0 σ a m p) 120 [(10, .int x37), (8, .long x38), (6, .long x30), (5, .int z27), (4, .int z9), (0, .ref 0), (1, .int a), (2, .int m), (3, .int p)] [.long z62, .long x38] S15
                          refine kw_ladd (pc := 120) (i := 62) rfl (fun z64 e_z64 => ?_)
                          replace hF := kf_le e_z64 hF
                          refine kw_lstore (pc := 121) (i := 63) (n := 8) (lv' := [(8, .long z64), (10, .int x37), (6, .long x30), (5, .int z27), (4, .int z9), (0, .ref 0), (1, .int a), (2, .int m), (3, .int p)]) rfl (by decide) rfl ?_
                          refine kw_iinc' (pc := 123) (i := 64) (k := 1) (fun z => [(10, .int z), (8, .long z64), (6, .long x30), (5, .int z27), (4, .int z9), (0, .ref 0), (1, .int a), (2, .int m), (3, .int p)]) rfl rfl (by decide) rfl (fun _ => rfl) (fun z65 e_z65 t_z65 => ?_)
                          replace hF := kf_le e_z65 hF
                          refine kw_goto (pc := 126) (i := 65) (tgt := 89) rfl rfl ?_
                          refine kw_sub (lv' := [(10, .int z65), (8, .long z64), (6, .long x30), (5, .int z27), (4, .int z9), (0, .ref 0), (1, .int a), (2, .int m), (3, .int p)]) [0, 1, 2, 3, 4, 5, 6, 7, 8] rfl ?_
                          exact ih40 z65 z64 (by omega) hF (by omega)
                  exact L39 _ 0 0 (by omega) hF (Nat.lt_succ_self _)
                · replace hF := kf_p c36 hF
                  refine kw_lload (pc := 69) (i := 36) (k := 1) (n := 6) rfl rfl ?_
                  refine kw_ldc2 (pc := 71) (i := 37) (v := 12) rfl ckX7_295 ?_
                  refine kw_lmul (pc := 74) (i := 38) rfl (fun z66 e_z66 => ?_)
                  replace hF := kf_le e_z66 hF
                  refine kw_lstore (pc := 75) (i := 39) (n := 6) (lv' := [(6, .long z66), (8, .int x29), (5, .int z27), (4, .int z9), (0, .ref 0), (1, .int a), (2, .int m), (3, .int p)]) rfl (by decide) rfl ?_
                  refine kw_iinc' (pc := 77) (i := 40) (k := 1) (fun z => [(8, .int z), (6, .long z66), (5, .int z27), (4, .int z9), (0, .ref 0), (1, .int a), (2, .int m), (3, .int p)]) rfl rfl (by decide) rfl (fun _ => rfl) (fun z67 e_z67 t_z67 => ?_)
                  replace hF := kf_le e_z67 hF
                  refine kw_goto (pc := 80) (i := 41) (tgt := 62) rfl rfl ?_
                  refine kw_sub (lv' := [(8, .int z67), (6, .long z66), (5, .int z27), (4, .int z9), (0, .ref 0), (1, .int a), (2, .int m), (3, .int p)]) [0, 1, 2, 3, 4, 5, 6, 7] rfl ?_
                  exact ih32 z67 z66 (by omega) hF (by omega)
            exact L31 _ 0 1 (by omega) hF (Nat.lt_succ_self _)
          · replace hF := kf_n c13 hF
            refine kw_iload (pc := 38) (i := 19) (k := 0) (n := 4) rfl rfl ?_
            exact kw_ireturn (pc := 40) (i := 20) (ty := .int) rfl rfl rfl ⟨⟨I10, F12⟩, _, rfl, hF⟩
        · replace hF := kf_p c4 hF
          refine kw_iconst (pc := 24) (i := 11) (v := (-1)) rfl rfl ?_
          exact kw_ireturn (pc := 25) (i := 12) (ty := .int) rfl rfl rfl ⟨⟨hI, hF0⟩, _, rfl, hF⟩
noncomputable def l_X7_lots_0_69 (a1 : Int32) (a2 : Int32) (a3 : Int32) : Nat → Int64 → Int32 → kw_S → Int32 × kw_S
  | 0, _, _, S => (0, S)
  | n + 1, x4, x6, S => if x6.toInt < a1.toInt then (kf_l (x4 * (48271 : Int64)) fun z8 => kf_l (z8 - z8 / (2147483647 : Int64) * (2147483647 : Int64)) fun z9 => kf_l a3.toInt64 fun z10 => kf_l (z9 - z9 / z10 * z10) fun z11 => kf_l z11.toInt32 fun z12 => kf_l (f_X5_act_4 S z12) fun S13 => kf_l (f_X5_act_4 S13 (6 : Int32)) fun S14 => kf_l (x6 + Int32.ofInt 1) fun z15 => l_X7_lots_0_69 a1 a2 a3 n z9 z15 S14) else (kf_b (f_X4_answer_8 S (S.1 4 6)) fun z6 S7 => (z6, S7))
theorem l_X7_lots_0_69_s (a1 : Int32) (a2 : Int32) (a3 : Int32) (n : Nat) (x4 : Int64) (x6 : Int32) (S : kw_S) : l_X7_lots_0_69 a1 a2 a3 (n + 1) x4 x6 S = if x6.toInt < a1.toInt then (kf_l (x4 * (48271 : Int64)) fun z8 => kf_l (z8 - z8 / (2147483647 : Int64) * (2147483647 : Int64)) fun z9 => kf_l a3.toInt64 fun z10 => kf_l (z9 - z9 / z10 * z10) fun z11 => kf_l z11.toInt32 fun z12 => kf_l (f_X5_act_4 S z12) fun S13 => kf_l (f_X5_act_4 S13 (6 : Int32)) fun S14 => kf_l (x6 + Int32.ofInt 1) fun z15 => l_X7_lots_0_69 a1 a2 a3 n z9 z15 S14) else (kf_b (f_X4_answer_8 S (S.1 4 6)) fun z6 S7 => (z6, S7)) := rfl
noncomputable def f_X7_lots_0 (σ : kw_S) (n : Int32) (seed : Int32) : Int32 × kw_S := if n.toInt < (1 : Int32).toInt then ((((-1) : Int32), σ)) else (if (20 : Int32).toInt < n.toInt then ((((-1) : Int32), σ)) else (if seed.toInt < (1 : Int32).toInt then ((((-1) : Int32), σ)) else (kf_l seed.toInt64 fun z1 => kf_l (lg_cmp z1 (2147483647 : Int64)) fun z2 => if z2.toInt < 0 then (if (σ.1 17 5).toInt < (1 : Int32).toInt then ((((-4) : Int32), σ)) else (kf_l ((2 : Int32) * n) fun z3 => kf_l (f_X5_hasRoomFor_4 σ z3) fun z4 => if z4.toInt = 0 then ((((-2) : Int32), σ)) else (kf_l seed.toInt64 fun z5 => l_X7_lots_0_69 n seed (σ.1 17 5) ((n.toInt - (0 : Int32).toInt).toNat + 1) z5 (0 : Int32) σ))) else ((((-1) : Int32), σ)))))
theorem f_X7_lots_0_u (σ : kw_S) (n : Int32) (seed : Int32) : f_X7_lots_0 σ n seed = if n.toInt < (1 : Int32).toInt then ((((-1) : Int32), σ)) else (if (20 : Int32).toInt < n.toInt then ((((-1) : Int32), σ)) else (if seed.toInt < (1 : Int32).toInt then ((((-1) : Int32), σ)) else (kf_l seed.toInt64 fun z1 => kf_l (lg_cmp z1 (2147483647 : Int64)) fun z2 => if z2.toInt < 0 then (if (σ.1 17 5).toInt < (1 : Int32).toInt then ((((-4) : Int32), σ)) else (kf_l ((2 : Int32) * n) fun z3 => kf_l (f_X5_hasRoomFor_4 σ z3) fun z4 => if z4.toInt = 0 then ((((-2) : Int32), σ)) else (kf_l seed.toInt64 fun z5 => l_X7_lots_0_69 n seed (σ.1 17 5) ((n.toInt - (0 : Int32).toInt).toNat + 1) z5 (0 : Int32) σ))) else ((((-1) : Int32), σ))))) := rfl
abbrev p_X7_lots_0 (σ : kw_S) (n : Int32) (seed : Int32) : Option Value → kw_S → Prop := fun vv σ' => (kw_I bX σ' ∧ kw_F [8, 28, 4, 18, 19] σ σ') ∧ ∃ r : Int32, vv = some (.int r) ∧ (r, σ') = f_X7_lots_0 σ n seed
set_option maxRecDepth 100000 in
set_option maxHeartbeats 4000000 in
theorem c_X7_lots_0 (l : Launch) (σ : kw_S) (hI : kw_I bX σ) (n : Int32) (seed : Int32) : kw_Met l 6 KX mX7_lots [.ref 0, .int n, .int seed] σ (p_X7_lots_0 σ n seed) := by
  have r_n := kw_rng n
  have r_seed := kw_rng seed
  have hF0 : kw_F [8, 28, 4, 18, 19] σ σ := kw_F.rf
  have hF := (f_X7_lots_0_u σ n seed).symm
  have q_m4 : (-4 : Int32).toInt = -4 := rfl
  have q_m2 : (-2 : Int32).toInt = -2 := rfl
  have q_m1 : (-1 : Int32).toInt = -1 := rfl
  have q_0 : (0 : Int32).toInt = 0 := rfl
  have q_1 : (1 : Int32).toInt = 1 := rfl
  have q_2 : (2 : Int32).toInt = 2 := rfl
  have q_6 : (6 : Int32).toInt = 6 := rfl
  have q_20 : (20 : Int32).toInt = 20 := rfl
  refine kw_Met.of (by decide) rfl tX7_lots (Nat.le_of_ble_eq_true rfl) ?_
  show kw_AW l 6 kw_E0 KX mX7_lots (p_X7_lots_0 σ n seed) 0 [(0, .ref 0), (1, .int n), (2, .int seed)] [] σ
  refine kw_iload_n (pc := 0) (i := 0) (k := 1) (n := 1) rfl rfl rfl ?_
  refine kw_iconst (pc := 1) (i := 1) (v := 1) rfl rfl ?_
  refine kw_icmp_lt (pc := 2) (i := 2) (tgt := 25) rfl rfl (fun c1 => ?_) (fun c1 => ?_)
  · replace hF := kf_p c1 hF
    refine kw_iconst (pc := 25) (i := 14) (v := (-1)) rfl rfl ?_
    exact kw_ireturn (pc := 26) (i := 15) (ty := .int) rfl rfl rfl ⟨⟨hI, hF0⟩, _, rfl, hF⟩
  · replace hF := kf_nl c1 hF
    refine kw_iload_n (pc := 5) (i := 3) (k := 1) (n := 1) rfl rfl rfl ?_
    refine kw_bipush (pc := 6) (i := 4) (v := 20) rfl rfl ?_
    refine kw_icmp_gt (pc := 8) (i := 5) (tgt := 25) rfl rfl (fun c2 => ?_) (fun c2 => ?_)
    · replace hF := kf_p c2 hF
      refine kw_iconst (pc := 25) (i := 14) (v := (-1)) rfl rfl ?_
      exact kw_ireturn (pc := 26) (i := 15) (ty := .int) rfl rfl rfl ⟨⟨hI, hF0⟩, _, rfl, hF⟩
    · replace hF := kf_nl c2 hF
      refine kw_iload_n (pc := 11) (i := 6) (k := 2) (n := 2) rfl rfl rfl ?_
      refine kw_iconst (pc := 12) (i := 7) (v := 1) rfl rfl ?_
      refine kw_icmp_lt (pc := 13) (i := 8) (tgt := 25) rfl rfl (fun c3 => ?_) (fun c3 => ?_)
      · replace hF := kf_p c3 hF
        refine kw_iconst (pc := 25) (i := 14) (v := (-1)) rfl rfl ?_
        exact kw_ireturn (pc := 26) (i := 15) (ty := .int) rfl rfl rfl ⟨⟨hI, hF0⟩, _, rfl, hF⟩
      · replace hF := kf_nl c3 hF
        refine kw_iload_n (pc := 16) (i := 9) (k := 2) (n := 2) rfl rfl rfl ?_
        refine kw_i2l (pc := 17) (i := 10) rfl (fun z4 e_z4 t_z4 => ?_)
        replace hF := kf_le e_z4 hF
        refine kw_ldc2 (pc := 18) (i := 11) (v := 2147483647) rfl ckX7_308 ?_
        refine kw_lcmp (pc := 21) (i := 12) rfl (fun z5 e_z5 t_z5 => ?_)
        replace hF := kf_le e_z5 hF
        have lq6 : (2147483647 : Int64).toInt = 2147483647 := rfl
        refine kw_if_lt (pc := 22) (i := 13) (tgt := 27) rfl rfl (fun c7 => ?_) (fun c7 => ?_)
        · replace hF := kf_p c7 hF
          refine kw_aload_n (pc := 27) (i := 16) (k := 0) (n := 0) rfl rfl rfl ?_
          refine kw_get (pc := 28) (i := 17) (v := .ref 4) rfl rfl rfl lkX7_31 (fun _ => rfl) ?_
          refine kw_get (pc := 31) (i := 18) (v := .ref 17) rfl rfl rfl lkX7_117 (fun _ => rfl) ?_
          refine kw_get (pc := 34) (i := 19) (v := .int (σ.1 17 5)) rfl rfl rfl lkX7_133 (fun _ => rfl) ?_
          have b8 : 0 ≤ (σ.1 17 5).toInt ∧ (σ.1 17 5).toInt ≤ 6 := hI 17 5
          refine kw_istore_n (pc := 37) (i := 20) (n := 3) (lv' := [(3, .int (σ.1 17 5)), (0, .ref 0), (1, .int n), (2, .int seed)]) rfl rfl (by decide) rfl ?_
          refine kw_iload_n (pc := 38) (i := 21) (k := 0) (n := 3) rfl rfl rfl ?_
          refine kw_iconst (pc := 39) (i := 22) (v := 1) rfl rfl ?_
          refine kw_icmp_ge (pc := 40) (i := 23) (tgt := 46) rfl rfl (fun c9 => ?_) (fun c9 => ?_)
          · replace hF := kf_nl c9 hF
            refine kw_aload_n (pc := 46) (i := 26) (k := 1) (n := 0) rfl rfl rfl ?_
            refine kw_get (pc := 47) (i := 27) (v := .ref 4) rfl rfl rfl lkX7_31 (fun _ => rfl) ?_
            refine kw_iconst (pc := 50) (i := 28) (v := 2) rfl rfl ?_
            refine kw_iload_n (pc := 51) (i := 29) (k := 2) (n := 1) rfl rfl rfl ?_
            refine kw_imul (pc := 52) (i := 30) rfl (fun z10 e_z10 t_z10 => ?_)
            replace hF := kf_le e_z10 hF
            rw [show (2 : Int32).toInt = 2 from rfl] at t_z10
            refine kw_callV (pc := 53) (i := 31) (Y := mX5_hasRoomFor) (a := 4) (As := [.int z10]) (st := []) kw_hE rfl rfl lvX7_188 arX5_hasRoomFor (c_X5_hasRoomFor_4 l σ hI z10 (by first | omega | decide) (by first | omega | decide)) (by decide) (Nat.le_of_ble_eq_true rfl) rfl (fun v S12 p11 => ?_)
            obtain ⟨e17, z16, rfl, f13, f14, ef15⟩ := p11
            rw [e17]
            replace hF := kf_le ef15 hF
            have r_z16 := kw_rng z16
            show kw_AW l 6 kw_E0 KX mX7_lots (p_X7_lots_0 σ n seed) 56 [(3, .int (σ.1 17 5)), (0, .ref 0), (1, .int n), (2, .int seed)] [.int z16] σ
            refine kw_if_ne (pc := 56) (i := 32) (tgt := 62) rfl rfl (fun c18 => ?_) (fun c18 => ?_)
            · replace hF := kf_n c18 hF
              refine kw_iload_n (pc := 62) (i := 35) (k := 3) (n := 2) rfl rfl rfl ?_
              refine kw_i2l (pc := 63) (i := 36) rfl (fun z19 e_z19 t_z19 => ?_)
              replace hF := kf_le e_z19 hF
              refine kw_lstore (pc := 64) (i := 37) (n := 4) (lv' := [(4, .long z19), (3, .int (σ.1 17 5)), (0, .ref 0), (1, .int n), (2, .int seed)]) rfl (by decide) rfl ?_
              refine kw_iconst (pc := 66) (i := 38) (v := 0) rfl rfl ?_
              refine kw_istore (pc := 67) (i := 39) (n := 6) (lv' := [(6, .int 0), (4, .long z19), (3, .int (σ.1 17 5)), (0, .ref 0), (1, .int n), (2, .int seed)]) rfl (by decide) rfl ?_
              have L25 : ∀ (n29 : Nat) (x20 : Int32) (x21 : Int64) (S22 : kw_S), kw_I bX S22 → kw_F [8, 28, 4, 18, 19] σ S22 → 0 ≤ x20.toInt → l_X7_lots_0_69 n seed (σ.1 17 5) n29 x21 x20 S22 = (f_X7_lots_0 σ n seed) → (n.toInt - x20.toInt).toNat < n29 → kw_AW l 6 kw_E0 KX mX7_lots (p_X7_lots_0 σ n seed) 69 [(6, .int x20), (4, .long x21), (3, .int (σ.1 17 5)), (0, .ref 0), (1, .int n), (2, .int seed)] [] S22 := by
                intro n29
                induction n29 with
                | zero => intro x20 x21 S22 I23 F24 v27 hF m28; exact absurd m28 (Nat.not_lt_zero _)
                | succ n29 ih26 =>
                  intro x20 x21 S22 I23 F24 v27 hF m28
                  replace hF := kf_st (l_X7_lots_0_69_s _ _ _ _ _ _ _) hF
                  have r_x20 := kw_rng x20
                  refine kw_iload (pc := 69) (i := 40) (k := 0) (n := 6) rfl rfl ?_
                  refine kw_iload_n (pc := 71) (i := 41) (k := 4) (n := 1) rfl rfl rfl ?_
                  refine kw_icmp_ge (pc := 72) (i := 42) (tgt := 115) rfl rfl (fun c30 => ?_) (fun c30 => ?_)
                  · replace hF := kf_nl c30 hF
                    refine kw_aload_n (pc := 115) (i := 63) (k := 3) (n := 0) rfl rfl rfl ?_
                    refine kw_get (pc := 116) (i := 64) (v := .ref 8) rfl rfl rfl lkX7_55 (fun _ => rfl) ?_
                    refine kw_aload_n (pc := 119) (i := 65) (k := 3) (n := 0) rfl rfl rfl ?_
                    refine kw_get (pc := 120) (i := 66) (v := .ref 4) rfl rfl rfl lkX7_31 (fun _ => rfl) ?_
                    refine kw_get (pc := 123) (i := 67) (v := .int (S22.1 4 6)) rfl rfl rfl lkX7_204 (fun _ => rfl) ?_
                    have b31 := kw_rng (S22.1 4 6)
                    refine kw_callV (pc := 126) (i := 68) (Y := mX4_answer) (a := 8) (As := [.int (S22.1 4 6)]) (st := []) kw_hE rfl rfl lvX7_92 arX4_answer (c_X4_answer_8 l S22 I23 (S22.1 4 6) ) (by decide) (Nat.le_of_ble_eq_true rfl) rfl (fun v S33 p32 => ?_)
                    obtain ⟨⟨I37, F38⟩, z36, rfl, f34, ef35⟩ := p32
                    have F39 : kw_F [8, 28, 4, 18, 19] σ S33 := kw_F.tr F24 F38 (by decide)
                    replace hF := kf_be ef35 hF
                    have r_z36 := kw_rng z36
                    show kw_AW l 6 kw_E0 KX mX7_lots (p_X7_lots_0 σ n seed) 129 [(6, .int x20), (4, .long x21), (3, .int (σ.1 17 5)), (0, .ref 0), (1, .int n), (2, .int seed)] [.int z36] S33
                    exact kw_ireturn (pc := 129) (i := 69) (ty := .int) rfl rfl rfl ⟨⟨I37, F39⟩, _, rfl, hF⟩
                  · replace hF := kf_p c30 hF
                    refine kw_lload (pc := 75) (i := 43) (k := 1) (n := 4) rfl rfl ?_
                    refine kw_ldc2 (pc := 77) (i := 44) (v := 48271) rfl ckX7_310 ?_
                    refine kw_lmul (pc := 80) (i := 45) rfl (fun z40 e_z40 => ?_)
                    replace hF := kf_le e_z40 hF
                    refine kw_ldc2 (pc := 81) (i := 46) (v := 2147483647) rfl ckX7_308 ?_
                    refine kw_lrem (pc := 84) (i := 47) rfl (by decide) (fun z41 e_z41 => ?_)
                    replace hF := kf_le e_z41 hF
                    refine kw_lstore (pc := 85) (i := 48) (n := 4) (lv' := [(4, .long z41), (6, .int x20), (3, .int (σ.1 17 5)), (0, .ref 0), (1, .int n), (2, .int seed)]) rfl (by decide) rfl ?_
                    refine kw_aload_n (pc := 87) (i := 49) (k := 3) (n := 0) rfl rfl rfl ?_
                    refine kw_get (pc := 88) (i := 50) (v := .ref 4) rfl rfl rfl lkX7_31 (fun _ => rfl) ?_
                    refine kw_lload (pc := 91) (i := 51) (k := 0) (n := 4) rfl rfl ?_
                    refine kw_iload_n (pc := 93) (i := 52) (k := 2) (n := 3) rfl rfl rfl ?_
                    refine kw_i2l (pc := 94) (i := 53) rfl (fun z42 e_z42 t_z42 => ?_)
                    replace hF := kf_le e_z42 hF
                    refine kw_lrem (pc := 95) (i := 54) rfl (by omega) (fun z43 e_z43 => ?_)
                    replace hF := kf_le e_z43 hF
                    refine kw_l2i (pc := 96) (i := 55) rfl (fun z44 e_z44 => ?_)
                    replace hF := kf_le e_z44 hF
                    have r_z44 := kw_rng z44
                    refine kw_callV (pc := 97) (i := 56) (Y := mX5_act) (a := 4) (As := [.int z44]) (st := []) kw_hE rfl rfl lvX7_191 arX5_act (c_X5_act_4 l S22 I23 z44 ) (by decide) (Nat.le_of_ble_eq_true rfl) rfl (fun v S46 p45 => ?_)
                    obtain ⟨⟨I48, F49⟩, rfl, ef47⟩ := p45
                    have F50 : kw_F [8, 28, 4, 18, 19] σ S46 := kw_F.tr F24 F49 (by decide)
                    replace hF := kf_le ef47 hF
                    show kw_AW l 6 kw_E0 KX mX7_lots (p_X7_lots_0 σ n seed) 100 [(4, .long z41), (6, .int x20), (3, .int (σ.1 17 5)), (0, .ref 0), (1, .int n), (2, .int seed)] [] S46
                    refine kw_aload_n (pc := 100) (i := 57) (k := 3) (n := 0) rfl rfl rfl ?_
                    refine kw_get (pc := 101) (i := 58) (v := .ref 4) rfl rfl rfl lkX7_31 (fun _ => rfl) ?_
                    refine kw_bipush (pc := 104) (i := 59) (v := 6) rfl rfl ?_
                    refine kw_callV (pc := 106) (i := 60) (Y := mX5_act) (a := 4) (As := [.int 6]) (st := []) kw_hE rfl rfl lvX7_191 arX5_act (c_X5_act_4 l S46 I48 6 ) (by decide) (Nat.le_of_ble_eq_true rfl) rfl (fun v S52 p51 => ?_)
                    obtain ⟨⟨I54, F55⟩, rfl, ef53⟩ := p51
                    have F56 : kw_F [8, 28, 4, 18, 19] σ S52 := kw_F.tr F50 F55 (by decide)
                    replace hF := kf_le ef53 hF
                    show kw_AW l 6 kw_E0 KX mX7_lots (p_X7_lots_0 σ n seed) 109 [(4, .long z41), (6, .int x20), (3, .int (σ.1 17 5)), (0, .ref 0), (1, .int n), (2, .int seed)] [] S52
                    refine kw_iinc' (pc := 109) (i := 61) (k := 1) (fun z => [(6, .int z), (4, .long z41), (3, .int (σ.1 17 5)), (0, .ref 0), (1, .int n), (2, .int seed)]) rfl rfl (by decide) rfl (fun _ => rfl) (fun z57 e_z57 t_z57 => ?_)
                    replace hF := kf_le e_z57 hF
                    refine kw_goto (pc := 112) (i := 62) (tgt := 69) rfl rfl ?_
                    refine kw_sub (lv' := [(6, .int z57), (4, .long z41), (3, .int (σ.1 17 5)), (0, .ref 0), (1, .int n), (2, .int seed)]) [0, 1, 2, 3, 4, 5] rfl ?_
                    exact ih26 z57 z41 S52 I54 F56 (by omega) hF (by omega)
              exact L25 _ 0 z19 σ hI hF0 (by omega) hF (Nat.lt_succ_self _)
            · replace hF := kf_p c18 hF
              refine kw_bipush (pc := 59) (i := 33) (v := (-2)) rfl rfl ?_
              exact kw_ireturn (pc := 61) (i := 34) (ty := .int) rfl rfl rfl ⟨⟨hI, hF0⟩, _, rfl, hF⟩
          · replace hF := kf_p c9 hF
            refine kw_bipush (pc := 43) (i := 24) (v := (-4)) rfl rfl ?_
            exact kw_ireturn (pc := 45) (i := 25) (ty := .int) rfl rfl rfl ⟨⟨hI, hF0⟩, _, rfl, hF⟩
        · replace hF := kf_nl c7 hF
          refine kw_iconst (pc := 25) (i := 14) (v := (-1)) rfl rfl ?_
          exact kw_ireturn (pc := 26) (i := 15) (ty := .int) rfl rfl rfl ⟨⟨hI, hF0⟩, _, rfl, hF⟩
noncomputable def f_X7_asked_0 (σ : kw_S)  : Int32 := (σ.1 8 2)
theorem f_X7_asked_0_u (σ : kw_S)  : f_X7_asked_0 σ  = (σ.1 8 2) := rfl
abbrev p_X7_asked_0 (σ : kw_S)  : Option Value → kw_S → Prop := fun vv σ' => σ' = σ ∧ ∃ r : Int32, vv = some (.int r) ∧ r = f_X7_asked_0 σ
set_option maxRecDepth 100000 in
set_option maxHeartbeats 4000000 in
theorem c_X7_asked_0 (l : Launch) (σ : kw_S) (hI : kw_I bX σ)  : kw_Met l 1 KX mX7_asked [.ref 0] σ (p_X7_asked_0 σ) := by
  have hF := (f_X7_asked_0_u σ).symm
  refine kw_Met.of (by decide) rfl tX7_asked (Nat.le_of_ble_eq_true rfl) ?_
  show kw_AW l 1 kw_E0 KX mX7_asked (p_X7_asked_0 σ) 0 [(0, .ref 0)] [] σ
  refine kw_aload_n (pc := 0) (i := 0) (k := 0) (n := 0) rfl rfl rfl ?_
  refine kw_get (pc := 1) (i := 1) (v := .ref 8) rfl rfl rfl lkX7_55 (fun _ => rfl) ?_
  refine kw_get (pc := 4) (i := 2) (v := .int (σ.1 8 2)) rfl rfl rfl lkX7_312 (fun _ => rfl) ?_
  have b1 := kw_rng (σ.1 8 2)
  exact kw_ireturn (pc := 7) (i := 3) (ty := .int) rfl rfl rfl ⟨rfl, _, rfl, hF⟩
noncomputable def f_X7_upper_0 (σ : kw_S)  : Int64 := (σ.2 8 3)
theorem f_X7_upper_0_u (σ : kw_S)  : f_X7_upper_0 σ  = (σ.2 8 3) := rfl
abbrev p_X7_upper_0 (σ : kw_S)  : Option Value → kw_S → Prop := fun vv σ' => σ' = σ ∧ ∃ r : Int64, vv = some (.long r) ∧ r = f_X7_upper_0 σ
set_option maxRecDepth 100000 in
set_option maxHeartbeats 4000000 in
theorem c_X7_upper_0 (l : Launch) (σ : kw_S) (hI : kw_I bX σ)  : kw_Met l 1 KX mX7_upper [.ref 0] σ (p_X7_upper_0 σ) := by
  have hF := (f_X7_upper_0_u σ).symm
  refine kw_Met.of (by decide) rfl tX7_upper (Nat.le_of_ble_eq_true rfl) ?_
  show kw_AW l 1 kw_E0 KX mX7_upper (p_X7_upper_0 σ) 0 [(0, .ref 0)] [] σ
  refine kw_aload_n (pc := 0) (i := 0) (k := 0) (n := 0) rfl rfl rfl ?_
  refine kw_get (pc := 1) (i := 1) (v := .ref 8) rfl rfl rfl lkX7_55 (fun _ => rfl) ?_
  refine kw_get (pc := 4) (i := 2) (v := .long (σ.2 8 3)) rfl rfl rfl lkX7_315 (fun _ => rfl) ?_
  exact kw_lreturn (pc := 7) (i := 3) rfl rfl ⟨rfl, _, rfl, hF⟩
noncomputable def f_X7_lower_0 (σ : kw_S)  : Int64 := (σ.2 8 4)
theorem f_X7_lower_0_u (σ : kw_S)  : f_X7_lower_0 σ  = (σ.2 8 4) := rfl
abbrev p_X7_lower_0 (σ : kw_S)  : Option Value → kw_S → Prop := fun vv σ' => σ' = σ ∧ ∃ r : Int64, vv = some (.long r) ∧ r = f_X7_lower_0 σ
set_option maxRecDepth 100000 in
set_option maxHeartbeats 4000000 in
theorem c_X7_lower_0 (l : Launch) (σ : kw_S) (hI : kw_I bX σ)  : kw_Met l 1 KX mX7_lower [.ref 0] σ (p_X7_lower_0 σ) := by
  have hF := (f_X7_lower_0_u σ).symm
  refine kw_Met.of (by decide) rfl tX7_lower (Nat.le_of_ble_eq_true rfl) ?_
  show kw_AW l 1 kw_E0 KX mX7_lower (p_X7_lower_0 σ) 0 [(0, .ref 0)] [] σ
  refine kw_aload_n (pc := 0) (i := 0) (k := 0) (n := 0) rfl rfl rfl ?_
  refine kw_get (pc := 1) (i := 1) (v := .ref 8) rfl rfl rfl lkX7_55 (fun _ => rfl) ?_
  refine kw_get (pc := 4) (i := 2) (v := .long (σ.2 8 4)) rfl rfl rfl lkX7_319 (fun _ => rfl) ?_
  exact kw_lreturn (pc := 7) (i := 3) rfl rfl ⟨rfl, _, rfl, hF⟩
noncomputable def f_X7_count_0 (σ : kw_S) (w : Int32) : Int32 := if w.toInt = 0 then ((σ.1 17 5)) else if w.toInt = 1 then ((σ.1 4 5)) else if w.toInt = 2 then ((σ.1 4 3)) else if w.toInt = 3 then (kf_l (f_J6_bitCount_0f7a4 σ (σ.1 4 4)) fun z1 => z1) else if w.toInt = 4 then (kf_l (f_X5_allWet_4 σ) fun z2 => z2) else if w.toInt = 5 then (kf_l (f_X1_howManyAre_17 σ (1 : Int32)) fun z3 => z3) else if w.toInt = 6 then (kf_l (f_X1_howManyAre_17 σ (4 : Int32)) fun z4 => z4) else if w.toInt = 7 then (kf_l (f_X3_howMany_1 σ) fun z5 => z5) else if w.toInt = 8 then (kf_l (f_X3_howMany_2 σ) fun z6 => z6) else if w.toInt = 9 then (kf_l (f_X3_howMany_5 σ) fun z7 => z7) else (((-1) : Int32))
theorem f_X7_count_0_u (σ : kw_S) (w : Int32) : f_X7_count_0 σ w = if w.toInt = 0 then ((σ.1 17 5)) else if w.toInt = 1 then ((σ.1 4 5)) else if w.toInt = 2 then ((σ.1 4 3)) else if w.toInt = 3 then (kf_l (f_J6_bitCount_0f7a4 σ (σ.1 4 4)) fun z1 => z1) else if w.toInt = 4 then (kf_l (f_X5_allWet_4 σ) fun z2 => z2) else if w.toInt = 5 then (kf_l (f_X1_howManyAre_17 σ (1 : Int32)) fun z3 => z3) else if w.toInt = 6 then (kf_l (f_X1_howManyAre_17 σ (4 : Int32)) fun z4 => z4) else if w.toInt = 7 then (kf_l (f_X3_howMany_1 σ) fun z5 => z5) else if w.toInt = 8 then (kf_l (f_X3_howMany_2 σ) fun z6 => z6) else if w.toInt = 9 then (kf_l (f_X3_howMany_5 σ) fun z7 => z7) else (((-1) : Int32)) := rfl
abbrev p_X7_count_0 (σ : kw_S) (w : Int32) : Option Value → kw_S → Prop := fun vv σ' => σ' = σ ∧ ∃ r : Int32, vv = some (.int r) ∧ r = f_X7_count_0 σ w
set_option maxRecDepth 100000 in
set_option maxHeartbeats 4000000 in
theorem c_X7_count_0 (l : Launch) (σ : kw_S) (hI : kw_I bX σ) (w : Int32) : kw_Met l 3 KX mX7_count [.ref 0, .int w] σ (p_X7_count_0 σ w) := by
  have r_w := kw_rng w
  have hF := (f_X7_count_0_u σ w).symm
  have q_m1 : (-1 : Int32).toInt = -1 := rfl
  have q_1 : (1 : Int32).toInt = 1 := rfl
  have q_4 : (4 : Int32).toInt = 4 := rfl
  refine kw_Met.of (by decide) rfl tX7_count (Nat.le_of_ble_eq_true rfl) ?_
  show kw_AW l 3 kw_E0 KX mX7_count (p_X7_count_0 σ w) 0 [(0, .ref 0), (1, .int w)] [] σ
  refine kw_iload_n (pc := 0) (i := 0) (k := 1) (n := 1) rfl rfl rfl ?_
  by_cases c1 : w.toInt = 0
  · refine kw_tableIn (pc := 1) (i := 1) (k := 0) (tgt := 56) rfl (by omega) (by decide) rfl rfl ?_
    replace hF := kf_p c1 hF
    refine kw_aload_n (pc := 56) (i := 2) (k := 0) (n := 0) rfl rfl rfl ?_
    refine kw_get (pc := 57) (i := 3) (v := .ref 4) rfl rfl rfl lkX7_31 (fun _ => rfl) ?_
    refine kw_get (pc := 60) (i := 4) (v := .ref 17) rfl rfl rfl lkX7_117 (fun _ => rfl) ?_
    refine kw_get (pc := 63) (i := 5) (v := .int (σ.1 17 5)) rfl rfl rfl lkX7_133 (fun _ => rfl) ?_
    have b2 : 0 ≤ (σ.1 17 5).toInt ∧ (σ.1 17 5).toInt ≤ 6 := hI 17 5
    exact kw_ireturn (pc := 66) (i := 6) (ty := .int) rfl rfl rfl ⟨rfl, _, rfl, hF⟩
  replace hF := kf_n c1 hF
  by_cases c3 : w.toInt = 1
  · refine kw_tableIn (pc := 1) (i := 1) (k := 1) (tgt := 67) rfl (by omega) (by decide) rfl rfl ?_
    replace hF := kf_p c3 hF
    refine kw_aload_n (pc := 67) (i := 7) (k := 0) (n := 0) rfl rfl rfl ?_
    refine kw_get (pc := 68) (i := 8) (v := .ref 4) rfl rfl rfl lkX7_31 (fun _ => rfl) ?_
    refine kw_get (pc := 71) (i := 9) (v := .int (σ.1 4 5)) rfl rfl rfl lkX7_322 (fun _ => rfl) ?_
    have b4 := kw_rng (σ.1 4 5)
    exact kw_ireturn (pc := 74) (i := 10) (ty := .int) rfl rfl rfl ⟨rfl, _, rfl, hF⟩
  replace hF := kf_n c3 hF
  by_cases c5 : w.toInt = 2
  · refine kw_tableIn (pc := 1) (i := 1) (k := 2) (tgt := 75) rfl (by omega) (by decide) rfl rfl ?_
    replace hF := kf_p c5 hF
    refine kw_aload_n (pc := 75) (i := 11) (k := 0) (n := 0) rfl rfl rfl ?_
    refine kw_get (pc := 76) (i := 12) (v := .ref 4) rfl rfl rfl lkX7_31 (fun _ => rfl) ?_
    refine kw_get (pc := 79) (i := 13) (v := .int (σ.1 4 3)) rfl rfl rfl lkX7_207 (fun _ => rfl) ?_
    have b6 : 0 ≤ (σ.1 4 3).toInt ∧ (σ.1 4 3).toInt ≤ 40 := hI 4 3
    exact kw_ireturn (pc := 82) (i := 14) (ty := .int) rfl rfl rfl ⟨rfl, _, rfl, hF⟩
  replace hF := kf_n c5 hF
  by_cases c7 : w.toInt = 3
  · refine kw_tableIn (pc := 1) (i := 1) (k := 3) (tgt := 83) rfl (by omega) (by decide) rfl rfl ?_
    replace hF := kf_p c7 hF
    refine kw_aload_n (pc := 83) (i := 15) (k := 0) (n := 0) rfl rfl rfl ?_
    refine kw_get (pc := 84) (i := 16) (v := .ref 4) rfl rfl rfl lkX7_31 (fun _ => rfl) ?_
    refine kw_get (pc := 87) (i := 17) (v := .int (σ.1 4 4)) rfl rfl rfl lkX7_157 (fun _ => rfl) ?_
    have b8 := kw_rng (σ.1 4 4)
    refine kw_callS (pc := 90) (i := 18) (Y := mJ6_bitCount_0f7a4) (As := [.int (σ.1 4 4)]) (st := []) kw_hE rfl lsX7_160 arJ6_bitCount_0f7a4 (c_J6_bitCount_0f7a4 l σ hI (σ.1 4 4) ) (by decide) (Nat.le_of_ble_eq_true rfl) rfl (fun v S10 p9 => ?_)
    obtain ⟨e13, z12, rfl, ef11⟩ := p9
    rw [e13]
    replace hF := kf_le ef11 hF
    have r_z12 := kw_rng z12
    show kw_AW l 3 kw_E0 KX mX7_count (p_X7_count_0 σ w) 93 [(0, .ref 0), (1, .int w)] [.int z12] σ
    exact kw_ireturn (pc := 93) (i := 19) (ty := .int) rfl rfl rfl ⟨rfl, _, rfl, hF⟩
  replace hF := kf_n c7 hF
  by_cases c14 : w.toInt = 4
  · refine kw_tableIn (pc := 1) (i := 1) (k := 4) (tgt := 94) rfl (by omega) (by decide) rfl rfl ?_
    replace hF := kf_p c14 hF
    refine kw_aload_n (pc := 94) (i := 20) (k := 0) (n := 0) rfl rfl rfl ?_
    refine kw_get (pc := 95) (i := 21) (v := .ref 4) rfl rfl rfl lkX7_31 (fun _ => rfl) ?_
    refine kw_callV (pc := 98) (i := 22) (Y := mX5_allWet) (a := 4) (As := []) (st := []) kw_hE rfl rfl lvX7_240 arX5_allWet (c_X5_allWet_4 l σ hI  ) (by decide) (Nat.le_of_ble_eq_true rfl) rfl (fun v S16 p15 => ?_)
    obtain ⟨e19, z18, rfl, ef17⟩ := p15
    rw [e19]
    replace hF := kf_le ef17 hF
    have r_z18 := kw_rng z18
    show kw_AW l 3 kw_E0 KX mX7_count (p_X7_count_0 σ w) 101 [(0, .ref 0), (1, .int w)] [.int z18] σ
    exact kw_ireturn (pc := 101) (i := 23) (ty := .int) rfl rfl rfl ⟨rfl, _, rfl, hF⟩
  replace hF := kf_n c14 hF
  by_cases c20 : w.toInt = 5
  · refine kw_tableIn (pc := 1) (i := 1) (k := 5) (tgt := 102) rfl (by omega) (by decide) rfl rfl ?_
    replace hF := kf_p c20 hF
    refine kw_aload_n (pc := 102) (i := 24) (k := 0) (n := 0) rfl rfl rfl ?_
    refine kw_get (pc := 103) (i := 25) (v := .ref 4) rfl rfl rfl lkX7_31 (fun _ => rfl) ?_
    refine kw_get (pc := 106) (i := 26) (v := .ref 17) rfl rfl rfl lkX7_117 (fun _ => rfl) ?_
    refine kw_iconst (pc := 109) (i := 27) (v := 1) rfl rfl ?_
    refine kw_callV (pc := 110) (i := 28) (Y := mX1_howManyAre) (a := 17) (As := [.int 1]) (st := []) kw_hE rfl rfl lvX7_325 arX1_howManyAre (c_X1_howManyAre_17 l σ hI 1 ) (by decide) (Nat.le_of_ble_eq_true rfl) rfl (fun v S22 p21 => ?_)
    obtain ⟨e25, z24, rfl, ef23⟩ := p21
    rw [e25]
    replace hF := kf_le ef23 hF
    have r_z24 := kw_rng z24
    show kw_AW l 3 kw_E0 KX mX7_count (p_X7_count_0 σ w) 113 [(0, .ref 0), (1, .int w)] [.int z24] σ
    exact kw_ireturn (pc := 113) (i := 29) (ty := .int) rfl rfl rfl ⟨rfl, _, rfl, hF⟩
  replace hF := kf_n c20 hF
  by_cases c26 : w.toInt = 6
  · refine kw_tableIn (pc := 1) (i := 1) (k := 6) (tgt := 114) rfl (by omega) (by decide) rfl rfl ?_
    replace hF := kf_p c26 hF
    refine kw_aload_n (pc := 114) (i := 30) (k := 0) (n := 0) rfl rfl rfl ?_
    refine kw_get (pc := 115) (i := 31) (v := .ref 4) rfl rfl rfl lkX7_31 (fun _ => rfl) ?_
    refine kw_get (pc := 118) (i := 32) (v := .ref 17) rfl rfl rfl lkX7_117 (fun _ => rfl) ?_
    refine kw_iconst (pc := 121) (i := 33) (v := 4) rfl rfl ?_
    refine kw_callV (pc := 122) (i := 34) (Y := mX1_howManyAre) (a := 17) (As := [.int 4]) (st := []) kw_hE rfl rfl lvX7_325 arX1_howManyAre (c_X1_howManyAre_17 l σ hI 4 ) (by decide) (Nat.le_of_ble_eq_true rfl) rfl (fun v S28 p27 => ?_)
    obtain ⟨e31, z30, rfl, ef29⟩ := p27
    rw [e31]
    replace hF := kf_le ef29 hF
    have r_z30 := kw_rng z30
    show kw_AW l 3 kw_E0 KX mX7_count (p_X7_count_0 σ w) 125 [(0, .ref 0), (1, .int w)] [.int z30] σ
    exact kw_ireturn (pc := 125) (i := 35) (ty := .int) rfl rfl rfl ⟨rfl, _, rfl, hF⟩
  replace hF := kf_n c26 hF
  by_cases c32 : w.toInt = 7
  · refine kw_tableIn (pc := 1) (i := 1) (k := 7) (tgt := 126) rfl (by omega) (by decide) rfl rfl ?_
    replace hF := kf_p c32 hF
    refine kw_aload_n (pc := 126) (i := 36) (k := 0) (n := 0) rfl rfl rfl ?_
    refine kw_get (pc := 127) (i := 37) (v := .ref 1) rfl rfl rfl lkX7_14 (fun _ => rfl) ?_
    refine kw_callV (pc := 130) (i := 38) (Y := mX3_howMany) (a := 1) (As := []) (st := []) kw_hE rfl rfl lvX7_328 arX3_howMany (c_X3_howMany_1 l σ hI  ) (by decide) (Nat.le_of_ble_eq_true rfl) rfl (fun v S34 p33 => ?_)
    obtain ⟨e37, z36, rfl, ef35⟩ := p33
    rw [e37]
    replace hF := kf_le ef35 hF
    have r_z36 := kw_rng z36
    show kw_AW l 3 kw_E0 KX mX7_count (p_X7_count_0 σ w) 133 [(0, .ref 0), (1, .int w)] [.int z36] σ
    exact kw_ireturn (pc := 133) (i := 39) (ty := .int) rfl rfl rfl ⟨rfl, _, rfl, hF⟩
  replace hF := kf_n c32 hF
  by_cases c38 : w.toInt = 8
  · refine kw_tableIn (pc := 1) (i := 1) (k := 8) (tgt := 134) rfl (by omega) (by decide) rfl rfl ?_
    replace hF := kf_p c38 hF
    refine kw_aload_n (pc := 134) (i := 40) (k := 0) (n := 0) rfl rfl rfl ?_
    refine kw_get (pc := 135) (i := 41) (v := .ref 2) rfl rfl rfl lkX7_18 (fun _ => rfl) ?_
    refine kw_callV (pc := 138) (i := 42) (Y := mX3_howMany) (a := 2) (As := []) (st := []) kw_hE rfl rfl lvX7_328 arX3_howMany (c_X3_howMany_2 l σ hI  ) (by decide) (Nat.le_of_ble_eq_true rfl) rfl (fun v S40 p39 => ?_)
    obtain ⟨e43, z42, rfl, ef41⟩ := p39
    rw [e43]
    replace hF := kf_le ef41 hF
    have r_z42 := kw_rng z42
    show kw_AW l 3 kw_E0 KX mX7_count (p_X7_count_0 σ w) 141 [(0, .ref 0), (1, .int w)] [.int z42] σ
    exact kw_ireturn (pc := 141) (i := 43) (ty := .int) rfl rfl rfl ⟨rfl, _, rfl, hF⟩
  replace hF := kf_n c38 hF
  by_cases c44 : w.toInt = 9
  · refine kw_tableIn (pc := 1) (i := 1) (k := 9) (tgt := 142) rfl (by omega) (by decide) rfl rfl ?_
    replace hF := kf_p c44 hF
    refine kw_aload_n (pc := 142) (i := 44) (k := 0) (n := 0) rfl rfl rfl ?_
    refine kw_get (pc := 143) (i := 45) (v := .ref 5) rfl rfl rfl lkX7_35 (fun _ => rfl) ?_
    refine kw_callV (pc := 146) (i := 46) (Y := mX3_howMany) (a := 5) (As := []) (st := []) kw_hE rfl rfl lvX7_328 arX3_howMany (c_X3_howMany_5 l σ hI  ) (by decide) (Nat.le_of_ble_eq_true rfl) rfl (fun v S46 p45 => ?_)
    obtain ⟨e49, z48, rfl, ef47⟩ := p45
    rw [e49]
    replace hF := kf_le ef47 hF
    have r_z48 := kw_rng z48
    show kw_AW l 3 kw_E0 KX mX7_count (p_X7_count_0 σ w) 149 [(0, .ref 0), (1, .int w)] [.int z48] σ
    exact kw_ireturn (pc := 149) (i := 47) (ty := .int) rfl rfl rfl ⟨rfl, _, rfl, hF⟩
  replace hF := kf_n c44 hF
  refine kw_tableOut (pc := 1) (i := 1) (tgt := 150) rfl (by omega) rfl ?_
  refine kw_iconst (pc := 150) (i := 48) (v := (-1)) rfl rfl ?_
  exact kw_ireturn (pc := 151) (i := 49) (ty := .int) rfl rfl rfl ⟨rfl, _, rfl, hF⟩
noncomputable def f_X7_miles_0 (σ : kw_S)  : Int32 × kw_S := kf_l (σ.1 4 7).toInt64 fun z1 => kf_l (f_X4_tellWhole_8 σ z1) fun S2 => ((S2.1 4 6), S2)
theorem f_X7_miles_0_u (σ : kw_S)  : f_X7_miles_0 σ  = kf_l (σ.1 4 7).toInt64 fun z1 => kf_l (f_X4_tellWhole_8 σ z1) fun S2 => ((S2.1 4 6), S2) := rfl
abbrev p_X7_miles_0 (σ : kw_S)  : Option Value → kw_S → Prop := fun vv σ' => (kw_I bX σ' ∧ kw_F [8, 28] σ σ') ∧ ∃ r : Int32, vv = some (.int r) ∧ (r, σ') = f_X7_miles_0 σ
set_option maxRecDepth 100000 in
set_option maxHeartbeats 4000000 in
theorem c_X7_miles_0 (l : Launch) (σ : kw_S) (hI : kw_I bX σ)  : kw_Met l 2 KX mX7_miles [.ref 0] σ (p_X7_miles_0 σ) := by
  have hF0 : kw_F [8, 28] σ σ := kw_F.rf
  have hF := (f_X7_miles_0_u σ).symm
  refine kw_Met.of (by decide) rfl tX7_miles (Nat.le_of_ble_eq_true rfl) ?_
  show kw_AW l 2 kw_E0 KX mX7_miles (p_X7_miles_0 σ) 0 [(0, .ref 0)] [] σ
  refine kw_aload_n (pc := 0) (i := 0) (k := 0) (n := 0) rfl rfl rfl ?_
  refine kw_get (pc := 1) (i := 1) (v := .ref 8) rfl rfl rfl lkX7_55 (fun _ => rfl) ?_
  refine kw_aload_n (pc := 4) (i := 2) (k := 0) (n := 0) rfl rfl rfl ?_
  refine kw_get (pc := 5) (i := 3) (v := .ref 4) rfl rfl rfl lkX7_31 (fun _ => rfl) ?_
  refine kw_get (pc := 8) (i := 4) (v := .int (σ.1 4 7)) rfl rfl rfl lkX7_197 (fun _ => rfl) ?_
  have b1 := kw_rng (σ.1 4 7)
  refine kw_i2l (pc := 11) (i := 5) rfl (fun z2 e_z2 t_z2 => ?_)
  replace hF := kf_le e_z2 hF
  refine kw_callV (pc := 12) (i := 6) (Y := mX4_tellWhole) (a := 8) (As := [.long z2]) (st := []) kw_hE rfl rfl lvX7_200 arX4_tellWhole (c_X4_tellWhole_8 l σ hI z2 ) (by decide) (Nat.le_of_ble_eq_true rfl) rfl (fun v S4 p3 => ?_)
  obtain ⟨⟨I6, F7⟩, rfl, ef5⟩ := p3
  have F8 : kw_F [8, 28] σ S4 := kw_F.tr hF0 F7 (by decide)
  replace hF := kf_le ef5 hF
  show kw_AW l 2 kw_E0 KX mX7_miles (p_X7_miles_0 σ) 15 [(0, .ref 0)] [] S4
  refine kw_aload_n (pc := 15) (i := 7) (k := 0) (n := 0) rfl rfl rfl ?_
  refine kw_get (pc := 16) (i := 8) (v := .ref 4) rfl rfl rfl lkX7_31 (fun _ => rfl) ?_
  refine kw_get (pc := 19) (i := 9) (v := .int (S4.1 4 6)) rfl rfl rfl lkX7_204 (fun _ => rfl) ?_
  have b9 := kw_rng (S4.1 4 6)
  exact kw_ireturn (pc := 22) (i := 10) (ty := .int) rfl rfl rfl ⟨⟨I6, F8⟩, _, rfl, hF⟩
noncomputable def f_X7_finding_0 (σ : kw_S)  : Int32 := (σ.1 8 1)
theorem f_X7_finding_0_u (σ : kw_S)  : f_X7_finding_0 σ  = (σ.1 8 1) := rfl
abbrev p_X7_finding_0 (σ : kw_S)  : Option Value → kw_S → Prop := fun vv σ' => σ' = σ ∧ ∃ r : Int32, vv = some (.int r) ∧ r = f_X7_finding_0 σ
set_option maxRecDepth 100000 in
set_option maxHeartbeats 4000000 in
theorem c_X7_finding_0 (l : Launch) (σ : kw_S) (hI : kw_I bX σ)  : kw_Met l 1 KX mX7_finding [.ref 0] σ (p_X7_finding_0 σ) := by
  have hF := (f_X7_finding_0_u σ).symm
  refine kw_Met.of (by decide) rfl tX7_finding (Nat.le_of_ble_eq_true rfl) ?_
  show kw_AW l 1 kw_E0 KX mX7_finding (p_X7_finding_0 σ) 0 [(0, .ref 0)] [] σ
  refine kw_aload_n (pc := 0) (i := 0) (k := 0) (n := 0) rfl rfl rfl ?_
  refine kw_get (pc := 1) (i := 1) (v := .ref 8) rfl rfl rfl lkX7_55 (fun _ => rfl) ?_
  refine kw_get (pc := 4) (i := 2) (v := .int (σ.1 8 1)) rfl rfl rfl lkX7_331 (fun _ => rfl) ?_
  have b1 := kw_rng (σ.1 8 1)
  exact kw_ireturn (pc := 7) (i := 3) (ty := .int) rfl rfl rfl ⟨rfl, _, rfl, hF⟩
noncomputable def f_X7_findings_0 (σ : kw_S) (f : Int32) : Int32 := if f.toInt < (1 : Int32).toInt then (((-1) : Int32)) else (if (5 : Int32).toInt < f.toInt then (((-1) : Int32)) else (kf_l (σ.1 28 f.toNatClampNeg) fun z1 => z1))
theorem f_X7_findings_0_u (σ : kw_S) (f : Int32) : f_X7_findings_0 σ f = if f.toInt < (1 : Int32).toInt then (((-1) : Int32)) else (if (5 : Int32).toInt < f.toInt then (((-1) : Int32)) else (kf_l (σ.1 28 f.toNatClampNeg) fun z1 => z1)) := rfl
abbrev p_X7_findings_0 (σ : kw_S) (f : Int32) : Option Value → kw_S → Prop := fun vv σ' => σ' = σ ∧ ∃ r : Int32, vv = some (.int r) ∧ r = f_X7_findings_0 σ f
set_option maxRecDepth 100000 in
set_option maxHeartbeats 4000000 in
theorem c_X7_findings_0 (l : Launch) (σ : kw_S) (hI : kw_I bX σ) (f : Int32) : kw_Met l 1 KX mX7_findings [.ref 0, .int f] σ (p_X7_findings_0 σ f) := by
  have r_f := kw_rng f
  have hF := (f_X7_findings_0_u σ f).symm
  have q_m1 : (-1 : Int32).toInt = -1 := rfl
  have q_1 : (1 : Int32).toInt = 1 := rfl
  have q_5 : (5 : Int32).toInt = 5 := rfl
  refine kw_Met.of (by decide) rfl tX7_findings (Nat.le_of_ble_eq_true rfl) ?_
  show kw_AW l 1 kw_E0 KX mX7_findings (p_X7_findings_0 σ f) 0 [(0, .ref 0), (1, .int f)] [] σ
  refine kw_iload_n (pc := 0) (i := 0) (k := 1) (n := 1) rfl rfl rfl ?_
  refine kw_iconst (pc := 1) (i := 1) (v := 1) rfl rfl ?_
  refine kw_icmp_lt (pc := 2) (i := 2) (tgt := 10) rfl rfl (fun c1 => ?_) (fun c1 => ?_)
  · replace hF := kf_p c1 hF
    refine kw_iconst (pc := 10) (i := 6) (v := (-1)) rfl rfl ?_
    exact kw_ireturn (pc := 11) (i := 7) (ty := .int) rfl rfl rfl ⟨rfl, _, rfl, hF⟩
  · replace hF := kf_nl c1 hF
    refine kw_iload_n (pc := 5) (i := 3) (k := 1) (n := 1) rfl rfl rfl ?_
    refine kw_iconst (pc := 6) (i := 4) (v := 5) rfl rfl ?_
    refine kw_icmp_le (pc := 7) (i := 5) (tgt := 12) rfl rfl (fun c2 => ?_) (fun c2 => ?_)
    · replace hF := kf_nl c2 hF
      refine kw_aload_n (pc := 12) (i := 8) (k := 0) (n := 0) rfl rfl rfl ?_
      refine kw_get (pc := 13) (i := 9) (v := .ref 8) rfl rfl rfl lkX7_55 (fun _ => rfl) ?_
      refine kw_get (pc := 16) (i := 10) (v := .ref 28) rfl rfl rfl lkX7_334 (fun _ => rfl) ?_
      refine kw_iload_n (pc := 19) (i := 11) (k := 1) (n := 1) rfl rfl rfl ?_
      refine kw_iald (pc := 20) (i := 12) (n := 6) rfl rfl (by omega) (by omega) (fun z3 e_z3 => ?_)
      replace hF := kf_le e_z3 hF
      have t_z3 := congrArg Int32.toInt e_z3
      have r_z3 := kw_rng z3
      exact kw_ireturn (pc := 21) (i := 13) (ty := .int) rfl rfl rfl ⟨rfl, _, rfl, hF⟩
    · replace hF := kf_p c2 hF
      refine kw_iconst (pc := 10) (i := 6) (v := (-1)) rfl rfl ?_
      exact kw_ireturn (pc := 11) (i := 7) (ty := .int) rfl rfl rfl ⟨rfl, _, rfl, hF⟩
noncomputable def l_X7_digest_0_119 (S : kw_S) : Nat → Int64 → Int32 → Int64
  | 0, _, _ => 0
  | n + 1, x1, x3 => if x3.toInt < (3 : Int32).toInt then (kf_l ((31 : Int64) * x1) fun z9 => kf_l (f_X3_sizeOf_5 S x3) fun z10 => kf_l z10.toInt64 fun z11 => kf_l (z9 + z11) fun z12 => kf_l (x3 + Int32.ofInt 1) fun z13 => l_X7_digest_0_119 S n z12 z13) else (kf_l (f_X3_fold_1 S x1) fun z7 => kf_l (f_X3_fold_2 S z7) fun z8 => z8)
theorem l_X7_digest_0_119_s (S : kw_S) (n : Nat) (x1 : Int64) (x3 : Int32) : l_X7_digest_0_119 S (n + 1) x1 x3 = if x3.toInt < (3 : Int32).toInt then (kf_l ((31 : Int64) * x1) fun z9 => kf_l (f_X3_sizeOf_5 S x3) fun z10 => kf_l z10.toInt64 fun z11 => kf_l (z9 + z11) fun z12 => kf_l (x3 + Int32.ofInt 1) fun z13 => l_X7_digest_0_119 S n z12 z13) else (kf_l (f_X3_fold_1 S x1) fun z7 => kf_l (f_X3_fold_2 S z7) fun z8 => z8) := rfl
noncomputable def l_X7_digest_0_80 (k63 : Int64 → Int32 → Int64) (a3 : Int32) (S : kw_S) : Nat → Int64 → Int32 → Int64
  | 0, _, _ => 0
  | n + 1, x1, x4 => if (6 : Int32).toInt < x4.toInt then (kf_l (a3 + Int32.ofInt 1) fun z14 => k63 x1 z14) else (kf_l ((31 : Int64) * x1) fun z15 => kf_l (f_X5_trait_4 S a3 x4) fun z16 => kf_l z16.toInt64 fun z17 => kf_l (z15 + z17) fun z18 => kf_l (x4 + Int32.ofInt 1) fun z19 => l_X7_digest_0_80 k63 a3 S n z18 z19)
theorem l_X7_digest_0_80_s (k63 : Int64 → Int32 → Int64) (a3 : Int32) (S : kw_S) (n : Nat) (x1 : Int64) (x4 : Int32) : l_X7_digest_0_80 k63 a3 S (n + 1) x1 x4 = if (6 : Int32).toInt < x4.toInt then (kf_l (a3 + Int32.ofInt 1) fun z14 => k63 x1 z14) else (kf_l ((31 : Int64) * x1) fun z15 => kf_l (f_X5_trait_4 S a3 x4) fun z16 => kf_l z16.toInt64 fun z17 => kf_l (z15 + z17) fun z18 => kf_l (x4 + Int32.ofInt 1) fun z19 => l_X7_digest_0_80 k63 a3 S n z18 z19) := rfl
noncomputable def l_X7_digest_0_63 (S : kw_S) : Nat → Int64 → Int32 → Int64
  | 0, _, _ => 0
  | n + 1, x1, x3 => if x3.toInt < (S.1 17 5).toInt then (l_X7_digest_0_80 (l_X7_digest_0_63 S n) x3 S ((8 - (0 : Int32).toInt).toNat + 1) x1 (0 : Int32)) else (l_X7_digest_0_119 S ((4 - (0 : Int32).toInt).toNat + 1) x1 (0 : Int32))
theorem l_X7_digest_0_63_s (S : kw_S) (n : Nat) (x1 : Int64) (x3 : Int32) : l_X7_digest_0_63 S (n + 1) x1 x3 = if x3.toInt < (S.1 17 5).toInt then (l_X7_digest_0_80 (l_X7_digest_0_63 S n) x3 S ((8 - (0 : Int32).toInt).toNat + 1) x1 (0 : Int32)) else (l_X7_digest_0_119 S ((4 - (0 : Int32).toInt).toNat + 1) x1 (0 : Int32)) := rfl
noncomputable def l_X7_digest_0_6 (S : kw_S) : Nat → Int64 → Int32 → Int64
  | 0, _, _ => 0
  | n + 1, x1, x3 => if (9 : Int32).toInt < x3.toInt then (kf_l ((31 : Int64) * x1) fun z1 => kf_l (S.1 4 6).toInt64 fun z2 => kf_l (z1 + z2) fun z3 => kf_l ((31 : Int64) * z3) fun z4 => kf_l (S.1 4 7).toInt64 fun z5 => kf_l (z4 + z5) fun z6 => l_X7_digest_0_63 S ((7 - (0 : Int32).toInt).toNat + 1) z6 (0 : Int32)) else (kf_l ((31 : Int64) * x1) fun z20 => kf_l (f_X7_count_0 S x3) fun z21 => kf_l z21.toInt64 fun z22 => kf_l (z20 + z22) fun z23 => kf_l (x3 + Int32.ofInt 1) fun z24 => l_X7_digest_0_6 S n z23 z24)
theorem l_X7_digest_0_6_s (S : kw_S) (n : Nat) (x1 : Int64) (x3 : Int32) : l_X7_digest_0_6 S (n + 1) x1 x3 = if (9 : Int32).toInt < x3.toInt then (kf_l ((31 : Int64) * x1) fun z1 => kf_l (S.1 4 6).toInt64 fun z2 => kf_l (z1 + z2) fun z3 => kf_l ((31 : Int64) * z3) fun z4 => kf_l (S.1 4 7).toInt64 fun z5 => kf_l (z4 + z5) fun z6 => l_X7_digest_0_63 S ((7 - (0 : Int32).toInt).toNat + 1) z6 (0 : Int32)) else (kf_l ((31 : Int64) * x1) fun z20 => kf_l (f_X7_count_0 S x3) fun z21 => kf_l z21.toInt64 fun z22 => kf_l (z20 + z22) fun z23 => kf_l (x3 + Int32.ofInt 1) fun z24 => l_X7_digest_0_6 S n z23 z24) := rfl
noncomputable def f_X7_digest_0 (σ : kw_S)  : Int64 := l_X7_digest_0_6 σ ((11 - (0 : Int32).toInt).toNat + 1) (17 : Int64) (0 : Int32)
theorem f_X7_digest_0_u (σ : kw_S)  : f_X7_digest_0 σ  = l_X7_digest_0_6 σ ((11 - (0 : Int32).toInt).toNat + 1) (17 : Int64) (0 : Int32) := rfl
abbrev p_X7_digest_0 (σ : kw_S)  : Option Value → kw_S → Prop := fun vv σ' => σ' = σ ∧ ∃ r : Int64, vv = some (.long r) ∧ r = f_X7_digest_0 σ
set_option maxRecDepth 100000 in
set_option maxHeartbeats 4000000 in
theorem c_X7_digest_0 (l : Launch) (σ : kw_S) (hI : kw_I bX σ)  : kw_Met l 4 KX mX7_digest [.ref 0] σ (p_X7_digest_0 σ) := by
  have hF := (f_X7_digest_0_u σ).symm
  have q_0 : (0 : Int32).toInt = 0 := rfl
  have q_3 : (3 : Int32).toInt = 3 := rfl
  have q_6 : (6 : Int32).toInt = 6 := rfl
  have q_9 : (9 : Int32).toInt = 9 := rfl
  refine kw_Met.of (by decide) rfl tX7_digest (Nat.le_of_ble_eq_true rfl) ?_
  show kw_AW l 4 kw_E0 KX mX7_digest (p_X7_digest_0 σ) 0 [(0, .ref 0)] [] σ
  refine kw_ldc2 (pc := 0) (i := 0) (v := 17) rfl ckX7_337 ?_
  refine kw_lstore_n (pc := 3) (i := 1) (n := 1) (lv' := [(1, .long 17), (0, .ref 0)]) rfl rfl (by decide) rfl ?_
  refine kw_iconst (pc := 4) (i := 2) (v := 0) rfl rfl ?_
  refine kw_istore_n (pc := 5) (i := 3) (n := 3) (lv' := [(3, .int 0), (1, .long 17), (0, .ref 0)]) rfl rfl (by decide) rfl ?_
  have L3 : ∀ (n7 : Nat) (x1 : Int32) (x2 : Int64), 0 ≤ x1.toInt → l_X7_digest_0_6 σ n7 x2 x1 = (f_X7_digest_0 σ) → (11 - x1.toInt).toNat < n7 → kw_AW l 4 kw_E0 KX mX7_digest (p_X7_digest_0 σ) 6 [(3, .int x1), (1, .long x2), (0, .ref 0)] [] σ := by
    intro n7
    induction n7 with
    | zero => intro x1 x2 v5 hF m6; exact absurd m6 (Nat.not_lt_zero _)
    | succ n7 ih4 =>
      intro x1 x2 v5 hF m6
      replace hF := kf_st (l_X7_digest_0_6_s _ _ _ _) hF
      have r_x1 := kw_rng x1
      refine kw_iload_n (pc := 6) (i := 4) (k := 0) (n := 3) rfl rfl rfl ?_
      refine kw_bipush (pc := 7) (i := 5) (v := 9) rfl rfl ?_
      refine kw_icmp_gt (pc := 9) (i := 6) (tgt := 31) rfl rfl (fun c8 => ?_) (fun c8 => ?_)
      · replace hF := kf_p c8 hF
        refine kw_ldc2 (pc := 31) (i := 18) (v := 31) rfl ckX7_339 ?_
        refine kw_lload_n (pc := 34) (i := 19) (k := 1) (n := 1) rfl rfl rfl ?_
        refine kw_lmul (pc := 35) (i := 20) rfl (fun z9 e_z9 => ?_)
        replace hF := kf_le e_z9 hF
        refine kw_aload_n (pc := 36) (i := 21) (k := 2) (n := 0) rfl rfl rfl ?_
        refine kw_get (pc := 37) (i := 22) (v := .ref 4) rfl rfl rfl lkX7_31 (fun _ => rfl) ?_
        refine kw_get (pc := 40) (i := 23) (v := .int (σ.1 4 6)) rfl rfl rfl lkX7_204 (fun _ => rfl) ?_
        have b10 := kw_rng (σ.1 4 6)
        refine kw_i2l (pc := 43) (i := 24) rfl (fun z11 e_z11 t_z11 => ?_)
        replace hF := kf_le e_z11 hF
        refine kw_ladd (pc := 44) (i := 25) rfl (fun z12 e_z12 => ?_)
        replace hF := kf_le e_z12 hF
        refine kw_lstore_n (pc := 45) (i := 26) (n := 1) (lv' := [(1, .long z12), (3, .int x1), (0, .ref 0)]) rfl rfl (by decide) rfl ?_
        refine kw_ldc2 (pc := 46) (i := 27) (v := 31) rfl ckX7_339 ?_
        refine kw_lload_n (pc := 49) (i := 28) (k := 0) (n := 1) rfl rfl rfl ?_
        refine kw_lmul (pc := 50) (i := 29) rfl (fun z13 e_z13 => ?_)
        replace hF := kf_le e_z13 hF
        refine kw_aload_n (pc := 51) (i := 30) (k := 2) (n := 0) rfl rfl rfl ?_
        refine kw_get (pc := 52) (i := 31) (v := .ref 4) rfl rfl rfl lkX7_31 (fun _ => rfl) ?_
        refine kw_get (pc := 55) (i := 32) (v := .int (σ.1 4 7)) rfl rfl rfl lkX7_197 (fun _ => rfl) ?_
        have b14 := kw_rng (σ.1 4 7)
        refine kw_i2l (pc := 58) (i := 33) rfl (fun z15 e_z15 t_z15 => ?_)
        replace hF := kf_le e_z15 hF
        refine kw_ladd (pc := 59) (i := 34) rfl (fun z16 e_z16 => ?_)
        replace hF := kf_le e_z16 hF
        refine kw_lstore_n (pc := 60) (i := 35) (n := 1) (lv' := [(1, .long z16), (3, .int x1), (0, .ref 0)]) rfl rfl (by decide) rfl ?_
        refine kw_iconst (pc := 61) (i := 36) (v := 0) rfl rfl ?_
        refine kw_istore_n (pc := 62) (i := 37) (n := 3) (lv' := [(3, .int 0), (1, .long z16), (0, .ref 0)]) rfl rfl (by decide) rfl ?_
        have L19 : ∀ (n23 : Nat) (x17 : Int32) (x18 : Int64), 0 ≤ x17.toInt → l_X7_digest_0_63 σ n23 x18 x17 = (f_X7_digest_0 σ) → (7 - x17.toInt).toNat < n23 → kw_AW l 4 kw_E0 KX mX7_digest (p_X7_digest_0 σ) 63 [(3, .int x17), (1, .long x18), (0, .ref 0)] [] σ := by
          intro n23
          induction n23 with
          | zero => intro x17 x18 v21 hF m22; exact absurd m22 (Nat.not_lt_zero _)
          | succ n23 ih20 =>
            intro x17 x18 v21 hF m22
            replace hF := kf_st (l_X7_digest_0_63_s _ _ _ _) hF
            have r_x17 := kw_rng x17
            refine kw_iload_n (pc := 63) (i := 38) (k := 0) (n := 3) rfl rfl rfl ?_
            refine kw_aload_n (pc := 64) (i := 39) (k := 2) (n := 0) rfl rfl rfl ?_
            refine kw_get (pc := 65) (i := 40) (v := .ref 4) rfl rfl rfl lkX7_31 (fun _ => rfl) ?_
            refine kw_get (pc := 68) (i := 41) (v := .ref 17) rfl rfl rfl lkX7_117 (fun _ => rfl) ?_
            refine kw_get (pc := 71) (i := 42) (v := .int (σ.1 17 5)) rfl rfl rfl lkX7_133 (fun _ => rfl) ?_
            have b24 : 0 ≤ (σ.1 17 5).toInt ∧ (σ.1 17 5).toInt ≤ 6 := hI 17 5
            refine kw_icmp_ge (pc := 74) (i := 43) (tgt := 117) rfl rfl (fun c25 => ?_) (fun c25 => ?_)
            · replace hF := kf_nl c25 hF
              refine kw_iconst (pc := 117) (i := 64) (v := 0) rfl rfl ?_
              refine kw_istore_n (pc := 118) (i := 65) (n := 3) (lv' := [(3, .int 0), (1, .long x18), (0, .ref 0)]) rfl rfl (by decide) rfl ?_
              have L28 : ∀ (n32 : Nat) (x26 : Int32) (x27 : Int64), 0 ≤ x26.toInt → l_X7_digest_0_119 σ n32 x27 x26 = (f_X7_digest_0 σ) → (4 - x26.toInt).toNat < n32 → kw_AW l 4 kw_E0 KX mX7_digest (p_X7_digest_0 σ) 119 [(3, .int x26), (1, .long x27), (0, .ref 0)] [] σ := by
                intro n32
                induction n32 with
                | zero => intro x26 x27 v30 hF m31; exact absurd m31 (Nat.not_lt_zero _)
                | succ n32 ih29 =>
                  intro x26 x27 v30 hF m31
                  replace hF := kf_st (l_X7_digest_0_119_s _ _ _ _) hF
                  have r_x26 := kw_rng x26
                  refine kw_iload_n (pc := 119) (i := 66) (k := 0) (n := 3) rfl rfl rfl ?_
                  refine kw_iconst (pc := 120) (i := 67) (v := 3) rfl rfl ?_
                  refine kw_icmp_ge (pc := 121) (i := 68) (tgt := 146) rfl rfl (fun c33 => ?_) (fun c33 => ?_)
                  · replace hF := kf_nl c33 hF
                    refine kw_aload_n (pc := 146) (i := 81) (k := 2) (n := 0) rfl rfl rfl ?_
                    refine kw_get (pc := 147) (i := 82) (v := .ref 2) rfl rfl rfl lkX7_18 (fun _ => rfl) ?_
                    refine kw_aload_n (pc := 150) (i := 83) (k := 2) (n := 0) rfl rfl rfl ?_
                    refine kw_get (pc := 151) (i := 84) (v := .ref 1) rfl rfl rfl lkX7_14 (fun _ => rfl) ?_
                    refine kw_lload_n (pc := 154) (i := 85) (k := 1) (n := 1) rfl rfl rfl ?_
                    refine kw_callV (pc := 155) (i := 86) (Y := mX3_fold) (a := 1) (As := [.long x27]) (st := [.ref 2]) kw_hE rfl rfl lvX7_344 arX3_fold (c_X3_fold_1 l σ hI x27 ) (by decide) (Nat.le_of_ble_eq_true rfl) rfl (fun v S35 p34 => ?_)
                    obtain ⟨e38, z37, rfl, ef36⟩ := p34
                    rw [e38]
                    replace hF := kf_le ef36 hF
                    show kw_AW l 4 kw_E0 KX mX7_digest (p_X7_digest_0 σ) 158 [(3, .int x26), (1, .long x27), (0, .ref 0)] [.long z37, .ref 2] σ
                    refine kw_callV (pc := 158) (i := 87) (Y := mX3_fold) (a := 2) (As := [.long z37]) (st := []) kw_hE rfl rfl lvX7_344 arX3_fold (c_X3_fold_2 l σ hI z37 ) (by decide) (Nat.le_of_ble_eq_true rfl) rfl (fun v S40 p39 => ?_)
                    obtain ⟨e43, z42, rfl, ef41⟩ := p39
                    rw [e43]
                    replace hF := kf_le ef41 hF
                    show kw_AW l 4 kw_E0 KX mX7_digest (p_X7_digest_0 σ) 161 [(3, .int x26), (1, .long x27), (0, .ref 0)] [.long z42] σ
                    exact kw_lreturn (pc := 161) (i := 88) rfl rfl ⟨rfl, _, rfl, hF⟩
                  · replace hF := kf_p c33 hF
                    refine kw_ldc2 (pc := 124) (i := 69) (v := 31) rfl ckX7_339 ?_
                    refine kw_lload_n (pc := 127) (i := 70) (k := 1) (n := 1) rfl rfl rfl ?_
                    refine kw_lmul (pc := 128) (i := 71) rfl (fun z44 e_z44 => ?_)
                    replace hF := kf_le e_z44 hF
                    refine kw_aload_n (pc := 129) (i := 72) (k := 2) (n := 0) rfl rfl rfl ?_
                    refine kw_get (pc := 130) (i := 73) (v := .ref 5) rfl rfl rfl lkX7_35 (fun _ => rfl) ?_
                    refine kw_iload_n (pc := 133) (i := 74) (k := 0) (n := 3) rfl rfl rfl ?_
                    refine kw_callV (pc := 134) (i := 75) (Y := mX3_sizeOf) (a := 5) (As := [.int x26]) (st := [.long z44]) kw_hE rfl rfl lvX7_110 arX3_sizeOf (c_X3_sizeOf_5 l σ hI x26 ) (by decide) (Nat.le_of_ble_eq_true rfl) rfl (fun v S46 p45 => ?_)
                    obtain ⟨e53, z52, rfl, f47, f48, f49, f50, ef51⟩ := p45
                    rw [e53]
                    replace hF := kf_le ef51 hF
                    have r_z52 := kw_rng z52
                    show kw_AW l 4 kw_E0 KX mX7_digest (p_X7_digest_0 σ) 137 [(3, .int x26), (1, .long x27), (0, .ref 0)] [.int z52, .long z44] σ
                    refine kw_i2l (pc := 137) (i := 76) rfl (fun z54 e_z54 t_z54 => ?_)
                    replace hF := kf_le e_z54 hF
                    refine kw_ladd (pc := 138) (i := 77) rfl (fun z55 e_z55 => ?_)
                    replace hF := kf_le e_z55 hF
                    refine kw_lstore_n (pc := 139) (i := 78) (n := 1) (lv' := [(1, .long z55), (3, .int x26), (0, .ref 0)]) rfl rfl (by decide) rfl ?_
                    refine kw_iinc' (pc := 140) (i := 79) (k := 1) (fun z => [(3, .int z), (1, .long z55), (0, .ref 0)]) rfl rfl (by decide) rfl (fun _ => rfl) (fun z56 e_z56 t_z56 => ?_)
                    replace hF := kf_le e_z56 hF
                    refine kw_goto (pc := 143) (i := 80) (tgt := 119) rfl rfl ?_
                    refine kw_sub (lv' := [(3, .int z56), (1, .long z55), (0, .ref 0)]) [0, 1, 2] rfl ?_
                    exact ih29 z56 z55 (by omega) hF (by omega)
              exact L28 _ 0 x18 (by omega) hF (Nat.lt_succ_self _)
            · replace hF := kf_p c25 hF
              refine kw_iconst (pc := 77) (i := 44) (v := 0) rfl rfl ?_
              refine kw_istore (pc := 78) (i := 45) (n := 4) (lv' := [(4, .int 0), (3, .int x17), (1, .long x18), (0, .ref 0)]) rfl (by decide) rfl ?_
              have L59 : ∀ (n63 : Nat) (x57 : Int32) (x58 : Int64), 0 ≤ x57.toInt → l_X7_digest_0_80 (l_X7_digest_0_63 σ n23) x17 σ n63 x58 x57 = (f_X7_digest_0 σ) → (8 - x57.toInt).toNat < n63 → kw_AW l 4 kw_E0 KX mX7_digest (p_X7_digest_0 σ) 80 [(4, .int x57), (3, .int x17), (1, .long x58), (0, .ref 0)] [] σ := by
                intro n63
                induction n63 with
                | zero => intro x57 x58 v61 hF m62; exact absurd m62 (Nat.not_lt_zero _)
                | succ n63 ih60 =>
                  intro x57 x58 v61 hF m62
                  replace hF := kf_st (l_X7_digest_0_80_s _ _ _ _ _ _) hF
                  have r_x57 := kw_rng x57
                  refine kw_iload (pc := 80) (i := 46) (k := 0) (n := 4) rfl rfl ?_
                  refine kw_bipush (pc := 82) (i := 47) (v := 6) rfl rfl ?_
                  refine kw_icmp_gt (pc := 84) (i := 48) (tgt := 111) rfl rfl (fun c64 => ?_) (fun c64 => ?_)
                  · replace hF := kf_p c64 hF
                    refine kw_iinc' (pc := 111) (i := 62) (k := 1) (fun z => [(3, .int z), (4, .int x57), (1, .long x58), (0, .ref 0)]) rfl rfl (by decide) rfl (fun _ => rfl) (fun z65 e_z65 t_z65 => ?_)
                    replace hF := kf_le e_z65 hF
                    refine kw_goto (pc := 114) (i := 63) (tgt := 63) rfl rfl ?_
                    refine kw_sub (lv' := [(3, .int z65), (1, .long x58), (0, .ref 0)]) [0, 2, 3] rfl ?_
                    exact ih20 z65 x58 (by omega) hF (by omega)
                  · replace hF := kf_nl c64 hF
                    refine kw_ldc2 (pc := 87) (i := 49) (v := 31) rfl ckX7_339 ?_
                    refine kw_lload_n (pc := 90) (i := 50) (k := 2) (n := 1) rfl rfl rfl ?_
                    refine kw_lmul (pc := 91) (i := 51) rfl (fun z66 e_z66 => ?_)
                    replace hF := kf_le e_z66 hF
                    refine kw_aload_n (pc := 92) (i := 52) (k := 3) (n := 0) rfl rfl rfl ?_
                    refine kw_get (pc := 93) (i := 53) (v := .ref 4) rfl rfl rfl lkX7_31 (fun _ => rfl) ?_
                    refine kw_iload_n (pc := 96) (i := 54) (k := 1) (n := 3) rfl rfl rfl ?_
                    refine kw_iload (pc := 97) (i := 55) (k := 0) (n := 4) rfl rfl ?_
                    refine kw_callV (pc := 99) (i := 56) (Y := mX5_trait) (a := 4) (As := [.int x17, .int x57]) (st := [.long z66]) kw_hE rfl rfl lvX7_140 arX5_trait (c_X5_trait_4 l σ hI x17 x57 ) (by decide) (Nat.le_of_ble_eq_true rfl) rfl (fun v S68 p67 => ?_)
                    obtain ⟨e71, z70, rfl, ef69⟩ := p67
                    rw [e71]
                    replace hF := kf_le ef69 hF
                    have r_z70 := kw_rng z70
                    show kw_AW l 4 kw_E0 KX mX7_digest (p_X7_digest_0 σ) 102 [(4, .int x57), (3, .int x17), (1, .long x58), (0, .ref 0)] [.int z70, .long z66] σ
                    refine kw_i2l (pc := 102) (i := 57) rfl (fun z72 e_z72 t_z72 => ?_)
                    replace hF := kf_le e_z72 hF
                    refine kw_ladd (pc := 103) (i := 58) rfl (fun z73 e_z73 => ?_)
                    replace hF := kf_le e_z73 hF
                    refine kw_lstore_n (pc := 104) (i := 59) (n := 1) (lv' := [(1, .long z73), (4, .int x57), (3, .int x17), (0, .ref 0)]) rfl rfl (by decide) rfl ?_
                    refine kw_iinc' (pc := 105) (i := 60) (k := 1) (fun z => [(4, .int z), (1, .long z73), (3, .int x17), (0, .ref 0)]) rfl rfl (by decide) rfl (fun _ => rfl) (fun z74 e_z74 t_z74 => ?_)
                    replace hF := kf_le e_z74 hF
                    refine kw_goto (pc := 108) (i := 61) (tgt := 80) rfl rfl ?_
                    refine kw_sub (lv' := [(4, .int z74), (3, .int x17), (1, .long z73), (0, .ref 0)]) [0, 2, 1, 3] rfl ?_
                    exact ih60 z74 z73 (by omega) hF (by omega)
              exact L59 _ 0 x18 (by omega) hF (Nat.lt_succ_self _)
        exact L19 _ 0 z16 (by omega) hF (Nat.lt_succ_self _)
      · replace hF := kf_nl c8 hF
        refine kw_ldc2 (pc := 12) (i := 7) (v := 31) rfl ckX7_339 ?_
        refine kw_lload_n (pc := 15) (i := 8) (k := 1) (n := 1) rfl rfl rfl ?_
        refine kw_lmul (pc := 16) (i := 9) rfl (fun z75 e_z75 => ?_)
        replace hF := kf_le e_z75 hF
        refine kw_aload_n (pc := 17) (i := 10) (k := 2) (n := 0) rfl rfl rfl ?_
        refine kw_iload_n (pc := 18) (i := 11) (k := 0) (n := 3) rfl rfl rfl ?_
        refine kw_callV (pc := 19) (i := 12) (Y := mX7_count) (a := 0) (As := [.int x1]) (st := [.long z75]) kw_hE rfl rfl lvX7_341 arX7_count (c_X7_count_0 l σ hI x1 ) (by decide) (Nat.le_of_ble_eq_true rfl) rfl (fun v S77 p76 => ?_)
        obtain ⟨e80, z79, rfl, ef78⟩ := p76
        rw [e80]
        replace hF := kf_le ef78 hF
        have r_z79 := kw_rng z79
        show kw_AW l 4 kw_E0 KX mX7_digest (p_X7_digest_0 σ) 22 [(3, .int x1), (1, .long x2), (0, .ref 0)] [.int z79, .long z75] σ
        refine kw_i2l (pc := 22) (i := 13) rfl (fun z81 e_z81 t_z81 => ?_)
        replace hF := kf_le e_z81 hF
        refine kw_ladd (pc := 23) (i := 14) rfl (fun z82 e_z82 => ?_)
        replace hF := kf_le e_z82 hF
        refine kw_lstore_n (pc := 24) (i := 15) (n := 1) (lv' := [(1, .long z82), (3, .int x1), (0, .ref 0)]) rfl rfl (by decide) rfl ?_
        refine kw_iinc' (pc := 25) (i := 16) (k := 1) (fun z => [(3, .int z), (1, .long z82), (0, .ref 0)]) rfl rfl (by decide) rfl (fun _ => rfl) (fun z83 e_z83 t_z83 => ?_)
        replace hF := kf_le e_z83 hF
        refine kw_goto (pc := 28) (i := 17) (tgt := 6) rfl rfl ?_
        refine kw_sub (lv' := [(3, .int z83), (1, .long z82), (0, .ref 0)]) [0, 1, 2] rfl ?_
        exact ih4 z83 z82 (by omega) hF (by omega)
  exact L3 _ 0 17 (by omega) hF (Nat.lt_succ_self _)
