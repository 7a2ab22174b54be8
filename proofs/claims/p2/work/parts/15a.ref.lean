abbrev p_X8_in (T : Int) (σ : kw_S) (v : Int32) (lo : Int32) (hi : Int32) : Option Value → kw_S → Prop := fun vv σ' => σ' = σ ∧ ∃ r : Int32, vv = some (.int r) ∧ (r.toInt = 0 ∨ r.toInt = 1) ∧ (r.toInt = 0 ∨ lo.toInt ≤ v.toInt ∧ v.toInt ≤ hi.toInt) ∧ (r.toInt = 1 ∨ v.toInt < lo.toInt ∨ hi.toInt < v.toInt)
set_option maxRecDepth 100000 in
set_option maxHeartbeats 4000000 in
theorem c_X8_in (l : Launch) (T : Int) (hT0 : 0 ≤ T) (hT1 : T ≤ 3000) (σ : kw_S) (hI : kw_I (bM T) σ) (v : Int32) (lo : Int32) (hi : Int32) : kw_Met l 1 KM mX8_in [.int v, .int lo, .int hi] σ (p_X8_in T σ v lo hi) := by
  have r_v := kw_rng v
  have r_lo := kw_rng lo
  have r_hi := kw_rng hi
  have q_0 : (0 : Int32).toInt = 0 := rfl
  have q_1 : (1 : Int32).toInt = 1 := rfl
  refine kw_Met.of (by decide) rfl tX8_in (Nat.le_of_ble_eq_true rfl) ?_
  show kw_AW l 1 kw_E0 KM mX8_in (p_X8_in T σ v lo hi) 0 [(0, .int v), (1, .int lo), (2, .int hi)] [] σ
  refine kw_iload_n (pc := 0) (i := 0) (k := 0) (n := 0) rfl rfl rfl ?_
  refine kw_iload_n (pc := 1) (i := 1) (k := 1) (n := 1) rfl rfl rfl ?_
  refine kw_icmp_lt (pc := 2) (i := 2) (tgt := 14) rfl rfl (fun c1 => ?_) (fun c1 => ?_)
  · refine kw_iconst (pc := 14) (i := 8) (v := 0) rfl rfl ?_
    exact kw_ireturn (pc := 15) (i := 9) (ty := .boolean) rfl rfl rfl ⟨rfl, _, rfl, ⟨by omega, by omega, by omega⟩⟩
  · refine kw_iload_n (pc := 5) (i := 3) (k := 0) (n := 0) rfl rfl rfl ?_
    refine kw_iload_n (pc := 6) (i := 4) (k := 2) (n := 2) rfl rfl rfl ?_
    refine kw_icmp_gt (pc := 7) (i := 5) (tgt := 14) rfl rfl (fun c2 => ?_) (fun c2 => ?_)
    · refine kw_iconst (pc := 14) (i := 8) (v := 0) rfl rfl ?_
      exact kw_ireturn (pc := 15) (i := 9) (ty := .boolean) rfl rfl rfl ⟨rfl, _, rfl, ⟨by omega, by omega, by omega⟩⟩
    · refine kw_iconst (pc := 10) (i := 6) (v := 1) rfl rfl ?_
      refine kw_goto (pc := 11) (i := 7) (tgt := 15) rfl rfl ?_
      exact kw_ireturn (pc := 15) (i := 9) (ty := .boolean) rfl rfl rfl ⟨rfl, _, rfl, ⟨by omega, by omega, by omega⟩⟩
abbrev p_X8_meet_0 (T : Int) (σ : kw_S) (w : Int32) : Option Value → kw_S → Prop := fun vv σ' => (kw_I (bM T) σ' ∧ kw_F [0, 1] σ σ') ∧ ∃ r : Int32, vv = some (.int r) ∧ r.toInt = -3
set_option maxRecDepth 100000 in
set_option maxHeartbeats 4000000 in
theorem c_X8_meet_0 (l : Launch) (T : Int) (hT0 : 0 ≤ T) (hT1 : T ≤ 3000) (σ : kw_S) (hI : kw_I (bM T) σ) (w : Int32) (hp0 : 0 ≤ w.toInt) (hp1 : w.toInt ≤ 5) : kw_Met l 1 KM mX8_meet [.ref 0, .int w] σ (p_X8_meet_0 T σ w) := by
  have r_w := kw_rng w
  have hF0 : kw_F [0, 1] σ σ := kw_F.rf
  have q_m3 : (-3 : Int32).toInt = -3 := rfl
  have q_1 : (1 : Int32).toInt = 1 := rfl
  refine kw_Met.of (by decide) rfl tX8_meet (Nat.le_of_ble_eq_true rfl) ?_
  show kw_AW l 1 kw_E0 KM mX8_meet (p_X8_meet_0 T σ w) 0 [(0, .ref 0), (1, .int w)] [] σ
  refine kw_aload_n (pc := 0) (i := 0) (k := 0) (n := 0) rfl rfl rfl ?_
  refine kw_iload_n (pc := 1) (i := 1) (k := 1) (n := 1) rfl rfl rfl ?_
  refine kw_puti (pc := 2) (i := 2) (z := 0) rfl rfl rfl lpX8_84 rfl rfl ?_
  have I1 : kw_I (bM T) (kw_ui σ 0 0 w) := kw_I_ui hI (kw_rng w).1 (Int.le_of_lt_add_one (kw_rng w).2)
  have F2 : kw_F [0, 1] σ (kw_ui σ 0 0 w) := kw_F_ui hF0 (by decide)
  refine kw_aload_n (pc := 5) (i := 3) (k := 0) (n := 0) rfl rfl rfl ?_
  refine kw_get (pc := 6) (i := 4) (v := .ref 1) rfl rfl rfl lkX8_7 (fun _ => rfl) ?_
  refine kw_iload_n (pc := 9) (i := 5) (k := 1) (n := 1) rfl rfl rfl ?_
  refine kw_dup2 (pc := 10) (i := 6) rfl rfl rfl ?_
  refine kw_iald (pc := 11) (i := 7) (n := 6) rfl rfl (by omega) (by omega) (fun z3 e_z3 => ?_)
  have t_z3 := congrArg Int32.toInt e_z3
  have r_z3 := kw_rng z3
  refine kw_iconst (pc := 12) (i := 8) (v := 1) rfl rfl ?_
  refine kw_iadd (pc := 13) (i := 9) rfl (fun z4 e_z4 t_z4 => ?_)
  first | (have u_z4 : z4.toInt = z3.toInt + 1 := (by omega); clear t_z4) | skip
  refine kw_iast (pc := 14) (i := 10) (n := 6) rfl rfl (by omega) (by omega) ?_
  have I5 : kw_I (bM T) (kw_ui (kw_ui σ 0 0 w) 1 w.toNatClampNeg z4) := kw_I_ui I1 (kw_rng z4).1 (Int.le_of_lt_add_one (kw_rng z4).2)
  have F6 : kw_F [0, 1] σ (kw_ui (kw_ui σ 0 0 w) 1 w.toNatClampNeg z4) := kw_F_ui F2 (by decide)
  refine kw_bipush (pc := 15) (i := 11) (v := (-3)) rfl rfl ?_
  exact kw_ireturn (pc := 17) (i := 12) (ty := .int) rfl rfl rfl ⟨⟨I5, F6⟩, _, rfl, by omega⟩
abbrev p_X8_ask_0 (T : Int) (σ : kw_S) (v : Int32) (w : Int32) : Option Value → kw_S → Prop := fun vv σ' => (kw_I (bM T) σ' ∧ kw_F [0] σ σ') ∧ ∃ r : Int32, vv = some (.int r) ∧ r.toInt = w.toInt
set_option maxRecDepth 100000 in
set_option maxHeartbeats 4000000 in
theorem c_X8_ask_0 (l : Launch) (T : Int) (hT0 : 0 ≤ T) (hT1 : T ≤ 3000) (σ : kw_S) (hI : kw_I (bM T) σ) (v : Int32) (w : Int32) : kw_Met l 1 KM mX8_ask [.ref 0, .int v, .int w] σ (p_X8_ask_0 T σ v w) := by
  have r_v := kw_rng v
  have r_w := kw_rng w
  have hF0 : kw_F [0] σ σ := kw_F.rf
  refine kw_Met.of (by decide) rfl tX8_ask (Nat.le_of_ble_eq_true rfl) ?_
  show kw_AW l 1 kw_E0 KM mX8_ask (p_X8_ask_0 T σ v w) 0 [(0, .ref 0), (1, .int v), (2, .int w)] [] σ
  refine kw_aload_n (pc := 0) (i := 0) (k := 0) (n := 0) rfl rfl rfl ?_
  refine kw_iload_n (pc := 1) (i := 1) (k := 1) (n := 1) rfl rfl rfl ?_
  refine kw_puti (pc := 2) (i := 2) (z := 0) rfl rfl rfl lpX8_87 rfl rfl ?_
  have I1 : kw_I (bM T) (kw_ui σ 0 2 v) := kw_I_ui hI (kw_rng v).1 (Int.le_of_lt_add_one (kw_rng v).2)
  have F2 : kw_F [0] σ (kw_ui σ 0 2 v) := kw_F_ui hF0 (by decide)
  refine kw_iload_n (pc := 5) (i := 3) (k := 2) (n := 2) rfl rfl rfl ?_
  exact kw_ireturn (pc := 6) (i := 4) (ty := .int) rfl rfl rfl ⟨⟨I1, F2⟩, _, rfl, by omega⟩
abbrev p_X8_has (T : Int) (σ : kw_S) (s : Int32) (k : Int32) : Option Value → kw_S → Prop := fun vv σ' => σ' = σ ∧ ∃ r : Int32, vv = some (.int r) ∧ (r.toInt = 0 ∨ r.toInt = 1)
set_option maxRecDepth 100000 in
set_option maxHeartbeats 4000000 in
theorem c_X8_has (l : Launch) (T : Int) (hT0 : 0 ≤ T) (hT1 : T ≤ 3000) (σ : kw_S) (hI : kw_I (bM T) σ) (s : Int32) (k : Int32) : kw_Met l 1 KM mX8_has [.int s, .int k] σ (p_X8_has T σ s k) := by
  have r_s := kw_rng s
  have r_k := kw_rng k
  have q_0 : (0 : Int32).toInt = 0 := rfl
  have q_1 : (1 : Int32).toInt = 1 := rfl
  refine kw_Met.of (by decide) rfl tX8_has (Nat.le_of_ble_eq_true rfl) ?_
  show kw_AW l 1 kw_E0 KM mX8_has (p_X8_has T σ s k) 0 [(0, .int s), (1, .int k)] [] σ
  refine kw_iload_n (pc := 0) (i := 0) (k := 0) (n := 0) rfl rfl rfl ?_
  refine kw_iload_n (pc := 1) (i := 1) (k := 1) (n := 1) rfl rfl rfl ?_
  refine kw_ishr (pc := 2) (i := 2) rfl (fun z1 e_z1 => ?_)
  have r_z1 := kw_rng z1
  refine kw_iconst (pc := 3) (i := 3) (v := 1) rfl rfl ?_
  refine kw_iand (pc := 4) (i := 4) rfl (fun z2 e_z2 => ?_)
  have r_z2 := kw_rng z2
  have t_z2 := kw_andI z1 (1 : Int32) z2 e_z2
  refine kw_iconst (pc := 5) (i := 5) (v := 1) rfl rfl ?_
  refine kw_icmp_ne (pc := 6) (i := 6) (tgt := 13) rfl rfl (fun c3 => ?_) (fun c3 => ?_)
  · refine kw_iconst (pc := 13) (i := 9) (v := 0) rfl rfl ?_
    exact kw_ireturn (pc := 14) (i := 10) (ty := .boolean) rfl rfl rfl ⟨rfl, _, rfl, by omega⟩
  · refine kw_iconst (pc := 9) (i := 7) (v := 1) rfl rfl ?_
    refine kw_goto (pc := 10) (i := 8) (tgt := 14) rfl rfl ?_
    exact kw_ireturn (pc := 14) (i := 10) (ty := .boolean) rfl rfl rfl ⟨rfl, _, rfl, by omega⟩
abbrev p_X8_greater (T : Int) (σ : kw_S) (x : Int32) (y : Int32) : Option Value → kw_S → Prop := fun vv σ' => σ' = σ ∧ ∃ r : Int32, vv = some (.int r)
set_option maxRecDepth 100000 in
set_option maxHeartbeats 4000000 in
theorem c_X8_greater (l : Launch) (T : Int) (hT0 : 0 ≤ T) (hT1 : T ≤ 3000) (σ : kw_S) (hI : kw_I (bM T) σ) (x : Int32) (y : Int32) : kw_Met l 1 KM mX8_greater [.int x, .int y] σ (p_X8_greater T σ x y) := by
  have r_x := kw_rng x
  have r_y := kw_rng y
  refine kw_Met.of (by decide) rfl tX8_greater (Nat.le_of_ble_eq_true rfl) ?_
  show kw_AW l 1 kw_E0 KM mX8_greater (p_X8_greater T σ x y) 0 [(0, .int x), (1, .int y)] [] σ
  refine kw_iload_n (pc := 0) (i := 0) (k := 0) (n := 0) rfl rfl rfl ?_
  refine kw_iload_n (pc := 1) (i := 1) (k := 1) (n := 1) rfl rfl rfl ?_
  refine kw_icmp_le (pc := 2) (i := 2) (tgt := 9) rfl rfl (fun c1 => ?_) (fun c1 => ?_)
  · refine kw_iload_n (pc := 9) (i := 5) (k := 1) (n := 1) rfl rfl rfl ?_
    exact kw_ireturn (pc := 10) (i := 6) (ty := .int) rfl rfl rfl ⟨rfl, _, rfl⟩
  · refine kw_iload_n (pc := 5) (i := 3) (k := 0) (n := 0) rfl rfl rfl ?_
    refine kw_goto (pc := 6) (i := 4) (tgt := 10) rfl rfl ?_
    exact kw_ireturn (pc := 10) (i := 6) (ty := .int) rfl rfl rfl ⟨rfl, _, rfl⟩
abbrev p_X8_part_0 (T : Int) (σ : kw_S) (up : Int64) (low : Int64) : Option Value → kw_S → Prop := fun vv σ' => (kw_I (bM T) σ' ∧ kw_F [0] σ σ') ∧ ∃ r : Int32, vv = some (.int r) ∧ r.toInt = 1
set_option maxRecDepth 100000 in
set_option maxHeartbeats 4000000 in
theorem c_X8_part_0 (l : Launch) (T : Int) (hT0 : 0 ≤ T) (hT1 : T ≤ 3000) (σ : kw_S) (hI : kw_I (bM T) σ) (up : Int64) (low : Int64) (hp0 : 0 < low.toInt) : kw_Met l 1 KM mX8_part [.ref 0, .long up, .long low] σ (p_X8_part_0 T σ up low) := by
  have hF0 : kw_F [0] σ σ := kw_F.rf
  have q_1 : (1 : Int32).toInt = 1 := rfl
  refine kw_Met.of (by decide) rfl tX8_part (Nat.le_of_ble_eq_true rfl) ?_
  show kw_AW l 1 kw_E0 KM mX8_part (p_X8_part_0 T σ up low) 0 [(0, .ref 0), (1, .long up), (3, .long low)] [] σ
  refine kw_lload_n (pc := 0) (i := 0) (k := 1) (n := 1) rfl rfl rfl ?_
  refine kw_lconst (pc := 1) (i := 1) (v := 0) rfl rfl ?_
  refine kw_lcmp (pc := 2) (i := 2) rfl (fun z1 e_z1 t_z1 => ?_)
  have lq2 : (0 : Int64).toInt = 0 := rfl
  refine kw_if_ge (pc := 3) (i := 3) (tgt := 11) rfl rfl (fun c3 => ?_) (fun c3 => ?_)
  · refine kw_lload_n (pc := 11) (i := 7) (k := 1) (n := 1) rfl rfl rfl ?_
    refine kw_lstore (pc := 12) (i := 8) (n := 5) (lv' := [(5, .long up), (0, .ref 0), (1, .long up), (3, .long low)]) rfl (by decide) rfl ?_
    refine kw_lload_n (pc := 14) (i := 9) (k := 3) (n := 3) rfl rfl rfl ?_
    refine kw_lstore (pc := 15) (i := 10) (n := 7) (lv' := [(7, .long low), (5, .long up), (0, .ref 0), (1, .long up), (3, .long low)]) rfl (by decide) rfl ?_
    have L6 : ∀ (n10 : Nat) (x4 : Int64) (x5 : Int64), (x5.toInt ≠ 0 ∨ x4.toInt ≠ 0) → ((if 0 ≤ x4.toInt then x4.toInt else -x4.toInt)).toNat < n10 → kw_AW l 1 kw_E0 KM mX8_part (p_X8_part_0 T σ up low) 17 [(7, .long x4), (5, .long x5), (0, .ref 0), (1, .long up), (3, .long low)] [] σ := by
      intro n10
      induction n10 with
      | zero => intro x4 x5 v8 m9; exact absurd m9 (Nat.not_lt_zero _)
      | succ n10 ih7 =>
        intro x4 x5 v8 m9
        refine kw_lload (pc := 17) (i := 11) (k := 0) (n := 7) rfl rfl ?_
        refine kw_lconst (pc := 19) (i := 12) (v := 0) rfl rfl ?_
        refine kw_lcmp (pc := 20) (i := 13) rfl (fun z11 e_z11 t_z11 => ?_)
        have lq12 : (0 : Int64).toInt = 0 := rfl
        refine kw_if_eq (pc := 21) (i := 14) (tgt := 42) rfl rfl (fun c13 => ?_) (fun c13 => ?_)
        · refine kw_aload_n (pc := 42) (i := 24) (k := 2) (n := 0) rfl rfl rfl ?_
          refine kw_lload_n (pc := 43) (i := 25) (k := 3) (n := 1) rfl rfl rfl ?_
          refine kw_lload (pc := 44) (i := 26) (k := 1) (n := 5) rfl rfl ?_
          refine kw_ldiv (pc := 46) (i := 27) rfl (by omega) (fun z14 e_z14 => ?_)
          refine kw_putl (pc := 47) (i := 28) (z := 0) rfl rfl rfl lpX8_90 ?_
          have I15 : kw_I (bM T) (kw_ul σ 0 3 z14) := kw_I_ul hI _ _ _
          have F16 : kw_F [0] σ (kw_ul σ 0 3 z14) := kw_F_ul hF0 _ _ _
          refine kw_aload_n (pc := 50) (i := 29) (k := 2) (n := 0) rfl rfl rfl ?_
          refine kw_lload_n (pc := 51) (i := 30) (k := 4) (n := 3) rfl rfl rfl ?_
          refine kw_lload (pc := 52) (i := 31) (k := 1) (n := 5) rfl rfl ?_
          refine kw_ldiv (pc := 54) (i := 32) rfl (by omega) (fun z17 e_z17 => ?_)
          refine kw_putl (pc := 55) (i := 33) (z := 0) rfl rfl rfl lpX8_13 ?_
          have I18 : kw_I (bM T) (kw_ul (kw_ul σ 0 3 z14) 0 4 z17) := kw_I_ul I15 _ _ _
          have F19 : kw_F [0] σ (kw_ul (kw_ul σ 0 3 z14) 0 4 z17) := kw_F_ul F16 _ _ _
          refine kw_iconst (pc := 58) (i := 34) (v := 1) rfl rfl ?_
          exact kw_ireturn (pc := 59) (i := 35) (ty := .int) rfl rfl rfl ⟨⟨I18, F19⟩, _, rfl, by omega⟩
        · refine kw_lload (pc := 24) (i := 15) (k := 1) (n := 5) rfl rfl ?_
          refine kw_lload (pc := 26) (i := 16) (k := 0) (n := 7) rfl rfl ?_
          refine kw_lrem (pc := 28) (i := 17) rfl (by omega) (fun z20 e_z20 => ?_)
          have t_z20 := kw_lremI x5 x4 z20 e_z20
          refine kw_lstore (pc := 29) (i := 18) (n := 9) (lv' := [(9, .long z20), (7, .long x4), (5, .long x5), (0, .ref 0), (1, .long up), (3, .long low)]) rfl (by decide) rfl ?_
          refine kw_lload (pc := 31) (i := 19) (k := 1) (n := 7) rfl rfl ?_
          refine kw_lstore (pc := 33) (i := 20) (n := 5) (lv' := [(5, .long x4), (9, .long z20), (7, .long x4), (0, .ref 0), (1, .long up), (3, .long low)]) rfl (by decide) rfl ?_
          refine kw_lload (pc := 35) (i := 21) (k := 1) (n := 9) rfl rfl ?_
          refine kw_lstore (pc := 37) (i := 22) (n := 7) (lv' := [(7, .long z20), (5, .long x4), (9, .long z20), (0, .ref 0), (1, .long up), (3, .long low)]) rfl (by decide) rfl ?_
          refine kw_goto (pc := 39) (i := 23) (tgt := 17) rfl rfl ?_
          refine kw_sub (lv' := [(7, .long z20), (5, .long x4), (0, .ref 0), (1, .long up), (3, .long low)]) [0, 1, 3, 4, 5] rfl ?_
          exact ih7 z20 x4 (by omega) (by omega)
    exact L6 _ low up (by omega) (Nat.lt_succ_self _)
  · refine kw_lload_n (pc := 6) (i := 4) (k := 1) (n := 1) rfl rfl rfl ?_
    refine kw_lneg (pc := 7) (i := 5) rfl (fun z21 e_z21 => ?_)
    refine kw_goto (pc := 8) (i := 6) (tgt := 12) rfl rfl ?_
    refine kw_lstore (pc := 12) (i := 8) (n := 5) (lv' := [(5, .long z21), (0, .ref 0), (1, .long up), (3, .long low)]) rfl (by decide) rfl ?_
    refine kw_lload_n (pc := 14) (i := 9) (k := 3) (n := 3) rfl rfl rfl ?_
    refine kw_lstore (pc := 15) (i := 10) (n := 7) (lv' := [(7, .long low), (5, .long z21), (0, .ref 0), (1, .long up), (3, .long low)]) rfl (by decide) rfl ?_
    have L24 : ∀ (n28 : Nat) (x22 : Int64) (x23 : Int64), (x23.toInt ≠ 0 ∨ x22.toInt ≠ 0) → ((if 0 ≤ x22.toInt then x22.toInt else -x22.toInt)).toNat < n28 → kw_AW l 1 kw_E0 KM mX8_part (p_X8_part_0 T σ up low) 17 [(7, .long x22), (5, .long x23), (0, .ref 0), (1, .long up), (3, .long low)] [] σ := by
      intro n28
      induction n28 with
      | zero => intro x22 x23 v26 m27; exact absurd m27 (Nat.not_lt_zero _)
      | succ n28 ih25 =>
        intro x22 x23 v26 m27
        refine kw_lload (pc := 17) (i := 11) (k := 0) (n := 7) rfl rfl ?_
        refine kw_lconst (pc := 19) (i := 12) (v := 0) rfl rfl ?_
        refine kw_lcmp (pc := 20) (i := 13) rfl (fun z29 e_z29 t_z29 => ?_)
        have lq30 : (0 : Int64).toInt = 0 := rfl
        refine kw_if_eq (pc := 21) (i := 14) (tgt := 42) rfl rfl (fun c31 => ?_) (fun c31 => ?_)
        · refine kw_aload_n (pc := 42) (i := 24) (k := 2) (n := 0) rfl rfl rfl ?_
          refine kw_lload_n (pc := 43) (i := 25) (k := 3) (n := 1) rfl rfl rfl ?_
          refine kw_lload (pc := 44) (i := 26) (k := 1) (n := 5) rfl rfl ?_
          refine kw_ldiv (pc := 46) (i := 27) rfl (by omega) (fun z32 e_z32 => ?_)
          refine kw_putl (pc := 47) (i := 28) (z := 0) rfl rfl rfl lpX8_90 ?_
          have I33 : kw_I (bM T) (kw_ul σ 0 3 z32) := kw_I_ul hI _ _ _
          have F34 : kw_F [0] σ (kw_ul σ 0 3 z32) := kw_F_ul hF0 _ _ _
          refine kw_aload_n (pc := 50) (i := 29) (k := 2) (n := 0) rfl rfl rfl ?_
          refine kw_lload_n (pc := 51) (i := 30) (k := 4) (n := 3) rfl rfl rfl ?_
          refine kw_lload (pc := 52) (i := 31) (k := 1) (n := 5) rfl rfl ?_
          refine kw_ldiv (pc := 54) (i := 32) rfl (by omega) (fun z35 e_z35 => ?_)
          refine kw_putl (pc := 55) (i := 33) (z := 0) rfl rfl rfl lpX8_13 ?_
          have I36 : kw_I (bM T) (kw_ul (kw_ul σ 0 3 z32) 0 4 z35) := kw_I_ul I33 _ _ _
          have F37 : kw_F [0] σ (kw_ul (kw_ul σ 0 3 z32) 0 4 z35) := kw_F_ul F34 _ _ _
          refine kw_iconst (pc := 58) (i := 34) (v := 1) rfl rfl ?_
          exact kw_ireturn (pc := 59) (i := 35) (ty := .int) rfl rfl rfl ⟨⟨I36, F37⟩, _, rfl, by omega⟩
        · refine kw_lload (pc := 24) (i := 15) (k := 1) (n := 5) rfl rfl ?_
          refine kw_lload (pc := 26) (i := 16) (k := 0) (n := 7) rfl rfl ?_
          refine kw_lrem (pc := 28) (i := 17) rfl (by omega) (fun z38 e_z38 => ?_)
          have t_z38 := kw_lremI x23 x22 z38 e_z38
          refine kw_lstore (pc := 29) (i := 18) (n := 9) (lv' := [(9, .long z38), (7, .long x22), (5, .long x23), (0, .ref 0), (1, .long up), (3, .long low)]) rfl (by decide) rfl ?_
          refine kw_lload (pc := 31) (i := 19) (k := 1) (n := 7) rfl rfl ?_
          refine kw_lstore (pc := 33) (i := 20) (n := 5) (lv' := [(5, .long x22), (9, .long z38), (7, .long x22), (0, .ref 0), (1, .long up), (3, .long low)]) rfl (by decide) rfl ?_
          refine kw_lload (pc := 35) (i := 21) (k := 1) (n := 9) rfl rfl ?_
          refine kw_lstore (pc := 37) (i := 22) (n := 7) (lv' := [(7, .long z38), (5, .long x22), (9, .long z38), (0, .ref 0), (1, .long up), (3, .long low)]) rfl (by decide) rfl ?_
          refine kw_goto (pc := 39) (i := 23) (tgt := 17) rfl rfl ?_
          refine kw_sub (lv' := [(7, .long z38), (5, .long x22), (0, .ref 0), (1, .long up), (3, .long low)]) [0, 1, 3, 4, 5] rfl ?_
          exact ih25 z38 x22 (by omega) (by omega)
    exact L24 _ low z21 (by omega) (Nat.lt_succ_self _)
abbrev p_X8_isRow (T : Int) (σ : kw_S) (a : Int32) : Option Value → kw_S → Prop := fun vv σ' => σ' = σ ∧ ∃ r : Int32, vv = some (.int r) ∧ (r.toInt = 0 ∨ r.toInt = 1) ∧ (r.toInt = 0 ∨ 0 ≤ a.toInt ∧ a.toInt ≤ 5) ∧ (r.toInt = 1 ∨ a.toInt < 0 ∨ 5 < a.toInt)
set_option maxRecDepth 100000 in
set_option maxHeartbeats 4000000 in
theorem c_X8_isRow (l : Launch) (T : Int) (hT0 : 0 ≤ T) (hT1 : T ≤ 3000) (σ : kw_S) (hI : kw_I (bM T) σ) (a : Int32) : kw_Met l 2 KM mX8_isRow [.int a] σ (p_X8_isRow T σ a) := by
  have r_a := kw_rng a
  have q_0 : (0 : Int32).toInt = 0 := rfl
  have q_5 : (5 : Int32).toInt = 5 := rfl
  refine kw_Met.of (by decide) rfl tX8_isRow (Nat.le_of_ble_eq_true rfl) ?_
  show kw_AW l 2 kw_E0 KM mX8_isRow (p_X8_isRow T σ a) 0 [(0, .int a)] [] σ
  refine kw_iload_n (pc := 0) (i := 0) (k := 0) (n := 0) rfl rfl rfl ?_
  refine kw_iconst (pc := 1) (i := 1) (v := 0) rfl rfl ?_
  refine kw_iconst (pc := 2) (i := 2) (v := 5) rfl rfl ?_
  refine kw_callS (pc := 3) (i := 3) (Y := mX8_in) (As := [.int a, .int 0, .int 5]) (st := []) kw_hE rfl lsX8_93 arX8_in (c_X8_in l T (by omega) (by omega) σ hI a 0 5 ) (by decide) (Nat.le_of_ble_eq_true rfl) rfl (fun v S2 p1 => ?_)
  obtain ⟨e7, z6, rfl, f3, f4, f5⟩ := p1
  rw [e7]
  have r_z6 := kw_rng z6
  show kw_AW l 2 kw_E0 KM mX8_isRow (p_X8_isRow T σ a) 6 [(0, .int a)] [.int z6] σ
  exact kw_ireturn (pc := 6) (i := 4) (ty := .boolean) rfl rfl (kw_nb (by omega)) ⟨rfl, _, rfl, ⟨by omega, by omega, by omega⟩⟩
abbrev p_X8_isText (T : Int) (σ : kw_S) (a : Int32) : Option Value → kw_S → Prop := fun vv σ' => σ' = σ ∧ ∃ r : Int32, vv = some (.int r) ∧ (r.toInt = 0 ∨ r.toInt = 1) ∧ (r.toInt = 0 ∨ 0 ≤ a.toInt ∧ a.toInt ≤ 3) ∧ (r.toInt = 1 ∨ a.toInt < 0 ∨ 3 < a.toInt)
set_option maxRecDepth 100000 in
set_option maxHeartbeats 4000000 in
theorem c_X8_isText (l : Launch) (T : Int) (hT0 : 0 ≤ T) (hT1 : T ≤ 3000) (σ : kw_S) (hI : kw_I (bM T) σ) (a : Int32) : kw_Met l 2 KM mX8_isText [.int a] σ (p_X8_isText T σ a) := by
  have r_a := kw_rng a
  have q_0 : (0 : Int32).toInt = 0 := rfl
  have q_3 : (3 : Int32).toInt = 3 := rfl
  refine kw_Met.of (by decide) rfl tX8_isText (Nat.le_of_ble_eq_true rfl) ?_
  show kw_AW l 2 kw_E0 KM mX8_isText (p_X8_isText T σ a) 0 [(0, .int a)] [] σ
  refine kw_iload_n (pc := 0) (i := 0) (k := 0) (n := 0) rfl rfl rfl ?_
  refine kw_iconst (pc := 1) (i := 1) (v := 0) rfl rfl ?_
  refine kw_iconst (pc := 2) (i := 2) (v := 3) rfl rfl ?_
  refine kw_callS (pc := 3) (i := 3) (Y := mX8_in) (As := [.int a, .int 0, .int 3]) (st := []) kw_hE rfl lsX8_93 arX8_in (c_X8_in l T (by omega) (by omega) σ hI a 0 3 ) (by decide) (Nat.le_of_ble_eq_true rfl) rfl (fun v S2 p1 => ?_)
  obtain ⟨e7, z6, rfl, f3, f4, f5⟩ := p1
  rw [e7]
  have r_z6 := kw_rng z6
  show kw_AW l 2 kw_E0 KM mX8_isText (p_X8_isText T σ a) 6 [(0, .int a)] [.int z6] σ
  exact kw_ireturn (pc := 6) (i := 4) (ty := .boolean) rfl rfl (kw_nb (by omega)) ⟨rfl, _, rfl, ⟨by omega, by omega, by omega⟩⟩
abbrev p_X8_askedRow_0 (T : Int) (σ : kw_S) (a : Int32) : Option Value → kw_S → Prop := fun vv σ' => (kw_I (bM T) σ' ∧ kw_F [0, 1] σ σ') ∧ ∃ r : Int32, vv = some (.int r) ∧ (r.toInt < 0 ∨ 0 ≤ a.toInt ∧ a.toInt ≤ 5)
set_option maxRecDepth 100000 in
set_option maxHeartbeats 4000000 in
theorem c_X8_askedRow_0 (l : Launch) (T : Int) (hT0 : 0 ≤ T) (hT1 : T ≤ 3000) (σ : kw_S) (hI : kw_I (bM T) σ) (a : Int32) : kw_Met l 3 KM mX8_askedRow [.ref 0, .int a] σ (p_X8_askedRow_0 T σ a) := by
  have r_a := kw_rng a
  have hF0 : kw_F [0, 1] σ σ := kw_F.rf
  have q_m1 : (-1 : Int32).toInt = -1 := rfl
  have q_0 : (0 : Int32).toInt = 0 := rfl
  have q_1 : (1 : Int32).toInt = 1 := rfl
  refine kw_Met.of (by decide) rfl tX8_askedRow (Nat.le_of_ble_eq_true rfl) ?_
  show kw_AW l 3 kw_E0 KM mX8_askedRow (p_X8_askedRow_0 T σ a) 0 [(0, .ref 0), (1, .int a)] [] σ
  refine kw_iload_n (pc := 0) (i := 0) (k := 1) (n := 1) rfl rfl rfl ?_
  refine kw_callS (pc := 1) (i := 1) (Y := mX8_isRow) (As := [.int a]) (st := []) kw_hE rfl lsX8_97 arX8_isRow (c_X8_isRow l T (by omega) (by omega) σ hI a ) (by decide) (Nat.le_of_ble_eq_true rfl) rfl (fun v S2 p1 => ?_)
  obtain ⟨e7, z6, rfl, f3, f4, f5⟩ := p1
  rw [e7]
  have r_z6 := kw_rng z6
  show kw_AW l 3 kw_E0 KM mX8_askedRow (p_X8_askedRow_0 T σ a) 4 [(0, .ref 0), (1, .int a)] [.int z6] σ
  refine kw_if_ne (pc := 4) (i := 2) (tgt := 11) rfl rfl (fun c8 => ?_) (fun c8 => ?_)
  · refine kw_aload_n (pc := 11) (i := 5) (k := 0) (n := 0) rfl rfl rfl ?_
    refine kw_get (pc := 12) (i := 6) (v := .ref 2) rfl rfl rfl lkX8_17 (fun _ => rfl) ?_
    refine kw_iload_n (pc := 15) (i := 7) (k := 1) (n := 1) rfl rfl rfl ?_
    refine kw_iald (pc := 16) (i := 8) (n := 6) rfl rfl (by omega) (by omega) (fun z9 e_z9 => ?_)
    have t_z9 := congrArg Int32.toInt e_z9
    have b_z9 : -9 ≤ z9.toInt ∧ z9.toInt ≤ 40 := by rw [e_z9]; exact hI 2 _
    refine kw_if_ge (pc := 17) (i := 9) (tgt := 28) rfl rfl (fun c10 => ?_) (fun c10 => ?_)
    · refine kw_iconst (pc := 28) (i := 14) (v := 0) rfl rfl ?_
      exact kw_ireturn (pc := 29) (i := 15) (ty := .int) rfl rfl rfl ⟨⟨hI, hF0⟩, _, rfl, by omega⟩
    · refine kw_aload_n (pc := 20) (i := 10) (k := 0) (n := 0) rfl rfl rfl ?_
      refine kw_iconst (pc := 21) (i := 11) (v := 1) rfl rfl ?_
      refine kw_callV (pc := 22) (i := 12) (Y := mX8_meet) (a := 0) (As := [.int 1]) (st := []) kw_hE rfl rfl lvX8_101 arX8_meet (c_X8_meet_0 l T (by omega) (by omega) σ hI 1 (by first | omega | decide) (by first | omega | decide)) (by decide) (Nat.le_of_ble_eq_true rfl) rfl (fun v S12 p11 => ?_)
      obtain ⟨⟨I15, F16⟩, z14, rfl, f13⟩ := p11
      have F17 : kw_F [0, 1] σ S12 := kw_F.tr hF0 F16 (by decide)
      have r_z14 := kw_rng z14
      show kw_AW l 3 kw_E0 KM mX8_askedRow (p_X8_askedRow_0 T σ a) 25 [(0, .ref 0), (1, .int a)] [.int z14] S12
      refine kw_goto (pc := 25) (i := 13) (tgt := 29) rfl rfl ?_
      exact kw_ireturn (pc := 29) (i := 15) (ty := .int) rfl rfl rfl ⟨⟨I15, F17⟩, _, rfl, by omega⟩
  · refine kw_iconst (pc := 7) (i := 3) (v := (-1)) rfl rfl ?_
    refine kw_goto (pc := 8) (i := 4) (tgt := 29) rfl rfl ?_
    exact kw_ireturn (pc := 29) (i := 15) (ty := .int) rfl rfl rfl ⟨⟨hI, hF0⟩, _, rfl, by omega⟩
abbrev p_X8_askedText_0 (T : Int) (σ : kw_S) (a : Int32) : Option Value → kw_S → Prop := fun vv σ' => (kw_I (bM T) σ' ∧ kw_F [0, 1] σ σ') ∧ ∃ r : Int32, vv = some (.int r) ∧ (r.toInt < 0 ∨ 0 ≤ a.toInt ∧ a.toInt ≤ 3)
set_option maxRecDepth 100000 in
set_option maxHeartbeats 4000000 in
theorem c_X8_askedText_0 (l : Launch) (T : Int) (hT0 : 0 ≤ T) (hT1 : T ≤ 3000) (σ : kw_S) (hI : kw_I (bM T) σ) (a : Int32) : kw_Met l 3 KM mX8_askedText [.ref 0, .int a] σ (p_X8_askedText_0 T σ a) := by
  have r_a := kw_rng a
  have hF0 : kw_F [0, 1] σ σ := kw_F.rf
  have q_m1 : (-1 : Int32).toInt = -1 := rfl
  have q_0 : (0 : Int32).toInt = 0 := rfl
  have q_1 : (1 : Int32).toInt = 1 := rfl
  refine kw_Met.of (by decide) rfl tX8_askedText (Nat.le_of_ble_eq_true rfl) ?_
  show kw_AW l 3 kw_E0 KM mX8_askedText (p_X8_askedText_0 T σ a) 0 [(0, .ref 0), (1, .int a)] [] σ
  refine kw_iload_n (pc := 0) (i := 0) (k := 1) (n := 1) rfl rfl rfl ?_
  refine kw_callS (pc := 1) (i := 1) (Y := mX8_isText) (As := [.int a]) (st := []) kw_hE rfl lsX8_105 arX8_isText (c_X8_isText l T (by omega) (by omega) σ hI a ) (by decide) (Nat.le_of_ble_eq_true rfl) rfl (fun v S2 p1 => ?_)
  obtain ⟨e7, z6, rfl, f3, f4, f5⟩ := p1
  rw [e7]
  have r_z6 := kw_rng z6
  show kw_AW l 3 kw_E0 KM mX8_askedText (p_X8_askedText_0 T σ a) 4 [(0, .ref 0), (1, .int a)] [.int z6] σ
  refine kw_if_ne (pc := 4) (i := 2) (tgt := 11) rfl rfl (fun c8 => ?_) (fun c8 => ?_)
  · refine kw_aload_n (pc := 11) (i := 5) (k := 0) (n := 0) rfl rfl rfl ?_
    refine kw_get (pc := 12) (i := 6) (v := .ref 5) rfl rfl rfl lkX8_26 (fun _ => rfl) ?_
    refine kw_iload_n (pc := 15) (i := 7) (k := 1) (n := 1) rfl rfl rfl ?_
    refine kw_iald (pc := 16) (i := 8) (n := 4) rfl rfl (by omega) (by omega) (fun z9 e_z9 => ?_)
    have t_z9 := congrArg Int32.toInt e_z9
    have b_z9 : -9 ≤ z9.toInt ∧ z9.toInt ≤ 60 := by rw [e_z9]; exact hI 5 _
    refine kw_if_ge (pc := 17) (i := 9) (tgt := 28) rfl rfl (fun c10 => ?_) (fun c10 => ?_)
    · refine kw_iconst (pc := 28) (i := 14) (v := 0) rfl rfl ?_
      exact kw_ireturn (pc := 29) (i := 15) (ty := .int) rfl rfl rfl ⟨⟨hI, hF0⟩, _, rfl, by omega⟩
    · refine kw_aload_n (pc := 20) (i := 10) (k := 0) (n := 0) rfl rfl rfl ?_
      refine kw_iconst (pc := 21) (i := 11) (v := 1) rfl rfl ?_
      refine kw_callV (pc := 22) (i := 12) (Y := mX8_meet) (a := 0) (As := [.int 1]) (st := []) kw_hE rfl rfl lvX8_101 arX8_meet (c_X8_meet_0 l T (by omega) (by omega) σ hI 1 (by first | omega | decide) (by first | omega | decide)) (by decide) (Nat.le_of_ble_eq_true rfl) rfl (fun v S12 p11 => ?_)
      obtain ⟨⟨I15, F16⟩, z14, rfl, f13⟩ := p11
      have F17 : kw_F [0, 1] σ S12 := kw_F.tr hF0 F16 (by decide)
      have r_z14 := kw_rng z14
      show kw_AW l 3 kw_E0 KM mX8_askedText (p_X8_askedText_0 T σ a) 25 [(0, .ref 0), (1, .int a)] [.int z14] S12
      refine kw_goto (pc := 25) (i := 13) (tgt := 29) rfl rfl ?_
      exact kw_ireturn (pc := 29) (i := 15) (ty := .int) rfl rfl rfl ⟨⟨I15, F17⟩, _, rfl, by omega⟩
  · refine kw_iconst (pc := 7) (i := 3) (v := (-1)) rfl rfl ?_
    refine kw_goto (pc := 8) (i := 4) (tgt := 29) rfl rfl ?_
    exact kw_ireturn (pc := 29) (i := 15) (ty := .int) rfl rfl rfl ⟨⟨hI, hF0⟩, _, rfl, by omega⟩
abbrev p_X8_rowAt_0 (T : Int) (σ : kw_S) (a : Int32) (i : Int32) : Option Value → kw_S → Prop := fun vv σ' => σ' = σ ∧ ∃ r : Int32, vv = some (.int r)
set_option maxRecDepth 100000 in
set_option maxHeartbeats 4000000 in
theorem c_X8_rowAt_0 (l : Launch) (T : Int) (hT0 : 0 ≤ T) (hT1 : T ≤ 3000) (σ : kw_S) (hI : kw_I (bM T) σ) (a : Int32) (i : Int32) (hp0 : 0 ≤ a.toInt) (hp1 : a.toInt ≤ 5) (hp2 : 0 ≤ i.toInt) (hp3 : i.toInt < 40) : kw_Met l 1 KM mX8_rowAt [.ref 0, .int a, .int i] σ (p_X8_rowAt_0 T σ a i) := by
  have r_a := kw_rng a
  have r_i := kw_rng i
  have q_40 : (40 : Int32).toInt = 40 := rfl
  refine kw_Met.of (by decide) rfl tX8_rowAt (Nat.le_of_ble_eq_true rfl) ?_
  show kw_AW l 1 kw_E0 KM mX8_rowAt (p_X8_rowAt_0 T σ a i) 0 [(0, .ref 0), (1, .int a), (2, .int i)] [] σ
  refine kw_aload_n (pc := 0) (i := 0) (k := 0) (n := 0) rfl rfl rfl ?_
  refine kw_get (pc := 1) (i := 1) (v := .ref 3) rfl rfl rfl lkX8_20 (fun _ => rfl) ?_
  refine kw_bipush (pc := 4) (i := 2) (v := 40) rfl rfl ?_
  refine kw_iload_n (pc := 6) (i := 3) (k := 1) (n := 1) rfl rfl rfl ?_
  refine kw_imul (pc := 7) (i := 4) rfl (fun z1 e_z1 t_z1 => ?_)
  rw [show (40 : Int32).toInt = 40 from rfl] at t_z1
  first | (have u_z1 : z1.toInt = 40 * a.toInt := (by omega); clear t_z1) | skip
  refine kw_iload_n (pc := 8) (i := 5) (k := 2) (n := 2) rfl rfl rfl ?_
  refine kw_iadd (pc := 9) (i := 6) rfl (fun z2 e_z2 t_z2 => ?_)
  first | (have u_z2 : z2.toInt = z1.toInt + i.toInt := (by omega); clear t_z2) | skip
  refine kw_iald (pc := 10) (i := 7) (n := 240) rfl rfl (by omega) (by omega) (fun z3 e_z3 => ?_)
  have t_z3 := congrArg Int32.toInt e_z3
  have r_z3 := kw_rng z3
  exact kw_ireturn (pc := 11) (i := 8) (ty := .int) rfl rfl rfl ⟨rfl, _, rfl⟩
abbrev p_X8_setRow_0 (T : Int) (σ : kw_S) (a : Int32) (i : Int32) (v : Int32) : Option Value → kw_S → Prop := fun vv σ' => (kw_I (bM T) σ' ∧ kw_F [3] σ σ') ∧ vv = none
set_option maxRecDepth 100000 in
set_option maxHeartbeats 4000000 in
theorem c_X8_setRow_0 (l : Launch) (T : Int) (hT0 : 0 ≤ T) (hT1 : T ≤ 3000) (σ : kw_S) (hI : kw_I (bM T) σ) (a : Int32) (i : Int32) (v : Int32) (hp0 : 0 ≤ a.toInt) (hp1 : a.toInt ≤ 5) (hp2 : 0 ≤ i.toInt) (hp3 : i.toInt < 40) : kw_Met l 1 KM mX8_setRow [.ref 0, .int a, .int i, .int v] σ (p_X8_setRow_0 T σ a i v) := by
  have r_a := kw_rng a
  have r_i := kw_rng i
  have r_v := kw_rng v
  have hF0 : kw_F [3] σ σ := kw_F.rf
  have q_40 : (40 : Int32).toInt = 40 := rfl
  refine kw_Met.of (by decide) rfl tX8_setRow (Nat.le_of_ble_eq_true rfl) ?_
  show kw_AW l 1 kw_E0 KM mX8_setRow (p_X8_setRow_0 T σ a i v) 0 [(0, .ref 0), (1, .int a), (2, .int i), (3, .int v)] [] σ
  refine kw_aload_n (pc := 0) (i := 0) (k := 0) (n := 0) rfl rfl rfl ?_
  refine kw_get (pc := 1) (i := 1) (v := .ref 3) rfl rfl rfl lkX8_20 (fun _ => rfl) ?_
  refine kw_bipush (pc := 4) (i := 2) (v := 40) rfl rfl ?_
  refine kw_iload_n (pc := 6) (i := 3) (k := 1) (n := 1) rfl rfl rfl ?_
  refine kw_imul (pc := 7) (i := 4) rfl (fun z1 e_z1 t_z1 => ?_)
  rw [show (40 : Int32).toInt = 40 from rfl] at t_z1
  first | (have u_z1 : z1.toInt = 40 * a.toInt := (by omega); clear t_z1) | skip
  refine kw_iload_n (pc := 8) (i := 5) (k := 2) (n := 2) rfl rfl rfl ?_
  refine kw_iadd (pc := 9) (i := 6) rfl (fun z2 e_z2 t_z2 => ?_)
  first | (have u_z2 : z2.toInt = z1.toInt + i.toInt := (by omega); clear t_z2) | skip
  refine kw_iload_n (pc := 10) (i := 7) (k := 3) (n := 3) rfl rfl rfl ?_
  refine kw_iast (pc := 11) (i := 8) (n := 240) rfl rfl (by omega) (by omega) ?_
  have I3 : kw_I (bM T) (kw_ui σ 3 z2.toNatClampNeg v) := kw_I_ui hI (kw_rng v).1 (Int.le_of_lt_add_one (kw_rng v).2)
  have F4 : kw_F [3] σ (kw_ui σ 3 z2.toNatClampNeg v) := kw_F_ui hF0 (by decide)
  exact kw_return (pc := 12) (i := 9) rfl rfl ⟨⟨I3, F4⟩, rfl⟩
abbrev p_X8_row_0 (T : Int) (σ : kw_S) (k : Int32) (n : Int32) : Option Value → kw_S → Prop := fun vv σ' => (kw_I (bM T) σ' ∧ kw_F [0, 1, 2, 3] σ σ') ∧ ∃ r : Int32, vv = some (.int r) ∧ ((k.toInt < 0 ∨ 6 ≤ k.toInt ∨ 40 < n.toInt) ∧ r.toInt = -1 ∨ 0 ≤ k.toInt ∧ k.toInt < 6 ∧ n.toInt < 0 ∧ r.toInt = -3 ∨ 0 ≤ k.toInt ∧ k.toInt < 6 ∧ 0 ≤ n.toInt ∧ n.toInt ≤ 40 ∧ r.toInt = n.toInt)
set_option maxRecDepth 100000 in
set_option maxHeartbeats 4000000 in
theorem c_X8_row_0 (l : Launch) (T : Int) (hT0 : 0 ≤ T) (hT1 : T ≤ 3000) (σ : kw_S) (hI : kw_I (bM T) σ) (k : Int32) (n : Int32) : kw_Met l 3 KM mX8_row [.ref 0, .int k, .int n] σ (p_X8_row_0 T σ k n) := by
  have r_k := kw_rng k
  have r_n := kw_rng n
  have hF0 : kw_F [0, 1, 2, 3] σ σ := kw_F.rf
  have q_m1 : (-1 : Int32).toInt = -1 := rfl
  have q_0 : (0 : Int32).toInt = 0 := rfl
  have q_5 : (5 : Int32).toInt = 5 := rfl
  have q_40 : (40 : Int32).toInt = 40 := rfl
  refine kw_Met.of (by decide) rfl tX8_row (Nat.le_of_ble_eq_true rfl) ?_
  show kw_AW l 3 kw_E0 KM mX8_row (p_X8_row_0 T σ k n) 0 [(0, .ref 0), (1, .int k), (2, .int n)] [] σ
  refine kw_iload_n (pc := 0) (i := 0) (k := 1) (n := 1) rfl rfl rfl ?_
  refine kw_callS (pc := 1) (i := 1) (Y := mX8_isRow) (As := [.int k]) (st := []) kw_hE rfl lsX8_97 arX8_isRow (c_X8_isRow l T (by omega) (by omega) σ hI k ) (by decide) (Nat.le_of_ble_eq_true rfl) rfl (fun v S2 p1 => ?_)
  obtain ⟨e7, z6, rfl, f3, f4, f5⟩ := p1
  rw [e7]
  have r_z6 := kw_rng z6
  show kw_AW l 3 kw_E0 KM mX8_row (p_X8_row_0 T σ k n) 4 [(0, .ref 0), (1, .int k), (2, .int n)] [.int z6] σ
  refine kw_if_eq (pc := 4) (i := 2) (tgt := 13) rfl rfl (fun c8 => ?_) (fun c8 => ?_)
  · refine kw_iconst (pc := 13) (i := 6) (v := (-1)) rfl rfl ?_
    exact kw_ireturn (pc := 14) (i := 7) (ty := .int) rfl rfl rfl ⟨⟨hI, hF0⟩, _, rfl, by omega⟩
  · refine kw_iload_n (pc := 7) (i := 3) (k := 2) (n := 2) rfl rfl rfl ?_
    refine kw_bipush (pc := 8) (i := 4) (v := 40) rfl rfl ?_
    refine kw_icmp_le (pc := 10) (i := 5) (tgt := 15) rfl rfl (fun c9 => ?_) (fun c9 => ?_)
    · refine kw_iload_n (pc := 15) (i := 8) (k := 2) (n := 2) rfl rfl rfl ?_
      refine kw_if_ge (pc := 16) (i := 9) (tgt := 25) rfl rfl (fun c10 => ?_) (fun c10 => ?_)
      · refine kw_aload_n (pc := 25) (i := 14) (k := 0) (n := 0) rfl rfl rfl ?_
        refine kw_get (pc := 26) (i := 15) (v := .ref 2) rfl rfl rfl lkX8_17 (fun _ => rfl) ?_
        refine kw_iload_n (pc := 29) (i := 16) (k := 1) (n := 1) rfl rfl rfl ?_
        refine kw_iload_n (pc := 30) (i := 17) (k := 2) (n := 2) rfl rfl rfl ?_
        refine kw_iast (pc := 31) (i := 18) (n := 6) rfl rfl (by omega) (by omega) ?_
        have I11 : kw_I (bM T) (kw_ui σ 2 k.toNatClampNeg n) := kw_I_ui hI (show -9 ≤ n.toInt by omega) (show n.toInt ≤ 40 by omega)
        have F12 : kw_F [0, 1, 2, 3] σ (kw_ui σ 2 k.toNatClampNeg n) := kw_F_ui hF0 (by decide)
        refine kw_iconst (pc := 32) (i := 19) (v := 0) rfl rfl ?_
        refine kw_istore_n (pc := 33) (i := 20) (n := 3) (lv' := [(3, .int 0), (0, .ref 0), (1, .int k), (2, .int n)]) rfl rfl (by decide) rfl ?_
        have L17 : ∀ (n21 : Nat) (x13 : Int32) (S14 : kw_S), kw_I (bM T) S14 → kw_F [0, 1, 2, 3] σ S14 → 0 ≤ x13.toInt → (41 - x13.toInt).toNat < n21 → kw_AW l 3 kw_E0 KM mX8_row (p_X8_row_0 T σ k n) 34 [(3, .int x13), (0, .ref 0), (1, .int k), (2, .int n)] [] S14 := by
          intro n21
          induction n21 with
          | zero => intro x13 S14 I15 F16 v19 m20; exact absurd m20 (Nat.not_lt_zero _)
          | succ n21 ih18 =>
            intro x13 S14 I15 F16 v19 m20
            have r_x13 := kw_rng x13
            refine kw_iload_n (pc := 34) (i := 21) (k := 0) (n := 3) rfl rfl rfl ?_
            refine kw_bipush (pc := 35) (i := 22) (v := 40) rfl rfl ?_
            refine kw_icmp_ge (pc := 37) (i := 23) (tgt := 53) rfl rfl (fun c22 => ?_) (fun c22 => ?_)
            · refine kw_iload_n (pc := 53) (i := 31) (k := 3) (n := 2) rfl rfl rfl ?_
              exact kw_ireturn (pc := 54) (i := 32) (ty := .int) rfl rfl rfl ⟨⟨I15, F16⟩, _, rfl, by omega⟩
            · refine kw_aload_n (pc := 40) (i := 24) (k := 1) (n := 0) rfl rfl rfl ?_
              refine kw_iload_n (pc := 41) (i := 25) (k := 2) (n := 1) rfl rfl rfl ?_
              refine kw_iload_n (pc := 42) (i := 26) (k := 0) (n := 3) rfl rfl rfl ?_
              refine kw_iconst (pc := 43) (i := 27) (v := 0) rfl rfl ?_
              refine kw_callV (pc := 44) (i := 28) (Y := mX8_setRow) (a := 0) (As := [.int k, .int x13, .int 0]) (st := []) kw_hE rfl rfl lvX8_108 arX8_setRow (c_X8_setRow_0 l T (by omega) (by omega) S14 I15 k x13 0 (by first | omega | decide) (by first | omega | decide) (by first | omega | decide) (by first | omega | decide)) (by decide) (Nat.le_of_ble_eq_true rfl) rfl (fun v S24 p23 => ?_)
              obtain ⟨⟨I25, F26⟩, rfl⟩ := p23
              have F27 : kw_F [0, 1, 2, 3] σ S24 := kw_F.tr F16 F26 (by decide)
              have w_28 : (S24.1 0 27).toInt = (S14.1 0 27).toInt := congrArg Int32.toInt (kw_F.at (a := 0) (j := 27) F26 (by decide))
              show kw_AW l 3 kw_E0 KM mX8_row (p_X8_row_0 T σ k n) 47 [(3, .int x13), (0, .ref 0), (1, .int k), (2, .int n)] [] S24
              refine kw_iinc' (pc := 47) (i := 29) (k := 0) (fun z => [(3, .int z), (0, .ref 0), (1, .int k), (2, .int n)]) rfl rfl (by decide) rfl (fun _ => rfl) (fun z29 e_z29 t_z29 => ?_)
              first | (have u_z29 : z29.toInt = x13.toInt + 1 := (by omega); clear t_z29) | skip
              refine kw_goto (pc := 50) (i := 30) (tgt := 34) rfl rfl ?_
              refine kw_sub (lv' := [(3, .int z29), (0, .ref 0), (1, .int k), (2, .int n)]) [0, 1, 2, 3] rfl ?_
              exact ih18 z29 S24 I25 F27 (by omega) (by omega)
        exact L17 _ 0 (kw_ui σ 2 k.toNatClampNeg n) I11 F12 (by omega) (Nat.lt_succ_self _)
      · refine kw_aload_n (pc := 19) (i := 10) (k := 0) (n := 0) rfl rfl rfl ?_
        refine kw_iconst (pc := 20) (i := 11) (v := 5) rfl rfl ?_
        refine kw_callV (pc := 21) (i := 12) (Y := mX8_meet) (a := 0) (As := [.int 5]) (st := []) kw_hE rfl rfl lvX8_101 arX8_meet (c_X8_meet_0 l T (by omega) (by omega) σ hI 5 (by first | omega | decide) (by first | omega | decide)) (by decide) (Nat.le_of_ble_eq_true rfl) rfl (fun v S31 p30 => ?_)
        obtain ⟨⟨I34, F35⟩, z33, rfl, f32⟩ := p30
        have F36 : kw_F [0, 1, 2, 3] σ S31 := kw_F.tr hF0 F35 (by decide)
        have r_z33 := kw_rng z33
        show kw_AW l 3 kw_E0 KM mX8_row (p_X8_row_0 T σ k n) 24 [(0, .ref 0), (1, .int k), (2, .int n)] [.int z33] S31
        exact kw_ireturn (pc := 24) (i := 13) (ty := .int) rfl rfl rfl ⟨⟨I34, F36⟩, _, rfl, by omega⟩
    · refine kw_iconst (pc := 13) (i := 6) (v := (-1)) rfl rfl ?_
      exact kw_ireturn (pc := 14) (i := 7) (ty := .int) rfl rfl rfl ⟨⟨hI, hF0⟩, _, rfl, by omega⟩
abbrev p_X8_text_0 (T : Int) (σ : kw_S) (k : Int32) (n : Int32) : Option Value → kw_S → Prop := fun vv σ' => (kw_I (bM T) σ' ∧ kw_F [0, 1, 5, 6] σ σ') ∧ ∃ r : Int32, vv = some (.int r) ∧ ((k.toInt < 0 ∨ 4 ≤ k.toInt ∨ 60 < n.toInt) ∧ r.toInt = -1 ∨ 0 ≤ k.toInt ∧ k.toInt < 4 ∧ n.toInt < 0 ∧ r.toInt = -3 ∨ 0 ≤ k.toInt ∧ k.toInt < 4 ∧ 0 ≤ n.toInt ∧ n.toInt ≤ 60 ∧ r.toInt = n.toInt)
set_option maxRecDepth 100000 in
set_option maxHeartbeats 4000000 in
theorem c_X8_text_0 (l : Launch) (T : Int) (hT0 : 0 ≤ T) (hT1 : T ≤ 3000) (σ : kw_S) (hI : kw_I (bM T) σ) (k : Int32) (n : Int32) : kw_Met l 3 KM mX8_text [.ref 0, .int k, .int n] σ (p_X8_text_0 T σ k n) := by
  have r_k := kw_rng k
  have r_n := kw_rng n
  have hF0 : kw_F [0, 1, 5, 6] σ σ := kw_F.rf
  have q_m1 : (-1 : Int32).toInt = -1 := rfl
  have q_0 : (0 : Int32).toInt = 0 := rfl
  have q_5 : (5 : Int32).toInt = 5 := rfl
  have q_32 : (32 : Int32).toInt = 32 := rfl
  have q_60 : (60 : Int32).toInt = 60 := rfl
  refine kw_Met.of (by decide) rfl tX8_text (Nat.le_of_ble_eq_true rfl) ?_
  show kw_AW l 3 kw_E0 KM mX8_text (p_X8_text_0 T σ k n) 0 [(0, .ref 0), (1, .int k), (2, .int n)] [] σ
  refine kw_iload_n (pc := 0) (i := 0) (k := 1) (n := 1) rfl rfl rfl ?_
  refine kw_callS (pc := 1) (i := 1) (Y := mX8_isText) (As := [.int k]) (st := []) kw_hE rfl lsX8_105 arX8_isText (c_X8_isText l T (by omega) (by omega) σ hI k ) (by decide) (Nat.le_of_ble_eq_true rfl) rfl (fun v S2 p1 => ?_)
  obtain ⟨e7, z6, rfl, f3, f4, f5⟩ := p1
  rw [e7]
  have r_z6 := kw_rng z6
  show kw_AW l 3 kw_E0 KM mX8_text (p_X8_text_0 T σ k n) 4 [(0, .ref 0), (1, .int k), (2, .int n)] [.int z6] σ
  refine kw_if_eq (pc := 4) (i := 2) (tgt := 13) rfl rfl (fun c8 => ?_) (fun c8 => ?_)
  · refine kw_iconst (pc := 13) (i := 6) (v := (-1)) rfl rfl ?_
    exact kw_ireturn (pc := 14) (i := 7) (ty := .int) rfl rfl rfl ⟨⟨hI, hF0⟩, _, rfl, by omega⟩
  · refine kw_iload_n (pc := 7) (i := 3) (k := 2) (n := 2) rfl rfl rfl ?_
    refine kw_bipush (pc := 8) (i := 4) (v := 60) rfl rfl ?_
    refine kw_icmp_le (pc := 10) (i := 5) (tgt := 15) rfl rfl (fun c9 => ?_) (fun c9 => ?_)
    · refine kw_iload_n (pc := 15) (i := 8) (k := 2) (n := 2) rfl rfl rfl ?_
      refine kw_if_ge (pc := 16) (i := 9) (tgt := 25) rfl rfl (fun c10 => ?_) (fun c10 => ?_)
      · refine kw_aload_n (pc := 25) (i := 14) (k := 0) (n := 0) rfl rfl rfl ?_
        refine kw_get (pc := 26) (i := 15) (v := .ref 5) rfl rfl rfl lkX8_26 (fun _ => rfl) ?_
        refine kw_iload_n (pc := 29) (i := 16) (k := 1) (n := 1) rfl rfl rfl ?_
        refine kw_iload_n (pc := 30) (i := 17) (k := 2) (n := 2) rfl rfl rfl ?_
        refine kw_iast (pc := 31) (i := 18) (n := 4) rfl rfl (by omega) (by omega) ?_
        have I11 : kw_I (bM T) (kw_ui σ 5 k.toNatClampNeg n) := kw_I_ui hI (show -9 ≤ n.toInt by omega) (show n.toInt ≤ 60 by omega)
        have F12 : kw_F [0, 1, 5, 6] σ (kw_ui σ 5 k.toNatClampNeg n) := kw_F_ui hF0 (by decide)
        refine kw_iconst (pc := 32) (i := 19) (v := 0) rfl rfl ?_
        refine kw_istore_n (pc := 33) (i := 20) (n := 3) (lv' := [(3, .int 0), (0, .ref 0), (1, .int k), (2, .int n)]) rfl rfl (by decide) rfl ?_
        have L17 : ∀ (n21 : Nat) (x13 : Int32) (S14 : kw_S), kw_I (bM T) S14 → kw_F [0, 1, 5, 6] σ S14 → 0 ≤ x13.toInt → (61 - x13.toInt).toNat < n21 → kw_AW l 3 kw_E0 KM mX8_text (p_X8_text_0 T σ k n) 34 [(3, .int x13), (0, .ref 0), (1, .int k), (2, .int n)] [] S14 := by
          intro n21
          induction n21 with
          | zero => intro x13 S14 I15 F16 v19 m20; exact absurd m20 (Nat.not_lt_zero _)
          | succ n21 ih18 =>
            intro x13 S14 I15 F16 v19 m20
            have r_x13 := kw_rng x13
            refine kw_iload_n (pc := 34) (i := 21) (k := 0) (n := 3) rfl rfl rfl ?_
            refine kw_bipush (pc := 35) (i := 22) (v := 60) rfl rfl ?_
            refine kw_icmp_ge (pc := 37) (i := 23) (tgt := 59) rfl rfl (fun c22 => ?_) (fun c22 => ?_)
            · refine kw_iload_n (pc := 59) (i := 35) (k := 3) (n := 2) rfl rfl rfl ?_
              exact kw_ireturn (pc := 60) (i := 36) (ty := .int) rfl rfl rfl ⟨⟨I15, F16⟩, _, rfl, by omega⟩
            · refine kw_aload_n (pc := 40) (i := 24) (k := 1) (n := 0) rfl rfl rfl ?_
              refine kw_get (pc := 41) (i := 25) (v := .ref 6) rfl rfl rfl lkX8_29 (fun _ => rfl) ?_
              refine kw_bipush (pc := 44) (i := 26) (v := 60) rfl rfl ?_
              refine kw_iload_n (pc := 46) (i := 27) (k := 2) (n := 1) rfl rfl rfl ?_
              refine kw_imul (pc := 47) (i := 28) rfl (fun z23 e_z23 t_z23 => ?_)
              rw [show (60 : Int32).toInt = 60 from rfl] at t_z23
              first | (have u_z23 : z23.toInt = 60 * k.toInt := (by omega); clear t_z23) | skip
              refine kw_iload_n (pc := 48) (i := 29) (k := 0) (n := 3) rfl rfl rfl ?_
              refine kw_iadd (pc := 49) (i := 30) rfl (fun z24 e_z24 t_z24 => ?_)
              first | (have u_z24 : z24.toInt = z23.toInt + x13.toInt := (by omega); clear t_z24) | skip
              refine kw_bipush (pc := 50) (i := 31) (v := 32) rfl rfl ?_
              refine kw_iast (pc := 52) (i := 32) (n := 240) rfl rfl (by omega) (by omega) ?_
              have I25 : kw_I (bM T) (kw_ui S14 6 z24.toNatClampNeg 32) := kw_I_ui I15 (kw_rng (32 : Int32)).1 (Int.le_of_lt_add_one (kw_rng (32 : Int32)).2)
              have F26 : kw_F [0, 1, 5, 6] σ (kw_ui S14 6 z24.toNatClampNeg 32) := kw_F_ui F16 (by decide)
              refine kw_iinc' (pc := 53) (i := 33) (k := 0) (fun z => [(3, .int z), (0, .ref 0), (1, .int k), (2, .int n)]) rfl rfl (by decide) rfl (fun _ => rfl) (fun z27 e_z27 t_z27 => ?_)
              first | (have u_z27 : z27.toInt = x13.toInt + 1 := (by omega); clear t_z27) | skip
              refine kw_goto (pc := 56) (i := 34) (tgt := 34) rfl rfl ?_
              refine kw_sub (lv' := [(3, .int z27), (0, .ref 0), (1, .int k), (2, .int n)]) [0, 1, 2, 3] rfl ?_
              exact ih18 z27 (kw_ui S14 6 z24.toNatClampNeg 32) I25 F26 (by omega) (by omega)
        exact L17 _ 0 (kw_ui σ 5 k.toNatClampNeg n) I11 F12 (by omega) (Nat.lt_succ_self _)
      · refine kw_aload_n (pc := 19) (i := 10) (k := 0) (n := 0) rfl rfl rfl ?_
        refine kw_iconst (pc := 20) (i := 11) (v := 5) rfl rfl ?_
        refine kw_callV (pc := 21) (i := 12) (Y := mX8_meet) (a := 0) (As := [.int 5]) (st := []) kw_hE rfl rfl lvX8_101 arX8_meet (c_X8_meet_0 l T (by omega) (by omega) σ hI 5 (by first | omega | decide) (by first | omega | decide)) (by decide) (Nat.le_of_ble_eq_true rfl) rfl (fun v S29 p28 => ?_)
        obtain ⟨⟨I32, F33⟩, z31, rfl, f30⟩ := p28
        have F34 : kw_F [0, 1, 5, 6] σ S29 := kw_F.tr hF0 F33 (by decide)
        have r_z31 := kw_rng z31
        show kw_AW l 3 kw_E0 KM mX8_text (p_X8_text_0 T σ k n) 24 [(0, .ref 0), (1, .int k), (2, .int n)] [.int z31] S29
        exact kw_ireturn (pc := 24) (i := 13) (ty := .int) rfl rfl rfl ⟨⟨I32, F34⟩, _, rfl, by omega⟩
    · refine kw_iconst (pc := 13) (i := 6) (v := (-1)) rfl rfl ?_
      exact kw_ireturn (pc := 14) (i := 7) (ty := .int) rfl rfl rfl ⟨⟨hI, hF0⟩, _, rfl, by omega⟩
abbrev p_X8_at_0 (T : Int) (σ : kw_S) (a : Int32) (i : Int32) : Option Value → kw_S → Prop := fun vv σ' => (kw_I (bM T) σ' ∧ kw_F [0, 1] σ σ') ∧ ∃ r : Int32, vv = some (.int r) ∧ (r.toInt < 0 ∨ 0 ≤ a.toInt ∧ a.toInt ≤ 5 ∧ 0 ≤ i.toInt ∧ i.toInt < 40)
set_option maxRecDepth 100000 in
set_option maxHeartbeats 4000000 in
theorem c_X8_at_0 (l : Launch) (T : Int) (hT0 : 0 ≤ T) (hT1 : T ≤ 3000) (σ : kw_S) (hI : kw_I (bM T) σ) (a : Int32) (i : Int32) : kw_Met l 4 KM mX8_at [.ref 0, .int a, .int i] σ (p_X8_at_0 T σ a i) := by
  have r_a := kw_rng a
  have r_i := kw_rng i
  have hF0 : kw_F [0, 1] σ σ := kw_F.rf
  have q_0 : (0 : Int32).toInt = 0 := rfl
  have q_1 : (1 : Int32).toInt = 1 := rfl
  have q_2 : (2 : Int32).toInt = 2 := rfl
  refine kw_Met.of (by decide) rfl tX8_at (Nat.le_of_ble_eq_true rfl) ?_
  show kw_AW l 4 kw_E0 KM mX8_at (p_X8_at_0 T σ a i) 0 [(0, .ref 0), (1, .int a), (2, .int i)] [] σ
  refine kw_aload_n (pc := 0) (i := 0) (k := 0) (n := 0) rfl rfl rfl ?_
  refine kw_iload_n (pc := 1) (i := 1) (k := 1) (n := 1) rfl rfl rfl ?_
  refine kw_callV (pc := 2) (i := 2) (Y := mX8_askedRow) (a := 0) (As := [.int a]) (st := []) kw_hE rfl rfl lvX8_112 arX8_askedRow (c_X8_askedRow_0 l T (by omega) (by omega) σ hI a ) (by decide) (Nat.le_of_ble_eq_true rfl) rfl (fun v S2 p1 => ?_)
  obtain ⟨⟨I5, F6⟩, z4, rfl, f3⟩ := p1
  have F7 : kw_F [0, 1] σ S2 := kw_F.tr hF0 F6 (by decide)
  have r_z4 := kw_rng z4
  show kw_AW l 4 kw_E0 KM mX8_at (p_X8_at_0 T σ a i) 5 [(0, .ref 0), (1, .int a), (2, .int i)] [.int z4] S2
  refine kw_istore_n (pc := 5) (i := 3) (n := 3) (lv' := [(3, .int z4), (0, .ref 0), (1, .int a), (2, .int i)]) rfl rfl (by decide) rfl ?_
  refine kw_iload_n (pc := 6) (i := 4) (k := 0) (n := 3) rfl rfl rfl ?_
  refine kw_if_ge (pc := 7) (i := 5) (tgt := 12) rfl rfl (fun c8 => ?_) (fun c8 => ?_)
  · refine kw_iload_n (pc := 12) (i := 8) (k := 3) (n := 2) rfl rfl rfl ?_
    refine kw_iconst (pc := 13) (i := 9) (v := 0) rfl rfl ?_
    refine kw_aload_n (pc := 14) (i := 10) (k := 1) (n := 0) rfl rfl rfl ?_
    refine kw_get (pc := 15) (i := 11) (v := .ref 2) rfl rfl rfl lkX8_17 (fun _ => rfl) ?_
    refine kw_iload_n (pc := 18) (i := 12) (k := 2) (n := 1) rfl rfl rfl ?_
    refine kw_iald (pc := 19) (i := 13) (n := 6) rfl rfl (by omega) (by omega) (fun z9 e_z9 => ?_)
    have t_z9 := congrArg Int32.toInt e_z9
    have b_z9 : -9 ≤ z9.toInt ∧ z9.toInt ≤ 40 := by rw [e_z9]; exact I5 2 _
    refine kw_iconst (pc := 20) (i := 14) (v := 1) rfl rfl ?_
    refine kw_isub (pc := 21) (i := 15) rfl (fun z10 e_z10 t_z10 => ?_)
    first | (have u_z10 : z10.toInt = z9.toInt - 1 := (by omega); clear t_z10) | skip
    refine kw_callS (pc := 22) (i := 16) (Y := mX8_in) (As := [.int i, .int 0, .int z10]) (st := []) kw_hE rfl lsX8_93 arX8_in (c_X8_in l T (by omega) (by omega) S2 I5 i 0 z10 ) (by decide) (Nat.le_of_ble_eq_true rfl) rfl (fun v S12 p11 => ?_)
    obtain ⟨e17, z16, rfl, f13, f14, f15⟩ := p11
    rw [e17]
    have r_z16 := kw_rng z16
    show kw_AW l 4 kw_E0 KM mX8_at (p_X8_at_0 T σ a i) 25 [(3, .int z4), (0, .ref 0), (1, .int a), (2, .int i)] [.int z16] S2
    refine kw_if_eq (pc := 25) (i := 17) (tgt := 42) rfl rfl (fun c18 => ?_) (fun c18 => ?_)
    · refine kw_aload_n (pc := 42) (i := 26) (k := 1) (n := 0) rfl rfl rfl ?_
      refine kw_iconst (pc := 43) (i := 27) (v := 2) rfl rfl ?_
      refine kw_callV (pc := 44) (i := 28) (Y := mX8_meet) (a := 0) (As := [.int 2]) (st := []) kw_hE rfl rfl lvX8_101 arX8_meet (c_X8_meet_0 l T (by omega) (by omega) S2 I5 2 (by first | omega | decide) (by first | omega | decide)) (by decide) (Nat.le_of_ble_eq_true rfl) rfl (fun v S20 p19 => ?_)
      obtain ⟨⟨I23, F24⟩, z22, rfl, f21⟩ := p19
      have F25 : kw_F [0, 1] σ S20 := kw_F.tr F7 F24 (by decide)
      have r_z22 := kw_rng z22
      show kw_AW l 4 kw_E0 KM mX8_at (p_X8_at_0 T σ a i) 47 [(3, .int z4), (0, .ref 0), (1, .int a), (2, .int i)] [.int z22] S20
      exact kw_ireturn (pc := 47) (i := 29) (ty := .int) rfl rfl rfl ⟨⟨I23, F25⟩, _, rfl, by omega⟩
    · refine kw_aload_n (pc := 28) (i := 18) (k := 1) (n := 0) rfl rfl rfl ?_
      refine kw_aload_n (pc := 29) (i := 19) (k := 1) (n := 0) rfl rfl rfl ?_
      refine kw_iload_n (pc := 30) (i := 20) (k := 2) (n := 1) rfl rfl rfl ?_
      refine kw_iload_n (pc := 31) (i := 21) (k := 3) (n := 2) rfl rfl rfl ?_
      refine kw_callV (pc := 32) (i := 22) (Y := mX8_rowAt) (a := 0) (As := [.int a, .int i]) (st := [.ref 0]) kw_hE rfl rfl lvX8_115 arX8_rowAt (c_X8_rowAt_0 l T (by omega) (by omega) S2 I5 a i (by first | omega | decide) (by first | omega | decide) (by first | omega | decide) (by first | omega | decide)) (by decide) (Nat.le_of_ble_eq_true rfl) rfl (fun v S27 p26 => ?_)
      obtain ⟨e29, z28, rfl⟩ := p26
      rw [e29]
      have r_z28 := kw_rng z28
      show kw_AW l 4 kw_E0 KM mX8_at (p_X8_at_0 T σ a i) 35 [(3, .int z4), (0, .ref 0), (1, .int a), (2, .int i)] [.int z28, .ref 0] S2
      refine kw_iconst (pc := 35) (i := 23) (v := 1) rfl rfl ?_
      refine kw_callV (pc := 36) (i := 24) (Y := mX8_ask) (a := 0) (As := [.int z28, .int 1]) (st := []) kw_hE rfl rfl lvX8_119 arX8_ask (c_X8_ask_0 l T (by omega) (by omega) S2 I5 z28 1 ) (by decide) (Nat.le_of_ble_eq_true rfl) rfl (fun v S31 p30 => ?_)
      obtain ⟨⟨I34, F35⟩, z33, rfl, f32⟩ := p30
      have F36 : kw_F [0, 1] σ S31 := kw_F.tr F7 F35 (by decide)
      have r_z33 := kw_rng z33
      show kw_AW l 4 kw_E0 KM mX8_at (p_X8_at_0 T σ a i) 39 [(3, .int z4), (0, .ref 0), (1, .int a), (2, .int i)] [.int z33] S31
      refine kw_goto (pc := 39) (i := 25) (tgt := 47) rfl rfl ?_
      exact kw_ireturn (pc := 47) (i := 29) (ty := .int) rfl rfl rfl ⟨⟨I34, F36⟩, _, rfl, by omega⟩
  · refine kw_iload_n (pc := 10) (i := 6) (k := 0) (n := 3) rfl rfl rfl ?_
    exact kw_ireturn (pc := 11) (i := 7) (ty := .int) rfl rfl rfl ⟨⟨I5, F7⟩, _, rfl, by omega⟩
abbrev p_X8_lay_0 (T : Int) (σ : kw_S) (a : Int32) (i : Int32) (v : Int32) : Option Value → kw_S → Prop := fun vv σ' => (kw_I (bM T) σ' ∧ kw_F [0, 1, 3] σ σ') ∧ ∃ r : Int32, vv = some (.int r)
set_option maxRecDepth 100000 in
set_option maxHeartbeats 4000000 in
theorem c_X8_lay_0 (l : Launch) (T : Int) (hT0 : 0 ≤ T) (hT1 : T ≤ 3000) (σ : kw_S) (hI : kw_I (bM T) σ) (a : Int32) (i : Int32) (v : Int32) : kw_Met l 5 KM mX8_lay [.ref 0, .int a, .int i, .int v] σ (p_X8_lay_0 T σ a i v) := by
  have r_a := kw_rng a
  have r_i := kw_rng i
  have r_v := kw_rng v
  have hF0 : kw_F [0, 1, 3] σ σ := kw_F.rf
  have q_1 : (1 : Int32).toInt = 1 := rfl
  refine kw_Met.of (by decide) rfl tX8_lay (Nat.le_of_ble_eq_true rfl) ?_
  show kw_AW l 5 kw_E0 KM mX8_lay (p_X8_lay_0 T σ a i v) 0 [(0, .ref 0), (1, .int a), (2, .int i), (3, .int v)] [] σ
  refine kw_aload_n (pc := 0) (i := 0) (k := 0) (n := 0) rfl rfl rfl ?_
  refine kw_iload_n (pc := 1) (i := 1) (k := 1) (n := 1) rfl rfl rfl ?_
  refine kw_iload_n (pc := 2) (i := 2) (k := 2) (n := 2) rfl rfl rfl ?_
  refine kw_callV (pc := 3) (i := 3) (Y := mX8_at) (a := 0) (As := [.int a, .int i]) (st := []) kw_hE rfl rfl lvX8_122 arX8_at (c_X8_at_0 l T (by omega) (by omega) σ hI a i ) (by decide) (Nat.le_of_ble_eq_true rfl) rfl (fun v S2 p1 => ?_)
  obtain ⟨⟨I5, F6⟩, z4, rfl, f3⟩ := p1
  have F7 : kw_F [0, 1, 3] σ S2 := kw_F.tr hF0 F6 (by decide)
  have r_z4 := kw_rng z4
  show kw_AW l 5 kw_E0 KM mX8_lay (p_X8_lay_0 T σ a i v) 6 [(0, .ref 0), (1, .int a), (2, .int i), (3, .int v)] [.int z4] S2
  refine kw_istore (pc := 6) (i := 4) (n := 4) (lv' := [(4, .int z4), (0, .ref 0), (1, .int a), (2, .int i), (3, .int v)]) rfl (by decide) rfl ?_
  refine kw_iload (pc := 8) (i := 5) (k := 0) (n := 4) rfl rfl ?_
  refine kw_if_ge (pc := 10) (i := 6) (tgt := 16) rfl rfl (fun c8 => ?_) (fun c8 => ?_)
  · refine kw_aload_n (pc := 16) (i := 9) (k := 1) (n := 0) rfl rfl rfl ?_
    refine kw_iload_n (pc := 17) (i := 10) (k := 2) (n := 1) rfl rfl rfl ?_
    refine kw_iload_n (pc := 18) (i := 11) (k := 3) (n := 2) rfl rfl rfl ?_
    refine kw_iload_n (pc := 19) (i := 12) (k := 4) (n := 3) rfl rfl rfl ?_
    refine kw_callV (pc := 20) (i := 13) (Y := mX8_setRow) (a := 0) (As := [.int a, .int i, .int v]) (st := []) kw_hE rfl rfl lvX8_108 arX8_setRow (c_X8_setRow_0 l T (by omega) (by omega) S2 I5 a i v (by first | omega | decide) (by first | omega | decide) (by first | omega | decide) (by first | omega | decide)) (by decide) (Nat.le_of_ble_eq_true rfl) rfl (fun v S10 p9 => ?_)
    obtain ⟨⟨I11, F12⟩, rfl⟩ := p9
    have F13 : kw_F [0, 1, 3] σ S10 := kw_F.tr F7 F12 (by decide)
    have w_14 : (S10.1 0 27).toInt = (S2.1 0 27).toInt := congrArg Int32.toInt (kw_F.at (a := 0) (j := 27) F12 (by decide))
    show kw_AW l 5 kw_E0 KM mX8_lay (p_X8_lay_0 T σ a i v) 23 [(4, .int z4), (0, .ref 0), (1, .int a), (2, .int i), (3, .int v)] [] S10
    refine kw_iconst (pc := 23) (i := 14) (v := 1) rfl rfl ?_
    exact kw_ireturn (pc := 24) (i := 15) (ty := .int) rfl rfl rfl ⟨⟨I11, F13⟩, _, rfl⟩
  · refine kw_iload (pc := 13) (i := 7) (k := 0) (n := 4) rfl rfl ?_
    exact kw_ireturn (pc := 15) (i := 8) (ty := .int) rfl rfl rfl ⟨⟨I5, F7⟩, _, rfl⟩
abbrev p_X8_tear_0 (T : Int) (σ : kw_S) (a : Int32) : Option Value → kw_S → Prop := fun vv σ' => (kw_I (bM T) σ' ∧ kw_F [0, 1, 2] σ σ') ∧ ∃ r : Int32, vv = some (.int r)
set_option maxRecDepth 100000 in
set_option maxHeartbeats 4000000 in
theorem c_X8_tear_0 (l : Launch) (T : Int) (hT0 : 0 ≤ T) (hT1 : T ≤ 3000) (σ : kw_S) (hI : kw_I (bM T) σ) (a : Int32) : kw_Met l 4 KM mX8_tear [.ref 0, .int a] σ (p_X8_tear_0 T σ a) := by
  have r_a := kw_rng a
  have hF0 : kw_F [0, 1, 2] σ σ := kw_F.rf
  have q_m9 : (-9 : Int32).toInt = -9 := rfl
  have q_1 : (1 : Int32).toInt = 1 := rfl
  refine kw_Met.of (by decide) rfl tX8_tear (Nat.le_of_ble_eq_true rfl) ?_
  show kw_AW l 4 kw_E0 KM mX8_tear (p_X8_tear_0 T σ a) 0 [(0, .ref 0), (1, .int a)] [] σ
  refine kw_aload_n (pc := 0) (i := 0) (k := 0) (n := 0) rfl rfl rfl ?_
  refine kw_iload_n (pc := 1) (i := 1) (k := 1) (n := 1) rfl rfl rfl ?_
  refine kw_callV (pc := 2) (i := 2) (Y := mX8_askedRow) (a := 0) (As := [.int a]) (st := []) kw_hE rfl rfl lvX8_112 arX8_askedRow (c_X8_askedRow_0 l T (by omega) (by omega) σ hI a ) (by decide) (Nat.le_of_ble_eq_true rfl) rfl (fun v S2 p1 => ?_)
  obtain ⟨⟨I5, F6⟩, z4, rfl, f3⟩ := p1
  have F7 : kw_F [0, 1, 2] σ S2 := kw_F.tr hF0 F6 (by decide)
  have r_z4 := kw_rng z4
  show kw_AW l 4 kw_E0 KM mX8_tear (p_X8_tear_0 T σ a) 5 [(0, .ref 0), (1, .int a)] [.int z4] S2
  refine kw_istore_n (pc := 5) (i := 3) (n := 2) (lv' := [(2, .int z4), (0, .ref 0), (1, .int a)]) rfl rfl (by decide) rfl ?_
  refine kw_iload_n (pc := 6) (i := 4) (k := 0) (n := 2) rfl rfl rfl ?_
  refine kw_if_ge (pc := 7) (i := 5) (tgt := 12) rfl rfl (fun c8 => ?_) (fun c8 => ?_)
  · refine kw_aload_n (pc := 12) (i := 8) (k := 1) (n := 0) rfl rfl rfl ?_
    refine kw_get (pc := 13) (i := 9) (v := .ref 2) rfl rfl rfl lkX8_17 (fun _ => rfl) ?_
    refine kw_iload_n (pc := 16) (i := 10) (k := 2) (n := 1) rfl rfl rfl ?_
    refine kw_bipush (pc := 17) (i := 11) (v := (-9)) rfl rfl ?_
    refine kw_iast (pc := 19) (i := 12) (n := 6) rfl rfl (by omega) (by omega) ?_
    have I9 : kw_I (bM T) (kw_ui S2 2 a.toNatClampNeg (-9)) := kw_I_ui I5 (show -9 ≤ ((-9) : Int32).toInt by omega) (show ((-9) : Int32).toInt ≤ 40 by omega)
    have F10 : kw_F [0, 1, 2] σ (kw_ui S2 2 a.toNatClampNeg (-9)) := kw_F_ui F7 (by decide)
    refine kw_iconst (pc := 20) (i := 13) (v := 1) rfl rfl ?_
    exact kw_ireturn (pc := 21) (i := 14) (ty := .int) rfl rfl rfl ⟨⟨I9, F10⟩, _, rfl⟩
  · refine kw_iload_n (pc := 10) (i := 6) (k := 0) (n := 2) rfl rfl rfl ?_
    exact kw_ireturn (pc := 11) (i := 7) (ty := .int) rfl rfl rfl ⟨⟨I5, F7⟩, _, rfl⟩
abbrev p_X8_copy_0 (T : Int) (σ : kw_S) (a : Int32) (i : Int32) (t : Int32) (j : Int32) (n : Int32) : Option Value → kw_S → Prop := fun vv σ' => (kw_I (bM T) σ' ∧ kw_F [0, 1, 3, 4] σ σ') ∧ ∃ r : Int32, vv = some (.int r)
set_option maxRecDepth 100000 in
set_option maxHeartbeats 4000000 in
theorem c_X8_copy_0 (l : Launch) (T : Int) (hT0 : 0 ≤ T) (hT1 : T ≤ 3000) (σ : kw_S) (hI : kw_I (bM T) σ) (a : Int32) (i : Int32) (t : Int32) (j : Int32) (n : Int32) : kw_Met l 3 KM mX8_copy [.ref 0, .int a, .int i, .int t, .int j, .int n] σ (p_X8_copy_0 T σ a i t j n) := by
  have r_a := kw_rng a
  have r_i := kw_rng i
  have r_t := kw_rng t
  have r_j := kw_rng j
  have r_n := kw_rng n
  have hF0 : kw_F [0, 1, 3, 4] σ σ := kw_F.rf
  have q_m1 : (-1 : Int32).toInt = -1 := rfl
  have q_0 : (0 : Int32).toInt = 0 := rfl
  have q_1 : (1 : Int32).toInt = 1 := rfl
  have q_2 : (2 : Int32).toInt = 2 := rfl
  have q_5 : (5 : Int32).toInt = 5 := rfl
  refine kw_Met.of (by decide) rfl tX8_copy (Nat.le_of_ble_eq_true rfl) ?_
  show kw_AW l 3 kw_E0 KM mX8_copy (p_X8_copy_0 T σ a i t j n) 0 [(0, .ref 0), (1, .int a), (2, .int i), (3, .int t), (4, .int j), (5, .int n)] [] σ
  refine kw_iload_n (pc := 0) (i := 0) (k := 1) (n := 1) rfl rfl rfl ?_
  refine kw_callS (pc := 1) (i := 1) (Y := mX8_isRow) (As := [.int a]) (st := []) kw_hE rfl lsX8_97 arX8_isRow (c_X8_isRow l T (by omega) (by omega) σ hI a ) (by decide) (Nat.le_of_ble_eq_true rfl) rfl (fun v S2 p1 => ?_)
  obtain ⟨e7, z6, rfl, f3, f4, f5⟩ := p1
  rw [e7]
  have r_z6 := kw_rng z6
  show kw_AW l 3 kw_E0 KM mX8_copy (p_X8_copy_0 T σ a i t j n) 4 [(0, .ref 0), (1, .int a), (2, .int i), (3, .int t), (4, .int j), (5, .int n)] [.int z6] σ
  refine kw_if_eq (pc := 4) (i := 2) (tgt := 14) rfl rfl (fun c8 => ?_) (fun c8 => ?_)
  · refine kw_iconst (pc := 14) (i := 6) (v := (-1)) rfl rfl ?_
    exact kw_ireturn (pc := 15) (i := 7) (ty := .int) rfl rfl rfl ⟨⟨hI, hF0⟩, _, rfl⟩
  · refine kw_iload_n (pc := 7) (i := 3) (k := 3) (n := 3) rfl rfl rfl ?_
    refine kw_callS (pc := 8) (i := 4) (Y := mX8_isRow) (As := [.int t]) (st := []) kw_hE rfl lsX8_97 arX8_isRow (c_X8_isRow l T (by omega) (by omega) σ hI t ) (by decide) (Nat.le_of_ble_eq_true rfl) rfl (fun v S10 p9 => ?_)
    obtain ⟨e15, z14, rfl, f11, f12, f13⟩ := p9
    rw [e15]
    have r_z14 := kw_rng z14
    show kw_AW l 3 kw_E0 KM mX8_copy (p_X8_copy_0 T σ a i t j n) 11 [(0, .ref 0), (1, .int a), (2, .int i), (3, .int t), (4, .int j), (5, .int n)] [.int z14] σ
    refine kw_if_ne (pc := 11) (i := 5) (tgt := 16) rfl rfl (fun c16 => ?_) (fun c16 => ?_)
    · refine kw_iload (pc := 16) (i := 8) (k := 5) (n := 5) rfl rfl ?_
      refine kw_if_ge (pc := 18) (i := 9) (tgt := 27) rfl rfl (fun c17 => ?_) (fun c17 => ?_)
      · refine kw_aload_n (pc := 27) (i := 14) (k := 0) (n := 0) rfl rfl rfl ?_
        refine kw_get (pc := 28) (i := 15) (v := .ref 2) rfl rfl rfl lkX8_17 (fun _ => rfl) ?_
        refine kw_iload_n (pc := 31) (i := 16) (k := 1) (n := 1) rfl rfl rfl ?_
        refine kw_iald (pc := 32) (i := 17) (n := 6) rfl rfl (by omega) (by omega) (fun z18 e_z18 => ?_)
        have t_z18 := congrArg Int32.toInt e_z18
        have b_z18 : -9 ≤ z18.toInt ∧ z18.toInt ≤ 40 := by rw [e_z18]; exact hI 2 _
        refine kw_if_lt (pc := 33) (i := 18) (tgt := 45) rfl rfl (fun c19 => ?_) (fun c19 => ?_)
        · refine kw_aload_n (pc := 45) (i := 24) (k := 0) (n := 0) rfl rfl rfl ?_
          refine kw_iconst (pc := 46) (i := 25) (v := 1) rfl rfl ?_
          refine kw_callV (pc := 47) (i := 26) (Y := mX8_meet) (a := 0) (As := [.int 1]) (st := []) kw_hE rfl rfl lvX8_101 arX8_meet (c_X8_meet_0 l T (by omega) (by omega) σ hI 1 (by first | omega | decide) (by first | omega | decide)) (by decide) (Nat.le_of_ble_eq_true rfl) rfl (fun v S21 p20 => ?_)
          obtain ⟨⟨I24, F25⟩, z23, rfl, f22⟩ := p20
          have F26 : kw_F [0, 1, 3, 4] σ S21 := kw_F.tr hF0 F25 (by decide)
          have r_z23 := kw_rng z23
          show kw_AW l 3 kw_E0 KM mX8_copy (p_X8_copy_0 T σ a i t j n) 50 [(0, .ref 0), (1, .int a), (2, .int i), (3, .int t), (4, .int j), (5, .int n)] [.int z23] S21
          exact kw_ireturn (pc := 50) (i := 27) (ty := .int) rfl rfl rfl ⟨⟨I24, F26⟩, _, rfl⟩
        · refine kw_aload_n (pc := 36) (i := 19) (k := 0) (n := 0) rfl rfl rfl ?_
          refine kw_get (pc := 37) (i := 20) (v := .ref 2) rfl rfl rfl lkX8_17 (fun _ => rfl) ?_
          refine kw_iload_n (pc := 40) (i := 21) (k := 3) (n := 3) rfl rfl rfl ?_
          refine kw_iald (pc := 41) (i := 22) (n := 6) rfl rfl (by omega) (by omega) (fun z27 e_z27 => ?_)
          have t_z27 := congrArg Int32.toInt e_z27
          have b_z27 : -9 ≤ z27.toInt ∧ z27.toInt ≤ 40 := by rw [e_z27]; exact hI 2 _
          refine kw_if_ge (pc := 42) (i := 23) (tgt := 51) rfl rfl (fun c28 => ?_) (fun c28 => ?_)
          · refine kw_iload_n (pc := 51) (i := 28) (k := 2) (n := 2) rfl rfl rfl ?_
            refine kw_if_lt (pc := 52) (i := 29) (tgt := 95) rfl rfl (fun c29 => ?_) (fun c29 => ?_)
            · refine kw_aload_n (pc := 95) (i := 56) (k := 0) (n := 0) rfl rfl rfl ?_
              refine kw_iconst (pc := 96) (i := 57) (v := 2) rfl rfl ?_
              refine kw_callV (pc := 97) (i := 58) (Y := mX8_meet) (a := 0) (As := [.int 2]) (st := []) kw_hE rfl rfl lvX8_101 arX8_meet (c_X8_meet_0 l T (by omega) (by omega) σ hI 2 (by first | omega | decide) (by first | omega | decide)) (by decide) (Nat.le_of_ble_eq_true rfl) rfl (fun v S31 p30 => ?_)
              obtain ⟨⟨I34, F35⟩, z33, rfl, f32⟩ := p30
              have F36 : kw_F [0, 1, 3, 4] σ S31 := kw_F.tr hF0 F35 (by decide)
              have r_z33 := kw_rng z33
              show kw_AW l 3 kw_E0 KM mX8_copy (p_X8_copy_0 T σ a i t j n) 100 [(0, .ref 0), (1, .int a), (2, .int i), (3, .int t), (4, .int j), (5, .int n)] [.int z33] S31
              exact kw_ireturn (pc := 100) (i := 59) (ty := .int) rfl rfl rfl ⟨⟨I34, F36⟩, _, rfl⟩
            · refine kw_iload (pc := 55) (i := 30) (k := 4) (n := 4) rfl rfl ?_
              refine kw_if_lt (pc := 57) (i := 31) (tgt := 95) rfl rfl (fun c37 => ?_) (fun c37 => ?_)
              · refine kw_aload_n (pc := 95) (i := 56) (k := 0) (n := 0) rfl rfl rfl ?_
                refine kw_iconst (pc := 96) (i := 57) (v := 2) rfl rfl ?_
                refine kw_callV (pc := 97) (i := 58) (Y := mX8_meet) (a := 0) (As := [.int 2]) (st := []) kw_hE rfl rfl lvX8_101 arX8_meet (c_X8_meet_0 l T (by omega) (by omega) σ hI 2 (by first | omega | decide) (by first | omega | decide)) (by decide) (Nat.le_of_ble_eq_true rfl) rfl (fun v S39 p38 => ?_)
                obtain ⟨⟨I42, F43⟩, z41, rfl, f40⟩ := p38
                have F44 : kw_F [0, 1, 3, 4] σ S39 := kw_F.tr hF0 F43 (by decide)
                have r_z41 := kw_rng z41
                show kw_AW l 3 kw_E0 KM mX8_copy (p_X8_copy_0 T σ a i t j n) 100 [(0, .ref 0), (1, .int a), (2, .int i), (3, .int t), (4, .int j), (5, .int n)] [.int z41] S39
                exact kw_ireturn (pc := 100) (i := 59) (ty := .int) rfl rfl rfl ⟨⟨I42, F44⟩, _, rfl⟩
              · refine kw_iload_n (pc := 60) (i := 32) (k := 2) (n := 2) rfl rfl rfl ?_
                refine kw_i2l (pc := 61) (i := 33) rfl (fun z45 e_z45 t_z45 => ?_)
                refine kw_iload (pc := 62) (i := 34) (k := 5) (n := 5) rfl rfl ?_
                refine kw_i2l (pc := 64) (i := 35) rfl (fun z46 e_z46 t_z46 => ?_)
                refine kw_ladd (pc := 65) (i := 36) rfl (fun z47 e_z47 => ?_)
                have t_z47 := kw_laddI z45 z46 z47 e_z47
                first | (have u_z47 : z47.toInt = z45.toInt + z46.toInt := (by omega); clear t_z47) | skip
                refine kw_aload_n (pc := 66) (i := 37) (k := 0) (n := 0) rfl rfl rfl ?_
                refine kw_get (pc := 67) (i := 38) (v := .ref 2) rfl rfl rfl lkX8_17 (fun _ => rfl) ?_
                refine kw_iload_n (pc := 70) (i := 39) (k := 1) (n := 1) rfl rfl rfl ?_
                refine kw_iald (pc := 71) (i := 40) (n := 6) rfl rfl (by omega) (by omega) (fun z48 e_z48 => ?_)
                have t_z48 := congrArg Int32.toInt e_z48
                have b_z48 : -9 ≤ z48.toInt ∧ z48.toInt ≤ 40 := by rw [e_z48]; exact hI 2 _
                refine kw_i2l (pc := 72) (i := 41) rfl (fun z49 e_z49 t_z49 => ?_)
                refine kw_lcmp (pc := 73) (i := 42) rfl (fun z50 e_z50 t_z50 => ?_)
                refine kw_if_gt (pc := 74) (i := 43) (tgt := 95) rfl rfl (fun c51 => ?_) (fun c51 => ?_)
                · refine kw_aload_n (pc := 95) (i := 56) (k := 0) (n := 0) rfl rfl rfl ?_
                  refine kw_iconst (pc := 96) (i := 57) (v := 2) rfl rfl ?_
                  refine kw_callV (pc := 97) (i := 58) (Y := mX8_meet) (a := 0) (As := [.int 2]) (st := []) kw_hE rfl rfl lvX8_101 arX8_meet (c_X8_meet_0 l T (by omega) (by omega) σ hI 2 (by first | omega | decide) (by first | omega | decide)) (by decide) (Nat.le_of_ble_eq_true rfl) rfl (fun v S53 p52 => ?_)
                  obtain ⟨⟨I56, F57⟩, z55, rfl, f54⟩ := p52
                  have F58 : kw_F [0, 1, 3, 4] σ S53 := kw_F.tr hF0 F57 (by decide)
                  have r_z55 := kw_rng z55
                  show kw_AW l 3 kw_E0 KM mX8_copy (p_X8_copy_0 T σ a i t j n) 100 [(0, .ref 0), (1, .int a), (2, .int i), (3, .int t), (4, .int j), (5, .int n)] [.int z55] S53
                  exact kw_ireturn (pc := 100) (i := 59) (ty := .int) rfl rfl rfl ⟨⟨I56, F58⟩, _, rfl⟩
                · refine kw_iload (pc := 77) (i := 44) (k := 4) (n := 4) rfl rfl ?_
                  refine kw_i2l (pc := 79) (i := 45) rfl (fun z59 e_z59 t_z59 => ?_)
                  refine kw_iload (pc := 80) (i := 46) (k := 5) (n := 5) rfl rfl ?_
                  refine kw_i2l (pc := 82) (i := 47) rfl (fun z60 e_z60 t_z60 => ?_)
                  refine kw_ladd (pc := 83) (i := 48) rfl (fun z61 e_z61 => ?_)
                  have t_z61 := kw_laddI z59 z60 z61 e_z61
                  first | (have u_z61 : z61.toInt = z59.toInt + z60.toInt := (by omega); clear t_z61) | skip
                  refine kw_aload_n (pc := 84) (i := 49) (k := 0) (n := 0) rfl rfl rfl ?_
                  refine kw_get (pc := 85) (i := 50) (v := .ref 2) rfl rfl rfl lkX8_17 (fun _ => rfl) ?_
                  refine kw_iload_n (pc := 88) (i := 51) (k := 3) (n := 3) rfl rfl rfl ?_
                  refine kw_iald (pc := 89) (i := 52) (n := 6) rfl rfl (by omega) (by omega) (fun z62 e_z62 => ?_)
                  have t_z62 := congrArg Int32.toInt e_z62
                  have b_z62 : -9 ≤ z62.toInt ∧ z62.toInt ≤ 40 := by rw [e_z62]; exact hI 2 _
                  refine kw_i2l (pc := 90) (i := 53) rfl (fun z63 e_z63 t_z63 => ?_)
                  refine kw_lcmp (pc := 91) (i := 54) rfl (fun z64 e_z64 t_z64 => ?_)
                  refine kw_if_le (pc := 92) (i := 55) (tgt := 101) rfl rfl (fun c65 => ?_) (fun c65 => ?_)
                  · refine kw_iconst (pc := 101) (i := 60) (v := 0) rfl rfl ?_
                    refine kw_istore (pc := 102) (i := 61) (n := 6) (lv' := [(6, .int 0), (0, .ref 0), (1, .int a), (2, .int i), (3, .int t), (4, .int j), (5, .int n)]) rfl (by decide) rfl ?_
                    have L70 : ∀ (n74 : Nat) (x66 : Int32) (S67 : kw_S), kw_I (bM T) S67 → kw_F [0, 1, 3, 4] σ S67 → 0 ≤ x66.toInt → (n.toInt - x66.toInt).toNat < n74 → kw_AW l 3 kw_E0 KM mX8_copy (p_X8_copy_0 T σ a i t j n) 104 [(6, .int x66), (0, .ref 0), (1, .int a), (2, .int i), (3, .int t), (4, .int j), (5, .int n)] [] S67 := by
                      intro n74
                      induction n74 with
                      | zero => intro x66 S67 I68 F69 v72 m73; exact absurd m73 (Nat.not_lt_zero _)
                      | succ n74 ih71 =>
                        intro x66 S67 I68 F69 v72 m73
                        have r_x66 := kw_rng x66
                        refine kw_iload (pc := 104) (i := 62) (k := 0) (n := 6) rfl rfl ?_
                        refine kw_iload (pc := 106) (i := 63) (k := 6) (n := 5) rfl rfl ?_
                        refine kw_icmp_ge (pc := 108) (i := 64) (tgt := 133) rfl rfl (fun c75 => ?_) (fun c75 => ?_)
                        · refine kw_iconst (pc := 133) (i := 77) (v := 0) rfl rfl ?_
                          refine kw_istore (pc := 134) (i := 78) (n := 6) (lv' := [(6, .int 0), (0, .ref 0), (1, .int a), (2, .int i), (3, .int t), (4, .int j), (5, .int n)]) rfl (by decide) rfl ?_
                          have L80 : ∀ (n84 : Nat) (x76 : Int32) (S77 : kw_S), kw_I (bM T) S77 → kw_F [0, 1, 3, 4] σ S77 → 0 ≤ x76.toInt → (n.toInt - x76.toInt).toNat < n84 → kw_AW l 3 kw_E0 KM mX8_copy (p_X8_copy_0 T σ a i t j n) 136 [(6, .int x76), (0, .ref 0), (1, .int a), (2, .int i), (3, .int t), (4, .int j), (5, .int n)] [] S77 := by
                            intro n84
                            induction n84 with
                            | zero => intro x76 S77 I78 F79 v82 m83; exact absurd m83 (Nat.not_lt_zero _)
                            | succ n84 ih81 =>
                              intro x76 S77 I78 F79 v82 m83
                              have r_x76 := kw_rng x76
                              refine kw_iload (pc := 136) (i := 79) (k := 0) (n := 6) rfl rfl ?_
                              refine kw_iload (pc := 138) (i := 80) (k := 6) (n := 5) rfl rfl ?_
                              refine kw_icmp_ge (pc := 140) (i := 81) (tgt := 166) rfl rfl (fun c85 => ?_) (fun c85 => ?_)
                              · refine kw_iconst (pc := 166) (i := 94) (v := 1) rfl rfl ?_
                                exact kw_ireturn (pc := 167) (i := 95) (ty := .int) rfl rfl rfl ⟨⟨I78, F79⟩, _, rfl⟩
                              · refine kw_aload_n (pc := 143) (i := 82) (k := 1) (n := 0) rfl rfl rfl ?_
                                refine kw_iload_n (pc := 144) (i := 83) (k := 4) (n := 3) rfl rfl rfl ?_
                                refine kw_iload (pc := 145) (i := 84) (k := 5) (n := 4) rfl rfl ?_
                                refine kw_iload (pc := 147) (i := 85) (k := 0) (n := 6) rfl rfl ?_
                                refine kw_iadd (pc := 149) (i := 86) rfl (fun z86 e_z86 t_z86 => ?_)
                                first | (have u_z86 : z86.toInt = j.toInt + x76.toInt := (by omega); clear t_z86) | skip
                                refine kw_aload_n (pc := 150) (i := 87) (k := 1) (n := 0) rfl rfl rfl ?_
                                refine kw_get (pc := 151) (i := 88) (v := .ref 4) rfl rfl rfl lkX8_23 (fun _ => rfl) ?_
                                refine kw_iload (pc := 154) (i := 89) (k := 0) (n := 6) rfl rfl ?_
                                refine kw_iald (pc := 156) (i := 90) (n := 40) rfl rfl (by omega) (by omega) (fun z87 e_z87 => ?_)
                                have t_z87 := congrArg Int32.toInt e_z87
                                have r_z87 := kw_rng z87
                                refine kw_callV (pc := 157) (i := 91) (Y := mX8_setRow) (a := 0) (As := [.int t, .int z86, .int z87]) (st := []) kw_hE rfl rfl lvX8_108 arX8_setRow (c_X8_setRow_0 l T (by omega) (by omega) S77 I78 t z86 z87 (by first | omega | decide) (by first | omega | decide) (by first | omega | decide) (by first | omega | decide)) (by decide) (Nat.le_of_ble_eq_true rfl) rfl (fun v S89 p88 => ?_)
                                obtain ⟨⟨I90, F91⟩, rfl⟩ := p88
                                have F92 : kw_F [0, 1, 3, 4] σ S89 := kw_F.tr F79 F91 (by decide)
                                have w_93 : (S89.1 0 27).toInt = (S77.1 0 27).toInt := congrArg Int32.toInt (kw_F.at (a := 0) (j := 27) F91 (by decide))
                                show kw_AW l 3 kw_E0 KM mX8_copy (p_X8_copy_0 T σ a i t j n) 160 [(6, .int x76), (0, .ref 0), (1, .int a), (2, .int i), (3, .int t), (4, .int j), (5, .int n)] [] S89
                                refine kw_iinc' (pc := 160) (i := 92) (k := 0) (fun z => [(6, .int z), (0, .ref 0), (1, .int a), (2, .int i), (3, .int t), (4, .int j), (5, .int n)]) rfl rfl (by decide) rfl (fun _ => rfl) (fun z94 e_z94 t_z94 => ?_)
                                first | (have u_z94 : z94.toInt = x76.toInt + 1 := (by omega); clear t_z94) | skip
                                refine kw_goto (pc := 163) (i := 93) (tgt := 136) rfl rfl ?_
                                refine kw_sub (lv' := [(6, .int z94), (0, .ref 0), (1, .int a), (2, .int i), (3, .int t), (4, .int j), (5, .int n)]) [0, 1, 2, 3, 4, 5, 6] rfl ?_
                                exact ih81 z94 S89 I90 F92 (by omega) (by omega)
                          exact L80 _ 0 S67 I68 F69 (by omega) (Nat.lt_succ_self _)
                        · refine kw_aload_n (pc := 111) (i := 65) (k := 1) (n := 0) rfl rfl rfl ?_
                          refine kw_get (pc := 112) (i := 66) (v := .ref 4) rfl rfl rfl lkX8_23 (fun _ => rfl) ?_
                          refine kw_iload (pc := 115) (i := 67) (k := 0) (n := 6) rfl rfl ?_
                          refine kw_aload_n (pc := 117) (i := 68) (k := 1) (n := 0) rfl rfl rfl ?_
                          refine kw_iload_n (pc := 118) (i := 69) (k := 2) (n := 1) rfl rfl rfl ?_
                          refine kw_iload_n (pc := 119) (i := 70) (k := 3) (n := 2) rfl rfl rfl ?_
                          refine kw_iload (pc := 120) (i := 71) (k := 0) (n := 6) rfl rfl ?_
                          refine kw_iadd (pc := 122) (i := 72) rfl (fun z95 e_z95 t_z95 => ?_)
                          first | (have u_z95 : z95.toInt = i.toInt + x66.toInt := (by omega); clear t_z95) | skip
                          refine kw_callV (pc := 123) (i := 73) (Y := mX8_rowAt) (a := 0) (As := [.int a, .int z95]) (st := [.int x66, .ref 4]) kw_hE rfl rfl lvX8_115 arX8_rowAt (c_X8_rowAt_0 l T (by omega) (by omega) S67 I68 a z95 (by first | omega | decide) (by first | omega | decide) (by first | omega | decide) (by first | omega | decide)) (by decide) (Nat.le_of_ble_eq_true rfl) rfl (fun v S97 p96 => ?_)
                          obtain ⟨e99, z98, rfl⟩ := p96
                          rw [e99]
                          have r_z98 := kw_rng z98
                          show kw_AW l 3 kw_E0 KM mX8_copy (p_X8_copy_0 T σ a i t j n) 126 [(6, .int x66), (0, .ref 0), (1, .int a), (2, .int i), (3, .int t), (4, .int j), (5, .int n)] [.int z98, .int x66, .ref 4] S67
                          refine kw_iast (pc := 126) (i := 74) (n := 40) rfl rfl (by omega) (by omega) ?_
                          have I100 : kw_I (bM T) (kw_ui S67 4 x66.toNatClampNeg z98) := kw_I_ui I68 (kw_rng z98).1 (Int.le_of_lt_add_one (kw_rng z98).2)
                          have F101 : kw_F [0, 1, 3, 4] σ (kw_ui S67 4 x66.toNatClampNeg z98) := kw_F_ui F69 (by decide)
                          refine kw_iinc' (pc := 127) (i := 75) (k := 0) (fun z => [(6, .int z), (0, .ref 0), (1, .int a), (2, .int i), (3, .int t), (4, .int j), (5, .int n)]) rfl rfl (by decide) rfl (fun _ => rfl) (fun z102 e_z102 t_z102 => ?_)
                          first | (have u_z102 : z102.toInt = x66.toInt + 1 := (by omega); clear t_z102) | skip
                          refine kw_goto (pc := 130) (i := 76) (tgt := 104) rfl rfl ?_
                          refine kw_sub (lv' := [(6, .int z102), (0, .ref 0), (1, .int a), (2, .int i), (3, .int t), (4, .int j), (5, .int n)]) [0, 1, 2, 3, 4, 5, 6] rfl ?_
                          exact ih71 z102 (kw_ui S67 4 x66.toNatClampNeg z98) I100 F101 (by omega) (by omega)
                    exact L70 _ 0 σ hI hF0 (by omega) (Nat.lt_succ_self _)
                  · refine kw_aload_n (pc := 95) (i := 56) (k := 0) (n := 0) rfl rfl rfl ?_
                    refine kw_iconst (pc := 96) (i := 57) (v := 2) rfl rfl ?_
                    refine kw_callV (pc := 97) (i := 58) (Y := mX8_meet) (a := 0) (As := [.int 2]) (st := []) kw_hE rfl rfl lvX8_101 arX8_meet (c_X8_meet_0 l T (by omega) (by omega) σ hI 2 (by first | omega | decide) (by first | omega | decide)) (by decide) (Nat.le_of_ble_eq_true rfl) rfl (fun v S104 p103 => ?_)
                    obtain ⟨⟨I107, F108⟩, z106, rfl, f105⟩ := p103
                    have F109 : kw_F [0, 1, 3, 4] σ S104 := kw_F.tr hF0 F108 (by decide)
                    have r_z106 := kw_rng z106
                    show kw_AW l 3 kw_E0 KM mX8_copy (p_X8_copy_0 T σ a i t j n) 100 [(0, .ref 0), (1, .int a), (2, .int i), (3, .int t), (4, .int j), (5, .int n)] [.int z106] S104
                    exact kw_ireturn (pc := 100) (i := 59) (ty := .int) rfl rfl rfl ⟨⟨I107, F109⟩, _, rfl⟩
          · refine kw_aload_n (pc := 45) (i := 24) (k := 0) (n := 0) rfl rfl rfl ?_
            refine kw_iconst (pc := 46) (i := 25) (v := 1) rfl rfl ?_
            refine kw_callV (pc := 47) (i := 26) (Y := mX8_meet) (a := 0) (As := [.int 1]) (st := []) kw_hE rfl rfl lvX8_101 arX8_meet (c_X8_meet_0 l T (by omega) (by omega) σ hI 1 (by first | omega | decide) (by first | omega | decide)) (by decide) (Nat.le_of_ble_eq_true rfl) rfl (fun v S111 p110 => ?_)
            obtain ⟨⟨I114, F115⟩, z113, rfl, f112⟩ := p110
            have F116 : kw_F [0, 1, 3, 4] σ S111 := kw_F.tr hF0 F115 (by decide)
            have r_z113 := kw_rng z113
            show kw_AW l 3 kw_E0 KM mX8_copy (p_X8_copy_0 T σ a i t j n) 50 [(0, .ref 0), (1, .int a), (2, .int i), (3, .int t), (4, .int j), (5, .int n)] [.int z113] S111
            exact kw_ireturn (pc := 50) (i := 27) (ty := .int) rfl rfl rfl ⟨⟨I114, F116⟩, _, rfl⟩
      · refine kw_aload_n (pc := 21) (i := 10) (k := 0) (n := 0) rfl rfl rfl ?_
        refine kw_iconst (pc := 22) (i := 11) (v := 5) rfl rfl ?_
        refine kw_callV (pc := 23) (i := 12) (Y := mX8_meet) (a := 0) (As := [.int 5]) (st := []) kw_hE rfl rfl lvX8_101 arX8_meet (c_X8_meet_0 l T (by omega) (by omega) σ hI 5 (by first | omega | decide) (by first | omega | decide)) (by decide) (Nat.le_of_ble_eq_true rfl) rfl (fun v S118 p117 => ?_)
        obtain ⟨⟨I121, F122⟩, z120, rfl, f119⟩ := p117
        have F123 : kw_F [0, 1, 3, 4] σ S118 := kw_F.tr hF0 F122 (by decide)
        have r_z120 := kw_rng z120
        show kw_AW l 3 kw_E0 KM mX8_copy (p_X8_copy_0 T σ a i t j n) 26 [(0, .ref 0), (1, .int a), (2, .int i), (3, .int t), (4, .int j), (5, .int n)] [.int z120] S118
        exact kw_ireturn (pc := 26) (i := 13) (ty := .int) rfl rfl rfl ⟨⟨I121, F123⟩, _, rfl⟩
    · refine kw_iconst (pc := 14) (i := 6) (v := (-1)) rfl rfl ?_
      exact kw_ireturn (pc := 15) (i := 7) (ty := .int) rfl rfl rfl ⟨⟨hI, hF0⟩, _, rfl⟩
abbrev p_X8_mean_0 (T : Int) (σ : kw_S) (a : Int32) : Option Value → kw_S → Prop := fun vv σ' => (kw_I (bM T) σ' ∧ kw_F [0, 1] σ σ') ∧ ∃ r : Int32, vv = some (.int r)
set_option maxRecDepth 100000 in
set_option maxHeartbeats 4000000 in
theorem c_X8_mean_0 (l : Launch) (T : Int) (hT0 : 0 ≤ T) (hT1 : T ≤ 3000) (σ : kw_S) (hI : kw_I (bM T) σ) (a : Int32) : kw_Met l 4 KM mX8_mean [.ref 0, .int a] σ (p_X8_mean_0 T σ a) := by
  have r_a := kw_rng a
  have hF0 : kw_F [0, 1] σ σ := kw_F.rf
  have q_0 : (0 : Int32).toInt = 0 := rfl
  have q_1 : (1 : Int32).toInt = 1 := rfl
  have q_4 : (4 : Int32).toInt = 4 := rfl
  refine kw_Met.of (by decide) rfl tX8_mean (Nat.le_of_ble_eq_true rfl) ?_
  show kw_AW l 4 kw_E0 KM mX8_mean (p_X8_mean_0 T σ a) 0 [(0, .ref 0), (1, .int a)] [] σ
  refine kw_aload_n (pc := 0) (i := 0) (k := 0) (n := 0) rfl rfl rfl ?_
  refine kw_iload_n (pc := 1) (i := 1) (k := 1) (n := 1) rfl rfl rfl ?_
  refine kw_callV (pc := 2) (i := 2) (Y := mX8_askedRow) (a := 0) (As := [.int a]) (st := []) kw_hE rfl rfl lvX8_112 arX8_askedRow (c_X8_askedRow_0 l T (by omega) (by omega) σ hI a ) (by decide) (Nat.le_of_ble_eq_true rfl) rfl (fun v S2 p1 => ?_)
  obtain ⟨⟨I5, F6⟩, z4, rfl, f3⟩ := p1
  have F7 : kw_F [0, 1] σ S2 := kw_F.tr hF0 F6 (by decide)
  have r_z4 := kw_rng z4
  show kw_AW l 4 kw_E0 KM mX8_mean (p_X8_mean_0 T σ a) 5 [(0, .ref 0), (1, .int a)] [.int z4] S2
  refine kw_istore_n (pc := 5) (i := 3) (n := 2) (lv' := [(2, .int z4), (0, .ref 0), (1, .int a)]) rfl rfl (by decide) rfl ?_
  refine kw_iload_n (pc := 6) (i := 4) (k := 0) (n := 2) rfl rfl rfl ?_
  refine kw_if_ge (pc := 7) (i := 5) (tgt := 12) rfl rfl (fun c8 => ?_) (fun c8 => ?_)
  · refine kw_lconst (pc := 12) (i := 8) (v := 0) rfl rfl ?_
    refine kw_lstore_n (pc := 13) (i := 9) (n := 3) (lv' := [(3, .long 0), (2, .int z4), (0, .ref 0), (1, .int a)]) rfl rfl (by decide) rfl ?_
    refine kw_iconst (pc := 14) (i := 10) (v := 0) rfl rfl ?_
    refine kw_istore (pc := 15) (i := 11) (n := 5) (lv' := [(5, .int 0), (3, .long 0), (2, .int z4), (0, .ref 0), (1, .int a)]) rfl (by decide) rfl ?_
    have L11 : ∀ (n15 : Nat) (x9 : Int32) (x10 : Int64), 0 ≤ x9.toInt → (41 - x9.toInt).toNat < n15 → kw_AW l 4 kw_E0 KM mX8_mean (p_X8_mean_0 T σ a) 17 [(5, .int x9), (3, .long x10), (2, .int z4), (0, .ref 0), (1, .int a)] [] S2 := by
      intro n15
      induction n15 with
      | zero => intro x9 x10 v13 m14; exact absurd m14 (Nat.not_lt_zero _)
      | succ n15 ih12 =>
        intro x9 x10 v13 m14
        have r_x9 := kw_rng x9
        refine kw_iload (pc := 17) (i := 12) (k := 0) (n := 5) rfl rfl ?_
        refine kw_aload_n (pc := 19) (i := 13) (k := 3) (n := 0) rfl rfl rfl ?_
        refine kw_get (pc := 20) (i := 14) (v := .ref 2) rfl rfl rfl lkX8_17 (fun _ => rfl) ?_
        refine kw_iload_n (pc := 23) (i := 15) (k := 4) (n := 1) rfl rfl rfl ?_
        refine kw_iald (pc := 24) (i := 16) (n := 6) rfl rfl (by omega) (by omega) (fun z16 e_z16 => ?_)
        have t_z16 := congrArg Int32.toInt e_z16
        have b_z16 : -9 ≤ z16.toInt ∧ z16.toInt ≤ 40 := by rw [e_z16]; exact I5 2 _
        refine kw_icmp_ge (pc := 25) (i := 17) (tgt := 45) rfl rfl (fun c17 => ?_) (fun c17 => ?_)
        · refine kw_aload_n (pc := 45) (i := 28) (k := 3) (n := 0) rfl rfl rfl ?_
          refine kw_get (pc := 46) (i := 29) (v := .ref 2) rfl rfl rfl lkX8_17 (fun _ => rfl) ?_
          refine kw_iload_n (pc := 49) (i := 30) (k := 4) (n := 1) rfl rfl rfl ?_
          refine kw_iald (pc := 50) (i := 31) (n := 6) rfl rfl (by omega) (by omega) (fun z18 e_z18 => ?_)
          have t_z18 := congrArg Int32.toInt e_z18
          have b_z18 : -9 ≤ z18.toInt ∧ z18.toInt ≤ 40 := by rw [e_z18]; exact I5 2 _
          refine kw_if_ne (pc := 51) (i := 32) (tgt := 62) rfl rfl (fun c19 => ?_) (fun c19 => ?_)
          · refine kw_aload_n (pc := 62) (i := 37) (k := 3) (n := 0) rfl rfl rfl ?_
            refine kw_lload_n (pc := 63) (i := 38) (k := 1) (n := 3) rfl rfl rfl ?_
            refine kw_aload_n (pc := 64) (i := 39) (k := 3) (n := 0) rfl rfl rfl ?_
            refine kw_get (pc := 65) (i := 40) (v := .ref 2) rfl rfl rfl lkX8_17 (fun _ => rfl) ?_
            refine kw_iload_n (pc := 68) (i := 41) (k := 4) (n := 1) rfl rfl rfl ?_
            refine kw_iald (pc := 69) (i := 42) (n := 6) rfl rfl (by omega) (by omega) (fun z20 e_z20 => ?_)
            have t_z20 := congrArg Int32.toInt e_z20
            have b_z20 : -9 ≤ z20.toInt ∧ z20.toInt ≤ 40 := by rw [e_z20]; exact I5 2 _
            refine kw_i2l (pc := 70) (i := 43) rfl (fun z21 e_z21 t_z21 => ?_)
            refine kw_ldiv (pc := 71) (i := 44) rfl (by omega) (fun z22 e_z22 => ?_)
            refine kw_l2i (pc := 72) (i := 45) rfl (fun z23 e_z23 => ?_)
            have r_z23 := kw_rng z23
            have t_z23 := kw_l2iI z22 z23 e_z23
            refine kw_iconst (pc := 73) (i := 46) (v := 1) rfl rfl ?_
            refine kw_callV (pc := 74) (i := 47) (Y := mX8_ask) (a := 0) (As := [.int z23, .int 1]) (st := []) kw_hE rfl rfl lvX8_119 arX8_ask (c_X8_ask_0 l T (by omega) (by omega) S2 I5 z23 1 ) (by decide) (Nat.le_of_ble_eq_true rfl) rfl (fun v S25 p24 => ?_)
            obtain ⟨⟨I28, F29⟩, z27, rfl, f26⟩ := p24
            have F30 : kw_F [0, 1] σ S25 := kw_F.tr F7 F29 (by decide)
            have r_z27 := kw_rng z27
            show kw_AW l 4 kw_E0 KM mX8_mean (p_X8_mean_0 T σ a) 77 [(5, .int x9), (3, .long x10), (2, .int z4), (0, .ref 0), (1, .int a)] [.int z27] S25
            exact kw_ireturn (pc := 77) (i := 48) (ty := .int) rfl rfl rfl ⟨⟨I28, F30⟩, _, rfl⟩
          · refine kw_aload_n (pc := 54) (i := 33) (k := 3) (n := 0) rfl rfl rfl ?_
            refine kw_iconst (pc := 55) (i := 34) (v := 4) rfl rfl ?_
            refine kw_callV (pc := 56) (i := 35) (Y := mX8_meet) (a := 0) (As := [.int 4]) (st := []) kw_hE rfl rfl lvX8_101 arX8_meet (c_X8_meet_0 l T (by omega) (by omega) S2 I5 4 (by first | omega | decide) (by first | omega | decide)) (by decide) (Nat.le_of_ble_eq_true rfl) rfl (fun v S32 p31 => ?_)
            obtain ⟨⟨I35, F36⟩, z34, rfl, f33⟩ := p31
            have F37 : kw_F [0, 1] σ S32 := kw_F.tr F7 F36 (by decide)
            have r_z34 := kw_rng z34
            show kw_AW l 4 kw_E0 KM mX8_mean (p_X8_mean_0 T σ a) 59 [(5, .int x9), (3, .long x10), (2, .int z4), (0, .ref 0), (1, .int a)] [.int z34] S32
            refine kw_goto (pc := 59) (i := 36) (tgt := 77) rfl rfl ?_
            exact kw_ireturn (pc := 77) (i := 48) (ty := .int) rfl rfl rfl ⟨⟨I35, F37⟩, _, rfl⟩
        · refine kw_lload_n (pc := 28) (i := 18) (k := 1) (n := 3) rfl rfl rfl ?_
          refine kw_aload_n (pc := 29) (i := 19) (k := 3) (n := 0) rfl rfl rfl ?_
          refine kw_iload_n (pc := 30) (i := 20) (k := 4) (n := 1) rfl rfl rfl ?_
          refine kw_iload (pc := 31) (i := 21) (k := 0) (n := 5) rfl rfl ?_
          refine kw_callV (pc := 33) (i := 22) (Y := mX8_rowAt) (a := 0) (As := [.int a, .int x9]) (st := [.long x10]) kw_hE rfl rfl lvX8_115 arX8_rowAt (c_X8_rowAt_0 l T (by omega) (by omega) S2 I5 a x9 (by first | omega | decide) (by first | omega | decide) (by first | omega | decide) (by first | omega | decide)) (by decide) (Nat.le_of_ble_eq_true rfl) rfl (fun v S39 p38 => ?_)
          obtain ⟨e41, z40, rfl⟩ := p38
          rw [e41]
          have r_z40 := kw_rng z40
          show kw_AW l 4 kw_E0 KM mX8_mean (p_X8_mean_0 T σ a) 36 [(5, .int x9), (3, .long x10), (2, .int z4), (0, .ref 0), (1, .int a)] [.int z40, .long x10] S2
          refine kw_i2l (pc := 36) (i := 23) rfl (fun z42 e_z42 t_z42 => ?_)
          refine kw_ladd (pc := 37) (i := 24) rfl (fun z43 e_z43 => ?_)
          have t_z43 := kw_laddI x10 z42 z43 e_z43
          first | (have u_z43 : z43.toInt = x10.toInt + z42.toInt := (by omega); clear t_z43) | skip
          refine kw_lstore_n (pc := 38) (i := 25) (n := 3) (lv' := [(3, .long z43), (5, .int x9), (2, .int z4), (0, .ref 0), (1, .int a)]) rfl rfl (by decide) rfl ?_
          refine kw_iinc' (pc := 39) (i := 26) (k := 1) (fun z => [(5, .int z), (3, .long z43), (2, .int z4), (0, .ref 0), (1, .int a)]) rfl rfl (by decide) rfl (fun _ => rfl) (fun z44 e_z44 t_z44 => ?_)
          first | (have u_z44 : z44.toInt = x9.toInt + 1 := (by omega); clear t_z44) | skip
          refine kw_goto (pc := 42) (i := 27) (tgt := 17) rfl rfl ?_
          refine kw_sub (lv' := [(5, .int z44), (3, .long z43), (2, .int z4), (0, .ref 0), (1, .int a)]) [0, 1, 2, 3, 4] rfl ?_
          exact ih12 z44 z43 (by omega) (by omega)
    exact L11 _ 0 0 (by omega) (Nat.lt_succ_self _)
  · refine kw_iload_n (pc := 10) (i := 6) (k := 0) (n := 2) rfl rfl rfl ?_
    exact kw_ireturn (pc := 11) (i := 7) (ty := .int) rfl rfl rfl ⟨⟨I5, F7⟩, _, rfl⟩
abbrev p_X8_put_0 (T : Int) (σ : kw_S) (a : Int32) (i : Int32) (v : Int32) : Option Value → kw_S → Prop := fun vv σ' => (kw_I (bM T) σ' ∧ kw_F [0, 1, 6] σ σ') ∧ ∃ r : Int32, vv = some (.int r)
set_option maxRecDepth 100000 in
set_option maxHeartbeats 4000000 in
theorem c_X8_put_0 (l : Launch) (T : Int) (hT0 : 0 ≤ T) (hT1 : T ≤ 3000) (σ : kw_S) (hI : kw_I (bM T) σ) (a : Int32) (i : Int32) (v : Int32) : kw_Met l 4 KM mX8_put [.ref 0, .int a, .int i, .int v] σ (p_X8_put_0 T σ a i v) := by
  have r_a := kw_rng a
  have r_i := kw_rng i
  have r_v := kw_rng v
  have hF0 : kw_F [0, 1, 6] σ σ := kw_F.rf
  have q_0 : (0 : Int32).toInt = 0 := rfl
  have q_1 : (1 : Int32).toInt = 1 := rfl
  have q_2 : (2 : Int32).toInt = 2 := rfl
  have q_60 : (60 : Int32).toInt = 60 := rfl
  have q_1000 : (1000 : Int32).toInt = 1000 := rfl
  refine kw_Met.of (by decide) rfl tX8_put (Nat.le_of_ble_eq_true rfl) ?_
  show kw_AW l 4 kw_E0 KM mX8_put (p_X8_put_0 T σ a i v) 0 [(0, .ref 0), (1, .int a), (2, .int i), (3, .int v)] [] σ
  refine kw_aload_n (pc := 0) (i := 0) (k := 0) (n := 0) rfl rfl rfl ?_
  refine kw_iload_n (pc := 1) (i := 1) (k := 1) (n := 1) rfl rfl rfl ?_
  refine kw_callV (pc := 2) (i := 2) (Y := mX8_askedText) (a := 0) (As := [.int a]) (st := []) kw_hE rfl rfl lvX8_125 arX8_askedText (c_X8_askedText_0 l T (by omega) (by omega) σ hI a ) (by decide) (Nat.le_of_ble_eq_true rfl) rfl (fun v S2 p1 => ?_)
  obtain ⟨⟨I5, F6⟩, z4, rfl, f3⟩ := p1
  have F7 : kw_F [0, 1, 6] σ S2 := kw_F.tr hF0 F6 (by decide)
  have r_z4 := kw_rng z4
  show kw_AW l 4 kw_E0 KM mX8_put (p_X8_put_0 T σ a i v) 5 [(0, .ref 0), (1, .int a), (2, .int i), (3, .int v)] [.int z4] S2
  refine kw_istore (pc := 5) (i := 3) (n := 4) (lv' := [(4, .int z4), (0, .ref 0), (1, .int a), (2, .int i), (3, .int v)]) rfl (by decide) rfl ?_
  refine kw_iload (pc := 7) (i := 4) (k := 0) (n := 4) rfl rfl ?_
  refine kw_if_ge (pc := 9) (i := 5) (tgt := 15) rfl rfl (fun c8 => ?_) (fun c8 => ?_)
  · refine kw_iload_n (pc := 15) (i := 8) (k := 3) (n := 2) rfl rfl rfl ?_
    refine kw_iconst (pc := 16) (i := 9) (v := 0) rfl rfl ?_
    refine kw_aload_n (pc := 17) (i := 10) (k := 1) (n := 0) rfl rfl rfl ?_
    refine kw_get (pc := 18) (i := 11) (v := .ref 5) rfl rfl rfl lkX8_26 (fun _ => rfl) ?_
    refine kw_iload_n (pc := 21) (i := 12) (k := 2) (n := 1) rfl rfl rfl ?_
    refine kw_iald (pc := 22) (i := 13) (n := 4) rfl rfl (by omega) (by omega) (fun z9 e_z9 => ?_)
    have t_z9 := congrArg Int32.toInt e_z9
    have b_z9 : -9 ≤ z9.toInt ∧ z9.toInt ≤ 60 := by rw [e_z9]; exact I5 5 _
    refine kw_iconst (pc := 23) (i := 14) (v := 1) rfl rfl ?_
    refine kw_isub (pc := 24) (i := 15) rfl (fun z10 e_z10 t_z10 => ?_)
    first | (have u_z10 : z10.toInt = z9.toInt - 1 := (by omega); clear t_z10) | skip
    refine kw_callS (pc := 25) (i := 16) (Y := mX8_in) (As := [.int i, .int 0, .int z10]) (st := []) kw_hE rfl lsX8_93 arX8_in (c_X8_in l T (by omega) (by omega) S2 I5 i 0 z10 ) (by decide) (Nat.le_of_ble_eq_true rfl) rfl (fun v S12 p11 => ?_)
    obtain ⟨e17, z16, rfl, f13, f14, f15⟩ := p11
    rw [e17]
    have r_z16 := kw_rng z16
    show kw_AW l 4 kw_E0 KM mX8_put (p_X8_put_0 T σ a i v) 28 [(4, .int z4), (0, .ref 0), (1, .int a), (2, .int i), (3, .int v)] [.int z16] S2
    refine kw_if_ne (pc := 28) (i := 17) (tgt := 37) rfl rfl (fun c18 => ?_) (fun c18 => ?_)
    · refine kw_aload_n (pc := 37) (i := 22) (k := 1) (n := 0) rfl rfl rfl ?_
      refine kw_get (pc := 38) (i := 23) (v := .ref 6) rfl rfl rfl lkX8_29 (fun _ => rfl) ?_
      refine kw_bipush (pc := 41) (i := 24) (v := 60) rfl rfl ?_
      refine kw_iload_n (pc := 43) (i := 25) (k := 2) (n := 1) rfl rfl rfl ?_
      refine kw_imul (pc := 44) (i := 26) rfl (fun z19 e_z19 t_z19 => ?_)
      rw [show (60 : Int32).toInt = 60 from rfl] at t_z19
      first | (have u_z19 : z19.toInt = 60 * a.toInt := (by omega); clear t_z19) | skip
      refine kw_iload_n (pc := 45) (i := 27) (k := 3) (n := 2) rfl rfl rfl ?_
      refine kw_iadd (pc := 46) (i := 28) rfl (fun z20 e_z20 t_z20 => ?_)
      first | (have u_z20 : z20.toInt = z19.toInt + i.toInt := (by omega); clear t_z20) | skip
      refine kw_iald (pc := 47) (i := 29) (n := 240) rfl rfl (by omega) (by omega) (fun z21 e_z21 => ?_)
      have t_z21 := congrArg Int32.toInt e_z21
      have r_z21 := kw_rng z21
      refine kw_istore (pc := 48) (i := 30) (n := 5) (lv' := [(5, .int z21), (4, .int z4), (0, .ref 0), (1, .int a), (2, .int i), (3, .int v)]) rfl (by decide) rfl ?_
      refine kw_aload_n (pc := 50) (i := 31) (k := 2) (n := 0) rfl rfl rfl ?_
      refine kw_get (pc := 51) (i := 32) (v := .ref 6) rfl rfl rfl lkX8_29 (fun _ => rfl) ?_
      refine kw_bipush (pc := 54) (i := 33) (v := 60) rfl rfl ?_
      refine kw_iload_n (pc := 56) (i := 34) (k := 3) (n := 1) rfl rfl rfl ?_
      refine kw_imul (pc := 57) (i := 35) rfl (fun z22 e_z22 t_z22 => ?_)
      rw [show (60 : Int32).toInt = 60 from rfl] at t_z22
      first | (have u_z22 : z22.toInt = 60 * a.toInt := (by omega); clear t_z22) | skip
      refine kw_iload_n (pc := 58) (i := 36) (k := 4) (n := 2) rfl rfl rfl ?_
      refine kw_iadd (pc := 59) (i := 37) rfl (fun z23 e_z23 t_z23 => ?_)
      first | (have u_z23 : z23.toInt = z22.toInt + i.toInt := (by omega); clear t_z23) | skip
      refine kw_iload_n (pc := 60) (i := 38) (k := 5) (n := 3) rfl rfl rfl ?_
      refine kw_i2b (pc := 61) (i := 39) rfl (fun z24 e_z24 => ?_)
      have r_z24 := kw_rng z24
      refine kw_iast (pc := 62) (i := 40) (n := 240) rfl rfl (by omega) (by omega) ?_
      have I25 : kw_I (bM T) (kw_ui S2 6 z23.toNatClampNeg z24) := kw_I_ui I5 (kw_rng z24).1 (Int.le_of_lt_add_one (kw_rng z24).2)
      have F26 : kw_F [0, 1, 6] σ (kw_ui S2 6 z23.toNatClampNeg z24) := kw_F_ui F7 (by decide)
      refine kw_iload (pc := 63) (i := 41) (k := 0) (n := 5) rfl rfl ?_
      refine kw_sipush (pc := 65) (i := 42) (v := 1000) rfl rfl ?_
      refine kw_iadd (pc := 68) (i := 43) rfl (fun z27 e_z27 t_z27 => ?_)
      first | (have u_z27 : z27.toInt = z21.toInt + 1000 := (by omega); clear t_z27) | skip
      exact kw_ireturn (pc := 69) (i := 44) (ty := .int) rfl rfl rfl ⟨⟨I25, F26⟩, _, rfl⟩
    · refine kw_aload_n (pc := 31) (i := 18) (k := 1) (n := 0) rfl rfl rfl ?_
      refine kw_iconst (pc := 32) (i := 19) (v := 2) rfl rfl ?_
      refine kw_callV (pc := 33) (i := 20) (Y := mX8_meet) (a := 0) (As := [.int 2]) (st := []) kw_hE rfl rfl lvX8_101 arX8_meet (c_X8_meet_0 l T (by omega) (by omega) S2 I5 2 (by first | omega | decide) (by first | omega | decide)) (by decide) (Nat.le_of_ble_eq_true rfl) rfl (fun v S29 p28 => ?_)
      obtain ⟨⟨I32, F33⟩, z31, rfl, f30⟩ := p28
      have F34 : kw_F [0, 1, 6] σ S29 := kw_F.tr F7 F33 (by decide)
      have r_z31 := kw_rng z31
      show kw_AW l 4 kw_E0 KM mX8_put (p_X8_put_0 T σ a i v) 36 [(4, .int z4), (0, .ref 0), (1, .int a), (2, .int i), (3, .int v)] [.int z31] S29
      exact kw_ireturn (pc := 36) (i := 21) (ty := .int) rfl rfl rfl ⟨⟨I32, F34⟩, _, rfl⟩
  · refine kw_iload (pc := 12) (i := 6) (k := 0) (n := 4) rfl rfl ?_
    exact kw_ireturn (pc := 14) (i := 7) (ty := .int) rfl rfl rfl ⟨⟨I5, F7⟩, _, rfl⟩
abbrev p_X8_here_0 (T : Int) (σ : kw_S) (a : Int32) : Option Value → kw_S → Prop := fun vv σ' => σ' = σ ∧ ∃ r : Int32, vv = some (.int r) ∧ (r.toInt = -9 ∨ (σ.1 0 17).toInt < 60)
set_option maxRecDepth 100000 in
set_option maxHeartbeats 4000000 in
theorem c_X8_here_0 (l : Launch) (T : Int) (hT0 : 0 ≤ T) (hT1 : T ≤ 3000) (σ : kw_S) (hI : kw_I (bM T) σ) (a : Int32) (hp0 : 0 ≤ a.toInt) (hp1 : a.toInt ≤ 3) : kw_Met l 1 KM mX8_here [.ref 0, .int a] σ (p_X8_here_0 T σ a) := by
  have r_a := kw_rng a
  have q_m9 : (-9 : Int32).toInt = -9 := rfl
  have q_60 : (60 : Int32).toInt = 60 := rfl
  refine kw_Met.of (by decide) rfl tX8_here (Nat.le_of_ble_eq_true rfl) ?_
  show kw_AW l 1 kw_E0 KM mX8_here (p_X8_here_0 T σ a) 0 [(0, .ref 0), (1, .int a)] [] σ
  refine kw_aload_n (pc := 0) (i := 0) (k := 0) (n := 0) rfl rfl rfl ?_
  refine kw_get (pc := 1) (i := 1) (v := .int (σ.1 0 17)) rfl rfl rfl lkX8_128 (fun _ => rfl) ?_
  have b1 : 0 ≤ (σ.1 0 17).toInt ∧ (σ.1 0 17).toInt ≤ 60 := hI 0 17
  refine kw_aload_n (pc := 4) (i := 2) (k := 0) (n := 0) rfl rfl rfl ?_
  refine kw_get (pc := 5) (i := 3) (v := .ref 5) rfl rfl rfl lkX8_26 (fun _ => rfl) ?_
  refine kw_iload_n (pc := 8) (i := 4) (k := 1) (n := 1) rfl rfl rfl ?_
  refine kw_iald (pc := 9) (i := 5) (n := 4) rfl rfl (by omega) (by omega) (fun z2 e_z2 => ?_)
  have t_z2 := congrArg Int32.toInt e_z2
  have b_z2 : -9 ≤ z2.toInt ∧ z2.toInt ≤ 60 := by rw [e_z2]; exact hI 5 _
  refine kw_icmp_ge (pc := 10) (i := 6) (tgt := 30) rfl rfl (fun c3 => ?_) (fun c3 => ?_)
  · refine kw_bipush (pc := 30) (i := 17) (v := (-9)) rfl rfl ?_
    exact kw_ireturn (pc := 32) (i := 18) (ty := .int) rfl rfl rfl ⟨rfl, _, rfl, by omega⟩
  · refine kw_aload_n (pc := 13) (i := 7) (k := 0) (n := 0) rfl rfl rfl ?_
    refine kw_get (pc := 14) (i := 8) (v := .ref 6) rfl rfl rfl lkX8_29 (fun _ => rfl) ?_
    refine kw_bipush (pc := 17) (i := 9) (v := 60) rfl rfl ?_
    refine kw_iload_n (pc := 19) (i := 10) (k := 1) (n := 1) rfl rfl rfl ?_
    refine kw_imul (pc := 20) (i := 11) rfl (fun z4 e_z4 t_z4 => ?_)
    rw [show (60 : Int32).toInt = 60 from rfl] at t_z4
    first | (have u_z4 : z4.toInt = 60 * a.toInt := (by omega); clear t_z4) | skip
    refine kw_aload_n (pc := 21) (i := 12) (k := 0) (n := 0) rfl rfl rfl ?_
    refine kw_get (pc := 22) (i := 13) (v := .int (σ.1 0 17)) rfl rfl rfl lkX8_128 (fun _ => rfl) ?_
    refine kw_iadd (pc := 25) (i := 14) rfl (fun z5 e_z5 t_z5 => ?_)
    first | (have u_z5 : z5.toInt = z4.toInt + (σ.1 0 17).toInt := (by omega); clear t_z5) | skip
    refine kw_iald (pc := 26) (i := 15) (n := 240) rfl rfl (by omega) (by omega) (fun z6 e_z6 => ?_)
    have t_z6 := congrArg Int32.toInt e_z6
    have r_z6 := kw_rng z6
    refine kw_goto (pc := 27) (i := 16) (tgt := 32) rfl rfl ?_
    exact kw_ireturn (pc := 32) (i := 18) (ty := .int) rfl rfl rfl ⟨rfl, _, rfl, by omega⟩
abbrev p_X8_skip_0 (T : Int) (σ : kw_S) (a : Int32) : Option Value → kw_S → Prop := fun vv σ' => (kw_I (bM T) σ' ∧ kw_F [0] σ σ') ∧ vv = none ∧ (σ.1 0 17).toInt ≤ (σ'.1 0 17).toInt ∧ (σ'.1 0 18).toInt = (σ.1 0 18).toInt ∧ (σ'.1 0 19).toInt = (σ.1 0 19).toInt
set_option maxRecDepth 100000 in
set_option maxHeartbeats 4000000 in
theorem c_X8_skip_0 (l : Launch) (T : Int) (hT0 : 0 ≤ T) (hT1 : T ≤ 3000) (σ : kw_S) (hI : kw_I (bM T) σ) (a : Int32) (hp0 : 0 ≤ a.toInt) (hp1 : a.toInt ≤ 3) : kw_Met l 2 KM mX8_skip [.ref 0, .int a] σ (p_X8_skip_0 T σ a) := by
  have r_a := kw_rng a
  have hF0 : kw_F [0] σ σ := kw_F.rf
  have q_1 : (1 : Int32).toInt = 1 := rfl
  have q_32 : (32 : Int32).toInt = 32 := rfl
  refine kw_Met.of (by decide) rfl tX8_skip (Nat.le_of_ble_eq_true rfl) ?_
  show kw_AW l 2 kw_E0 KM mX8_skip (p_X8_skip_0 T σ a) 0 [(0, .ref 0), (1, .int a)] [] σ
  have L4 : ∀ (n10 : Nat)  (S1 : kw_S), kw_I (bM T) S1 → kw_F [0] σ S1 → (σ.1 0 17).toInt ≤ (S1.1 0 17).toInt → (S1.1 0 18).toInt = (σ.1 0 18).toInt → (S1.1 0 19).toInt = (σ.1 0 19).toInt → (61 - (S1.1 0 17).toInt).toNat < n10 → kw_AW l 2 kw_E0 KM mX8_skip (p_X8_skip_0 T σ a) 0 [(0, .ref 0), (1, .int a)] [] S1 := by
    intro n10
    induction n10 with
    | zero => intro S1 I2 F3 v6 v7 v8 m9; exact absurd m9 (Nat.not_lt_zero _)
    | succ n10 ih5 =>
      intro S1 I2 F3 v6 v7 v8 m9
      refine kw_aload_n (pc := 0) (i := 0) (k := 0) (n := 0) rfl rfl rfl ?_
      refine kw_iload_n (pc := 1) (i := 1) (k := 1) (n := 1) rfl rfl rfl ?_
      refine kw_callV (pc := 2) (i := 2) (Y := mX8_here) (a := 0) (As := [.int a]) (st := []) kw_hE rfl rfl lvX8_131 arX8_here (c_X8_here_0 l T (by omega) (by omega) S1 I2 a (by first | omega | decide) (by first | omega | decide)) (by decide) (Nat.le_of_ble_eq_true rfl) rfl (fun v S12 p11 => ?_)
      obtain ⟨e15, z14, rfl, f13⟩ := p11
      rw [e15]
      have f13 : (z14.toInt = -9 ∨ (S1.1 0 17).toInt < 60) := f13
      have r_z14 := kw_rng z14
      show kw_AW l 2 kw_E0 KM mX8_skip (p_X8_skip_0 T σ a) 5 [(0, .ref 0), (1, .int a)] [.int z14] S1
      refine kw_bipush (pc := 5) (i := 3) (v := 32) rfl rfl ?_
      refine kw_icmp_ne (pc := 7) (i := 4) (tgt := 23) rfl rfl (fun c16 => ?_) (fun c16 => ?_)
      · exact kw_return (pc := 23) (i := 12) rfl rfl ⟨⟨I2, F3⟩, rfl, ⟨(show (σ.1 0 17).toInt ≤ (S1.1 0 17).toInt from by omega), (show (S1.1 0 18).toInt = (σ.1 0 18).toInt from by omega), (show (S1.1 0 19).toInt = (σ.1 0 19).toInt from by omega)⟩⟩
      · refine kw_aload_n (pc := 10) (i := 5) (k := 0) (n := 0) rfl rfl rfl ?_
        refine kw_dup (pc := 11) (i := 6) rfl rfl ?_
        refine kw_get (pc := 12) (i := 7) (v := .int (S1.1 0 17)) rfl rfl rfl lkX8_128 (fun _ => rfl) ?_
        have b17 : 0 ≤ (S1.1 0 17).toInt ∧ (S1.1 0 17).toInt ≤ 60 := I2 0 17
        refine kw_iconst (pc := 15) (i := 8) (v := 1) rfl rfl ?_
        refine kw_iadd (pc := 16) (i := 9) rfl (fun z18 e_z18 t_z18 => ?_)
        first | (have u_z18 : z18.toInt = (S1.1 0 17).toInt + 1 := (by omega); clear t_z18) | skip
        refine kw_puti (pc := 17) (i := 10) (z := 0) rfl rfl rfl lpX8_128 rfl rfl ?_
        have I19 : kw_I (bM T) (kw_ui S1 0 17 z18) := kw_I_ui I2 (show 0 ≤ z18.toInt by omega) (show z18.toInt ≤ 60 by omega)
        have F20 : kw_F [0] σ (kw_ui S1 0 17 z18) := kw_F_ui F3 (by decide)
        refine kw_goto (pc := 20) (i := 11) (tgt := 0) rfl rfl ?_
        refine kw_sub (lv' := [(0, .ref 0), (1, .int a)]) [0, 1] rfl ?_
        exact ih5 (kw_ui S1 0 17 z18) I19 F20 (show (σ.1 0 17).toInt ≤ z18.toInt from by omega) (show (S1.1 0 18).toInt = (σ.1 0 18).toInt from by omega) (show (S1.1 0 19).toInt = (σ.1 0 19).toInt from by omega) (show (61 - z18.toInt).toNat < n10 from by omega)
  exact L4 _ σ hI hF0 (show (σ.1 0 17).toInt ≤ (σ.1 0 17).toInt from by omega) (show (σ.1 0 18).toInt = (σ.1 0 18).toInt from by omega) (show (σ.1 0 19).toInt = (σ.1 0 19).toInt from by omega) (Nat.lt_succ_self _)
abbrev p_X8_figure_0 (T : Int) (σ : kw_S) (a : Int32) (to : Int32) (lo : Int32) (hi : Int32) : Option Value → kw_S → Prop := fun vv σ' => (kw_I (bM T) σ' ∧ kw_F [0, 13] σ σ') ∧ ∃ r : Int32, vv = some (.int r) ∧ (r.toInt = 0 ∨ r.toInt = 1) ∧ (σ.1 0 17).toInt ≤ (σ'.1 0 17).toInt ∧ (σ'.1 0 18).toInt = (σ.1 0 18).toInt ∧ (σ'.1 0 19).toInt = (σ.1 0 19).toInt
set_option maxRecDepth 100000 in
set_option maxHeartbeats 4000000 in
theorem c_X8_figure_0 (l : Launch) (T : Int) (hT0 : 0 ≤ T) (hT1 : T ≤ 3000) (σ : kw_S) (hI : kw_I (bM T) σ) (a : Int32) (to : Int32) (lo : Int32) (hi : Int32) (hp0 : 0 ≤ a.toInt) (hp1 : a.toInt ≤ 3) (hp2 : 0 ≤ to.toInt) (hp3 : to.toInt < 24) (hp4 : 0 ≤ lo.toInt) : kw_Met l 2 KM mX8_figure [.ref 0, .int a, .int to, .int lo, .int hi] σ (p_X8_figure_0 T σ a to lo hi) := by
  have r_a := kw_rng a
  have r_to := kw_rng to
  have r_lo := kw_rng lo
  have r_hi := kw_rng hi
  have hF0 : kw_F [0, 13] σ σ := kw_F.rf
  have q_0 : (0 : Int32).toInt = 0 := rfl
  have q_1 : (1 : Int32).toInt = 1 := rfl
  have q_48 : (48 : Int32).toInt = 48 := rfl
  refine kw_Met.of (by decide) rfl tX8_figure (Nat.le_of_ble_eq_true rfl) ?_
  show kw_AW l 2 kw_E0 KM mX8_figure (p_X8_figure_0 T σ a to lo hi) 0 [(0, .ref 0), (1, .int a), (2, .int to), (3, .int lo), (4, .int hi)] [] σ
  refine kw_aload_n (pc := 0) (i := 0) (k := 0) (n := 0) rfl rfl rfl ?_
  refine kw_iload_n (pc := 1) (i := 1) (k := 1) (n := 1) rfl rfl rfl ?_
  refine kw_callV (pc := 2) (i := 2) (Y := mX8_here) (a := 0) (As := [.int a]) (st := []) kw_hE rfl rfl lvX8_131 arX8_here (c_X8_here_0 l T (by omega) (by omega) σ hI a (by first | omega | decide) (by first | omega | decide)) (by decide) (Nat.le_of_ble_eq_true rfl) rfl (fun v S2 p1 => ?_)
  obtain ⟨e5, z4, rfl, f3⟩ := p1
  rw [e5]
  have f3 : (z4.toInt = -9 ∨ (σ.1 0 17).toInt < 60) := f3
  have r_z4 := kw_rng z4
  show kw_AW l 2 kw_E0 KM mX8_figure (p_X8_figure_0 T σ a to lo hi) 5 [(0, .ref 0), (1, .int a), (2, .int to), (3, .int lo), (4, .int hi)] [.int z4] σ
  refine kw_bipush (pc := 5) (i := 3) (v := 48) rfl rfl ?_
  refine kw_isub (pc := 7) (i := 4) rfl (fun z6 e_z6 t_z6 => ?_)
  first | (have u_z6 : z6.toInt = z4.toInt - 48 := (by omega); clear t_z6) | skip
  refine kw_istore (pc := 8) (i := 5) (n := 5) (lv' := [(5, .int z6), (0, .ref 0), (1, .int a), (2, .int to), (3, .int lo), (4, .int hi)]) rfl (by decide) rfl ?_
  refine kw_iload (pc := 10) (i := 6) (k := 0) (n := 5) rfl rfl ?_
  refine kw_iload_n (pc := 12) (i := 7) (k := 4) (n := 3) rfl rfl rfl ?_
  refine kw_iload (pc := 13) (i := 8) (k := 5) (n := 4) rfl rfl ?_
  refine kw_callS (pc := 15) (i := 9) (Y := mX8_in) (As := [.int z6, .int lo, .int hi]) (st := []) kw_hE rfl lsX8_93 arX8_in (c_X8_in l T (by omega) (by omega) σ hI z6 lo hi ) (by decide) (Nat.le_of_ble_eq_true rfl) rfl (fun v S8 p7 => ?_)
  obtain ⟨e13, z12, rfl, f9, f10, f11⟩ := p7
  rw [e13]
  have r_z12 := kw_rng z12
  show kw_AW l 2 kw_E0 KM mX8_figure (p_X8_figure_0 T σ a to lo hi) 18 [(5, .int z6), (0, .ref 0), (1, .int a), (2, .int to), (3, .int lo), (4, .int hi)] [.int z12] σ
  refine kw_if_ne (pc := 18) (i := 10) (tgt := 23) rfl rfl (fun c14 => ?_) (fun c14 => ?_)
  · refine kw_aload_n (pc := 23) (i := 13) (k := 1) (n := 0) rfl rfl rfl ?_
    refine kw_get (pc := 24) (i := 14) (v := .ref 13) rfl rfl rfl lkX8_54 (fun _ => rfl) ?_
    refine kw_iload_n (pc := 27) (i := 15) (k := 3) (n := 2) rfl rfl rfl ?_
    refine kw_iload (pc := 28) (i := 16) (k := 0) (n := 5) rfl rfl ?_
    refine kw_iast (pc := 30) (i := 17) (n := 24) rfl rfl (by omega) (by omega) ?_
    have I15 : kw_I (bM T) (kw_ui σ 13 to.toNatClampNeg z6) := kw_I_ui hI (kw_rng z6).1 (Int.le_of_lt_add_one (kw_rng z6).2)
    have F16 : kw_F [0, 13] σ (kw_ui σ 13 to.toNatClampNeg z6) := kw_F_ui hF0 (by decide)
    refine kw_aload_n (pc := 31) (i := 18) (k := 1) (n := 0) rfl rfl rfl ?_
    refine kw_dup (pc := 32) (i := 19) rfl rfl ?_
    refine kw_get (pc := 33) (i := 20) (v := .int (σ.1 0 17)) rfl rfl rfl lkX8_128 (fun _ => rfl) ?_
    have b17 : 0 ≤ (σ.1 0 17).toInt ∧ (σ.1 0 17).toInt ≤ 60 := hI 0 17
    refine kw_iconst (pc := 36) (i := 21) (v := 1) rfl rfl ?_
    refine kw_iadd (pc := 37) (i := 22) rfl (fun z18 e_z18 t_z18 => ?_)
    first | (have u_z18 : z18.toInt = (σ.1 0 17).toInt + 1 := (by omega); clear t_z18) | skip
    refine kw_puti (pc := 38) (i := 23) (z := 0) rfl rfl rfl lpX8_128 rfl rfl ?_
    have I19 : kw_I (bM T) (kw_ui (kw_ui σ 13 to.toNatClampNeg z6) 0 17 z18) := kw_I_ui I15 (show 0 ≤ z18.toInt by omega) (show z18.toInt ≤ 60 by omega)
    have F20 : kw_F [0, 13] σ (kw_ui (kw_ui σ 13 to.toNatClampNeg z6) 0 17 z18) := kw_F_ui F16 (by decide)
    refine kw_iconst (pc := 41) (i := 24) (v := 1) rfl rfl ?_
    exact kw_ireturn (pc := 42) (i := 25) (ty := .boolean) rfl rfl rfl ⟨⟨I19, F20⟩, _, rfl, ⟨by omega, (show (σ.1 0 17).toInt ≤ z18.toInt from by omega), (show (σ.1 0 18).toInt = (σ.1 0 18).toInt from by omega), (show (σ.1 0 19).toInt = (σ.1 0 19).toInt from by omega)⟩⟩
  · refine kw_iconst (pc := 21) (i := 11) (v := 0) rfl rfl ?_
    exact kw_ireturn (pc := 22) (i := 12) (ty := .boolean) rfl rfl rfl ⟨⟨hI, hF0⟩, _, rfl, ⟨by omega, (show (σ.1 0 17).toInt ≤ (σ.1 0 17).toInt from by omega), (show (σ.1 0 18).toInt = (σ.1 0 18).toInt from by omega), (show (σ.1 0 19).toInt = (σ.1 0 19).toInt from by omega)⟩⟩
abbrev p_X8_readsWinds_0 (T : Int) (σ : kw_S) (a : Int32) : Option Value → kw_S → Prop := fun vv σ' => (kw_I (bM T) σ' ∧ kw_F [0, 12] σ σ') ∧ ∃ r : Int32, vv = some (.int r) ∧ (r.toInt = 0 ∨ r.toInt = 1) ∧ (r.toInt = 0 ∨ 1 ≤ (σ'.1 0 18).toInt) ∧ (σ'.1 0 19).toInt = (σ.1 0 19).toInt
set_option maxRecDepth 100000 in
set_option maxHeartbeats 4000000 in
theorem c_X8_readsWinds_0 (l : Launch) (T : Int) (hT0 : 0 ≤ T) (hT1 : T ≤ 3000) (σ : kw_S) (hI : kw_I (bM T) σ) (a : Int32) (hp0 : 0 ≤ a.toInt) (hp1 : a.toInt ≤ 3) : kw_Met l 3 KM mX8_readsWinds [.ref 0, .int a] σ (p_X8_readsWinds_0 T σ a) := by
  have r_a := kw_rng a
  have hF0 : kw_F [0, 12] σ σ := kw_F.rf
  have q_0 : (0 : Int32).toInt = 0 := rfl
  have q_1 : (1 : Int32).toInt = 1 := rfl
  have q_5 : (5 : Int32).toInt = 5 := rfl
  have q_8 : (8 : Int32).toInt = 8 := rfl
  have q_48 : (48 : Int32).toInt = 48 := rfl
  have q_119 : (119 : Int32).toInt = 119 := rfl
  refine kw_Met.of (by decide) rfl tX8_readsWinds (Nat.le_of_ble_eq_true rfl) ?_
  show kw_AW l 3 kw_E0 KM mX8_readsWinds (p_X8_readsWinds_0 T σ a) 0 [(0, .ref 0), (1, .int a)] [] σ
  refine kw_aload_n (pc := 0) (i := 0) (k := 0) (n := 0) rfl rfl rfl ?_
  refine kw_iload_n (pc := 1) (i := 1) (k := 1) (n := 1) rfl rfl rfl ?_
  refine kw_callV (pc := 2) (i := 2) (Y := mX8_skip) (a := 0) (As := [.int a]) (st := []) kw_hE rfl rfl lvX8_134 arX8_skip (c_X8_skip_0 l T (by omega) (by omega) σ hI a (by first | omega | decide) (by first | omega | decide)) (by decide) (Nat.le_of_ble_eq_true rfl) rfl (fun v S2 p1 => ?_)
  obtain ⟨⟨I6, F7⟩, rfl, f3, f4, f5⟩ := p1
  have F8 : kw_F [0, 12] σ S2 := kw_F.tr hF0 F7 (by decide)
  have f3 : (σ.1 0 17).toInt ≤ (S2.1 0 17).toInt := f3
  have f4 : (S2.1 0 18).toInt = (σ.1 0 18).toInt := f4
  have f5 : (S2.1 0 19).toInt = (σ.1 0 19).toInt := f5
  show kw_AW l 3 kw_E0 KM mX8_readsWinds (p_X8_readsWinds_0 T σ a) 5 [(0, .ref 0), (1, .int a)] [] S2
  refine kw_aload_n (pc := 5) (i := 3) (k := 0) (n := 0) rfl rfl rfl ?_
  refine kw_iload_n (pc := 6) (i := 4) (k := 1) (n := 1) rfl rfl rfl ?_
  refine kw_callV (pc := 7) (i := 5) (Y := mX8_here) (a := 0) (As := [.int a]) (st := []) kw_hE rfl rfl lvX8_131 arX8_here (c_X8_here_0 l T (by omega) (by omega) S2 I6 a (by first | omega | decide) (by first | omega | decide)) (by decide) (Nat.le_of_ble_eq_true rfl) rfl (fun v S10 p9 => ?_)
  obtain ⟨e13, z12, rfl, f11⟩ := p9
  rw [e13]
  have f11 : (z12.toInt = -9 ∨ (S2.1 0 17).toInt < 60) := f11
  have r_z12 := kw_rng z12
  show kw_AW l 3 kw_E0 KM mX8_readsWinds (p_X8_readsWinds_0 T σ a) 10 [(0, .ref 0), (1, .int a)] [.int z12] S2
  refine kw_bipush (pc := 10) (i := 6) (v := 119) rfl rfl ?_
  refine kw_icmp_eq (pc := 12) (i := 7) (tgt := 17) rfl rfl (fun c14 => ?_) (fun c14 => ?_)
  · refine kw_aload_n (pc := 17) (i := 10) (k := 0) (n := 0) rfl rfl rfl ?_
    refine kw_dup (pc := 18) (i := 11) rfl rfl ?_
    refine kw_get (pc := 19) (i := 12) (v := .int (S2.1 0 17)) rfl rfl rfl lkX8_128 (fun _ => rfl) ?_
    have b15 : 0 ≤ (S2.1 0 17).toInt ∧ (S2.1 0 17).toInt ≤ 60 := I6 0 17
    refine kw_iconst (pc := 22) (i := 13) (v := 1) rfl rfl ?_
    refine kw_iadd (pc := 23) (i := 14) rfl (fun z16 e_z16 t_z16 => ?_)
    first | (have u_z16 : z16.toInt = (S2.1 0 17).toInt + 1 := (by omega); clear t_z16) | skip
    refine kw_puti (pc := 24) (i := 15) (z := 0) rfl rfl rfl lpX8_128 rfl rfl ?_
    have I17 : kw_I (bM T) (kw_ui S2 0 17 z16) := kw_I_ui I6 (show 0 ≤ z16.toInt by omega) (show z16.toInt ≤ 60 by omega)
    have F18 : kw_F [0, 12] σ (kw_ui S2 0 17 z16) := kw_F_ui F8 (by decide)
    refine kw_aload_n (pc := 27) (i := 16) (k := 0) (n := 0) rfl rfl rfl ?_
    refine kw_iconst (pc := 28) (i := 17) (v := 0) rfl rfl ?_
    refine kw_puti (pc := 29) (i := 18) (z := 0) rfl rfl rfl lpX8_138 rfl rfl ?_
    have I19 : kw_I (bM T) (kw_ui (kw_ui S2 0 17 z16) 0 18 0) := kw_I_ui I17 (show 0 ≤ (0 : Int32).toInt by omega) (show (0 : Int32).toInt ≤ 8 by omega)
    have F20 : kw_F [0, 12] σ (kw_ui (kw_ui S2 0 17 z16) 0 18 0) := kw_F_ui F18 (by decide)
    have L24 : ∀ (n28 : Nat)  (S21 : kw_S), kw_I (bM T) S21 → kw_F [0, 12] σ S21 → (S21.1 0 19).toInt = (σ.1 0 19).toInt → (9 - (S21.1 0 18).toInt).toNat < n28 → kw_AW l 3 kw_E0 KM mX8_readsWinds (p_X8_readsWinds_0 T σ a) 32 [(0, .ref 0), (1, .int a)] [] S21 := by
      intro n28
      induction n28 with
      | zero => intro S21 I22 F23 v26 m27; exact absurd m27 (Nat.not_lt_zero _)
      | succ n28 ih25 =>
        intro S21 I22 F23 v26 m27
        refine kw_aload_n (pc := 32) (i := 19) (k := 0) (n := 0) rfl rfl rfl ?_
        refine kw_get (pc := 33) (i := 20) (v := .int (S21.1 0 18)) rfl rfl rfl lkX8_138 (fun _ => rfl) ?_
        have b29 : 0 ≤ (S21.1 0 18).toInt ∧ (S21.1 0 18).toInt ≤ 8 := I22 0 18
        refine kw_bipush (pc := 36) (i := 21) (v := 8) rfl rfl ?_
        refine kw_icmp_ge (pc := 38) (i := 22) (tgt := 97) rfl rfl (fun c30 => ?_) (fun c30 => ?_)
        · refine kw_aload_n (pc := 97) (i := 55) (k := 0) (n := 0) rfl rfl rfl ?_
          refine kw_get (pc := 98) (i := 56) (v := .int (S21.1 0 18)) rfl rfl rfl lkX8_138 (fun _ => rfl) ?_
          refine kw_if_le (pc := 101) (i := 57) (tgt := 108) rfl rfl (fun c31 => ?_) (fun c31 => ?_)
          · refine kw_iconst (pc := 108) (i := 60) (v := 0) rfl rfl ?_
            exact kw_ireturn (pc := 109) (i := 61) (ty := .boolean) rfl rfl rfl ⟨⟨I22, F23⟩, _, rfl, ⟨by omega, (show ((0 : Int32).toInt = 0 ∨ 1 ≤ (S21.1 0 18).toInt) from by omega), (show (S21.1 0 19).toInt = (σ.1 0 19).toInt from by omega)⟩⟩
          · refine kw_iconst (pc := 104) (i := 58) (v := 1) rfl rfl ?_
            refine kw_goto (pc := 105) (i := 59) (tgt := 109) rfl rfl ?_
            exact kw_ireturn (pc := 109) (i := 61) (ty := .boolean) rfl rfl rfl ⟨⟨I22, F23⟩, _, rfl, ⟨by omega, (show ((1 : Int32).toInt = 0 ∨ 1 ≤ (S21.1 0 18).toInt) from by omega), (show (S21.1 0 19).toInt = (σ.1 0 19).toInt from by omega)⟩⟩
        · refine kw_aload_n (pc := 41) (i := 23) (k := 0) (n := 0) rfl rfl rfl ?_
          refine kw_iload_n (pc := 42) (i := 24) (k := 1) (n := 1) rfl rfl rfl ?_
          refine kw_callV (pc := 43) (i := 25) (Y := mX8_here) (a := 0) (As := [.int a]) (st := []) kw_hE rfl rfl lvX8_131 arX8_here (c_X8_here_0 l T (by omega) (by omega) S21 I22 a (by first | omega | decide) (by first | omega | decide)) (by decide) (Nat.le_of_ble_eq_true rfl) rfl (fun v S33 p32 => ?_)
          obtain ⟨e36, z35, rfl, f34⟩ := p32
          rw [e36]
          have f34 : (z35.toInt = -9 ∨ (S21.1 0 17).toInt < 60) := f34
          have r_z35 := kw_rng z35
          show kw_AW l 3 kw_E0 KM mX8_readsWinds (p_X8_readsWinds_0 T σ a) 46 [(0, .ref 0), (1, .int a)] [.int z35] S21
          refine kw_bipush (pc := 46) (i := 26) (v := 48) rfl rfl ?_
          refine kw_isub (pc := 48) (i := 27) rfl (fun z37 e_z37 t_z37 => ?_)
          first | (have u_z37 : z37.toInt = z35.toInt - 48 := (by omega); clear t_z37) | skip
          refine kw_iconst (pc := 49) (i := 28) (v := 0) rfl rfl ?_
          refine kw_iconst (pc := 50) (i := 29) (v := 5) rfl rfl ?_
          refine kw_callS (pc := 51) (i := 30) (Y := mX8_in) (As := [.int z37, .int 0, .int 5]) (st := []) kw_hE rfl lsX8_93 arX8_in (c_X8_in l T (by omega) (by omega) S21 I22 z37 0 5 ) (by decide) (Nat.le_of_ble_eq_true rfl) rfl (fun v S39 p38 => ?_)
          obtain ⟨e44, z43, rfl, f40, f41, f42⟩ := p38
          rw [e44]
          have r_z43 := kw_rng z43
          show kw_AW l 3 kw_E0 KM mX8_readsWinds (p_X8_readsWinds_0 T σ a) 54 [(0, .ref 0), (1, .int a)] [.int z43] S21
          refine kw_if_eq (pc := 54) (i := 31) (tgt := 97) rfl rfl (fun c45 => ?_) (fun c45 => ?_)
          · refine kw_aload_n (pc := 97) (i := 55) (k := 0) (n := 0) rfl rfl rfl ?_
            refine kw_get (pc := 98) (i := 56) (v := .int (S21.1 0 18)) rfl rfl rfl lkX8_138 (fun _ => rfl) ?_
            refine kw_if_le (pc := 101) (i := 57) (tgt := 108) rfl rfl (fun c46 => ?_) (fun c46 => ?_)
            · refine kw_iconst (pc := 108) (i := 60) (v := 0) rfl rfl ?_
              exact kw_ireturn (pc := 109) (i := 61) (ty := .boolean) rfl rfl rfl ⟨⟨I22, F23⟩, _, rfl, ⟨by omega, (show ((0 : Int32).toInt = 0 ∨ 1 ≤ (S21.1 0 18).toInt) from by omega), (show (S21.1 0 19).toInt = (σ.1 0 19).toInt from by omega)⟩⟩
            · refine kw_iconst (pc := 104) (i := 58) (v := 1) rfl rfl ?_
              refine kw_goto (pc := 105) (i := 59) (tgt := 109) rfl rfl ?_
              exact kw_ireturn (pc := 109) (i := 61) (ty := .boolean) rfl rfl rfl ⟨⟨I22, F23⟩, _, rfl, ⟨by omega, (show ((1 : Int32).toInt = 0 ∨ 1 ≤ (S21.1 0 18).toInt) from by omega), (show (S21.1 0 19).toInt = (σ.1 0 19).toInt from by omega)⟩⟩
          · refine kw_aload_n (pc := 57) (i := 32) (k := 0) (n := 0) rfl rfl rfl ?_
            refine kw_get (pc := 58) (i := 33) (v := .ref 12) rfl rfl rfl lkX8_51 (fun _ => rfl) ?_
            refine kw_aload_n (pc := 61) (i := 34) (k := 0) (n := 0) rfl rfl rfl ?_
            refine kw_get (pc := 62) (i := 35) (v := .int (S21.1 0 18)) rfl rfl rfl lkX8_138 (fun _ => rfl) ?_
            refine kw_aload_n (pc := 65) (i := 36) (k := 0) (n := 0) rfl rfl rfl ?_
            refine kw_iload_n (pc := 66) (i := 37) (k := 1) (n := 1) rfl rfl rfl ?_
            refine kw_callV (pc := 67) (i := 38) (Y := mX8_here) (a := 0) (As := [.int a]) (st := [.int (S21.1 0 18), .ref 12]) kw_hE rfl rfl lvX8_131 arX8_here (c_X8_here_0 l T (by omega) (by omega) S21 I22 a (by first | omega | decide) (by first | omega | decide)) (by decide) (Nat.le_of_ble_eq_true rfl) rfl (fun v S48 p47 => ?_)
            obtain ⟨e51, z50, rfl, f49⟩ := p47
            rw [e51]
            have f49 : (z50.toInt = -9 ∨ (S21.1 0 17).toInt < 60) := f49
            have r_z50 := kw_rng z50
            show kw_AW l 3 kw_E0 KM mX8_readsWinds (p_X8_readsWinds_0 T σ a) 70 [(0, .ref 0), (1, .int a)] [.int z50, .int (S21.1 0 18), .ref 12] S21
            refine kw_bipush (pc := 70) (i := 39) (v := 48) rfl rfl ?_
            refine kw_isub (pc := 72) (i := 40) rfl (fun z52 e_z52 t_z52 => ?_)
            first | (have u_z52 : z52.toInt = z50.toInt - 48 := (by omega); clear t_z52) | skip
            refine kw_iast (pc := 73) (i := 41) (n := 8) rfl rfl (by omega) (by omega) ?_
            have I53 : kw_I (bM T) (kw_ui S21 12 (S21.1 0 18).toNatClampNeg z52) := kw_I_ui I22 (kw_rng z52).1 (Int.le_of_lt_add_one (kw_rng z52).2)
            have F54 : kw_F [0, 12] σ (kw_ui S21 12 (S21.1 0 18).toNatClampNeg z52) := kw_F_ui F23 (by decide)
            refine kw_aload_n (pc := 74) (i := 42) (k := 0) (n := 0) rfl rfl rfl ?_
            refine kw_dup (pc := 75) (i := 43) rfl rfl ?_
            refine kw_get (pc := 76) (i := 44) (v := .int (S21.1 0 18)) rfl rfl rfl lkX8_138 (fun _ => rfl) ?_
            refine kw_iconst (pc := 79) (i := 45) (v := 1) rfl rfl ?_
            refine kw_iadd (pc := 80) (i := 46) rfl (fun z55 e_z55 t_z55 => ?_)
            first | (have u_z55 : z55.toInt = (S21.1 0 18).toInt + 1 := (by omega); clear t_z55) | skip
            refine kw_puti (pc := 81) (i := 47) (z := 0) rfl rfl rfl lpX8_138 rfl rfl ?_
            have I56 : kw_I (bM T) (kw_ui (kw_ui S21 12 (S21.1 0 18).toNatClampNeg z52) 0 18 z55) := kw_I_ui I53 (show 0 ≤ z55.toInt by omega) (show z55.toInt ≤ 8 by omega)
            have F57 : kw_F [0, 12] σ (kw_ui (kw_ui S21 12 (S21.1 0 18).toNatClampNeg z52) 0 18 z55) := kw_F_ui F54 (by decide)
            refine kw_aload_n (pc := 84) (i := 48) (k := 0) (n := 0) rfl rfl rfl ?_
            refine kw_dup (pc := 85) (i := 49) rfl rfl ?_
            refine kw_get (pc := 86) (i := 50) (v := .int (S21.1 0 17)) rfl rfl rfl lkX8_128 (fun _ => rfl) ?_
            have b58 : 0 ≤ (S21.1 0 17).toInt ∧ (S21.1 0 17).toInt ≤ 60 := I22 0 17
            refine kw_iconst (pc := 89) (i := 51) (v := 1) rfl rfl ?_
            refine kw_iadd (pc := 90) (i := 52) rfl (fun z59 e_z59 t_z59 => ?_)
            first | (have u_z59 : z59.toInt = (S21.1 0 17).toInt + 1 := (by omega); clear t_z59) | skip
            refine kw_puti (pc := 91) (i := 53) (z := 0) rfl rfl rfl lpX8_128 rfl rfl ?_
            have I60 : kw_I (bM T) (kw_ui (kw_ui (kw_ui S21 12 (S21.1 0 18).toNatClampNeg z52) 0 18 z55) 0 17 z59) := kw_I_ui I56 (show 0 ≤ z59.toInt by omega) (show z59.toInt ≤ 60 by omega)
            have F61 : kw_F [0, 12] σ (kw_ui (kw_ui (kw_ui S21 12 (S21.1 0 18).toNatClampNeg z52) 0 18 z55) 0 17 z59) := kw_F_ui F57 (by decide)
            refine kw_goto (pc := 94) (i := 54) (tgt := 32) rfl rfl ?_
            refine kw_sub (lv' := [(0, .ref 0), (1, .int a)]) [0, 1] rfl ?_
            exact ih25 (kw_ui (kw_ui (kw_ui S21 12 (S21.1 0 18).toNatClampNeg z52) 0 18 z55) 0 17 z59) I60 F61 (show (S21.1 0 19).toInt = (σ.1 0 19).toInt from by omega) (show (9 - z55.toInt).toNat < n28 from by omega)
    exact L24 _ (kw_ui (kw_ui S2 0 17 z16) 0 18 0) I19 F20 (show (S2.1 0 19).toInt = (σ.1 0 19).toInt from by omega) (Nat.lt_succ_self _)
  · refine kw_iconst (pc := 15) (i := 8) (v := 0) rfl rfl ?_
    exact kw_ireturn (pc := 16) (i := 9) (ty := .boolean) rfl rfl rfl ⟨⟨I6, F8⟩, _, rfl, ⟨by omega, (show ((0 : Int32).toInt = 0 ∨ 1 ≤ (S2.1 0 18).toInt) from by omega), (show (S2.1 0 19).toInt = (σ.1 0 19).toInt from by omega)⟩⟩
abbrev p_X8_kindBy (T : Int) (σ : kw_S) (c : Int32) : Option Value → kw_S → Prop := fun vv σ' => σ' = σ ∧ ∃ r : Int32, vv = some (.int r) ∧ (r.toInt = -9 ∨ 98 ≤ c.toInt)
set_option maxRecDepth 100000 in
set_option maxHeartbeats 4000000 in
theorem c_X8_kindBy (l : Launch) (T : Int) (hT0 : 0 ≤ T) (hT1 : T ≤ 3000) (σ : kw_S) (hI : kw_I (bM T) σ) (c : Int32) : kw_Met l 1 KM mX8_kindBy [.int c] σ (p_X8_kindBy T σ c) := by
  have r_c := kw_rng c
  have q_m9 : (-9 : Int32).toInt = -9 := rfl
  have q_0 : (0 : Int32).toInt = 0 := rfl
  have q_1 : (1 : Int32).toInt = 1 := rfl
  have q_2 : (2 : Int32).toInt = 2 := rfl
  have q_3 : (3 : Int32).toInt = 3 := rfl
  have q_4 : (4 : Int32).toInt = 4 := rfl
  have q_5 : (5 : Int32).toInt = 5 := rfl
  have q_98 : (98 : Int32).toInt = 98 := rfl
  have q_107 : (107 : Int32).toInt = 107 := rfl
  have q_108 : (108 : Int32).toInt = 108 := rfl
  have q_111 : (111 : Int32).toInt = 111 := rfl
  have q_112 : (112 : Int32).toInt = 112 := rfl
  have q_115 : (115 : Int32).toInt = 115 := rfl
  refine kw_Met.of (by decide) rfl tX8_kindBy (Nat.le_of_ble_eq_true rfl) ?_
  show kw_AW l 1 kw_E0 KM mX8_kindBy (p_X8_kindBy T σ c) 0 [(0, .int c)] [] σ
  refine kw_iload_n (pc := 0) (i := 0) (k := 0) (n := 0) rfl rfl rfl ?_
  refine kw_bipush (pc := 1) (i := 1) (v := 108) rfl rfl ?_
  refine kw_icmp_ne (pc := 3) (i := 2) (tgt := 10) rfl rfl (fun c1 => ?_) (fun c1 => ?_)
  · refine kw_iload_n (pc := 10) (i := 5) (k := 0) (n := 0) rfl rfl rfl ?_
    refine kw_bipush (pc := 11) (i := 6) (v := 115) rfl rfl ?_
    refine kw_icmp_ne (pc := 13) (i := 7) (tgt := 20) rfl rfl (fun c2 => ?_) (fun c2 => ?_)
    · refine kw_iload_n (pc := 20) (i := 10) (k := 0) (n := 0) rfl rfl rfl ?_
      refine kw_bipush (pc := 21) (i := 11) (v := 98) rfl rfl ?_
      refine kw_icmp_ne (pc := 23) (i := 12) (tgt := 30) rfl rfl (fun c3 => ?_) (fun c3 => ?_)
      · refine kw_iload_n (pc := 30) (i := 15) (k := 0) (n := 0) rfl rfl rfl ?_
        refine kw_bipush (pc := 31) (i := 16) (v := 107) rfl rfl ?_
        refine kw_icmp_ne (pc := 33) (i := 17) (tgt := 40) rfl rfl (fun c4 => ?_) (fun c4 => ?_)
        · refine kw_iload_n (pc := 40) (i := 20) (k := 0) (n := 0) rfl rfl rfl ?_
          refine kw_bipush (pc := 41) (i := 21) (v := 111) rfl rfl ?_
          refine kw_icmp_ne (pc := 43) (i := 22) (tgt := 50) rfl rfl (fun c5 => ?_) (fun c5 => ?_)
          · refine kw_iload_n (pc := 50) (i := 25) (k := 0) (n := 0) rfl rfl rfl ?_
            refine kw_bipush (pc := 51) (i := 26) (v := 112) rfl rfl ?_
            refine kw_icmp_ne (pc := 53) (i := 27) (tgt := 60) rfl rfl (fun c6 => ?_) (fun c6 => ?_)
            · refine kw_bipush (pc := 60) (i := 30) (v := (-9)) rfl rfl ?_
              exact kw_ireturn (pc := 62) (i := 31) (ty := .int) rfl rfl rfl ⟨rfl, _, rfl, by omega⟩
            · refine kw_iconst (pc := 56) (i := 28) (v := 5) rfl rfl ?_
              refine kw_goto (pc := 57) (i := 29) (tgt := 62) rfl rfl ?_
              exact kw_ireturn (pc := 62) (i := 31) (ty := .int) rfl rfl rfl ⟨rfl, _, rfl, by omega⟩
          · refine kw_iconst (pc := 46) (i := 23) (v := 4) rfl rfl ?_
            refine kw_goto (pc := 47) (i := 24) (tgt := 62) rfl rfl ?_
            exact kw_ireturn (pc := 62) (i := 31) (ty := .int) rfl rfl rfl ⟨rfl, _, rfl, by omega⟩
        · refine kw_iconst (pc := 36) (i := 18) (v := 3) rfl rfl ?_
          refine kw_goto (pc := 37) (i := 19) (tgt := 62) rfl rfl ?_
          exact kw_ireturn (pc := 62) (i := 31) (ty := .int) rfl rfl rfl ⟨rfl, _, rfl, by omega⟩
      · refine kw_iconst (pc := 26) (i := 13) (v := 2) rfl rfl ?_
        refine kw_goto (pc := 27) (i := 14) (tgt := 62) rfl rfl ?_
        exact kw_ireturn (pc := 62) (i := 31) (ty := .int) rfl rfl rfl ⟨rfl, _, rfl, by omega⟩
    · refine kw_iconst (pc := 16) (i := 8) (v := 1) rfl rfl ?_
      refine kw_goto (pc := 17) (i := 9) (tgt := 62) rfl rfl ?_
      exact kw_ireturn (pc := 62) (i := 31) (ty := .int) rfl rfl rfl ⟨rfl, _, rfl, by omega⟩
  · refine kw_iconst (pc := 6) (i := 3) (v := 0) rfl rfl ?_
    refine kw_goto (pc := 7) (i := 4) (tgt := 62) rfl rfl ?_
    exact kw_ireturn (pc := 62) (i := 31) (ty := .int) rfl rfl rfl ⟨rfl, _, rfl, by omega⟩
abbrev p_X8_readsLine_0 (T : Int) (σ : kw_S) (a : Int32) : Option Value → kw_S → Prop := fun vv σ' => (kw_I (bM T) σ' ∧ kw_F [0, 13] σ σ') ∧ ∃ r : Int32, vv = some (.int r) ∧ (r.toInt = 0 ∨ r.toInt = 1) ∧ (r.toInt = 0 ∨ (σ.1 0 17).toInt < (σ'.1 0 17).toInt) ∧ (σ'.1 0 18).toInt = (σ.1 0 18).toInt
set_option maxRecDepth 100000 in
set_option maxHeartbeats 4000000 in
theorem c_X8_readsLine_0 (l : Launch) (T : Int) (hT0 : 0 ≤ T) (hT1 : T ≤ 3000) (σ : kw_S) (hI : kw_I (bM T) σ) (a : Int32) (hp0 : 0 ≤ a.toInt) (hp1 : a.toInt ≤ 3) : kw_Met l 3 KM mX8_readsLine [.ref 0, .int a] σ (p_X8_readsLine_0 T σ a) := by
  have r_a := kw_rng a
  have hF0 : kw_F [0, 13] σ σ := kw_F.rf
  have q_m9 : (-9 : Int32).toInt = -9 := rfl
  have q_0 : (0 : Int32).toInt = 0 := rfl
  have q_1 : (1 : Int32).toInt = 1 := rfl
  have q_2 : (2 : Int32).toInt = 2 := rfl
  have q_3 : (3 : Int32).toInt = 3 := rfl
  have q_4 : (4 : Int32).toInt = 4 := rfl
  have q_6 : (6 : Int32).toInt = 6 := rfl
  have q_8 : (8 : Int32).toInt = 8 := rfl
  have q_9 : (9 : Int32).toInt = 9 := rfl
  refine kw_Met.of (by decide) rfl tX8_readsLine (Nat.le_of_ble_eq_true rfl) ?_
  show kw_AW l 3 kw_E0 KM mX8_readsLine (p_X8_readsLine_0 T σ a) 0 [(0, .ref 0), (1, .int a)] [] σ
  refine kw_aload_n (pc := 0) (i := 0) (k := 0) (n := 0) rfl rfl rfl ?_
  refine kw_iload_n (pc := 1) (i := 1) (k := 1) (n := 1) rfl rfl rfl ?_
  refine kw_callV (pc := 2) (i := 2) (Y := mX8_here) (a := 0) (As := [.int a]) (st := []) kw_hE rfl rfl lvX8_131 arX8_here (c_X8_here_0 l T (by omega) (by omega) σ hI a (by first | omega | decide) (by first | omega | decide)) (by decide) (Nat.le_of_ble_eq_true rfl) rfl (fun v S2 p1 => ?_)
  obtain ⟨e5, z4, rfl, f3⟩ := p1
  rw [e5]
  have f3 : (z4.toInt = -9 ∨ (σ.1 0 17).toInt < 60) := f3
  have r_z4 := kw_rng z4
  show kw_AW l 3 kw_E0 KM mX8_readsLine (p_X8_readsLine_0 T σ a) 5 [(0, .ref 0), (1, .int a)] [.int z4] σ
  refine kw_callS (pc := 5) (i := 3) (Y := mX8_kindBy) (As := [.int z4]) (st := []) kw_hE rfl lsX8_141 arX8_kindBy (c_X8_kindBy l T (by omega) (by omega) σ hI z4 ) (by decide) (Nat.le_of_ble_eq_true rfl) rfl (fun v S7 p6 => ?_)
  obtain ⟨e10, z9, rfl, f8⟩ := p6
  rw [e10]
  have r_z9 := kw_rng z9
  show kw_AW l 3 kw_E0 KM mX8_readsLine (p_X8_readsLine_0 T σ a) 8 [(0, .ref 0), (1, .int a)] [.int z9] σ
  refine kw_istore_n (pc := 8) (i := 4) (n := 2) (lv' := [(2, .int z9), (0, .ref 0), (1, .int a)]) rfl rfl (by decide) rfl ?_
  refine kw_iload_n (pc := 9) (i := 5) (k := 0) (n := 2) rfl rfl rfl ?_
  refine kw_bipush (pc := 10) (i := 6) (v := (-9)) rfl rfl ?_
  refine kw_icmp_eq (pc := 12) (i := 7) (tgt := 24) rfl rfl (fun c11 => ?_) (fun c11 => ?_)
  · refine kw_iconst (pc := 24) (i := 12) (v := 0) rfl rfl ?_
    exact kw_ireturn (pc := 25) (i := 13) (ty := .boolean) rfl rfl rfl ⟨⟨hI, hF0⟩, _, rfl, ⟨by omega, (show ((0 : Int32).toInt = 0 ∨ (σ.1 0 17).toInt < (σ.1 0 17).toInt) from by omega), (show (σ.1 0 18).toInt = (σ.1 0 18).toInt from by omega)⟩⟩
  · refine kw_aload_n (pc := 15) (i := 8) (k := 1) (n := 0) rfl rfl rfl ?_
    refine kw_get (pc := 16) (i := 9) (v := .int (σ.1 0 19)) rfl rfl rfl lkX8_144 (fun _ => rfl) ?_
    have b12 : 0 ≤ (σ.1 0 19).toInt ∧ (σ.1 0 19).toInt ≤ 6 := hI 0 19
    refine kw_bipush (pc := 19) (i := 10) (v := 6) rfl rfl ?_
    refine kw_icmp_ne (pc := 21) (i := 11) (tgt := 26) rfl rfl (fun c13 => ?_) (fun c13 => ?_)
    · refine kw_iconst (pc := 26) (i := 14) (v := 4) rfl rfl ?_
      refine kw_aload_n (pc := 27) (i := 15) (k := 1) (n := 0) rfl rfl rfl ?_
      refine kw_get (pc := 28) (i := 16) (v := .int (σ.1 0 19)) rfl rfl rfl lkX8_144 (fun _ => rfl) ?_
      refine kw_imul (pc := 31) (i := 17) rfl (fun z14 e_z14 t_z14 => ?_)
      rw [show (4 : Int32).toInt = 4 from rfl] at t_z14
      first | (have u_z14 : z14.toInt = 4 * (σ.1 0 19).toInt := (by omega); clear t_z14) | skip
      refine kw_istore_n (pc := 32) (i := 18) (n := 3) (lv' := [(3, .int z14), (2, .int z9), (0, .ref 0), (1, .int a)]) rfl rfl (by decide) rfl ?_
      refine kw_aload_n (pc := 33) (i := 19) (k := 2) (n := 0) rfl rfl rfl ?_
      refine kw_get (pc := 34) (i := 20) (v := .ref 13) rfl rfl rfl lkX8_54 (fun _ => rfl) ?_
      refine kw_iload_n (pc := 37) (i := 21) (k := 0) (n := 3) rfl rfl rfl ?_
      refine kw_iload_n (pc := 38) (i := 22) (k := 1) (n := 2) rfl rfl rfl ?_
      refine kw_iast (pc := 39) (i := 23) (n := 24) rfl rfl (by omega) (by omega) ?_
      have I15 : kw_I (bM T) (kw_ui σ 13 z14.toNatClampNeg z9) := kw_I_ui hI (kw_rng z9).1 (Int.le_of_lt_add_one (kw_rng z9).2)
      have F16 : kw_F [0, 13] σ (kw_ui σ 13 z14.toNatClampNeg z9) := kw_F_ui hF0 (by decide)
      refine kw_aload_n (pc := 40) (i := 24) (k := 2) (n := 0) rfl rfl rfl ?_
      refine kw_dup (pc := 41) (i := 25) rfl rfl ?_
      refine kw_get (pc := 42) (i := 26) (v := .int (σ.1 0 17)) rfl rfl rfl lkX8_128 (fun _ => rfl) ?_
      have b17 : 0 ≤ (σ.1 0 17).toInt ∧ (σ.1 0 17).toInt ≤ 60 := hI 0 17
      refine kw_iconst (pc := 45) (i := 27) (v := 1) rfl rfl ?_
      refine kw_iadd (pc := 46) (i := 28) rfl (fun z18 e_z18 t_z18 => ?_)
      first | (have u_z18 : z18.toInt = (σ.1 0 17).toInt + 1 := (by omega); clear t_z18) | skip
      refine kw_puti (pc := 47) (i := 29) (z := 0) rfl rfl rfl lpX8_128 rfl rfl ?_
      have I19 : kw_I (bM T) (kw_ui (kw_ui σ 13 z14.toNatClampNeg z9) 0 17 z18) := kw_I_ui I15 (show 0 ≤ z18.toInt by omega) (show z18.toInt ≤ 60 by omega)
      have F20 : kw_F [0, 13] σ (kw_ui (kw_ui σ 13 z14.toNatClampNeg z9) 0 17 z18) := kw_F_ui F16 (by decide)
      refine kw_aload_n (pc := 50) (i := 30) (k := 2) (n := 0) rfl rfl rfl ?_
      refine kw_iload_n (pc := 51) (i := 31) (k := 3) (n := 1) rfl rfl rfl ?_
      refine kw_iload_n (pc := 52) (i := 32) (k := 0) (n := 3) rfl rfl rfl ?_
      refine kw_iconst (pc := 53) (i := 33) (v := 1) rfl rfl ?_
      refine kw_iadd (pc := 54) (i := 34) rfl (fun z21 e_z21 t_z21 => ?_)
      first | (have u_z21 : z21.toInt = z14.toInt + 1 := (by omega); clear t_z21) | skip
      refine kw_iconst (pc := 55) (i := 35) (v := 0) rfl rfl ?_
      refine kw_bipush (pc := 56) (i := 36) (v := 8) rfl rfl ?_
      refine kw_callV (pc := 58) (i := 37) (Y := mX8_figure) (a := 0) (As := [.int a, .int z21, .int 0, .int 8]) (st := []) kw_hE rfl rfl lvX8_147 arX8_figure (c_X8_figure_0 l T (by omega) (by omega) (kw_ui (kw_ui σ 13 z14.toNatClampNeg z9) 0 17 z18) I19 a z21 0 8 (by first | omega | decide) (by first | omega | decide) (by first | omega | decide) (by first | omega | decide) (by first | omega | decide)) (by decide) (Nat.le_of_ble_eq_true rfl) rfl (fun v S23 p22 => ?_)
      obtain ⟨⟨I29, F30⟩, z28, rfl, f24, f25, f26, f27⟩ := p22
      have F31 : kw_F [0, 13] σ S23 := kw_F.tr F20 F30 (by decide)
      have f25 : z18.toInt ≤ (S23.1 0 17).toInt := f25
      have f26 : (S23.1 0 18).toInt = (σ.1 0 18).toInt := f26
      have f27 : (S23.1 0 19).toInt = (σ.1 0 19).toInt := f27
      have r_z28 := kw_rng z28
      show kw_AW l 3 kw_E0 KM mX8_readsLine (p_X8_readsLine_0 T σ a) 61 [(3, .int z14), (2, .int z9), (0, .ref 0), (1, .int a)] [.int z28] S23
      refine kw_if_eq (pc := 61) (i := 38) (tgt := 92) rfl rfl (fun c32 => ?_) (fun c32 => ?_)
      · refine kw_iconst (pc := 92) (i := 57) (v := 0) rfl rfl ?_
        exact kw_ireturn (pc := 93) (i := 58) (ty := .boolean) rfl rfl rfl ⟨⟨I29, F31⟩, _, rfl, ⟨by omega, (show ((0 : Int32).toInt = 0 ∨ (σ.1 0 17).toInt < (S23.1 0 17).toInt) from by omega), (show (S23.1 0 18).toInt = (σ.1 0 18).toInt from by omega)⟩⟩
      · refine kw_aload_n (pc := 64) (i := 39) (k := 2) (n := 0) rfl rfl rfl ?_
        refine kw_iload_n (pc := 65) (i := 40) (k := 3) (n := 1) rfl rfl rfl ?_
        refine kw_iload_n (pc := 66) (i := 41) (k := 0) (n := 3) rfl rfl rfl ?_
        refine kw_iconst (pc := 67) (i := 42) (v := 2) rfl rfl ?_
        refine kw_iadd (pc := 68) (i := 43) rfl (fun z33 e_z33 t_z33 => ?_)
        first | (have u_z33 : z33.toInt = z14.toInt + 2 := (by omega); clear t_z33) | skip
        refine kw_iconst (pc := 69) (i := 44) (v := 1) rfl rfl ?_
        refine kw_bipush (pc := 70) (i := 45) (v := 9) rfl rfl ?_
        refine kw_callV (pc := 72) (i := 46) (Y := mX8_figure) (a := 0) (As := [.int a, .int z33, .int 1, .int 9]) (st := []) kw_hE rfl rfl lvX8_147 arX8_figure (c_X8_figure_0 l T (by omega) (by omega) S23 I29 a z33 1 9 (by first | omega | decide) (by first | omega | decide) (by first | omega | decide) (by first | omega | decide) (by first | omega | decide)) (by decide) (Nat.le_of_ble_eq_true rfl) rfl (fun v S35 p34 => ?_)
        obtain ⟨⟨I41, F42⟩, z40, rfl, f36, f37, f38, f39⟩ := p34
        have F43 : kw_F [0, 13] σ S35 := kw_F.tr F31 F42 (by decide)
        have f37 : (S23.1 0 17).toInt ≤ (S35.1 0 17).toInt := f37
        have f38 : (S35.1 0 18).toInt = (S23.1 0 18).toInt := f38
        have f39 : (S35.1 0 19).toInt = (S23.1 0 19).toInt := f39
        have r_z40 := kw_rng z40
        show kw_AW l 3 kw_E0 KM mX8_readsLine (p_X8_readsLine_0 T σ a) 75 [(3, .int z14), (2, .int z9), (0, .ref 0), (1, .int a)] [.int z40] S35
        refine kw_if_eq (pc := 75) (i := 47) (tgt := 92) rfl rfl (fun c44 => ?_) (fun c44 => ?_)
        · refine kw_iconst (pc := 92) (i := 57) (v := 0) rfl rfl ?_
          exact kw_ireturn (pc := 93) (i := 58) (ty := .boolean) rfl rfl rfl ⟨⟨I41, F43⟩, _, rfl, ⟨by omega, (show ((0 : Int32).toInt = 0 ∨ (σ.1 0 17).toInt < (S35.1 0 17).toInt) from by omega), (show (S35.1 0 18).toInt = (σ.1 0 18).toInt from by omega)⟩⟩
        · refine kw_aload_n (pc := 78) (i := 48) (k := 2) (n := 0) rfl rfl rfl ?_
          refine kw_iload_n (pc := 79) (i := 49) (k := 3) (n := 1) rfl rfl rfl ?_
          refine kw_iload_n (pc := 80) (i := 50) (k := 0) (n := 3) rfl rfl rfl ?_
          refine kw_iconst (pc := 81) (i := 51) (v := 3) rfl rfl ?_
          refine kw_iadd (pc := 82) (i := 52) rfl (fun z45 e_z45 t_z45 => ?_)
          first | (have u_z45 : z45.toInt = z14.toInt + 3 := (by omega); clear t_z45) | skip
          refine kw_iconst (pc := 83) (i := 53) (v := 0) rfl rfl ?_
          refine kw_bipush (pc := 84) (i := 54) (v := 9) rfl rfl ?_
          refine kw_callV (pc := 86) (i := 55) (Y := mX8_figure) (a := 0) (As := [.int a, .int z45, .int 0, .int 9]) (st := []) kw_hE rfl rfl lvX8_147 arX8_figure (c_X8_figure_0 l T (by omega) (by omega) S35 I41 a z45 0 9 (by first | omega | decide) (by first | omega | decide) (by first | omega | decide) (by first | omega | decide) (by first | omega | decide)) (by decide) (Nat.le_of_ble_eq_true rfl) rfl (fun v S47 p46 => ?_)
          obtain ⟨⟨I53, F54⟩, z52, rfl, f48, f49, f50, f51⟩ := p46
          have F55 : kw_F [0, 13] σ S47 := kw_F.tr F43 F54 (by decide)
          have f49 : (S35.1 0 17).toInt ≤ (S47.1 0 17).toInt := f49
          have f50 : (S47.1 0 18).toInt = (S35.1 0 18).toInt := f50
          have f51 : (S47.1 0 19).toInt = (S35.1 0 19).toInt := f51
          have r_z52 := kw_rng z52
          show kw_AW l 3 kw_E0 KM mX8_readsLine (p_X8_readsLine_0 T σ a) 89 [(3, .int z14), (2, .int z9), (0, .ref 0), (1, .int a)] [.int z52] S47
          refine kw_if_ne (pc := 89) (i := 56) (tgt := 94) rfl rfl (fun c56 => ?_) (fun c56 => ?_)
          · refine kw_aload_n (pc := 94) (i := 59) (k := 2) (n := 0) rfl rfl rfl ?_
            refine kw_dup (pc := 95) (i := 60) rfl rfl ?_
            refine kw_get (pc := 96) (i := 61) (v := .int (S47.1 0 19)) rfl rfl rfl lkX8_144 (fun _ => rfl) ?_
            have b57 : 0 ≤ (S47.1 0 19).toInt ∧ (S47.1 0 19).toInt ≤ 6 := I53 0 19
            refine kw_iconst (pc := 99) (i := 62) (v := 1) rfl rfl ?_
            refine kw_iadd (pc := 100) (i := 63) rfl (fun z58 e_z58 t_z58 => ?_)
            first | (have u_z58 : z58.toInt = (S47.1 0 19).toInt + 1 := (by omega); clear t_z58) | skip
            refine kw_puti (pc := 101) (i := 64) (z := 0) rfl rfl rfl lpX8_144 rfl rfl ?_
            have I59 : kw_I (bM T) (kw_ui S47 0 19 z58) := kw_I_ui I53 (show 0 ≤ z58.toInt by omega) (show z58.toInt ≤ 6 by omega)
            have F60 : kw_F [0, 13] σ (kw_ui S47 0 19 z58) := kw_F_ui F55 (by decide)
            refine kw_iconst (pc := 104) (i := 65) (v := 1) rfl rfl ?_
            exact kw_ireturn (pc := 105) (i := 66) (ty := .boolean) rfl rfl rfl ⟨⟨I59, F60⟩, _, rfl, ⟨by omega, (show ((1 : Int32).toInt = 0 ∨ (σ.1 0 17).toInt < (S47.1 0 17).toInt) from by omega), (show (S47.1 0 18).toInt = (σ.1 0 18).toInt from by omega)⟩⟩
          · refine kw_iconst (pc := 92) (i := 57) (v := 0) rfl rfl ?_
            exact kw_ireturn (pc := 93) (i := 58) (ty := .boolean) rfl rfl rfl ⟨⟨I53, F55⟩, _, rfl, ⟨by omega, (show ((0 : Int32).toInt = 0 ∨ (σ.1 0 17).toInt < (S47.1 0 17).toInt) from by omega), (show (S47.1 0 18).toInt = (σ.1 0 18).toInt from by omega)⟩⟩
    · refine kw_iconst (pc := 24) (i := 12) (v := 0) rfl rfl ?_
      exact kw_ireturn (pc := 25) (i := 13) (ty := .boolean) rfl rfl rfl ⟨⟨hI, hF0⟩, _, rfl, ⟨by omega, (show ((0 : Int32).toInt = 0 ∨ (σ.1 0 17).toInt < (σ.1 0 17).toInt) from by omega), (show (σ.1 0 18).toInt = (σ.1 0 18).toInt from by omega)⟩⟩
