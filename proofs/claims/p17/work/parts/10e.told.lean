noncomputable def f_X4_answer_8 (σ : kw_S) (v : Int32) : Int32 × kw_S := ((1 : Int32), kw_ui σ 8 2 v)
theorem f_X4_answer_8_u (σ : kw_S) (v : Int32) : f_X4_answer_8 σ v = ((1 : Int32), kw_ui σ 8 2 v) := rfl
abbrev p_X4_answer_8 (σ : kw_S) (v : Int32) : Option Value → kw_S → Prop := fun vv σ' => (kw_I bX σ' ∧ kw_F [8] σ σ') ∧ ∃ r : Int32, vv = some (.int r) ∧ r.toInt = 1 ∧ (r, σ') = f_X4_answer_8 σ v
set_option maxRecDepth 100000 in
set_option maxHeartbeats 4000000 in
theorem c_X4_answer_8 (l : Launch) (σ : kw_S) (hI : kw_I bX σ) (v : Int32) : kw_Met l 1 KX mX4_answer [.ref 8, .int v] σ (p_X4_answer_8 σ v) := by
  have r_v := kw_rng v
  have hF0 : kw_F [8] σ σ := kw_F.rf
  have hF := (f_X4_answer_8_u σ v).symm
  have q_1 : (1 : Int32).toInt = 1 := rfl
  refine kw_Met.of (by decide) rfl tX4_answer (Nat.le_of_ble_eq_true rfl) ?_
  show kw_AW l 1 kw_E0 KX mX4_answer (p_X4_answer_8 σ v) 0 [(0, .ref 8), (1, .int v)] [] σ
  refine kw_aload_n (pc := 0) (i := 0) (k := 0) (n := 0) rfl rfl rfl ?_
  refine kw_iload_n (pc := 1) (i := 1) (k := 1) (n := 1) rfl rfl rfl ?_
  refine kw_puti (pc := 2) (i := 2) (z := 0) rfl rfl rfl lpX4_19 rfl rfl ?_
  have I1 : kw_I bX (kw_ui σ 8 2 v) := kw_I_ui hI (kw_rng v).1 (Int.le_of_lt_add_one (kw_rng v).2)
  have F2 : kw_F [8] σ (kw_ui σ 8 2 v) := kw_F_ui hF0 (by decide)
  refine kw_iconst (pc := 5) (i := 3) (v := 1) rfl rfl ?_
  exact kw_ireturn (pc := 6) (i := 4) (ty := .int) rfl rfl rfl ⟨⟨I1, F2⟩, _, rfl, by omega, hF⟩
noncomputable def f_X4_refuse_8 (σ : kw_S) (f : Int32) : Int32 × kw_S := if f.toInt < (1 : Int32).toInt then ((((-3) : Int32), σ)) else (if (5 : Int32).toInt < f.toInt then ((((-3) : Int32), σ)) else (kf_l ((kw_ui σ 8 1 f).1 28 f.toNatClampNeg) fun z1 => kf_l (z1 + (1 : Int32)) fun z2 => (((-3) : Int32), kw_ui (kw_ui σ 8 1 f) 28 f.toNatClampNeg z2)))
theorem f_X4_refuse_8_u (σ : kw_S) (f : Int32) : f_X4_refuse_8 σ f = if f.toInt < (1 : Int32).toInt then ((((-3) : Int32), σ)) else (if (5 : Int32).toInt < f.toInt then ((((-3) : Int32), σ)) else (kf_l ((kw_ui σ 8 1 f).1 28 f.toNatClampNeg) fun z1 => kf_l (z1 + (1 : Int32)) fun z2 => (((-3) : Int32), kw_ui (kw_ui σ 8 1 f) 28 f.toNatClampNeg z2))) := rfl
abbrev p_X4_refuse_8 (σ : kw_S) (f : Int32) : Option Value → kw_S → Prop := fun vv σ' => (kw_I bX σ' ∧ kw_F [8, 28] σ σ') ∧ ∃ r : Int32, vv = some (.int r) ∧ r.toInt = -3 ∧ (r, σ') = f_X4_refuse_8 σ f
set_option maxRecDepth 100000 in
set_option maxHeartbeats 4000000 in
theorem c_X4_refuse_8 (l : Launch) (σ : kw_S) (hI : kw_I bX σ) (f : Int32) : kw_Met l 1 KX mX4_refuse [.ref 8, .int f] σ (p_X4_refuse_8 σ f) := by
  have r_f := kw_rng f
  have hF0 : kw_F [8, 28] σ σ := kw_F.rf
  have hF := (f_X4_refuse_8_u σ f).symm
  have q_m3 : (-3 : Int32).toInt = -3 := rfl
  have q_1 : (1 : Int32).toInt = 1 := rfl
  have q_5 : (5 : Int32).toInt = 5 := rfl
  refine kw_Met.of (by decide) rfl tX4_refuse (Nat.le_of_ble_eq_true rfl) ?_
  show kw_AW l 1 kw_E0 KX mX4_refuse (p_X4_refuse_8 σ f) 0 [(0, .ref 8), (1, .int f)] [] σ
  refine kw_iload_n (pc := 0) (i := 0) (k := 1) (n := 1) rfl rfl rfl ?_
  refine kw_iconst (pc := 1) (i := 1) (v := 1) rfl rfl ?_
  refine kw_icmp_lt (pc := 2) (i := 2) (tgt := 10) rfl rfl (fun c1 => ?_) (fun c1 => ?_)
  · replace hF := kf_p c1 hF
    refine kw_bipush (pc := 10) (i := 6) (v := (-3)) rfl rfl ?_
    exact kw_ireturn (pc := 12) (i := 7) (ty := .int) rfl rfl rfl ⟨⟨hI, hF0⟩, _, rfl, by omega, hF⟩
  · replace hF := kf_nl c1 hF
    refine kw_iload_n (pc := 5) (i := 3) (k := 1) (n := 1) rfl rfl rfl ?_
    refine kw_iconst (pc := 6) (i := 4) (v := 5) rfl rfl ?_
    refine kw_icmp_le (pc := 7) (i := 5) (tgt := 13) rfl rfl (fun c2 => ?_) (fun c2 => ?_)
    · replace hF := kf_nl c2 hF
      refine kw_aload_n (pc := 13) (i := 8) (k := 0) (n := 0) rfl rfl rfl ?_
      refine kw_iload_n (pc := 14) (i := 9) (k := 1) (n := 1) rfl rfl rfl ?_
      refine kw_puti (pc := 15) (i := 10) (z := 0) rfl rfl rfl lpX4_23 rfl rfl ?_
      have I3 : kw_I bX (kw_ui σ 8 1 f) := kw_I_ui hI (kw_rng f).1 (Int.le_of_lt_add_one (kw_rng f).2)
      have F4 : kw_F [8, 28] σ (kw_ui σ 8 1 f) := kw_F_ui hF0 (by decide)
      refine kw_aload_n (pc := 18) (i := 11) (k := 0) (n := 0) rfl rfl rfl ?_
      refine kw_get (pc := 19) (i := 12) (v := .ref 28) rfl rfl rfl lkX4_9 (fun _ => rfl) ?_
      refine kw_iload_n (pc := 22) (i := 13) (k := 1) (n := 1) rfl rfl rfl ?_
      refine kw_dup2 (pc := 23) (i := 14) rfl rfl rfl ?_
      refine kw_iald (pc := 24) (i := 15) (n := 6) rfl rfl (by omega) (by omega) (fun z5 e_z5 => ?_)
      replace hF := kf_le e_z5 hF
      have t_z5 := congrArg Int32.toInt e_z5
      have r_z5 := kw_rng z5
      refine kw_iconst (pc := 25) (i := 16) (v := 1) rfl rfl ?_
      refine kw_iadd (pc := 26) (i := 17) rfl (fun z6 e_z6 t_z6 => ?_)
      replace hF := kf_le e_z6 hF
      refine kw_iast (pc := 27) (i := 18) (n := 6) rfl rfl (by omega) (by omega) ?_
      have I7 : kw_I bX (kw_ui (kw_ui σ 8 1 f) 28 f.toNatClampNeg z6) := kw_I_ui I3 (kw_rng z6).1 (Int.le_of_lt_add_one (kw_rng z6).2)
      have F8 : kw_F [8, 28] σ (kw_ui (kw_ui σ 8 1 f) 28 f.toNatClampNeg z6) := kw_F_ui F4 (by decide)
      refine kw_bipush (pc := 28) (i := 19) (v := (-3)) rfl rfl ?_
      exact kw_ireturn (pc := 30) (i := 20) (ty := .int) rfl rfl rfl ⟨⟨I7, F8⟩, _, rfl, by omega, hF⟩
    · replace hF := kf_p c2 hF
      refine kw_bipush (pc := 10) (i := 6) (v := (-3)) rfl rfl ?_
      exact kw_ireturn (pc := 12) (i := 7) (ty := .int) rfl rfl rfl ⟨⟨hI, hF0⟩, _, rfl, by omega, hF⟩
noncomputable def f_X4_tellWhole_8 (σ : kw_S) (v : Int64) : kw_S := kw_ul (kw_ul σ 8 3 v) 8 4 1
theorem f_X4_tellWhole_8_u (σ : kw_S) (v : Int64) : f_X4_tellWhole_8 σ v = kw_ul (kw_ul σ 8 3 v) 8 4 1 := rfl
abbrev p_X4_tellWhole_8 (σ : kw_S) (v : Int64) : Option Value → kw_S → Prop := fun vv σ' => (kw_I bX σ' ∧ kw_F [8] σ σ') ∧ vv = none ∧ σ' = f_X4_tellWhole_8 σ v
set_option maxRecDepth 100000 in
set_option maxHeartbeats 4000000 in
theorem c_X4_tellWhole_8 (l : Launch) (σ : kw_S) (hI : kw_I bX σ) (v : Int64) : kw_Met l 1 KX mX4_tellWhole [.ref 8, .long v] σ (p_X4_tellWhole_8 σ v) := by
  have hF0 : kw_F [8] σ σ := kw_F.rf
  have hF := (f_X4_tellWhole_8_u σ v).symm
  refine kw_Met.of (by decide) rfl tX4_tellWhole (Nat.le_of_ble_eq_true rfl) ?_
  show kw_AW l 1 kw_E0 KX mX4_tellWhole (p_X4_tellWhole_8 σ v) 0 [(0, .ref 8), (1, .long v)] [] σ
  refine kw_aload_n (pc := 0) (i := 0) (k := 0) (n := 0) rfl rfl rfl ?_
  refine kw_lload_n (pc := 1) (i := 1) (k := 1) (n := 1) rfl rfl rfl ?_
  refine kw_putl (pc := 2) (i := 2) (z := 0) rfl rfl rfl lpX4_26 ?_
  have I1 : kw_I bX (kw_ul σ 8 3 v) := kw_I_ul hI _ _ _
  have F2 : kw_F [8] σ (kw_ul σ 8 3 v) := kw_F_ul hF0 (by decide)
  refine kw_aload_n (pc := 5) (i := 3) (k := 0) (n := 0) rfl rfl rfl ?_
  refine kw_lconst (pc := 6) (i := 4) (v := 1) rfl rfl ?_
  refine kw_putl (pc := 7) (i := 5) (z := 0) rfl rfl rfl lpX4_15 ?_
  have I3 : kw_I bX (kw_ul (kw_ul σ 8 3 v) 8 4 1) := kw_I_ul I1 _ _ _
  have F4 : kw_F [8] σ (kw_ul (kw_ul σ 8 3 v) 8 4 1) := kw_F_ul F2 (by decide)
  exact kw_return (pc := 10) (i := 6) rfl rfl ⟨⟨I3, F4⟩, rfl, hF⟩
noncomputable def l_X4_commonDivisor_9 (a0 : Int64) (a2 : Int64) (S : kw_S) : Nat → Int64 → Int64 → Int32 → Int64
  | 0, _, _, _ => 0
  | n + 1, x4, x6, x8 => if x8.toInt < (100 : Int32).toInt then (kf_l (lg_cmp x6 (0 : Int64)) fun z1 => if z1.toInt = 0 then (x4) else (kf_l (x4 - x4 / x6 * x6) fun z2 => kf_l (x8 + Int32.ofInt 1) fun z3 => l_X4_commonDivisor_9 a0 a2 S n x6 z2 z3)) else (x4)
theorem l_X4_commonDivisor_9_s (a0 : Int64) (a2 : Int64) (S : kw_S) (n : Nat) (x4 : Int64) (x6 : Int64) (x8 : Int32) : l_X4_commonDivisor_9 a0 a2 S (n + 1) x4 x6 x8 = if x8.toInt < (100 : Int32).toInt then (kf_l (lg_cmp x6 (0 : Int64)) fun z1 => if z1.toInt = 0 then (x4) else (kf_l (x4 - x4 / x6 * x6) fun z2 => kf_l (x8 + Int32.ofInt 1) fun z3 => l_X4_commonDivisor_9 a0 a2 S n x6 z2 z3)) else (x4) := rfl
noncomputable def f_X4_commonDivisor (σ : kw_S) (a : Int64) (b : Int64) : Int64 := l_X4_commonDivisor_9 a b σ ((101 - (0 : Int32).toInt).toNat + 1) a b (0 : Int32)
theorem f_X4_commonDivisor_u (σ : kw_S) (a : Int64) (b : Int64) : f_X4_commonDivisor σ a b = l_X4_commonDivisor_9 a b σ ((101 - (0 : Int32).toInt).toNat + 1) a b (0 : Int32) := rfl
abbrev p_X4_commonDivisor (σ : kw_S) (a : Int64) (b : Int64) : Option Value → kw_S → Prop := fun vv σ' => σ' = σ ∧ ∃ r : Int64, vv = some (.long r) ∧ r = f_X4_commonDivisor σ a b
set_option maxRecDepth 100000 in
set_option maxHeartbeats 4000000 in
theorem c_X4_commonDivisor (l : Launch) (σ : kw_S) (hI : kw_I bX σ) (a : Int64) (b : Int64) : kw_Met l 1 KX mX4_commonDivisor [.long a, .long b] σ (p_X4_commonDivisor σ a b) := by
  have hF := (f_X4_commonDivisor_u σ a b).symm
  have q_0 : (0 : Int32).toInt = 0 := rfl
  have q_100 : (100 : Int32).toInt = 100 := rfl
  refine kw_Met.of (by decide) rfl tX4_commonDivisor (Nat.le_of_ble_eq_true rfl) ?_
  show kw_AW l 1 kw_E0 KX mX4_commonDivisor (p_X4_commonDivisor σ a b) 0 [(0, .long a), (2, .long b)] [] σ
  refine kw_lload_n (pc := 0) (i := 0) (k := 0) (n := 0) rfl rfl rfl ?_
  refine kw_lstore (pc := 1) (i := 1) (n := 4) (lv' := [(4, .long a), (0, .long a), (2, .long b)]) rfl (by decide) rfl ?_
  refine kw_lload_n (pc := 3) (i := 2) (k := 2) (n := 2) rfl rfl rfl ?_
  refine kw_lstore (pc := 4) (i := 3) (n := 6) (lv' := [(6, .long b), (4, .long a), (0, .long a), (2, .long b)]) rfl (by decide) rfl ?_
  refine kw_iconst (pc := 6) (i := 4) (v := 0) rfl rfl ?_
  refine kw_istore (pc := 7) (i := 5) (n := 8) (lv' := [(8, .int 0), (6, .long b), (4, .long a), (0, .long a), (2, .long b)]) rfl (by decide) rfl ?_
  have L4 : ∀ (n8 : Nat) (x1 : Int32) (x2 : Int64) (x3 : Int64), 0 ≤ x1.toInt → l_X4_commonDivisor_9 a b σ n8 x3 x2 x1 = (f_X4_commonDivisor σ a b) → (101 - x1.toInt).toNat < n8 → kw_AW l 1 kw_E0 KX mX4_commonDivisor (p_X4_commonDivisor σ a b) 9 [(8, .int x1), (6, .long x2), (4, .long x3), (0, .long a), (2, .long b)] [] σ := by
    intro n8
    induction n8 with
    | zero => intro x1 x2 x3 v6 hF m7; exact absurd m7 (Nat.not_lt_zero _)
    | succ n8 ih5 =>
      intro x1 x2 x3 v6 hF m7
      replace hF := kf_st (l_X4_commonDivisor_9_s _ _ _ _ _ _ _) hF
      have r_x1 := kw_rng x1
      refine kw_iload (pc := 9) (i := 6) (k := 0) (n := 8) rfl rfl ?_
      refine kw_bipush (pc := 11) (i := 7) (v := 100) rfl rfl ?_
      refine kw_icmp_ge (pc := 13) (i := 8) (tgt := 44) rfl rfl (fun c9 => ?_) (fun c9 => ?_)
      · replace hF := kf_nl c9 hF
        refine kw_lload (pc := 44) (i := 23) (k := 2) (n := 4) rfl rfl ?_
        exact kw_lreturn (pc := 46) (i := 24) rfl rfl ⟨rfl, _, rfl, hF⟩
      · replace hF := kf_p c9 hF
        refine kw_lload (pc := 16) (i := 9) (k := 1) (n := 6) rfl rfl ?_
        refine kw_lconst (pc := 18) (i := 10) (v := 0) rfl rfl ?_
        refine kw_lcmp (pc := 19) (i := 11) rfl (fun z10 e_z10 t_z10 => ?_)
        replace hF := kf_le e_z10 hF
        have lq11 : (0 : Int64).toInt = 0 := rfl
        refine kw_if_eq (pc := 20) (i := 12) (tgt := 44) rfl rfl (fun c12 => ?_) (fun c12 => ?_)
        · replace hF := kf_p c12 hF
          refine kw_lload (pc := 44) (i := 23) (k := 2) (n := 4) rfl rfl ?_
          exact kw_lreturn (pc := 46) (i := 24) rfl rfl ⟨rfl, _, rfl, hF⟩
        · replace hF := kf_n c12 hF
          refine kw_lload (pc := 23) (i := 13) (k := 2) (n := 4) rfl rfl ?_
          refine kw_lload (pc := 25) (i := 14) (k := 1) (n := 6) rfl rfl ?_
          refine kw_lrem (pc := 27) (i := 15) rfl (by omega) (fun z13 e_z13 => ?_)
          replace hF := kf_le e_z13 hF
          refine kw_lstore (pc := 28) (i := 16) (n := 9) (lv' := [(9, .long z13), (8, .int x1), (6, .long x2), (4, .long x3), (0, .long a), (2, .long b)]) rfl (by decide) rfl ?_
          refine kw_lload (pc := 30) (i := 17) (k := 2) (n := 6) rfl rfl ?_
          refine kw_lstore (pc := 32) (i := 18) (n := 4) (lv' := [(4, .long x2), (9, .long z13), (8, .int x1), (6, .long x2), (0, .long a), (2, .long b)]) rfl (by decide) rfl ?_
          refine kw_lload (pc := 34) (i := 19) (k := 1) (n := 9) rfl rfl ?_
          refine kw_lstore (pc := 36) (i := 20) (n := 6) (lv' := [(6, .long z13), (4, .long x2), (9, .long z13), (8, .int x1), (0, .long a), (2, .long b)]) rfl (by decide) rfl ?_
          refine kw_iinc' (pc := 38) (i := 21) (k := 3) (fun z => [(8, .int z), (6, .long z13), (4, .long x2), (9, .long z13), (0, .long a), (2, .long b)]) rfl rfl (by decide) rfl (fun _ => rfl) (fun z14 e_z14 t_z14 => ?_)
          replace hF := kf_le e_z14 hF
          refine kw_goto (pc := 41) (i := 22) (tgt := 9) rfl rfl ?_
          refine kw_sub (lv' := [(8, .int z14), (6, .long z13), (4, .long x2), (0, .long a), (2, .long b)]) [0, 1, 2, 4, 5] rfl ?_
          exact ih5 z14 z13 x2 (by omega) hF (by omega)
  exact L4 _ 0 b a (by omega) hF (Nat.lt_succ_self _)
noncomputable def f_X4_tellShare_8 (σ : kw_S) (a : Int64) (b : Int64) : kw_S := kf_l (if 0 < a then a else -a) fun z1 => kf_l (f_X4_commonDivisor σ z1 b) fun z2 => kf_l (lg_cmp z2 (1 : Int64)) fun z3 => if z3.toInt < 0 then (kf_l (a / (1 : Int64)) fun z6 => kf_l (b / (1 : Int64)) fun z7 => kw_ul (kw_ul σ 8 3 z6) 8 4 z7) else (kf_l (a / z2) fun z4 => kf_l (b / z2) fun z5 => kw_ul (kw_ul σ 8 3 z4) 8 4 z5)
theorem f_X4_tellShare_8_u (σ : kw_S) (a : Int64) (b : Int64) : f_X4_tellShare_8 σ a b = kf_l (if 0 < a then a else -a) fun z1 => kf_l (f_X4_commonDivisor σ z1 b) fun z2 => kf_l (lg_cmp z2 (1 : Int64)) fun z3 => if z3.toInt < 0 then (kf_l (a / (1 : Int64)) fun z6 => kf_l (b / (1 : Int64)) fun z7 => kw_ul (kw_ul σ 8 3 z6) 8 4 z7) else (kf_l (a / z2) fun z4 => kf_l (b / z2) fun z5 => kw_ul (kw_ul σ 8 3 z4) 8 4 z5) := rfl
abbrev p_X4_tellShare_8 (σ : kw_S) (a : Int64) (b : Int64) : Option Value → kw_S → Prop := fun vv σ' => (kw_I bX σ' ∧ kw_F [8] σ σ') ∧ vv = none ∧ σ' = f_X4_tellShare_8 σ a b
set_option maxRecDepth 100000 in
set_option maxHeartbeats 4000000 in
theorem c_X4_tellShare_8 (l : Launch) (σ : kw_S) (hI : kw_I bX σ) (a : Int64) (b : Int64) : kw_Met l 2 KX mX4_tellShare [.ref 8, .long a, .long b] σ (p_X4_tellShare_8 σ a b) := by
  have hF0 : kw_F [8] σ σ := kw_F.rf
  have hF := (f_X4_tellShare_8_u σ a b).symm
  refine kw_Met.of (by decide) rfl tX4_tellShare (Nat.le_of_ble_eq_true rfl) ?_
  show kw_AW l 2 kw_E0 KX mX4_tellShare (p_X4_tellShare_8 σ a b) 0 [(0, .ref 8), (1, .long a), (3, .long b)] [] σ
  refine kw_lload_n (pc := 0) (i := 0) (k := 1) (n := 1) rfl rfl rfl ?_
  refine kw_mabsl (pc := 1) (i := 1) rfl jX4_29 (by omega) (Nat.le_of_ble_eq_true rfl) (fun z1 e_z1 => ?_)
  replace hF := kf_le e_z1 hF
  refine kw_lload_n (pc := 4) (i := 2) (k := 2) (n := 3) rfl rfl rfl ?_
  refine kw_callS (pc := 5) (i := 3) (Y := mX4_commonDivisor) (As := [.long z1, .long b]) (st := []) kw_hE rfl lsX4_35 arX4_commonDivisor (c_X4_commonDivisor l σ hI z1 b ) (by decide) (Nat.le_of_ble_eq_true rfl) rfl (fun v S3 p2 => ?_)
  obtain ⟨e6, z5, rfl, ef4⟩ := p2
  rw [e6]
  replace hF := kf_le ef4 hF
  show kw_AW l 2 kw_E0 KX mX4_tellShare (p_X4_tellShare_8 σ a b) 8 [(0, .ref 8), (1, .long a), (3, .long b)] [.long z5] σ
  refine kw_lstore (pc := 8) (i := 4) (n := 5) (lv' := [(5, .long z5), (0, .ref 8), (1, .long a), (3, .long b)]) rfl (by decide) rfl ?_
  refine kw_lload (pc := 10) (i := 5) (k := 0) (n := 5) rfl rfl ?_
  refine kw_lconst (pc := 12) (i := 6) (v := 1) rfl rfl ?_
  refine kw_lcmp (pc := 13) (i := 7) rfl (fun z7 e_z7 t_z7 => ?_)
  replace hF := kf_le e_z7 hF
  have lq8 : (1 : Int64).toInt = 1 := rfl
  refine kw_if_ge (pc := 14) (i := 8) (tgt := 20) rfl rfl (fun c9 => ?_) (fun c9 => ?_)
  · replace hF := kf_nl c9 hF
    refine kw_aload_n (pc := 20) (i := 11) (k := 1) (n := 0) rfl rfl rfl ?_
    refine kw_lload_n (pc := 21) (i := 12) (k := 2) (n := 1) rfl rfl rfl ?_
    refine kw_lload (pc := 22) (i := 13) (k := 0) (n := 5) rfl rfl ?_
    refine kw_ldiv (pc := 24) (i := 14) rfl (by omega) (fun z10 e_z10 => ?_)
    replace hF := kf_le e_z10 hF
    refine kw_putl (pc := 25) (i := 15) (z := 0) rfl rfl rfl lpX4_26 ?_
    have I11 : kw_I bX (kw_ul σ 8 3 z10) := kw_I_ul hI _ _ _
    have F12 : kw_F [8] σ (kw_ul σ 8 3 z10) := kw_F_ul hF0 (by decide)
    refine kw_aload_n (pc := 28) (i := 16) (k := 1) (n := 0) rfl rfl rfl ?_
    refine kw_lload_n (pc := 29) (i := 17) (k := 3) (n := 3) rfl rfl rfl ?_
    refine kw_lload (pc := 30) (i := 18) (k := 0) (n := 5) rfl rfl ?_
    refine kw_ldiv (pc := 32) (i := 19) rfl (by omega) (fun z13 e_z13 => ?_)
    replace hF := kf_le e_z13 hF
    refine kw_putl (pc := 33) (i := 20) (z := 0) rfl rfl rfl lpX4_15 ?_
    have I14 : kw_I bX (kw_ul (kw_ul σ 8 3 z10) 8 4 z13) := kw_I_ul I11 _ _ _
    have F15 : kw_F [8] σ (kw_ul (kw_ul σ 8 3 z10) 8 4 z13) := kw_F_ul F12 (by decide)
    exact kw_return (pc := 36) (i := 21) rfl rfl ⟨⟨I14, F15⟩, rfl, hF⟩
  · replace hF := kf_p c9 hF
    refine kw_lconst (pc := 17) (i := 9) (v := 1) rfl rfl ?_
    refine kw_lstore (pc := 18) (i := 10) (n := 5) (lv' := [(5, .long 1), (0, .ref 8), (1, .long a), (3, .long b)]) rfl (by decide) rfl ?_
    refine kw_aload_n (pc := 20) (i := 11) (k := 1) (n := 0) rfl rfl rfl ?_
    refine kw_lload_n (pc := 21) (i := 12) (k := 2) (n := 1) rfl rfl rfl ?_
    refine kw_lload (pc := 22) (i := 13) (k := 0) (n := 5) rfl rfl ?_
    refine kw_ldiv (pc := 24) (i := 14) rfl (by decide) (fun z16 e_z16 => ?_)
    replace hF := kf_le e_z16 hF
    refine kw_putl (pc := 25) (i := 15) (z := 0) rfl rfl rfl lpX4_26 ?_
    have I17 : kw_I bX (kw_ul σ 8 3 z16) := kw_I_ul hI _ _ _
    have F18 : kw_F [8] σ (kw_ul σ 8 3 z16) := kw_F_ul hF0 (by decide)
    refine kw_aload_n (pc := 28) (i := 16) (k := 1) (n := 0) rfl rfl rfl ?_
    refine kw_lload_n (pc := 29) (i := 17) (k := 3) (n := 3) rfl rfl rfl ?_
    refine kw_lload (pc := 30) (i := 18) (k := 0) (n := 5) rfl rfl ?_
    refine kw_ldiv (pc := 32) (i := 19) rfl (by decide) (fun z19 e_z19 => ?_)
    replace hF := kf_le e_z19 hF
    refine kw_putl (pc := 33) (i := 20) (z := 0) rfl rfl rfl lpX4_15 ?_
    have I20 : kw_I bX (kw_ul (kw_ul σ 8 3 z16) 8 4 z19) := kw_I_ul I17 _ _ _
    have F21 : kw_F [8] σ (kw_ul (kw_ul σ 8 3 z16) 8 4 z19) := kw_F_ul F18 (by decide)
    exact kw_return (pc := 36) (i := 21) rfl rfl ⟨⟨I20, F21⟩, rfl, hF⟩
