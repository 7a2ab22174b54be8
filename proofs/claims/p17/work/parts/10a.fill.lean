noncomputable def l_J7_fill_53178_19_5 (a1 : Int32) : Nat → Int32 → kw_S → kw_S
  | 0, _, S => S
  | n + 1, x2, S => if x2.toInt < (6 : Int32).toInt then (kf_l (x2 + Int32.ofInt 1) fun z1 => l_J7_fill_53178_19_5 a1 n z1 (kw_ui S 19 x2.toNatClampNeg a1)) else (S)
theorem l_J7_fill_53178_19_5_s (a1 : Int32) (n : Nat) (x2 : Int32) (S : kw_S) : l_J7_fill_53178_19_5 a1 (n + 1) x2 S = if x2.toInt < (6 : Int32).toInt then (kf_l (x2 + Int32.ofInt 1) fun z1 => l_J7_fill_53178_19_5 a1 n z1 (kw_ui S 19 x2.toNatClampNeg a1)) else (S) := rfl
noncomputable def f_J7_fill_53178_19 (σ : kw_S) (v : Int32) : kw_S := l_J7_fill_53178_19_5 v ((1001 - (0 : Int32).toInt).toNat + 1) (0 : Int32) σ
theorem f_J7_fill_53178_19_u (σ : kw_S) (v : Int32) : f_J7_fill_53178_19 σ v = l_J7_fill_53178_19_5 v ((1001 - (0 : Int32).toInt).toNat + 1) (0 : Int32) σ := rfl
abbrev p_J7_fill_53178_19 (σ : kw_S) (v : Int32) : Option Value → kw_S → Prop := fun vv σ' => (kw_I bX σ' ∧ kw_F [19] σ σ') ∧ vv = none ∧ σ' = f_J7_fill_53178_19 σ v
set_option maxRecDepth 100000 in
set_option maxHeartbeats 4000000 in
theorem c_J7_fill_53178_19 (l : Launch) (σ : kw_S) (hI : kw_I bX σ) (v : Int32) : kw_Met l 1 KX mJ7_fill_53178 [.ref 19, .int v] σ (p_J7_fill_53178_19 σ v) := by
  have r_v := kw_rng v
  have hF0 : kw_F [19] σ σ := kw_F.rf
  have hF := (f_J7_fill_53178_19_u σ v).symm
  have q_0 : (0 : Int32).toInt = 0 := rfl
  have q_6 : (6 : Int32).toInt = 6 := rfl
  refine kw_Met.of (by decide) rfl tJ7_fill_53178 (Nat.le_of_ble_eq_true rfl) ?_
  show kw_AW l 1 kw_E0 KX mJ7_fill_53178 (p_J7_fill_53178_19 σ v) 0 [(0, .ref 19), (1, .int v)] [] σ
  refine kw_iconst (pc := 0) (i := 0) (v := 0) rfl rfl ?_
  refine kw_istore_n (pc := 1) (i := 1) (n := 2) (lv' := [(2, .int 0), (0, .ref 19), (1, .int v)]) rfl rfl (by decide) rfl ?_
  refine kw_aload_n (pc := 2) (i := 2) (k := 1) (n := 0) rfl rfl rfl ?_
  refine kw_alen (pc := 3) (i := 3) (n := 6) (v := 6) rfl rfl rfl ?_
  refine kw_istore_n (pc := 4) (i := 4) (n := 3) (lv' := [(3, .int 6), (2, .int 0), (0, .ref 19), (1, .int v)]) rfl rfl (by decide) rfl ?_
  have L5 : ∀ (n10 : Nat) (x1 : Int32) (S2 : kw_S), kw_I bX S2 → kw_F [19] σ S2 → 0 ≤ x1.toInt → (6 : Int32).toInt ≤ 1000 → l_J7_fill_53178_19_5 v n10 x1 S2 = (f_J7_fill_53178_19 σ v) → (1001 - x1.toInt).toNat < n10 → kw_AW l 1 kw_E0 KX mJ7_fill_53178 (p_J7_fill_53178_19 σ v) 5 [(3, .int 6), (2, .int x1), (0, .ref 19), (1, .int v)] [] S2 := by
    intro n10
    induction n10 with
    | zero => intro x1 S2 I3 F4 v7 v8 hF m9; exact absurd m9 (Nat.not_lt_zero _)
    | succ n10 ih6 =>
      intro x1 S2 I3 F4 v7 v8 hF m9
      replace hF := kf_st (l_J7_fill_53178_19_5_s _ _ _ _) hF
      have r_x1 := kw_rng x1
      refine kw_iload_n (pc := 5) (i := 5) (k := 1) (n := 2) rfl rfl rfl ?_
      refine kw_iload_n (pc := 6) (i := 6) (k := 0) (n := 3) rfl rfl rfl ?_
      refine kw_icmp_ge (pc := 7) (i := 7) (tgt := 20) rfl rfl (fun c11 => ?_) (fun c11 => ?_)
      · replace hF := kf_nl c11 hF
        exact kw_return (pc := 20) (i := 14) rfl rfl ⟨⟨I3, F4⟩, rfl, hF⟩
      · replace hF := kf_p c11 hF
        refine kw_aload_n (pc := 10) (i := 8) (k := 2) (n := 0) rfl rfl rfl ?_
        refine kw_iload_n (pc := 11) (i := 9) (k := 1) (n := 2) rfl rfl rfl ?_
        refine kw_iload_n (pc := 12) (i := 10) (k := 3) (n := 1) rfl rfl rfl ?_
        refine kw_iast (pc := 13) (i := 11) (n := 6) rfl rfl (by omega) (by omega) ?_
        have I12 : kw_I bX (kw_ui S2 19 x1.toNatClampNeg v) := kw_I_ui I3 (kw_rng v).1 (Int.le_of_lt_add_one (kw_rng v).2)
        have F13 : kw_F [19] σ (kw_ui S2 19 x1.toNatClampNeg v) := kw_F_ui F4 (by decide)
        refine kw_iinc' (pc := 14) (i := 12) (k := 1) (fun z => [(2, .int z), (3, .int 6), (0, .ref 19), (1, .int v)]) rfl rfl (by decide) rfl (fun _ => rfl) (fun z14 e_z14 t_z14 => ?_)
        replace hF := kf_le e_z14 hF
        refine kw_goto (pc := 17) (i := 13) (tgt := 5) rfl rfl ?_
        refine kw_sub (lv' := [(3, .int 6), (2, .int z14), (0, .ref 19), (1, .int v)]) [1, 0, 2, 3] rfl ?_
        exact ih6 z14 (kw_ui S2 19 x1.toNatClampNeg v) I12 F13 (by omega) (by omega) hF (by omega)
  exact L5 _ 0 σ hI hF0 (by omega) (by omega) hF (Nat.lt_succ_self _)
noncomputable def l_J7_fill_53178_29_5 (a1 : Int32) : Nat → Int32 → kw_S → kw_S
  | 0, _, S => S
  | n + 1, x2, S => if x2.toInt < (40 : Int32).toInt then (kf_l (x2 + Int32.ofInt 1) fun z1 => l_J7_fill_53178_29_5 a1 n z1 (kw_ui S 29 x2.toNatClampNeg a1)) else (S)
theorem l_J7_fill_53178_29_5_s (a1 : Int32) (n : Nat) (x2 : Int32) (S : kw_S) : l_J7_fill_53178_29_5 a1 (n + 1) x2 S = if x2.toInt < (40 : Int32).toInt then (kf_l (x2 + Int32.ofInt 1) fun z1 => l_J7_fill_53178_29_5 a1 n z1 (kw_ui S 29 x2.toNatClampNeg a1)) else (S) := rfl
noncomputable def f_J7_fill_53178_29 (σ : kw_S) (v : Int32) : kw_S := l_J7_fill_53178_29_5 v ((1001 - (0 : Int32).toInt).toNat + 1) (0 : Int32) σ
theorem f_J7_fill_53178_29_u (σ : kw_S) (v : Int32) : f_J7_fill_53178_29 σ v = l_J7_fill_53178_29_5 v ((1001 - (0 : Int32).toInt).toNat + 1) (0 : Int32) σ := rfl
abbrev p_J7_fill_53178_29 (σ : kw_S) (v : Int32) : Option Value → kw_S → Prop := fun vv σ' => (kw_I bX σ' ∧ kw_F [29] σ σ') ∧ vv = none ∧ σ' = f_J7_fill_53178_29 σ v
set_option maxRecDepth 100000 in
set_option maxHeartbeats 4000000 in
theorem c_J7_fill_53178_29 (l : Launch) (σ : kw_S) (hI : kw_I bX σ) (v : Int32) : kw_Met l 1 KX mJ7_fill_53178 [.ref 29, .int v] σ (p_J7_fill_53178_29 σ v) := by
  have r_v := kw_rng v
  have hF0 : kw_F [29] σ σ := kw_F.rf
  have hF := (f_J7_fill_53178_29_u σ v).symm
  have q_0 : (0 : Int32).toInt = 0 := rfl
  have q_40 : (40 : Int32).toInt = 40 := rfl
  refine kw_Met.of (by decide) rfl tJ7_fill_53178 (Nat.le_of_ble_eq_true rfl) ?_
  show kw_AW l 1 kw_E0 KX mJ7_fill_53178 (p_J7_fill_53178_29 σ v) 0 [(0, .ref 29), (1, .int v)] [] σ
  refine kw_iconst (pc := 0) (i := 0) (v := 0) rfl rfl ?_
  refine kw_istore_n (pc := 1) (i := 1) (n := 2) (lv' := [(2, .int 0), (0, .ref 29), (1, .int v)]) rfl rfl (by decide) rfl ?_
  refine kw_aload_n (pc := 2) (i := 2) (k := 1) (n := 0) rfl rfl rfl ?_
  refine kw_alen (pc := 3) (i := 3) (n := 40) (v := 40) rfl rfl rfl ?_
  refine kw_istore_n (pc := 4) (i := 4) (n := 3) (lv' := [(3, .int 40), (2, .int 0), (0, .ref 29), (1, .int v)]) rfl rfl (by decide) rfl ?_
  have L5 : ∀ (n10 : Nat) (x1 : Int32) (S2 : kw_S), kw_I bX S2 → kw_F [29] σ S2 → 0 ≤ x1.toInt → (40 : Int32).toInt ≤ 1000 → l_J7_fill_53178_29_5 v n10 x1 S2 = (f_J7_fill_53178_29 σ v) → (1001 - x1.toInt).toNat < n10 → kw_AW l 1 kw_E0 KX mJ7_fill_53178 (p_J7_fill_53178_29 σ v) 5 [(3, .int 40), (2, .int x1), (0, .ref 29), (1, .int v)] [] S2 := by
    intro n10
    induction n10 with
    | zero => intro x1 S2 I3 F4 v7 v8 hF m9; exact absurd m9 (Nat.not_lt_zero _)
    | succ n10 ih6 =>
      intro x1 S2 I3 F4 v7 v8 hF m9
      replace hF := kf_st (l_J7_fill_53178_29_5_s _ _ _ _) hF
      have r_x1 := kw_rng x1
      refine kw_iload_n (pc := 5) (i := 5) (k := 1) (n := 2) rfl rfl rfl ?_
      refine kw_iload_n (pc := 6) (i := 6) (k := 0) (n := 3) rfl rfl rfl ?_
      refine kw_icmp_ge (pc := 7) (i := 7) (tgt := 20) rfl rfl (fun c11 => ?_) (fun c11 => ?_)
      · replace hF := kf_nl c11 hF
        exact kw_return (pc := 20) (i := 14) rfl rfl ⟨⟨I3, F4⟩, rfl, hF⟩
      · replace hF := kf_p c11 hF
        refine kw_aload_n (pc := 10) (i := 8) (k := 2) (n := 0) rfl rfl rfl ?_
        refine kw_iload_n (pc := 11) (i := 9) (k := 1) (n := 2) rfl rfl rfl ?_
        refine kw_iload_n (pc := 12) (i := 10) (k := 3) (n := 1) rfl rfl rfl ?_
        refine kw_iast (pc := 13) (i := 11) (n := 40) rfl rfl (by omega) (by omega) ?_
        have I12 : kw_I bX (kw_ui S2 29 x1.toNatClampNeg v) := kw_I_ui I3 (kw_rng v).1 (Int.le_of_lt_add_one (kw_rng v).2)
        have F13 : kw_F [29] σ (kw_ui S2 29 x1.toNatClampNeg v) := kw_F_ui F4 (by decide)
        refine kw_iinc' (pc := 14) (i := 12) (k := 1) (fun z => [(2, .int z), (3, .int 40), (0, .ref 29), (1, .int v)]) rfl rfl (by decide) rfl (fun _ => rfl) (fun z14 e_z14 t_z14 => ?_)
        replace hF := kf_le e_z14 hF
        refine kw_goto (pc := 17) (i := 13) (tgt := 5) rfl rfl ?_
        refine kw_sub (lv' := [(3, .int 40), (2, .int z14), (0, .ref 29), (1, .int v)]) [1, 0, 2, 3] rfl ?_
        exact ih6 z14 (kw_ui S2 29 x1.toNatClampNeg v) I12 F13 (by omega) (by omega) hF (by omega)
  exact L5 _ 0 σ hI hF0 (by omega) (by omega) hF (Nat.lt_succ_self _)
noncomputable def l_J7_fill_53178_30_5 (a1 : Int32) : Nat → Int32 → kw_S → kw_S
  | 0, _, S => S
  | n + 1, x2, S => if x2.toInt < (40 : Int32).toInt then (kf_l (x2 + Int32.ofInt 1) fun z1 => l_J7_fill_53178_30_5 a1 n z1 (kw_ui S 30 x2.toNatClampNeg a1)) else (S)
theorem l_J7_fill_53178_30_5_s (a1 : Int32) (n : Nat) (x2 : Int32) (S : kw_S) : l_J7_fill_53178_30_5 a1 (n + 1) x2 S = if x2.toInt < (40 : Int32).toInt then (kf_l (x2 + Int32.ofInt 1) fun z1 => l_J7_fill_53178_30_5 a1 n z1 (kw_ui S 30 x2.toNatClampNeg a1)) else (S) := rfl
noncomputable def f_J7_fill_53178_30 (σ : kw_S) (v : Int32) : kw_S := l_J7_fill_53178_30_5 v ((1001 - (0 : Int32).toInt).toNat + 1) (0 : Int32) σ
theorem f_J7_fill_53178_30_u (σ : kw_S) (v : Int32) : f_J7_fill_53178_30 σ v = l_J7_fill_53178_30_5 v ((1001 - (0 : Int32).toInt).toNat + 1) (0 : Int32) σ := rfl
abbrev p_J7_fill_53178_30 (σ : kw_S) (v : Int32) : Option Value → kw_S → Prop := fun vv σ' => (kw_I bX σ' ∧ kw_F [30] σ σ') ∧ vv = none ∧ σ' = f_J7_fill_53178_30 σ v
set_option maxRecDepth 100000 in
set_option maxHeartbeats 4000000 in
theorem c_J7_fill_53178_30 (l : Launch) (σ : kw_S) (hI : kw_I bX σ) (v : Int32) : kw_Met l 1 KX mJ7_fill_53178 [.ref 30, .int v] σ (p_J7_fill_53178_30 σ v) := by
  have r_v := kw_rng v
  have hF0 : kw_F [30] σ σ := kw_F.rf
  have hF := (f_J7_fill_53178_30_u σ v).symm
  have q_0 : (0 : Int32).toInt = 0 := rfl
  have q_40 : (40 : Int32).toInt = 40 := rfl
  refine kw_Met.of (by decide) rfl tJ7_fill_53178 (Nat.le_of_ble_eq_true rfl) ?_
  show kw_AW l 1 kw_E0 KX mJ7_fill_53178 (p_J7_fill_53178_30 σ v) 0 [(0, .ref 30), (1, .int v)] [] σ
  refine kw_iconst (pc := 0) (i := 0) (v := 0) rfl rfl ?_
  refine kw_istore_n (pc := 1) (i := 1) (n := 2) (lv' := [(2, .int 0), (0, .ref 30), (1, .int v)]) rfl rfl (by decide) rfl ?_
  refine kw_aload_n (pc := 2) (i := 2) (k := 1) (n := 0) rfl rfl rfl ?_
  refine kw_alen (pc := 3) (i := 3) (n := 40) (v := 40) rfl rfl rfl ?_
  refine kw_istore_n (pc := 4) (i := 4) (n := 3) (lv' := [(3, .int 40), (2, .int 0), (0, .ref 30), (1, .int v)]) rfl rfl (by decide) rfl ?_
  have L5 : ∀ (n10 : Nat) (x1 : Int32) (S2 : kw_S), kw_I bX S2 → kw_F [30] σ S2 → 0 ≤ x1.toInt → (40 : Int32).toInt ≤ 1000 → l_J7_fill_53178_30_5 v n10 x1 S2 = (f_J7_fill_53178_30 σ v) → (1001 - x1.toInt).toNat < n10 → kw_AW l 1 kw_E0 KX mJ7_fill_53178 (p_J7_fill_53178_30 σ v) 5 [(3, .int 40), (2, .int x1), (0, .ref 30), (1, .int v)] [] S2 := by
    intro n10
    induction n10 with
    | zero => intro x1 S2 I3 F4 v7 v8 hF m9; exact absurd m9 (Nat.not_lt_zero _)
    | succ n10 ih6 =>
      intro x1 S2 I3 F4 v7 v8 hF m9
      replace hF := kf_st (l_J7_fill_53178_30_5_s _ _ _ _) hF
      have r_x1 := kw_rng x1
      refine kw_iload_n (pc := 5) (i := 5) (k := 1) (n := 2) rfl rfl rfl ?_
      refine kw_iload_n (pc := 6) (i := 6) (k := 0) (n := 3) rfl rfl rfl ?_
      refine kw_icmp_ge (pc := 7) (i := 7) (tgt := 20) rfl rfl (fun c11 => ?_) (fun c11 => ?_)
      · replace hF := kf_nl c11 hF
        exact kw_return (pc := 20) (i := 14) rfl rfl ⟨⟨I3, F4⟩, rfl, hF⟩
      · replace hF := kf_p c11 hF
        refine kw_aload_n (pc := 10) (i := 8) (k := 2) (n := 0) rfl rfl rfl ?_
        refine kw_iload_n (pc := 11) (i := 9) (k := 1) (n := 2) rfl rfl rfl ?_
        refine kw_iload_n (pc := 12) (i := 10) (k := 3) (n := 1) rfl rfl rfl ?_
        refine kw_iast (pc := 13) (i := 11) (n := 40) rfl rfl (by omega) (by omega) ?_
        have I12 : kw_I bX (kw_ui S2 30 x1.toNatClampNeg v) := kw_I_ui I3 (kw_rng v).1 (Int.le_of_lt_add_one (kw_rng v).2)
        have F13 : kw_F [30] σ (kw_ui S2 30 x1.toNatClampNeg v) := kw_F_ui F4 (by decide)
        refine kw_iinc' (pc := 14) (i := 12) (k := 1) (fun z => [(2, .int z), (3, .int 40), (0, .ref 30), (1, .int v)]) rfl rfl (by decide) rfl (fun _ => rfl) (fun z14 e_z14 t_z14 => ?_)
        replace hF := kf_le e_z14 hF
        refine kw_goto (pc := 17) (i := 13) (tgt := 5) rfl rfl ?_
        refine kw_sub (lv' := [(3, .int 40), (2, .int z14), (0, .ref 30), (1, .int v)]) [1, 0, 2, 3] rfl ?_
        exact ih6 z14 (kw_ui S2 30 x1.toNatClampNeg v) I12 F13 (by omega) (by omega) hF (by omega)
  exact L5 _ 0 σ hI hF0 (by omega) (by omega) hF (Nat.lt_succ_self _)
noncomputable def l_J7_fill_53178_31_5 (a1 : Int32) : Nat → Int32 → kw_S → kw_S
  | 0, _, S => S
  | n + 1, x2, S => if x2.toInt < (40 : Int32).toInt then (kf_l (x2 + Int32.ofInt 1) fun z1 => l_J7_fill_53178_31_5 a1 n z1 (kw_ui S 31 x2.toNatClampNeg a1)) else (S)
theorem l_J7_fill_53178_31_5_s (a1 : Int32) (n : Nat) (x2 : Int32) (S : kw_S) : l_J7_fill_53178_31_5 a1 (n + 1) x2 S = if x2.toInt < (40 : Int32).toInt then (kf_l (x2 + Int32.ofInt 1) fun z1 => l_J7_fill_53178_31_5 a1 n z1 (kw_ui S 31 x2.toNatClampNeg a1)) else (S) := rfl
noncomputable def f_J7_fill_53178_31 (σ : kw_S) (v : Int32) : kw_S := l_J7_fill_53178_31_5 v ((1001 - (0 : Int32).toInt).toNat + 1) (0 : Int32) σ
theorem f_J7_fill_53178_31_u (σ : kw_S) (v : Int32) : f_J7_fill_53178_31 σ v = l_J7_fill_53178_31_5 v ((1001 - (0 : Int32).toInt).toNat + 1) (0 : Int32) σ := rfl
abbrev p_J7_fill_53178_31 (σ : kw_S) (v : Int32) : Option Value → kw_S → Prop := fun vv σ' => (kw_I bX σ' ∧ kw_F [31] σ σ') ∧ vv = none ∧ σ' = f_J7_fill_53178_31 σ v
set_option maxRecDepth 100000 in
set_option maxHeartbeats 4000000 in
theorem c_J7_fill_53178_31 (l : Launch) (σ : kw_S) (hI : kw_I bX σ) (v : Int32) : kw_Met l 1 KX mJ7_fill_53178 [.ref 31, .int v] σ (p_J7_fill_53178_31 σ v) := by
  have r_v := kw_rng v
  have hF0 : kw_F [31] σ σ := kw_F.rf
  have hF := (f_J7_fill_53178_31_u σ v).symm
  have q_0 : (0 : Int32).toInt = 0 := rfl
  have q_40 : (40 : Int32).toInt = 40 := rfl
  refine kw_Met.of (by decide) rfl tJ7_fill_53178 (Nat.le_of_ble_eq_true rfl) ?_
  show kw_AW l 1 kw_E0 KX mJ7_fill_53178 (p_J7_fill_53178_31 σ v) 0 [(0, .ref 31), (1, .int v)] [] σ
  refine kw_iconst (pc := 0) (i := 0) (v := 0) rfl rfl ?_
  refine kw_istore_n (pc := 1) (i := 1) (n := 2) (lv' := [(2, .int 0), (0, .ref 31), (1, .int v)]) rfl rfl (by decide) rfl ?_
  refine kw_aload_n (pc := 2) (i := 2) (k := 1) (n := 0) rfl rfl rfl ?_
  refine kw_alen (pc := 3) (i := 3) (n := 40) (v := 40) rfl rfl rfl ?_
  refine kw_istore_n (pc := 4) (i := 4) (n := 3) (lv' := [(3, .int 40), (2, .int 0), (0, .ref 31), (1, .int v)]) rfl rfl (by decide) rfl ?_
  have L5 : ∀ (n10 : Nat) (x1 : Int32) (S2 : kw_S), kw_I bX S2 → kw_F [31] σ S2 → 0 ≤ x1.toInt → (40 : Int32).toInt ≤ 1000 → l_J7_fill_53178_31_5 v n10 x1 S2 = (f_J7_fill_53178_31 σ v) → (1001 - x1.toInt).toNat < n10 → kw_AW l 1 kw_E0 KX mJ7_fill_53178 (p_J7_fill_53178_31 σ v) 5 [(3, .int 40), (2, .int x1), (0, .ref 31), (1, .int v)] [] S2 := by
    intro n10
    induction n10 with
    | zero => intro x1 S2 I3 F4 v7 v8 hF m9; exact absurd m9 (Nat.not_lt_zero _)
    | succ n10 ih6 =>
      intro x1 S2 I3 F4 v7 v8 hF m9
      replace hF := kf_st (l_J7_fill_53178_31_5_s _ _ _ _) hF
      have r_x1 := kw_rng x1
      refine kw_iload_n (pc := 5) (i := 5) (k := 1) (n := 2) rfl rfl rfl ?_
      refine kw_iload_n (pc := 6) (i := 6) (k := 0) (n := 3) rfl rfl rfl ?_
      refine kw_icmp_ge (pc := 7) (i := 7) (tgt := 20) rfl rfl (fun c11 => ?_) (fun c11 => ?_)
      · replace hF := kf_nl c11 hF
        exact kw_return (pc := 20) (i := 14) rfl rfl ⟨⟨I3, F4⟩, rfl, hF⟩
      · replace hF := kf_p c11 hF
        refine kw_aload_n (pc := 10) (i := 8) (k := 2) (n := 0) rfl rfl rfl ?_
        refine kw_iload_n (pc := 11) (i := 9) (k := 1) (n := 2) rfl rfl rfl ?_
        refine kw_iload_n (pc := 12) (i := 10) (k := 3) (n := 1) rfl rfl rfl ?_
        refine kw_iast (pc := 13) (i := 11) (n := 40) rfl rfl (by omega) (by omega) ?_
        have I12 : kw_I bX (kw_ui S2 31 x1.toNatClampNeg v) := kw_I_ui I3 (kw_rng v).1 (Int.le_of_lt_add_one (kw_rng v).2)
        have F13 : kw_F [31] σ (kw_ui S2 31 x1.toNatClampNeg v) := kw_F_ui F4 (by decide)
        refine kw_iinc' (pc := 14) (i := 12) (k := 1) (fun z => [(2, .int z), (3, .int 40), (0, .ref 31), (1, .int v)]) rfl rfl (by decide) rfl (fun _ => rfl) (fun z14 e_z14 t_z14 => ?_)
        replace hF := kf_le e_z14 hF
        refine kw_goto (pc := 17) (i := 13) (tgt := 5) rfl rfl ?_
        refine kw_sub (lv' := [(3, .int 40), (2, .int z14), (0, .ref 31), (1, .int v)]) [1, 0, 2, 3] rfl ?_
        exact ih6 z14 (kw_ui S2 31 x1.toNatClampNeg v) I12 F13 (by omega) (by omega) hF (by omega)
  exact L5 _ 0 σ hI hF0 (by omega) (by omega) hF (Nat.lt_succ_self _)
noncomputable def l_J7_fill_53178_32_5 (a1 : Int32) : Nat → Int32 → kw_S → kw_S
  | 0, _, S => S
  | n + 1, x2, S => if x2.toInt < (40 : Int32).toInt then (kf_l (x2 + Int32.ofInt 1) fun z1 => l_J7_fill_53178_32_5 a1 n z1 (kw_ui S 32 x2.toNatClampNeg a1)) else (S)
theorem l_J7_fill_53178_32_5_s (a1 : Int32) (n : Nat) (x2 : Int32) (S : kw_S) : l_J7_fill_53178_32_5 a1 (n + 1) x2 S = if x2.toInt < (40 : Int32).toInt then (kf_l (x2 + Int32.ofInt 1) fun z1 => l_J7_fill_53178_32_5 a1 n z1 (kw_ui S 32 x2.toNatClampNeg a1)) else (S) := rfl
noncomputable def f_J7_fill_53178_32 (σ : kw_S) (v : Int32) : kw_S := l_J7_fill_53178_32_5 v ((1001 - (0 : Int32).toInt).toNat + 1) (0 : Int32) σ
theorem f_J7_fill_53178_32_u (σ : kw_S) (v : Int32) : f_J7_fill_53178_32 σ v = l_J7_fill_53178_32_5 v ((1001 - (0 : Int32).toInt).toNat + 1) (0 : Int32) σ := rfl
abbrev p_J7_fill_53178_32 (σ : kw_S) (v : Int32) : Option Value → kw_S → Prop := fun vv σ' => (kw_I bX σ' ∧ kw_F [32] σ σ') ∧ vv = none ∧ σ' = f_J7_fill_53178_32 σ v
set_option maxRecDepth 100000 in
set_option maxHeartbeats 4000000 in
theorem c_J7_fill_53178_32 (l : Launch) (σ : kw_S) (hI : kw_I bX σ) (v : Int32) : kw_Met l 1 KX mJ7_fill_53178 [.ref 32, .int v] σ (p_J7_fill_53178_32 σ v) := by
  have r_v := kw_rng v
  have hF0 : kw_F [32] σ σ := kw_F.rf
  have hF := (f_J7_fill_53178_32_u σ v).symm
  have q_0 : (0 : Int32).toInt = 0 := rfl
  have q_40 : (40 : Int32).toInt = 40 := rfl
  refine kw_Met.of (by decide) rfl tJ7_fill_53178 (Nat.le_of_ble_eq_true rfl) ?_
  show kw_AW l 1 kw_E0 KX mJ7_fill_53178 (p_J7_fill_53178_32 σ v) 0 [(0, .ref 32), (1, .int v)] [] σ
  refine kw_iconst (pc := 0) (i := 0) (v := 0) rfl rfl ?_
  refine kw_istore_n (pc := 1) (i := 1) (n := 2) (lv' := [(2, .int 0), (0, .ref 32), (1, .int v)]) rfl rfl (by decide) rfl ?_
  refine kw_aload_n (pc := 2) (i := 2) (k := 1) (n := 0) rfl rfl rfl ?_
  refine kw_alen (pc := 3) (i := 3) (n := 40) (v := 40) rfl rfl rfl ?_
  refine kw_istore_n (pc := 4) (i := 4) (n := 3) (lv' := [(3, .int 40), (2, .int 0), (0, .ref 32), (1, .int v)]) rfl rfl (by decide) rfl ?_
  have L5 : ∀ (n10 : Nat) (x1 : Int32) (S2 : kw_S), kw_I bX S2 → kw_F [32] σ S2 → 0 ≤ x1.toInt → (40 : Int32).toInt ≤ 1000 → l_J7_fill_53178_32_5 v n10 x1 S2 = (f_J7_fill_53178_32 σ v) → (1001 - x1.toInt).toNat < n10 → kw_AW l 1 kw_E0 KX mJ7_fill_53178 (p_J7_fill_53178_32 σ v) 5 [(3, .int 40), (2, .int x1), (0, .ref 32), (1, .int v)] [] S2 := by
    intro n10
    induction n10 with
    | zero => intro x1 S2 I3 F4 v7 v8 hF m9; exact absurd m9 (Nat.not_lt_zero _)
    | succ n10 ih6 =>
      intro x1 S2 I3 F4 v7 v8 hF m9
      replace hF := kf_st (l_J7_fill_53178_32_5_s _ _ _ _) hF
      have r_x1 := kw_rng x1
      refine kw_iload_n (pc := 5) (i := 5) (k := 1) (n := 2) rfl rfl rfl ?_
      refine kw_iload_n (pc := 6) (i := 6) (k := 0) (n := 3) rfl rfl rfl ?_
      refine kw_icmp_ge (pc := 7) (i := 7) (tgt := 20) rfl rfl (fun c11 => ?_) (fun c11 => ?_)
      · replace hF := kf_nl c11 hF
        exact kw_return (pc := 20) (i := 14) rfl rfl ⟨⟨I3, F4⟩, rfl, hF⟩
      · replace hF := kf_p c11 hF
        refine kw_aload_n (pc := 10) (i := 8) (k := 2) (n := 0) rfl rfl rfl ?_
        refine kw_iload_n (pc := 11) (i := 9) (k := 1) (n := 2) rfl rfl rfl ?_
        refine kw_iload_n (pc := 12) (i := 10) (k := 3) (n := 1) rfl rfl rfl ?_
        refine kw_iast (pc := 13) (i := 11) (n := 40) rfl rfl (by omega) (by omega) ?_
        have I12 : kw_I bX (kw_ui S2 32 x1.toNatClampNeg v) := kw_I_ui I3 (kw_rng v).1 (Int.le_of_lt_add_one (kw_rng v).2)
        have F13 : kw_F [32] σ (kw_ui S2 32 x1.toNatClampNeg v) := kw_F_ui F4 (by decide)
        refine kw_iinc' (pc := 14) (i := 12) (k := 1) (fun z => [(2, .int z), (3, .int 40), (0, .ref 32), (1, .int v)]) rfl rfl (by decide) rfl (fun _ => rfl) (fun z14 e_z14 t_z14 => ?_)
        replace hF := kf_le e_z14 hF
        refine kw_goto (pc := 17) (i := 13) (tgt := 5) rfl rfl ?_
        refine kw_sub (lv' := [(3, .int 40), (2, .int z14), (0, .ref 32), (1, .int v)]) [1, 0, 2, 3] rfl ?_
        exact ih6 z14 (kw_ui S2 32 x1.toNatClampNeg v) I12 F13 (by omega) (by omega) hF (by omega)
  exact L5 _ 0 σ hI hF0 (by omega) (by omega) hF (Nat.lt_succ_self _)
noncomputable def l_J7_fill_53178_33_5 (a1 : Int32) : Nat → Int32 → kw_S → kw_S
  | 0, _, S => S
  | n + 1, x2, S => if x2.toInt < (40 : Int32).toInt then (kf_l (x2 + Int32.ofInt 1) fun z1 => l_J7_fill_53178_33_5 a1 n z1 (kw_ui S 33 x2.toNatClampNeg a1)) else (S)
theorem l_J7_fill_53178_33_5_s (a1 : Int32) (n : Nat) (x2 : Int32) (S : kw_S) : l_J7_fill_53178_33_5 a1 (n + 1) x2 S = if x2.toInt < (40 : Int32).toInt then (kf_l (x2 + Int32.ofInt 1) fun z1 => l_J7_fill_53178_33_5 a1 n z1 (kw_ui S 33 x2.toNatClampNeg a1)) else (S) := rfl
noncomputable def f_J7_fill_53178_33 (σ : kw_S) (v : Int32) : kw_S := l_J7_fill_53178_33_5 v ((1001 - (0 : Int32).toInt).toNat + 1) (0 : Int32) σ
theorem f_J7_fill_53178_33_u (σ : kw_S) (v : Int32) : f_J7_fill_53178_33 σ v = l_J7_fill_53178_33_5 v ((1001 - (0 : Int32).toInt).toNat + 1) (0 : Int32) σ := rfl
abbrev p_J7_fill_53178_33 (σ : kw_S) (v : Int32) : Option Value → kw_S → Prop := fun vv σ' => (kw_I bX σ' ∧ kw_F [33] σ σ') ∧ vv = none ∧ σ' = f_J7_fill_53178_33 σ v
set_option maxRecDepth 100000 in
set_option maxHeartbeats 4000000 in
theorem c_J7_fill_53178_33 (l : Launch) (σ : kw_S) (hI : kw_I bX σ) (v : Int32) : kw_Met l 1 KX mJ7_fill_53178 [.ref 33, .int v] σ (p_J7_fill_53178_33 σ v) := by
  have r_v := kw_rng v
  have hF0 : kw_F [33] σ σ := kw_F.rf
  have hF := (f_J7_fill_53178_33_u σ v).symm
  have q_0 : (0 : Int32).toInt = 0 := rfl
  have q_40 : (40 : Int32).toInt = 40 := rfl
  refine kw_Met.of (by decide) rfl tJ7_fill_53178 (Nat.le_of_ble_eq_true rfl) ?_
  show kw_AW l 1 kw_E0 KX mJ7_fill_53178 (p_J7_fill_53178_33 σ v) 0 [(0, .ref 33), (1, .int v)] [] σ
  refine kw_iconst (pc := 0) (i := 0) (v := 0) rfl rfl ?_
  refine kw_istore_n (pc := 1) (i := 1) (n := 2) (lv' := [(2, .int 0), (0, .ref 33), (1, .int v)]) rfl rfl (by decide) rfl ?_
  refine kw_aload_n (pc := 2) (i := 2) (k := 1) (n := 0) rfl rfl rfl ?_
  refine kw_alen (pc := 3) (i := 3) (n := 40) (v := 40) rfl rfl rfl ?_
  refine kw_istore_n (pc := 4) (i := 4) (n := 3) (lv' := [(3, .int 40), (2, .int 0), (0, .ref 33), (1, .int v)]) rfl rfl (by decide) rfl ?_
  have L5 : ∀ (n10 : Nat) (x1 : Int32) (S2 : kw_S), kw_I bX S2 → kw_F [33] σ S2 → 0 ≤ x1.toInt → (40 : Int32).toInt ≤ 1000 → l_J7_fill_53178_33_5 v n10 x1 S2 = (f_J7_fill_53178_33 σ v) → (1001 - x1.toInt).toNat < n10 → kw_AW l 1 kw_E0 KX mJ7_fill_53178 (p_J7_fill_53178_33 σ v) 5 [(3, .int 40), (2, .int x1), (0, .ref 33), (1, .int v)] [] S2 := by
    intro n10
    induction n10 with
    | zero => intro x1 S2 I3 F4 v7 v8 hF m9; exact absurd m9 (Nat.not_lt_zero _)
    | succ n10 ih6 =>
      intro x1 S2 I3 F4 v7 v8 hF m9
      replace hF := kf_st (l_J7_fill_53178_33_5_s _ _ _ _) hF
      have r_x1 := kw_rng x1
      refine kw_iload_n (pc := 5) (i := 5) (k := 1) (n := 2) rfl rfl rfl ?_
      refine kw_iload_n (pc := 6) (i := 6) (k := 0) (n := 3) rfl rfl rfl ?_
      refine kw_icmp_ge (pc := 7) (i := 7) (tgt := 20) rfl rfl (fun c11 => ?_) (fun c11 => ?_)
      · replace hF := kf_nl c11 hF
        exact kw_return (pc := 20) (i := 14) rfl rfl ⟨⟨I3, F4⟩, rfl, hF⟩
      · replace hF := kf_p c11 hF
        refine kw_aload_n (pc := 10) (i := 8) (k := 2) (n := 0) rfl rfl rfl ?_
        refine kw_iload_n (pc := 11) (i := 9) (k := 1) (n := 2) rfl rfl rfl ?_
        refine kw_iload_n (pc := 12) (i := 10) (k := 3) (n := 1) rfl rfl rfl ?_
        refine kw_iast (pc := 13) (i := 11) (n := 40) rfl rfl (by omega) (by omega) ?_
        have I12 : kw_I bX (kw_ui S2 33 x1.toNatClampNeg v) := kw_I_ui I3 (kw_rng v).1 (Int.le_of_lt_add_one (kw_rng v).2)
        have F13 : kw_F [33] σ (kw_ui S2 33 x1.toNatClampNeg v) := kw_F_ui F4 (by decide)
        refine kw_iinc' (pc := 14) (i := 12) (k := 1) (fun z => [(2, .int z), (3, .int 40), (0, .ref 33), (1, .int v)]) rfl rfl (by decide) rfl (fun _ => rfl) (fun z14 e_z14 t_z14 => ?_)
        replace hF := kf_le e_z14 hF
        refine kw_goto (pc := 17) (i := 13) (tgt := 5) rfl rfl ?_
        refine kw_sub (lv' := [(3, .int 40), (2, .int z14), (0, .ref 33), (1, .int v)]) [1, 0, 2, 3] rfl ?_
        exact ih6 z14 (kw_ui S2 33 x1.toNatClampNeg v) I12 F13 (by omega) (by omega) hF (by omega)
  exact L5 _ 0 σ hI hF0 (by omega) (by omega) hF (Nat.lt_succ_self _)
noncomputable def l_J7_fill_53178_34_5 (a1 : Int32) : Nat → Int32 → kw_S → kw_S
  | 0, _, S => S
  | n + 1, x2, S => if x2.toInt < (40 : Int32).toInt then (kf_l (x2 + Int32.ofInt 1) fun z1 => l_J7_fill_53178_34_5 a1 n z1 (kw_ui S 34 x2.toNatClampNeg a1)) else (S)
theorem l_J7_fill_53178_34_5_s (a1 : Int32) (n : Nat) (x2 : Int32) (S : kw_S) : l_J7_fill_53178_34_5 a1 (n + 1) x2 S = if x2.toInt < (40 : Int32).toInt then (kf_l (x2 + Int32.ofInt 1) fun z1 => l_J7_fill_53178_34_5 a1 n z1 (kw_ui S 34 x2.toNatClampNeg a1)) else (S) := rfl
noncomputable def f_J7_fill_53178_34 (σ : kw_S) (v : Int32) : kw_S := l_J7_fill_53178_34_5 v ((1001 - (0 : Int32).toInt).toNat + 1) (0 : Int32) σ
theorem f_J7_fill_53178_34_u (σ : kw_S) (v : Int32) : f_J7_fill_53178_34 σ v = l_J7_fill_53178_34_5 v ((1001 - (0 : Int32).toInt).toNat + 1) (0 : Int32) σ := rfl
abbrev p_J7_fill_53178_34 (σ : kw_S) (v : Int32) : Option Value → kw_S → Prop := fun vv σ' => (kw_I bX σ' ∧ kw_F [34] σ σ') ∧ vv = none ∧ σ' = f_J7_fill_53178_34 σ v
set_option maxRecDepth 100000 in
set_option maxHeartbeats 4000000 in
theorem c_J7_fill_53178_34 (l : Launch) (σ : kw_S) (hI : kw_I bX σ) (v : Int32) : kw_Met l 1 KX mJ7_fill_53178 [.ref 34, .int v] σ (p_J7_fill_53178_34 σ v) := by
  have r_v := kw_rng v
  have hF0 : kw_F [34] σ σ := kw_F.rf
  have hF := (f_J7_fill_53178_34_u σ v).symm
  have q_0 : (0 : Int32).toInt = 0 := rfl
  have q_40 : (40 : Int32).toInt = 40 := rfl
  refine kw_Met.of (by decide) rfl tJ7_fill_53178 (Nat.le_of_ble_eq_true rfl) ?_
  show kw_AW l 1 kw_E0 KX mJ7_fill_53178 (p_J7_fill_53178_34 σ v) 0 [(0, .ref 34), (1, .int v)] [] σ
  refine kw_iconst (pc := 0) (i := 0) (v := 0) rfl rfl ?_
  refine kw_istore_n (pc := 1) (i := 1) (n := 2) (lv' := [(2, .int 0), (0, .ref 34), (1, .int v)]) rfl rfl (by decide) rfl ?_
  refine kw_aload_n (pc := 2) (i := 2) (k := 1) (n := 0) rfl rfl rfl ?_
  refine kw_alen (pc := 3) (i := 3) (n := 40) (v := 40) rfl rfl rfl ?_
  refine kw_istore_n (pc := 4) (i := 4) (n := 3) (lv' := [(3, .int 40), (2, .int 0), (0, .ref 34), (1, .int v)]) rfl rfl (by decide) rfl ?_
  have L5 : ∀ (n10 : Nat) (x1 : Int32) (S2 : kw_S), kw_I bX S2 → kw_F [34] σ S2 → 0 ≤ x1.toInt → (40 : Int32).toInt ≤ 1000 → l_J7_fill_53178_34_5 v n10 x1 S2 = (f_J7_fill_53178_34 σ v) → (1001 - x1.toInt).toNat < n10 → kw_AW l 1 kw_E0 KX mJ7_fill_53178 (p_J7_fill_53178_34 σ v) 5 [(3, .int 40), (2, .int x1), (0, .ref 34), (1, .int v)] [] S2 := by
    intro n10
    induction n10 with
    | zero => intro x1 S2 I3 F4 v7 v8 hF m9; exact absurd m9 (Nat.not_lt_zero _)
    | succ n10 ih6 =>
      intro x1 S2 I3 F4 v7 v8 hF m9
      replace hF := kf_st (l_J7_fill_53178_34_5_s _ _ _ _) hF
      have r_x1 := kw_rng x1
      refine kw_iload_n (pc := 5) (i := 5) (k := 1) (n := 2) rfl rfl rfl ?_
      refine kw_iload_n (pc := 6) (i := 6) (k := 0) (n := 3) rfl rfl rfl ?_
      refine kw_icmp_ge (pc := 7) (i := 7) (tgt := 20) rfl rfl (fun c11 => ?_) (fun c11 => ?_)
      · replace hF := kf_nl c11 hF
        exact kw_return (pc := 20) (i := 14) rfl rfl ⟨⟨I3, F4⟩, rfl, hF⟩
      · replace hF := kf_p c11 hF
        refine kw_aload_n (pc := 10) (i := 8) (k := 2) (n := 0) rfl rfl rfl ?_
        refine kw_iload_n (pc := 11) (i := 9) (k := 1) (n := 2) rfl rfl rfl ?_
        refine kw_iload_n (pc := 12) (i := 10) (k := 3) (n := 1) rfl rfl rfl ?_
        refine kw_iast (pc := 13) (i := 11) (n := 40) rfl rfl (by omega) (by omega) ?_
        have I12 : kw_I bX (kw_ui S2 34 x1.toNatClampNeg v) := kw_I_ui I3 (kw_rng v).1 (Int.le_of_lt_add_one (kw_rng v).2)
        have F13 : kw_F [34] σ (kw_ui S2 34 x1.toNatClampNeg v) := kw_F_ui F4 (by decide)
        refine kw_iinc' (pc := 14) (i := 12) (k := 1) (fun z => [(2, .int z), (3, .int 40), (0, .ref 34), (1, .int v)]) rfl rfl (by decide) rfl (fun _ => rfl) (fun z14 e_z14 t_z14 => ?_)
        replace hF := kf_le e_z14 hF
        refine kw_goto (pc := 17) (i := 13) (tgt := 5) rfl rfl ?_
        refine kw_sub (lv' := [(3, .int 40), (2, .int z14), (0, .ref 34), (1, .int v)]) [1, 0, 2, 3] rfl ?_
        exact ih6 z14 (kw_ui S2 34 x1.toNatClampNeg v) I12 F13 (by omega) (by omega) hF (by omega)
  exact L5 _ 0 σ hI hF0 (by omega) (by omega) hF (Nat.lt_succ_self _)
noncomputable def l_J7_fill_53178_35_5 (a1 : Int32) : Nat → Int32 → kw_S → kw_S
  | 0, _, S => S
  | n + 1, x2, S => if x2.toInt < (60 : Int32).toInt then (kf_l (x2 + Int32.ofInt 1) fun z1 => l_J7_fill_53178_35_5 a1 n z1 (kw_ui S 35 x2.toNatClampNeg a1)) else (S)
theorem l_J7_fill_53178_35_5_s (a1 : Int32) (n : Nat) (x2 : Int32) (S : kw_S) : l_J7_fill_53178_35_5 a1 (n + 1) x2 S = if x2.toInt < (60 : Int32).toInt then (kf_l (x2 + Int32.ofInt 1) fun z1 => l_J7_fill_53178_35_5 a1 n z1 (kw_ui S 35 x2.toNatClampNeg a1)) else (S) := rfl
noncomputable def f_J7_fill_53178_35 (σ : kw_S) (v : Int32) : kw_S := l_J7_fill_53178_35_5 v ((1001 - (0 : Int32).toInt).toNat + 1) (0 : Int32) σ
theorem f_J7_fill_53178_35_u (σ : kw_S) (v : Int32) : f_J7_fill_53178_35 σ v = l_J7_fill_53178_35_5 v ((1001 - (0 : Int32).toInt).toNat + 1) (0 : Int32) σ := rfl
abbrev p_J7_fill_53178_35 (σ : kw_S) (v : Int32) : Option Value → kw_S → Prop := fun vv σ' => (kw_I bX σ' ∧ kw_F [35] σ σ') ∧ vv = none ∧ σ' = f_J7_fill_53178_35 σ v
set_option maxRecDepth 100000 in
set_option maxHeartbeats 4000000 in
theorem c_J7_fill_53178_35 (l : Launch) (σ : kw_S) (hI : kw_I bX σ) (v : Int32) : kw_Met l 1 KX mJ7_fill_53178 [.ref 35, .int v] σ (p_J7_fill_53178_35 σ v) := by
  have r_v := kw_rng v
  have hF0 : kw_F [35] σ σ := kw_F.rf
  have hF := (f_J7_fill_53178_35_u σ v).symm
  have q_0 : (0 : Int32).toInt = 0 := rfl
  have q_60 : (60 : Int32).toInt = 60 := rfl
  refine kw_Met.of (by decide) rfl tJ7_fill_53178 (Nat.le_of_ble_eq_true rfl) ?_
  show kw_AW l 1 kw_E0 KX mJ7_fill_53178 (p_J7_fill_53178_35 σ v) 0 [(0, .ref 35), (1, .int v)] [] σ
  refine kw_iconst (pc := 0) (i := 0) (v := 0) rfl rfl ?_
  refine kw_istore_n (pc := 1) (i := 1) (n := 2) (lv' := [(2, .int 0), (0, .ref 35), (1, .int v)]) rfl rfl (by decide) rfl ?_
  refine kw_aload_n (pc := 2) (i := 2) (k := 1) (n := 0) rfl rfl rfl ?_
  refine kw_alen (pc := 3) (i := 3) (n := 60) (v := 60) rfl rfl rfl ?_
  refine kw_istore_n (pc := 4) (i := 4) (n := 3) (lv' := [(3, .int 60), (2, .int 0), (0, .ref 35), (1, .int v)]) rfl rfl (by decide) rfl ?_
  have L5 : ∀ (n10 : Nat) (x1 : Int32) (S2 : kw_S), kw_I bX S2 → kw_F [35] σ S2 → 0 ≤ x1.toInt → (60 : Int32).toInt ≤ 1000 → l_J7_fill_53178_35_5 v n10 x1 S2 = (f_J7_fill_53178_35 σ v) → (1001 - x1.toInt).toNat < n10 → kw_AW l 1 kw_E0 KX mJ7_fill_53178 (p_J7_fill_53178_35 σ v) 5 [(3, .int 60), (2, .int x1), (0, .ref 35), (1, .int v)] [] S2 := by
    intro n10
    induction n10 with
    | zero => intro x1 S2 I3 F4 v7 v8 hF m9; exact absurd m9 (Nat.not_lt_zero _)
    | succ n10 ih6 =>
      intro x1 S2 I3 F4 v7 v8 hF m9
      replace hF := kf_st (l_J7_fill_53178_35_5_s _ _ _ _) hF
      have r_x1 := kw_rng x1
      refine kw_iload_n (pc := 5) (i := 5) (k := 1) (n := 2) rfl rfl rfl ?_
      refine kw_iload_n (pc := 6) (i := 6) (k := 0) (n := 3) rfl rfl rfl ?_
      refine kw_icmp_ge (pc := 7) (i := 7) (tgt := 20) rfl rfl (fun c11 => ?_) (fun c11 => ?_)
      · replace hF := kf_nl c11 hF
        exact kw_return (pc := 20) (i := 14) rfl rfl ⟨⟨I3, F4⟩, rfl, hF⟩
      · replace hF := kf_p c11 hF
        refine kw_aload_n (pc := 10) (i := 8) (k := 2) (n := 0) rfl rfl rfl ?_
        refine kw_iload_n (pc := 11) (i := 9) (k := 1) (n := 2) rfl rfl rfl ?_
        refine kw_iload_n (pc := 12) (i := 10) (k := 3) (n := 1) rfl rfl rfl ?_
        refine kw_iast (pc := 13) (i := 11) (n := 60) rfl rfl (by omega) (by omega) ?_
        have I12 : kw_I bX (kw_ui S2 35 x1.toNatClampNeg v) := kw_I_ui I3 (kw_rng v).1 (Int.le_of_lt_add_one (kw_rng v).2)
        have F13 : kw_F [35] σ (kw_ui S2 35 x1.toNatClampNeg v) := kw_F_ui F4 (by decide)
        refine kw_iinc' (pc := 14) (i := 12) (k := 1) (fun z => [(2, .int z), (3, .int 60), (0, .ref 35), (1, .int v)]) rfl rfl (by decide) rfl (fun _ => rfl) (fun z14 e_z14 t_z14 => ?_)
        replace hF := kf_le e_z14 hF
        refine kw_goto (pc := 17) (i := 13) (tgt := 5) rfl rfl ?_
        refine kw_sub (lv' := [(3, .int 60), (2, .int z14), (0, .ref 35), (1, .int v)]) [1, 0, 2, 3] rfl ?_
        exact ih6 z14 (kw_ui S2 35 x1.toNatClampNeg v) I12 F13 (by omega) (by omega) hF (by omega)
  exact L5 _ 0 σ hI hF0 (by omega) (by omega) hF (Nat.lt_succ_self _)
noncomputable def l_J7_fill_53178_36_5 (a1 : Int32) : Nat → Int32 → kw_S → kw_S
  | 0, _, S => S
  | n + 1, x2, S => if x2.toInt < (60 : Int32).toInt then (kf_l (x2 + Int32.ofInt 1) fun z1 => l_J7_fill_53178_36_5 a1 n z1 (kw_ui S 36 x2.toNatClampNeg a1)) else (S)
theorem l_J7_fill_53178_36_5_s (a1 : Int32) (n : Nat) (x2 : Int32) (S : kw_S) : l_J7_fill_53178_36_5 a1 (n + 1) x2 S = if x2.toInt < (60 : Int32).toInt then (kf_l (x2 + Int32.ofInt 1) fun z1 => l_J7_fill_53178_36_5 a1 n z1 (kw_ui S 36 x2.toNatClampNeg a1)) else (S) := rfl
noncomputable def f_J7_fill_53178_36 (σ : kw_S) (v : Int32) : kw_S := l_J7_fill_53178_36_5 v ((1001 - (0 : Int32).toInt).toNat + 1) (0 : Int32) σ
theorem f_J7_fill_53178_36_u (σ : kw_S) (v : Int32) : f_J7_fill_53178_36 σ v = l_J7_fill_53178_36_5 v ((1001 - (0 : Int32).toInt).toNat + 1) (0 : Int32) σ := rfl
abbrev p_J7_fill_53178_36 (σ : kw_S) (v : Int32) : Option Value → kw_S → Prop := fun vv σ' => (kw_I bX σ' ∧ kw_F [36] σ σ') ∧ vv = none ∧ σ' = f_J7_fill_53178_36 σ v
set_option maxRecDepth 100000 in
set_option maxHeartbeats 4000000 in
theorem c_J7_fill_53178_36 (l : Launch) (σ : kw_S) (hI : kw_I bX σ) (v : Int32) : kw_Met l 1 KX mJ7_fill_53178 [.ref 36, .int v] σ (p_J7_fill_53178_36 σ v) := by
  have r_v := kw_rng v
  have hF0 : kw_F [36] σ σ := kw_F.rf
  have hF := (f_J7_fill_53178_36_u σ v).symm
  have q_0 : (0 : Int32).toInt = 0 := rfl
  have q_60 : (60 : Int32).toInt = 60 := rfl
  refine kw_Met.of (by decide) rfl tJ7_fill_53178 (Nat.le_of_ble_eq_true rfl) ?_
  show kw_AW l 1 kw_E0 KX mJ7_fill_53178 (p_J7_fill_53178_36 σ v) 0 [(0, .ref 36), (1, .int v)] [] σ
  refine kw_iconst (pc := 0) (i := 0) (v := 0) rfl rfl ?_
  refine kw_istore_n (pc := 1) (i := 1) (n := 2) (lv' := [(2, .int 0), (0, .ref 36), (1, .int v)]) rfl rfl (by decide) rfl ?_
  refine kw_aload_n (pc := 2) (i := 2) (k := 1) (n := 0) rfl rfl rfl ?_
  refine kw_alen (pc := 3) (i := 3) (n := 60) (v := 60) rfl rfl rfl ?_
  refine kw_istore_n (pc := 4) (i := 4) (n := 3) (lv' := [(3, .int 60), (2, .int 0), (0, .ref 36), (1, .int v)]) rfl rfl (by decide) rfl ?_
  have L5 : ∀ (n10 : Nat) (x1 : Int32) (S2 : kw_S), kw_I bX S2 → kw_F [36] σ S2 → 0 ≤ x1.toInt → (60 : Int32).toInt ≤ 1000 → l_J7_fill_53178_36_5 v n10 x1 S2 = (f_J7_fill_53178_36 σ v) → (1001 - x1.toInt).toNat < n10 → kw_AW l 1 kw_E0 KX mJ7_fill_53178 (p_J7_fill_53178_36 σ v) 5 [(3, .int 60), (2, .int x1), (0, .ref 36), (1, .int v)] [] S2 := by
    intro n10
    induction n10 with
    | zero => intro x1 S2 I3 F4 v7 v8 hF m9; exact absurd m9 (Nat.not_lt_zero _)
    | succ n10 ih6 =>
      intro x1 S2 I3 F4 v7 v8 hF m9
      replace hF := kf_st (l_J7_fill_53178_36_5_s _ _ _ _) hF
      have r_x1 := kw_rng x1
      refine kw_iload_n (pc := 5) (i := 5) (k := 1) (n := 2) rfl rfl rfl ?_
      refine kw_iload_n (pc := 6) (i := 6) (k := 0) (n := 3) rfl rfl rfl ?_
      refine kw_icmp_ge (pc := 7) (i := 7) (tgt := 20) rfl rfl (fun c11 => ?_) (fun c11 => ?_)
      · replace hF := kf_nl c11 hF
        exact kw_return (pc := 20) (i := 14) rfl rfl ⟨⟨I3, F4⟩, rfl, hF⟩
      · replace hF := kf_p c11 hF
        refine kw_aload_n (pc := 10) (i := 8) (k := 2) (n := 0) rfl rfl rfl ?_
        refine kw_iload_n (pc := 11) (i := 9) (k := 1) (n := 2) rfl rfl rfl ?_
        refine kw_iload_n (pc := 12) (i := 10) (k := 3) (n := 1) rfl rfl rfl ?_
        refine kw_iast (pc := 13) (i := 11) (n := 60) rfl rfl (by omega) (by omega) ?_
        have I12 : kw_I bX (kw_ui S2 36 x1.toNatClampNeg v) := kw_I_ui I3 (kw_rng v).1 (Int.le_of_lt_add_one (kw_rng v).2)
        have F13 : kw_F [36] σ (kw_ui S2 36 x1.toNatClampNeg v) := kw_F_ui F4 (by decide)
        refine kw_iinc' (pc := 14) (i := 12) (k := 1) (fun z => [(2, .int z), (3, .int 60), (0, .ref 36), (1, .int v)]) rfl rfl (by decide) rfl (fun _ => rfl) (fun z14 e_z14 t_z14 => ?_)
        replace hF := kf_le e_z14 hF
        refine kw_goto (pc := 17) (i := 13) (tgt := 5) rfl rfl ?_
        refine kw_sub (lv' := [(3, .int 60), (2, .int z14), (0, .ref 36), (1, .int v)]) [1, 0, 2, 3] rfl ?_
        exact ih6 z14 (kw_ui S2 36 x1.toNatClampNeg v) I12 F13 (by omega) (by omega) hF (by omega)
  exact L5 _ 0 σ hI hF0 (by omega) (by omega) hF (Nat.lt_succ_self _)
noncomputable def l_J7_fill_53178_37_5 (a1 : Int32) : Nat → Int32 → kw_S → kw_S
  | 0, _, S => S
  | n + 1, x2, S => if x2.toInt < (60 : Int32).toInt then (kf_l (x2 + Int32.ofInt 1) fun z1 => l_J7_fill_53178_37_5 a1 n z1 (kw_ui S 37 x2.toNatClampNeg a1)) else (S)
theorem l_J7_fill_53178_37_5_s (a1 : Int32) (n : Nat) (x2 : Int32) (S : kw_S) : l_J7_fill_53178_37_5 a1 (n + 1) x2 S = if x2.toInt < (60 : Int32).toInt then (kf_l (x2 + Int32.ofInt 1) fun z1 => l_J7_fill_53178_37_5 a1 n z1 (kw_ui S 37 x2.toNatClampNeg a1)) else (S) := rfl
noncomputable def f_J7_fill_53178_37 (σ : kw_S) (v : Int32) : kw_S := l_J7_fill_53178_37_5 v ((1001 - (0 : Int32).toInt).toNat + 1) (0 : Int32) σ
theorem f_J7_fill_53178_37_u (σ : kw_S) (v : Int32) : f_J7_fill_53178_37 σ v = l_J7_fill_53178_37_5 v ((1001 - (0 : Int32).toInt).toNat + 1) (0 : Int32) σ := rfl
abbrev p_J7_fill_53178_37 (σ : kw_S) (v : Int32) : Option Value → kw_S → Prop := fun vv σ' => (kw_I bX σ' ∧ kw_F [37] σ σ') ∧ vv = none ∧ σ' = f_J7_fill_53178_37 σ v
set_option maxRecDepth 100000 in
set_option maxHeartbeats 4000000 in
theorem c_J7_fill_53178_37 (l : Launch) (σ : kw_S) (hI : kw_I bX σ) (v : Int32) : kw_Met l 1 KX mJ7_fill_53178 [.ref 37, .int v] σ (p_J7_fill_53178_37 σ v) := by
  have r_v := kw_rng v
  have hF0 : kw_F [37] σ σ := kw_F.rf
  have hF := (f_J7_fill_53178_37_u σ v).symm
  have q_0 : (0 : Int32).toInt = 0 := rfl
  have q_60 : (60 : Int32).toInt = 60 := rfl
  refine kw_Met.of (by decide) rfl tJ7_fill_53178 (Nat.le_of_ble_eq_true rfl) ?_
  show kw_AW l 1 kw_E0 KX mJ7_fill_53178 (p_J7_fill_53178_37 σ v) 0 [(0, .ref 37), (1, .int v)] [] σ
  refine kw_iconst (pc := 0) (i := 0) (v := 0) rfl rfl ?_
  refine kw_istore_n (pc := 1) (i := 1) (n := 2) (lv' := [(2, .int 0), (0, .ref 37), (1, .int v)]) rfl rfl (by decide) rfl ?_
  refine kw_aload_n (pc := 2) (i := 2) (k := 1) (n := 0) rfl rfl rfl ?_
  refine kw_alen (pc := 3) (i := 3) (n := 60) (v := 60) rfl rfl rfl ?_
  refine kw_istore_n (pc := 4) (i := 4) (n := 3) (lv' := [(3, .int 60), (2, .int 0), (0, .ref 37), (1, .int v)]) rfl rfl (by decide) rfl ?_
  have L5 : ∀ (n10 : Nat) (x1 : Int32) (S2 : kw_S), kw_I bX S2 → kw_F [37] σ S2 → 0 ≤ x1.toInt → (60 : Int32).toInt ≤ 1000 → l_J7_fill_53178_37_5 v n10 x1 S2 = (f_J7_fill_53178_37 σ v) → (1001 - x1.toInt).toNat < n10 → kw_AW l 1 kw_E0 KX mJ7_fill_53178 (p_J7_fill_53178_37 σ v) 5 [(3, .int 60), (2, .int x1), (0, .ref 37), (1, .int v)] [] S2 := by
    intro n10
    induction n10 with
    | zero => intro x1 S2 I3 F4 v7 v8 hF m9; exact absurd m9 (Nat.not_lt_zero _)
    | succ n10 ih6 =>
      intro x1 S2 I3 F4 v7 v8 hF m9
      replace hF := kf_st (l_J7_fill_53178_37_5_s _ _ _ _) hF
      have r_x1 := kw_rng x1
      refine kw_iload_n (pc := 5) (i := 5) (k := 1) (n := 2) rfl rfl rfl ?_
      refine kw_iload_n (pc := 6) (i := 6) (k := 0) (n := 3) rfl rfl rfl ?_
      refine kw_icmp_ge (pc := 7) (i := 7) (tgt := 20) rfl rfl (fun c11 => ?_) (fun c11 => ?_)
      · replace hF := kf_nl c11 hF
        exact kw_return (pc := 20) (i := 14) rfl rfl ⟨⟨I3, F4⟩, rfl, hF⟩
      · replace hF := kf_p c11 hF
        refine kw_aload_n (pc := 10) (i := 8) (k := 2) (n := 0) rfl rfl rfl ?_
        refine kw_iload_n (pc := 11) (i := 9) (k := 1) (n := 2) rfl rfl rfl ?_
        refine kw_iload_n (pc := 12) (i := 10) (k := 3) (n := 1) rfl rfl rfl ?_
        refine kw_iast (pc := 13) (i := 11) (n := 60) rfl rfl (by omega) (by omega) ?_
        have I12 : kw_I bX (kw_ui S2 37 x1.toNatClampNeg v) := kw_I_ui I3 (kw_rng v).1 (Int.le_of_lt_add_one (kw_rng v).2)
        have F13 : kw_F [37] σ (kw_ui S2 37 x1.toNatClampNeg v) := kw_F_ui F4 (by decide)
        refine kw_iinc' (pc := 14) (i := 12) (k := 1) (fun z => [(2, .int z), (3, .int 60), (0, .ref 37), (1, .int v)]) rfl rfl (by decide) rfl (fun _ => rfl) (fun z14 e_z14 t_z14 => ?_)
        replace hF := kf_le e_z14 hF
        refine kw_goto (pc := 17) (i := 13) (tgt := 5) rfl rfl ?_
        refine kw_sub (lv' := [(3, .int 60), (2, .int z14), (0, .ref 37), (1, .int v)]) [1, 0, 2, 3] rfl ?_
        exact ih6 z14 (kw_ui S2 37 x1.toNatClampNeg v) I12 F13 (by omega) (by omega) hF (by omega)
  exact L5 _ 0 σ hI hF0 (by omega) (by omega) hF (Nat.lt_succ_self _)
noncomputable def l_J7_fill_53178_38_5 (a1 : Int32) : Nat → Int32 → kw_S → kw_S
  | 0, _, S => S
  | n + 1, x2, S => if x2.toInt < (60 : Int32).toInt then (kf_l (x2 + Int32.ofInt 1) fun z1 => l_J7_fill_53178_38_5 a1 n z1 (kw_ui S 38 x2.toNatClampNeg a1)) else (S)
theorem l_J7_fill_53178_38_5_s (a1 : Int32) (n : Nat) (x2 : Int32) (S : kw_S) : l_J7_fill_53178_38_5 a1 (n + 1) x2 S = if x2.toInt < (60 : Int32).toInt then (kf_l (x2 + Int32.ofInt 1) fun z1 => l_J7_fill_53178_38_5 a1 n z1 (kw_ui S 38 x2.toNatClampNeg a1)) else (S) := rfl
noncomputable def f_J7_fill_53178_38 (σ : kw_S) (v : Int32) : kw_S := l_J7_fill_53178_38_5 v ((1001 - (0 : Int32).toInt).toNat + 1) (0 : Int32) σ
theorem f_J7_fill_53178_38_u (σ : kw_S) (v : Int32) : f_J7_fill_53178_38 σ v = l_J7_fill_53178_38_5 v ((1001 - (0 : Int32).toInt).toNat + 1) (0 : Int32) σ := rfl
abbrev p_J7_fill_53178_38 (σ : kw_S) (v : Int32) : Option Value → kw_S → Prop := fun vv σ' => (kw_I bX σ' ∧ kw_F [38] σ σ') ∧ vv = none ∧ σ' = f_J7_fill_53178_38 σ v
set_option maxRecDepth 100000 in
set_option maxHeartbeats 4000000 in
theorem c_J7_fill_53178_38 (l : Launch) (σ : kw_S) (hI : kw_I bX σ) (v : Int32) : kw_Met l 1 KX mJ7_fill_53178 [.ref 38, .int v] σ (p_J7_fill_53178_38 σ v) := by
  have r_v := kw_rng v
  have hF0 : kw_F [38] σ σ := kw_F.rf
  have hF := (f_J7_fill_53178_38_u σ v).symm
  have q_0 : (0 : Int32).toInt = 0 := rfl
  have q_60 : (60 : Int32).toInt = 60 := rfl
  refine kw_Met.of (by decide) rfl tJ7_fill_53178 (Nat.le_of_ble_eq_true rfl) ?_
  show kw_AW l 1 kw_E0 KX mJ7_fill_53178 (p_J7_fill_53178_38 σ v) 0 [(0, .ref 38), (1, .int v)] [] σ
  refine kw_iconst (pc := 0) (i := 0) (v := 0) rfl rfl ?_
  refine kw_istore_n (pc := 1) (i := 1) (n := 2) (lv' := [(2, .int 0), (0, .ref 38), (1, .int v)]) rfl rfl (by decide) rfl ?_
  refine kw_aload_n (pc := 2) (i := 2) (k := 1) (n := 0) rfl rfl rfl ?_
  refine kw_alen (pc := 3) (i := 3) (n := 60) (v := 60) rfl rfl rfl ?_
  refine kw_istore_n (pc := 4) (i := 4) (n := 3) (lv' := [(3, .int 60), (2, .int 0), (0, .ref 38), (1, .int v)]) rfl rfl (by decide) rfl ?_
  have L5 : ∀ (n10 : Nat) (x1 : Int32) (S2 : kw_S), kw_I bX S2 → kw_F [38] σ S2 → 0 ≤ x1.toInt → (60 : Int32).toInt ≤ 1000 → l_J7_fill_53178_38_5 v n10 x1 S2 = (f_J7_fill_53178_38 σ v) → (1001 - x1.toInt).toNat < n10 → kw_AW l 1 kw_E0 KX mJ7_fill_53178 (p_J7_fill_53178_38 σ v) 5 [(3, .int 60), (2, .int x1), (0, .ref 38), (1, .int v)] [] S2 := by
    intro n10
    induction n10 with
    | zero => intro x1 S2 I3 F4 v7 v8 hF m9; exact absurd m9 (Nat.not_lt_zero _)
    | succ n10 ih6 =>
      intro x1 S2 I3 F4 v7 v8 hF m9
      replace hF := kf_st (l_J7_fill_53178_38_5_s _ _ _ _) hF
      have r_x1 := kw_rng x1
      refine kw_iload_n (pc := 5) (i := 5) (k := 1) (n := 2) rfl rfl rfl ?_
      refine kw_iload_n (pc := 6) (i := 6) (k := 0) (n := 3) rfl rfl rfl ?_
      refine kw_icmp_ge (pc := 7) (i := 7) (tgt := 20) rfl rfl (fun c11 => ?_) (fun c11 => ?_)
      · replace hF := kf_nl c11 hF
        exact kw_return (pc := 20) (i := 14) rfl rfl ⟨⟨I3, F4⟩, rfl, hF⟩
      · replace hF := kf_p c11 hF
        refine kw_aload_n (pc := 10) (i := 8) (k := 2) (n := 0) rfl rfl rfl ?_
        refine kw_iload_n (pc := 11) (i := 9) (k := 1) (n := 2) rfl rfl rfl ?_
        refine kw_iload_n (pc := 12) (i := 10) (k := 3) (n := 1) rfl rfl rfl ?_
        refine kw_iast (pc := 13) (i := 11) (n := 60) rfl rfl (by omega) (by omega) ?_
        have I12 : kw_I bX (kw_ui S2 38 x1.toNatClampNeg v) := kw_I_ui I3 (kw_rng v).1 (Int.le_of_lt_add_one (kw_rng v).2)
        have F13 : kw_F [38] σ (kw_ui S2 38 x1.toNatClampNeg v) := kw_F_ui F4 (by decide)
        refine kw_iinc' (pc := 14) (i := 12) (k := 1) (fun z => [(2, .int z), (3, .int 60), (0, .ref 38), (1, .int v)]) rfl rfl (by decide) rfl (fun _ => rfl) (fun z14 e_z14 t_z14 => ?_)
        replace hF := kf_le e_z14 hF
        refine kw_goto (pc := 17) (i := 13) (tgt := 5) rfl rfl ?_
        refine kw_sub (lv' := [(3, .int 60), (2, .int z14), (0, .ref 38), (1, .int v)]) [1, 0, 2, 3] rfl ?_
        exact ih6 z14 (kw_ui S2 38 x1.toNatClampNeg v) I12 F13 (by omega) (by omega) hF (by omega)
  exact L5 _ 0 σ hI hF0 (by omega) (by omega) hF (Nat.lt_succ_self _)
noncomputable def l_J7_fill_53178_49_5 (a1 : Int32) : Nat → Int32 → kw_S → kw_S
  | 0, _, S => S
  | n + 1, x2, S => if x2.toInt < (40 : Int32).toInt then (kf_l (x2 + Int32.ofInt 1) fun z1 => l_J7_fill_53178_49_5 a1 n z1 (kw_ui S 49 x2.toNatClampNeg a1)) else (S)
theorem l_J7_fill_53178_49_5_s (a1 : Int32) (n : Nat) (x2 : Int32) (S : kw_S) : l_J7_fill_53178_49_5 a1 (n + 1) x2 S = if x2.toInt < (40 : Int32).toInt then (kf_l (x2 + Int32.ofInt 1) fun z1 => l_J7_fill_53178_49_5 a1 n z1 (kw_ui S 49 x2.toNatClampNeg a1)) else (S) := rfl
noncomputable def f_J7_fill_53178_49 (σ : kw_S) (v : Int32) : kw_S := l_J7_fill_53178_49_5 v ((1001 - (0 : Int32).toInt).toNat + 1) (0 : Int32) σ
theorem f_J7_fill_53178_49_u (σ : kw_S) (v : Int32) : f_J7_fill_53178_49 σ v = l_J7_fill_53178_49_5 v ((1001 - (0 : Int32).toInt).toNat + 1) (0 : Int32) σ := rfl
abbrev p_J7_fill_53178_49 (σ : kw_S) (v : Int32) : Option Value → kw_S → Prop := fun vv σ' => (kw_I bX σ' ∧ kw_F [49] σ σ') ∧ vv = none ∧ σ' = f_J7_fill_53178_49 σ v
set_option maxRecDepth 100000 in
set_option maxHeartbeats 4000000 in
theorem c_J7_fill_53178_49 (l : Launch) (σ : kw_S) (hI : kw_I bX σ) (v : Int32) : kw_Met l 1 KX mJ7_fill_53178 [.ref 49, .int v] σ (p_J7_fill_53178_49 σ v) := by
  have r_v := kw_rng v
  have hF0 : kw_F [49] σ σ := kw_F.rf
  have hF := (f_J7_fill_53178_49_u σ v).symm
  have q_0 : (0 : Int32).toInt = 0 := rfl
  have q_40 : (40 : Int32).toInt = 40 := rfl
  refine kw_Met.of (by decide) rfl tJ7_fill_53178 (Nat.le_of_ble_eq_true rfl) ?_
  show kw_AW l 1 kw_E0 KX mJ7_fill_53178 (p_J7_fill_53178_49 σ v) 0 [(0, .ref 49), (1, .int v)] [] σ
  refine kw_iconst (pc := 0) (i := 0) (v := 0) rfl rfl ?_
  refine kw_istore_n (pc := 1) (i := 1) (n := 2) (lv' := [(2, .int 0), (0, .ref 49), (1, .int v)]) rfl rfl (by decide) rfl ?_
  refine kw_aload_n (pc := 2) (i := 2) (k := 1) (n := 0) rfl rfl rfl ?_
  refine kw_alen (pc := 3) (i := 3) (n := 40) (v := 40) rfl rfl rfl ?_
  refine kw_istore_n (pc := 4) (i := 4) (n := 3) (lv' := [(3, .int 40), (2, .int 0), (0, .ref 49), (1, .int v)]) rfl rfl (by decide) rfl ?_
  have L5 : ∀ (n10 : Nat) (x1 : Int32) (S2 : kw_S), kw_I bX S2 → kw_F [49] σ S2 → 0 ≤ x1.toInt → (40 : Int32).toInt ≤ 1000 → l_J7_fill_53178_49_5 v n10 x1 S2 = (f_J7_fill_53178_49 σ v) → (1001 - x1.toInt).toNat < n10 → kw_AW l 1 kw_E0 KX mJ7_fill_53178 (p_J7_fill_53178_49 σ v) 5 [(3, .int 40), (2, .int x1), (0, .ref 49), (1, .int v)] [] S2 := by
    intro n10
    induction n10 with
    | zero => intro x1 S2 I3 F4 v7 v8 hF m9; exact absurd m9 (Nat.not_lt_zero _)
    | succ n10 ih6 =>
      intro x1 S2 I3 F4 v7 v8 hF m9
      replace hF := kf_st (l_J7_fill_53178_49_5_s _ _ _ _) hF
      have r_x1 := kw_rng x1
      refine kw_iload_n (pc := 5) (i := 5) (k := 1) (n := 2) rfl rfl rfl ?_
      refine kw_iload_n (pc := 6) (i := 6) (k := 0) (n := 3) rfl rfl rfl ?_
      refine kw_icmp_ge (pc := 7) (i := 7) (tgt := 20) rfl rfl (fun c11 => ?_) (fun c11 => ?_)
      · replace hF := kf_nl c11 hF
        exact kw_return (pc := 20) (i := 14) rfl rfl ⟨⟨I3, F4⟩, rfl, hF⟩
      · replace hF := kf_p c11 hF
        refine kw_aload_n (pc := 10) (i := 8) (k := 2) (n := 0) rfl rfl rfl ?_
        refine kw_iload_n (pc := 11) (i := 9) (k := 1) (n := 2) rfl rfl rfl ?_
        refine kw_iload_n (pc := 12) (i := 10) (k := 3) (n := 1) rfl rfl rfl ?_
        refine kw_iast (pc := 13) (i := 11) (n := 40) rfl rfl (by omega) (by omega) ?_
        have I12 : kw_I bX (kw_ui S2 49 x1.toNatClampNeg v) := kw_I_ui I3 (kw_rng v).1 (Int.le_of_lt_add_one (kw_rng v).2)
        have F13 : kw_F [49] σ (kw_ui S2 49 x1.toNatClampNeg v) := kw_F_ui F4 (by decide)
        refine kw_iinc' (pc := 14) (i := 12) (k := 1) (fun z => [(2, .int z), (3, .int 40), (0, .ref 49), (1, .int v)]) rfl rfl (by decide) rfl (fun _ => rfl) (fun z14 e_z14 t_z14 => ?_)
        replace hF := kf_le e_z14 hF
        refine kw_goto (pc := 17) (i := 13) (tgt := 5) rfl rfl ?_
        refine kw_sub (lv' := [(3, .int 40), (2, .int z14), (0, .ref 49), (1, .int v)]) [1, 0, 2, 3] rfl ?_
        exact ih6 z14 (kw_ui S2 49 x1.toNatClampNeg v) I12 F13 (by omega) (by omega) hF (by omega)
  exact L5 _ 0 σ hI hF0 (by omega) (by omega) hF (Nat.lt_succ_self _)
noncomputable def l_J7_fill_53178_50_5 (a1 : Int32) : Nat → Int32 → kw_S → kw_S
  | 0, _, S => S
  | n + 1, x2, S => if x2.toInt < (40 : Int32).toInt then (kf_l (x2 + Int32.ofInt 1) fun z1 => l_J7_fill_53178_50_5 a1 n z1 (kw_ui S 50 x2.toNatClampNeg a1)) else (S)
theorem l_J7_fill_53178_50_5_s (a1 : Int32) (n : Nat) (x2 : Int32) (S : kw_S) : l_J7_fill_53178_50_5 a1 (n + 1) x2 S = if x2.toInt < (40 : Int32).toInt then (kf_l (x2 + Int32.ofInt 1) fun z1 => l_J7_fill_53178_50_5 a1 n z1 (kw_ui S 50 x2.toNatClampNeg a1)) else (S) := rfl
noncomputable def f_J7_fill_53178_50 (σ : kw_S) (v : Int32) : kw_S := l_J7_fill_53178_50_5 v ((1001 - (0 : Int32).toInt).toNat + 1) (0 : Int32) σ
theorem f_J7_fill_53178_50_u (σ : kw_S) (v : Int32) : f_J7_fill_53178_50 σ v = l_J7_fill_53178_50_5 v ((1001 - (0 : Int32).toInt).toNat + 1) (0 : Int32) σ := rfl
abbrev p_J7_fill_53178_50 (σ : kw_S) (v : Int32) : Option Value → kw_S → Prop := fun vv σ' => (kw_I bX σ' ∧ kw_F [50] σ σ') ∧ vv = none ∧ σ' = f_J7_fill_53178_50 σ v
set_option maxRecDepth 100000 in
set_option maxHeartbeats 4000000 in
theorem c_J7_fill_53178_50 (l : Launch) (σ : kw_S) (hI : kw_I bX σ) (v : Int32) : kw_Met l 1 KX mJ7_fill_53178 [.ref 50, .int v] σ (p_J7_fill_53178_50 σ v) := by
  have r_v := kw_rng v
  have hF0 : kw_F [50] σ σ := kw_F.rf
  have hF := (f_J7_fill_53178_50_u σ v).symm
  have q_0 : (0 : Int32).toInt = 0 := rfl
  have q_40 : (40 : Int32).toInt = 40 := rfl
  refine kw_Met.of (by decide) rfl tJ7_fill_53178 (Nat.le_of_ble_eq_true rfl) ?_
  show kw_AW l 1 kw_E0 KX mJ7_fill_53178 (p_J7_fill_53178_50 σ v) 0 [(0, .ref 50), (1, .int v)] [] σ
  refine kw_iconst (pc := 0) (i := 0) (v := 0) rfl rfl ?_
  refine kw_istore_n (pc := 1) (i := 1) (n := 2) (lv' := [(2, .int 0), (0, .ref 50), (1, .int v)]) rfl rfl (by decide) rfl ?_
  refine kw_aload_n (pc := 2) (i := 2) (k := 1) (n := 0) rfl rfl rfl ?_
  refine kw_alen (pc := 3) (i := 3) (n := 40) (v := 40) rfl rfl rfl ?_
  refine kw_istore_n (pc := 4) (i := 4) (n := 3) (lv' := [(3, .int 40), (2, .int 0), (0, .ref 50), (1, .int v)]) rfl rfl (by decide) rfl ?_
  have L5 : ∀ (n10 : Nat) (x1 : Int32) (S2 : kw_S), kw_I bX S2 → kw_F [50] σ S2 → 0 ≤ x1.toInt → (40 : Int32).toInt ≤ 1000 → l_J7_fill_53178_50_5 v n10 x1 S2 = (f_J7_fill_53178_50 σ v) → (1001 - x1.toInt).toNat < n10 → kw_AW l 1 kw_E0 KX mJ7_fill_53178 (p_J7_fill_53178_50 σ v) 5 [(3, .int 40), (2, .int x1), (0, .ref 50), (1, .int v)] [] S2 := by
    intro n10
    induction n10 with
    | zero => intro x1 S2 I3 F4 v7 v8 hF m9; exact absurd m9 (Nat.not_lt_zero _)
    | succ n10 ih6 =>
      intro x1 S2 I3 F4 v7 v8 hF m9
      replace hF := kf_st (l_J7_fill_53178_50_5_s _ _ _ _) hF
      have r_x1 := kw_rng x1
      refine kw_iload_n (pc := 5) (i := 5) (k := 1) (n := 2) rfl rfl rfl ?_
      refine kw_iload_n (pc := 6) (i := 6) (k := 0) (n := 3) rfl rfl rfl ?_
      refine kw_icmp_ge (pc := 7) (i := 7) (tgt := 20) rfl rfl (fun c11 => ?_) (fun c11 => ?_)
      · replace hF := kf_nl c11 hF
        exact kw_return (pc := 20) (i := 14) rfl rfl ⟨⟨I3, F4⟩, rfl, hF⟩
      · replace hF := kf_p c11 hF
        refine kw_aload_n (pc := 10) (i := 8) (k := 2) (n := 0) rfl rfl rfl ?_
        refine kw_iload_n (pc := 11) (i := 9) (k := 1) (n := 2) rfl rfl rfl ?_
        refine kw_iload_n (pc := 12) (i := 10) (k := 3) (n := 1) rfl rfl rfl ?_
        refine kw_iast (pc := 13) (i := 11) (n := 40) rfl rfl (by omega) (by omega) ?_
        have I12 : kw_I bX (kw_ui S2 50 x1.toNatClampNeg v) := kw_I_ui I3 (kw_rng v).1 (Int.le_of_lt_add_one (kw_rng v).2)
        have F13 : kw_F [50] σ (kw_ui S2 50 x1.toNatClampNeg v) := kw_F_ui F4 (by decide)
        refine kw_iinc' (pc := 14) (i := 12) (k := 1) (fun z => [(2, .int z), (3, .int 40), (0, .ref 50), (1, .int v)]) rfl rfl (by decide) rfl (fun _ => rfl) (fun z14 e_z14 t_z14 => ?_)
        replace hF := kf_le e_z14 hF
        refine kw_goto (pc := 17) (i := 13) (tgt := 5) rfl rfl ?_
        refine kw_sub (lv' := [(3, .int 40), (2, .int z14), (0, .ref 50), (1, .int v)]) [1, 0, 2, 3] rfl ?_
        exact ih6 z14 (kw_ui S2 50 x1.toNatClampNeg v) I12 F13 (by omega) (by omega) hF (by omega)
  exact L5 _ 0 σ hI hF0 (by omega) (by omega) hF (Nat.lt_succ_self _)
noncomputable def l_J7_fill_53178_51_5 (a1 : Int32) : Nat → Int32 → kw_S → kw_S
  | 0, _, S => S
  | n + 1, x2, S => if x2.toInt < (40 : Int32).toInt then (kf_l (x2 + Int32.ofInt 1) fun z1 => l_J7_fill_53178_51_5 a1 n z1 (kw_ui S 51 x2.toNatClampNeg a1)) else (S)
theorem l_J7_fill_53178_51_5_s (a1 : Int32) (n : Nat) (x2 : Int32) (S : kw_S) : l_J7_fill_53178_51_5 a1 (n + 1) x2 S = if x2.toInt < (40 : Int32).toInt then (kf_l (x2 + Int32.ofInt 1) fun z1 => l_J7_fill_53178_51_5 a1 n z1 (kw_ui S 51 x2.toNatClampNeg a1)) else (S) := rfl
noncomputable def f_J7_fill_53178_51 (σ : kw_S) (v : Int32) : kw_S := l_J7_fill_53178_51_5 v ((1001 - (0 : Int32).toInt).toNat + 1) (0 : Int32) σ
theorem f_J7_fill_53178_51_u (σ : kw_S) (v : Int32) : f_J7_fill_53178_51 σ v = l_J7_fill_53178_51_5 v ((1001 - (0 : Int32).toInt).toNat + 1) (0 : Int32) σ := rfl
abbrev p_J7_fill_53178_51 (σ : kw_S) (v : Int32) : Option Value → kw_S → Prop := fun vv σ' => (kw_I bX σ' ∧ kw_F [51] σ σ') ∧ vv = none ∧ σ' = f_J7_fill_53178_51 σ v
set_option maxRecDepth 100000 in
set_option maxHeartbeats 4000000 in
theorem c_J7_fill_53178_51 (l : Launch) (σ : kw_S) (hI : kw_I bX σ) (v : Int32) : kw_Met l 1 KX mJ7_fill_53178 [.ref 51, .int v] σ (p_J7_fill_53178_51 σ v) := by
  have r_v := kw_rng v
  have hF0 : kw_F [51] σ σ := kw_F.rf
  have hF := (f_J7_fill_53178_51_u σ v).symm
  have q_0 : (0 : Int32).toInt = 0 := rfl
  have q_40 : (40 : Int32).toInt = 40 := rfl
  refine kw_Met.of (by decide) rfl tJ7_fill_53178 (Nat.le_of_ble_eq_true rfl) ?_
  show kw_AW l 1 kw_E0 KX mJ7_fill_53178 (p_J7_fill_53178_51 σ v) 0 [(0, .ref 51), (1, .int v)] [] σ
  refine kw_iconst (pc := 0) (i := 0) (v := 0) rfl rfl ?_
  refine kw_istore_n (pc := 1) (i := 1) (n := 2) (lv' := [(2, .int 0), (0, .ref 51), (1, .int v)]) rfl rfl (by decide) rfl ?_
  refine kw_aload_n (pc := 2) (i := 2) (k := 1) (n := 0) rfl rfl rfl ?_
  refine kw_alen (pc := 3) (i := 3) (n := 40) (v := 40) rfl rfl rfl ?_
  refine kw_istore_n (pc := 4) (i := 4) (n := 3) (lv' := [(3, .int 40), (2, .int 0), (0, .ref 51), (1, .int v)]) rfl rfl (by decide) rfl ?_
  have L5 : ∀ (n10 : Nat) (x1 : Int32) (S2 : kw_S), kw_I bX S2 → kw_F [51] σ S2 → 0 ≤ x1.toInt → (40 : Int32).toInt ≤ 1000 → l_J7_fill_53178_51_5 v n10 x1 S2 = (f_J7_fill_53178_51 σ v) → (1001 - x1.toInt).toNat < n10 → kw_AW l 1 kw_E0 KX mJ7_fill_53178 (p_J7_fill_53178_51 σ v) 5 [(3, .int 40), (2, .int x1), (0, .ref 51), (1, .int v)] [] S2 := by
    intro n10
    induction n10 with
    | zero => intro x1 S2 I3 F4 v7 v8 hF m9; exact absurd m9 (Nat.not_lt_zero _)
    | succ n10 ih6 =>
      intro x1 S2 I3 F4 v7 v8 hF m9
      replace hF := kf_st (l_J7_fill_53178_51_5_s _ _ _ _) hF
      have r_x1 := kw_rng x1
      refine kw_iload_n (pc := 5) (i := 5) (k := 1) (n := 2) rfl rfl rfl ?_
      refine kw_iload_n (pc := 6) (i := 6) (k := 0) (n := 3) rfl rfl rfl ?_
      refine kw_icmp_ge (pc := 7) (i := 7) (tgt := 20) rfl rfl (fun c11 => ?_) (fun c11 => ?_)
      · replace hF := kf_nl c11 hF
        exact kw_return (pc := 20) (i := 14) rfl rfl ⟨⟨I3, F4⟩, rfl, hF⟩
      · replace hF := kf_p c11 hF
        refine kw_aload_n (pc := 10) (i := 8) (k := 2) (n := 0) rfl rfl rfl ?_
        refine kw_iload_n (pc := 11) (i := 9) (k := 1) (n := 2) rfl rfl rfl ?_
        refine kw_iload_n (pc := 12) (i := 10) (k := 3) (n := 1) rfl rfl rfl ?_
        refine kw_iast (pc := 13) (i := 11) (n := 40) rfl rfl (by omega) (by omega) ?_
        have I12 : kw_I bX (kw_ui S2 51 x1.toNatClampNeg v) := kw_I_ui I3 (kw_rng v).1 (Int.le_of_lt_add_one (kw_rng v).2)
        have F13 : kw_F [51] σ (kw_ui S2 51 x1.toNatClampNeg v) := kw_F_ui F4 (by decide)
        refine kw_iinc' (pc := 14) (i := 12) (k := 1) (fun z => [(2, .int z), (3, .int 40), (0, .ref 51), (1, .int v)]) rfl rfl (by decide) rfl (fun _ => rfl) (fun z14 e_z14 t_z14 => ?_)
        replace hF := kf_le e_z14 hF
        refine kw_goto (pc := 17) (i := 13) (tgt := 5) rfl rfl ?_
        refine kw_sub (lv' := [(3, .int 40), (2, .int z14), (0, .ref 51), (1, .int v)]) [1, 0, 2, 3] rfl ?_
        exact ih6 z14 (kw_ui S2 51 x1.toNatClampNeg v) I12 F13 (by omega) (by omega) hF (by omega)
  exact L5 _ 0 σ hI hF0 (by omega) (by omega) hF (Nat.lt_succ_self _)
