section
noncomputable def l_J7_fill_53178_19_5 (a1 : Int32) : Nat → Int32 → kw_S → kw_S
  | 0, _, S => S
  | n + 1, x2, S => if x2.toInt < (6 : Int32).toInt then (kf_l (x2 + Int32.ofInt 1) fun z1 => l_J7_fill_53178_19_5 a1 n z1 (kw_ui S 19 x2.toNatClampNeg a1)) else (S)
theorem l_J7_fill_53178_19_5_s (a1 : Int32) (n : Nat) (x2 : Int32) (S : kw_S) : l_J7_fill_53178_19_5 a1 (n + 1) x2 S = if x2.toInt < (6 : Int32).toInt then (kf_l (x2 + Int32.ofInt 1) fun z1 => l_J7_fill_53178_19_5 a1 n z1 (kw_ui S 19 x2.toNatClampNeg a1)) else (S) := rfl
noncomputable def f_J7_fill_53178_19 (σ : kw_S) (v : Int32) : kw_S := l_J7_fill_53178_19_5 v ((1001 - (0 : Int32).toInt).toNat + 1) (0 : Int32) σ
theorem f_J7_fill_53178_19_u (σ : kw_S) (v : Int32) : f_J7_fill_53178_19 σ v = l_J7_fill_53178_19_5 v ((1001 - (0 : Int32).toInt).toNat + 1) (0 : Int32) σ := rfl
abbrev p_J7_fill_53178_19 (σ : kw_S) (v : Int32) : Option Value → kw_S → Prop := fun vv σ' => (kw_I bX σ' ∧ kw_F [19] σ σ') ∧ vv = none ∧ σ' = f_J7_fill_53178_19 σ v
set_option maxRecDepth 100000 in
set_option maxHeartbeats 4000000 in
theorem c_J7_fill_53178_19 (l : Launch) (σ : kw_S) (hI : kw_I bX σ) (v : Int32) : kw_Met l 1 KX mJ7_fill_53178 [.ref 19, .int v] σ (p_J7_fill_53178_19 σ v) := by
  have r_v := kw_rng v
  have hF0 : kw_F [19] σ σ := kw_F.rf
  have hF := (f_J7_fill_53178_19_u σ v).symm
  have q_0 : (0 : Int32).toInt = 0 := rfl
  have q_6 : (6 : Int32).toInt = 6 := rfl
  refine kw_Met.of (by decide) rfl tJ7_fill_53178 (Nat.le_of_ble_eq_true rfl) ?_
  show kw_AW l 1 kw_E0 KX mJ7_fill_53178 (p_J7_fill_53178_19 σ v) 0 [(0, .ref 19), (1, .int v)] [] σ
  refine kw_iconst (pc := 0) (i := 0) (v := 0) rfl rfl ?_
  refine kw_istore_n (pc := 1) (i := 1) (n := 2) (lv' := [(2, .int 0), (0, .ref 19), (1, .int v)]) rfl rfl (by decide) rfl ?_
  refine kw_aload_n (pc := 2) (i := 2) (k := 1) (n := 0) rfl rfl rfl ?_
  refine kw_alen (pc := 3) (i := 3) (n := 6) (v := 6) rfl rfl rfl ?_
  refine kw_istore_n (pc := 4) (i := 4) (n := 3) (lv' := [(3, .int 6), (2, .int 0), (0, .ref 19), (1, .int v)]) rfl rfl (by decide) rfl ?_
  have L5 : ∀ (n10 : Nat) (x1 : Int32) (S2 : kw_S), kw_I bX S2 → kw_F [19] σ S2 → 0 ≤ x1.toInt → (6 : Int32).toInt ≤ 1000 → l_J7_fill_53178_19_5 v n10 x1 S2 = (f_J7_fill_53178_19 σ v) → (1001 - x1.toInt).toNat < n10 → kw_AW l 1 kw_E0 KX mJ7_fill_53178 (p_J7_fill_53178_19 σ v) 5 [(3, .int 6), (2, .int x1), (0, .ref 19), (1, .int v)] [] S2 := by
    intro n10
    induction n10 with
    | zero => intro x1 S2 I3 F4 v7 v8 hF m9; exact absurd m9 (Nat.not_lt_zero _)
    | succ n10 ih6 =>
      intro x1 S2 I3 F4 v7 v8 hF m9
      replace hF := kf_st (l_J7_fill_53178_19_5_s _ _ _ _) hF
      have r_x1 := kw_rng x1
      refine kw_iload_n (pc := 5) (i := 5) (k := 1) (n := 2) rfl rfl rfl ?_
      refine kw_iload_n (pc := 6) (i := 6) (k := 0) (n := 3) rfl rfl rfl ?_
      refine kw_icmp_ge (pc := 7) (i := 7) (tgt := 20) rfl rfl (fun c11 => ?_) (fun c11 => ?_)
      · replace hF := kf_nl c11 hF
        exact kw_return (pc := 20) (i := 14) rfl rfl ⟨⟨I3, F4⟩, rfl, hF⟩
      · replace hF := kf_p c11 hF
        refine kw_aload_n (pc := 10) (i := 8) (k := 2) (n := 0) rfl rfl rfl ?_
        refine kw_iload_n (pc := 11) (i := 9) (k := 1) (n := 2) rfl rfl rfl ?_
        refine kw_iload_n (pc := 12) (i := 10) (k := 3) (n := 1) rfl rfl rfl ?_
        refine kw_iast (pc := 13) (i := 11) (n := 6) rfl rfl (by omega) (by omega) ?_
        have I12 : kw_I bX (kw_ui S2 19 x1.toNatClampNeg v) := kw_I_ui I3 (kw_rng v).1 (Int.le_of_lt_add_one (kw_rng v).2)
        have F13 : kw_F [19] σ (kw_ui S2 19 x1.toNatClampNeg v) := kw_F_ui F4 (by decide)
        refine kw_iinc' (pc := 14) (i := 12) (k := 1) (fun z => [(2, .int z), (3, .int 6), (0, .ref 19), (1, .int v)]) rfl rfl (by decide) rfl (fun _ => rfl) (fun z14 e_z14 t_z14 => ?_)
        replace hF := kf_le e_z14 hF
        refine kw_goto (pc := 17) (i := 13) (tgt := 5) rfl rfl ?_
        refine kw_sub (lv' := [(3, .int 6), (2, .int z14), (0, .ref 19), (1, .int v)]) [1, 0, 2, 3] rfl ?_
        exact ih6 z14 (kw_ui S2 19 x1.toNatClampNeg v) I12 F13 (by omega) (by omega) hF (by omega)
  exact L5 _ 0 σ hI hF0 (by omega) (by omega) hF (Nat.lt_succ_self _)
noncomputable def l_J7_fill_53178_29_5 (a1 : Int32) : Nat → Int32 → kw_S → kw_S
  | 0, _, S => S
  | n + 1, x2, S => if x2.toInt < (40 : Int32).toInt then (kf_l (x2 + Int32.ofInt 1) fun z1 => l_J7_fill_53178_29_5 a1 n z1 (kw_ui S 29 x2.toNatClampNeg a1)) else (S)
theorem l_J7_fill_53178_29_5_s (a1 : Int32) (n : Nat) (x2 : Int32) (S : kw_S) : l_J7_fill_53178_29_5 a1 (n + 1) x2 S = if x2.toInt < (40 : Int32).toInt then (kf_l (x2 + Int32.ofInt 1) fun z1 => l_J7_fill_53178_29_5 a1 n z1 (kw_ui S 29 x2.toNatClampNeg a1)) else (S) := rfl
noncomputable def f_J7_fill_53178_29 (σ : kw_S) (v : Int32) : kw_S := l_J7_fill_53178_29_5 v ((1001 - (0 : Int32).toInt).toNat + 1) (0 : Int32) σ
theorem f_J7_fill_53178_29_u (σ : kw_S) (v : Int32) : f_J7_fill_53178_29 σ v = l_J7_fill_53178_29_5 v ((1001 - (0 : Int32).toInt).toNat + 1) (0 : Int32) σ := rfl
abbrev p_J7_fill_53178_29 (σ : kw_S) (v : Int32) : Option Value → kw_S → Prop := fun vv σ' => (kw_I bX σ' ∧ kw_F [29] σ σ') ∧ vv = none ∧ σ' = f_J7_fill_53178_29 σ v
set_option maxRecDepth 100000 in
set_option maxHeartbeats 4000000 in
theorem c_J7_fill_53178_29 (l : Launch) (σ : kw_S) (hI : kw_I bX σ) (v : Int32) : kw_Met l 1 KX mJ7_fill_53178 [.ref 29, .int v] σ (p_J7_fill_53178_29 σ v) := by
  have r_v := kw_rng v
  have hF0 : kw_F [29] σ σ := kw_F.rf
  have hF := (f_J7_fill_53178_29_u σ v).symm
  have q_0 : (0 : Int32).toInt = 0 := rfl
  have q_40 : (40 : Int32).toInt = 40 := rfl
  refine kw_Met.of (by decide) rfl tJ7_fill_53178 (Nat.le_of_ble_eq_true rfl) ?_
  show kw_AW l 1 kw_E0 KX mJ7_fill_53178 (p_J7_fill_53178_29 σ v) 0 [(0, .ref 29), (1, .int v)] [] σ
  refine kw_iconst (pc := 0) (i := 0) (v := 0) rfl rfl ?_
  refine kw_istore_n (pc := 1) (i := 1) (n := 2) (lv' := [(2, .int 0), (0, .ref 29), (1, .int v)]) rfl rfl (by decide) rfl ?_
  refine kw_aload_n (pc := 2) (i := 2) (k := 1) (n := 0) rfl rfl rfl ?_
  refine kw_alen (pc := 3) (i := 3) (n := 40) (v := 40) rfl rfl rfl ?_
  refine kw_istore_n (pc := 4) (i := 4) (n := 3) (lv' := [(3, .int 40), (2, .int 0), (0, .ref 29), (1, .int v)]) rfl rfl (by decide) rfl ?_
  have L5 : ∀ (n10 : Nat) (x1 : Int32) (S2 : kw_S), kw_I bX S2 → kw_F [29] σ S2 → 0 ≤ x1.toInt → (40 : Int32).toInt ≤ 1000 → l_J7_fill_53178_29_5 v n10 x1 S2 = (f_J7_fill_53178_29 σ v) → (1001 - x1.toInt).toNat < n10 → kw_AW l 1 kw_E0 KX mJ7_fill_53178 (p_J7_fill_53178_29 σ v) 5 [(3, .int 40), (2, .int x1), (0, .ref 29), (1, .int v)] [] S2 := by
    intro n10
    induction n10 with
    | zero => intro x1 S2 I3 F4 v7 v8 hF m9; exact absurd m9 (Nat.not_lt_zero _)
    | succ n10 ih6 =>
      intro x1 S2 I3 F4 v7 v8 hF m9
      replace hF := kf_st (l_J7_fill_53178_29_5_s _ _ _ _) hF
      have r_x1 := kw_rng x1
      refine kw_iload_n (pc := 5) (i := 5) (k := 1) (n := 2) rfl rfl rfl ?_
      refine kw_iload_n (pc := 6) (i := 6) (k := 0) (n := 3) rfl rfl rfl ?_
      refine kw_icmp_ge (pc := 7) (i := 7) (tgt := 20) rfl rfl (fun c11 => ?_) (fun c11 => ?_)
      · replace hF := kf_nl c11 hF
        exact kw_return (pc := 20) (i := 14) rfl rfl ⟨⟨I3, F4⟩, rfl, hF⟩
      · replace hF := kf_p c11 hF
        refine kw_aload_n (pc := 10) (i := 8) (k := 2) (n := 0) rfl rfl rfl ?_
        refine kw_iload_n (pc := 11) (i := 9) (k := 1) (n := 2) rfl rfl rfl ?_
        refine kw_iload_n (pc := 12) (i := 10) (k := 3) (n := 1) rfl rfl rfl ?_
        refine kw_iast (pc := 13) (i := 11) (n := 40) rfl rfl (by omega) (by omega) ?_
        have I12 : kw_I bX (kw_ui S2 29 x1.toNatClampNeg v) := kw_I_ui I3 (kw_rng v).1 (Int.le_of_lt_add_one (kw_rng v).2)
        have F13 : kw_F [29] σ (kw_ui S2 29 x1.toNatClampNeg v) := kw_F_ui F4 (by decide)
        refine kw_iinc' (pc := 14) (i := 12) (k := 1) (fun z => [(2, .int z), (3, .int 40), (0, .ref 29), (1, .int v)]) rfl rfl (by decide) rfl (fun _ => rfl) (fun z14 e_z14 t_z14 => ?_)
        replace hF := kf_le e_z14 hF
        refine kw_goto (pc := 17) (i := 13) (tgt := 5) rfl rfl ?_
        refine kw_sub (lv' := [(3, .int 40), (2, .int z14), (0, .ref 29), (1, .int v)]) [1, 0, 2, 3] rfl ?_
        exact ih6 z14 (kw_ui S2 29 x1.toNatClampNeg v) I12 F13 (by omega) (by omega) hF (by omega)
  exact L5 _ 0 σ hI hF0 (by omega) (by omega) hF (Nat.lt_succ_self _)
noncomputable def l_J7_fill_53178_30_5 (a1 : Int32) : Nat → Int32 → kw_S → kw_S
  | 0, _, S => S
  | n + 1, x2, S => if x2.toInt < (40 : Int32).toInt then (kf_l (x2 + Int32.ofInt 1) fun z1 => l_J7_fill_53178_30_5 a1 n z1 (kw_ui S 30 x2.toNatClampNeg a1)) else (S)
theorem l_J7_fill_53178_30_5_s (a1 : Int32) (n : Nat) (x2 : Int32) (S : kw_S) : l_J7_fill_53178_30_5 a1 (n + 1) x2 S = if x2.toInt < (40 : Int32).toInt then (kf_l (x2 + Int32.ofInt 1) fun z1 => l_J7_fill_53178_30_5 a1 n z1 (kw_ui S 30 x2.toNatClampNeg a1)) else (S) := rfl
noncomputable def f_J7_fill_53178_30 (σ : kw_S) (v : Int32) : kw_S := l_J7_fill_53178_30_5 v ((1001 - (0 : Int32).toInt).toNat + 1) (0 : Int32) σ
theorem f_J7_fill_53178_30_u (σ : kw_S) (v : Int32) : f_J7_fill_53178_30 σ v = l_J7_fill_53178_30_5 v ((1001 - (0 : Int32).toInt).toNat + 1) (0 : Int32) σ := rfl
abbrev p_J7_fill_53178_30 (σ : kw_S) (v : Int32) : Option Value → kw_S → Prop := fun vv σ' => (kw_I bX σ' ∧ kw_F [30] σ σ') ∧ vv = none ∧ σ' = f_J7_fill_53178_30 σ v
set_option maxRecDepth 100000 in
set_option maxHeartbeats 4000000 in
theorem c_J7_fill_53178_30 (l : Launch) (σ : kw_S) (hI : kw_I bX σ) (v : Int32) : kw_Met l 1 KX mJ7_fill_53178 [.ref 30, .int v] σ (p_J7_fill_53178_30 σ v) := by
  have r_v := kw_rng v
  have hF0 : kw_F [30] σ σ := kw_F.rf
  have hF := (f_J7_fill_53178_30_u σ v).symm
  have q_0 : (0 : Int32).toInt = 0 := rfl
  have q_40 : (40 : Int32).toInt = 40 := rfl
  refine kw_Met.of (by decide) rfl tJ7_fill_53178 (Nat.le_of_ble_eq_true rfl) ?_
  show kw_AW l 1 kw_E0 KX mJ7_fill_53178 (p_J7_fill_53178_30 σ v) 0 [(0, .ref 30), (1, .int v)] [] σ
  refine kw_iconst (pc := 0) (i := 0) (v := 0) rfl rfl ?_
  refine kw_istore_n (pc := 1) (i := 1) (n := 2) (lv' := [(2, .int 0), (0, .ref 30), (1, .int v)]) rfl rfl (by decide) rfl ?_
  refine kw_aload_n (pc := 2) (i := 2) (k := 1) (n := 0) rfl rfl rfl ?_
  refine kw_alen (pc := 3) (i := 3) (n := 40) (v := 40) rfl rfl rfl ?_
  refine kw_istore_n (pc := 4) (i := 4) (n := 3) (lv' := [(3, .int 40), (2, .int 0), (0, .ref 30), (1, .int v)]) rfl rfl (by decide) rfl ?_
  have L5 : ∀ (n10 : Nat) (x1 : Int32) (S2 : kw_S), kw_I bX S2 → kw_F [30] σ S2 → 0 ≤ x1.toInt → (40 : Int32).toInt ≤ 1000 → l_J7_fill_53178_30_5 v n10 x1 S2 = (f_J7_fill_53178_30 σ v) → (1001 - x1.toInt).toNat < n10 → kw_AW l 1 kw_E0 KX mJ7_fill_53178 (p_J7_fill_53178_30 σ v) 5 [(3, .int 40), (2, .int x1), (0, .ref 30), (1, .int v)] [] S2 := by
    intro n10
    induction n10 with
    | zero => intro x1 S2 I3 F4 v7 v8 hF m9; exact absurd m9 (Nat.not_lt_zero _)
    | succ n10 ih6 =>
      intro x1 S2 I3 F4 v7 v8 hF m9
      replace hF := kf_st (l_J7_fill_53178_30_5_s _ _ _ _) hF
      have r_x1 := kw_rng x1
      refine kw_iload_n (pc := 5) (i := 5) (k := 1) (n := 2) rfl rfl rfl ?_
      refine kw_iload_n (pc := 6) (i := 6) (k := 0) (n := 3) rfl rfl rfl ?_
      refine kw_icmp_ge (pc := 7) (i := 7) (tgt := 20) rfl rfl (fun c11 => ?_) (fun c11 => ?_)
      · replace hF := kf_nl c11 hF
        exact kw_return (pc := 20) (i := 14) rfl rfl ⟨⟨I3, F4⟩, rfl, hF⟩
      · replace hF := kf_p c11 hF
        refine kw_aload_n (pc := 10) (i := 8) (k := 2) (n := 0) rfl rfl rfl ?_
        refine kw_iload_n (pc := 11) (i := 9) (k := 1) (n := 2) rfl rfl rfl ?_
        refine kw_iload_n (pc := 12) (i := 10) (k := 3) (n := 1) rfl rfl rfl ?_
        refine kw_iast (pc := 13) (i := 11) (n := 40) rfl rfl (by omega) (by omega) ?_
        have I12 : kw_I bX (kw_ui S2 30 x1.toNatClampNeg v) := kw_I_ui I3 (kw_rng v).1 (Int.le_of_lt_add_one (kw_rng v).2)
        have F13 : kw_F [30] σ (kw_ui S2 30 x1.toNatClampNeg v) := kw_F_ui F4 (by decide)
        refine kw_iinc' (pc := 14) (i := 12) (k := 1) (fun z => [(2, .int z), (3, .int 40), (0, .ref 30), (1, .int v)]) rfl rfl (by decide) rfl (fun _ => rfl) (fun z14 e_z14 t_z14 => ?_)
        replace hF := kf_le e_z14 hF
        refine kw_goto (pc := 17) (i := 13) (tgt := 5) rfl rfl ?_
        refine kw_sub (lv' := [(3, .int 40), (2, .int z14), (0, .ref 30), (1, .int v)]) [1, 0, 2, 3] rfl ?_
        exact ih6 z14 (kw_ui S2 30 x1.toNatClampNeg v) I12 F13 (by omega) (by omega) hF (by omega)
  exact L5 _ 0 σ hI hF0 (by omega) (by omega) hF (Nat.lt_succ_self _)
noncomputable def l_J7_fill_53178_31_5 (a1 : Int32) : Nat → Int32 → kw_S → kw_S
  | 0, _, S => S
  | n + 1, x2, S => if x2.toInt < (40 : Int32).toInt then (kf_l (x2 + Int32.ofInt 1) fun z1 => l_J7_fill_53178_31_5 a1 n z1 (kw_ui S 31 x2.toNatClampNeg a1)) else (S)
theorem l_J7_fill_53178_31_5_s (a1 : Int32) (n : Nat) (x2 : Int32) (S : kw_S) : l_J7_fill_53178_31_5 a1 (n + 1) x2 S = if x2.toInt < (40 : Int32).toInt then (kf_l (x2 + Int32.ofInt 1) fun z1 => l_J7_fill_53178_31_5 a1 n z1 (kw_ui S 31 x2.toNatClampNeg a1)) else (S) := rfl
noncomputable def f_J7_fill_53178_31 (σ : kw_S) (v : Int32) : kw_S := l_J7_fill_53178_31_5 v ((1001 - (0 : Int32).toInt).toNat + 1) (0 : Int32) σ
theorem f_J7_fill_53178_31_u (σ : kw_S) (v : Int32) : f_J7_fill_53178_31 σ v = l_J7_fill_53178_31_5 v ((1001 - (0 : Int32).toInt).toNat + 1) (0 : Int32) σ := rfl
abbrev p_J7_fill_53178_31 (σ : kw_S) (v : Int32) : Option Value → kw_S → Prop := fun vv σ' => (kw_I bX σ' ∧ kw_F [31] σ σ') ∧ vv = none ∧ σ' = f_J7_fill_53178_31 σ v
set_option maxRecDepth 100000 in
set_option maxHeartbeats 4000000 in
theorem c_J7_fill_53178_31 (l : Launch) (σ : kw_S) (hI : kw_I bX σ) (v : Int32) : kw_Met l 1 KX mJ7_fill_53178 [.ref 31, .int v] σ (p_J7_fill_53178_31 σ v) := by
  have r_v := kw_rng v
  have hF0 : kw_F [31] σ σ := kw_F.rf
  have hF := (f_J7_fill_53178_31_u σ v).symm
  have q_0 : (0 : Int32).toInt = 0 := rfl
  have q_40 : (40 : Int32).toInt = 40 := rfl
  refine kw_Met.of (by decide) rfl tJ7_fill_53178 (Nat.le_of_ble_eq_true rfl) ?_
  show kw_AW l 1 kw_E0 KX mJ7_fill_53178 (p_J7_fill_53178_31 σ v) 0 [(0, .ref 31), (1, .int v)] [] σ
  refine kw_iconst (pc := 0) (i := 0) (v := 0) rfl rfl ?_
  refine kw_istore_n (pc := 1) (i := 1) (n := 2) (lv' := [(2, .int 0), (0, .ref 31), (1, .int v)]) rfl rfl (by decide) rfl ?_
  refine kw_aload_n (pc := 2) (i := 2) (k := 1) (n := 0) rfl rfl rfl ?_
  refine kw_alen (pc := 3) (i := 3) (n := 40) (v := 40) rfl rfl rfl ?_
  refine kw_istore_n (pc := 4) (i := 4) (n := 3) (lv' := [(3, .int 40), (2, .int 0), (0, .ref 31), (1, .int v)]) rfl rfl (by decide) rfl ?_
  have L5 : ∀ (n10 : Nat) (x1 : Int32) (S2 : kw_S), kw_I bX S2 → kw_F [31] σ S2 → 0 ≤ x1.toInt → (40 : Int32).toInt ≤ 1000 → l_J7_fill_53178_31_5 v n10 x1 S2 = (f_J7_fill_53178_31 σ v) → (1001 - x1.toInt).toNat < n10 → kw_AW l 1 kw_E0 KX mJ7_fill_53178 (p_J7_fill_53178_31 σ v) 5 [(3, .int 40), (2, .int x1), (0, .ref 31), (1, .int v)] [] S2 := by
    intro n10
    induction n10 with
    | zero => intro x1 S2 I3 F4 v7 v8 hF m9; exact absurd m9 (Nat.not_lt_zero _)
    | succ n10 ih6 =>
      intro x1 S2 I3 F4 v7 v8 hF m9
      replace hF := kf_st (l_J7_fill_53178_31_5_s _ _ _ _) hF
      have r_x1 := kw_rng x1
      refine kw_iload_n (pc := 5) (i := 5) (k := 1) (n := 2) rfl rfl rfl ?_
      refine kw_iload_n (pc := 6) (i := 6) (k := 0) (n := 3) rfl rfl rfl ?_
      refine kw_icmp_ge (pc := 7) (i := 7) (tgt := 20) rfl rfl (fun c11 => ?_) (fun c11 => ?_)
      · replace hF := kf_nl c11 hF
        exact kw_return (pc := 20) (i := 14) rfl rfl ⟨⟨I3, F4⟩, rfl, hF⟩
      · replace hF := kf_p c11 hF
        refine kw_aload_n (pc := 10) (i := 8) (k := 2) (n := 0) rfl rfl rfl ?_
        refine kw_iload_n (pc := 11) (i := 9) (k := 1) (n := 2) rfl rfl rfl ?_
        refine kw_iload_n (pc := 12) (i := 10) (k := 3) (n := 1) rfl rfl rfl ?_
        refine kw_iast (pc := 13) (i := 11) (n := 40) rfl rfl (by omega) (by omega) ?_
        have I12 : kw_I bX (kw_ui S2 31 x1.toNatClampNeg v) := kw_I_ui I3 (kw_rng v).1 (Int.le_of_lt_add_one (kw_rng v).2)
        have F13 : kw_F [31] σ (kw_ui S2 31 x1.toNatClampNeg v) := kw_F_ui F4 (by decide)
        refine kw_iinc' (pc := 14) (i := 12) (k := 1) (fun z => [(2, .int z), (3, .int 40), (0, .ref 31), (1, .int v)]) rfl rfl (by decide) rfl (fun _ => rfl) (fun z14 e_z14 t_z14 => ?_)
        replace hF := kf_le e_z14 hF
        refine kw_goto (pc := 17) (i := 13) (tgt := 5) rfl rfl ?_
        refine kw_sub (lv' := [(3, .int 40), (2, .int z14), (0, .ref 31), (1, .int v)]) [1, 0, 2, 3] rfl ?_
        exact ih6 z14 (kw_ui S2 31 x1.toNatClampNeg v) I12 F13 (by omega) (by omega) hF (by omega)
  exact L5 _ 0 σ hI hF0 (by omega) (by omega) hF (Nat.lt_succ_self _)
noncomputable def l_J7_fill_53178_32_5 (a1 : Int32) : Nat → Int32 → kw_S → kw_S
  | 0, _, S => S
  | n + 1, x2, S => if x2.toInt < (40 : Int32).toInt then (kf_l (x2 + Int32.ofInt 1) fun z1 => l_J7_fill_53178_32_5 a1 n z1 (kw_ui S 32 x2.toNatClampNeg a1)) else (S)
theorem l_J7_fill_53178_32_5_s (a1 : Int32) (n : Nat) (x2 : Int32) (S : kw_S) : l_J7_fill_53178_32_5 a1 (n + 1) x2 S = if x2.toInt < (40 : Int32).toInt then (kf_l (x2 + Int32.ofInt 1) fun z1 => l_J7_fill_53178_32_5 a1 n z1 (kw_ui S 32 x2.toNatClampNeg a1)) else (S) := rfl
noncomputable def f_J7_fill_53178_32 (σ : kw_S) (v : Int32) : kw_S := l_J7_fill_53178_32_5 v ((1001 - (0 : Int32).toInt).toNat + 1) (0 : Int32) σ
theorem f_J7_fill_53178_32_u (σ : kw_S) (v : Int32) : f_J7_fill_53178_32 σ v = l_J7_fill_53178_32_5 v ((1001 - (0 : Int32).toInt).toNat + 1) (0 : Int32) σ := rfl
abbrev p_J7_fill_53178_32 (σ : kw_S) (v : Int32) : Option Value → kw_S → Prop := fun vv σ' => (kw_I bX σ' ∧ kw_F [32] σ σ') ∧ vv = none ∧ σ' = f_J7_fill_53178_32 σ v
set_option maxRecDepth 100000 in
set_option maxHeartbeats 4000000 in
theorem c_J7_fill_53178_32 (l : Launch) (σ : kw_S) (hI : kw_I bX σ) (v : Int32) : kw_Met l 1 KX mJ7_fill_53178 [.ref 32, .int v] σ (p_J7_fill_53178_32 σ v) := by
  have r_v := kw_rng v
  have hF0 : kw_F [32] σ σ := kw_F.rf
  have hF := (f_J7_fill_53178_32_u σ v).symm
  have q_0 : (0 : Int32).toInt = 0 := rfl
  have q_40 : (40 : Int32).toInt = 40 := rfl
  refine kw_Met.of (by decide) rfl tJ7_fill_53178 (Nat.le_of_ble_eq_true rfl) ?_
  show kw_AW l 1 kw_E0 KX mJ7_fill_53178 (p_J7_fill_53178_32 σ v) 0 [(0, .ref 32), (1, .int v)] [] σ
  refine kw_iconst (pc := 0) (i := 0) (v := 0) rfl rfl ?_
  refine kw_istore_n (pc := 1) (i := 1) (n := 2) (lv' := [(2, .int 0), (0, .ref 32), (1, .int v)]) rfl rfl (by decide) rfl ?_
  refine kw_aload_n (pc := 2) (i := 2) (k := 1) (n := 0) rfl rfl rfl ?_
  refine kw_alen (pc := 3) (i := 3) (n := 40) (v := 40) rfl rfl rfl ?_
  refine kw_istore_n (pc := 4) (i := 4) (n := 3) (lv' := [(3, .int 40), (2, .int 0), (0, .ref 32), (1, .int v)]) rfl rfl (by decide) rfl ?_
  have L5 : ∀ (n10 : Nat) (x1 : Int32) (S2 : kw_S), kw_I bX S2 → kw_F [32] σ S2 → 0 ≤ x1.toInt → (40 : Int32).toInt ≤ 1000 → l_J7_fill_53178_32_5 v n10 x1 S2 = (f_J7_fill_53178_32 σ v) → (1001 - x1.toInt).toNat < n10 → kw_AW l 1 kw_E0 KX mJ7_fill_53178 (p_J7_fill_53178_32 σ v) 5 [(3, .int 40), (2, .int x1), (0, .ref 32), (1, .int v)] [] S2 := by
    intro n10
    induction n10 with
    | zero => intro x1 S2 I3 F4 v7 v8 hF m9; exact absurd m9 (Nat.not_lt_zero _)
    | succ n10 ih6 =>
      intro x1 S2 I3 F4 v7 v8 hF m9
      replace hF := kf_st (l_J7_fill_53178_32_5_s _ _ _ _) hF
      have r_x1 := kw_rng x1
      refine kw_iload_n (pc := 5) (i := 5) (k := 1) (n := 2) rfl rfl rfl ?_
      refine kw_iload_n (pc := 6) (i := 6) (k := 0) (n := 3) rfl rfl rfl ?_
      refine kw_icmp_ge (pc := 7) (i := 7) (tgt := 20) rfl rfl (fun c11 => ?_) (fun c11 => ?_)
      · replace hF := kf_nl c11 hF
        exact kw_return (pc := 20) (i := 14) rfl rfl ⟨⟨I3, F4⟩, rfl, hF⟩
      · replace hF := kf_p c11 hF
        refine kw_aload_n (pc := 10) (i := 8) (k := 2) (n := 0) rfl rfl rfl ?_
        refine kw_iload_n (pc := 11) (i := 9) (k := 1) (n := 2) rfl rfl rfl ?_
        refine kw_iload_n (pc := 12) (i := 10) (k := 3) (n := 1) rfl rfl rfl ?_
        refine kw_iast (pc := 13) (i := 11) (n := 40) rfl rfl (by omega) (by omega) ?_
        have I12 : kw_I bX (kw_ui S2 32 x1.toNatClampNeg v) := kw_I_ui I3 (kw_rng v).1 (Int.le_of_lt_add_one (kw_rng v).2)
        have F13 : kw_F [32] σ (kw_ui S2 32 x1.toNatClampNeg v) := kw_F_ui F4 (by decide)
        refine kw_iinc' (pc := 14) (i := 12) (k := 1) (fun z => [(2, .int z), (3, .int 40), (0, .ref 32), (1, .int v)]) rfl rfl (by decide) rfl (fun _ => rfl) (fun z14 e_z14 t_z14 => ?_)
        replace hF := kf_le e_z14 hF
        refine kw_goto (pc := 17) (i := 13) (tgt := 5) rfl rfl ?_
        refine kw_sub (lv' := [(3, .int 40), (2, .int z14), (0, .ref 32), (1, .int v)]) [1, 0, 2, 3] rfl ?_
        exact ih6 z14 (kw_ui S2 32 x1.toNatClampNeg v) I12 F13 (by omega) (by omega) hF (by omega)
  exact L5 _ 0 σ hI hF0 (by omega) (by omega) hF (Nat.lt_succ_self _)
noncomputable def l_J7_fill_53178_33_5 (a1 : Int32) : Nat → Int32 → kw_S → kw_S
  | 0, _, S => S
  | n + 1, x2, S => if x2.toInt < (40 : Int32).toInt then (kf_l (x2 + Int32.ofInt 1) fun z1 => l_J7_fill_53178_33_5 a1 n z1 (kw_ui S 33 x2.toNatClampNeg a1)) else (S)
theorem l_J7_fill_53178_33_5_s (a1 : Int32) (n : Nat) (x2 : Int32) (S : kw_S) : l_J7_fill_53178_33_5 a1 (n + 1) x2 S = if x2.toInt < (40 : Int32).toInt then (kf_l (x2 + Int32.ofInt 1) fun z1 => l_J7_fill_53178_33_5 a1 n z1 (kw_ui S 33 x2.toNatClampNeg a1)) else (S) := rfl
noncomputable def f_J7_fill_53178_33 (σ : kw_S) (v : Int32) : kw_S := l_J7_fill_53178_33_5 v ((1001 - (0 : Int32).toInt).toNat + 1) (0 : Int32) σ
theorem f_J7_fill_53178_33_u (σ : kw_S) (v : Int32) : f_J7_fill_53178_33 σ v = l_J7_fill_53178_33_5 v ((1001 - (0 : Int32).toInt).toNat + 1) (0 : Int32) σ := rfl
abbrev p_J7_fill_53178_33 (σ : kw_S) (v : Int32) : Option Value → kw_S → Prop := fun vv σ' => (kw_I bX σ' ∧ kw_F [33] σ σ') ∧ vv = none ∧ σ' = f_J7_fill_53178_33 σ v
set_option maxRecDepth 100000 in
set_option maxHeartbeats 4000000 in
theorem c_J7_fill_53178_33 (l : Launch) (σ : kw_S) (hI : kw_I bX σ) (v : Int32) : kw_Met l 1 KX mJ7_fill_53178 [.ref 33, .int v] σ (p_J7_fill_53178_33 σ v) := by
  have r_v := kw_rng v
  have hF0 : kw_F [33] σ σ := kw_F.rf
  have hF := (f_J7_fill_53178_33_u σ v).symm
  have q_0 : (0 : Int32).toInt = 0 := rfl
  have q_40 : (40 : Int32).toInt = 40 := rfl
  refine kw_Met.of (by decide) rfl tJ7_fill_53178 (Nat.le_of_ble_eq_true rfl) ?_
  show kw_AW l 1 kw_E0 KX mJ7_fill_53178 (p_J7_fill_53178_33 σ v) 0 [(0, .ref 33), (1, .int v)] [] σ
  refine kw_iconst (pc := 0) (i := 0) (v := 0) rfl rfl ?_
  refine kw_istore_n (pc := 1) (i := 1) (n := 2) (lv' := [(2, .int 0), (0, .ref 33), (1, .int v)]) rfl rfl (by decide) rfl ?_
  refine kw_aload_n (pc := 2) (i := 2) (k := 1) (n := 0) rfl rfl rfl ?_
  refine kw_alen (pc := 3) (i := 3) (n := 40) (v := 40) rfl rfl rfl ?_
  refine kw_istore_n (pc := 4) (i := 4) (n := 3) (lv' := [(3, .int 40), (2, .int 0), (0, .ref 33), (1, .int v)]) rfl rfl (by decide) rfl ?_
  have L5 : ∀ (n10 : Nat) (x1 : Int32) (S2 : kw_S), kw_I bX S2 → kw_F [33] σ S2 → 0 ≤ x1.toInt → (40 : Int32).toInt ≤ 1000 → l_J7_fill_53178_33_5 v n10 x1 S2 = (f_J7_fill_53178_33 σ v) → (1001 - x1.toInt).toNat < n10 → kw_AW l 1 kw_E0 KX mJ7_fill_53178 (p_J7_fill_53178_33 σ v) 5 [(3, .int 40), (2, .int x1), (0, .ref 33), (1, .int v)] [] S2 := by
    intro n10
    induction n10 with
    | zero => intro x1 S2 I3 F4 v7 v8 hF m9; exact absurd m9 (Nat.not_lt_zero _)
    | succ n10 ih6 =>
      intro x1 S2 I3 F4 v7 v8 hF m9
      replace hF := kf_st (l_J7_fill_53178_33_5_s _ _ _ _) hF
      have r_x1 := kw_rng x1
      refine kw_iload_n (pc := 5) (i := 5) (k := 1) (n := 2) rfl rfl rfl ?_
      refine kw_iload_n (pc := 6) (i := 6) (k := 0) (n := 3) rfl rfl rfl ?_
      refine kw_icmp_ge (pc := 7) (i := 7) (tgt := 20) rfl rfl (fun c11 => ?_) (fun c11 => ?_)
      · replace hF := kf_nl c11 hF
        exact kw_return (pc := 20) (i := 14) rfl rfl ⟨⟨I3, F4⟩, rfl, hF⟩
      · replace hF := kf_p c11 hF
        refine kw_aload_n (pc := 10) (i := 8) (k := 2) (n := 0) rfl rfl rfl ?_
        refine kw_iload_n (pc := 11) (i := 9) (k := 1) (n := 2) rfl rfl rfl ?_
        refine kw_iload_n (pc := 12) (i := 10) (k := 3) (n := 1) rfl rfl rfl ?_
        refine kw_iast (pc := 13) (i := 11) (n := 40) rfl rfl (by omega) (by omega) ?_
        have I12 : kw_I bX (kw_ui S2 33 x1.toNatClampNeg v) := kw_I_ui I3 (kw_rng v).1 (Int.le_of_lt_add_one (kw_rng v).2)
        have F13 : kw_F [33] σ (kw_ui S2 33 x1.toNatClampNeg v) := kw_F_ui F4 (by decide)
        refine kw_iinc' (pc := 14) (i := 12) (k := 1) (fun z => [(2, .int z), (3, .int 40), (0, .ref 33), (1, .int v)]) rfl rfl (by decide) rfl (fun _ => rfl) (fun z14 e_z14 t_z14 => ?_)
        replace hF := kf_le e_z14 hF
        refine kw_goto (pc := 17) (i := 13) (tgt := 5) rfl rfl ?_
        refine kw_sub (lv' := [(3, .int 40), (2, .int z14), (0, .ref 33), (1, .int v)]) [1, 0, 2, 3] rfl ?_
        exact ih6 z14 (kw_ui S2 33 x1.toNatClampNeg v) I12 F13 (by omega) (by omega) hF (by omega)
  exact L5 _ 0 σ hI hF0 (by omega) (by omega) hF (Nat.lt_succ_self _)
noncomputable def l_J7_fill_53178_34_5 (a1 : Int32) : Nat → Int32 → kw_S → kw_S
  | 0, _, S => S
  | n + 1, x2, S => if x2.toInt < (40 : Int32).toInt then (kf_l (x2 + Int32.ofInt 1) fun z1 => l_J7_fill_53178_34_5 a1 n z1 (kw_ui S 34 x2.toNatClampNeg a1)) else (S)
theorem l_J7_fill_53178_34_5_s (a1 : Int32) (n : Nat) (x2 : Int32) (S : kw_S) : l_J7_fill_53178_34_5 a1 (n + 1) x2 S = if x2.toInt < (40 : Int32).toInt then (kf_l (x2 + Int32.ofInt 1) fun z1 => l_J7_fill_53178_34_5 a1 n z1 (kw_ui S 34 x2.toNatClampNeg a1)) else (S) := rfl
noncomputable def f_J7_fill_53178_34 (σ : kw_S) (v : Int32) : kw_S := l_J7_fill_53178_34_5 v ((1001 - (0 : Int32).toInt).toNat + 1) (0 : Int32) σ
theorem f_J7_fill_53178_34_u (σ : kw_S) (v : Int32) : f_J7_fill_53178_34 σ v = l_J7_fill_53178_34_5 v ((1001 - (0 : Int32).toInt).toNat + 1) (0 : Int32) σ := rfl
abbrev p_J7_fill_53178_34 (σ : kw_S) (v : Int32) : Option Value → kw_S → Prop := fun vv σ' => (kw_I bX σ' ∧ kw_F [34] σ σ') ∧ vv = none ∧ σ' = f_J7_fill_53178_34 σ v
set_option maxRecDepth 100000 in
set_option maxHeartbeats 4000000 in
theorem c_J7_fill_53178_34 (l : Launch) (σ : kw_S) (hI : kw_I bX σ) (v : Int32) : kw_Met l 1 KX mJ7_fill_53178 [.ref 34, .int v] σ (p_J7_fill_53178_34 σ v) := by
  have r_v := kw_rng v
  have hF0 : kw_F [34] σ σ := kw_F.rf
  have hF := (f_J7_fill_53178_34_u σ v).symm
  have q_0 : (0 : Int32).toInt = 0 := rfl
  have q_40 : (40 : Int32).toInt = 40 := rfl
  refine kw_Met.of (by decide) rfl tJ7_fill_53178 (Nat.le_of_ble_eq_true rfl) ?_
  show kw_AW l 1 kw_E0 KX mJ7_fill_53178 (p_J7_fill_53178_34 σ v) 0 [(0, .ref 34), (1, .int v)] [] σ
  refine kw_iconst (pc := 0) (i := 0) (v := 0) rfl rfl ?_
  refine kw_istore_n (pc := 1) (i := 1) (n := 2) (lv' := [(2, .int 0), (0, .ref 34), (1, .int v)]) rfl rfl (by decide) rfl ?_
  refine kw_aload_n (pc := 2) (i := 2) (k := 1) (n := 0) rfl rfl rfl ?_
  refine kw_alen (pc := 3) (i := 3) (n := 40) (v := 40) rfl rfl rfl ?_
  refine kw_istore_n (pc := 4) (i := 4) (n := 3) (lv' := [(3, .int 40), (2, .int 0), (0, .ref 34), (1, .int v)]) rfl rfl (by decide) rfl ?_
  have L5 : ∀ (n10 : Nat) (x1 : Int32) (S2 : kw_S), kw_I bX S2 → kw_F [34] σ S2 → 0 ≤ x1.toInt → (40 : Int32).toInt ≤ 1000 → l_J7_fill_53178_34_5 v n10 x1 S2 = (f_J7_fill_53178_34 σ v) → (1001 - x1.toInt).toNat < n10 → kw_AW l 1 kw_E0 KX mJ7_fill_53178 (p_J7_fill_53178_34 σ v) 5 [(3, .int 40), (2, .int x1), (0, .ref 34), (1, .int v)] [] S2 := by
    intro n10
    induction n10 with
    | zero => intro x1 S2 I3 F4 v7 v8 hF m9; exact absurd m9 (Nat.not_lt_zero _)
    | succ n10 ih6 =>
      intro x1 S2 I3 F4 v7 v8 hF m9
      replace hF := kf_st (l_J7_fill_53178_34_5_s _ _ _ _) hF
      have r_x1 := kw_rng x1
      refine kw_iload_n (pc := 5) (i := 5) (k := 1) (n := 2) rfl rfl rfl ?_
      refine kw_iload_n (pc := 6) (i := 6) (k := 0) (n := 3) rfl rfl rfl ?_
      refine kw_icmp_ge (pc := 7) (i := 7) (tgt := 20) rfl rfl (fun c11 => ?_) (fun c11 => ?_)
      · replace hF := kf_nl c11 hF
        exact kw_return (pc := 20) (i := 14) rfl rfl ⟨⟨I3, F4⟩, rfl, hF⟩
      · replace hF := kf_p c11 hF
        refine kw_aload_n (pc := 10) (i := 8) (k := 2) (n := 0) rfl rfl rfl ?_
        refine kw_iload_n (pc := 11) (i := 9) (k := 1) (n := 2) rfl rfl rfl ?_
        refine kw_iload_n (pc := 12) (i := 10) (k := 3) (n := 1) rfl rfl rfl ?_
        refine kw_iast (pc := 13) (i := 11) (n := 40) rfl rfl (by omega) (by omega) ?_
        have I12 : kw_I bX (kw_ui S2 34 x1.toNatClampNeg v) := kw_I_ui I3 (kw_rng v).1 (Int.le_of_lt_add_one (kw_rng v).2)
        have F13 : kw_F [34] σ (kw_ui S2 34 x1.toNatClampNeg v) := kw_F_ui F4 (by decide)
        refine kw_iinc' (pc := 14) (i := 12) (k := 1) (fun z => [(2, .int z), (3, .int 40), (0, .ref 34), (1, .int v)]) rfl rfl (by decide) rfl (fun _ => rfl) (fun z14 e_z14 t_z14 => ?_)
        replace hF := kf_le e_z14 hF
        refine kw_goto (pc := 17) (i := 13) (tgt := 5) rfl rfl ?_
        refine kw_sub (lv' := [(3, .int 40), (2, .int z14), (0, .ref 34), (1, .int v)]) [1, 0, 2, 3] rfl ?_
        exact ih6 z14 (kw_ui S2 34 x1.toNatClampNeg v) I12 F13 (by omega) (by omega) hF (by omega)
  exact L5 _ 0 σ hI hF0 (by omega) (by omega) hF (Nat.lt_succ_self _)
noncomputable def l_J7_fill_53178_35_5 (a1 : Int32) : Nat → Int32 → kw_S → kw_S
  | 0, _, S => S
  | n + 1, x2, S => if x2.toInt < (60 : Int32).toInt then (kf_l (x2 + Int32.ofInt 1) fun z1 => l_J7_fill_53178_35_5 a1 n z1 (kw_ui S 35 x2.toNatClampNeg a1)) else (S)
theorem l_J7_fill_53178_35_5_s (a1 : Int32) (n : Nat) (x2 : Int32) (S : kw_S) : l_J7_fill_53178_35_5 a1 (n + 1) x2 S = if x2.toInt < (60 : Int32).toInt then (kf_l (x2 + Int32.ofInt 1) fun z1 => l_J7_fill_53178_35_5 a1 n z1 (kw_ui S 35 x2.toNatClampNeg a1)) else (S) := rfl
noncomputable def f_J7_fill_53178_35 (σ : kw_S) (v : Int32) : kw_S := l_J7_fill_53178_35_5 v ((1001 - (0 : Int32).toInt).toNat + 1) (0 : Int32) σ
theorem f_J7_fill_53178_35_u (σ : kw_S) (v : Int32) : f_J7_fill_53178_35 σ v = l_J7_fill_53178_35_5 v ((1001 - (0 : Int32).toInt).toNat + 1) (0 : Int32) σ := rfl
abbrev p_J7_fill_53178_35 (σ : kw_S) (v : Int32) : Option Value → kw_S → Prop := fun vv σ' => (kw_I bX σ' ∧ kw_F [35] σ σ') ∧ vv = none ∧ σ' = f_J7_fill_53178_35 σ v
set_option maxRecDepth 100000 in
set_option maxHeartbeats 4000000 in
theorem c_J7_fill_53178_35 (l : Launch) (σ : kw_S) (hI : kw_I bX σ) (v : Int32) : kw_Met l 1 KX mJ7_fill_53178 [.ref 35, .int v] σ (p_J7_fill_53178_35 σ v) := by
  have r_v := kw_rng v
  have hF0 : kw_F [35] σ σ := kw_F.rf
  have hF := (f_J7_fill_53178_35_u σ v).symm
  have q_0 : (0 : Int32).toInt = 0 := rfl
  have q_60 : (60 : Int32).toInt = 60 := rfl
  refine kw_Met.of (by decide) rfl tJ7_fill_53178 (Nat.le_of_ble_eq_true rfl) ?_
  show kw_AW l 1 kw_E0 KX mJ7_fill_53178 (p_J7_fill_53178_35 σ v) 0 [(0, .ref 35), (1, .int v)] [] σ
  refine kw_iconst (pc := 0) (i := 0) (v := 0) rfl rfl ?_
  refine kw_istore_n (pc := 1) (i := 1) (n := 2) (lv' := [(2, .int 0), (0, .ref 35), (1, .int v)]) rfl rfl (by decide) rfl ?_
  refine kw_aload_n (pc := 2) (i := 2) (k := 1) (n := 0) rfl rfl rfl ?_
  refine kw_alen (pc := 3) (i := 3) (n := 60) (v := 60) rfl rfl rfl ?_
  refine kw_istore_n (pc := 4) (i := 4) (n := 3) (lv' := [(3, .int 60), (2, .int 0), (0, .ref 35), (1, .int v)]) rfl rfl (by decide) rfl ?_
  have L5 : ∀ (n10 : Nat) (x1 : Int32) (S2 : kw_S), kw_I bX S2 → kw_F [35] σ S2 → 0 ≤ x1.toInt → (60 : Int32).toInt ≤ 1000 → l_J7_fill_53178_35_5 v n10 x1 S2 = (f_J7_fill_53178_35 σ v) → (1001 - x1.toInt).toNat < n10 → kw_AW l 1 kw_E0 KX mJ7_fill_53178 (p_J7_fill_53178_35 σ v) 5 [(3, .int 60), (2, .int x1), (0, .ref 35), (1, .int v)] [] S2 := by
    intro n10
    induction n10 with
    | zero => intro x1 S2 I3 F4 v7 v8 hF m9; exact absurd m9 (Nat.not_lt_zero _)
    | succ n10 ih6 =>
      intro x1 S2 I3 F4 v7 v8 hF m9
      replace hF := kf_st (l_J7_fill_53178_35_5_s _ _ _ _) hF
      have r_x1 := kw_rng x1
      refine kw_iload_n (pc := 5) (i := 5) (k := 1) (n := 2) rfl rfl rfl ?_
      refine kw_iload_n (pc := 6) (i := 6) (k := 0) (n := 3) rfl rfl rfl ?_
      refine kw_icmp_ge (pc := 7) (i := 7) (tgt := 20) rfl rfl (fun c11 => ?_) (fun c11 => ?_)
      · replace hF := kf_nl c11 hF
        exact kw_return (pc := 20) (i := 14) rfl rfl ⟨⟨I3, F4⟩, rfl, hF⟩
      · replace hF := kf_p c11 hF
        refine kw_aload_n (pc := 10) (i := 8) (k := 2) (n := 0) rfl rfl rfl ?_
        refine kw_iload_n (pc := 11) (i := 9) (k := 1) (n := 2) rfl rfl rfl ?_
        refine kw_iload_n (pc := 12) (i := 10) (k := 3) (n := 1) rfl rfl rfl ?_
        refine kw_iast (pc := 13) (i := 11) (n := 60) rfl rfl (by omega) (by omega) ?_
        have I12 : kw_I bX (kw_ui S2 35 x1.toNatClampNeg v) := kw_I_ui I3 (kw_rng v).1 (Int.le_of_lt_add_one (kw_rng v).2)
        have F13 : kw_F [35] σ (kw_ui S2 35 x1.toNatClampNeg v) := kw_F_ui F4 (by decide)
        refine kw_iinc' (pc := 14) (i := 12) (k := 1) (fun z => [(2, .int z), (3, .int 60), (0, .ref 35), (1, .int v)]) rfl rfl (by decide) rfl (fun _ => rfl) (fun z14 e_z14 t_z14 => ?_)
        replace hF := kf_le e_z14 hF
        refine kw_goto (pc := 17) (i := 13) (tgt := 5) rfl rfl ?_
        refine kw_sub (lv' := [(3, .int 60), (2, .int z14), (0, .ref 35), (1, .int v)]) [1, 0, 2, 3] rfl ?_
        exact ih6 z14 (kw_ui S2 35 x1.toNatClampNeg v) I12 F13 (by omega) (by omega) hF (by omega)
  exact L5 _ 0 σ hI hF0 (by omega) (by omega) hF (Nat.lt_succ_self _)
noncomputable def l_J7_fill_53178_36_5 (a1 : Int32) : Nat → Int32 → kw_S → kw_S
  | 0, _, S => S
  | n + 1, x2, S => if x2.toInt < (60 : Int32).toInt then (kf_l (x2 + Int32.ofInt 1) fun z1 => l_J7_fill_53178_36_5 a1 n z1 (kw_ui S 36 x2.toNatClampNeg a1)) else (S)
theorem l_J7_fill_53178_36_5_s (a1 : Int32) (n : Nat) (x2 : Int32) (S : kw_S) : l_J7_fill_53178_36_5 a1 (n + 1) x2 S = if x2.toInt < (60 : Int32).toInt then (kf_l (x2 + Int32.ofInt 1) fun z1 => l_J7_fill_53178_36_5 a1 n z1 (kw_ui S 36 x2.toNatClampNeg a1)) else (S) := rfl
noncomputable def f_J7_fill_53178_36 (σ : kw_S) (v : Int32) : kw_S := l_J7_fill_53178_36_5 v ((1001 - (0 : Int32).toInt).toNat + 1) (0 : Int32) σ
theorem f_J7_fill_53178_36_u (σ : kw_S) (v : Int32) : f_J7_fill_53178_36 σ v = l_J7_fill_53178_36_5 v ((1001 - (0 : Int32).toInt).toNat + 1) (0 : Int32) σ := rfl
abbrev p_J7_fill_53178_36 (σ : kw_S) (v : Int32) : Option Value → kw_S → Prop := fun vv σ' => (kw_I bX σ' ∧ kw_F [36] σ σ') ∧ vv = none ∧ σ' = f_J7_fill_53178_36 σ v
set_option maxRecDepth 100000 in
set_option maxHeartbeats 4000000 in
theorem c_J7_fill_53178_36 (l : Launch) (σ : kw_S) (hI : kw_I bX σ) (v : Int32) : kw_Met l 1 KX mJ7_fill_53178 [.ref 36, .int v] σ (p_J7_fill_53178_36 σ v) := by
  have r_v := kw_rng v
  have hF0 : kw_F [36] σ σ := kw_F.rf
  have hF := (f_J7_fill_53178_36_u σ v).symm
  have q_0 : (0 : Int32).toInt = 0 := rfl
  have q_60 : (60 : Int32).toInt = 60 := rfl
  refine kw_Met.of (by decide) rfl tJ7_fill_53178 (Nat.le_of_ble_eq_true rfl) ?_
  show kw_AW l 1 kw_E0 KX mJ7_fill_53178 (p_J7_fill_53178_36 σ v) 0 [(0, .ref 36), (1, .int v)] [] σ
  refine kw_iconst (pc := 0) (i := 0) (v := 0) rfl rfl ?_
  refine kw_istore_n (pc := 1) (i := 1) (n := 2) (lv' := [(2, .int 0), (0, .ref 36), (1, .int v)]) rfl rfl (by decide) rfl ?_
  refine kw_aload_n (pc := 2) (i := 2) (k := 1) (n := 0) rfl rfl rfl ?_
  refine kw_alen (pc := 3) (i := 3) (n := 60) (v := 60) rfl rfl rfl ?_
  refine kw_istore_n (pc := 4) (i := 4) (n := 3) (lv' := [(3, .int 60), (2, .int 0), (0, .ref 36), (1, .int v)]) rfl rfl (by decide) rfl ?_
  have L5 : ∀ (n10 : Nat) (x1 : Int32) (S2 : kw_S), kw_I bX S2 → kw_F [36] σ S2 → 0 ≤ x1.toInt → (60 : Int32).toInt ≤ 1000 → l_J7_fill_53178_36_5 v n10 x1 S2 = (f_J7_fill_53178_36 σ v) → (1001 - x1.toInt).toNat < n10 → kw_AW l 1 kw_E0 KX mJ7_fill_53178 (p_J7_fill_53178_36 σ v) 5 [(3, .int 60), (2, .int x1), (0, .ref 36), (1, .int v)] [] S2 := by
    intro n10
    induction n10 with
    | zero => intro x1 S2 I3 F4 v7 v8 hF m9; exact absurd m9 (Nat.not_lt_zero _)
    | succ n10 ih6 =>
      intro x1 S2 I3 F4 v7 v8 hF m9
      replace hF := kf_st (l_J7_fill_53178_36_5_s _ _ _ _) hF
      have r_x1 := kw_rng x1
      refine kw_iload_n (pc := 5) (i := 5) (k := 1) (n := 2) rfl rfl rfl ?_
      refine kw_iload_n (pc := 6) (i := 6) (k := 0) (n := 3) rfl rfl rfl ?_
      refine kw_icmp_ge (pc := 7) (i := 7) (tgt := 20) rfl rfl (fun c11 => ?_) (fun c11 => ?_)
      · replace hF := kf_nl c11 hF
        exact kw_return (pc := 20) (i := 14) rfl rfl ⟨⟨I3, F4⟩, rfl, hF⟩
      · replace hF := kf_p c11 hF
        refine kw_aload_n (pc := 10) (i := 8) (k := 2) (n := 0) rfl rfl rfl ?_
        refine kw_iload_n (pc := 11) (i := 9) (k := 1) (n := 2) rfl rfl rfl ?_
        refine kw_iload_n (pc := 12) (i := 10) (k := 3) (n := 1) rfl rfl rfl ?_
        refine kw_iast (pc := 13) (i := 11) (n := 60) rfl rfl (by omega) (by omega) ?_
        have I12 : kw_I bX (kw_ui S2 36 x1.toNatClampNeg v) := kw_I_ui I3 (kw_rng v).1 (Int.le_of_lt_add_one (kw_rng v).2)
        have F13 : kw_F [36] σ (kw_ui S2 36 x1.toNatClampNeg v) := kw_F_ui F4 (by decide)
        refine kw_iinc' (pc := 14) (i := 12) (k := 1) (fun z => [(2, .int z), (3, .int 60), (0, .ref 36), (1, .int v)]) rfl rfl (by decide) rfl (fun _ => rfl) (fun z14 e_z14 t_z14 => ?_)
        replace hF := kf_le e_z14 hF
        refine kw_goto (pc := 17) (i := 13) (tgt := 5) rfl rfl ?_
        refine kw_sub (lv' := [(3, .int 60), (2, .int z14), (0, .ref 36), (1, .int v)]) [1, 0, 2, 3] rfl ?_
        exact ih6 z14 (kw_ui S2 36 x1.toNatClampNeg v) I12 F13 (by omega) (by omega) hF (by omega)
  exact L5 _ 0 σ hI hF0 (by omega) (by omega) hF (Nat.lt_succ_self _)
noncomputable def l_J7_fill_53178_37_5 (a1 : Int32) : Nat → Int32 → kw_S → kw_S
  | 0, _, S => S
  | n + 1, x2, S => if x2.toInt < (60 : Int32).toInt then (kf_l (x2 + Int32.ofInt 1) fun z1 => l_J7_fill_53178_37_5 a1 n z1 (kw_ui S 37 x2.toNatClampNeg a1)) else (S)
theorem l_J7_fill_53178_37_5_s (a1 : Int32) (n : Nat) (x2 : Int32) (S : kw_S) : l_J7_fill_53178_37_5 a1 (n + 1) x2 S = if x2.toInt < (60 : Int32).toInt then (kf_l (x2 + Int32.ofInt 1) fun z1 => l_J7_fill_53178_37_5 a1 n z1 (kw_ui S 37 x2.toNatClampNeg a1)) else (S) := rfl
noncomputable def f_J7_fill_53178_37 (σ : kw_S) (v : Int32) : kw_S := l_J7_fill_53178_37_5 v ((1001 - (0 : Int32).toInt).toNat + 1) (0 : Int32) σ
theorem f_J7_fill_53178_37_u (σ : kw_S) (v : Int32) : f_J7_fill_53178_37 σ v = l_J7_fill_53178_37_5 v ((1001 - (0 : Int32).toInt).toNat + 1) (0 : Int32) σ := rfl
abbrev p_J7_fill_53178_37 (σ : kw_S) (v : Int32) : Option Value → kw_S → Prop := fun vv σ' => (kw_I bX σ' ∧ kw_F [37] σ σ') ∧ vv = none ∧ σ' = f_J7_fill_53178_37 σ v
set_option maxRecDepth 100000 in
set_option maxHeartbeats 4000000 in
theorem c_J7_fill_53178_37 (l : Launch) (σ : kw_S) (hI : kw_I bX σ) (v : Int32) : kw_Met l 1 KX mJ7_fill_53178 [.ref 37, .int v] σ (p_J7_fill_53178_37 σ v) := by
  have r_v := kw_rng v
  have hF0 : kw_F [37] σ σ := kw_F.rf
  have hF := (f_J7_fill_53178_37_u σ v).symm
  have q_0 : (0 : Int32).toInt = 0 := rfl
  have q_60 : (60 : Int32).toInt = 60 := rfl
  refine kw_Met.of (by decide) rfl tJ7_fill_53178 (Nat.le_of_ble_eq_true rfl) ?_
  show kw_AW l 1 kw_E0 KX mJ7_fill_53178 (p_J7_fill_53178_37 σ v) 0 [(0, .ref 37), (1, .int v)] [] σ
  refine kw_iconst (pc := 0) (i := 0) (v := 0) rfl rfl ?_
  refine kw_istore_n (pc := 1) (i := 1) (n := 2) (lv' := [(2, .int 0), (0, .ref 37), (1, .int v)]) rfl rfl (by decide) rfl ?_
  refine kw_aload_n (pc := 2) (i := 2) (k := 1) (n := 0) rfl rfl rfl ?_
  refine kw_alen (pc := 3) (i := 3) (n := 60) (v := 60) rfl rfl rfl ?_
  refine kw_istore_n (pc := 4) (i := 4) (n := 3) (lv' := [(3, .int 60), (2, .int 0), (0, .ref 37), (1, .int v)]) rfl rfl (by decide) rfl ?_
  have L5 : ∀ (n10 : Nat) (x1 : Int32) (S2 : kw_S), kw_I bX S2 → kw_F [37] σ S2 → 0 ≤ x1.toInt → (60 : Int32).toInt ≤ 1000 → l_J7_fill_53178_37_5 v n10 x1 S2 = (f_J7_fill_53178_37 σ v) → (1001 - x1.toInt).toNat < n10 → kw_AW l 1 kw_E0 KX mJ7_fill_53178 (p_J7_fill_53178_37 σ v) 5 [(3, .int 60), (2, .int x1), (0, .ref 37), (1, .int v)] [] S2 := by
    intro n10
    induction n10 with
    | zero => intro x1 S2 I3 F4 v7 v8 hF m9; exact absurd m9 (Nat.not_lt_zero _)
    | succ n10 ih6 =>
      intro x1 S2 I3 F4 v7 v8 hF m9
      replace hF := kf_st (l_J7_fill_53178_37_5_s _ _ _ _) hF
      have r_x1 := kw_rng x1
      refine kw_iload_n (pc := 5) (i := 5) (k := 1) (n := 2) rfl rfl rfl ?_
      refine kw_iload_n (pc := 6) (i := 6) (k := 0) (n := 3) rfl rfl rfl ?_
      refine kw_icmp_ge (pc := 7) (i := 7) (tgt := 20) rfl rfl (fun c11 => ?_) (fun c11 => ?_)
      · replace hF := kf_nl c11 hF
        exact kw_return (pc := 20) (i := 14) rfl rfl ⟨⟨I3, F4⟩, rfl, hF⟩
      · replace hF := kf_p c11 hF
        refine kw_aload_n (pc := 10) (i := 8) (k := 2) (n := 0) rfl rfl rfl ?_
        refine kw_iload_n (pc := 11) (i := 9) (k := 1) (n := 2) rfl rfl rfl ?_
        refine kw_iload_n (pc := 12) (i := 10) (k := 3) (n := 1) rfl rfl rfl ?_
        refine kw_iast (pc := 13) (i := 11) (n := 60) rfl rfl (by omega) (by omega) ?_
        have I12 : kw_I bX (kw_ui S2 37 x1.toNatClampNeg v) := kw_I_ui I3 (kw_rng v).1 (Int.le_of_lt_add_one (kw_rng v).2)
        have F13 : kw_F [37] σ (kw_ui S2 37 x1.toNatClampNeg v) := kw_F_ui F4 (by decide)
        refine kw_iinc' (pc := 14) (i := 12) (k := 1) (fun z => [(2, .int z), (3, .int 60), (0, .ref 37), (1, .int v)]) rfl rfl (by decide) rfl (fun _ => rfl) (fun z14 e_z14 t_z14 => ?_)
        replace hF := kf_le e_z14 hF
        refine kw_goto (pc := 17) (i := 13) (tgt := 5) rfl rfl ?_
        refine kw_sub (lv' := [(3, .int 60), (2, .int z14), (0, .ref 37), (1, .int v)]) [1, 0, 2, 3] rfl ?_
        exact ih6 z14 (kw_ui S2 37 x1.toNatClampNeg v) I12 F13 (by omega) (by omega) hF (by omega)
  exact L5 _ 0 σ hI hF0 (by omega) (by omega) hF (Nat.lt_succ_self _)
noncomputable def l_J7_fill_53178_38_5 (a1 : Int32) : Nat → Int32 → kw_S → kw_S
  | 0, _, S => S
  | n + 1, x2, S => if x2.toInt < (60 : Int32).toInt then (kf_l (x2 + Int32.ofInt 1) fun z1 => l_J7_fill_53178_38_5 a1 n z1 (kw_ui S 38 x2.toNatClampNeg a1)) else (S)
theorem l_J7_fill_53178_38_5_s (a1 : Int32) (n : Nat) (x2 : Int32) (S : kw_S) : l_J7_fill_53178_38_5 a1 (n + 1) x2 S = if x2.toInt < (60 : Int32).toInt then (kf_l (x2 + Int32.ofInt 1) fun z1 => l_J7_fill_53178_38_5 a1 n z1 (kw_ui S 38 x2.toNatClampNeg a1)) else (S) := rfl
noncomputable def f_J7_fill_53178_38 (σ : kw_S) (v : Int32) : kw_S := l_J7_fill_53178_38_5 v ((1001 - (0 : Int32).toInt).toNat + 1) (0 : Int32) σ
theorem f_J7_fill_53178_38_u (σ : kw_S) (v : Int32) : f_J7_fill_53178_38 σ v = l_J7_fill_53178_38_5 v ((1001 - (0 : Int32).toInt).toNat + 1) (0 : Int32) σ := rfl
abbrev p_J7_fill_53178_38 (σ : kw_S) (v : Int32) : Option Value → kw_S → Prop := fun vv σ' => (kw_I bX σ' ∧ kw_F [38] σ σ') ∧ vv = none ∧ σ' = f_J7_fill_53178_38 σ v
set_option maxRecDepth 100000 in
set_option maxHeartbeats 4000000 in
theorem c_J7_fill_53178_38 (l : Launch) (σ : kw_S) (hI : kw_I bX σ) (v : Int32) : kw_Met l 1 KX mJ7_fill_53178 [.ref 38, .int v] σ (p_J7_fill_53178_38 σ v) := by
  have r_v := kw_rng v
  have hF0 : kw_F [38] σ σ := kw_F.rf
  have hF := (f_J7_fill_53178_38_u σ v).symm
  have q_0 : (0 : Int32).toInt = 0 := rfl
  have q_60 : (60 : Int32).toInt = 60 := rfl
  refine kw_Met.of (by decide) rfl tJ7_fill_53178 (Nat.le_of_ble_eq_true rfl) ?_
  show kw_AW l 1 kw_E0 KX mJ7_fill_53178 (p_J7_fill_53178_38 σ v) 0 [(0, .ref 38), (1, .int v)] [] σ
  refine kw_iconst (pc := 0) (i := 0) (v := 0) rfl rfl ?_
  refine kw_istore_n (pc := 1) (i := 1) (n := 2) (lv' := [(2, .int 0), (0, .ref 38), (1, .int v)]) rfl rfl (by decide) rfl ?_
  refine kw_aload_n (pc := 2) (i := 2) (k := 1) (n := 0) rfl rfl rfl ?_
  refine kw_alen (pc := 3) (i := 3) (n := 60) (v := 60) rfl rfl rfl ?_
  refine kw_istore_n (pc := 4) (i := 4) (n := 3) (lv' := [(3, .int 60), (2, .int 0), (0, .ref 38), (1, .int v)]) rfl rfl (by decide) rfl ?_
  have L5 : ∀ (n10 : Nat) (x1 : Int32) (S2 : kw_S), kw_I bX S2 → kw_F [38] σ S2 → 0 ≤ x1.toInt → (60 : Int32).toInt ≤ 1000 → l_J7_fill_53178_38_5 v n10 x1 S2 = (f_J7_fill_53178_38 σ v) → (1001 - x1.toInt).toNat < n10 → kw_AW l 1 kw_E0 KX mJ7_fill_53178 (p_J7_fill_53178_38 σ v) 5 [(3, .int 60), (2, .int x1), (0, .ref 38), (1, .int v)] [] S2 := by
    intro n10
    induction n10 with
    | zero => intro x1 S2 I3 F4 v7 v8 hF m9; exact absurd m9 (Nat.not_lt_zero _)
    | succ n10 ih6 =>
      intro x1 S2 I3 F4 v7 v8 hF m9
      replace hF := kf_st (l_J7_fill_53178_38_5_s _ _ _ _) hF
      have r_x1 := kw_rng x1
      refine kw_iload_n (pc := 5) (i := 5) (k := 1) (n := 2) rfl rfl rfl ?_
      refine kw_iload_n (pc := 6) (i := 6) (k := 0) (n := 3) rfl rfl rfl ?_
      refine kw_icmp_ge (pc := 7) (i := 7) (tgt := 20) rfl rfl (fun c11 => ?_) (fun c11 => ?_)
      · replace hF := kf_nl c11 hF
        exact kw_return (pc := 20) (i := 14) rfl rfl ⟨⟨I3, F4⟩, rfl, hF⟩
      · replace hF := kf_p c11 hF
        refine kw_aload_n (pc := 10) (i := 8) (k := 2) (n := 0) rfl rfl rfl ?_
        refine kw_iload_n (pc := 11) (i := 9) (k := 1) (n := 2) rfl rfl rfl ?_
        refine kw_iload_n (pc := 12) (i := 10) (k := 3) (n := 1) rfl rfl rfl ?_
        refine kw_iast (pc := 13) (i := 11) (n := 60) rfl rfl (by omega) (by omega) ?_
        have I12 : kw_I bX (kw_ui S2 38 x1.toNatClampNeg v) := kw_I_ui I3 (kw_rng v).1 (Int.le_of_lt_add_one (kw_rng v).2)
        have F13 : kw_F [38] σ (kw_ui S2 38 x1.toNatClampNeg v) := kw_F_ui F4 (by decide)
        refine kw_iinc' (pc := 14) (i := 12) (k := 1) (fun z => [(2, .int z), (3, .int 60), (0, .ref 38), (1, .int v)]) rfl rfl (by decide) rfl (fun _ => rfl) (fun z14 e_z14 t_z14 => ?_)
        replace hF := kf_le e_z14 hF
        refine kw_goto (pc := 17) (i := 13) (tgt := 5) rfl rfl ?_
        refine kw_sub (lv' := [(3, .int 60), (2, .int z14), (0, .ref 38), (1, .int v)]) [1, 0, 2, 3] rfl ?_
        exact ih6 z14 (kw_ui S2 38 x1.toNatClampNeg v) I12 F13 (by omega) (by omega) hF (by omega)
  exact L5 _ 0 σ hI hF0 (by omega) (by omega) hF (Nat.lt_succ_self _)
noncomputable def l_J7_fill_53178_49_5 (a1 : Int32) : Nat → Int32 → kw_S → kw_S
  | 0, _, S => S
  | n + 1, x2, S => if x2.toInt < (40 : Int32).toInt then (kf_l (x2 + Int32.ofInt 1) fun z1 => l_J7_fill_53178_49_5 a1 n z1 (kw_ui S 49 x2.toNatClampNeg a1)) else (S)
theorem l_J7_fill_53178_49_5_s (a1 : Int32) (n : Nat) (x2 : Int32) (S : kw_S) : l_J7_fill_53178_49_5 a1 (n + 1) x2 S = if x2.toInt < (40 : Int32).toInt then (kf_l (x2 + Int32.ofInt 1) fun z1 => l_J7_fill_53178_49_5 a1 n z1 (kw_ui S 49 x2.toNatClampNeg a1)) else (S) := rfl
noncomputable def f_J7_fill_53178_49 (σ : kw_S) (v : Int32) : kw_S := l_J7_fill_53178_49_5 v ((1001 - (0 : Int32).toInt).toNat + 1) (0 : Int32) σ
theorem f_J7_fill_53178_49_u (σ : kw_S) (v : Int32) : f_J7_fill_53178_49 σ v = l_J7_fill_53178_49_5 v ((1001 - (0 : Int32).toInt).toNat + 1) (0 : Int32) σ := rfl
abbrev p_J7_fill_53178_49 (σ : kw_S) (v : Int32) : Option Value → kw_S → Prop := fun vv σ' => (kw_I bX σ' ∧ kw_F [49] σ σ') ∧ vv = none ∧ σ' = f_J7_fill_53178_49 σ v
set_option maxRecDepth 100000 in
set_option maxHeartbeats 4000000 in
theorem c_J7_fill_53178_49 (l : Launch) (σ : kw_S) (hI : kw_I bX σ) (v : Int32) : kw_Met l 1 KX mJ7_fill_53178 [.ref 49, .int v] σ (p_J7_fill_53178_49 σ v) := by
  have r_v := kw_rng v
  have hF0 : kw_F [49] σ σ := kw_F.rf
  have hF := (f_J7_fill_53178_49_u σ v).symm
  have q_0 : (0 : Int32).toInt = 0 := rfl
  have q_40 : (40 : Int32).toInt = 40 := rfl
  refine kw_Met.of (by decide) rfl tJ7_fill_53178 (Nat.le_of_ble_eq_true rfl) ?_
  show kw_AW l 1 kw_E0 KX mJ7_fill_53178 (p_J7_fill_53178_49 σ v) 0 [(0, .ref 49), (1, .int v)] [] σ
  refine kw_iconst (pc := 0) (i := 0) (v := 0) rfl rfl ?_
  refine kw_istore_n (pc := 1) (i := 1) (n := 2) (lv' := [(2, .int 0), (0, .ref 49), (1, .int v)]) rfl rfl (by decide) rfl ?_
  refine kw_aload_n (pc := 2) (i := 2) (k := 1) (n := 0) rfl rfl rfl ?_
  refine kw_alen (pc := 3) (i := 3) (n := 40) (v := 40) rfl rfl rfl ?_
  refine kw_istore_n (pc := 4) (i := 4) (n := 3) (lv' := [(3, .int 40), (2, .int 0), (0, .ref 49), (1, .int v)]) rfl rfl (by decide) rfl ?_
  have L5 : ∀ (n10 : Nat) (x1 : Int32) (S2 : kw_S), kw_I bX S2 → kw_F [49] σ S2 → 0 ≤ x1.toInt → (40 : Int32).toInt ≤ 1000 → l_J7_fill_53178_49_5 v n10 x1 S2 = (f_J7_fill_53178_49 σ v) → (1001 - x1.toInt).toNat < n10 → kw_AW l 1 kw_E0 KX mJ7_fill_53178 (p_J7_fill_53178_49 σ v) 5 [(3, .int 40), (2, .int x1), (0, .ref 49), (1, .int v)] [] S2 := by
    intro n10
    induction n10 with
    | zero => intro x1 S2 I3 F4 v7 v8 hF m9; exact absurd m9 (Nat.not_lt_zero _)
    | succ n10 ih6 =>
      intro x1 S2 I3 F4 v7 v8 hF m9
      replace hF := kf_st (l_J7_fill_53178_49_5_s _ _ _ _) hF
      have r_x1 := kw_rng x1
      refine kw_iload_n (pc := 5) (i := 5) (k := 1) (n := 2) rfl rfl rfl ?_
      refine kw_iload_n (pc := 6) (i := 6) (k := 0) (n := 3) rfl rfl rfl ?_
      refine kw_icmp_ge (pc := 7) (i := 7) (tgt := 20) rfl rfl (fun c11 => ?_) (fun c11 => ?_)
      · replace hF := kf_nl c11 hF
        exact kw_return (pc := 20) (i := 14) rfl rfl ⟨⟨I3, F4⟩, rfl, hF⟩
      · replace hF := kf_p c11 hF
        refine kw_aload_n (pc := 10) (i := 8) (k := 2) (n := 0) rfl rfl rfl ?_
        refine kw_iload_n (pc := 11) (i := 9) (k := 1) (n := 2) rfl rfl rfl ?_
        refine kw_iload_n (pc := 12) (i := 10) (k := 3) (n := 1) rfl rfl rfl ?_
        refine kw_iast (pc := 13) (i := 11) (n := 40) rfl rfl (by omega) (by omega) ?_
        have I12 : kw_I bX (kw_ui S2 49 x1.toNatClampNeg v) := kw_I_ui I3 (kw_rng v).1 (Int.le_of_lt_add_one (kw_rng v).2)
        have F13 : kw_F [49] σ (kw_ui S2 49 x1.toNatClampNeg v) := kw_F_ui F4 (by decide)
        refine kw_iinc' (pc := 14) (i := 12) (k := 1) (fun z => [(2, .int z), (3, .int 40), (0, .ref 49), (1, .int v)]) rfl rfl (by decide) rfl (fun _ => rfl) (fun z14 e_z14 t_z14 => ?_)
        replace hF := kf_le e_z14 hF
        refine kw_goto (pc := 17) (i := 13) (tgt := 5) rfl rfl ?_
        refine kw_sub (lv' := [(3, .int 40), (2, .int z14), (0, .ref 49), (1, .int v)]) [1, 0, 2, 3] rfl ?_
        exact ih6 z14 (kw_ui S2 49 x1.toNatClampNeg v) I12 F13 (by omega) (by omega) hF (by omega)
  exact L5 _ 0 σ hI hF0 (by omega) (by omega) hF (Nat.lt_succ_self _)
noncomputable def l_J7_fill_53178_50_5 (a1 : Int32) : Nat → Int32 → kw_S → kw_S
  | 0, _, S => S
  | n + 1, x2, S => if x2.toInt < (40 : Int32).toInt then (kf_l (x2 + Int32.ofInt 1) fun z1 => l_J7_fill_53178_50_5 a1 n z1 (kw_ui S 50 x2.toNatClampNeg a1)) else (S)
theorem l_J7_fill_53178_50_5_s (a1 : Int32) (n : Nat) (x2 : Int32) (S : kw_S) : l_J7_fill_53178_50_5 a1 (n + 1) x2 S = if x2.toInt < (40 : Int32).toInt then (kf_l (x2 + Int32.ofInt 1) fun z1 => l_J7_fill_53178_50_5 a1 n z1 (kw_ui S 50 x2.toNatClampNeg a1)) else (S) := rfl
noncomputable def f_J7_fill_53178_50 (σ : kw_S) (v : Int32) : kw_S := l_J7_fill_53178_50_5 v ((1001 - (0 : Int32).toInt).toNat + 1) (0 : Int32) σ
theorem f_J7_fill_53178_50_u (σ : kw_S) (v : Int32) : f_J7_fill_53178_50 σ v = l_J7_fill_53178_50_5 v ((1001 - (0 : Int32).toInt).toNat + 1) (0 : Int32) σ := rfl
abbrev p_J7_fill_53178_50 (σ : kw_S) (v : Int32) : Option Value → kw_S → Prop := fun vv σ' => (kw_I bX σ' ∧ kw_F [50] σ σ') ∧ vv = none ∧ σ' = f_J7_fill_53178_50 σ v
set_option maxRecDepth 100000 in
set_option maxHeartbeats 4000000 in
theorem c_J7_fill_53178_50 (l : Launch) (σ : kw_S) (hI : kw_I bX σ) (v : Int32) : kw_Met l 1 KX mJ7_fill_53178 [.ref 50, .int v] σ (p_J7_fill_53178_50 σ v) := by
  have r_v := kw_rng v
  have hF0 : kw_F [50] σ σ := kw_F.rf
  have hF := (f_J7_fill_53178_50_u σ v).symm
  have q_0 : (0 : Int32).toInt = 0 := rfl
  have q_40 : (40 : Int32).toInt = 40 := rfl
  refine kw_Met.of (by decide) rfl tJ7_fill_53178 (Nat.le_of_ble_eq_true rfl) ?_
  show kw_AW l 1 kw_E0 KX mJ7_fill_53178 (p_J7_fill_53178_50 σ v) 0 [(0, .ref 50), (1, .int v)] [] σ
  refine kw_iconst (pc := 0) (i := 0) (v := 0) rfl rfl ?_
  refine kw_istore_n (pc := 1) (i := 1) (n := 2) (lv' := [(2, .int 0), (0, .ref 50), (1, .int v)]) rfl rfl (by decide) rfl ?_
  refine kw_aload_n (pc := 2) (i := 2) (k := 1) (n := 0) rfl rfl rfl ?_
  refine kw_alen (pc := 3) (i := 3) (n := 40) (v := 40) rfl rfl rfl ?_
  refine kw_istore_n (pc := 4) (i := 4) (n := 3) (lv' := [(3, .int 40), (2, .int 0), (0, .ref 50), (1, .int v)]) rfl rfl (by decide) rfl ?_
  have L5 : ∀ (n10 : Nat) (x1 : Int32) (S2 : kw_S), kw_I bX S2 → kw_F [50] σ S2 → 0 ≤ x1.toInt → (40 : Int32).toInt ≤ 1000 → l_J7_fill_53178_50_5 v n10 x1 S2 = (f_J7_fill_53178_50 σ v) → (1001 - x1.toInt).toNat < n10 → kw_AW l 1 kw_E0 KX mJ7_fill_53178 (p_J7_fill_53178_50 σ v) 5 [(3, .int 40), (2, .int x1), (0, .ref 50), (1, .int v)] [] S2 := by
    intro n10
    induction n10 with
    | zero => intro x1 S2 I3 F4 v7 v8 hF m9; exact absurd m9 (Nat.not_lt_zero _)
    | succ n10 ih6 =>
      intro x1 S2 I3 F4 v7 v8 hF m9
      replace hF := kf_st (l_J7_fill_53178_50_5_s _ _ _ _) hF
      have r_x1 := kw_rng x1
      refine kw_iload_n (pc := 5) (i := 5) (k := 1) (n := 2) rfl rfl rfl ?_
      refine kw_iload_n (pc := 6) (i := 6) (k := 0) (n := 3) rfl rfl rfl ?_
      refine kw_icmp_ge (pc := 7) (i := 7) (tgt := 20) rfl rfl (fun c11 => ?_) (fun c11 => ?_)
      · replace hF := kf_nl c11 hF
        exact kw_return (pc := 20) (i := 14) rfl rfl ⟨⟨I3, F4⟩, rfl, hF⟩
      · replace hF := kf_p c11 hF
        refine kw_aload_n (pc := 10) (i := 8) (k := 2) (n := 0) rfl rfl rfl ?_
        refine kw_iload_n (pc := 11) (i := 9) (k := 1) (n := 2) rfl rfl rfl ?_
        refine kw_iload_n (pc := 12) (i := 10) (k := 3) (n := 1) rfl rfl rfl ?_
        refine kw_iast (pc := 13) (i := 11) (n := 40) rfl rfl (by omega) (by omega) ?_
        have I12 : kw_I bX (kw_ui S2 50 x1.toNatClampNeg v) := kw_I_ui I3 (kw_rng v).1 (Int.le_of_lt_add_one (kw_rng v).2)
        have F13 : kw_F [50] σ (kw_ui S2 50 x1.toNatClampNeg v) := kw_F_ui F4 (by decide)
        refine kw_iinc' (pc := 14) (i := 12) (k := 1) (fun z => [(2, .int z), (3, .int 40), (0, .ref 50), (1, .int v)]) rfl rfl (by decide) rfl (fun _ => rfl) (fun z14 e_z14 t_z14 => ?_)
        replace hF := kf_le e_z14 hF
        refine kw_goto (pc := 17) (i := 13) (tgt := 5) rfl rfl ?_
        refine kw_sub (lv' := [(3, .int 40), (2, .int z14), (0, .ref 50), (1, .int v)]) [1, 0, 2, 3] rfl ?_
        exact ih6 z14 (kw_ui S2 50 x1.toNatClampNeg v) I12 F13 (by omega) (by omega) hF (by omega)
  exact L5 _ 0 σ hI hF0 (by omega) (by omega) hF (Nat.lt_succ_self _)
noncomputable def l_J7_fill_53178_51_5 (a1 : Int32) : Nat → Int32 → kw_S → kw_S
  | 0, _, S => S
  | n + 1, x2, S => if x2.toInt < (40 : Int32).toInt then (kf_l (x2 + Int32.ofInt 1) fun z1 => l_J7_fill_53178_51_5 a1 n z1 (kw_ui S 51 x2.toNatClampNeg a1)) else (S)
theorem l_J7_fill_53178_51_5_s (a1 : Int32) (n : Nat) (x2 : Int32) (S : kw_S) : l_J7_fill_53178_51_5 a1 (n + 1) x2 S = if x2.toInt < (40 : Int32).toInt then (kf_l (x2 + Int32.ofInt 1) fun z1 => l_J7_fill_53178_51_5 a1 n z1 (kw_ui S 51 x2.toNatClampNeg a1)) else (S) := rfl
noncomputable def f_J7_fill_53178_51 (σ : kw_S) (v : Int32) : kw_S := l_J7_fill_53178_51_5 v ((1001 - (0 : Int32).toInt).toNat + 1) (0 : Int32) σ
theorem f_J7_fill_53178_51_u (σ : kw_S) (v : Int32) : f_J7_fill_53178_51 σ v = l_J7_fill_53178_51_5 v ((1001 - (0 : Int32).toInt).toNat + 1) (0 : Int32) σ := rfl
abbrev p_J7_fill_53178_51 (σ : kw_S) (v : Int32) : Option Value → kw_S → Prop := fun vv σ' => (kw_I bX σ' ∧ kw_F [51] σ σ') ∧ vv = none ∧ σ' = f_J7_fill_53178_51 σ v
set_option maxRecDepth 100000 in
set_option maxHeartbeats 4000000 in
theorem c_J7_fill_53178_51 (l : Launch) (σ : kw_S) (hI : kw_I bX σ) (v : Int32) : kw_Met l 1 KX mJ7_fill_53178 [.ref 51, .int v] σ (p_J7_fill_53178_51 σ v) := by
  have r_v := kw_rng v
  have hF0 : kw_F [51] σ σ := kw_F.rf
  have hF := (f_J7_fill_53178_51_u σ v).symm
  have q_0 : (0 : Int32).toInt = 0 := rfl
  have q_40 : (40 : Int32).toInt = 40 := rfl
  refine kw_Met.of (by decide) rfl tJ7_fill_53178 (Nat.le_of_ble_eq_true rfl) ?_
  show kw_AW l 1 kw_E0 KX mJ7_fill_53178 (p_J7_fill_53178_51 σ v) 0 [(0, .ref 51), (1, .int v)] [] σ
  refine kw_iconst (pc := 0) (i := 0) (v := 0) rfl rfl ?_
  refine kw_istore_n (pc := 1) (i := 1) (n := 2) (lv' := [(2, .int 0), (0, .ref 51), (1, .int v)]) rfl rfl (by decide) rfl ?_
  refine kw_aload_n (pc := 2) (i := 2) (k := 1) (n := 0) rfl rfl rfl ?_
  refine kw_alen (pc := 3) (i := 3) (n := 40) (v := 40) rfl rfl rfl ?_
  refine kw_istore_n (pc := 4) (i := 4) (n := 3) (lv' := [(3, .int 40), (2, .int 0), (0, .ref 51), (1, .int v)]) rfl rfl (by decide) rfl ?_
  have L5 : ∀ (n10 : Nat) (x1 : Int32) (S2 : kw_S), kw_I bX S2 → kw_F [51] σ S2 → 0 ≤ x1.toInt → (40 : Int32).toInt ≤ 1000 → l_J7_fill_53178_51_5 v n10 x1 S2 = (f_J7_fill_53178_51 σ v) → (1001 - x1.toInt).toNat < n10 → kw_AW l 1 kw_E0 KX mJ7_fill_53178 (p_J7_fill_53178_51 σ v) 5 [(3, .int 40), (2, .int x1), (0, .ref 51), (1, .int v)] [] S2 := by
    intro n10
    induction n10 with
    | zero => intro x1 S2 I3 F4 v7 v8 hF m9; exact absurd m9 (Nat.not_lt_zero _)
    | succ n10 ih6 =>
      intro x1 S2 I3 F4 v7 v8 hF m9
      replace hF := kf_st (l_J7_fill_53178_51_5_s _ _ _ _) hF
      have r_x1 := kw_rng x1
      refine kw_iload_n (pc := 5) (i := 5) (k := 1) (n := 2) rfl rfl rfl ?_
      refine kw_iload_n (pc := 6) (i := 6) (k := 0) (n := 3) rfl rfl rfl ?_
      refine kw_icmp_ge (pc := 7) (i := 7) (tgt := 20) rfl rfl (fun c11 => ?_) (fun c11 => ?_)
      · replace hF := kf_nl c11 hF
        exact kw_return (pc := 20) (i := 14) rfl rfl ⟨⟨I3, F4⟩, rfl, hF⟩
      · replace hF := kf_p c11 hF
        refine kw_aload_n (pc := 10) (i := 8) (k := 2) (n := 0) rfl rfl rfl ?_
        refine kw_iload_n (pc := 11) (i := 9) (k := 1) (n := 2) rfl rfl rfl ?_
        refine kw_iload_n (pc := 12) (i := 10) (k := 3) (n := 1) rfl rfl rfl ?_
        refine kw_iast (pc := 13) (i := 11) (n := 40) rfl rfl (by omega) (by omega) ?_
        have I12 : kw_I bX (kw_ui S2 51 x1.toNatClampNeg v) := kw_I_ui I3 (kw_rng v).1 (Int.le_of_lt_add_one (kw_rng v).2)
        have F13 : kw_F [51] σ (kw_ui S2 51 x1.toNatClampNeg v) := kw_F_ui F4 (by decide)
        refine kw_iinc' (pc := 14) (i := 12) (k := 1) (fun z => [(2, .int z), (3, .int 40), (0, .ref 51), (1, .int v)]) rfl rfl (by decide) rfl (fun _ => rfl) (fun z14 e_z14 t_z14 => ?_)
        replace hF := kf_le e_z14 hF
        refine kw_goto (pc := 17) (i := 13) (tgt := 5) rfl rfl ?_
        refine kw_sub (lv' := [(3, .int 40), (2, .int z14), (0, .ref 51), (1, .int v)]) [1, 0, 2, 3] rfl ?_
        exact ih6 z14 (kw_ui S2 51 x1.toNatClampNeg v) I12 F13 (by omega) (by omega) hF (by omega)
  exact L5 _ 0 σ hI hF0 (by omega) (by omega) hF (Nat.lt_succ_self _)
end
section
noncomputable def f_X3_has_1 (σ : kw_S) (k : Int32) : Int32 := if k.toInt < 0 then ((0 : Int32)) else (if k.toInt < (6 : Int32).toInt then ((1 : Int32)) else ((0 : Int32)))
theorem f_X3_has_1_u (σ : kw_S) (k : Int32) : f_X3_has_1 σ k = if k.toInt < 0 then ((0 : Int32)) else (if k.toInt < (6 : Int32).toInt then ((1 : Int32)) else ((0 : Int32))) := rfl
abbrev p_X3_has_1 (σ : kw_S) (k : Int32) : Option Value → kw_S → Prop := fun vv σ' => σ' = σ ∧ ∃ r : Int32, vv = some (.int r) ∧ (r.toInt = 0 ∨ r.toInt = 1) ∧ (r.toInt = 0 ∨ 0 ≤ k.toInt ∧ k.toInt < 6) ∧ (r.toInt = 1 ∨ k.toInt < 0 ∨ 6 ≤ k.toInt) ∧ r = f_X3_has_1 σ k
set_option maxRecDepth 100000 in
set_option maxHeartbeats 4000000 in
theorem c_X3_has_1 (l : Launch) (σ : kw_S) (hI : kw_I bX σ) (k : Int32) : kw_Met l 1 KX mX3_has [.ref 1, .int k] σ (p_X3_has_1 σ k) := by
  have r_k := kw_rng k
  have hF := (f_X3_has_1_u σ k).symm
  have q_0 : (0 : Int32).toInt = 0 := rfl
  have q_1 : (1 : Int32).toInt = 1 := rfl
  have q_6 : (6 : Int32).toInt = 6 := rfl
  refine kw_Met.of (by decide) rfl tX3_has (Nat.le_of_ble_eq_true rfl) ?_
  show kw_AW l 1 kw_E0 KX mX3_has (p_X3_has_1 σ k) 0 [(0, .ref 1), (1, .int k)] [] σ
  refine kw_iload_n (pc := 0) (i := 0) (k := 1) (n := 1) rfl rfl rfl ?_
  refine kw_if_lt (pc := 1) (i := 1) (tgt := 17) rfl rfl (fun c1 => ?_) (fun c1 => ?_)
  · replace hF := kf_p c1 hF
    refine kw_iconst (pc := 17) (i := 9) (v := 0) rfl rfl ?_
    exact kw_ireturn (pc := 18) (i := 10) (ty := .boolean) rfl rfl rfl ⟨rfl, _, rfl, by omega, by omega, by omega, hF⟩
  · replace hF := kf_nl c1 hF
    refine kw_iload_n (pc := 4) (i := 2) (k := 1) (n := 1) rfl rfl rfl ?_
    refine kw_aload_n (pc := 5) (i := 3) (k := 0) (n := 0) rfl rfl rfl ?_
    refine kw_get (pc := 6) (i := 4) (v := .ref 13) rfl rfl rfl lkX3_20 (fun _ => rfl) ?_
    refine kw_alen (pc := 9) (i := 5) (n := 6) (v := 6) rfl rfl rfl ?_
    refine kw_icmp_ge (pc := 10) (i := 6) (tgt := 17) rfl rfl (fun c2 => ?_) (fun c2 => ?_)
    · replace hF := kf_nl c2 hF
      refine kw_iconst (pc := 17) (i := 9) (v := 0) rfl rfl ?_
      exact kw_ireturn (pc := 18) (i := 10) (ty := .boolean) rfl rfl rfl ⟨rfl, _, rfl, by omega, by omega, by omega, hF⟩
    · replace hF := kf_p c2 hF
      refine kw_iconst (pc := 13) (i := 7) (v := 1) rfl rfl ?_
      refine kw_goto (pc := 14) (i := 8) (tgt := 18) rfl rfl ?_
      exact kw_ireturn (pc := 18) (i := 10) (ty := .boolean) rfl rfl rfl ⟨rfl, _, rfl, by omega, by omega, by omega, hF⟩
noncomputable def f_X3_sizeOf_1 (σ : kw_S) (k : Int32) : Int32 := kf_l (f_X3_has_1 σ k) fun z1 => if z1.toInt = 0 then (((-1) : Int32)) else (kf_l (σ.1 13 k.toNatClampNeg) fun z2 => z2)
theorem f_X3_sizeOf_1_u (σ : kw_S) (k : Int32) : f_X3_sizeOf_1 σ k = kf_l (f_X3_has_1 σ k) fun z1 => if z1.toInt = 0 then (((-1) : Int32)) else (kf_l (σ.1 13 k.toNatClampNeg) fun z2 => z2) := rfl
abbrev p_X3_sizeOf_1 (σ : kw_S) (k : Int32) : Option Value → kw_S → Prop := fun vv σ' => σ' = σ ∧ ∃ r : Int32, vv = some (.int r) ∧ -1 ≤ r.toInt ∧ r.toInt ≤ 40 ∧ (r.toInt < 0 ∨ 0 ≤ k.toInt ∧ k.toInt < 6) ∧ (0 ≤ k.toInt → k.toInt < 6 → r.toInt = (σ.1 13 k.toNatClampNeg).toInt) ∧ r = f_X3_sizeOf_1 σ k
set_option maxRecDepth 100000 in
set_option maxHeartbeats 4000000 in
theorem c_X3_sizeOf_1 (l : Launch) (σ : kw_S) (hI : kw_I bX σ) (k : Int32) : kw_Met l 2 KX mX3_sizeOf [.ref 1, .int k] σ (p_X3_sizeOf_1 σ k) := by
  have r_k := kw_rng k
  have hF := (f_X3_sizeOf_1_u σ k).symm
  have q_m1 : (-1 : Int32).toInt = -1 := rfl
  refine kw_Met.of (by decide) rfl tX3_sizeOf (Nat.le_of_ble_eq_true rfl) ?_
  show kw_AW l 2 kw_E0 KX mX3_sizeOf (p_X3_sizeOf_1 σ k) 0 [(0, .ref 1), (1, .int k)] [] σ
  refine kw_aload_n (pc := 0) (i := 0) (k := 0) (n := 0) rfl rfl rfl ?_
  refine kw_iload_n (pc := 1) (i := 1) (k := 1) (n := 1) rfl rfl rfl ?_
  refine kw_callV (pc := 2) (i := 2) (Y := mX3_has) (a := 1) (As := [.int k]) (st := []) kw_hE rfl rfl lvX3_34 arX3_has (c_X3_has_1 l σ hI k ) (by decide) (Nat.le_of_ble_eq_true rfl) rfl (fun v S2 p1 => ?_)
  obtain ⟨e8, z7, rfl, f3, f4, f5, ef6⟩ := p1
  rw [e8]
  replace hF := kf_le ef6 hF
  have r_z7 := kw_rng z7
  show kw_AW l 2 kw_E0 KX mX3_sizeOf (p_X3_sizeOf_1 σ k) 5 [(0, .ref 1), (1, .int k)] [.int z7] σ
  refine kw_if_eq (pc := 5) (i := 3) (tgt := 17) rfl rfl (fun c9 => ?_) (fun c9 => ?_)
  · replace hF := kf_p c9 hF
    refine kw_iconst (pc := 17) (i := 9) (v := (-1)) rfl rfl ?_
    exact kw_ireturn (pc := 18) (i := 10) (ty := .int) rfl rfl rfl ⟨rfl, _, rfl, by omega, by omega, by omega, by omega, hF⟩
  · replace hF := kf_n c9 hF
    refine kw_aload_n (pc := 8) (i := 4) (k := 0) (n := 0) rfl rfl rfl ?_
    refine kw_get (pc := 9) (i := 5) (v := .ref 13) rfl rfl rfl lkX3_20 (fun _ => rfl) ?_
    refine kw_iload_n (pc := 12) (i := 6) (k := 1) (n := 1) rfl rfl rfl ?_
    refine kw_iald (pc := 13) (i := 7) (n := 6) rfl rfl (by omega) (by omega) (fun z10 e_z10 => ?_)
    replace hF := kf_le e_z10 hF
    have t_z10 := congrArg Int32.toInt e_z10
    have b_z10 : -1 ≤ z10.toInt ∧ z10.toInt ≤ 40 := by rw [e_z10]; exact hI 13 _
    refine kw_goto (pc := 14) (i := 8) (tgt := 18) rfl rfl ?_
    exact kw_ireturn (pc := 18) (i := 10) (ty := .int) rfl rfl rfl ⟨rfl, _, rfl, by omega, by omega, by omega, by omega, hF⟩
noncomputable def f_X3_isMissing_1 (σ : kw_S) (k : Int32) : Int32 := kf_l (f_X3_sizeOf_1 σ k) fun z1 => if z1.toInt < 0 then ((1 : Int32)) else ((0 : Int32))
theorem f_X3_isMissing_1_u (σ : kw_S) (k : Int32) : f_X3_isMissing_1 σ k = kf_l (f_X3_sizeOf_1 σ k) fun z1 => if z1.toInt < 0 then ((1 : Int32)) else ((0 : Int32)) := rfl
abbrev p_X3_isMissing_1 (σ : kw_S) (k : Int32) : Option Value → kw_S → Prop := fun vv σ' => σ' = σ ∧ ∃ r : Int32, vv = some (.int r) ∧ (r.toInt = 0 ∨ r.toInt = 1) ∧ (r.toInt = 1 ∨ 0 ≤ k.toInt ∧ k.toInt < 6) ∧ r = f_X3_isMissing_1 σ k
set_option maxRecDepth 100000 in
set_option maxHeartbeats 4000000 in
theorem c_X3_isMissing_1 (l : Launch) (σ : kw_S) (hI : kw_I bX σ) (k : Int32) : kw_Met l 3 KX mX3_isMissing [.ref 1, .int k] σ (p_X3_isMissing_1 σ k) := by
  have r_k := kw_rng k
  have hF := (f_X3_isMissing_1_u σ k).symm
  have q_0 : (0 : Int32).toInt = 0 := rfl
  have q_1 : (1 : Int32).toInt = 1 := rfl
  refine kw_Met.of (by decide) rfl tX3_isMissing (Nat.le_of_ble_eq_true rfl) ?_
  show kw_AW l 3 kw_E0 KX mX3_isMissing (p_X3_isMissing_1 σ k) 0 [(0, .ref 1), (1, .int k)] [] σ
  refine kw_aload_n (pc := 0) (i := 0) (k := 0) (n := 0) rfl rfl rfl ?_
  refine kw_iload_n (pc := 1) (i := 1) (k := 1) (n := 1) rfl rfl rfl ?_
  refine kw_callV (pc := 2) (i := 2) (Y := mX3_sizeOf) (a := 1) (As := [.int k]) (st := []) kw_hE rfl rfl lvX3_30 arX3_sizeOf (c_X3_sizeOf_1 l σ hI k ) (by decide) (Nat.le_of_ble_eq_true rfl) rfl (fun v S2 p1 => ?_)
  obtain ⟨e9, z8, rfl, f3, f4, f5, f6, ef7⟩ := p1
  rw [e9]
  replace hF := kf_le ef7 hF
  have r_z8 := kw_rng z8
  show kw_AW l 3 kw_E0 KX mX3_isMissing (p_X3_isMissing_1 σ k) 5 [(0, .ref 1), (1, .int k)] [.int z8] σ
  refine kw_if_ge (pc := 5) (i := 3) (tgt := 12) rfl rfl (fun c10 => ?_) (fun c10 => ?_)
  · replace hF := kf_nl c10 hF
    refine kw_iconst (pc := 12) (i := 6) (v := 0) rfl rfl ?_
    exact kw_ireturn (pc := 13) (i := 7) (ty := .boolean) rfl rfl rfl ⟨rfl, _, rfl, by omega, by omega, hF⟩
  · replace hF := kf_p c10 hF
    refine kw_iconst (pc := 8) (i := 4) (v := 1) rfl rfl ?_
    refine kw_goto (pc := 9) (i := 5) (tgt := 13) rfl rfl ?_
    exact kw_ireturn (pc := 13) (i := 7) (ty := .boolean) rfl rfl rfl ⟨rfl, _, rfl, by omega, by omega, hF⟩
noncomputable def l_X3_howMany_1_4 (S : kw_S) : Nat → Int32 → Int32 → Int32
  | 0, _, _ => 0
  | n + 1, x1, x2 => if x2.toInt < (6 : Int32).toInt then (kf_l (S.1 13 x2.toNatClampNeg) fun z1 => if z1.toInt < 0 then (kf_l (x2 + Int32.ofInt 1) fun z2 => l_X3_howMany_1_4 S n x1 z2) else (kf_l (x1 + Int32.ofInt 1) fun z3 => kf_l (x2 + Int32.ofInt 1) fun z4 => l_X3_howMany_1_4 S n z3 z4)) else (x1)
theorem l_X3_howMany_1_4_s (S : kw_S) (n : Nat) (x1 : Int32) (x2 : Int32) : l_X3_howMany_1_4 S (n + 1) x1 x2 = if x2.toInt < (6 : Int32).toInt then (kf_l (S.1 13 x2.toNatClampNeg) fun z1 => if z1.toInt < 0 then (kf_l (x2 + Int32.ofInt 1) fun z2 => l_X3_howMany_1_4 S n x1 z2) else (kf_l (x1 + Int32.ofInt 1) fun z3 => kf_l (x2 + Int32.ofInt 1) fun z4 => l_X3_howMany_1_4 S n z3 z4)) else (x1) := rfl
noncomputable def f_X3_howMany_1 (σ : kw_S)  : Int32 := l_X3_howMany_1_4 σ ((10 - (0 : Int32).toInt).toNat + 1) (0 : Int32) (0 : Int32)
theorem f_X3_howMany_1_u (σ : kw_S)  : f_X3_howMany_1 σ  = l_X3_howMany_1_4 σ ((10 - (0 : Int32).toInt).toNat + 1) (0 : Int32) (0 : Int32) := rfl
abbrev p_X3_howMany_1 (σ : kw_S)  : Option Value → kw_S → Prop := fun vv σ' => σ' = σ ∧ ∃ r : Int32, vv = some (.int r) ∧ r = f_X3_howMany_1 σ
set_option maxRecDepth 100000 in
set_option maxHeartbeats 4000000 in
theorem c_X3_howMany_1 (l : Launch) (σ : kw_S) (hI : kw_I bX σ)  : kw_Met l 1 KX mX3_howMany [.ref 1] σ (p_X3_howMany_1 σ) := by
  have hF := (f_X3_howMany_1_u σ).symm
  have q_0 : (0 : Int32).toInt = 0 := rfl
  have q_6 : (6 : Int32).toInt = 6 := rfl
  refine kw_Met.of (by decide) rfl tX3_howMany (Nat.le_of_ble_eq_true rfl) ?_
  show kw_AW l 1 kw_E0 KX mX3_howMany (p_X3_howMany_1 σ) 0 [(0, .ref 1)] [] σ
  refine kw_iconst (pc := 0) (i := 0) (v := 0) rfl rfl ?_
  refine kw_istore_n (pc := 1) (i := 1) (n := 1) (lv' := [(1, .int 0), (0, .ref 1)]) rfl rfl (by decide) rfl ?_
  refine kw_iconst (pc := 2) (i := 2) (v := 0) rfl rfl ?_
  refine kw_istore_n (pc := 3) (i := 3) (n := 2) (lv' := [(2, .int 0), (1, .int 0), (0, .ref 1)]) rfl rfl (by decide) rfl ?_
  have L3 : ∀ (n7 : Nat) (x1 : Int32) (x2 : Int32), 0 ≤ x1.toInt → l_X3_howMany_1_4 σ n7 x2 x1 = (f_X3_howMany_1 σ) → (10 - x1.toInt).toNat < n7 → kw_AW l 1 kw_E0 KX mX3_howMany (p_X3_howMany_1 σ) 4 [(2, .int x1), (1, .int x2), (0, .ref 1)] [] σ := by
    intro n7
    induction n7 with
    | zero => intro x1 x2 v5 hF m6; exact absurd m6 (Nat.not_lt_zero _)
    | succ n7 ih4 =>
      intro x1 x2 v5 hF m6
      replace hF := kf_st (l_X3_howMany_1_4_s _ _ _ _) hF
      have r_x1 := kw_rng x1
      have r_x2 := kw_rng x2
      refine kw_iload_n (pc := 4) (i := 4) (k := 0) (n := 2) rfl rfl rfl ?_
      refine kw_aload_n (pc := 5) (i := 5) (k := 2) (n := 0) rfl rfl rfl ?_
      refine kw_get (pc := 6) (i := 6) (v := .ref 13) rfl rfl rfl lkX3_20 (fun _ => rfl) ?_
      refine kw_alen (pc := 9) (i := 7) (n := 6) (v := 6) rfl rfl rfl ?_
      refine kw_icmp_ge (pc := 10) (i := 8) (tgt := 31) rfl rfl (fun c8 => ?_) (fun c8 => ?_)
      · replace hF := kf_nl c8 hF
        refine kw_iload_n (pc := 31) (i := 17) (k := 1) (n := 1) rfl rfl rfl ?_
        exact kw_ireturn (pc := 32) (i := 18) (ty := .int) rfl rfl rfl ⟨rfl, _, rfl, hF⟩
      · replace hF := kf_p c8 hF
        refine kw_aload_n (pc := 13) (i := 9) (k := 2) (n := 0) rfl rfl rfl ?_
        refine kw_get (pc := 14) (i := 10) (v := .ref 13) rfl rfl rfl lkX3_20 (fun _ => rfl) ?_
        refine kw_iload_n (pc := 17) (i := 11) (k := 0) (n := 2) rfl rfl rfl ?_
        refine kw_iald (pc := 18) (i := 12) (n := 6) rfl rfl (by omega) (by omega) (fun z9 e_z9 => ?_)
        replace hF := kf_le e_z9 hF
        have t_z9 := congrArg Int32.toInt e_z9
        have b_z9 : -1 ≤ z9.toInt ∧ z9.toInt ≤ 40 := by rw [e_z9]; exact hI 13 _
        refine kw_if_lt (pc := 19) (i := 13) (tgt := 25) rfl rfl (fun c10 => ?_) (fun c10 => ?_)
        · replace hF := kf_p c10 hF
          refine kw_iinc' (pc := 25) (i := 15) (k := 0) (fun z => [(2, .int z), (1, .int x2), (0, .ref 1)]) rfl rfl (by decide) rfl (fun _ => rfl) (fun z11 e_z11 t_z11 => ?_)
          replace hF := kf_le e_z11 hF
          refine kw_goto (pc := 28) (i := 16) (tgt := 4) rfl rfl ?_
          refine kw_sub (lv' := [(2, .int z11), (1, .int x2), (0, .ref 1)]) [0, 1, 2] rfl ?_
          exact ih4 z11 x2 (by omega) hF (by omega)
        · replace hF := kf_nl c10 hF
          refine kw_iinc' (pc := 22) (i := 14) (k := 1) (fun z => [(1, .int z), (2, .int x1), (0, .ref 1)]) rfl rfl (by decide) rfl (fun _ => rfl) (fun z12 e_z12 t_z12 => ?_)
          replace hF := kf_le e_z12 hF
          refine kw_iinc' (pc := 25) (i := 15) (k := 1) (fun z => [(2, .int z), (1, .int z12), (0, .ref 1)]) rfl rfl (by decide) rfl (fun _ => rfl) (fun z13 e_z13 t_z13 => ?_)
          replace hF := kf_le e_z13 hF
          refine kw_goto (pc := 28) (i := 16) (tgt := 4) rfl rfl ?_
          refine kw_sub (lv' := [(2, .int z13), (1, .int z12), (0, .ref 1)]) [0, 1, 2] rfl ?_
          exact ih4 z13 z12 (by omega) hF (by omega)
  exact L3 _ 0 0 (by omega) hF (Nat.lt_succ_self _)
noncomputable def f_X3_hasPlaces_1 (σ : kw_S) (k : Int32) (f : Int32) (n : Int32) : Int32 := kf_l (f_X3_has_1 σ k) fun z1 => if z1.toInt = 0 then ((0 : Int32)) else (if f.toInt < 0 then ((0 : Int32)) else (if n.toInt < 0 then ((0 : Int32)) else (kf_l (σ.1 13 k.toNatClampNeg) fun z2 => kf_l (z2 - n) fun z3 => if z3.toInt < f.toInt then ((0 : Int32)) else ((1 : Int32)))))
theorem f_X3_hasPlaces_1_u (σ : kw_S) (k : Int32) (f : Int32) (n : Int32) : f_X3_hasPlaces_1 σ k f n = kf_l (f_X3_has_1 σ k) fun z1 => if z1.toInt = 0 then ((0 : Int32)) else (if f.toInt < 0 then ((0 : Int32)) else (if n.toInt < 0 then ((0 : Int32)) else (kf_l (σ.1 13 k.toNatClampNeg) fun z2 => kf_l (z2 - n) fun z3 => if z3.toInt < f.toInt then ((0 : Int32)) else ((1 : Int32))))) := rfl
abbrev p_X3_hasPlaces_1 (σ : kw_S) (k : Int32) (f : Int32) (n : Int32) : Option Value → kw_S → Prop := fun vv σ' => σ' = σ ∧ ∃ r : Int32, vv = some (.int r) ∧ (r.toInt = 0 ∨ r.toInt = 1) ∧ (r.toInt = 0 ∨ 0 ≤ k.toInt ∧ k.toInt < 6 ∧ 0 ≤ f.toInt ∧ 0 ≤ n.toInt ∧ f.toInt + n.toInt ≤ 40) ∧ r = f_X3_hasPlaces_1 σ k f n
set_option maxRecDepth 100000 in
set_option maxHeartbeats 4000000 in
theorem c_X3_hasPlaces_1 (l : Launch) (σ : kw_S) (hI : kw_I bX σ) (k : Int32) (f : Int32) (n : Int32) : kw_Met l 2 KX mX3_hasPlaces [.ref 1, .int k, .int f, .int n] σ (p_X3_hasPlaces_1 σ k f n) := by
  have r_k := kw_rng k
  have r_f := kw_rng f
  have r_n := kw_rng n
  have hF := (f_X3_hasPlaces_1_u σ k f n).symm
  have q_0 : (0 : Int32).toInt = 0 := rfl
  have q_1 : (1 : Int32).toInt = 1 := rfl
  refine kw_Met.of (by decide) rfl tX3_hasPlaces (Nat.le_of_ble_eq_true rfl) ?_
  show kw_AW l 2 kw_E0 KX mX3_hasPlaces (p_X3_hasPlaces_1 σ k f n) 0 [(0, .ref 1), (1, .int k), (2, .int f), (3, .int n)] [] σ
  refine kw_aload_n (pc := 0) (i := 0) (k := 0) (n := 0) rfl rfl rfl ?_
  refine kw_iload_n (pc := 1) (i := 1) (k := 1) (n := 1) rfl rfl rfl ?_
  refine kw_callV (pc := 2) (i := 2) (Y := mX3_has) (a := 1) (As := [.int k]) (st := []) kw_hE rfl rfl lvX3_34 arX3_has (c_X3_has_1 l σ hI k ) (by decide) (Nat.le_of_ble_eq_true rfl) rfl (fun v S2 p1 => ?_)
  obtain ⟨e8, z7, rfl, f3, f4, f5, ef6⟩ := p1
  rw [e8]
  replace hF := kf_le ef6 hF
  have r_z7 := kw_rng z7
  show kw_AW l 2 kw_E0 KX mX3_hasPlaces (p_X3_hasPlaces_1 σ k f n) 5 [(0, .ref 1), (1, .int k), (2, .int f), (3, .int n)] [.int z7] σ
  refine kw_if_eq (pc := 5) (i := 3) (tgt := 32) rfl rfl (fun c9 => ?_) (fun c9 => ?_)
  · replace hF := kf_p c9 hF
    refine kw_iconst (pc := 32) (i := 18) (v := 0) rfl rfl ?_
    exact kw_ireturn (pc := 33) (i := 19) (ty := .boolean) rfl rfl rfl ⟨rfl, _, rfl, by omega, by omega, hF⟩
  · replace hF := kf_n c9 hF
    refine kw_iload_n (pc := 8) (i := 4) (k := 2) (n := 2) rfl rfl rfl ?_
    refine kw_if_lt (pc := 9) (i := 5) (tgt := 32) rfl rfl (fun c10 => ?_) (fun c10 => ?_)
    · replace hF := kf_p c10 hF
      refine kw_iconst (pc := 32) (i := 18) (v := 0) rfl rfl ?_
      exact kw_ireturn (pc := 33) (i := 19) (ty := .boolean) rfl rfl rfl ⟨rfl, _, rfl, by omega, by omega, hF⟩
    · replace hF := kf_nl c10 hF
      refine kw_iload_n (pc := 12) (i := 6) (k := 3) (n := 3) rfl rfl rfl ?_
      refine kw_if_lt (pc := 13) (i := 7) (tgt := 32) rfl rfl (fun c11 => ?_) (fun c11 => ?_)
      · replace hF := kf_p c11 hF
        refine kw_iconst (pc := 32) (i := 18) (v := 0) rfl rfl ?_
        exact kw_ireturn (pc := 33) (i := 19) (ty := .boolean) rfl rfl rfl ⟨rfl, _, rfl, by omega, by omega, hF⟩
      · replace hF := kf_nl c11 hF
        refine kw_iload_n (pc := 16) (i := 8) (k := 2) (n := 2) rfl rfl rfl ?_
        refine kw_aload_n (pc := 17) (i := 9) (k := 0) (n := 0) rfl rfl rfl ?_
        refine kw_get (pc := 18) (i := 10) (v := .ref 13) rfl rfl rfl lkX3_20 (fun _ => rfl) ?_
        refine kw_iload_n (pc := 21) (i := 11) (k := 1) (n := 1) rfl rfl rfl ?_
        refine kw_iald (pc := 22) (i := 12) (n := 6) rfl rfl (by omega) (by omega) (fun z12 e_z12 => ?_)
        replace hF := kf_le e_z12 hF
        have t_z12 := congrArg Int32.toInt e_z12
        have b_z12 : -1 ≤ z12.toInt ∧ z12.toInt ≤ 40 := by rw [e_z12]; exact hI 13 _
        refine kw_iload_n (pc := 23) (i := 13) (k := 3) (n := 3) rfl rfl rfl ?_
        refine kw_isub (pc := 24) (i := 14) rfl (fun z13 e_z13 t_z13 => ?_)
        replace hF := kf_le e_z13 hF
        refine kw_icmp_gt (pc := 25) (i := 15) (tgt := 32) rfl rfl (fun c14 => ?_) (fun c14 => ?_)
        · replace hF := kf_p c14 hF
          refine kw_iconst (pc := 32) (i := 18) (v := 0) rfl rfl ?_
          exact kw_ireturn (pc := 33) (i := 19) (ty := .boolean) rfl rfl rfl ⟨rfl, _, rfl, by omega, by omega, hF⟩
        · replace hF := kf_nl c14 hF
          refine kw_iconst (pc := 28) (i := 16) (v := 1) rfl rfl ?_
          refine kw_goto (pc := 29) (i := 17) (tgt := 33) rfl rfl ?_
          exact kw_ireturn (pc := 33) (i := 19) (ty := .boolean) rfl rfl rfl ⟨rfl, _, rfl, by omega, by omega, hF⟩
noncomputable def f_X3_has_2 (σ : kw_S) (k : Int32) : Int32 := if k.toInt < 0 then ((0 : Int32)) else (if k.toInt < (4 : Int32).toInt then ((1 : Int32)) else ((0 : Int32)))
theorem f_X3_has_2_u (σ : kw_S) (k : Int32) : f_X3_has_2 σ k = if k.toInt < 0 then ((0 : Int32)) else (if k.toInt < (4 : Int32).toInt then ((1 : Int32)) else ((0 : Int32))) := rfl
abbrev p_X3_has_2 (σ : kw_S) (k : Int32) : Option Value → kw_S → Prop := fun vv σ' => σ' = σ ∧ ∃ r : Int32, vv = some (.int r) ∧ (r.toInt = 0 ∨ r.toInt = 1) ∧ (r.toInt = 0 ∨ 0 ≤ k.toInt ∧ k.toInt < 4) ∧ (r.toInt = 1 ∨ k.toInt < 0 ∨ 4 ≤ k.toInt) ∧ r = f_X3_has_2 σ k
set_option maxRecDepth 100000 in
set_option maxHeartbeats 4000000 in
theorem c_X3_has_2 (l : Launch) (σ : kw_S) (hI : kw_I bX σ) (k : Int32) : kw_Met l 1 KX mX3_has [.ref 2, .int k] σ (p_X3_has_2 σ k) := by
  have r_k := kw_rng k
  have hF := (f_X3_has_2_u σ k).symm
  have q_0 : (0 : Int32).toInt = 0 := rfl
  have q_1 : (1 : Int32).toInt = 1 := rfl
  have q_4 : (4 : Int32).toInt = 4 := rfl
  refine kw_Met.of (by decide) rfl tX3_has (Nat.le_of_ble_eq_true rfl) ?_
  show kw_AW l 1 kw_E0 KX mX3_has (p_X3_has_2 σ k) 0 [(0, .ref 2), (1, .int k)] [] σ
  refine kw_iload_n (pc := 0) (i := 0) (k := 1) (n := 1) rfl rfl rfl ?_
  refine kw_if_lt (pc := 1) (i := 1) (tgt := 17) rfl rfl (fun c1 => ?_) (fun c1 => ?_)
  · replace hF := kf_p c1 hF
    refine kw_iconst (pc := 17) (i := 9) (v := 0) rfl rfl ?_
    exact kw_ireturn (pc := 18) (i := 10) (ty := .boolean) rfl rfl rfl ⟨rfl, _, rfl, by omega, by omega, by omega, hF⟩
  · replace hF := kf_nl c1 hF
    refine kw_iload_n (pc := 4) (i := 2) (k := 1) (n := 1) rfl rfl rfl ?_
    refine kw_aload_n (pc := 5) (i := 3) (k := 0) (n := 0) rfl rfl rfl ?_
    refine kw_get (pc := 6) (i := 4) (v := .ref 15) rfl rfl rfl lkX3_20 (fun _ => rfl) ?_
    refine kw_alen (pc := 9) (i := 5) (n := 4) (v := 4) rfl rfl rfl ?_
    refine kw_icmp_ge (pc := 10) (i := 6) (tgt := 17) rfl rfl (fun c2 => ?_) (fun c2 => ?_)
    · replace hF := kf_nl c2 hF
      refine kw_iconst (pc := 17) (i := 9) (v := 0) rfl rfl ?_
      exact kw_ireturn (pc := 18) (i := 10) (ty := .boolean) rfl rfl rfl ⟨rfl, _, rfl, by omega, by omega, by omega, hF⟩
    · replace hF := kf_p c2 hF
      refine kw_iconst (pc := 13) (i := 7) (v := 1) rfl rfl ?_
      refine kw_goto (pc := 14) (i := 8) (tgt := 18) rfl rfl ?_
      exact kw_ireturn (pc := 18) (i := 10) (ty := .boolean) rfl rfl rfl ⟨rfl, _, rfl, by omega, by omega, by omega, hF⟩
noncomputable def f_X3_sizeOf_2 (σ : kw_S) (k : Int32) : Int32 := kf_l (f_X3_has_2 σ k) fun z1 => if z1.toInt = 0 then (((-1) : Int32)) else (kf_l (σ.1 15 k.toNatClampNeg) fun z2 => z2)
theorem f_X3_sizeOf_2_u (σ : kw_S) (k : Int32) : f_X3_sizeOf_2 σ k = kf_l (f_X3_has_2 σ k) fun z1 => if z1.toInt = 0 then (((-1) : Int32)) else (kf_l (σ.1 15 k.toNatClampNeg) fun z2 => z2) := rfl
abbrev p_X3_sizeOf_2 (σ : kw_S) (k : Int32) : Option Value → kw_S → Prop := fun vv σ' => σ' = σ ∧ ∃ r : Int32, vv = some (.int r) ∧ -1 ≤ r.toInt ∧ r.toInt ≤ 60 ∧ (r.toInt < 0 ∨ 0 ≤ k.toInt ∧ k.toInt < 4) ∧ (0 ≤ k.toInt → k.toInt < 4 → r.toInt = (σ.1 15 k.toNatClampNeg).toInt) ∧ r = f_X3_sizeOf_2 σ k
set_option maxRecDepth 100000 in
set_option maxHeartbeats 4000000 in
theorem c_X3_sizeOf_2 (l : Launch) (σ : kw_S) (hI : kw_I bX σ) (k : Int32) : kw_Met l 2 KX mX3_sizeOf [.ref 2, .int k] σ (p_X3_sizeOf_2 σ k) := by
  have r_k := kw_rng k
  have hF := (f_X3_sizeOf_2_u σ k).symm
  have q_m1 : (-1 : Int32).toInt = -1 := rfl
  refine kw_Met.of (by decide) rfl tX3_sizeOf (Nat.le_of_ble_eq_true rfl) ?_
  show kw_AW l 2 kw_E0 KX mX3_sizeOf (p_X3_sizeOf_2 σ k) 0 [(0, .ref 2), (1, .int k)] [] σ
  refine kw_aload_n (pc := 0) (i := 0) (k := 0) (n := 0) rfl rfl rfl ?_
  refine kw_iload_n (pc := 1) (i := 1) (k := 1) (n := 1) rfl rfl rfl ?_
  refine kw_callV (pc := 2) (i := 2) (Y := mX3_has) (a := 2) (As := [.int k]) (st := []) kw_hE rfl rfl lvX3_34 arX3_has (c_X3_has_2 l σ hI k ) (by decide) (Nat.le_of_ble_eq_true rfl) rfl (fun v S2 p1 => ?_)
  obtain ⟨e8, z7, rfl, f3, f4, f5, ef6⟩ := p1
  rw [e8]
  replace hF := kf_le ef6 hF
  have r_z7 := kw_rng z7
  show kw_AW l 2 kw_E0 KX mX3_sizeOf (p_X3_sizeOf_2 σ k) 5 [(0, .ref 2), (1, .int k)] [.int z7] σ
  refine kw_if_eq (pc := 5) (i := 3) (tgt := 17) rfl rfl (fun c9 => ?_) (fun c9 => ?_)
  · replace hF := kf_p c9 hF
    refine kw_iconst (pc := 17) (i := 9) (v := (-1)) rfl rfl ?_
    exact kw_ireturn (pc := 18) (i := 10) (ty := .int) rfl rfl rfl ⟨rfl, _, rfl, by omega, by omega, by omega, by omega, hF⟩
  · replace hF := kf_n c9 hF
    refine kw_aload_n (pc := 8) (i := 4) (k := 0) (n := 0) rfl rfl rfl ?_
    refine kw_get (pc := 9) (i := 5) (v := .ref 15) rfl rfl rfl lkX3_20 (fun _ => rfl) ?_
    refine kw_iload_n (pc := 12) (i := 6) (k := 1) (n := 1) rfl rfl rfl ?_
    refine kw_iald (pc := 13) (i := 7) (n := 4) rfl rfl (by omega) (by omega) (fun z10 e_z10 => ?_)
    replace hF := kf_le e_z10 hF
    have t_z10 := congrArg Int32.toInt e_z10
    have b_z10 : -1 ≤ z10.toInt ∧ z10.toInt ≤ 60 := by rw [e_z10]; exact hI 15 _
    refine kw_goto (pc := 14) (i := 8) (tgt := 18) rfl rfl ?_
    exact kw_ireturn (pc := 18) (i := 10) (ty := .int) rfl rfl rfl ⟨rfl, _, rfl, by omega, by omega, by omega, by omega, hF⟩
noncomputable def f_X3_isMissing_2 (σ : kw_S) (k : Int32) : Int32 := kf_l (f_X3_sizeOf_2 σ k) fun z1 => if z1.toInt < 0 then ((1 : Int32)) else ((0 : Int32))
theorem f_X3_isMissing_2_u (σ : kw_S) (k : Int32) : f_X3_isMissing_2 σ k = kf_l (f_X3_sizeOf_2 σ k) fun z1 => if z1.toInt < 0 then ((1 : Int32)) else ((0 : Int32)) := rfl
abbrev p_X3_isMissing_2 (σ : kw_S) (k : Int32) : Option Value → kw_S → Prop := fun vv σ' => σ' = σ ∧ ∃ r : Int32, vv = some (.int r) ∧ (r.toInt = 0 ∨ r.toInt = 1) ∧ (r.toInt = 1 ∨ 0 ≤ k.toInt ∧ k.toInt < 4) ∧ r = f_X3_isMissing_2 σ k
set_option maxRecDepth 100000 in
set_option maxHeartbeats 4000000 in
theorem c_X3_isMissing_2 (l : Launch) (σ : kw_S) (hI : kw_I bX σ) (k : Int32) : kw_Met l 3 KX mX3_isMissing [.ref 2, .int k] σ (p_X3_isMissing_2 σ k) := by
  have r_k := kw_rng k
  have hF := (f_X3_isMissing_2_u σ k).symm
  have q_0 : (0 : Int32).toInt = 0 := rfl
  have q_1 : (1 : Int32).toInt = 1 := rfl
  refine kw_Met.of (by decide) rfl tX3_isMissing (Nat.le_of_ble_eq_true rfl) ?_
  show kw_AW l 3 kw_E0 KX mX3_isMissing (p_X3_isMissing_2 σ k) 0 [(0, .ref 2), (1, .int k)] [] σ
  refine kw_aload_n (pc := 0) (i := 0) (k := 0) (n := 0) rfl rfl rfl ?_
  refine kw_iload_n (pc := 1) (i := 1) (k := 1) (n := 1) rfl rfl rfl ?_
  refine kw_callV (pc := 2) (i := 2) (Y := mX3_sizeOf) (a := 2) (As := [.int k]) (st := []) kw_hE rfl rfl lvX3_30 arX3_sizeOf (c_X3_sizeOf_2 l σ hI k ) (by decide) (Nat.le_of_ble_eq_true rfl) rfl (fun v S2 p1 => ?_)
  obtain ⟨e9, z8, rfl, f3, f4, f5, f6, ef7⟩ := p1
  rw [e9]
  replace hF := kf_le ef7 hF
  have r_z8 := kw_rng z8
  show kw_AW l 3 kw_E0 KX mX3_isMissing (p_X3_isMissing_2 σ k) 5 [(0, .ref 2), (1, .int k)] [.int z8] σ
  refine kw_if_ge (pc := 5) (i := 3) (tgt := 12) rfl rfl (fun c10 => ?_) (fun c10 => ?_)
  · replace hF := kf_nl c10 hF
    refine kw_iconst (pc := 12) (i := 6) (v := 0) rfl rfl ?_
    exact kw_ireturn (pc := 13) (i := 7) (ty := .boolean) rfl rfl rfl ⟨rfl, _, rfl, by omega, by omega, hF⟩
  · replace hF := kf_p c10 hF
    refine kw_iconst (pc := 8) (i := 4) (v := 1) rfl rfl ?_
    refine kw_goto (pc := 9) (i := 5) (tgt := 13) rfl rfl ?_
    exact kw_ireturn (pc := 13) (i := 7) (ty := .boolean) rfl rfl rfl ⟨rfl, _, rfl, by omega, by omega, hF⟩
noncomputable def l_X3_howMany_2_4 (S : kw_S) : Nat → Int32 → Int32 → Int32
  | 0, _, _ => 0
  | n + 1, x1, x2 => if x2.toInt < (4 : Int32).toInt then (kf_l (S.1 15 x2.toNatClampNeg) fun z1 => if z1.toInt < 0 then (kf_l (x2 + Int32.ofInt 1) fun z2 => l_X3_howMany_2_4 S n x1 z2) else (kf_l (x1 + Int32.ofInt 1) fun z3 => kf_l (x2 + Int32.ofInt 1) fun z4 => l_X3_howMany_2_4 S n z3 z4)) else (x1)
theorem l_X3_howMany_2_4_s (S : kw_S) (n : Nat) (x1 : Int32) (x2 : Int32) : l_X3_howMany_2_4 S (n + 1) x1 x2 = if x2.toInt < (4 : Int32).toInt then (kf_l (S.1 15 x2.toNatClampNeg) fun z1 => if z1.toInt < 0 then (kf_l (x2 + Int32.ofInt 1) fun z2 => l_X3_howMany_2_4 S n x1 z2) else (kf_l (x1 + Int32.ofInt 1) fun z3 => kf_l (x2 + Int32.ofInt 1) fun z4 => l_X3_howMany_2_4 S n z3 z4)) else (x1) := rfl
noncomputable def f_X3_howMany_2 (σ : kw_S)  : Int32 := l_X3_howMany_2_4 σ ((10 - (0 : Int32).toInt).toNat + 1) (0 : Int32) (0 : Int32)
theorem f_X3_howMany_2_u (σ : kw_S)  : f_X3_howMany_2 σ  = l_X3_howMany_2_4 σ ((10 - (0 : Int32).toInt).toNat + 1) (0 : Int32) (0 : Int32) := rfl
abbrev p_X3_howMany_2 (σ : kw_S)  : Option Value → kw_S → Prop := fun vv σ' => σ' = σ ∧ ∃ r : Int32, vv = some (.int r) ∧ r = f_X3_howMany_2 σ
set_option maxRecDepth 100000 in
set_option maxHeartbeats 4000000 in
theorem c_X3_howMany_2 (l : Launch) (σ : kw_S) (hI : kw_I bX σ)  : kw_Met l 1 KX mX3_howMany [.ref 2] σ (p_X3_howMany_2 σ) := by
  have hF := (f_X3_howMany_2_u σ).symm
  have q_0 : (0 : Int32).toInt = 0 := rfl
  have q_4 : (4 : Int32).toInt = 4 := rfl
  refine kw_Met.of (by decide) rfl tX3_howMany (Nat.le_of_ble_eq_true rfl) ?_
  show kw_AW l 1 kw_E0 KX mX3_howMany (p_X3_howMany_2 σ) 0 [(0, .ref 2)] [] σ
  refine kw_iconst (pc := 0) (i := 0) (v := 0) rfl rfl ?_
  refine kw_istore_n (pc := 1) (i := 1) (n := 1) (lv' := [(1, .int 0), (0, .ref 2)]) rfl rfl (by decide) rfl ?_
  refine kw_iconst (pc := 2) (i := 2) (v := 0) rfl rfl ?_
  refine kw_istore_n (pc := 3) (i := 3) (n := 2) (lv' := [(2, .int 0), (1, .int 0), (0, .ref 2)]) rfl rfl (by decide) rfl ?_
  have L3 : ∀ (n7 : Nat) (x1 : Int32) (x2 : Int32), 0 ≤ x1.toInt → l_X3_howMany_2_4 σ n7 x2 x1 = (f_X3_howMany_2 σ) → (10 - x1.toInt).toNat < n7 → kw_AW l 1 kw_E0 KX mX3_howMany (p_X3_howMany_2 σ) 4 [(2, .int x1), (1, .int x2), (0, .ref 2)] [] σ := by
    intro n7
    induction n7 with
    | zero => intro x1 x2 v5 hF m6; exact absurd m6 (Nat.not_lt_zero _)
    | succ n7 ih4 =>
      intro x1 x2 v5 hF m6
      replace hF := kf_st (l_X3_howMany_2_4_s _ _ _ _) hF
      have r_x1 := kw_rng x1
      have r_x2 := kw_rng x2
      refine kw_iload_n (pc := 4) (i := 4) (k := 0) (n := 2) rfl rfl rfl ?_
      refine kw_aload_n (pc := 5) (i := 5) (k := 2) (n := 0) rfl rfl rfl ?_
      refine kw_get (pc := 6) (i := 6) (v := .ref 15) rfl rfl rfl lkX3_20 (fun _ => rfl) ?_
      refine kw_alen (pc := 9) (i := 7) (n := 4) (v := 4) rfl rfl rfl ?_
      refine kw_icmp_ge (pc := 10) (i := 8) (tgt := 31) rfl rfl (fun c8 => ?_) (fun c8 => ?_)
      · replace hF := kf_nl c8 hF
        refine kw_iload_n (pc := 31) (i := 17) (k := 1) (n := 1) rfl rfl rfl ?_
        exact kw_ireturn (pc := 32) (i := 18) (ty := .int) rfl rfl rfl ⟨rfl, _, rfl, hF⟩
      · replace hF := kf_p c8 hF
        refine kw_aload_n (pc := 13) (i := 9) (k := 2) (n := 0) rfl rfl rfl ?_
        refine kw_get (pc := 14) (i := 10) (v := .ref 15) rfl rfl rfl lkX3_20 (fun _ => rfl) ?_
        refine kw_iload_n (pc := 17) (i := 11) (k := 0) (n := 2) rfl rfl rfl ?_
        refine kw_iald (pc := 18) (i := 12) (n := 4) rfl rfl (by omega) (by omega) (fun z9 e_z9 => ?_)
        replace hF := kf_le e_z9 hF
        have t_z9 := congrArg Int32.toInt e_z9
        have b_z9 : -1 ≤ z9.toInt ∧ z9.toInt ≤ 60 := by rw [e_z9]; exact hI 15 _
        refine kw_if_lt (pc := 19) (i := 13) (tgt := 25) rfl rfl (fun c10 => ?_) (fun c10 => ?_)
        · replace hF := kf_p c10 hF
          refine kw_iinc' (pc := 25) (i := 15) (k := 0) (fun z => [(2, .int z), (1, .int x2), (0, .ref 2)]) rfl rfl (by decide) rfl (fun _ => rfl) (fun z11 e_z11 t_z11 => ?_)
          replace hF := kf_le e_z11 hF
          refine kw_goto (pc := 28) (i := 16) (tgt := 4) rfl rfl ?_
          refine kw_sub (lv' := [(2, .int z11), (1, .int x2), (0, .ref 2)]) [0, 1, 2] rfl ?_
          exact ih4 z11 x2 (by omega) hF (by omega)
        · replace hF := kf_nl c10 hF
          refine kw_iinc' (pc := 22) (i := 14) (k := 1) (fun z => [(1, .int z), (2, .int x1), (0, .ref 2)]) rfl rfl (by decide) rfl (fun _ => rfl) (fun z12 e_z12 t_z12 => ?_)
          replace hF := kf_le e_z12 hF
          refine kw_iinc' (pc := 25) (i := 15) (k := 1) (fun z => [(2, .int z), (1, .int z12), (0, .ref 2)]) rfl rfl (by decide) rfl (fun _ => rfl) (fun z13 e_z13 t_z13 => ?_)
          replace hF := kf_le e_z13 hF
          refine kw_goto (pc := 28) (i := 16) (tgt := 4) rfl rfl ?_
          refine kw_sub (lv' := [(2, .int z13), (1, .int z12), (0, .ref 2)]) [0, 1, 2] rfl ?_
          exact ih4 z13 z12 (by omega) hF (by omega)
  exact L3 _ 0 0 (by omega) hF (Nat.lt_succ_self _)
noncomputable def f_X3_hasPlaces_2 (σ : kw_S) (k : Int32) (f : Int32) (n : Int32) : Int32 := kf_l (f_X3_has_2 σ k) fun z1 => if z1.toInt = 0 then ((0 : Int32)) else (if f.toInt < 0 then ((0 : Int32)) else (if n.toInt < 0 then ((0 : Int32)) else (kf_l (σ.1 15 k.toNatClampNeg) fun z2 => kf_l (z2 - n) fun z3 => if z3.toInt < f.toInt then ((0 : Int32)) else ((1 : Int32)))))
theorem f_X3_hasPlaces_2_u (σ : kw_S) (k : Int32) (f : Int32) (n : Int32) : f_X3_hasPlaces_2 σ k f n = kf_l (f_X3_has_2 σ k) fun z1 => if z1.toInt = 0 then ((0 : Int32)) else (if f.toInt < 0 then ((0 : Int32)) else (if n.toInt < 0 then ((0 : Int32)) else (kf_l (σ.1 15 k.toNatClampNeg) fun z2 => kf_l (z2 - n) fun z3 => if z3.toInt < f.toInt then ((0 : Int32)) else ((1 : Int32))))) := rfl
abbrev p_X3_hasPlaces_2 (σ : kw_S) (k : Int32) (f : Int32) (n : Int32) : Option Value → kw_S → Prop := fun vv σ' => σ' = σ ∧ ∃ r : Int32, vv = some (.int r) ∧ (r.toInt = 0 ∨ r.toInt = 1) ∧ (r.toInt = 0 ∨ 0 ≤ k.toInt ∧ k.toInt < 4 ∧ 0 ≤ f.toInt ∧ 0 ≤ n.toInt ∧ f.toInt + n.toInt ≤ 60) ∧ r = f_X3_hasPlaces_2 σ k f n
set_option maxRecDepth 100000 in
set_option maxHeartbeats 4000000 in
theorem c_X3_hasPlaces_2 (l : Launch) (σ : kw_S) (hI : kw_I bX σ) (k : Int32) (f : Int32) (n : Int32) : kw_Met l 2 KX mX3_hasPlaces [.ref 2, .int k, .int f, .int n] σ (p_X3_hasPlaces_2 σ k f n) := by
  have r_k := kw_rng k
  have r_f := kw_rng f
  have r_n := kw_rng n
  have hF := (f_X3_hasPlaces_2_u σ k f n).symm
  have q_0 : (0 : Int32).toInt = 0 := rfl
  have q_1 : (1 : Int32).toInt = 1 := rfl
  refine kw_Met.of (by decide) rfl tX3_hasPlaces (Nat.le_of_ble_eq_true rfl) ?_
  show kw_AW l 2 kw_E0 KX mX3_hasPlaces (p_X3_hasPlaces_2 σ k f n) 0 [(0, .ref 2), (1, .int k), (2, .int f), (3, .int n)] [] σ
  refine kw_aload_n (pc := 0) (i := 0) (k := 0) (n := 0) rfl rfl rfl ?_
  refine kw_iload_n (pc := 1) (i := 1) (k := 1) (n := 1) rfl rfl rfl ?_
  refine kw_callV (pc := 2) (i := 2) (Y := mX3_has) (a := 2) (As := [.int k]) (st := []) kw_hE rfl rfl lvX3_34 arX3_has (c_X3_has_2 l σ hI k ) (by decide) (Nat.le_of_ble_eq_true rfl) rfl (fun v S2 p1 => ?_)
  obtain ⟨e8, z7, rfl, f3, f4, f5, ef6⟩ := p1
  rw [e8]
  replace hF := kf_le ef6 hF
  have r_z7 := kw_rng z7
  show kw_AW l 2 kw_E0 KX mX3_hasPlaces (p_X3_hasPlaces_2 σ k f n) 5 [(0, .ref 2), (1, .int k), (2, .int f), (3, .int n)] [.int z7] σ
  refine kw_if_eq (pc := 5) (i := 3) (tgt := 32) rfl rfl (fun c9 => ?_) (fun c9 => ?_)
  · replace hF := kf_p c9 hF
    refine kw_iconst (pc := 32) (i := 18) (v := 0) rfl rfl ?_
    exact kw_ireturn (pc := 33) (i := 19) (ty := .boolean) rfl rfl rfl ⟨rfl, _, rfl, by omega, by omega, hF⟩
  · replace hF := kf_n c9 hF
    refine kw_iload_n (pc := 8) (i := 4) (k := 2) (n := 2) rfl rfl rfl ?_
    refine kw_if_lt (pc := 9) (i := 5) (tgt := 32) rfl rfl (fun c10 => ?_) (fun c10 => ?_)
    · replace hF := kf_p c10 hF
      refine kw_iconst (pc := 32) (i := 18) (v := 0) rfl rfl ?_
      exact kw_ireturn (pc := 33) (i := 19) (ty := .boolean) rfl rfl rfl ⟨rfl, _, rfl, by omega, by omega, hF⟩
    · replace hF := kf_nl c10 hF
      refine kw_iload_n (pc := 12) (i := 6) (k := 3) (n := 3) rfl rfl rfl ?_
      refine kw_if_lt (pc := 13) (i := 7) (tgt := 32) rfl rfl (fun c11 => ?_) (fun c11 => ?_)
      · replace hF := kf_p c11 hF
        refine kw_iconst (pc := 32) (i := 18) (v := 0) rfl rfl ?_
        exact kw_ireturn (pc := 33) (i := 19) (ty := .boolean) rfl rfl rfl ⟨rfl, _, rfl, by omega, by omega, hF⟩
      · replace hF := kf_nl c11 hF
        refine kw_iload_n (pc := 16) (i := 8) (k := 2) (n := 2) rfl rfl rfl ?_
        refine kw_aload_n (pc := 17) (i := 9) (k := 0) (n := 0) rfl rfl rfl ?_
        refine kw_get (pc := 18) (i := 10) (v := .ref 15) rfl rfl rfl lkX3_20 (fun _ => rfl) ?_
        refine kw_iload_n (pc := 21) (i := 11) (k := 1) (n := 1) rfl rfl rfl ?_
        refine kw_iald (pc := 22) (i := 12) (n := 4) rfl rfl (by omega) (by omega) (fun z12 e_z12 => ?_)
        replace hF := kf_le e_z12 hF
        have t_z12 := congrArg Int32.toInt e_z12
        have b_z12 : -1 ≤ z12.toInt ∧ z12.toInt ≤ 60 := by rw [e_z12]; exact hI 15 _
        refine kw_iload_n (pc := 23) (i := 13) (k := 3) (n := 3) rfl rfl rfl ?_
        refine kw_isub (pc := 24) (i := 14) rfl (fun z13 e_z13 t_z13 => ?_)
        replace hF := kf_le e_z13 hF
        refine kw_icmp_gt (pc := 25) (i := 15) (tgt := 32) rfl rfl (fun c14 => ?_) (fun c14 => ?_)
        · replace hF := kf_p c14 hF
          refine kw_iconst (pc := 32) (i := 18) (v := 0) rfl rfl ?_
          exact kw_ireturn (pc := 33) (i := 19) (ty := .boolean) rfl rfl rfl ⟨rfl, _, rfl, by omega, by omega, hF⟩
        · replace hF := kf_nl c14 hF
          refine kw_iconst (pc := 28) (i := 16) (v := 1) rfl rfl ?_
          refine kw_goto (pc := 29) (i := 17) (tgt := 33) rfl rfl ?_
          exact kw_ireturn (pc := 33) (i := 19) (ty := .boolean) rfl rfl rfl ⟨rfl, _, rfl, by omega, by omega, hF⟩
noncomputable def f_X3_has_5 (σ : kw_S) (k : Int32) : Int32 := if k.toInt < 0 then ((0 : Int32)) else (if k.toInt < (3 : Int32).toInt then ((1 : Int32)) else ((0 : Int32)))
theorem f_X3_has_5_u (σ : kw_S) (k : Int32) : f_X3_has_5 σ k = if k.toInt < 0 then ((0 : Int32)) else (if k.toInt < (3 : Int32).toInt then ((1 : Int32)) else ((0 : Int32))) := rfl
abbrev p_X3_has_5 (σ : kw_S) (k : Int32) : Option Value → kw_S → Prop := fun vv σ' => σ' = σ ∧ ∃ r : Int32, vv = some (.int r) ∧ (r.toInt = 0 ∨ r.toInt = 1) ∧ (r.toInt = 0 ∨ 0 ≤ k.toInt ∧ k.toInt < 3) ∧ (r.toInt = 1 ∨ k.toInt < 0 ∨ 3 ≤ k.toInt) ∧ r = f_X3_has_5 σ k
set_option maxRecDepth 100000 in
set_option maxHeartbeats 4000000 in
theorem c_X3_has_5 (l : Launch) (σ : kw_S) (hI : kw_I bX σ) (k : Int32) : kw_Met l 1 KX mX3_has [.ref 5, .int k] σ (p_X3_has_5 σ k) := by
  have r_k := kw_rng k
  have hF := (f_X3_has_5_u σ k).symm
  have q_0 : (0 : Int32).toInt = 0 := rfl
  have q_1 : (1 : Int32).toInt = 1 := rfl
  have q_3 : (3 : Int32).toInt = 3 := rfl
  refine kw_Met.of (by decide) rfl tX3_has (Nat.le_of_ble_eq_true rfl) ?_
  show kw_AW l 1 kw_E0 KX mX3_has (p_X3_has_5 σ k) 0 [(0, .ref 5), (1, .int k)] [] σ
  refine kw_iload_n (pc := 0) (i := 0) (k := 1) (n := 1) rfl rfl rfl ?_
  refine kw_if_lt (pc := 1) (i := 1) (tgt := 17) rfl rfl (fun c1 => ?_) (fun c1 => ?_)
  · replace hF := kf_p c1 hF
    refine kw_iconst (pc := 17) (i := 9) (v := 0) rfl rfl ?_
    exact kw_ireturn (pc := 18) (i := 10) (ty := .boolean) rfl rfl rfl ⟨rfl, _, rfl, by omega, by omega, by omega, hF⟩
  · replace hF := kf_nl c1 hF
    refine kw_iload_n (pc := 4) (i := 2) (k := 1) (n := 1) rfl rfl rfl ?_
    refine kw_aload_n (pc := 5) (i := 3) (k := 0) (n := 0) rfl rfl rfl ?_
    refine kw_get (pc := 6) (i := 4) (v := .ref 21) rfl rfl rfl lkX3_20 (fun _ => rfl) ?_
    refine kw_alen (pc := 9) (i := 5) (n := 3) (v := 3) rfl rfl rfl ?_
    refine kw_icmp_ge (pc := 10) (i := 6) (tgt := 17) rfl rfl (fun c2 => ?_) (fun c2 => ?_)
    · replace hF := kf_nl c2 hF
      refine kw_iconst (pc := 17) (i := 9) (v := 0) rfl rfl ?_
      exact kw_ireturn (pc := 18) (i := 10) (ty := .boolean) rfl rfl rfl ⟨rfl, _, rfl, by omega, by omega, by omega, hF⟩
    · replace hF := kf_p c2 hF
      refine kw_iconst (pc := 13) (i := 7) (v := 1) rfl rfl ?_
      refine kw_goto (pc := 14) (i := 8) (tgt := 18) rfl rfl ?_
      exact kw_ireturn (pc := 18) (i := 10) (ty := .boolean) rfl rfl rfl ⟨rfl, _, rfl, by omega, by omega, by omega, hF⟩
noncomputable def f_X3_sizeOf_5 (σ : kw_S) (k : Int32) : Int32 := kf_l (f_X3_has_5 σ k) fun z1 => if z1.toInt = 0 then (((-1) : Int32)) else (kf_l (σ.1 21 k.toNatClampNeg) fun z2 => z2)
theorem f_X3_sizeOf_5_u (σ : kw_S) (k : Int32) : f_X3_sizeOf_5 σ k = kf_l (f_X3_has_5 σ k) fun z1 => if z1.toInt = 0 then (((-1) : Int32)) else (kf_l (σ.1 21 k.toNatClampNeg) fun z2 => z2) := rfl
abbrev p_X3_sizeOf_5 (σ : kw_S) (k : Int32) : Option Value → kw_S → Prop := fun vv σ' => σ' = σ ∧ ∃ r : Int32, vv = some (.int r) ∧ -1 ≤ r.toInt ∧ r.toInt ≤ 40 ∧ (r.toInt < 0 ∨ 0 ≤ k.toInt ∧ k.toInt < 3) ∧ (0 ≤ k.toInt → k.toInt < 3 → r.toInt = (σ.1 21 k.toNatClampNeg).toInt) ∧ r = f_X3_sizeOf_5 σ k
set_option maxRecDepth 100000 in
set_option maxHeartbeats 4000000 in
theorem c_X3_sizeOf_5 (l : Launch) (σ : kw_S) (hI : kw_I bX σ) (k : Int32) : kw_Met l 2 KX mX3_sizeOf [.ref 5, .int k] σ (p_X3_sizeOf_5 σ k) := by
  have r_k := kw_rng k
  have hF := (f_X3_sizeOf_5_u σ k).symm
  have q_m1 : (-1 : Int32).toInt = -1 := rfl
  refine kw_Met.of (by decide) rfl tX3_sizeOf (Nat.le_of_ble_eq_true rfl) ?_
  show kw_AW l 2 kw_E0 KX mX3_sizeOf (p_X3_sizeOf_5 σ k) 0 [(0, .ref 5), (1, .int k)] [] σ
  refine kw_aload_n (pc := 0) (i := 0) (k := 0) (n := 0) rfl rfl rfl ?_
  refine kw_iload_n (pc := 1) (i := 1) (k := 1) (n := 1) rfl rfl rfl ?_
  refine kw_callV (pc := 2) (i := 2) (Y := mX3_has) (a := 5) (As := [.int k]) (st := []) kw_hE rfl rfl lvX3_34 arX3_has (c_X3_has_5 l σ hI k ) (by decide) (Nat.le_of_ble_eq_true rfl) rfl (fun v S2 p1 => ?_)
  obtain ⟨e8, z7, rfl, f3, f4, f5, ef6⟩ := p1
  rw [e8]
  replace hF := kf_le ef6 hF
  have r_z7 := kw_rng z7
  show kw_AW l 2 kw_E0 KX mX3_sizeOf (p_X3_sizeOf_5 σ k) 5 [(0, .ref 5), (1, .int k)] [.int z7] σ
  refine kw_if_eq (pc := 5) (i := 3) (tgt := 17) rfl rfl (fun c9 => ?_) (fun c9 => ?_)
  · replace hF := kf_p c9 hF
    refine kw_iconst (pc := 17) (i := 9) (v := (-1)) rfl rfl ?_
    exact kw_ireturn (pc := 18) (i := 10) (ty := .int) rfl rfl rfl ⟨rfl, _, rfl, by omega, by omega, by omega, by omega, hF⟩
  · replace hF := kf_n c9 hF
    refine kw_aload_n (pc := 8) (i := 4) (k := 0) (n := 0) rfl rfl rfl ?_
    refine kw_get (pc := 9) (i := 5) (v := .ref 21) rfl rfl rfl lkX3_20 (fun _ => rfl) ?_
    refine kw_iload_n (pc := 12) (i := 6) (k := 1) (n := 1) rfl rfl rfl ?_
    refine kw_iald (pc := 13) (i := 7) (n := 3) rfl rfl (by omega) (by omega) (fun z10 e_z10 => ?_)
    replace hF := kf_le e_z10 hF
    have t_z10 := congrArg Int32.toInt e_z10
    have b_z10 : -1 ≤ z10.toInt ∧ z10.toInt ≤ 40 := by rw [e_z10]; exact hI 21 _
    refine kw_goto (pc := 14) (i := 8) (tgt := 18) rfl rfl ?_
    exact kw_ireturn (pc := 18) (i := 10) (ty := .int) rfl rfl rfl ⟨rfl, _, rfl, by omega, by omega, by omega, by omega, hF⟩
noncomputable def f_X3_isMissing_5 (σ : kw_S) (k : Int32) : Int32 := kf_l (f_X3_sizeOf_5 σ k) fun z1 => if z1.toInt < 0 then ((1 : Int32)) else ((0 : Int32))
theorem f_X3_isMissing_5_u (σ : kw_S) (k : Int32) : f_X3_isMissing_5 σ k = kf_l (f_X3_sizeOf_5 σ k) fun z1 => if z1.toInt < 0 then ((1 : Int32)) else ((0 : Int32)) := rfl
abbrev p_X3_isMissing_5 (σ : kw_S) (k : Int32) : Option Value → kw_S → Prop := fun vv σ' => σ' = σ ∧ ∃ r : Int32, vv = some (.int r) ∧ (r.toInt = 0 ∨ r.toInt = 1) ∧ (r.toInt = 1 ∨ 0 ≤ k.toInt ∧ k.toInt < 3) ∧ r = f_X3_isMissing_5 σ k
set_option maxRecDepth 100000 in
set_option maxHeartbeats 4000000 in
theorem c_X3_isMissing_5 (l : Launch) (σ : kw_S) (hI : kw_I bX σ) (k : Int32) : kw_Met l 3 KX mX3_isMissing [.ref 5, .int k] σ (p_X3_isMissing_5 σ k) := by
  have r_k := kw_rng k
  have hF := (f_X3_isMissing_5_u σ k).symm
  have q_0 : (0 : Int32).toInt = 0 := rfl
  have q_1 : (1 : Int32).toInt = 1 := rfl
  refine kw_Met.of (by decide) rfl tX3_isMissing (Nat.le_of_ble_eq_true rfl) ?_
  show kw_AW l 3 kw_E0 KX mX3_isMissing (p_X3_isMissing_5 σ k) 0 [(0, .ref 5), (1, .int k)] [] σ
  refine kw_aload_n (pc := 0) (i := 0) (k := 0) (n := 0) rfl rfl rfl ?_
  refine kw_iload_n (pc := 1) (i := 1) (k := 1) (n := 1) rfl rfl rfl ?_
  refine kw_callV (pc := 2) (i := 2) (Y := mX3_sizeOf) (a := 5) (As := [.int k]) (st := []) kw_hE rfl rfl lvX3_30 arX3_sizeOf (c_X3_sizeOf_5 l σ hI k ) (by decide) (Nat.le_of_ble_eq_true rfl) rfl (fun v S2 p1 => ?_)
  obtain ⟨e9, z8, rfl, f3, f4, f5, f6, ef7⟩ := p1
  rw [e9]
  replace hF := kf_le ef7 hF
  have r_z8 := kw_rng z8
  show kw_AW l 3 kw_E0 KX mX3_isMissing (p_X3_isMissing_5 σ k) 5 [(0, .ref 5), (1, .int k)] [.int z8] σ
  refine kw_if_ge (pc := 5) (i := 3) (tgt := 12) rfl rfl (fun c10 => ?_) (fun c10 => ?_)
  · replace hF := kf_nl c10 hF
    refine kw_iconst (pc := 12) (i := 6) (v := 0) rfl rfl ?_
    exact kw_ireturn (pc := 13) (i := 7) (ty := .boolean) rfl rfl rfl ⟨rfl, _, rfl, by omega, by omega, hF⟩
  · replace hF := kf_p c10 hF
    refine kw_iconst (pc := 8) (i := 4) (v := 1) rfl rfl ?_
    refine kw_goto (pc := 9) (i := 5) (tgt := 13) rfl rfl ?_
    exact kw_ireturn (pc := 13) (i := 7) (ty := .boolean) rfl rfl rfl ⟨rfl, _, rfl, by omega, by omega, hF⟩
noncomputable def l_X3_howMany_5_4 (S : kw_S) : Nat → Int32 → Int32 → Int32
  | 0, _, _ => 0
  | n + 1, x1, x2 => if x2.toInt < (3 : Int32).toInt then (kf_l (S.1 21 x2.toNatClampNeg) fun z1 => if z1.toInt < 0 then (kf_l (x2 + Int32.ofInt 1) fun z2 => l_X3_howMany_5_4 S n x1 z2) else (kf_l (x1 + Int32.ofInt 1) fun z3 => kf_l (x2 + Int32.ofInt 1) fun z4 => l_X3_howMany_5_4 S n z3 z4)) else (x1)
theorem l_X3_howMany_5_4_s (S : kw_S) (n : Nat) (x1 : Int32) (x2 : Int32) : l_X3_howMany_5_4 S (n + 1) x1 x2 = if x2.toInt < (3 : Int32).toInt then (kf_l (S.1 21 x2.toNatClampNeg) fun z1 => if z1.toInt < 0 then (kf_l (x2 + Int32.ofInt 1) fun z2 => l_X3_howMany_5_4 S n x1 z2) else (kf_l (x1 + Int32.ofInt 1) fun z3 => kf_l (x2 + Int32.ofInt 1) fun z4 => l_X3_howMany_5_4 S n z3 z4)) else (x1) := rfl
noncomputable def f_X3_howMany_5 (σ : kw_S)  : Int32 := l_X3_howMany_5_4 σ ((10 - (0 : Int32).toInt).toNat + 1) (0 : Int32) (0 : Int32)
theorem f_X3_howMany_5_u (σ : kw_S)  : f_X3_howMany_5 σ  = l_X3_howMany_5_4 σ ((10 - (0 : Int32).toInt).toNat + 1) (0 : Int32) (0 : Int32) := rfl
abbrev p_X3_howMany_5 (σ : kw_S)  : Option Value → kw_S → Prop := fun vv σ' => σ' = σ ∧ ∃ r : Int32, vv = some (.int r) ∧ r = f_X3_howMany_5 σ
set_option maxRecDepth 100000 in
set_option maxHeartbeats 4000000 in
theorem c_X3_howMany_5 (l : Launch) (σ : kw_S) (hI : kw_I bX σ)  : kw_Met l 1 KX mX3_howMany [.ref 5] σ (p_X3_howMany_5 σ) := by
  have hF := (f_X3_howMany_5_u σ).symm
  have q_0 : (0 : Int32).toInt = 0 := rfl
  have q_3 : (3 : Int32).toInt = 3 := rfl
  refine kw_Met.of (by decide) rfl tX3_howMany (Nat.le_of_ble_eq_true rfl) ?_
  show kw_AW l 1 kw_E0 KX mX3_howMany (p_X3_howMany_5 σ) 0 [(0, .ref 5)] [] σ
  refine kw_iconst (pc := 0) (i := 0) (v := 0) rfl rfl ?_
  refine kw_istore_n (pc := 1) (i := 1) (n := 1) (lv' := [(1, .int 0), (0, .ref 5)]) rfl rfl (by decide) rfl ?_
  refine kw_iconst (pc := 2) (i := 2) (v := 0) rfl rfl ?_
  refine kw_istore_n (pc := 3) (i := 3) (n := 2) (lv' := [(2, .int 0), (1, .int 0), (0, .ref 5)]) rfl rfl (by decide) rfl ?_
  have L3 : ∀ (n7 : Nat) (x1 : Int32) (x2 : Int32), 0 ≤ x1.toInt → l_X3_howMany_5_4 σ n7 x2 x1 = (f_X3_howMany_5 σ) → (10 - x1.toInt).toNat < n7 → kw_AW l 1 kw_E0 KX mX3_howMany (p_X3_howMany_5 σ) 4 [(2, .int x1), (1, .int x2), (0, .ref 5)] [] σ := by
    intro n7
    induction n7 with
    | zero => intro x1 x2 v5 hF m6; exact absurd m6 (Nat.not_lt_zero _)
    | succ n7 ih4 =>
      intro x1 x2 v5 hF m6
      replace hF := kf_st (l_X3_howMany_5_4_s _ _ _ _) hF
      have r_x1 := kw_rng x1
      have r_x2 := kw_rng x2
      refine kw_iload_n (pc := 4) (i := 4) (k := 0) (n := 2) rfl rfl rfl ?_
      refine kw_aload_n (pc := 5) (i := 5) (k := 2) (n := 0) rfl rfl rfl ?_
      refine kw_get (pc := 6) (i := 6) (v := .ref 21) rfl rfl rfl lkX3_20 (fun _ => rfl) ?_
      refine kw_alen (pc := 9) (i := 7) (n := 3) (v := 3) rfl rfl rfl ?_
      refine kw_icmp_ge (pc := 10) (i := 8) (tgt := 31) rfl rfl (fun c8 => ?_) (fun c8 => ?_)
      · replace hF := kf_nl c8 hF
        refine kw_iload_n (pc := 31) (i := 17) (k := 1) (n := 1) rfl rfl rfl ?_
        exact kw_ireturn (pc := 32) (i := 18) (ty := .int) rfl rfl rfl ⟨rfl, _, rfl, hF⟩
      · replace hF := kf_p c8 hF
        refine kw_aload_n (pc := 13) (i := 9) (k := 2) (n := 0) rfl rfl rfl ?_
        refine kw_get (pc := 14) (i := 10) (v := .ref 21) rfl rfl rfl lkX3_20 (fun _ => rfl) ?_
        refine kw_iload_n (pc := 17) (i := 11) (k := 0) (n := 2) rfl rfl rfl ?_
        refine kw_iald (pc := 18) (i := 12) (n := 3) rfl rfl (by omega) (by omega) (fun z9 e_z9 => ?_)
        replace hF := kf_le e_z9 hF
        have t_z9 := congrArg Int32.toInt e_z9
        have b_z9 : -1 ≤ z9.toInt ∧ z9.toInt ≤ 40 := by rw [e_z9]; exact hI 21 _
        refine kw_if_lt (pc := 19) (i := 13) (tgt := 25) rfl rfl (fun c10 => ?_) (fun c10 => ?_)
        · replace hF := kf_p c10 hF
          refine kw_iinc' (pc := 25) (i := 15) (k := 0) (fun z => [(2, .int z), (1, .int x2), (0, .ref 5)]) rfl rfl (by decide) rfl (fun _ => rfl) (fun z11 e_z11 t_z11 => ?_)
          replace hF := kf_le e_z11 hF
          refine kw_goto (pc := 28) (i := 16) (tgt := 4) rfl rfl ?_
          refine kw_sub (lv' := [(2, .int z11), (1, .int x2), (0, .ref 5)]) [0, 1, 2] rfl ?_
          exact ih4 z11 x2 (by omega) hF (by omega)
        · replace hF := kf_nl c10 hF
          refine kw_iinc' (pc := 22) (i := 14) (k := 1) (fun z => [(1, .int z), (2, .int x1), (0, .ref 5)]) rfl rfl (by decide) rfl (fun _ => rfl) (fun z12 e_z12 t_z12 => ?_)
          replace hF := kf_le e_z12 hF
          refine kw_iinc' (pc := 25) (i := 15) (k := 1) (fun z => [(2, .int z), (1, .int z12), (0, .ref 5)]) rfl rfl (by decide) rfl (fun _ => rfl) (fun z13 e_z13 t_z13 => ?_)
          replace hF := kf_le e_z13 hF
          refine kw_goto (pc := 28) (i := 16) (tgt := 4) rfl rfl ?_
          refine kw_sub (lv' := [(2, .int z13), (1, .int z12), (0, .ref 5)]) [0, 1, 2] rfl ?_
          exact ih4 z13 z12 (by omega) hF (by omega)
  exact L3 _ 0 0 (by omega) hF (Nat.lt_succ_self _)
noncomputable def f_X3_hasPlaces_5 (σ : kw_S) (k : Int32) (f : Int32) (n : Int32) : Int32 := kf_l (f_X3_has_5 σ k) fun z1 => if z1.toInt = 0 then ((0 : Int32)) else (if f.toInt < 0 then ((0 : Int32)) else (if n.toInt < 0 then ((0 : Int32)) else (kf_l (σ.1 21 k.toNatClampNeg) fun z2 => kf_l (z2 - n) fun z3 => if z3.toInt < f.toInt then ((0 : Int32)) else ((1 : Int32)))))
theorem f_X3_hasPlaces_5_u (σ : kw_S) (k : Int32) (f : Int32) (n : Int32) : f_X3_hasPlaces_5 σ k f n = kf_l (f_X3_has_5 σ k) fun z1 => if z1.toInt = 0 then ((0 : Int32)) else (if f.toInt < 0 then ((0 : Int32)) else (if n.toInt < 0 then ((0 : Int32)) else (kf_l (σ.1 21 k.toNatClampNeg) fun z2 => kf_l (z2 - n) fun z3 => if z3.toInt < f.toInt then ((0 : Int32)) else ((1 : Int32))))) := rfl
abbrev p_X3_hasPlaces_5 (σ : kw_S) (k : Int32) (f : Int32) (n : Int32) : Option Value → kw_S → Prop := fun vv σ' => σ' = σ ∧ ∃ r : Int32, vv = some (.int r) ∧ (r.toInt = 0 ∨ r.toInt = 1) ∧ (r.toInt = 0 ∨ 0 ≤ k.toInt ∧ k.toInt < 3 ∧ 0 ≤ f.toInt ∧ 0 ≤ n.toInt ∧ f.toInt + n.toInt ≤ 40) ∧ r = f_X3_hasPlaces_5 σ k f n
set_option maxRecDepth 100000 in
set_option maxHeartbeats 4000000 in
theorem c_X3_hasPlaces_5 (l : Launch) (σ : kw_S) (hI : kw_I bX σ) (k : Int32) (f : Int32) (n : Int32) : kw_Met l 2 KX mX3_hasPlaces [.ref 5, .int k, .int f, .int n] σ (p_X3_hasPlaces_5 σ k f n) := by
  have r_k := kw_rng k
  have r_f := kw_rng f
  have r_n := kw_rng n
  have hF := (f_X3_hasPlaces_5_u σ k f n).symm
  have q_0 : (0 : Int32).toInt = 0 := rfl
  have q_1 : (1 : Int32).toInt = 1 := rfl
  refine kw_Met.of (by decide) rfl tX3_hasPlaces (Nat.le_of_ble_eq_true rfl) ?_
  show kw_AW l 2 kw_E0 KX mX3_hasPlaces (p_X3_hasPlaces_5 σ k f n) 0 [(0, .ref 5), (1, .int k), (2, .int f), (3, .int n)] [] σ
  refine kw_aload_n (pc := 0) (i := 0) (k := 0) (n := 0) rfl rfl rfl ?_
  refine kw_iload_n (pc := 1) (i := 1) (k := 1) (n := 1) rfl rfl rfl ?_
  refine kw_callV (pc := 2) (i := 2) (Y := mX3_has) (a := 5) (As := [.int k]) (st := []) kw_hE rfl rfl lvX3_34 arX3_has (c_X3_has_5 l σ hI k ) (by decide) (Nat.le_of_ble_eq_true rfl) rfl (fun v S2 p1 => ?_)
  obtain ⟨e8, z7, rfl, f3, f4, f5, ef6⟩ := p1
  rw [e8]
  replace hF := kf_le ef6 hF
  have r_z7 := kw_rng z7
  show kw_AW l 2 kw_E0 KX mX3_hasPlaces (p_X3_hasPlaces_5 σ k f n) 5 [(0, .ref 5), (1, .int k), (2, .int f), (3, .int n)] [.int z7] σ
  refine kw_if_eq (pc := 5) (i := 3) (tgt := 32) rfl rfl (fun c9 => ?_) (fun c9 => ?_)
  · replace hF := kf_p c9 hF
    refine kw_iconst (pc := 32) (i := 18) (v := 0) rfl rfl ?_
    exact kw_ireturn (pc := 33) (i := 19) (ty := .boolean) rfl rfl rfl ⟨rfl, _, rfl, by omega, by omega, hF⟩
  · replace hF := kf_n c9 hF
    refine kw_iload_n (pc := 8) (i := 4) (k := 2) (n := 2) rfl rfl rfl ?_
    refine kw_if_lt (pc := 9) (i := 5) (tgt := 32) rfl rfl (fun c10 => ?_) (fun c10 => ?_)
    · replace hF := kf_p c10 hF
      refine kw_iconst (pc := 32) (i := 18) (v := 0) rfl rfl ?_
      exact kw_ireturn (pc := 33) (i := 19) (ty := .boolean) rfl rfl rfl ⟨rfl, _, rfl, by omega, by omega, hF⟩
    · replace hF := kf_nl c10 hF
      refine kw_iload_n (pc := 12) (i := 6) (k := 3) (n := 3) rfl rfl rfl ?_
      refine kw_if_lt (pc := 13) (i := 7) (tgt := 32) rfl rfl (fun c11 => ?_) (fun c11 => ?_)
      · replace hF := kf_p c11 hF
        refine kw_iconst (pc := 32) (i := 18) (v := 0) rfl rfl ?_
        exact kw_ireturn (pc := 33) (i := 19) (ty := .boolean) rfl rfl rfl ⟨rfl, _, rfl, by omega, by omega, hF⟩
      · replace hF := kf_nl c11 hF
        refine kw_iload_n (pc := 16) (i := 8) (k := 2) (n := 2) rfl rfl rfl ?_
        refine kw_aload_n (pc := 17) (i := 9) (k := 0) (n := 0) rfl rfl rfl ?_
        refine kw_get (pc := 18) (i := 10) (v := .ref 21) rfl rfl rfl lkX3_20 (fun _ => rfl) ?_
        refine kw_iload_n (pc := 21) (i := 11) (k := 1) (n := 1) rfl rfl rfl ?_
        refine kw_iald (pc := 22) (i := 12) (n := 3) rfl rfl (by omega) (by omega) (fun z12 e_z12 => ?_)
        replace hF := kf_le e_z12 hF
        have t_z12 := congrArg Int32.toInt e_z12
        have b_z12 : -1 ≤ z12.toInt ∧ z12.toInt ≤ 40 := by rw [e_z12]; exact hI 21 _
        refine kw_iload_n (pc := 23) (i := 13) (k := 3) (n := 3) rfl rfl rfl ?_
        refine kw_isub (pc := 24) (i := 14) rfl (fun z13 e_z13 t_z13 => ?_)
        replace hF := kf_le e_z13 hF
        refine kw_icmp_gt (pc := 25) (i := 15) (tgt := 32) rfl rfl (fun c14 => ?_) (fun c14 => ?_)
        · replace hF := kf_p c14 hF
          refine kw_iconst (pc := 32) (i := 18) (v := 0) rfl rfl ?_
          exact kw_ireturn (pc := 33) (i := 19) (ty := .boolean) rfl rfl rfl ⟨rfl, _, rfl, by omega, by omega, hF⟩
        · replace hF := kf_nl c14 hF
          refine kw_iconst (pc := 28) (i := 16) (v := 1) rfl rfl ?_
          refine kw_goto (pc := 29) (i := 17) (tgt := 33) rfl rfl ?_
          exact kw_ireturn (pc := 33) (i := 19) (ty := .boolean) rfl rfl rfl ⟨rfl, _, rfl, by omega, by omega, hF⟩
end
section
noncomputable def f_X3_valueAt_1 (σ : kw_S) (k : Int32) (i : Int32) : Int32 := kf_l (f_X3_hasPlaces_1 σ k i (1 : Int32)) fun z1 => if z1.toInt = 0 then ((1000 : Int32)) else (if k.toInt = 0 then (kf_l (σ.1 29 i.toNatClampNeg) fun z2 => z2) else if k.toInt = 1 then (kf_l (σ.1 30 i.toNatClampNeg) fun z3 => z3) else if k.toInt = 2 then (kf_l (σ.1 31 i.toNatClampNeg) fun z4 => z4) else if k.toInt = 3 then (kf_l (σ.1 32 i.toNatClampNeg) fun z5 => z5) else if k.toInt = 4 then (kf_l (σ.1 33 i.toNatClampNeg) fun z6 => z6) else if k.toInt = 5 then (kf_l (σ.1 34 i.toNatClampNeg) fun z7 => z7) else 0)
theorem f_X3_valueAt_1_u (σ : kw_S) (k : Int32) (i : Int32) : f_X3_valueAt_1 σ k i = kf_l (f_X3_hasPlaces_1 σ k i (1 : Int32)) fun z1 => if z1.toInt = 0 then ((1000 : Int32)) else (if k.toInt = 0 then (kf_l (σ.1 29 i.toNatClampNeg) fun z2 => z2) else if k.toInt = 1 then (kf_l (σ.1 30 i.toNatClampNeg) fun z3 => z3) else if k.toInt = 2 then (kf_l (σ.1 31 i.toNatClampNeg) fun z4 => z4) else if k.toInt = 3 then (kf_l (σ.1 32 i.toNatClampNeg) fun z5 => z5) else if k.toInt = 4 then (kf_l (σ.1 33 i.toNatClampNeg) fun z6 => z6) else if k.toInt = 5 then (kf_l (σ.1 34 i.toNatClampNeg) fun z7 => z7) else 0) := rfl
abbrev p_X3_valueAt_1 (σ : kw_S) (k : Int32) (i : Int32) : Option Value → kw_S → Prop := fun vv σ' => σ' = σ ∧ ∃ r : Int32, vv = some (.int r) ∧ r = f_X3_valueAt_1 σ k i
set_option maxRecDepth 100000 in
set_option maxHeartbeats 4000000 in
theorem c_X3_valueAt_1 (l : Launch) (σ : kw_S) (hI : kw_I bX σ) (k : Int32) (i : Int32) : kw_Met l 3 KX mX3_valueAt [.ref 1, .int k, .int i] σ (p_X3_valueAt_1 σ k i) := by
  have r_k := kw_rng k
  have r_i := kw_rng i
  have hF := (f_X3_valueAt_1_u σ k i).symm
  have q_1 : (1 : Int32).toInt = 1 := rfl
  have q_1000 : (1000 : Int32).toInt = 1000 := rfl
  refine kw_Met.of (by decide) rfl tX3_valueAt (Nat.le_of_ble_eq_true rfl) ?_
  show kw_AW l 3 kw_E0 KX mX3_valueAt (p_X3_valueAt_1 σ k i) 0 [(0, .ref 1), (1, .int k), (2, .int i)] [] σ
  refine kw_aload_n (pc := 0) (i := 0) (k := 0) (n := 0) rfl rfl rfl ?_
  refine kw_iload_n (pc := 1) (i := 1) (k := 1) (n := 1) rfl rfl rfl ?_
  refine kw_iload_n (pc := 2) (i := 2) (k := 2) (n := 2) rfl rfl rfl ?_
  refine kw_iconst (pc := 3) (i := 3) (v := 1) rfl rfl ?_
  refine kw_callV (pc := 4) (i := 4) (Y := mX3_hasPlaces) (a := 1) (As := [.int k, .int i, .int 1]) (st := []) kw_hE rfl rfl lvX3_41 arX3_hasPlaces (c_X3_hasPlaces_1 l σ hI k i 1 ) (by decide) (Nat.le_of_ble_eq_true rfl) rfl (fun v S2 p1 => ?_)
  obtain ⟨e7, z6, rfl, f3, f4, ef5⟩ := p1
  rw [e7]
  replace hF := kf_le ef5 hF
  have r_z6 := kw_rng z6
  show kw_AW l 3 kw_E0 KX mX3_valueAt (p_X3_valueAt_1 σ k i) 7 [(0, .ref 1), (1, .int k), (2, .int i)] [.int z6] σ
  refine kw_if_eq (pc := 7) (i := 5) (tgt := 21) rfl rfl (fun c8 => ?_) (fun c8 => ?_)
  · replace hF := kf_p c8 hF
    refine kw_sipush (pc := 21) (i := 13) (v := 1000) rfl rfl ?_
    exact kw_ireturn (pc := 24) (i := 14) (ty := .int) rfl rfl rfl ⟨rfl, _, rfl, hF⟩
  · replace hF := kf_n c8 hF
    refine kw_aload_n (pc := 10) (i := 6) (k := 0) (n := 0) rfl rfl rfl ?_
    refine kw_get (pc := 11) (i := 7) (v := .ref 12) rfl rfl rfl lkX3_17 (fun _ => rfl) ?_
    refine kw_iload_n (pc := 14) (i := 8) (k := 1) (n := 1) rfl rfl rfl ?_
    have w9 : k.toInt = 0 ∨ k.toInt = 1 ∨ k.toInt = 2 ∨ k.toInt = 3 ∨ k.toInt = 4 ∨ k.toInt = 5 := by omega
    rcases w9 with w9 | w9 | w9 | w9 | w9 | w9
    · replace hF := kf_p w9 hF
      have e_w9 : k.toNatClampNeg = 0 := by have := kw_clampI (x := k) (by omega); omega
      refine kw_aald (pc := 15) (i := 9) (b := 29) rfl rfl (by decide) (by omega) (by rw [e_w9]; rfl) ?_
      refine kw_iload_n (pc := 16) (i := 10) (k := 2) (n := 2) rfl rfl rfl ?_
      refine kw_iald (pc := 17) (i := 11) (n := 40) rfl rfl (by omega) (by omega) (fun z10 e_z10 => ?_)
      replace hF := kf_le e_z10 hF
      have t_z10 := congrArg Int32.toInt e_z10
      have r_z10 := kw_rng z10
      refine kw_goto (pc := 18) (i := 12) (tgt := 24) rfl rfl ?_
      exact kw_ireturn (pc := 24) (i := 14) (ty := .int) rfl rfl rfl ⟨rfl, _, rfl, hF⟩
    · replace hF := kf_n (fun q => absurd (w9.symm.trans q) (by decide)) hF
      replace hF := kf_p w9 hF
      have e_w9 : k.toNatClampNeg = 1 := by have := kw_clampI (x := k) (by omega); omega
      refine kw_aald (pc := 15) (i := 9) (b := 30) rfl rfl (by decide) (by omega) (by rw [e_w9]; rfl) ?_
      refine kw_iload_n (pc := 16) (i := 10) (k := 2) (n := 2) rfl rfl rfl ?_
      refine kw_iald (pc := 17) (i := 11) (n := 40) rfl rfl (by omega) (by omega) (fun z11 e_z11 => ?_)
      replace hF := kf_le e_z11 hF
      have t_z11 := congrArg Int32.toInt e_z11
      have r_z11 := kw_rng z11
      refine kw_goto (pc := 18) (i := 12) (tgt := 24) rfl rfl ?_
      exact kw_ireturn (pc := 24) (i := 14) (ty := .int) rfl rfl rfl ⟨rfl, _, rfl, hF⟩
    · replace hF := kf_n (fun q => absurd (w9.symm.trans q) (by decide)) hF
      replace hF := kf_n (fun q => absurd (w9.symm.trans q) (by decide)) hF
      replace hF := kf_p w9 hF
      have e_w9 : k.toNatClampNeg = 2 := by have := kw_clampI (x := k) (by omega); omega
      refine kw_aald (pc := 15) (i := 9) (b := 31) rfl rfl (by decide) (by omega) (by rw [e_w9]; rfl) ?_
      refine kw_iload_n (pc := 16) (i := 10) (k := 2) (n := 2) rfl rfl rfl ?_
      refine kw_iald (pc := 17) (i := 11) (n := 40) rfl rfl (by omega) (by omega) (fun z12 e_z12 => ?_)
      replace hF := kf_le e_z12 hF
      have t_z12 := congrArg Int32.toInt e_z12
      have r_z12 := kw_rng z12
      refine kw_goto (pc := 18) (i := 12) (tgt := 24) rfl rfl ?_
      exact kw_ireturn (pc := 24) (i := 14) (ty := .int) rfl rfl rfl ⟨rfl, _, rfl, hF⟩
    · replace hF := kf_n (fun q => absurd (w9.symm.trans q) (by decide)) hF
      replace hF := kf_n (fun q => absurd (w9.symm.trans q) (by decide)) hF
      replace hF := kf_n (fun q => absurd (w9.symm.trans q) (by decide)) hF
      replace hF := kf_p w9 hF
      have e_w9 : k.toNatClampNeg = 3 := by have := kw_clampI (x := k) (by omega); omega
      refine kw_aald (pc := 15) (i := 9) (b := 32) rfl rfl (by decide) (by omega) (by rw [e_w9]; rfl) ?_
      refine kw_iload_n (pc := 16) (i := 10) (k := 2) (n := 2) rfl rfl rfl ?_
      refine kw_iald (pc := 17) (i := 11) (n := 40) rfl rfl (by omega) (by omega) (fun z13 e_z13 => ?_)
      replace hF := kf_le e_z13 hF
      have t_z13 := congrArg Int32.toInt e_z13
      have r_z13 := kw_rng z13
      refine kw_goto (pc := 18) (i := 12) (tgt := 24) rfl rfl ?_
      exact kw_ireturn (pc := 24) (i := 14) (ty := .int) rfl rfl rfl ⟨rfl, _, rfl, hF⟩
    · replace hF := kf_n (fun q => absurd (w9.symm.trans q) (by decide)) hF
      replace hF := kf_n (fun q => absurd (w9.symm.trans q) (by decide)) hF
      replace hF := kf_n (fun q => absurd (w9.symm.trans q) (by decide)) hF
      replace hF := kf_n (fun q => absurd (w9.symm.trans q) (by decide)) hF
      replace hF := kf_p w9 hF
      have e_w9 : k.toNatClampNeg = 4 := by have := kw_clampI (x := k) (by omega); omega
      refine kw_aald (pc := 15) (i := 9) (b := 33) rfl rfl (by decide) (by omega) (by rw [e_w9]; rfl) ?_
      refine kw_iload_n (pc := 16) (i := 10) (k := 2) (n := 2) rfl rfl rfl ?_
      refine kw_iald (pc := 17) (i := 11) (n := 40) rfl rfl (by omega) (by omega) (fun z14 e_z14 => ?_)
      replace hF := kf_le e_z14 hF
      have t_z14 := congrArg Int32.toInt e_z14
      have r_z14 := kw_rng z14
      refine kw_goto (pc := 18) (i := 12) (tgt := 24) rfl rfl ?_
      exact kw_ireturn (pc := 24) (i := 14) (ty := .int) rfl rfl rfl ⟨rfl, _, rfl, hF⟩
    · replace hF := kf_n (fun q => absurd (w9.symm.trans q) (by decide)) hF
      replace hF := kf_n (fun q => absurd (w9.symm.trans q) (by decide)) hF
      replace hF := kf_n (fun q => absurd (w9.symm.trans q) (by decide)) hF
      replace hF := kf_n (fun q => absurd (w9.symm.trans q) (by decide)) hF
      replace hF := kf_n (fun q => absurd (w9.symm.trans q) (by decide)) hF
      replace hF := kf_p w9 hF
      have e_w9 : k.toNatClampNeg = 5 := by have := kw_clampI (x := k) (by omega); omega
      refine kw_aald (pc := 15) (i := 9) (b := 34) rfl rfl (by decide) (by omega) (by rw [e_w9]; rfl) ?_
      refine kw_iload_n (pc := 16) (i := 10) (k := 2) (n := 2) rfl rfl rfl ?_
      refine kw_iald (pc := 17) (i := 11) (n := 40) rfl rfl (by omega) (by omega) (fun z15 e_z15 => ?_)
      replace hF := kf_le e_z15 hF
      have t_z15 := congrArg Int32.toInt e_z15
      have r_z15 := kw_rng z15
      refine kw_goto (pc := 18) (i := 12) (tgt := 24) rfl rfl ?_
      exact kw_ireturn (pc := 24) (i := 14) (ty := .int) rfl rfl rfl ⟨rfl, _, rfl, hF⟩
noncomputable def f_X3_change_1 (σ : kw_S) (k : Int32) (i : Int32) (v : Int32) : kw_S := kf_l (f_X3_hasPlaces_1 σ k i (1 : Int32)) fun z1 => if z1.toInt = 0 then (σ) else (if k.toInt = 0 then (kw_ui σ 29 i.toNatClampNeg v) else if k.toInt = 1 then (kw_ui σ 30 i.toNatClampNeg v) else if k.toInt = 2 then (kw_ui σ 31 i.toNatClampNeg v) else if k.toInt = 3 then (kw_ui σ 32 i.toNatClampNeg v) else if k.toInt = 4 then (kw_ui σ 33 i.toNatClampNeg v) else if k.toInt = 5 then (kw_ui σ 34 i.toNatClampNeg v) else σ)
theorem f_X3_change_1_u (σ : kw_S) (k : Int32) (i : Int32) (v : Int32) : f_X3_change_1 σ k i v = kf_l (f_X3_hasPlaces_1 σ k i (1 : Int32)) fun z1 => if z1.toInt = 0 then (σ) else (if k.toInt = 0 then (kw_ui σ 29 i.toNatClampNeg v) else if k.toInt = 1 then (kw_ui σ 30 i.toNatClampNeg v) else if k.toInt = 2 then (kw_ui σ 31 i.toNatClampNeg v) else if k.toInt = 3 then (kw_ui σ 32 i.toNatClampNeg v) else if k.toInt = 4 then (kw_ui σ 33 i.toNatClampNeg v) else if k.toInt = 5 then (kw_ui σ 34 i.toNatClampNeg v) else σ) := rfl
abbrev p_X3_change_1 (σ : kw_S) (k : Int32) (i : Int32) (v : Int32) : Option Value → kw_S → Prop := fun vv σ' => (kw_I bX σ' ∧ kw_F [29, 30, 31, 32, 33, 34] σ σ') ∧ vv = none ∧ σ' = f_X3_change_1 σ k i v
set_option maxRecDepth 100000 in
set_option maxHeartbeats 4000000 in
theorem c_X3_change_1 (l : Launch) (σ : kw_S) (hI : kw_I bX σ) (k : Int32) (i : Int32) (v : Int32) : kw_Met l 3 KX mX3_change [.ref 1, .int k, .int i, .int v] σ (p_X3_change_1 σ k i v) := by
  have r_k := kw_rng k
  have r_i := kw_rng i
  have r_v := kw_rng v
  have hF0 : kw_F [29, 30, 31, 32, 33, 34] σ σ := kw_F.rf
  have hF := (f_X3_change_1_u σ k i v).symm
  have q_1 : (1 : Int32).toInt = 1 := rfl
  refine kw_Met.of (by decide) rfl tX3_change (Nat.le_of_ble_eq_true rfl) ?_
  show kw_AW l 3 kw_E0 KX mX3_change (p_X3_change_1 σ k i v) 0 [(0, .ref 1), (1, .int k), (2, .int i), (3, .int v)] [] σ
  refine kw_aload_n (pc := 0) (i := 0) (k := 0) (n := 0) rfl rfl rfl ?_
  refine kw_iload_n (pc := 1) (i := 1) (k := 1) (n := 1) rfl rfl rfl ?_
  refine kw_iload_n (pc := 2) (i := 2) (k := 2) (n := 2) rfl rfl rfl ?_
  refine kw_iconst (pc := 3) (i := 3) (v := 1) rfl rfl ?_
  refine kw_callV (pc := 4) (i := 4) (Y := mX3_hasPlaces) (a := 1) (As := [.int k, .int i, .int 1]) (st := []) kw_hE rfl rfl lvX3_41 arX3_hasPlaces (c_X3_hasPlaces_1 l σ hI k i 1 ) (by decide) (Nat.le_of_ble_eq_true rfl) rfl (fun v S2 p1 => ?_)
  obtain ⟨e7, z6, rfl, f3, f4, ef5⟩ := p1
  rw [e7]
  replace hF := kf_le ef5 hF
  have r_z6 := kw_rng z6
  show kw_AW l 3 kw_E0 KX mX3_change (p_X3_change_1 σ k i v) 7 [(0, .ref 1), (1, .int k), (2, .int i), (3, .int v)] [.int z6] σ
  refine kw_if_eq (pc := 7) (i := 5) (tgt := 19) rfl rfl (fun c8 => ?_) (fun c8 => ?_)
  · replace hF := kf_p c8 hF
    exact kw_return (pc := 19) (i := 13) rfl rfl ⟨⟨hI, hF0⟩, rfl, hF⟩
  · replace hF := kf_n c8 hF
    refine kw_aload_n (pc := 10) (i := 6) (k := 0) (n := 0) rfl rfl rfl ?_
    refine kw_get (pc := 11) (i := 7) (v := .ref 12) rfl rfl rfl lkX3_17 (fun _ => rfl) ?_
    refine kw_iload_n (pc := 14) (i := 8) (k := 1) (n := 1) rfl rfl rfl ?_
    have w9 : k.toInt = 0 ∨ k.toInt = 1 ∨ k.toInt = 2 ∨ k.toInt = 3 ∨ k.toInt = 4 ∨ k.toInt = 5 := by omega
    rcases w9 with w9 | w9 | w9 | w9 | w9 | w9
    · replace hF := kf_p w9 hF
      have e_w9 : k.toNatClampNeg = 0 := by have := kw_clampI (x := k) (by omega); omega
      refine kw_aald (pc := 15) (i := 9) (b := 29) rfl rfl (by decide) (by omega) (by rw [e_w9]; rfl) ?_
      refine kw_iload_n (pc := 16) (i := 10) (k := 2) (n := 2) rfl rfl rfl ?_
      refine kw_iload_n (pc := 17) (i := 11) (k := 3) (n := 3) rfl rfl rfl ?_
      refine kw_iast (pc := 18) (i := 12) (n := 40) rfl rfl (by omega) (by omega) ?_
      have I10 : kw_I bX (kw_ui σ 29 i.toNatClampNeg v) := kw_I_ui hI (kw_rng v).1 (Int.le_of_lt_add_one (kw_rng v).2)
      have F11 : kw_F [29, 30, 31, 32, 33, 34] σ (kw_ui σ 29 i.toNatClampNeg v) := kw_F_ui hF0 (by decide)
      exact kw_return (pc := 19) (i := 13) rfl rfl ⟨⟨I10, F11⟩, rfl, hF⟩
    · replace hF := kf_n (fun q => absurd (w9.symm.trans q) (by decide)) hF
      replace hF := kf_p w9 hF
      have e_w9 : k.toNatClampNeg = 1 := by have := kw_clampI (x := k) (by omega); omega
      refine kw_aald (pc := 15) (i := 9) (b := 30) rfl rfl (by decide) (by omega) (by rw [e_w9]; rfl) ?_
      refine kw_iload_n (pc := 16) (i := 10) (k := 2) (n := 2) rfl rfl rfl ?_
      refine kw_iload_n (pc := 17) (i := 11) (k := 3) (n := 3) rfl rfl rfl ?_
      refine kw_iast (pc := 18) (i := 12) (n := 40) rfl rfl (by omega) (by omega) ?_
      have I12 : kw_I bX (kw_ui σ 30 i.toNatClampNeg v) := kw_I_ui hI (kw_rng v).1 (Int.le_of_lt_add_one (kw_rng v).2)
      have F13 : kw_F [29, 30, 31, 32, 33, 34] σ (kw_ui σ 30 i.toNatClampNeg v) := kw_F_ui hF0 (by decide)
      exact kw_return (pc := 19) (i := 13) rfl rfl ⟨⟨I12, F13⟩, rfl, hF⟩
    · replace hF := kf_n (fun q => absurd (w9.symm.trans q) (by decide)) hF
      replace hF := kf_n (fun q => absurd (w9.symm.trans q) (by decide)) hF
      replace hF := kf_p w9 hF
      have e_w9 : k.toNatClampNeg = 2 := by have := kw_clampI (x := k) (by omega); omega
      refine kw_aald (pc := 15) (i := 9) (b := 31) rfl rfl (by decide) (by omega) (by rw [e_w9]; rfl) ?_
      refine kw_iload_n (pc := 16) (i := 10) (k := 2) (n := 2) rfl rfl rfl ?_
      refine kw_iload_n (pc := 17) (i := 11) (k := 3) (n := 3) rfl rfl rfl ?_
      refine kw_iast (pc := 18) (i := 12) (n := 40) rfl rfl (by omega) (by omega) ?_
      have I14 : kw_I bX (kw_ui σ 31 i.toNatClampNeg v) := kw_I_ui hI (kw_rng v).1 (Int.le_of_lt_add_one (kw_rng v).2)
      have F15 : kw_F [29, 30, 31, 32, 33, 34] σ (kw_ui σ 31 i.toNatClampNeg v) := kw_F_ui hF0 (by decide)
      exact kw_return (pc := 19) (i := 13) rfl rfl ⟨⟨I14, F15⟩, rfl, hF⟩
    · replace hF := kf_n (fun q => absurd (w9.symm.trans q) (by decide)) hF
      replace hF := kf_n (fun q => absurd (w9.symm.trans q) (by decide)) hF
      replace hF := kf_n (fun q => absurd (w9.symm.trans q) (by decide)) hF
      replace hF := kf_p w9 hF
      have e_w9 : k.toNatClampNeg = 3 := by have := kw_clampI (x := k) (by omega); omega
      refine kw_aald (pc := 15) (i := 9) (b := 32) rfl rfl (by decide) (by omega) (by rw [e_w9]; rfl) ?_
      refine kw_iload_n (pc := 16) (i := 10) (k := 2) (n := 2) rfl rfl rfl ?_
      refine kw_iload_n (pc := 17) (i := 11) (k := 3) (n := 3) rfl rfl rfl ?_
      refine kw_iast (pc := 18) (i := 12) (n := 40) rfl rfl (by omega) (by omega) ?_
      have I16 : kw_I bX (kw_ui σ 32 i.toNatClampNeg v) := kw_I_ui hI (kw_rng v).1 (Int.le_of_lt_add_one (kw_rng v).2)
      have F17 : kw_F [29, 30, 31, 32, 33, 34] σ (kw_ui σ 32 i.toNatClampNeg v) := kw_F_ui hF0 (by decide)
      exact kw_return (pc := 19) (i := 13) rfl rfl ⟨⟨I16, F17⟩, rfl, hF⟩
    · replace hF := kf_n (fun q => absurd (w9.symm.trans q) (by decide)) hF
      replace hF := kf_n (fun q => absurd (w9.symm.trans q) (by decide)) hF
      replace hF := kf_n (fun q => absurd (w9.symm.trans q) (by decide)) hF
      replace hF := kf_n (fun q => absurd (w9.symm.trans q) (by decide)) hF
      replace hF := kf_p w9 hF
      have e_w9 : k.toNatClampNeg = 4 := by have := kw_clampI (x := k) (by omega); omega
      refine kw_aald (pc := 15) (i := 9) (b := 33) rfl rfl (by decide) (by omega) (by rw [e_w9]; rfl) ?_
      refine kw_iload_n (pc := 16) (i := 10) (k := 2) (n := 2) rfl rfl rfl ?_
      refine kw_iload_n (pc := 17) (i := 11) (k := 3) (n := 3) rfl rfl rfl ?_
      refine kw_iast (pc := 18) (i := 12) (n := 40) rfl rfl (by omega) (by omega) ?_
      have I18 : kw_I bX (kw_ui σ 33 i.toNatClampNeg v) := kw_I_ui hI (kw_rng v).1 (Int.le_of_lt_add_one (kw_rng v).2)
      have F19 : kw_F [29, 30, 31, 32, 33, 34] σ (kw_ui σ 33 i.toNatClampNeg v) := kw_F_ui hF0 (by decide)
      exact kw_return (pc := 19) (i := 13) rfl rfl ⟨⟨I18, F19⟩, rfl, hF⟩
    · replace hF := kf_n (fun q => absurd (w9.symm.trans q) (by decide)) hF
      replace hF := kf_n (fun q => absurd (w9.symm.trans q) (by decide)) hF
      replace hF := kf_n (fun q => absurd (w9.symm.trans q) (by decide)) hF
      replace hF := kf_n (fun q => absurd (w9.symm.trans q) (by decide)) hF
      replace hF := kf_n (fun q => absurd (w9.symm.trans q) (by decide)) hF
      replace hF := kf_p w9 hF
      have e_w9 : k.toNatClampNeg = 5 := by have := kw_clampI (x := k) (by omega); omega
      refine kw_aald (pc := 15) (i := 9) (b := 34) rfl rfl (by decide) (by omega) (by rw [e_w9]; rfl) ?_
      refine kw_iload_n (pc := 16) (i := 10) (k := 2) (n := 2) rfl rfl rfl ?_
      refine kw_iload_n (pc := 17) (i := 11) (k := 3) (n := 3) rfl rfl rfl ?_
      refine kw_iast (pc := 18) (i := 12) (n := 40) rfl rfl (by omega) (by omega) ?_
      have I20 : kw_I bX (kw_ui σ 34 i.toNatClampNeg v) := kw_I_ui hI (kw_rng v).1 (Int.le_of_lt_add_one (kw_rng v).2)
      have F21 : kw_F [29, 30, 31, 32, 33, 34] σ (kw_ui σ 34 i.toNatClampNeg v) := kw_F_ui hF0 (by decide)
      exact kw_return (pc := 19) (i := 13) rfl rfl ⟨⟨I20, F21⟩, rfl, hF⟩
noncomputable def f_X3_make_1 (σ : kw_S) (k : Int32) (n : Int32) (v : Int32) : kw_S := kf_l (f_X3_has_1 σ k) fun z1 => if z1.toInt = 0 then (σ) else (if n.toInt < 0 then (σ) else (if (σ.1 1 0).toInt < n.toInt then (σ) else (if k.toInt = 0 then (kf_l (f_J7_fill_53178_29 (kw_ui σ 13 k.toNatClampNeg n) v) fun S2 => S2) else if k.toInt = 1 then (kf_l (f_J7_fill_53178_30 (kw_ui σ 13 k.toNatClampNeg n) v) fun S3 => S3) else if k.toInt = 2 then (kf_l (f_J7_fill_53178_31 (kw_ui σ 13 k.toNatClampNeg n) v) fun S4 => S4) else if k.toInt = 3 then (kf_l (f_J7_fill_53178_32 (kw_ui σ 13 k.toNatClampNeg n) v) fun S5 => S5) else if k.toInt = 4 then (kf_l (f_J7_fill_53178_33 (kw_ui σ 13 k.toNatClampNeg n) v) fun S6 => S6) else if k.toInt = 5 then (kf_l (f_J7_fill_53178_34 (kw_ui σ 13 k.toNatClampNeg n) v) fun S7 => S7) else (kw_ui σ 13 k.toNatClampNeg n))))
theorem f_X3_make_1_u (σ : kw_S) (k : Int32) (n : Int32) (v : Int32) : f_X3_make_1 σ k n v = kf_l (f_X3_has_1 σ k) fun z1 => if z1.toInt = 0 then (σ) else (if n.toInt < 0 then (σ) else (if (σ.1 1 0).toInt < n.toInt then (σ) else (if k.toInt = 0 then (kf_l (f_J7_fill_53178_29 (kw_ui σ 13 k.toNatClampNeg n) v) fun S2 => S2) else if k.toInt = 1 then (kf_l (f_J7_fill_53178_30 (kw_ui σ 13 k.toNatClampNeg n) v) fun S3 => S3) else if k.toInt = 2 then (kf_l (f_J7_fill_53178_31 (kw_ui σ 13 k.toNatClampNeg n) v) fun S4 => S4) else if k.toInt = 3 then (kf_l (f_J7_fill_53178_32 (kw_ui σ 13 k.toNatClampNeg n) v) fun S5 => S5) else if k.toInt = 4 then (kf_l (f_J7_fill_53178_33 (kw_ui σ 13 k.toNatClampNeg n) v) fun S6 => S6) else if k.toInt = 5 then (kf_l (f_J7_fill_53178_34 (kw_ui σ 13 k.toNatClampNeg n) v) fun S7 => S7) else (kw_ui σ 13 k.toNatClampNeg n)))) := rfl
abbrev p_X3_make_1 (σ : kw_S) (k : Int32) (n : Int32) (v : Int32) : Option Value → kw_S → Prop := fun vv σ' => (kw_I bX σ' ∧ kw_F [13, 29, 30, 31, 32, 33, 34] σ σ') ∧ vv = none ∧ σ' = f_X3_make_1 σ k n v
set_option maxRecDepth 100000 in
set_option maxHeartbeats 4000000 in
theorem c_X3_make_1 (l : Launch) (σ : kw_S) (hI : kw_I bX σ) (k : Int32) (n : Int32) (v : Int32) : kw_Met l 2 KX mX3_make [.ref 1, .int k, .int n, .int v] σ (p_X3_make_1 σ k n v) := by
  have r_k := kw_rng k
  have r_n := kw_rng n
  have r_v := kw_rng v
  have hF0 : kw_F [13, 29, 30, 31, 32, 33, 34] σ σ := kw_F.rf
  have hF := (f_X3_make_1_u σ k n v).symm
  refine kw_Met.of (by decide) rfl tX3_make (Nat.le_of_ble_eq_true rfl) ?_
  show kw_AW l 2 kw_E0 KX mX3_make (p_X3_make_1 σ k n v) 0 [(0, .ref 1), (1, .int k), (2, .int n), (3, .int v)] [] σ
  refine kw_aload_n (pc := 0) (i := 0) (k := 0) (n := 0) rfl rfl rfl ?_
  refine kw_iload_n (pc := 1) (i := 1) (k := 1) (n := 1) rfl rfl rfl ?_
  refine kw_callV (pc := 2) (i := 2) (Y := mX3_has) (a := 1) (As := [.int k]) (st := []) kw_hE rfl rfl lvX3_34 arX3_has (c_X3_has_1 l σ hI k ) (by decide) (Nat.le_of_ble_eq_true rfl) rfl (fun v S2 p1 => ?_)
  obtain ⟨e8, z7, rfl, f3, f4, f5, ef6⟩ := p1
  rw [e8]
  replace hF := kf_le ef6 hF
  have r_z7 := kw_rng z7
  show kw_AW l 2 kw_E0 KX mX3_make (p_X3_make_1 σ k n v) 5 [(0, .ref 1), (1, .int k), (2, .int n), (3, .int v)] [.int z7] σ
  refine kw_if_eq (pc := 5) (i := 3) (tgt := 20) rfl rfl (fun c9 => ?_) (fun c9 => ?_)
  · replace hF := kf_p c9 hF
    exact kw_return (pc := 20) (i := 10) rfl rfl ⟨⟨hI, hF0⟩, rfl, hF⟩
  · replace hF := kf_n c9 hF
    refine kw_iload_n (pc := 8) (i := 4) (k := 2) (n := 2) rfl rfl rfl ?_
    refine kw_if_lt (pc := 9) (i := 5) (tgt := 20) rfl rfl (fun c10 => ?_) (fun c10 => ?_)
    · replace hF := kf_p c10 hF
      exact kw_return (pc := 20) (i := 10) rfl rfl ⟨⟨hI, hF0⟩, rfl, hF⟩
    · replace hF := kf_nl c10 hF
      refine kw_iload_n (pc := 12) (i := 6) (k := 2) (n := 2) rfl rfl rfl ?_
      refine kw_aload_n (pc := 13) (i := 7) (k := 0) (n := 0) rfl rfl rfl ?_
      refine kw_get (pc := 14) (i := 8) (v := .int (σ.1 1 0)) rfl rfl rfl lkX3_9 (fun _ => rfl) ?_
      have b11 : 40 ≤ (σ.1 1 0).toInt ∧ (σ.1 1 0).toInt ≤ 40 := hI 1 0
      refine kw_icmp_le (pc := 17) (i := 9) (tgt := 21) rfl rfl (fun c12 => ?_) (fun c12 => ?_)
      · replace hF := kf_nl c12 hF
        refine kw_aload_n (pc := 21) (i := 11) (k := 0) (n := 0) rfl rfl rfl ?_
        refine kw_get (pc := 22) (i := 12) (v := .ref 13) rfl rfl rfl lkX3_20 (fun _ => rfl) ?_
        refine kw_iload_n (pc := 25) (i := 13) (k := 1) (n := 1) rfl rfl rfl ?_
        refine kw_iload_n (pc := 26) (i := 14) (k := 2) (n := 2) rfl rfl rfl ?_
        refine kw_iast (pc := 27) (i := 15) (n := 6) rfl rfl (by omega) (by omega) ?_
        have I13 : kw_I bX (kw_ui σ 13 k.toNatClampNeg n) := kw_I_ui hI (show -1 ≤ n.toInt by omega) (show n.toInt ≤ 40 by omega)
        have F14 : kw_F [13, 29, 30, 31, 32, 33, 34] σ (kw_ui σ 13 k.toNatClampNeg n) := kw_F_ui hF0 (by decide)
        refine kw_aload_n (pc := 28) (i := 16) (k := 0) (n := 0) rfl rfl rfl ?_
        refine kw_get (pc := 29) (i := 17) (v := .ref 12) rfl rfl rfl lkX3_17 (fun _ => rfl) ?_
        refine kw_iload_n (pc := 32) (i := 18) (k := 1) (n := 1) rfl rfl rfl ?_
        have w15 : k.toInt = 0 ∨ k.toInt = 1 ∨ k.toInt = 2 ∨ k.toInt = 3 ∨ k.toInt = 4 ∨ k.toInt = 5 := by omega
        rcases w15 with w15 | w15 | w15 | w15 | w15 | w15
        · replace hF := kf_p w15 hF
          have e_w15 : k.toNatClampNeg = 0 := by have := kw_clampI (x := k) (by omega); omega
          refine kw_aald (pc := 33) (i := 19) (b := 29) rfl rfl (by decide) (by omega) (by rw [e_w15]; rfl) ?_
          refine kw_iload_n (pc := 34) (i := 20) (k := 3) (n := 3) rfl rfl rfl ?_
          refine kw_callS (pc := 35) (i := 21) (Y := mJ7_fill_53178) (As := [.ref 29, .int v]) (st := []) kw_hE rfl lsX3_24 arJ7_fill_53178 (c_J7_fill_53178_29 l (kw_ui σ 13 k.toNatClampNeg n) I13 v ) (by decide) (Nat.le_of_ble_eq_true rfl) rfl (fun v S17 p16 => ?_)
          obtain ⟨⟨I19, F20⟩, rfl, ef18⟩ := p16
          have F21 : kw_F [13, 29, 30, 31, 32, 33, 34] σ S17 := kw_F.tr F14 F20 (by decide)
          replace hF := kf_le ef18 hF
          show kw_AW l 2 kw_E0 KX mX3_make (p_X3_make_1 σ k n v) 38 [(0, .ref 1), (1, .int k), (2, .int n), (3, .int v)] [] S17
          exact kw_return (pc := 38) (i := 22) rfl rfl ⟨⟨I19, F21⟩, rfl, hF⟩
        · replace hF := kf_n (fun q => absurd (w15.symm.trans q) (by decide)) hF
          replace hF := kf_p w15 hF
          have e_w15 : k.toNatClampNeg = 1 := by have := kw_clampI (x := k) (by omega); omega
          refine kw_aald (pc := 33) (i := 19) (b := 30) rfl rfl (by decide) (by omega) (by rw [e_w15]; rfl) ?_
          refine kw_iload_n (pc := 34) (i := 20) (k := 3) (n := 3) rfl rfl rfl ?_
          refine kw_callS (pc := 35) (i := 21) (Y := mJ7_fill_53178) (As := [.ref 30, .int v]) (st := []) kw_hE rfl lsX3_24 arJ7_fill_53178 (c_J7_fill_53178_30 l (kw_ui σ 13 k.toNatClampNeg n) I13 v ) (by decide) (Nat.le_of_ble_eq_true rfl) rfl (fun v S23 p22 => ?_)
          obtain ⟨⟨I25, F26⟩, rfl, ef24⟩ := p22
          have F27 : kw_F [13, 29, 30, 31, 32, 33, 34] σ S23 := kw_F.tr F14 F26 (by decide)
          replace hF := kf_le ef24 hF
          show kw_AW l 2 kw_E0 KX mX3_make (p_X3_make_1 σ k n v) 38 [(0, .ref 1), (1, .int k), (2, .int n), (3, .int v)] [] S23
          exact kw_return (pc := 38) (i := 22) rfl rfl ⟨⟨I25, F27⟩, rfl, hF⟩
        · replace hF := kf_n (fun q => absurd (w15.symm.trans q) (by decide)) hF
          replace hF := kf_n (fun q => absurd (w15.symm.trans q) (by decide)) hF
          replace hF := kf_p w15 hF
          have e_w15 : k.toNatClampNeg = 2 := by have := kw_clampI (x := k) (by omega); omega
          refine kw_aald (pc := 33) (i := 19) (b := 31) rfl rfl (by decide) (by omega) (by rw [e_w15]; rfl) ?_
          refine kw_iload_n (pc := 34) (i := 20) (k := 3) (n := 3) rfl rfl rfl ?_
          refine kw_callS (pc := 35) (i := 21) (Y := mJ7_fill_53178) (As := [.ref 31, .int v]) (st := []) kw_hE rfl lsX3_24 arJ7_fill_53178 (c_J7_fill_53178_31 l (kw_ui σ 13 k.toNatClampNeg n) I13 v ) (by decide) (Nat.le_of_ble_eq_true rfl) rfl (fun v S29 p28 => ?_)
          obtain ⟨⟨I31, F32⟩, rfl, ef30⟩ := p28
          have F33 : kw_F [13, 29, 30, 31, 32, 33, 34] σ S29 := kw_F.tr F14 F32 (by decide)
          replace hF := kf_le ef30 hF
          show kw_AW l 2 kw_E0 KX mX3_make (p_X3_make_1 σ k n v) 38 [(0, .ref 1), (1, .int k), (2, .int n), (3, .int v)] [] S29
          exact kw_return (pc := 38) (i := 22) rfl rfl ⟨⟨I31, F33⟩, rfl, hF⟩
        · replace hF := kf_n (fun q => absurd (w15.symm.trans q) (by decide)) hF
          replace hF := kf_n (fun q => absurd (w15.symm.trans q) (by decide)) hF
          replace hF := kf_n (fun q => absurd (w15.symm.trans q) (by decide)) hF
          replace hF := kf_p w15 hF
          have e_w15 : k.toNatClampNeg = 3 := by have := kw_clampI (x := k) (by omega); omega
          refine kw_aald (pc := 33) (i := 19) (b := 32) rfl rfl (by decide) (by omega) (by rw [e_w15]; rfl) ?_
          refine kw_iload_n (pc := 34) (i := 20) (k := 3) (n := 3) rfl rfl rfl ?_
          refine kw_callS (pc := 35) (i := 21) (Y := mJ7_fill_53178) (As := [.ref 32, .int v]) (st := []) kw_hE rfl lsX3_24 arJ7_fill_53178 (c_J7_fill_53178_32 l (kw_ui σ 13 k.toNatClampNeg n) I13 v ) (by decide) (Nat.le_of_ble_eq_true rfl) rfl (fun v S35 p34 => ?_)
          obtain ⟨⟨I37, F38⟩, rfl, ef36⟩ := p34
          have F39 : kw_F [13, 29, 30, 31, 32, 33, 34] σ S35 := kw_F.tr F14 F38 (by decide)
          replace hF := kf_le ef36 hF
          show kw_AW l 2 kw_E0 KX mX3_make (p_X3_make_1 σ k n v) 38 [(0, .ref 1), (1, .int k), (2, .int n), (3, .int v)] [] S35
          exact kw_return (pc := 38) (i := 22) rfl rfl ⟨⟨I37, F39⟩, rfl, hF⟩
        · replace hF := kf_n (fun q => absurd (w15.symm.trans q) (by decide)) hF
          replace hF := kf_n (fun q => absurd (w15.symm.trans q) (by decide)) hF
          replace hF := kf_n (fun q => absurd (w15.symm.trans q) (by decide)) hF
          replace hF := kf_n (fun q => absurd (w15.symm.trans q) (by decide)) hF
          replace hF := kf_p w15 hF
          have e_w15 : k.toNatClampNeg = 4 := by have := kw_clampI (x := k) (by omega); omega
          refine kw_aald (pc := 33) (i := 19) (b := 33) rfl rfl (by decide) (by omega) (by rw [e_w15]; rfl) ?_
          refine kw_iload_n (pc := 34) (i := 20) (k := 3) (n := 3) rfl rfl rfl ?_
          refine kw_callS (pc := 35) (i := 21) (Y := mJ7_fill_53178) (As := [.ref 33, .int v]) (st := []) kw_hE rfl lsX3_24 arJ7_fill_53178 (c_J7_fill_53178_33 l (kw_ui σ 13 k.toNatClampNeg n) I13 v ) (by decide) (Nat.le_of_ble_eq_true rfl) rfl (fun v S41 p40 => ?_)
          obtain ⟨⟨I43, F44⟩, rfl, ef42⟩ := p40
          have F45 : kw_F [13, 29, 30, 31, 32, 33, 34] σ S41 := kw_F.tr F14 F44 (by decide)
          replace hF := kf_le ef42 hF
          show kw_AW l 2 kw_E0 KX mX3_make (p_X3_make_1 σ k n v) 38 [(0, .ref 1), (1, .int k), (2, .int n), (3, .int v)] [] S41
          exact kw_return (pc := 38) (i := 22) rfl rfl ⟨⟨I43, F45⟩, rfl, hF⟩
        · replace hF := kf_n (fun q => absurd (w15.symm.trans q) (by decide)) hF
          replace hF := kf_n (fun q => absurd (w15.symm.trans q) (by decide)) hF
          replace hF := kf_n (fun q => absurd (w15.symm.trans q) (by decide)) hF
          replace hF := kf_n (fun q => absurd (w15.symm.trans q) (by decide)) hF
          replace hF := kf_n (fun q => absurd (w15.symm.trans q) (by decide)) hF
          replace hF := kf_p w15 hF
          have e_w15 : k.toNatClampNeg = 5 := by have := kw_clampI (x := k) (by omega); omega
          refine kw_aald (pc := 33) (i := 19) (b := 34) rfl rfl (by decide) (by omega) (by rw [e_w15]; rfl) ?_
          refine kw_iload_n (pc := 34) (i := 20) (k := 3) (n := 3) rfl rfl rfl ?_
          refine kw_callS (pc := 35) (i := 21) (Y := mJ7_fill_53178) (As := [.ref 34, .int v]) (st := []) kw_hE rfl lsX3_24 arJ7_fill_53178 (c_J7_fill_53178_34 l (kw_ui σ 13 k.toNatClampNeg n) I13 v ) (by decide) (Nat.le_of_ble_eq_true rfl) rfl (fun v S47 p46 => ?_)
          obtain ⟨⟨I49, F50⟩, rfl, ef48⟩ := p46
          have F51 : kw_F [13, 29, 30, 31, 32, 33, 34] σ S47 := kw_F.tr F14 F50 (by decide)
          replace hF := kf_le ef48 hF
          show kw_AW l 2 kw_E0 KX mX3_make (p_X3_make_1 σ k n v) 38 [(0, .ref 1), (1, .int k), (2, .int n), (3, .int v)] [] S47
          exact kw_return (pc := 38) (i := 22) rfl rfl ⟨⟨I49, F51⟩, rfl, hF⟩
      · replace hF := kf_p c12 hF
        exact kw_return (pc := 20) (i := 10) rfl rfl ⟨⟨hI, hF0⟩, rfl, hF⟩
noncomputable def f_X3_drop_1 (σ : kw_S) (k : Int32) : kw_S := kf_l (f_X3_has_1 σ k) fun z1 => if z1.toInt = 0 then (σ) else (kw_ui σ 13 k.toNatClampNeg (-1))
theorem f_X3_drop_1_u (σ : kw_S) (k : Int32) : f_X3_drop_1 σ k = kf_l (f_X3_has_1 σ k) fun z1 => if z1.toInt = 0 then (σ) else (kw_ui σ 13 k.toNatClampNeg (-1)) := rfl
abbrev p_X3_drop_1 (σ : kw_S) (k : Int32) : Option Value → kw_S → Prop := fun vv σ' => (kw_I bX σ' ∧ kw_F [13] σ σ') ∧ vv = none ∧ σ' = f_X3_drop_1 σ k
set_option maxRecDepth 100000 in
set_option maxHeartbeats 4000000 in
theorem c_X3_drop_1 (l : Launch) (σ : kw_S) (hI : kw_I bX σ) (k : Int32) : kw_Met l 2 KX mX3_drop [.ref 1, .int k] σ (p_X3_drop_1 σ k) := by
  have r_k := kw_rng k
  have hF0 : kw_F [13] σ σ := kw_F.rf
  have hF := (f_X3_drop_1_u σ k).symm
  have q_m1 : (-1 : Int32).toInt = -1 := rfl
  refine kw_Met.of (by decide) rfl tX3_drop (Nat.le_of_ble_eq_true rfl) ?_
  show kw_AW l 2 kw_E0 KX mX3_drop (p_X3_drop_1 σ k) 0 [(0, .ref 1), (1, .int k)] [] σ
  refine kw_aload_n (pc := 0) (i := 0) (k := 0) (n := 0) rfl rfl rfl ?_
  refine kw_iload_n (pc := 1) (i := 1) (k := 1) (n := 1) rfl rfl rfl ?_
  refine kw_callV (pc := 2) (i := 2) (Y := mX3_has) (a := 1) (As := [.int k]) (st := []) kw_hE rfl rfl lvX3_34 arX3_has (c_X3_has_1 l σ hI k ) (by decide) (Nat.le_of_ble_eq_true rfl) rfl (fun v S2 p1 => ?_)
  obtain ⟨e8, z7, rfl, f3, f4, f5, ef6⟩ := p1
  rw [e8]
  replace hF := kf_le ef6 hF
  have r_z7 := kw_rng z7
  show kw_AW l 2 kw_E0 KX mX3_drop (p_X3_drop_1 σ k) 5 [(0, .ref 1), (1, .int k)] [.int z7] σ
  refine kw_if_eq (pc := 5) (i := 3) (tgt := 15) rfl rfl (fun c9 => ?_) (fun c9 => ?_)
  · replace hF := kf_p c9 hF
    exact kw_return (pc := 15) (i := 9) rfl rfl ⟨⟨hI, hF0⟩, rfl, hF⟩
  · replace hF := kf_n c9 hF
    refine kw_aload_n (pc := 8) (i := 4) (k := 0) (n := 0) rfl rfl rfl ?_
    refine kw_get (pc := 9) (i := 5) (v := .ref 13) rfl rfl rfl lkX3_20 (fun _ => rfl) ?_
    refine kw_iload_n (pc := 12) (i := 6) (k := 1) (n := 1) rfl rfl rfl ?_
    refine kw_iconst (pc := 13) (i := 7) (v := (-1)) rfl rfl ?_
    refine kw_iast (pc := 14) (i := 8) (n := 6) rfl rfl (by omega) (by omega) ?_
    have I10 : kw_I bX (kw_ui σ 13 k.toNatClampNeg (-1)) := kw_I_ui hI (show -1 ≤ ((-1) : Int32).toInt by omega) (show ((-1) : Int32).toInt ≤ 40 by omega)
    have F11 : kw_F [13] σ (kw_ui σ 13 k.toNatClampNeg (-1)) := kw_F_ui hF0 (by decide)
    exact kw_return (pc := 15) (i := 9) rfl rfl ⟨⟨I10, F11⟩, rfl, hF⟩
noncomputable def f_X3_findingAt_1 (σ : kw_S) (k : Int32) (i : Int32) : Int32 := kf_l (f_X3_isMissing_1 σ k) fun z1 => if z1.toInt = 0 then (kf_l (f_X3_hasPlaces_1 σ k i (1 : Int32)) fun z2 => if z2.toInt = 0 then ((2 : Int32)) else ((0 : Int32))) else ((1 : Int32))
theorem f_X3_findingAt_1_u (σ : kw_S) (k : Int32) (i : Int32) : f_X3_findingAt_1 σ k i = kf_l (f_X3_isMissing_1 σ k) fun z1 => if z1.toInt = 0 then (kf_l (f_X3_hasPlaces_1 σ k i (1 : Int32)) fun z2 => if z2.toInt = 0 then ((2 : Int32)) else ((0 : Int32))) else ((1 : Int32)) := rfl
abbrev p_X3_findingAt_1 (σ : kw_S) (k : Int32) (i : Int32) : Option Value → kw_S → Prop := fun vv σ' => σ' = σ ∧ ∃ r : Int32, vv = some (.int r) ∧ r = f_X3_findingAt_1 σ k i
set_option maxRecDepth 100000 in
set_option maxHeartbeats 4000000 in
theorem c_X3_findingAt_1 (l : Launch) (σ : kw_S) (hI : kw_I bX σ) (k : Int32) (i : Int32) : kw_Met l 4 KX mX3_findingAt [.ref 1, .int k, .int i] σ (p_X3_findingAt_1 σ k i) := by
  have r_k := kw_rng k
  have r_i := kw_rng i
  have hF := (f_X3_findingAt_1_u σ k i).symm
  have q_0 : (0 : Int32).toInt = 0 := rfl
  have q_1 : (1 : Int32).toInt = 1 := rfl
  have q_2 : (2 : Int32).toInt = 2 := rfl
  refine kw_Met.of (by decide) rfl tX3_findingAt (Nat.le_of_ble_eq_true rfl) ?_
  show kw_AW l 4 kw_E0 KX mX3_findingAt (p_X3_findingAt_1 σ k i) 0 [(0, .ref 1), (1, .int k), (2, .int i)] [] σ
  refine kw_aload_n (pc := 0) (i := 0) (k := 0) (n := 0) rfl rfl rfl ?_
  refine kw_iload_n (pc := 1) (i := 1) (k := 1) (n := 1) rfl rfl rfl ?_
  refine kw_callV (pc := 2) (i := 2) (Y := mX3_isMissing) (a := 1) (As := [.int k]) (st := []) kw_hE rfl rfl lvX3_38 arX3_isMissing (c_X3_isMissing_1 l σ hI k ) (by decide) (Nat.le_of_ble_eq_true rfl) rfl (fun v S2 p1 => ?_)
  obtain ⟨e7, z6, rfl, f3, f4, ef5⟩ := p1
  rw [e7]
  replace hF := kf_le ef5 hF
  have r_z6 := kw_rng z6
  show kw_AW l 4 kw_E0 KX mX3_findingAt (p_X3_findingAt_1 σ k i) 5 [(0, .ref 1), (1, .int k), (2, .int i)] [.int z6] σ
  refine kw_if_eq (pc := 5) (i := 3) (tgt := 10) rfl rfl (fun c8 => ?_) (fun c8 => ?_)
  · replace hF := kf_p c8 hF
    refine kw_aload_n (pc := 10) (i := 6) (k := 0) (n := 0) rfl rfl rfl ?_
    refine kw_iload_n (pc := 11) (i := 7) (k := 1) (n := 1) rfl rfl rfl ?_
    refine kw_iload_n (pc := 12) (i := 8) (k := 2) (n := 2) rfl rfl rfl ?_
    refine kw_iconst (pc := 13) (i := 9) (v := 1) rfl rfl ?_
    refine kw_callV (pc := 14) (i := 10) (Y := mX3_hasPlaces) (a := 1) (As := [.int k, .int i, .int 1]) (st := []) kw_hE rfl rfl lvX3_41 arX3_hasPlaces (c_X3_hasPlaces_1 l σ hI k i 1 ) (by decide) (Nat.le_of_ble_eq_true rfl) rfl (fun v S10 p9 => ?_)
    obtain ⟨e15, z14, rfl, f11, f12, ef13⟩ := p9
    rw [e15]
    replace hF := kf_le ef13 hF
    have r_z14 := kw_rng z14
    show kw_AW l 4 kw_E0 KX mX3_findingAt (p_X3_findingAt_1 σ k i) 17 [(0, .ref 1), (1, .int k), (2, .int i)] [.int z14] σ
    refine kw_if_eq (pc := 17) (i := 11) (tgt := 24) rfl rfl (fun c16 => ?_) (fun c16 => ?_)
    · replace hF := kf_p c16 hF
      refine kw_iconst (pc := 24) (i := 14) (v := 2) rfl rfl ?_
      exact kw_ireturn (pc := 25) (i := 15) (ty := .int) rfl rfl rfl ⟨rfl, _, rfl, hF⟩
    · replace hF := kf_n c16 hF
      refine kw_iconst (pc := 20) (i := 12) (v := 0) rfl rfl ?_
      refine kw_goto (pc := 21) (i := 13) (tgt := 25) rfl rfl ?_
      exact kw_ireturn (pc := 25) (i := 15) (ty := .int) rfl rfl rfl ⟨rfl, _, rfl, hF⟩
  · replace hF := kf_n c8 hF
    refine kw_iconst (pc := 8) (i := 4) (v := 1) rfl rfl ?_
    exact kw_ireturn (pc := 9) (i := 5) (ty := .int) rfl rfl rfl ⟨rfl, _, rfl, hF⟩
noncomputable def l_X3_fold_1_33 (k5 : Int64 → Int32 → Int64) (a1 : Int64) (a5 : Int32) (S : kw_S) : Nat → Int64 → Int32 → Int64
  | 0, _, _ => 0
  | n + 1, x3, x6 => kf_l (S.1 13 a5.toNatClampNeg) fun z5 => if x6.toInt < z5.toInt then (kf_l ((31 : Int64) * x3) fun z7 => if a5.toInt = 0 then (kf_l (S.1 29 x6.toNatClampNeg) fun z8 => kf_l z8.toInt64 fun z9 => kf_l (z7 + z9) fun z10 => kf_l (x6 + Int32.ofInt 1) fun z11 => l_X3_fold_1_33 k5 a1 a5 S n z10 z11) else if a5.toInt = 1 then (kf_l (S.1 30 x6.toNatClampNeg) fun z12 => kf_l z12.toInt64 fun z13 => kf_l (z7 + z13) fun z14 => kf_l (x6 + Int32.ofInt 1) fun z15 => l_X3_fold_1_33 k5 a1 a5 S n z14 z15) else if a5.toInt = 2 then (kf_l (S.1 31 x6.toNatClampNeg) fun z16 => kf_l z16.toInt64 fun z17 => kf_l (z7 + z17) fun z18 => kf_l (x6 + Int32.ofInt 1) fun z19 => l_X3_fold_1_33 k5 a1 a5 S n z18 z19) else if a5.toInt = 3 then (kf_l (S.1 32 x6.toNatClampNeg) fun z20 => kf_l z20.toInt64 fun z21 => kf_l (z7 + z21) fun z22 => kf_l (x6 + Int32.ofInt 1) fun z23 => l_X3_fold_1_33 k5 a1 a5 S n z22 z23) else if a5.toInt = 4 then (kf_l (S.1 33 x6.toNatClampNeg) fun z24 => kf_l z24.toInt64 fun z25 => kf_l (z7 + z25) fun z26 => kf_l (x6 + Int32.ofInt 1) fun z27 => l_X3_fold_1_33 k5 a1 a5 S n z26 z27) else if a5.toInt = 5 then (kf_l (S.1 34 x6.toNatClampNeg) fun z28 => kf_l z28.toInt64 fun z29 => kf_l (z7 + z29) fun z30 => kf_l (x6 + Int32.ofInt 1) fun z31 => l_X3_fold_1_33 k5 a1 a5 S n z30 z31) else 0) else (kf_l (a5 + Int32.ofInt 1) fun z6 => k5 x3 z6)
theorem l_X3_fold_1_33_s (k5 : Int64 → Int32 → Int64) (a1 : Int64) (a5 : Int32) (S : kw_S) (n : Nat) (x3 : Int64) (x6 : Int32) : l_X3_fold_1_33 k5 a1 a5 S (n + 1) x3 x6 = kf_l (S.1 13 a5.toNatClampNeg) fun z5 => if x6.toInt < z5.toInt then (kf_l ((31 : Int64) * x3) fun z7 => if a5.toInt = 0 then (kf_l (S.1 29 x6.toNatClampNeg) fun z8 => kf_l z8.toInt64 fun z9 => kf_l (z7 + z9) fun z10 => kf_l (x6 + Int32.ofInt 1) fun z11 => l_X3_fold_1_33 k5 a1 a5 S n z10 z11) else if a5.toInt = 1 then (kf_l (S.1 30 x6.toNatClampNeg) fun z12 => kf_l z12.toInt64 fun z13 => kf_l (z7 + z13) fun z14 => kf_l (x6 + Int32.ofInt 1) fun z15 => l_X3_fold_1_33 k5 a1 a5 S n z14 z15) else if a5.toInt = 2 then (kf_l (S.1 31 x6.toNatClampNeg) fun z16 => kf_l z16.toInt64 fun z17 => kf_l (z7 + z17) fun z18 => kf_l (x6 + Int32.ofInt 1) fun z19 => l_X3_fold_1_33 k5 a1 a5 S n z18 z19) else if a5.toInt = 3 then (kf_l (S.1 32 x6.toNatClampNeg) fun z20 => kf_l z20.toInt64 fun z21 => kf_l (z7 + z21) fun z22 => kf_l (x6 + Int32.ofInt 1) fun z23 => l_X3_fold_1_33 k5 a1 a5 S n z22 z23) else if a5.toInt = 4 then (kf_l (S.1 33 x6.toNatClampNeg) fun z24 => kf_l z24.toInt64 fun z25 => kf_l (z7 + z25) fun z26 => kf_l (x6 + Int32.ofInt 1) fun z27 => l_X3_fold_1_33 k5 a1 a5 S n z26 z27) else if a5.toInt = 5 then (kf_l (S.1 34 x6.toNatClampNeg) fun z28 => kf_l z28.toInt64 fun z29 => kf_l (z7 + z29) fun z30 => kf_l (x6 + Int32.ofInt 1) fun z31 => l_X3_fold_1_33 k5 a1 a5 S n z30 z31) else 0) else (kf_l (a5 + Int32.ofInt 1) fun z6 => k5 x3 z6) := rfl
noncomputable def l_X3_fold_1_5 (a1 : Int64) (S : kw_S) : Nat → Int64 → Int32 → Int64
  | 0, _, _ => 0
  | n + 1, x3, x5 => if x5.toInt < (6 : Int32).toInt then (kf_l ((31 : Int64) * x3) fun z1 => kf_l (S.1 13 x5.toNatClampNeg) fun z2 => kf_l z2.toInt64 fun z3 => kf_l (z1 + z3) fun z4 => l_X3_fold_1_33 (l_X3_fold_1_5 a1 S n) a1 x5 S ((61 - (0 : Int32).toInt).toNat + 1) z4 (0 : Int32)) else (x3)
theorem l_X3_fold_1_5_s (a1 : Int64) (S : kw_S) (n : Nat) (x3 : Int64) (x5 : Int32) : l_X3_fold_1_5 a1 S (n + 1) x3 x5 = if x5.toInt < (6 : Int32).toInt then (kf_l ((31 : Int64) * x3) fun z1 => kf_l (S.1 13 x5.toNatClampNeg) fun z2 => kf_l z2.toInt64 fun z3 => kf_l (z1 + z3) fun z4 => l_X3_fold_1_33 (l_X3_fold_1_5 a1 S n) a1 x5 S ((61 - (0 : Int32).toInt).toNat + 1) z4 (0 : Int32)) else (x3) := rfl
noncomputable def f_X3_fold_1 (σ : kw_S) (h : Int64) : Int64 := l_X3_fold_1_5 h σ ((10 - (0 : Int32).toInt).toNat + 1) h (0 : Int32)
theorem f_X3_fold_1_u (σ : kw_S) (h : Int64) : f_X3_fold_1 σ h = l_X3_fold_1_5 h σ ((10 - (0 : Int32).toInt).toNat + 1) h (0 : Int32) := rfl
abbrev p_X3_fold_1 (σ : kw_S) (h : Int64) : Option Value → kw_S → Prop := fun vv σ' => σ' = σ ∧ ∃ r : Int64, vv = some (.long r) ∧ r = f_X3_fold_1 σ h
set_option maxRecDepth 100000 in
set_option maxHeartbeats 4000000 in
theorem c_X3_fold_1 (l : Launch) (σ : kw_S) (hI : kw_I bX σ) (h : Int64) : kw_Met l 1 KX mX3_fold [.ref 1, .long h] σ (p_X3_fold_1 σ h) := by
  have hF := (f_X3_fold_1_u σ h).symm
  have q_0 : (0 : Int32).toInt = 0 := rfl
  have q_6 : (6 : Int32).toInt = 6 := rfl
  refine kw_Met.of (by decide) rfl tX3_fold (Nat.le_of_ble_eq_true rfl) ?_
  show kw_AW l 1 kw_E0 KX mX3_fold (p_X3_fold_1 σ h) 0 [(0, .ref 1), (1, .long h)] [] σ
  refine kw_lload_n (pc := 0) (i := 0) (k := 1) (n := 1) rfl rfl rfl ?_
  refine kw_lstore_n (pc := 1) (i := 1) (n := 3) (lv' := [(3, .long h), (0, .ref 1), (1, .long h)]) rfl rfl (by decide) rfl ?_
  refine kw_iconst (pc := 2) (i := 2) (v := 0) rfl rfl ?_
  refine kw_istore (pc := 3) (i := 3) (n := 5) (lv' := [(5, .int 0), (3, .long h), (0, .ref 1), (1, .long h)]) rfl (by decide) rfl ?_
  have L3 : ∀ (n7 : Nat) (x1 : Int32) (x2 : Int64), 0 ≤ x1.toInt → l_X3_fold_1_5 h σ n7 x2 x1 = (f_X3_fold_1 σ h) → (10 - x1.toInt).toNat < n7 → kw_AW l 1 kw_E0 KX mX3_fold (p_X3_fold_1 σ h) 5 [(5, .int x1), (3, .long x2), (0, .ref 1), (1, .long h)] [] σ := by
    intro n7
    induction n7 with
    | zero => intro x1 x2 v5 hF m6; exact absurd m6 (Nat.not_lt_zero _)
    | succ n7 ih4 =>
      intro x1 x2 v5 hF m6
      replace hF := kf_st (l_X3_fold_1_5_s _ _ _ _ _) hF
      have r_x1 := kw_rng x1
      refine kw_iload (pc := 5) (i := 4) (k := 0) (n := 5) rfl rfl ?_
      refine kw_aload_n (pc := 7) (i := 5) (k := 2) (n := 0) rfl rfl rfl ?_
      refine kw_get (pc := 8) (i := 6) (v := .ref 13) rfl rfl rfl lkX3_20 (fun _ => rfl) ?_
      refine kw_alen (pc := 11) (i := 7) (n := 6) (v := 6) rfl rfl rfl ?_
      refine kw_icmp_ge (pc := 12) (i := 8) (tgt := 75) rfl rfl (fun c8 => ?_) (fun c8 => ?_)
      · replace hF := kf_nl c8 hF
        refine kw_lload_n (pc := 75) (i := 43) (k := 1) (n := 3) rfl rfl rfl ?_
        exact kw_lreturn (pc := 76) (i := 44) rfl rfl ⟨rfl, _, rfl, hF⟩
      · replace hF := kf_p c8 hF
        refine kw_ldc2 (pc := 15) (i := 9) (v := 31) rfl ckX3_51 ?_
        refine kw_lload_n (pc := 18) (i := 10) (k := 1) (n := 3) rfl rfl rfl ?_
        refine kw_lmul (pc := 19) (i := 11) rfl (fun z9 e_z9 => ?_)
        replace hF := kf_le e_z9 hF
        refine kw_aload_n (pc := 20) (i := 12) (k := 2) (n := 0) rfl rfl rfl ?_
        refine kw_get (pc := 21) (i := 13) (v := .ref 13) rfl rfl rfl lkX3_20 (fun _ => rfl) ?_
        refine kw_iload (pc := 24) (i := 14) (k := 0) (n := 5) rfl rfl ?_
        refine kw_iald (pc := 26) (i := 15) (n := 6) rfl rfl (by omega) (by omega) (fun z10 e_z10 => ?_)
        replace hF := kf_le e_z10 hF
        have t_z10 := congrArg Int32.toInt e_z10
        have b_z10 : -1 ≤ z10.toInt ∧ z10.toInt ≤ 40 := by rw [e_z10]; exact hI 13 _
        refine kw_i2l (pc := 27) (i := 16) rfl (fun z11 e_z11 t_z11 => ?_)
        replace hF := kf_le e_z11 hF
        refine kw_ladd (pc := 28) (i := 17) rfl (fun z12 e_z12 => ?_)
        replace hF := kf_le e_z12 hF
        refine kw_lstore_n (pc := 29) (i := 18) (n := 3) (lv' := [(3, .long z12), (5, .int x1), (0, .ref 1), (1, .long h)]) rfl rfl (by decide) rfl ?_
        refine kw_iconst (pc := 30) (i := 19) (v := 0) rfl rfl ?_
        refine kw_istore (pc := 31) (i := 20) (n := 6) (lv' := [(6, .int 0), (3, .long z12), (5, .int x1), (0, .ref 1), (1, .long h)]) rfl (by decide) rfl ?_
        have L15 : ∀ (n19 : Nat) (x13 : Int32) (x14 : Int64), 0 ≤ x13.toInt → l_X3_fold_1_33 (l_X3_fold_1_5 h σ n7) h x1 σ n19 x14 x13 = (f_X3_fold_1 σ h) → (61 - x13.toInt).toNat < n19 → kw_AW l 1 kw_E0 KX mX3_fold (p_X3_fold_1 σ h) 33 [(6, .int x13), (3, .long x14), (5, .int x1), (0, .ref 1), (1, .long h)] [] σ := by
          intro n19
          induction n19 with
          | zero => intro x13 x14 v17 hF m18; exact absurd m18 (Nat.not_lt_zero _)
          | succ n19 ih16 =>
            intro x13 x14 v17 hF m18
            replace hF := kf_st (l_X3_fold_1_33_s _ _ _ _ _ _ _) hF
            have r_x13 := kw_rng x13
            refine kw_iload (pc := 33) (i := 21) (k := 0) (n := 6) rfl rfl ?_
            refine kw_aload_n (pc := 35) (i := 22) (k := 3) (n := 0) rfl rfl rfl ?_
            refine kw_get (pc := 36) (i := 23) (v := .ref 13) rfl rfl rfl lkX3_20 (fun _ => rfl) ?_
            refine kw_iload (pc := 39) (i := 24) (k := 2) (n := 5) rfl rfl ?_
            refine kw_iald (pc := 41) (i := 25) (n := 6) rfl rfl (by omega) (by omega) (fun z20 e_z20 => ?_)
            replace hF := kf_le e_z20 hF
            have t_z20 := congrArg Int32.toInt e_z20
            have b_z20 : -1 ≤ z20.toInt ∧ z20.toInt ≤ 40 := by rw [e_z20]; exact hI 13 _
            refine kw_icmp_ge (pc := 42) (i := 26) (tgt := 69) rfl rfl (fun c21 => ?_) (fun c21 => ?_)
            · replace hF := kf_nl c21 hF
              refine kw_iinc' (pc := 69) (i := 41) (k := 2) (fun z => [(5, .int z), (6, .int x13), (3, .long x14), (0, .ref 1), (1, .long h)]) rfl rfl (by decide) rfl (fun _ => rfl) (fun z22 e_z22 t_z22 => ?_)
              replace hF := kf_le e_z22 hF
              refine kw_goto (pc := 72) (i := 42) (tgt := 5) rfl rfl ?_
              refine kw_sub (lv' := [(5, .int z22), (3, .long x14), (0, .ref 1), (1, .long h)]) [0, 2, 3, 4] rfl ?_
              exact ih4 z22 x14 (by omega) hF (by omega)
            · replace hF := kf_p c21 hF
              refine kw_ldc2 (pc := 45) (i := 27) (v := 31) rfl ckX3_51 ?_
              refine kw_lload_n (pc := 48) (i := 28) (k := 1) (n := 3) rfl rfl rfl ?_
              refine kw_lmul (pc := 49) (i := 29) rfl (fun z23 e_z23 => ?_)
              replace hF := kf_le e_z23 hF
              refine kw_aload_n (pc := 50) (i := 30) (k := 3) (n := 0) rfl rfl rfl ?_
              refine kw_get (pc := 51) (i := 31) (v := .ref 12) rfl rfl rfl lkX3_17 (fun _ => rfl) ?_
              refine kw_iload (pc := 54) (i := 32) (k := 2) (n := 5) rfl rfl ?_
              have w24 : x1.toInt = 0 ∨ x1.toInt = 1 ∨ x1.toInt = 2 ∨ x1.toInt = 3 ∨ x1.toInt = 4 ∨ x1.toInt = 5 := by omega
              rcases w24 with w24 | w24 | w24 | w24 | w24 | w24
              · replace hF := kf_p w24 hF
                have e_w24 : x1.toNatClampNeg = 0 := by have := kw_clampI (x := x1) (by omega); omega
                refine kw_aald (pc := 56) (i := 33) (b := 29) rfl rfl (by decide) (by omega) (by rw [e_w24]; rfl) ?_
                refine kw_iload (pc := 57) (i := 34) (k := 0) (n := 6) rfl rfl ?_
                refine kw_iald (pc := 59) (i := 35) (n := 40) rfl rfl (by omega) (by omega) (fun z25 e_z25 => ?_)
                replace hF := kf_le e_z25 hF
                have t_z25 := congrArg Int32.toInt e_z25
                have r_z25 := kw_rng z25
                refine kw_i2l (pc := 60) (i := 36) rfl (fun z26 e_z26 t_z26 => ?_)
                replace hF := kf_le e_z26 hF
                refine kw_ladd (pc := 61) (i := 37) rfl (fun z27 e_z27 => ?_)
                replace hF := kf_le e_z27 hF
                refine kw_lstore_n (pc := 62) (i := 38) (n := 3) (lv' := [(3, .long z27), (6, .int x13), (5, .int x1), (0, .ref 1), (1, .long h)]) rfl rfl (by decide) rfl ?_
                refine kw_iinc' (pc := 63) (i := 39) (k := 1) (fun z => [(6, .int z), (3, .long z27), (5, .int x1), (0, .ref 1), (1, .long h)]) rfl rfl (by decide) rfl (fun _ => rfl) (fun z28 e_z28 t_z28 => ?_)
                replace hF := kf_le e_z28 hF
                refine kw_goto (pc := 66) (i := 40) (tgt := 33) rfl rfl ?_
                refine kw_sub (lv' := [(6, .int z28), (3, .long z27), (5, .int x1), (0, .ref 1), (1, .long h)]) [0, 1, 2, 3, 4] rfl ?_
                exact ih16 z28 z27 (by omega) hF (by omega)
              · replace hF := kf_n (fun q => absurd (w24.symm.trans q) (by decide)) hF
                replace hF := kf_p w24 hF
                have e_w24 : x1.toNatClampNeg = 1 := by have := kw_clampI (x := x1) (by omega); omega
                refine kw_aald (pc := 56) (i := 33) (b := 30) rfl rfl (by decide) (by omega) (by rw [e_w24]; rfl) ?_
                refine kw_iload (pc := 57) (i := 34) (k := 0) (n := 6) rfl rfl ?_
                refine kw_iald (pc := 59) (i := 35) (n := 40) rfl rfl (by omega) (by omega) (fun z29 e_z29 => ?_)
                replace hF := kf_le e_z29 hF
                have t_z29 := congrArg Int32.toInt e_z29
                have r_z29 := kw_rng z29
                refine kw_i2l (pc := 60) (i := 36) rfl (fun z30 e_z30 t_z30 => ?_)
                replace hF := kf_le e_z30 hF
                refine kw_ladd (pc := 61) (i := 37) rfl (fun z31 e_z31 => ?_)
                replace hF := kf_le e_z31 hF
                refine kw_lstore_n (pc := 62) (i := 38) (n := 3) (lv' := [(3, .long z31), (6, .int x13), (5, .int x1), (0, .ref 1), (1, .long h)]) rfl rfl (by decide) rfl ?_
                refine kw_iinc' (pc := 63) (i := 39) (k := 1) (fun z => [(6, .int z), (3, .long z31), (5, .int x1), (0, .ref 1), (1, .long h)]) rfl rfl (by decide) rfl (fun _ => rfl) (fun z32 e_z32 t_z32 => ?_)
                replace hF := kf_le e_z32 hF
                refine kw_goto (pc := 66) (i := 40) (tgt := 33) rfl rfl ?_
                refine kw_sub (lv' := [(6, .int z32), (3, .long z31), (5, .int x1), (0, .ref 1), (1, .long h)]) [0, 1, 2, 3, 4] rfl ?_
                exact ih16 z32 z31 (by omega) hF (by omega)
              · replace hF := kf_n (fun q => absurd (w24.symm.trans q) (by decide)) hF
                replace hF := kf_n (fun q => absurd (w24.symm.trans q) (by decide)) hF
                replace hF := kf_p w24 hF
                have e_w24 : x1.toNatClampNeg = 2 := by have := kw_clampI (x := x1) (by omega); omega
                refine kw_aald (pc := 56) (i := 33) (b := 31) rfl rfl (by decide) (by omega) (by rw [e_w24]; rfl) ?_
                refine kw_iload (pc := 57) (i := 34) (k := 0) (n := 6) rfl rfl ?_
                refine kw_iald (pc := 59) (i := 35) (n := 40) rfl rfl (by omega) (by omega) (fun z33 e_z33 => ?_)
                replace hF := kf_le e_z33 hF
                have t_z33 := congrArg Int32.toInt e_z33
                have r_z33 := kw_rng z33
                refine kw_i2l (pc := 60) (i := 36) rfl (fun z34 e_z34 t_z34 => ?_)
                replace hF := kf_le e_z34 hF
                refine kw_ladd (pc := 61) (i := 37) rfl (fun z35 e_z35 => ?_)
                replace hF := kf_le e_z35 hF
                refine kw_lstore_n (pc := 62) (i := 38) (n := 3) (lv' := [(3, .long z35), (6, .int x13), (5, .int x1), (0, .ref 1), (1, .long h)]) rfl rfl (by decide) rfl ?_
                refine kw_iinc' (pc := 63) (i := 39) (k := 1) (fun z => [(6, .int z), (3, .long z35), (5, .int x1), (0, .ref 1), (1, .long h)]) rfl rfl (by decide) rfl (fun _ => rfl) (fun z36 e_z36 t_z36 => ?_)
                replace hF := kf_le e_z36 hF
                refine kw_goto (pc := 66) (i := 40) (tgt := 33) rfl rfl ?_
                refine kw_sub (lv' := [(6, .int z36), (3, .long z35), (5, .int x1), (0, .ref 1), (1, .long h)]) [0, 1, 2, 3, 4] rfl ?_
                exact ih16 z36 z35 (by omega) hF (by omega)
              · replace hF := kf_n (fun q => absurd (w24.symm.trans q) (by decide)) hF
                replace hF := kf_n (fun q => absurd (w24.symm.trans q) (by decide)) hF
                replace hF := kf_n (fun q => absurd (w24.symm.trans q) (by decide)) hF
                replace hF := kf_p w24 hF
                have e_w24 : x1.toNatClampNeg = 3 := by have := kw_clampI (x := x1) (by omega); omega
                refine kw_aald (pc := 56) (i := 33) (b := 32) rfl rfl (by decide) (by omega) (by rw [e_w24]; rfl) ?_
                refine kw_iload (pc := 57) (i := 34) (k := 0) (n := 6) rfl rfl ?_
                refine kw_iald (pc := 59) (i := 35) (n := 40) rfl rfl (by omega) (by omega) (fun z37 e_z37 => ?_)
                replace hF := kf_le e_z37 hF
                have t_z37 := congrArg Int32.toInt e_z37
                have r_z37 := kw_rng z37
                refine kw_i2l (pc := 60) (i := 36) rfl (fun z38 e_z38 t_z38 => ?_)
                replace hF := kf_le e_z38 hF
                refine kw_ladd (pc := 61) (i := 37) rfl (fun z39 e_z39 => ?_)
                replace hF := kf_le e_z39 hF
                refine kw_lstore_n (pc := 62) (i := 38) (n := 3) (lv' := [(3, .long z39), (6, .int x13), (5, .int x1), (0, .ref 1), (1, .long h)]) rfl rfl (by decide) rfl ?_
                refine kw_iinc' (pc := 63) (i := 39) (k := 1) (fun z => [(6, .int z), (3, .long z39), (5, .int x1), (0, .ref 1), (1, .long h)]) rfl rfl (by decide) rfl (fun _ => rfl) (fun z40 e_z40 t_z40 => ?_)
                replace hF := kf_le e_z40 hF
                refine kw_goto (pc := 66) (i := 40) (tgt := 33) rfl rfl ?_
                refine kw_sub (lv' := [(6, .int z40), (3, .long z39), (5, .int x1), (0, .ref 1), (1, .long h)]) [0, 1, 2, 3, 4] rfl ?_
                exact ih16 z40 z39 (by omega) hF (by omega)
              · replace hF := kf_n (fun q => absurd (w24.symm.trans q) (by decide)) hF
                replace hF := kf_n (fun q => absurd (w24.symm.trans q) (by decide)) hF
                replace hF := kf_n (fun q => absurd (w24.symm.trans q) (by decide)) hF
                replace hF := kf_n (fun q => absurd (w24.symm.trans q) (by decide)) hF
                replace hF := kf_p w24 hF
                have e_w24 : x1.toNatClampNeg = 4 := by have := kw_clampI (x := x1) (by omega); omega
                refine kw_aald (pc := 56) (i := 33) (b := 33) rfl rfl (by decide) (by omega) (by rw [e_w24]; rfl) ?_
                refine kw_iload (pc := 57) (i := 34) (k := 0) (n := 6) rfl rfl ?_
                refine kw_iald (pc := 59) (i := 35) (n := 40) rfl rfl (by omega) (by omega) (fun z41 e_z41 => ?_)
                replace hF := kf_le e_z41 hF
                have t_z41 := congrArg Int32.toInt e_z41
                have r_z41 := kw_rng z41
                refine kw_i2l (pc := 60) (i := 36) rfl (fun z42 e_z42 t_z42 => ?_)
                replace hF := kf_le e_z42 hF
                refine kw_ladd (pc := 61) (i := 37) rfl (fun z43 e_z43 => ?_)
                replace hF := kf_le e_z43 hF
                refine kw_lstore_n (pc := 62) (i := 38) (n := 3) (lv' := [(3, .long z43), (6, .int x13), (5, .int x1), (0, .ref 1), (1, .long h)]) rfl rfl (by decide) rfl ?_
                refine kw_iinc' (pc := 63) (i := 39) (k := 1) (fun z => [(6, .int z), (3, .long z43), (5, .int x1), (0, .ref 1), (1, .long h)]) rfl rfl (by decide) rfl (fun _ => rfl) (fun z44 e_z44 t_z44 => ?_)
                replace hF := kf_le e_z44 hF
                refine kw_goto (pc := 66) (i := 40) (tgt := 33) rfl rfl ?_
                refine kw_sub (lv' := [(6, .int z44), (3, .long z43), (5, .int x1), (0, .ref 1), (1, .long h)]) [0, 1, 2, 3, 4] rfl ?_
                exact ih16 z44 z43 (by omega) hF (by omega)
              · replace hF := kf_n (fun q => absurd (w24.symm.trans q) (by decide)) hF
                replace hF := kf_n (fun q => absurd (w24.symm.trans q) (by decide)) hF
                replace hF := kf_n (fun q => absurd (w24.symm.trans q) (by decide)) hF
                replace hF := kf_n (fun q => absurd (w24.symm.trans q) (by decide)) hF
                replace hF := kf_n (fun q => absurd (w24.symm.trans q) (by decide)) hF
                replace hF := kf_p w24 hF
                have e_w24 : x1.toNatClampNeg = 5 := by have := kw_clampI (x := x1) (by omega); omega
                refine kw_aald (pc := 56) (i := 33) (b := 34) rfl rfl (by decide) (by omega) (by rw [e_w24]; rfl) ?_
                refine kw_iload (pc := 57) (i := 34) (k := 0) (n := 6) rfl rfl ?_
                refine kw_iald (pc := 59) (i := 35) (n := 40) rfl rfl (by omega) (by omega) (fun z45 e_z45 => ?_)
                replace hF := kf_le e_z45 hF
                have t_z45 := congrArg Int32.toInt e_z45
                have r_z45 := kw_rng z45
                refine kw_i2l (pc := 60) (i := 36) rfl (fun z46 e_z46 t_z46 => ?_)
                replace hF := kf_le e_z46 hF
                refine kw_ladd (pc := 61) (i := 37) rfl (fun z47 e_z47 => ?_)
                replace hF := kf_le e_z47 hF
                refine kw_lstore_n (pc := 62) (i := 38) (n := 3) (lv' := [(3, .long z47), (6, .int x13), (5, .int x1), (0, .ref 1), (1, .long h)]) rfl rfl (by decide) rfl ?_
                refine kw_iinc' (pc := 63) (i := 39) (k := 1) (fun z => [(6, .int z), (3, .long z47), (5, .int x1), (0, .ref 1), (1, .long h)]) rfl rfl (by decide) rfl (fun _ => rfl) (fun z48 e_z48 t_z48 => ?_)
                replace hF := kf_le e_z48 hF
                refine kw_goto (pc := 66) (i := 40) (tgt := 33) rfl rfl ?_
                refine kw_sub (lv' := [(6, .int z48), (3, .long z47), (5, .int x1), (0, .ref 1), (1, .long h)]) [0, 1, 2, 3, 4] rfl ?_
                exact ih16 z48 z47 (by omega) hF (by omega)
        exact L15 _ 0 z12 (by omega) hF (Nat.lt_succ_self _)
  exact L3 _ 0 h (by omega) hF (Nat.lt_succ_self _)
noncomputable def f_X3_valueAt_2 (σ : kw_S) (k : Int32) (i : Int32) : Int32 := kf_l (f_X3_hasPlaces_2 σ k i (1 : Int32)) fun z1 => if z1.toInt = 0 then ((1000 : Int32)) else (if k.toInt = 0 then (kf_l (σ.1 35 i.toNatClampNeg) fun z2 => z2) else if k.toInt = 1 then (kf_l (σ.1 36 i.toNatClampNeg) fun z3 => z3) else if k.toInt = 2 then (kf_l (σ.1 37 i.toNatClampNeg) fun z4 => z4) else if k.toInt = 3 then (kf_l (σ.1 38 i.toNatClampNeg) fun z5 => z5) else 0)
theorem f_X3_valueAt_2_u (σ : kw_S) (k : Int32) (i : Int32) : f_X3_valueAt_2 σ k i = kf_l (f_X3_hasPlaces_2 σ k i (1 : Int32)) fun z1 => if z1.toInt = 0 then ((1000 : Int32)) else (if k.toInt = 0 then (kf_l (σ.1 35 i.toNatClampNeg) fun z2 => z2) else if k.toInt = 1 then (kf_l (σ.1 36 i.toNatClampNeg) fun z3 => z3) else if k.toInt = 2 then (kf_l (σ.1 37 i.toNatClampNeg) fun z4 => z4) else if k.toInt = 3 then (kf_l (σ.1 38 i.toNatClampNeg) fun z5 => z5) else 0) := rfl
abbrev p_X3_valueAt_2 (σ : kw_S) (k : Int32) (i : Int32) : Option Value → kw_S → Prop := fun vv σ' => σ' = σ ∧ ∃ r : Int32, vv = some (.int r) ∧ r = f_X3_valueAt_2 σ k i
set_option maxRecDepth 100000 in
set_option maxHeartbeats 4000000 in
theorem c_X3_valueAt_2 (l : Launch) (σ : kw_S) (hI : kw_I bX σ) (k : Int32) (i : Int32) : kw_Met l 3 KX mX3_valueAt [.ref 2, .int k, .int i] σ (p_X3_valueAt_2 σ k i) := by
  have r_k := kw_rng k
  have r_i := kw_rng i
  have hF := (f_X3_valueAt_2_u σ k i).symm
  have q_1 : (1 : Int32).toInt = 1 := rfl
  have q_1000 : (1000 : Int32).toInt = 1000 := rfl
  refine kw_Met.of (by decide) rfl tX3_valueAt (Nat.le_of_ble_eq_true rfl) ?_
  show kw_AW l 3 kw_E0 KX mX3_valueAt (p_X3_valueAt_2 σ k i) 0 [(0, .ref 2), (1, .int k), (2, .int i)] [] σ
  refine kw_aload_n (pc := 0) (i := 0) (k := 0) (n := 0) rfl rfl rfl ?_
  refine kw_iload_n (pc := 1) (i := 1) (k := 1) (n := 1) rfl rfl rfl ?_
  refine kw_iload_n (pc := 2) (i := 2) (k := 2) (n := 2) rfl rfl rfl ?_
  refine kw_iconst (pc := 3) (i := 3) (v := 1) rfl rfl ?_
  refine kw_callV (pc := 4) (i := 4) (Y := mX3_hasPlaces) (a := 2) (As := [.int k, .int i, .int 1]) (st := []) kw_hE rfl rfl lvX3_41 arX3_hasPlaces (c_X3_hasPlaces_2 l σ hI k i 1 ) (by decide) (Nat.le_of_ble_eq_true rfl) rfl (fun v S2 p1 => ?_)
  obtain ⟨e7, z6, rfl, f3, f4, ef5⟩ := p1
  rw [e7]
  replace hF := kf_le ef5 hF
  have r_z6 := kw_rng z6
  show kw_AW l 3 kw_E0 KX mX3_valueAt (p_X3_valueAt_2 σ k i) 7 [(0, .ref 2), (1, .int k), (2, .int i)] [.int z6] σ
  refine kw_if_eq (pc := 7) (i := 5) (tgt := 21) rfl rfl (fun c8 => ?_) (fun c8 => ?_)
  · replace hF := kf_p c8 hF
    refine kw_sipush (pc := 21) (i := 13) (v := 1000) rfl rfl ?_
    exact kw_ireturn (pc := 24) (i := 14) (ty := .int) rfl rfl rfl ⟨rfl, _, rfl, hF⟩
  · replace hF := kf_n c8 hF
    refine kw_aload_n (pc := 10) (i := 6) (k := 0) (n := 0) rfl rfl rfl ?_
    refine kw_get (pc := 11) (i := 7) (v := .ref 14) rfl rfl rfl lkX3_17 (fun _ => rfl) ?_
    refine kw_iload_n (pc := 14) (i := 8) (k := 1) (n := 1) rfl rfl rfl ?_
    have w9 : k.toInt = 0 ∨ k.toInt = 1 ∨ k.toInt = 2 ∨ k.toInt = 3 := by omega
    rcases w9 with w9 | w9 | w9 | w9
    · replace hF := kf_p w9 hF
      have e_w9 : k.toNatClampNeg = 0 := by have := kw_clampI (x := k) (by omega); omega
      refine kw_aald (pc := 15) (i := 9) (b := 35) rfl rfl (by decide) (by omega) (by rw [e_w9]; rfl) ?_
      refine kw_iload_n (pc := 16) (i := 10) (k := 2) (n := 2) rfl rfl rfl ?_
      refine kw_iald (pc := 17) (i := 11) (n := 60) rfl rfl (by omega) (by omega) (fun z10 e_z10 => ?_)
      replace hF := kf_le e_z10 hF
      have t_z10 := congrArg Int32.toInt e_z10
      have r_z10 := kw_rng z10
      refine kw_goto (pc := 18) (i := 12) (tgt := 24) rfl rfl ?_
      exact kw_ireturn (pc := 24) (i := 14) (ty := .int) rfl rfl rfl ⟨rfl, _, rfl, hF⟩
    · replace hF := kf_n (fun q => absurd (w9.symm.trans q) (by decide)) hF
      replace hF := kf_p w9 hF
      have e_w9 : k.toNatClampNeg = 1 := by have := kw_clampI (x := k) (by omega); omega
      refine kw_aald (pc := 15) (i := 9) (b := 36) rfl rfl (by decide) (by omega) (by rw [e_w9]; rfl) ?_
      refine kw_iload_n (pc := 16) (i := 10) (k := 2) (n := 2) rfl rfl rfl ?_
      refine kw_iald (pc := 17) (i := 11) (n := 60) rfl rfl (by omega) (by omega) (fun z11 e_z11 => ?_)
      replace hF := kf_le e_z11 hF
      have t_z11 := congrArg Int32.toInt e_z11
      have r_z11 := kw_rng z11
      refine kw_goto (pc := 18) (i := 12) (tgt := 24) rfl rfl ?_
      exact kw_ireturn (pc := 24) (i := 14) (ty := .int) rfl rfl rfl ⟨rfl, _, rfl, hF⟩
    · replace hF := kf_n (fun q => absurd (w9.symm.trans q) (by decide)) hF
      replace hF := kf_n (fun q => absurd (w9.symm.trans q) (by decide)) hF
      replace hF := kf_p w9 hF
      have e_w9 : k.toNatClampNeg = 2 := by have := kw_clampI (x := k) (by omega); omega
      refine kw_aald (pc := 15) (i := 9) (b := 37) rfl rfl (by decide) (by omega) (by rw [e_w9]; rfl) ?_
      refine kw_iload_n (pc := 16) (i := 10) (k := 2) (n := 2) rfl rfl rfl ?_
      refine kw_iald (pc := 17) (i := 11) (n := 60) rfl rfl (by omega) (by omega) (fun z12 e_z12 => ?_)
      replace hF := kf_le e_z12 hF
      have t_z12 := congrArg Int32.toInt e_z12
      have r_z12 := kw_rng z12
      refine kw_goto (pc := 18) (i := 12) (tgt := 24) rfl rfl ?_
      exact kw_ireturn (pc := 24) (i := 14) (ty := .int) rfl rfl rfl ⟨rfl, _, rfl, hF⟩
    · replace hF := kf_n (fun q => absurd (w9.symm.trans q) (by decide)) hF
      replace hF := kf_n (fun q => absurd (w9.symm.trans q) (by decide)) hF
      replace hF := kf_n (fun q => absurd (w9.symm.trans q) (by decide)) hF
      replace hF := kf_p w9 hF
      have e_w9 : k.toNatClampNeg = 3 := by have := kw_clampI (x := k) (by omega); omega
      refine kw_aald (pc := 15) (i := 9) (b := 38) rfl rfl (by decide) (by omega) (by rw [e_w9]; rfl) ?_
      refine kw_iload_n (pc := 16) (i := 10) (k := 2) (n := 2) rfl rfl rfl ?_
      refine kw_iald (pc := 17) (i := 11) (n := 60) rfl rfl (by omega) (by omega) (fun z13 e_z13 => ?_)
      replace hF := kf_le e_z13 hF
      have t_z13 := congrArg Int32.toInt e_z13
      have r_z13 := kw_rng z13
      refine kw_goto (pc := 18) (i := 12) (tgt := 24) rfl rfl ?_
      exact kw_ireturn (pc := 24) (i := 14) (ty := .int) rfl rfl rfl ⟨rfl, _, rfl, hF⟩
noncomputable def f_X3_change_2 (σ : kw_S) (k : Int32) (i : Int32) (v : Int32) : kw_S := kf_l (f_X3_hasPlaces_2 σ k i (1 : Int32)) fun z1 => if z1.toInt = 0 then (σ) else (if k.toInt = 0 then (kw_ui σ 35 i.toNatClampNeg v) else if k.toInt = 1 then (kw_ui σ 36 i.toNatClampNeg v) else if k.toInt = 2 then (kw_ui σ 37 i.toNatClampNeg v) else if k.toInt = 3 then (kw_ui σ 38 i.toNatClampNeg v) else σ)
theorem f_X3_change_2_u (σ : kw_S) (k : Int32) (i : Int32) (v : Int32) : f_X3_change_2 σ k i v = kf_l (f_X3_hasPlaces_2 σ k i (1 : Int32)) fun z1 => if z1.toInt = 0 then (σ) else (if k.toInt = 0 then (kw_ui σ 35 i.toNatClampNeg v) else if k.toInt = 1 then (kw_ui σ 36 i.toNatClampNeg v) else if k.toInt = 2 then (kw_ui σ 37 i.toNatClampNeg v) else if k.toInt = 3 then (kw_ui σ 38 i.toNatClampNeg v) else σ) := rfl
abbrev p_X3_change_2 (σ : kw_S) (k : Int32) (i : Int32) (v : Int32) : Option Value → kw_S → Prop := fun vv σ' => (kw_I bX σ' ∧ kw_F [35, 36, 37, 38] σ σ') ∧ vv = none ∧ σ' = f_X3_change_2 σ k i v
set_option maxRecDepth 100000 in
set_option maxHeartbeats 4000000 in
theorem c_X3_change_2 (l : Launch) (σ : kw_S) (hI : kw_I bX σ) (k : Int32) (i : Int32) (v : Int32) : kw_Met l 3 KX mX3_change [.ref 2, .int k, .int i, .int v] σ (p_X3_change_2 σ k i v) := by
  have r_k := kw_rng k
  have r_i := kw_rng i
  have r_v := kw_rng v
  have hF0 : kw_F [35, 36, 37, 38] σ σ := kw_F.rf
  have hF := (f_X3_change_2_u σ k i v).symm
  have q_1 : (1 : Int32).toInt = 1 := rfl
  refine kw_Met.of (by decide) rfl tX3_change (Nat.le_of_ble_eq_true rfl) ?_
  show kw_AW l 3 kw_E0 KX mX3_change (p_X3_change_2 σ k i v) 0 [(0, .ref 2), (1, .int k), (2, .int i), (3, .int v)] [] σ
  refine kw_aload_n (pc := 0) (i := 0) (k := 0) (n := 0) rfl rfl rfl ?_
  refine kw_iload_n (pc := 1) (i := 1) (k := 1) (n := 1) rfl rfl rfl ?_
  refine kw_iload_n (pc := 2) (i := 2) (k := 2) (n := 2) rfl rfl rfl ?_
  refine kw_iconst (pc := 3) (i := 3) (v := 1) rfl rfl ?_
  refine kw_callV (pc := 4) (i := 4) (Y := mX3_hasPlaces) (a := 2) (As := [.int k, .int i, .int 1]) (st := []) kw_hE rfl rfl lvX3_41 arX3_hasPlaces (c_X3_hasPlaces_2 l σ hI k i 1 ) (by decide) (Nat.le_of_ble_eq_true rfl) rfl (fun v S2 p1 => ?_)
  obtain ⟨e7, z6, rfl, f3, f4, ef5⟩ := p1
  rw [e7]
  replace hF := kf_le ef5 hF
  have r_z6 := kw_rng z6
  show kw_AW l 3 kw_E0 KX mX3_change (p_X3_change_2 σ k i v) 7 [(0, .ref 2), (1, .int k), (2, .int i), (3, .int v)] [.int z6] σ
  refine kw_if_eq (pc := 7) (i := 5) (tgt := 19) rfl rfl (fun c8 => ?_) (fun c8 => ?_)
  · replace hF := kf_p c8 hF
    exact kw_return (pc := 19) (i := 13) rfl rfl ⟨⟨hI, hF0⟩, rfl, hF⟩
  · replace hF := kf_n c8 hF
    refine kw_aload_n (pc := 10) (i := 6) (k := 0) (n := 0) rfl rfl rfl ?_
    refine kw_get (pc := 11) (i := 7) (v := .ref 14) rfl rfl rfl lkX3_17 (fun _ => rfl) ?_
    refine kw_iload_n (pc := 14) (i := 8) (k := 1) (n := 1) rfl rfl rfl ?_
    have w9 : k.toInt = 0 ∨ k.toInt = 1 ∨ k.toInt = 2 ∨ k.toInt = 3 := by omega
    rcases w9 with w9 | w9 | w9 | w9
    · replace hF := kf_p w9 hF
      have e_w9 : k.toNatClampNeg = 0 := by have := kw_clampI (x := k) (by omega); omega
      refine kw_aald (pc := 15) (i := 9) (b := 35) rfl rfl (by decide) (by omega) (by rw [e_w9]; rfl) ?_
      refine kw_iload_n (pc := 16) (i := 10) (k := 2) (n := 2) rfl rfl rfl ?_
      refine kw_iload_n (pc := 17) (i := 11) (k := 3) (n := 3) rfl rfl rfl ?_
      refine kw_iast (pc := 18) (i := 12) (n := 60) rfl rfl (by omega) (by omega) ?_
      have I10 : kw_I bX (kw_ui σ 35 i.toNatClampNeg v) := kw_I_ui hI (kw_rng v).1 (Int.le_of_lt_add_one (kw_rng v).2)
      have F11 : kw_F [35, 36, 37, 38] σ (kw_ui σ 35 i.toNatClampNeg v) := kw_F_ui hF0 (by decide)
      exact kw_return (pc := 19) (i := 13) rfl rfl ⟨⟨I10, F11⟩, rfl, hF⟩
    · replace hF := kf_n (fun q => absurd (w9.symm.trans q) (by decide)) hF
      replace hF := kf_p w9 hF
      have e_w9 : k.toNatClampNeg = 1 := by have := kw_clampI (x := k) (by omega); omega
      refine kw_aald (pc := 15) (i := 9) (b := 36) rfl rfl (by decide) (by omega) (by rw [e_w9]; rfl) ?_
      refine kw_iload_n (pc := 16) (i := 10) (k := 2) (n := 2) rfl rfl rfl ?_
      refine kw_iload_n (pc := 17) (i := 11) (k := 3) (n := 3) rfl rfl rfl ?_
      refine kw_iast (pc := 18) (i := 12) (n := 60) rfl rfl (by omega) (by omega) ?_
      have I12 : kw_I bX (kw_ui σ 36 i.toNatClampNeg v) := kw_I_ui hI (kw_rng v).1 (Int.le_of_lt_add_one (kw_rng v).2)
      have F13 : kw_F [35, 36, 37, 38] σ (kw_ui σ 36 i.toNatClampNeg v) := kw_F_ui hF0 (by decide)
      exact kw_return (pc := 19) (i := 13) rfl rfl ⟨⟨I12, F13⟩, rfl, hF⟩
    · replace hF := kf_n (fun q => absurd (w9.symm.trans q) (by decide)) hF
      replace hF := kf_n (fun q => absurd (w9.symm.trans q) (by decide)) hF
      replace hF := kf_p w9 hF
      have e_w9 : k.toNatClampNeg = 2 := by have := kw_clampI (x := k) (by omega); omega
      refine kw_aald (pc := 15) (i := 9) (b := 37) rfl rfl (by decide) (by omega) (by rw [e_w9]; rfl) ?_
      refine kw_iload_n (pc := 16) (i := 10) (k := 2) (n := 2) rfl rfl rfl ?_
      refine kw_iload_n (pc := 17) (i := 11) (k := 3) (n := 3) rfl rfl rfl ?_
      refine kw_iast (pc := 18) (i := 12) (n := 60) rfl rfl (by omega) (by omega) ?_
      have I14 : kw_I bX (kw_ui σ 37 i.toNatClampNeg v) := kw_I_ui hI (kw_rng v).1 (Int.le_of_lt_add_one (kw_rng v).2)
      have F15 : kw_F [35, 36, 37, 38] σ (kw_ui σ 37 i.toNatClampNeg v) := kw_F_ui hF0 (by decide)
      exact kw_return (pc := 19) (i := 13) rfl rfl ⟨⟨I14, F15⟩, rfl, hF⟩
    · replace hF := kf_n (fun q => absurd (w9.symm.trans q) (by decide)) hF
      replace hF := kf_n (fun q => absurd (w9.symm.trans q) (by decide)) hF
      replace hF := kf_n (fun q => absurd (w9.symm.trans q) (by decide)) hF
      replace hF := kf_p w9 hF
      have e_w9 : k.toNatClampNeg = 3 := by have := kw_clampI (x := k) (by omega); omega
      refine kw_aald (pc := 15) (i := 9) (b := 38) rfl rfl (by decide) (by omega) (by rw [e_w9]; rfl) ?_
      refine kw_iload_n (pc := 16) (i := 10) (k := 2) (n := 2) rfl rfl rfl ?_
      refine kw_iload_n (pc := 17) (i := 11) (k := 3) (n := 3) rfl rfl rfl ?_
      refine kw_iast (pc := 18) (i := 12) (n := 60) rfl rfl (by omega) (by omega) ?_
      have I16 : kw_I bX (kw_ui σ 38 i.toNatClampNeg v) := kw_I_ui hI (kw_rng v).1 (Int.le_of_lt_add_one (kw_rng v).2)
      have F17 : kw_F [35, 36, 37, 38] σ (kw_ui σ 38 i.toNatClampNeg v) := kw_F_ui hF0 (by decide)
      exact kw_return (pc := 19) (i := 13) rfl rfl ⟨⟨I16, F17⟩, rfl, hF⟩
noncomputable def f_X3_make_2 (σ : kw_S) (k : Int32) (n : Int32) (v : Int32) : kw_S := kf_l (f_X3_has_2 σ k) fun z1 => if z1.toInt = 0 then (σ) else (if n.toInt < 0 then (σ) else (if (σ.1 2 0).toInt < n.toInt then (σ) else (if k.toInt = 0 then (kf_l (f_J7_fill_53178_35 (kw_ui σ 15 k.toNatClampNeg n) v) fun S2 => S2) else if k.toInt = 1 then (kf_l (f_J7_fill_53178_36 (kw_ui σ 15 k.toNatClampNeg n) v) fun S3 => S3) else if k.toInt = 2 then (kf_l (f_J7_fill_53178_37 (kw_ui σ 15 k.toNatClampNeg n) v) fun S4 => S4) else if k.toInt = 3 then (kf_l (f_J7_fill_53178_38 (kw_ui σ 15 k.toNatClampNeg n) v) fun S5 => S5) else (kw_ui σ 15 k.toNatClampNeg n))))
theorem f_X3_make_2_u (σ : kw_S) (k : Int32) (n : Int32) (v : Int32) : f_X3_make_2 σ k n v = kf_l (f_X3_has_2 σ k) fun z1 => if z1.toInt = 0 then (σ) else (if n.toInt < 0 then (σ) else (if (σ.1 2 0).toInt < n.toInt then (σ) else (if k.toInt = 0 then (kf_l (f_J7_fill_53178_35 (kw_ui σ 15 k.toNatClampNeg n) v) fun S2 => S2) else if k.toInt = 1 then (kf_l (f_J7_fill_53178_36 (kw_ui σ 15 k.toNatClampNeg n) v) fun S3 => S3) else if k.toInt = 2 then (kf_l (f_J7_fill_53178_37 (kw_ui σ 15 k.toNatClampNeg n) v) fun S4 => S4) else if k.toInt = 3 then (kf_l (f_J7_fill_53178_38 (kw_ui σ 15 k.toNatClampNeg n) v) fun S5 => S5) else (kw_ui σ 15 k.toNatClampNeg n)))) := rfl
abbrev p_X3_make_2 (σ : kw_S) (k : Int32) (n : Int32) (v : Int32) : Option Value → kw_S → Prop := fun vv σ' => (kw_I bX σ' ∧ kw_F [15, 35, 36, 37, 38] σ σ') ∧ vv = none ∧ σ' = f_X3_make_2 σ k n v
set_option maxRecDepth 100000 in
set_option maxHeartbeats 4000000 in
theorem c_X3_make_2 (l : Launch) (σ : kw_S) (hI : kw_I bX σ) (k : Int32) (n : Int32) (v : Int32) : kw_Met l 2 KX mX3_make [.ref 2, .int k, .int n, .int v] σ (p_X3_make_2 σ k n v) := by
  have r_k := kw_rng k
  have r_n := kw_rng n
  have r_v := kw_rng v
  have hF0 : kw_F [15, 35, 36, 37, 38] σ σ := kw_F.rf
  have hF := (f_X3_make_2_u σ k n v).symm
  refine kw_Met.of (by decide) rfl tX3_make (Nat.le_of_ble_eq_true rfl) ?_
  show kw_AW l 2 kw_E0 KX mX3_make (p_X3_make_2 σ k n v) 0 [(0, .ref 2), (1, .int k), (2, .int n), (3, .int v)] [] σ
  refine kw_aload_n (pc := 0) (i := 0) (k := 0) (n := 0) rfl rfl rfl ?_
  refine kw_iload_n (pc := 1) (i := 1) (k := 1) (n := 1) rfl rfl rfl ?_
  refine kw_callV (pc := 2) (i := 2) (Y := mX3_has) (a := 2) (As := [.int k]) (st := []) kw_hE rfl rfl lvX3_34 arX3_has (c_X3_has_2 l σ hI k ) (by decide) (Nat.le_of_ble_eq_true rfl) rfl (fun v S2 p1 => ?_)
  obtain ⟨e8, z7, rfl, f3, f4, f5, ef6⟩ := p1
  rw [e8]
  replace hF := kf_le ef6 hF
  have r_z7 := kw_rng z7
  show kw_AW l 2 kw_E0 KX mX3_make (p_X3_make_2 σ k n v) 5 [(0, .ref 2), (1, .int k), (2, .int n), (3, .int v)] [.int z7] σ
  refine kw_if_eq (pc := 5) (i := 3) (tgt := 20) rfl rfl (fun c9 => ?_) (fun c9 => ?_)
  · replace hF := kf_p c9 hF
    exact kw_return (pc := 20) (i := 10) rfl rfl ⟨⟨hI, hF0⟩, rfl, hF⟩
  · replace hF := kf_n c9 hF
    refine kw_iload_n (pc := 8) (i := 4) (k := 2) (n := 2) rfl rfl rfl ?_
    refine kw_if_lt (pc := 9) (i := 5) (tgt := 20) rfl rfl (fun c10 => ?_) (fun c10 => ?_)
    · replace hF := kf_p c10 hF
      exact kw_return (pc := 20) (i := 10) rfl rfl ⟨⟨hI, hF0⟩, rfl, hF⟩
    · replace hF := kf_nl c10 hF
      refine kw_iload_n (pc := 12) (i := 6) (k := 2) (n := 2) rfl rfl rfl ?_
      refine kw_aload_n (pc := 13) (i := 7) (k := 0) (n := 0) rfl rfl rfl ?_
      refine kw_get (pc := 14) (i := 8) (v := .int (σ.1 2 0)) rfl rfl rfl lkX3_9 (fun _ => rfl) ?_
      have b11 : 60 ≤ (σ.1 2 0).toInt ∧ (σ.1 2 0).toInt ≤ 60 := hI 2 0
      refine kw_icmp_le (pc := 17) (i := 9) (tgt := 21) rfl rfl (fun c12 => ?_) (fun c12 => ?_)
      · replace hF := kf_nl c12 hF
        refine kw_aload_n (pc := 21) (i := 11) (k := 0) (n := 0) rfl rfl rfl ?_
        refine kw_get (pc := 22) (i := 12) (v := .ref 15) rfl rfl rfl lkX3_20 (fun _ => rfl) ?_
        refine kw_iload_n (pc := 25) (i := 13) (k := 1) (n := 1) rfl rfl rfl ?_
        refine kw_iload_n (pc := 26) (i := 14) (k := 2) (n := 2) rfl rfl rfl ?_
        refine kw_iast (pc := 27) (i := 15) (n := 4) rfl rfl (by omega) (by omega) ?_
        have I13 : kw_I bX (kw_ui σ 15 k.toNatClampNeg n) := kw_I_ui hI (show -1 ≤ n.toInt by omega) (show n.toInt ≤ 60 by omega)
        have F14 : kw_F [15, 35, 36, 37, 38] σ (kw_ui σ 15 k.toNatClampNeg n) := kw_F_ui hF0 (by decide)
        refine kw_aload_n (pc := 28) (i := 16) (k := 0) (n := 0) rfl rfl rfl ?_
        refine kw_get (pc := 29) (i := 17) (v := .ref 14) rfl rfl rfl lkX3_17 (fun _ => rfl) ?_
        refine kw_iload_n (pc := 32) (i := 18) (k := 1) (n := 1) rfl rfl rfl ?_
        have w15 : k.toInt = 0 ∨ k.toInt = 1 ∨ k.toInt = 2 ∨ k.toInt = 3 := by omega
        rcases w15 with w15 | w15 | w15 | w15
        · replace hF := kf_p w15 hF
          have e_w15 : k.toNatClampNeg = 0 := by have := kw_clampI (x := k) (by omega); omega
          refine kw_aald (pc := 33) (i := 19) (b := 35) rfl rfl (by decide) (by omega) (by rw [e_w15]; rfl) ?_
          refine kw_iload_n (pc := 34) (i := 20) (k := 3) (n := 3) rfl rfl rfl ?_
          refine kw_callS (pc := 35) (i := 21) (Y := mJ7_fill_53178) (As := [.ref 35, .int v]) (st := []) kw_hE rfl lsX3_24 arJ7_fill_53178 (c_J7_fill_53178_35 l (kw_ui σ 15 k.toNatClampNeg n) I13 v ) (by decide) (Nat.le_of_ble_eq_true rfl) rfl (fun v S17 p16 => ?_)
          obtain ⟨⟨I19, F20⟩, rfl, ef18⟩ := p16
          have F21 : kw_F [15, 35, 36, 37, 38] σ S17 := kw_F.tr F14 F20 (by decide)
          replace hF := kf_le ef18 hF
          show kw_AW l 2 kw_E0 KX mX3_make (p_X3_make_2 σ k n v) 38 [(0, .ref 2), (1, .int k), (2, .int n), (3, .int v)] [] S17
          exact kw_return (pc := 38) (i := 22) rfl rfl ⟨⟨I19, F21⟩, rfl, hF⟩
        · replace hF := kf_n (fun q => absurd (w15.symm.trans q) (by decide)) hF
          replace hF := kf_p w15 hF
          have e_w15 : k.toNatClampNeg = 1 := by have := kw_clampI (x := k) (by omega); omega
          refine kw_aald (pc := 33) (i := 19) (b := 36) rfl rfl (by decide) (by omega) (by rw [e_w15]; rfl) ?_
          refine kw_iload_n (pc := 34) (i := 20) (k := 3) (n := 3) rfl rfl rfl ?_
          refine kw_callS (pc := 35) (i := 21) (Y := mJ7_fill_53178) (As := [.ref 36, .int v]) (st := []) kw_hE rfl lsX3_24 arJ7_fill_53178 (c_J7_fill_53178_36 l (kw_ui σ 15 k.toNatClampNeg n) I13 v ) (by decide) (Nat.le_of_ble_eq_true rfl) rfl (fun v S23 p22 => ?_)
          obtain ⟨⟨I25, F26⟩, rfl, ef24⟩ := p22
          have F27 : kw_F [15, 35, 36, 37, 38] σ S23 := kw_F.tr F14 F26 (by decide)
          replace hF := kf_le ef24 hF
          show kw_AW l 2 kw_E0 KX mX3_make (p_X3_make_2 σ k n v) 38 [(0, .ref 2), (1, .int k), (2, .int n), (3, .int v)] [] S23
          exact kw_return (pc := 38) (i := 22) rfl rfl ⟨⟨I25, F27⟩, rfl, hF⟩
        · replace hF := kf_n (fun q => absurd (w15.symm.trans q) (by decide)) hF
          replace hF := kf_n (fun q => absurd (w15.symm.trans q) (by decide)) hF
          replace hF := kf_p w15 hF
          have e_w15 : k.toNatClampNeg = 2 := by have := kw_clampI (x := k) (by omega); omega
          refine kw_aald (pc := 33) (i := 19) (b := 37) rfl rfl (by decide) (by omega) (by rw [e_w15]; rfl) ?_
          refine kw_iload_n (pc := 34) (i := 20) (k := 3) (n := 3) rfl rfl rfl ?_
          refine kw_callS (pc := 35) (i := 21) (Y := mJ7_fill_53178) (As := [.ref 37, .int v]) (st := []) kw_hE rfl lsX3_24 arJ7_fill_53178 (c_J7_fill_53178_37 l (kw_ui σ 15 k.toNatClampNeg n) I13 v ) (by decide) (Nat.le_of_ble_eq_true rfl) rfl (fun v S29 p28 => ?_)
          obtain ⟨⟨I31, F32⟩, rfl, ef30⟩ := p28
          have F33 : kw_F [15, 35, 36, 37, 38] σ S29 := kw_F.tr F14 F32 (by decide)
          replace hF := kf_le ef30 hF
          show kw_AW l 2 kw_E0 KX mX3_make (p_X3_make_2 σ k n v) 38 [(0, .ref 2), (1, .int k), (2, .int n), (3, .int v)] [] S29
          exact kw_return (pc := 38) (i := 22) rfl rfl ⟨⟨I31, F33⟩, rfl, hF⟩
        · replace hF := kf_n (fun q => absurd (w15.symm.trans q) (by decide)) hF
          replace hF := kf_n (fun q => absurd (w15.symm.trans q) (by decide)) hF
          replace hF := kf_n (fun q => absurd (w15.symm.trans q) (by decide)) hF
          replace hF := kf_p w15 hF
          have e_w15 : k.toNatClampNeg = 3 := by have := kw_clampI (x := k) (by omega); omega
          refine kw_aald (pc := 33) (i := 19) (b := 38) rfl rfl (by decide) (by omega) (by rw [e_w15]; rfl) ?_
          refine kw_iload_n (pc := 34) (i := 20) (k := 3) (n := 3) rfl rfl rfl ?_
          refine kw_callS (pc := 35) (i := 21) (Y := mJ7_fill_53178) (As := [.ref 38, .int v]) (st := []) kw_hE rfl lsX3_24 arJ7_fill_53178 (c_J7_fill_53178_38 l (kw_ui σ 15 k.toNatClampNeg n) I13 v ) (by decide) (Nat.le_of_ble_eq_true rfl) rfl (fun v S35 p34 => ?_)
          obtain ⟨⟨I37, F38⟩, rfl, ef36⟩ := p34
          have F39 : kw_F [15, 35, 36, 37, 38] σ S35 := kw_F.tr F14 F38 (by decide)
          replace hF := kf_le ef36 hF
          show kw_AW l 2 kw_E0 KX mX3_make (p_X3_make_2 σ k n v) 38 [(0, .ref 2), (1, .int k), (2, .int n), (3, .int v)] [] S35
          exact kw_return (pc := 38) (i := 22) rfl rfl ⟨⟨I37, F39⟩, rfl, hF⟩
      · replace hF := kf_p c12 hF
        exact kw_return (pc := 20) (i := 10) rfl rfl ⟨⟨hI, hF0⟩, rfl, hF⟩
noncomputable def f_X3_drop_2 (σ : kw_S) (k : Int32) : kw_S := kf_l (f_X3_has_2 σ k) fun z1 => if z1.toInt = 0 then (σ) else (kw_ui σ 15 k.toNatClampNeg (-1))
theorem f_X3_drop_2_u (σ : kw_S) (k : Int32) : f_X3_drop_2 σ k = kf_l (f_X3_has_2 σ k) fun z1 => if z1.toInt = 0 then (σ) else (kw_ui σ 15 k.toNatClampNeg (-1)) := rfl
abbrev p_X3_drop_2 (σ : kw_S) (k : Int32) : Option Value → kw_S → Prop := fun vv σ' => (kw_I bX σ' ∧ kw_F [15] σ σ') ∧ vv = none ∧ σ' = f_X3_drop_2 σ k
set_option maxRecDepth 100000 in
set_option maxHeartbeats 4000000 in
theorem c_X3_drop_2 (l : Launch) (σ : kw_S) (hI : kw_I bX σ) (k : Int32) : kw_Met l 2 KX mX3_drop [.ref 2, .int k] σ (p_X3_drop_2 σ k) := by
  have r_k := kw_rng k
  have hF0 : kw_F [15] σ σ := kw_F.rf
  have hF := (f_X3_drop_2_u σ k).symm
  have q_m1 : (-1 : Int32).toInt = -1 := rfl
  refine kw_Met.of (by decide) rfl tX3_drop (Nat.le_of_ble_eq_true rfl) ?_
  show kw_AW l 2 kw_E0 KX mX3_drop (p_X3_drop_2 σ k) 0 [(0, .ref 2), (1, .int k)] [] σ
  refine kw_aload_n (pc := 0) (i := 0) (k := 0) (n := 0) rfl rfl rfl ?_
  refine kw_iload_n (pc := 1) (i := 1) (k := 1) (n := 1) rfl rfl rfl ?_
  refine kw_callV (pc := 2) (i := 2) (Y := mX3_has) (a := 2) (As := [.int k]) (st := []) kw_hE rfl rfl lvX3_34 arX3_has (c_X3_has_2 l σ hI k ) (by decide) (Nat.le_of_ble_eq_true rfl) rfl (fun v S2 p1 => ?_)
  obtain ⟨e8, z7, rfl, f3, f4, f5, ef6⟩ := p1
  rw [e8]
  replace hF := kf_le ef6 hF
  have r_z7 := kw_rng z7
  show kw_AW l 2 kw_E0 KX mX3_drop (p_X3_drop_2 σ k) 5 [(0, .ref 2), (1, .int k)] [.int z7] σ
  refine kw_if_eq (pc := 5) (i := 3) (tgt := 15) rfl rfl (fun c9 => ?_) (fun c9 => ?_)
  · replace hF := kf_p c9 hF
    exact kw_return (pc := 15) (i := 9) rfl rfl ⟨⟨hI, hF0⟩, rfl, hF⟩
  · replace hF := kf_n c9 hF
    refine kw_aload_n (pc := 8) (i := 4) (k := 0) (n := 0) rfl rfl rfl ?_
    refine kw_get (pc := 9) (i := 5) (v := .ref 15) rfl rfl rfl lkX3_20 (fun _ => rfl) ?_
    refine kw_iload_n (pc := 12) (i := 6) (k := 1) (n := 1) rfl rfl rfl ?_
    refine kw_iconst (pc := 13) (i := 7) (v := (-1)) rfl rfl ?_
    refine kw_iast (pc := 14) (i := 8) (n := 4) rfl rfl (by omega) (by omega) ?_
    have I10 : kw_I bX (kw_ui σ 15 k.toNatClampNeg (-1)) := kw_I_ui hI (show -1 ≤ ((-1) : Int32).toInt by omega) (show ((-1) : Int32).toInt ≤ 60 by omega)
    have F11 : kw_F [15] σ (kw_ui σ 15 k.toNatClampNeg (-1)) := kw_F_ui hF0 (by decide)
    exact kw_return (pc := 15) (i := 9) rfl rfl ⟨⟨I10, F11⟩, rfl, hF⟩
noncomputable def f_X3_findingAt_2 (σ : kw_S) (k : Int32) (i : Int32) : Int32 := kf_l (f_X3_isMissing_2 σ k) fun z1 => if z1.toInt = 0 then (kf_l (f_X3_hasPlaces_2 σ k i (1 : Int32)) fun z2 => if z2.toInt = 0 then ((2 : Int32)) else ((0 : Int32))) else ((1 : Int32))
theorem f_X3_findingAt_2_u (σ : kw_S) (k : Int32) (i : Int32) : f_X3_findingAt_2 σ k i = kf_l (f_X3_isMissing_2 σ k) fun z1 => if z1.toInt = 0 then (kf_l (f_X3_hasPlaces_2 σ k i (1 : Int32)) fun z2 => if z2.toInt = 0 then ((2 : Int32)) else ((0 : Int32))) else ((1 : Int32)) := rfl
abbrev p_X3_findingAt_2 (σ : kw_S) (k : Int32) (i : Int32) : Option Value → kw_S → Prop := fun vv σ' => σ' = σ ∧ ∃ r : Int32, vv = some (.int r) ∧ r = f_X3_findingAt_2 σ k i
set_option maxRecDepth 100000 in
set_option maxHeartbeats 4000000 in
theorem c_X3_findingAt_2 (l : Launch) (σ : kw_S) (hI : kw_I bX σ) (k : Int32) (i : Int32) : kw_Met l 4 KX mX3_findingAt [.ref 2, .int k, .int i] σ (p_X3_findingAt_2 σ k i) := by
  have r_k := kw_rng k
  have r_i := kw_rng i
  have hF := (f_X3_findingAt_2_u σ k i).symm
  have q_0 : (0 : Int32).toInt = 0 := rfl
  have q_1 : (1 : Int32).toInt = 1 := rfl
  have q_2 : (2 : Int32).toInt = 2 := rfl
  refine kw_Met.of (by decide) rfl tX3_findingAt (Nat.le_of_ble_eq_true rfl) ?_
  show kw_AW l 4 kw_E0 KX mX3_findingAt (p_X3_findingAt_2 σ k i) 0 [(0, .ref 2), (1, .int k), (2, .int i)] [] σ
  refine kw_aload_n (pc := 0) (i := 0) (k := 0) (n := 0) rfl rfl rfl ?_
  refine kw_iload_n (pc := 1) (i := 1) (k := 1) (n := 1) rfl rfl rfl ?_
  refine kw_callV (pc := 2) (i := 2) (Y := mX3_isMissing) (a := 2) (As := [.int k]) (st := []) kw_hE rfl rfl lvX3_38 arX3_isMissing (c_X3_isMissing_2 l σ hI k ) (by decide) (Nat.le_of_ble_eq_true rfl) rfl (fun v S2 p1 => ?_)
  obtain ⟨e7, z6, rfl, f3, f4, ef5⟩ := p1
  rw [e7]
  replace hF := kf_le ef5 hF
  have r_z6 := kw_rng z6
  show kw_AW l 4 kw_E0 KX mX3_findingAt (p_X3_findingAt_2 σ k i) 5 [(0, .ref 2), (1, .int k), (2, .int i)] [.int z6] σ
  refine kw_if_eq (pc := 5) (i := 3) (tgt := 10) rfl rfl (fun c8 => ?_) (fun c8 => ?_)
  · replace hF := kf_p c8 hF
    refine kw_aload_n (pc := 10) (i := 6) (k := 0) (n := 0) rfl rfl rfl ?_
    refine kw_iload_n (pc := 11) (i := 7) (k := 1) (n := 1) rfl rfl rfl ?_
    refine kw_iload_n (pc := 12) (i := 8) (k := 2) (n := 2) rfl rfl rfl ?_
    refine kw_iconst (pc := 13) (i := 9) (v := 1) rfl rfl ?_
    refine kw_callV (pc := 14) (i := 10) (Y := mX3_hasPlaces) (a := 2) (As := [.int k, .int i, .int 1]) (st := []) kw_hE rfl rfl lvX3_41 arX3_hasPlaces (c_X3_hasPlaces_2 l σ hI k i 1 ) (by decide) (Nat.le_of_ble_eq_true rfl) rfl (fun v S10 p9 => ?_)
    obtain ⟨e15, z14, rfl, f11, f12, ef13⟩ := p9
    rw [e15]
    replace hF := kf_le ef13 hF
    have r_z14 := kw_rng z14
    show kw_AW l 4 kw_E0 KX mX3_findingAt (p_X3_findingAt_2 σ k i) 17 [(0, .ref 2), (1, .int k), (2, .int i)] [.int z14] σ
    refine kw_if_eq (pc := 17) (i := 11) (tgt := 24) rfl rfl (fun c16 => ?_) (fun c16 => ?_)
    · replace hF := kf_p c16 hF
      refine kw_iconst (pc := 24) (i := 14) (v := 2) rfl rfl ?_
      exact kw_ireturn (pc := 25) (i := 15) (ty := .int) rfl rfl rfl ⟨rfl, _, rfl, hF⟩
    · replace hF := kf_n c16 hF
      refine kw_iconst (pc := 20) (i := 12) (v := 0) rfl rfl ?_
      refine kw_goto (pc := 21) (i := 13) (tgt := 25) rfl rfl ?_
      exact kw_ireturn (pc := 25) (i := 15) (ty := .int) rfl rfl rfl ⟨rfl, _, rfl, hF⟩
  · replace hF := kf_n c8 hF
    refine kw_iconst (pc := 8) (i := 4) (v := 1) rfl rfl ?_
    exact kw_ireturn (pc := 9) (i := 5) (ty := .int) rfl rfl rfl ⟨rfl, _, rfl, hF⟩
noncomputable def l_X3_fold_2_33 (k5 : Int64 → Int32 → Int64) (a1 : Int64) (a5 : Int32) (S : kw_S) : Nat → Int64 → Int32 → Int64
  | 0, _, _ => 0
  | n + 1, x3, x6 => kf_l (S.1 15 a5.toNatClampNeg) fun z5 => if x6.toInt < z5.toInt then (kf_l ((31 : Int64) * x3) fun z7 => if a5.toInt = 0 then (kf_l (S.1 35 x6.toNatClampNeg) fun z8 => kf_l z8.toInt64 fun z9 => kf_l (z7 + z9) fun z10 => kf_l (x6 + Int32.ofInt 1) fun z11 => l_X3_fold_2_33 k5 a1 a5 S n z10 z11) else if a5.toInt = 1 then (kf_l (S.1 36 x6.toNatClampNeg) fun z12 => kf_l z12.toInt64 fun z13 => kf_l (z7 + z13) fun z14 => kf_l (x6 + Int32.ofInt 1) fun z15 => l_X3_fold_2_33 k5 a1 a5 S n z14 z15) else if a5.toInt = 2 then (kf_l (S.1 37 x6.toNatClampNeg) fun z16 => kf_l z16.toInt64 fun z17 => kf_l (z7 + z17) fun z18 => kf_l (x6 + Int32.ofInt 1) fun z19 => l_X3_fold_2_33 k5 a1 a5 S n z18 z19) else if a5.toInt = 3 then (kf_l (S.1 38 x6.toNatClampNeg) fun z20 => kf_l z20.toInt64 fun z21 => kf_l (z7 + z21) fun z22 => kf_l (x6 + Int32.ofInt 1) fun z23 => l_X3_fold_2_33 k5 a1 a5 S n z22 z23) else 0) else (kf_l (a5 + Int32.ofInt 1) fun z6 => k5 x3 z6)
theorem l_X3_fold_2_33_s (k5 : Int64 → Int32 → Int64) (a1 : Int64) (a5 : Int32) (S : kw_S) (n : Nat) (x3 : Int64) (x6 : Int32) : l_X3_fold_2_33 k5 a1 a5 S (n + 1) x3 x6 = kf_l (S.1 15 a5.toNatClampNeg) fun z5 => if x6.toInt < z5.toInt then (kf_l ((31 : Int64) * x3) fun z7 => if a5.toInt = 0 then (kf_l (S.1 35 x6.toNatClampNeg) fun z8 => kf_l z8.toInt64 fun z9 => kf_l (z7 + z9) fun z10 => kf_l (x6 + Int32.ofInt 1) fun z11 => l_X3_fold_2_33 k5 a1 a5 S n z10 z11) else if a5.toInt = 1 then (kf_l (S.1 36 x6.toNatClampNeg) fun z12 => kf_l z12.toInt64 fun z13 => kf_l (z7 + z13) fun z14 => kf_l (x6 + Int32.ofInt 1) fun z15 => l_X3_fold_2_33 k5 a1 a5 S n z14 z15) else if a5.toInt = 2 then (kf_l (S.1 37 x6.toNatClampNeg) fun z16 => kf_l z16.toInt64 fun z17 => kf_l (z7 + z17) fun z18 => kf_l (x6 + Int32.ofInt 1) fun z19 => l_X3_fold_2_33 k5 a1 a5 S n z18 z19) else if a5.toInt = 3 then (kf_l (S.1 38 x6.toNatClampNeg) fun z20 => kf_l z20.toInt64 fun z21 => kf_l (z7 + z21) fun z22 => kf_l (x6 + Int32.ofInt 1) fun z23 => l_X3_fold_2_33 k5 a1 a5 S n z22 z23) else 0) else (kf_l (a5 + Int32.ofInt 1) fun z6 => k5 x3 z6) := rfl
noncomputable def l_X3_fold_2_5 (a1 : Int64) (S : kw_S) : Nat → Int64 → Int32 → Int64
  | 0, _, _ => 0
  | n + 1, x3, x5 => if x5.toInt < (4 : Int32).toInt then (kf_l ((31 : Int64) * x3) fun z1 => kf_l (S.1 15 x5.toNatClampNeg) fun z2 => kf_l z2.toInt64 fun z3 => kf_l (z1 + z3) fun z4 => l_X3_fold_2_33 (l_X3_fold_2_5 a1 S n) a1 x5 S ((61 - (0 : Int32).toInt).toNat + 1) z4 (0 : Int32)) else (x3)
theorem l_X3_fold_2_5_s (a1 : Int64) (S : kw_S) (n : Nat) (x3 : Int64) (x5 : Int32) : l_X3_fold_2_5 a1 S (n + 1) x3 x5 = if x5.toInt < (4 : Int32).toInt then (kf_l ((31 : Int64) * x3) fun z1 => kf_l (S.1 15 x5.toNatClampNeg) fun z2 => kf_l z2.toInt64 fun z3 => kf_l (z1 + z3) fun z4 => l_X3_fold_2_33 (l_X3_fold_2_5 a1 S n) a1 x5 S ((61 - (0 : Int32).toInt).toNat + 1) z4 (0 : Int32)) else (x3) := rfl
noncomputable def f_X3_fold_2 (σ : kw_S) (h : Int64) : Int64 := l_X3_fold_2_5 h σ ((10 - (0 : Int32).toInt).toNat + 1) h (0 : Int32)
theorem f_X3_fold_2_u (σ : kw_S) (h : Int64) : f_X3_fold_2 σ h = l_X3_fold_2_5 h σ ((10 - (0 : Int32).toInt).toNat + 1) h (0 : Int32) := rfl
abbrev p_X3_fold_2 (σ : kw_S) (h : Int64) : Option Value → kw_S → Prop := fun vv σ' => σ' = σ ∧ ∃ r : Int64, vv = some (.long r) ∧ r = f_X3_fold_2 σ h
set_option maxRecDepth 100000 in
set_option maxHeartbeats 4000000 in
theorem c_X3_fold_2 (l : Launch) (σ : kw_S) (hI : kw_I bX σ) (h : Int64) : kw_Met l 1 KX mX3_fold [.ref 2, .long h] σ (p_X3_fold_2 σ h) := by
  have hF := (f_X3_fold_2_u σ h).symm
  have q_0 : (0 : Int32).toInt = 0 := rfl
  have q_4 : (4 : Int32).toInt = 4 := rfl
  refine kw_Met.of (by decide) rfl tX3_fold (Nat.le_of_ble_eq_true rfl) ?_
  show kw_AW l 1 kw_E0 KX mX3_fold (p_X3_fold_2 σ h) 0 [(0, .ref 2), (1, .long h)] [] σ
  refine kw_lload_n (pc := 0) (i := 0) (k := 1) (n := 1) rfl rfl rfl ?_
  refine kw_lstore_n (pc := 1) (i := 1) (n := 3) (lv' := [(3, .long h), (0, .ref 2), (1, .long h)]) rfl rfl (by decide) rfl ?_
  refine kw_iconst (pc := 2) (i := 2) (v := 0) rfl rfl ?_
  refine kw_istore (pc := 3) (i := 3) (n := 5) (lv' := [(5, .int 0), (3, .long h), (0, .ref 2), (1, .long h)]) rfl (by decide) rfl ?_
  have L3 : ∀ (n7 : Nat) (x1 : Int32) (x2 : Int64), 0 ≤ x1.toInt → l_X3_fold_2_5 h σ n7 x2 x1 = (f_X3_fold_2 σ h) → (10 - x1.toInt).toNat < n7 → kw_AW l 1 kw_E0 KX mX3_fold (p_X3_fold_2 σ h) 5 [(5, .int x1), (3, .long x2), (0, .ref 2), (1, .long h)] [] σ := by
    intro n7
    induction n7 with
    | zero => intro x1 x2 v5 hF m6; exact absurd m6 (Nat.not_lt_zero _)
    | succ n7 ih4 =>
      intro x1 x2 v5 hF m6
      replace hF := kf_st (l_X3_fold_2_5_s _ _ _ _ _) hF
      have r_x1 := kw_rng x1
      refine kw_iload (pc := 5) (i := 4) (k := 0) (n := 5) rfl rfl ?_
      refine kw_aload_n (pc := 7) (i := 5) (k := 2) (n := 0) rfl rfl rfl ?_
      refine kw_get (pc := 8) (i := 6) (v := .ref 15) rfl rfl rfl lkX3_20 (fun _ => rfl) ?_
      refine kw_alen (pc := 11) (i := 7) (n := 4) (v := 4) rfl rfl rfl ?_
      refine kw_icmp_ge (pc := 12) (i := 8) (tgt := 75) rfl rfl (fun c8 => ?_) (fun c8 => ?_)
      · replace hF := kf_nl c8 hF
        refine kw_lload_n (pc := 75) (i := 43) (k := 1) (n := 3) rfl rfl rfl ?_
        exact kw_lreturn (pc := 76) (i := 44) rfl rfl ⟨rfl, _, rfl, hF⟩
      · replace hF := kf_p c8 hF
        refine kw_ldc2 (pc := 15) (i := 9) (v := 31) rfl ckX3_51 ?_
        refine kw_lload_n (pc := 18) (i := 10) (k := 1) (n := 3) rfl rfl rfl ?_
        refine kw_lmul (pc := 19) (i := 11) rfl (fun z9 e_z9 => ?_)
        replace hF := kf_le e_z9 hF
        refine kw_aload_n (pc := 20) (i := 12) (k := 2) (n := 0) rfl rfl rfl ?_
        refine kw_get (pc := 21) (i := 13) (v := .ref 15) rfl rfl rfl lkX3_20 (fun _ => rfl) ?_
        refine kw_iload (pc := 24) (i := 14) (k := 0) (n := 5) rfl rfl ?_
        refine kw_iald (pc := 26) (i := 15) (n := 4) rfl rfl (by omega) (by omega) (fun z10 e_z10 => ?_)
        replace hF := kf_le e_z10 hF
        have t_z10 := congrArg Int32.toInt e_z10
        have b_z10 : -1 ≤ z10.toInt ∧ z10.toInt ≤ 60 := by rw [e_z10]; exact hI 15 _
        refine kw_i2l (pc := 27) (i := 16) rfl (fun z11 e_z11 t_z11 => ?_)
        replace hF := kf_le e_z11 hF
        refine kw_ladd (pc := 28) (i := 17) rfl (fun z12 e_z12 => ?_)
        replace hF := kf_le e_z12 hF
        refine kw_lstore_n (pc := 29) (i := 18) (n := 3) (lv' := [(3, .long z12), (5, .int x1), (0, .ref 2), (1, .long h)]) rfl rfl (by decide) rfl ?_
        refine kw_iconst (pc := 30) (i := 19) (v := 0) rfl rfl ?_
        refine kw_istore (pc := 31) (i := 20) (n := 6) (lv' := [(6, .int 0), (3, .long z12), (5, .int x1), (0, .ref 2), (1, .long h)]) rfl (by decide) rfl ?_
        have L15 : ∀ (n19 : Nat) (x13 : Int32) (x14 : Int64), 0 ≤ x13.toInt → l_X3_fold_2_33 (l_X3_fold_2_5 h σ n7) h x1 σ n19 x14 x13 = (f_X3_fold_2 σ h) → (61 - x13.toInt).toNat < n19 → kw_AW l 1 kw_E0 KX mX3_fold (p_X3_fold_2 σ h) 33 [(6, .int x13), (3, .long x14), (5, .int x1), (0, .ref 2), (1, .long h)] [] σ := by
          intro n19
          induction n19 with
          | zero => intro x13 x14 v17 hF m18; exact absurd m18 (Nat.not_lt_zero _)
          | succ n19 ih16 =>
            intro x13 x14 v17 hF m18
            replace hF := kf_st (l_X3_fold_2_33_s _ _ _ _ _ _ _) hF
            have r_x13 := kw_rng x13
            refine kw_iload (pc := 33) (i := 21) (k := 0) (n := 6) rfl rfl ?_
            refine kw_aload_n (pc := 35) (i := 22) (k := 3) (n := 0) rfl rfl rfl ?_
            refine kw_get (pc := 36) (i := 23) (v := .ref 15) rfl rfl rfl lkX3_20 (fun _ => rfl) ?_
            refine kw_iload (pc := 39) (i := 24) (k := 2) (n := 5) rfl rfl ?_
            refine kw_iald (pc := 41) (i := 25) (n := 4) rfl rfl (by omega) (by omega) (fun z20 e_z20 => ?_)
            replace hF := kf_le e_z20 hF
            have t_z20 := congrArg Int32.toInt e_z20
            have b_z20 : -1 ≤ z20.toInt ∧ z20.toInt ≤ 60 := by rw [e_z20]; exact hI 15 _
            refine kw_icmp_ge (pc := 42) (i := 26) (tgt := 69) rfl rfl (fun c21 => ?_) (fun c21 => ?_)
            · replace hF := kf_nl c21 hF
              refine kw_iinc' (pc := 69) (i := 41) (k := 2) (fun z => [(5, .int z), (6, .int x13), (3, .long x14), (0, .ref 2), (1, .long h)]) rfl rfl (by decide) rfl (fun _ => rfl) (fun z22 e_z22 t_z22 => ?_)
              replace hF := kf_le e_z22 hF
              refine kw_goto (pc := 72) (i := 42) (tgt := 5) rfl rfl ?_
              refine kw_sub (lv' := [(5, .int z22), (3, .long x14), (0, .ref 2), (1, .long h)]) [0, 2, 3, 4] rfl ?_
              exact ih4 z22 x14 (by omega) hF (by omega)
            · replace hF := kf_p c21 hF
              refine kw_ldc2 (pc := 45) (i := 27) (v := 31) rfl ckX3_51 ?_
              refine kw_lload_n (pc := 48) (i := 28) (k := 1) (n := 3) rfl rfl rfl ?_
              refine kw_lmul (pc := 49) (i := 29) rfl (fun z23 e_z23 => ?_)
              replace hF := kf_le e_z23 hF
              refine kw_aload_n (pc := 50) (i := 30) (k := 3) (n := 0) rfl rfl rfl ?_
              refine kw_get (pc := 51) (i := 31) (v := .ref 14) rfl rfl rfl lkX3_17 (fun _ => rfl) ?_
              refine kw_iload (pc := 54) (i := 32) (k := 2) (n := 5) rfl rfl ?_
              have w24 : x1.toInt = 0 ∨ x1.toInt = 1 ∨ x1.toInt = 2 ∨ x1.toInt = 3 := by omega
              rcases w24 with w24 | w24 | w24 | w24
              · replace hF := kf_p w24 hF
                have e_w24 : x1.toNatClampNeg = 0 := by have := kw_clampI (x := x1) (by omega); omega
                refine kw_aald (pc := 56) (i := 33) (b := 35) rfl rfl (by decide) (by omega) (by rw [e_w24]; rfl) ?_
                refine kw_iload (pc := 57) (i := 34) (k := 0) (n := 6) rfl rfl ?_
                refine kw_iald (pc := 59) (i := 35) (n := 60) rfl rfl (by omega) (by omega) (fun z25 e_z25 => ?_)
                replace hF := kf_le e_z25 hF
                have t_z25 := congrArg Int32.toInt e_z25
                have r_z25 := kw_rng z25
                refine kw_i2l (pc := 60) (i := 36) rfl (fun z26 e_z26 t_z26 => ?_)
                replace hF := kf_le e_z26 hF
                refine kw_ladd (pc := 61) (i := 37) rfl (fun z27 e_z27 => ?_)
                replace hF := kf_le e_z27 hF
                refine kw_lstore_n (pc := 62) (i := 38) (n := 3) (lv' := [(3, .long z27), (6, .int x13), (5, .int x1), (0, .ref 2), (1, .long h)]) rfl rfl (by decide) rfl ?_
                refine kw_iinc' (pc := 63) (i := 39) (k := 1) (fun z => [(6, .int z), (3, .long z27), (5, .int x1), (0, .ref 2), (1, .long h)]) rfl rfl (by decide) rfl (fun _ => rfl) (fun z28 e_z28 t_z28 => ?_)
                replace hF := kf_le e_z28 hF
                refine kw_goto (pc := 66) (i := 40) (tgt := 33) rfl rfl ?_
                refine kw_sub (lv' := [(6, .int z28), (3, .long z27), (5, .int x1), (0, .ref 2), (1, .long h)]) [0, 1, 2, 3, 4] rfl ?_
                exact ih16 z28 z27 (by omega) hF (by omega)
              · replace hF := kf_n (fun q => absurd (w24.symm.trans q) (by decide)) hF
                replace hF := kf_p w24 hF
                have e_w24 : x1.toNatClampNeg = 1 := by have := kw_clampI (x := x1) (by omega); omega
                refine kw_aald (pc := 56) (i := 33) (b := 36) rfl rfl (by decide) (by omega) (by rw [e_w24]; rfl) ?_
                refine kw_iload (pc := 57) (i := 34) (k := 0) (n := 6) rfl rfl ?_
                refine kw_iald (pc := 59) (i := 35) (n := 60) rfl rfl (by omega) (by omega) (fun z29 e_z29 => ?_)
                replace hF := kf_le e_z29 hF
                have t_z29 := congrArg Int32.toInt e_z29
                have r_z29 := kw_rng z29
                refine kw_i2l (pc := 60) (i := 36) rfl (fun z30 e_z30 t_z30 => ?_)
                replace hF := kf_le e_z30 hF
                refine kw_ladd (pc := 61) (i := 37) rfl (fun z31 e_z31 => ?_)
                replace hF := kf_le e_z31 hF
                refine kw_lstore_n (pc := 62) (i := 38) (n := 3) (lv' := [(3, .long z31), (6, .int x13), (5, .int x1), (0, .ref 2), (1, .long h)]) rfl rfl (by decide) rfl ?_
                refine kw_iinc' (pc := 63) (i := 39) (k := 1) (fun z => [(6, .int z), (3, .long z31), (5, .int x1), (0, .ref 2), (1, .long h)]) rfl rfl (by decide) rfl (fun _ => rfl) (fun z32 e_z32 t_z32 => ?_)
                replace hF := kf_le e_z32 hF
                refine kw_goto (pc := 66) (i := 40) (tgt := 33) rfl rfl ?_
                refine kw_sub (lv' := [(6, .int z32), (3, .long z31), (5, .int x1), (0, .ref 2), (1, .long h)]) [0, 1, 2, 3, 4] rfl ?_
                exact ih16 z32 z31 (by omega) hF (by omega)
              · replace hF := kf_n (fun q => absurd (w24.symm.trans q) (by decide)) hF
                replace hF := kf_n (fun q => absurd (w24.symm.trans q) (by decide)) hF
                replace hF := kf_p w24 hF
                have e_w24 : x1.toNatClampNeg = 2 := by have := kw_clampI (x := x1) (by omega); omega
                refine kw_aald (pc := 56) (i := 33) (b := 37) rfl rfl (by decide) (by omega) (by rw [e_w24]; rfl) ?_
                refine kw_iload (pc := 57) (i := 34) (k := 0) (n := 6) rfl rfl ?_
                refine kw_iald (pc := 59) (i := 35) (n := 60) rfl rfl (by omega) (by omega) (fun z33 e_z33 => ?_)
                replace hF := kf_le e_z33 hF
                have t_z33 := congrArg Int32.toInt e_z33
                have r_z33 := kw_rng z33
                refine kw_i2l (pc := 60) (i := 36) rfl (fun z34 e_z34 t_z34 => ?_)
                replace hF := kf_le e_z34 hF
                refine kw_ladd (pc := 61) (i := 37) rfl (fun z35 e_z35 => ?_)
                replace hF := kf_le e_z35 hF
                refine kw_lstore_n (pc := 62) (i := 38) (n := 3) (lv' := [(3, .long z35), (6, .int x13), (5, .int x1), (0, .ref 2), (1, .long h)]) rfl rfl (by decide) rfl ?_
                refine kw_iinc' (pc := 63) (i := 39) (k := 1) (fun z => [(6, .int z), (3, .long z35), (5, .int x1), (0, .ref 2), (1, .long h)]) rfl rfl (by decide) rfl (fun _ => rfl) (fun z36 e_z36 t_z36 => ?_)
                replace hF := kf_le e_z36 hF
                refine kw_goto (pc := 66) (i := 40) (tgt := 33) rfl rfl ?_
                refine kw_sub (lv' := [(6, .int z36), (3, .long z35), (5, .int x1), (0, .ref 2), (1, .long h)]) [0, 1, 2, 3, 4] rfl ?_
                exact ih16 z36 z35 (by omega) hF (by omega)
              · replace hF := kf_n (fun q => absurd (w24.symm.trans q) (by decide)) hF
                replace hF := kf_n (fun q => absurd (w24.symm.trans q) (by decide)) hF
                replace hF := kf_n (fun q => absurd (w24.symm.trans q) (by decide)) hF
                replace hF := kf_p w24 hF
                have e_w24 : x1.toNatClampNeg = 3 := by have := kw_clampI (x := x1) (by omega); omega
                refine kw_aald (pc := 56) (i := 33) (b := 38) rfl rfl (by decide) (by omega) (by rw [e_w24]; rfl) ?_
                refine kw_iload (pc := 57) (i := 34) (k := 0) (n := 6) rfl rfl ?_
                refine kw_iald (pc := 59) (i := 35) (n := 60) rfl rfl (by omega) (by omega) (fun z37 e_z37 => ?_)
                replace hF := kf_le e_z37 hF
                have t_z37 := congrArg Int32.toInt e_z37
                have r_z37 := kw_rng z37
                refine kw_i2l (pc := 60) (i := 36) rfl (fun z38 e_z38 t_z38 => ?_)
                replace hF := kf_le e_z38 hF
                refine kw_ladd (pc := 61) (i := 37) rfl (fun z39 e_z39 => ?_)
                replace hF := kf_le e_z39 hF
                refine kw_lstore_n (pc := 62) (i := 38) (n := 3) (lv' := [(3, .long z39), (6, .int x13), (5, .int x1), (0, .ref 2), (1, .long h)]) rfl rfl (by decide) rfl ?_
                refine kw_iinc' (pc := 63) (i := 39) (k := 1) (fun z => [(6, .int z), (3, .long z39), (5, .int x1), (0, .ref 2), (1, .long h)]) rfl rfl (by decide) rfl (fun _ => rfl) (fun z40 e_z40 t_z40 => ?_)
                replace hF := kf_le e_z40 hF
                refine kw_goto (pc := 66) (i := 40) (tgt := 33) rfl rfl ?_
                refine kw_sub (lv' := [(6, .int z40), (3, .long z39), (5, .int x1), (0, .ref 2), (1, .long h)]) [0, 1, 2, 3, 4] rfl ?_
                exact ih16 z40 z39 (by omega) hF (by omega)
        exact L15 _ 0 z12 (by omega) hF (Nat.lt_succ_self _)
  exact L3 _ 0 h (by omega) hF (Nat.lt_succ_self _)
noncomputable def f_X3_valueAt_5 (σ : kw_S) (k : Int32) (i : Int32) : Int32 := kf_l (f_X3_hasPlaces_5 σ k i (1 : Int32)) fun z1 => if z1.toInt = 0 then ((1000 : Int32)) else (if k.toInt = 0 then (kf_l (σ.1 49 i.toNatClampNeg) fun z2 => z2) else if k.toInt = 1 then (kf_l (σ.1 50 i.toNatClampNeg) fun z3 => z3) else if k.toInt = 2 then (kf_l (σ.1 51 i.toNatClampNeg) fun z4 => z4) else 0)
theorem f_X3_valueAt_5_u (σ : kw_S) (k : Int32) (i : Int32) : f_X3_valueAt_5 σ k i = kf_l (f_X3_hasPlaces_5 σ k i (1 : Int32)) fun z1 => if z1.toInt = 0 then ((1000 : Int32)) else (if k.toInt = 0 then (kf_l (σ.1 49 i.toNatClampNeg) fun z2 => z2) else if k.toInt = 1 then (kf_l (σ.1 50 i.toNatClampNeg) fun z3 => z3) else if k.toInt = 2 then (kf_l (σ.1 51 i.toNatClampNeg) fun z4 => z4) else 0) := rfl
abbrev p_X3_valueAt_5 (σ : kw_S) (k : Int32) (i : Int32) : Option Value → kw_S → Prop := fun vv σ' => σ' = σ ∧ ∃ r : Int32, vv = some (.int r) ∧ r = f_X3_valueAt_5 σ k i
set_option maxRecDepth 100000 in
set_option maxHeartbeats 4000000 in
theorem c_X3_valueAt_5 (l : Launch) (σ : kw_S) (hI : kw_I bX σ) (k : Int32) (i : Int32) : kw_Met l 3 KX mX3_valueAt [.ref 5, .int k, .int i] σ (p_X3_valueAt_5 σ k i) := by
  have r_k := kw_rng k
  have r_i := kw_rng i
  have hF := (f_X3_valueAt_5_u σ k i).symm
  have q_1 : (1 : Int32).toInt = 1 := rfl
  have q_1000 : (1000 : Int32).toInt = 1000 := rfl
  refine kw_Met.of (by decide) rfl tX3_valueAt (Nat.le_of_ble_eq_true rfl) ?_
  show kw_AW l 3 kw_E0 KX mX3_valueAt (p_X3_valueAt_5 σ k i) 0 [(0, .ref 5), (1, .int k), (2, .int i)] [] σ
  refine kw_aload_n (pc := 0) (i := 0) (k := 0) (n := 0) rfl rfl rfl ?_
  refine kw_iload_n (pc := 1) (i := 1) (k := 1) (n := 1) rfl rfl rfl ?_
  refine kw_iload_n (pc := 2) (i := 2) (k := 2) (n := 2) rfl rfl rfl ?_
  refine kw_iconst (pc := 3) (i := 3) (v := 1) rfl rfl ?_
  refine kw_callV (pc := 4) (i := 4) (Y := mX3_hasPlaces) (a := 5) (As := [.int k, .int i, .int 1]) (st := []) kw_hE rfl rfl lvX3_41 arX3_hasPlaces (c_X3_hasPlaces_5 l σ hI k i 1 ) (by decide) (Nat.le_of_ble_eq_true rfl) rfl (fun v S2 p1 => ?_)
  obtain ⟨e7, z6, rfl, f3, f4, ef5⟩ := p1
  rw [e7]
  replace hF := kf_le ef5 hF
  have r_z6 := kw_rng z6
  show kw_AW l 3 kw_E0 KX mX3_valueAt (p_X3_valueAt_5 σ k i) 7 [(0, .ref 5), (1, .int k), (2, .int i)] [.int z6] σ
  refine kw_if_eq (pc := 7) (i := 5) (tgt := 21) rfl rfl (fun c8 => ?_) (fun c8 => ?_)
  · replace hF := kf_p c8 hF
    refine kw_sipush (pc := 21) (i := 13) (v := 1000) rfl rfl ?_
    exact kw_ireturn (pc := 24) (i := 14) (ty := .int) rfl rfl rfl ⟨rfl, _, rfl, hF⟩
  · replace hF := kf_n c8 hF
    refine kw_aload_n (pc := 10) (i := 6) (k := 0) (n := 0) rfl rfl rfl ?_
    refine kw_get (pc := 11) (i := 7) (v := .ref 20) rfl rfl rfl lkX3_17 (fun _ => rfl) ?_
    refine kw_iload_n (pc := 14) (i := 8) (k := 1) (n := 1) rfl rfl rfl ?_
    have w9 : k.toInt = 0 ∨ k.toInt = 1 ∨ k.toInt = 2 := by omega
    rcases w9 with w9 | w9 | w9
    · replace hF := kf_p w9 hF
      have e_w9 : k.toNatClampNeg = 0 := by have := kw_clampI (x := k) (by omega); omega
      refine kw_aald (pc := 15) (i := 9) (b := 49) rfl rfl (by decide) (by omega) (by rw [e_w9]; rfl) ?_
      refine kw_iload_n (pc := 16) (i := 10) (k := 2) (n := 2) rfl rfl rfl ?_
      refine kw_iald (pc := 17) (i := 11) (n := 40) rfl rfl (by omega) (by omega) (fun z10 e_z10 => ?_)
      replace hF := kf_le e_z10 hF
      have t_z10 := congrArg Int32.toInt e_z10
      have r_z10 := kw_rng z10
      refine kw_goto (pc := 18) (i := 12) (tgt := 24) rfl rfl ?_
      exact kw_ireturn (pc := 24) (i := 14) (ty := .int) rfl rfl rfl ⟨rfl, _, rfl, hF⟩
    · replace hF := kf_n (fun q => absurd (w9.symm.trans q) (by decide)) hF
      replace hF := kf_p w9 hF
      have e_w9 : k.toNatClampNeg = 1 := by have := kw_clampI (x := k) (by omega); omega
      refine kw_aald (pc := 15) (i := 9) (b := 50) rfl rfl (by decide) (by omega) (by rw [e_w9]; rfl) ?_
      refine kw_iload_n (pc := 16) (i := 10) (k := 2) (n := 2) rfl rfl rfl ?_
      refine kw_iald (pc := 17) (i := 11) (n := 40) rfl rfl (by omega) (by omega) (fun z11 e_z11 => ?_)
      replace hF := kf_le e_z11 hF
      have t_z11 := congrArg Int32.toInt e_z11
      have r_z11 := kw_rng z11
      refine kw_goto (pc := 18) (i := 12) (tgt := 24) rfl rfl ?_
      exact kw_ireturn (pc := 24) (i := 14) (ty := .int) rfl rfl rfl ⟨rfl, _, rfl, hF⟩
    · replace hF := kf_n (fun q => absurd (w9.symm.trans q) (by decide)) hF
      replace hF := kf_n (fun q => absurd (w9.symm.trans q) (by decide)) hF
      replace hF := kf_p w9 hF
      have e_w9 : k.toNatClampNeg = 2 := by have := kw_clampI (x := k) (by omega); omega
      refine kw_aald (pc := 15) (i := 9) (b := 51) rfl rfl (by decide) (by omega) (by rw [e_w9]; rfl) ?_
      refine kw_iload_n (pc := 16) (i := 10) (k := 2) (n := 2) rfl rfl rfl ?_
      refine kw_iald (pc := 17) (i := 11) (n := 40) rfl rfl (by omega) (by omega) (fun z12 e_z12 => ?_)
      replace hF := kf_le e_z12 hF
      have t_z12 := congrArg Int32.toInt e_z12
      have r_z12 := kw_rng z12
      refine kw_goto (pc := 18) (i := 12) (tgt := 24) rfl rfl ?_
      exact kw_ireturn (pc := 24) (i := 14) (ty := .int) rfl rfl rfl ⟨rfl, _, rfl, hF⟩
noncomputable def f_X3_change_5 (σ : kw_S) (k : Int32) (i : Int32) (v : Int32) : kw_S := kf_l (f_X3_hasPlaces_5 σ k i (1 : Int32)) fun z1 => if z1.toInt = 0 then (σ) else (if k.toInt = 0 then (kw_ui σ 49 i.toNatClampNeg v) else if k.toInt = 1 then (kw_ui σ 50 i.toNatClampNeg v) else if k.toInt = 2 then (kw_ui σ 51 i.toNatClampNeg v) else σ)
theorem f_X3_change_5_u (σ : kw_S) (k : Int32) (i : Int32) (v : Int32) : f_X3_change_5 σ k i v = kf_l (f_X3_hasPlaces_5 σ k i (1 : Int32)) fun z1 => if z1.toInt = 0 then (σ) else (if k.toInt = 0 then (kw_ui σ 49 i.toNatClampNeg v) else if k.toInt = 1 then (kw_ui σ 50 i.toNatClampNeg v) else if k.toInt = 2 then (kw_ui σ 51 i.toNatClampNeg v) else σ) := rfl
abbrev p_X3_change_5 (σ : kw_S) (k : Int32) (i : Int32) (v : Int32) : Option Value → kw_S → Prop := fun vv σ' => (kw_I bX σ' ∧ kw_F [49, 50, 51] σ σ') ∧ vv = none ∧ σ' = f_X3_change_5 σ k i v
set_option maxRecDepth 100000 in
set_option maxHeartbeats 4000000 in
theorem c_X3_change_5 (l : Launch) (σ : kw_S) (hI : kw_I bX σ) (k : Int32) (i : Int32) (v : Int32) : kw_Met l 3 KX mX3_change [.ref 5, .int k, .int i, .int v] σ (p_X3_change_5 σ k i v) := by
  have r_k := kw_rng k
  have r_i := kw_rng i
  have r_v := kw_rng v
  have hF0 : kw_F [49, 50, 51] σ σ := kw_F.rf
  have hF := (f_X3_change_5_u σ k i v).symm
  have q_1 : (1 : Int32).toInt = 1 := rfl
  refine kw_Met.of (by decide) rfl tX3_change (Nat.le_of_ble_eq_true rfl) ?_
  show kw_AW l 3 kw_E0 KX mX3_change (p_X3_change_5 σ k i v) 0 [(0, .ref 5), (1, .int k), (2, .int i), (3, .int v)] [] σ
  refine kw_aload_n (pc := 0) (i := 0) (k := 0) (n := 0) rfl rfl rfl ?_
  refine kw_iload_n (pc := 1) (i := 1) (k := 1) (n := 1) rfl rfl rfl ?_
  refine kw_iload_n (pc := 2) (i := 2) (k := 2) (n := 2) rfl rfl rfl ?_
  refine kw_iconst (pc := 3) (i := 3) (v := 1) rfl rfl ?_
  refine kw_callV (pc := 4) (i := 4) (Y := mX3_hasPlaces) (a := 5) (As := [.int k, .int i, .int 1]) (st := []) kw_hE rfl rfl lvX3_41 arX3_hasPlaces (c_X3_hasPlaces_5 l σ hI k i 1 ) (by decide) (Nat.le_of_ble_eq_true rfl) rfl (fun v S2 p1 => ?_)
  obtain ⟨e7, z6, rfl, f3, f4, ef5⟩ := p1
  rw [e7]
  replace hF := kf_le ef5 hF
  have r_z6 := kw_rng z6
  show kw_AW l 3 kw_E0 KX mX3_change (p_X3_change_5 σ k i v) 7 [(0, .ref 5), (1, .int k), (2, .int i), (3, .int v)] [.int z6] σ
  refine kw_if_eq (pc := 7) (i := 5) (tgt := 19) rfl rfl (fun c8 => ?_) (fun c8 => ?_)
  · replace hF := kf_p c8 hF
    exact kw_return (pc := 19) (i := 13) rfl rfl ⟨⟨hI, hF0⟩, rfl, hF⟩
  · replace hF := kf_n c8 hF
    refine kw_aload_n (pc := 10) (i := 6) (k := 0) (n := 0) rfl rfl rfl ?_
    refine kw_get (pc := 11) (i := 7) (v := .ref 20) rfl rfl rfl lkX3_17 (fun _ => rfl) ?_
    refine kw_iload_n (pc := 14) (i := 8) (k := 1) (n := 1) rfl rfl rfl ?_
    have w9 : k.toInt = 0 ∨ k.toInt = 1 ∨ k.toInt = 2 := by omega
    rcases w9 with w9 | w9 | w9
    · replace hF := kf_p w9 hF
      have e_w9 : k.toNatClampNeg = 0 := by have := kw_clampI (x := k) (by omega); omega
      refine kw_aald (pc := 15) (i := 9) (b := 49) rfl rfl (by decide) (by omega) (by rw [e_w9]; rfl) ?_
      refine kw_iload_n (pc := 16) (i := 10) (k := 2) (n := 2) rfl rfl rfl ?_
      refine kw_iload_n (pc := 17) (i := 11) (k := 3) (n := 3) rfl rfl rfl ?_
      refine kw_iast (pc := 18) (i := 12) (n := 40) rfl rfl (by omega) (by omega) ?_
      have I10 : kw_I bX (kw_ui σ 49 i.toNatClampNeg v) := kw_I_ui hI (kw_rng v).1 (Int.le_of_lt_add_one (kw_rng v).2)
      have F11 : kw_F [49, 50, 51] σ (kw_ui σ 49 i.toNatClampNeg v) := kw_F_ui hF0 (by decide)
      exact kw_return (pc := 19) (i := 13) rfl rfl ⟨⟨I10, F11⟩, rfl, hF⟩
    · replace hF := kf_n (fun q => absurd (w9.symm.trans q) (by decide)) hF
      replace hF := kf_p w9 hF
      have e_w9 : k.toNatClampNeg = 1 := by have := kw_clampI (x := k) (by omega); omega
      refine kw_aald (pc := 15) (i := 9) (b := 50) rfl rfl (by decide) (by omega) (by rw [e_w9]; rfl) ?_
      refine kw_iload_n (pc := 16) (i := 10) (k := 2) (n := 2) rfl rfl rfl ?_
      refine kw_iload_n (pc := 17) (i := 11) (k := 3) (n := 3) rfl rfl rfl ?_
      refine kw_iast (pc := 18) (i := 12) (n := 40) rfl rfl (by omega) (by omega) ?_
      have I12 : kw_I bX (kw_ui σ 50 i.toNatClampNeg v) := kw_I_ui hI (kw_rng v).1 (Int.le_of_lt_add_one (kw_rng v).2)
      have F13 : kw_F [49, 50, 51] σ (kw_ui σ 50 i.toNatClampNeg v) := kw_F_ui hF0 (by decide)
      exact kw_return (pc := 19) (i := 13) rfl rfl ⟨⟨I12, F13⟩, rfl, hF⟩
    · replace hF := kf_n (fun q => absurd (w9.symm.trans q) (by decide)) hF
      replace hF := kf_n (fun q => absurd (w9.symm.trans q) (by decide)) hF
      replace hF := kf_p w9 hF
      have e_w9 : k.toNatClampNeg = 2 := by have := kw_clampI (x := k) (by omega); omega
      refine kw_aald (pc := 15) (i := 9) (b := 51) rfl rfl (by decide) (by omega) (by rw [e_w9]; rfl) ?_
      refine kw_iload_n (pc := 16) (i := 10) (k := 2) (n := 2) rfl rfl rfl ?_
      refine kw_iload_n (pc := 17) (i := 11) (k := 3) (n := 3) rfl rfl rfl ?_
      refine kw_iast (pc := 18) (i := 12) (n := 40) rfl rfl (by omega) (by omega) ?_
      have I14 : kw_I bX (kw_ui σ 51 i.toNatClampNeg v) := kw_I_ui hI (kw_rng v).1 (Int.le_of_lt_add_one (kw_rng v).2)
      have F15 : kw_F [49, 50, 51] σ (kw_ui σ 51 i.toNatClampNeg v) := kw_F_ui hF0 (by decide)
      exact kw_return (pc := 19) (i := 13) rfl rfl ⟨⟨I14, F15⟩, rfl, hF⟩
noncomputable def f_X3_make_5 (σ : kw_S) (k : Int32) (n : Int32) (v : Int32) : kw_S := kf_l (f_X3_has_5 σ k) fun z1 => if z1.toInt = 0 then (σ) else (if n.toInt < 0 then (σ) else (if (σ.1 5 0).toInt < n.toInt then (σ) else (if k.toInt = 0 then (kf_l (f_J7_fill_53178_49 (kw_ui σ 21 k.toNatClampNeg n) v) fun S2 => S2) else if k.toInt = 1 then (kf_l (f_J7_fill_53178_50 (kw_ui σ 21 k.toNatClampNeg n) v) fun S3 => S3) else if k.toInt = 2 then (kf_l (f_J7_fill_53178_51 (kw_ui σ 21 k.toNatClampNeg n) v) fun S4 => S4) else (kw_ui σ 21 k.toNatClampNeg n))))
theorem f_X3_make_5_u (σ : kw_S) (k : Int32) (n : Int32) (v : Int32) : f_X3_make_5 σ k n v = kf_l (f_X3_has_5 σ k) fun z1 => if z1.toInt = 0 then (σ) else (if n.toInt < 0 then (σ) else (if (σ.1 5 0).toInt < n.toInt then (σ) else (if k.toInt = 0 then (kf_l (f_J7_fill_53178_49 (kw_ui σ 21 k.toNatClampNeg n) v) fun S2 => S2) else if k.toInt = 1 then (kf_l (f_J7_fill_53178_50 (kw_ui σ 21 k.toNatClampNeg n) v) fun S3 => S3) else if k.toInt = 2 then (kf_l (f_J7_fill_53178_51 (kw_ui σ 21 k.toNatClampNeg n) v) fun S4 => S4) else (kw_ui σ 21 k.toNatClampNeg n)))) := rfl
abbrev p_X3_make_5 (σ : kw_S) (k : Int32) (n : Int32) (v : Int32) : Option Value → kw_S → Prop := fun vv σ' => (kw_I bX σ' ∧ kw_F [21, 49, 50, 51] σ σ') ∧ vv = none ∧ σ' = f_X3_make_5 σ k n v
set_option maxRecDepth 100000 in
set_option maxHeartbeats 4000000 in
theorem c_X3_make_5 (l : Launch) (σ : kw_S) (hI : kw_I bX σ) (k : Int32) (n : Int32) (v : Int32) : kw_Met l 2 KX mX3_make [.ref 5, .int k, .int n, .int v] σ (p_X3_make_5 σ k n v) := by
  have r_k := kw_rng k
  have r_n := kw_rng n
  have r_v := kw_rng v
  have hF0 : kw_F [21, 49, 50, 51] σ σ := kw_F.rf
  have hF := (f_X3_make_5_u σ k n v).symm
  refine kw_Met.of (by decide) rfl tX3_make (Nat.le_of_ble_eq_true rfl) ?_
  show kw_AW l 2 kw_E0 KX mX3_make (p_X3_make_5 σ k n v) 0 [(0, .ref 5), (1, .int k), (2, .int n), (3, .int v)] [] σ
  refine kw_aload_n (pc := 0) (i := 0) (k := 0) (n := 0) rfl rfl rfl ?_
  refine kw_iload_n (pc := 1) (i := 1) (k := 1) (n := 1) rfl rfl rfl ?_
  refine kw_callV (pc := 2) (i := 2) (Y := mX3_has) (a := 5) (As := [.int k]) (st := []) kw_hE rfl rfl lvX3_34 arX3_has (c_X3_has_5 l σ hI k ) (by decide) (Nat.le_of_ble_eq_true rfl) rfl (fun v S2 p1 => ?_)
  obtain ⟨e8, z7, rfl, f3, f4, f5, ef6⟩ := p1
  rw [e8]
  replace hF := kf_le ef6 hF
  have r_z7 := kw_rng z7
  show kw_AW l 2 kw_E0 KX mX3_make (p_X3_make_5 σ k n v) 5 [(0, .ref 5), (1, .int k), (2, .int n), (3, .int v)] [.int z7] σ
  refine kw_if_eq (pc := 5) (i := 3) (tgt := 20) rfl rfl (fun c9 => ?_) (fun c9 => ?_)
  · replace hF := kf_p c9 hF
    exact kw_return (pc := 20) (i := 10) rfl rfl ⟨⟨hI, hF0⟩, rfl, hF⟩
  · replace hF := kf_n c9 hF
    refine kw_iload_n (pc := 8) (i := 4) (k := 2) (n := 2) rfl rfl rfl ?_
    refine kw_if_lt (pc := 9) (i := 5) (tgt := 20) rfl rfl (fun c10 => ?_) (fun c10 => ?_)
    · replace hF := kf_p c10 hF
      exact kw_return (pc := 20) (i := 10) rfl rfl ⟨⟨hI, hF0⟩, rfl, hF⟩
    · replace hF := kf_nl c10 hF
      refine kw_iload_n (pc := 12) (i := 6) (k := 2) (n := 2) rfl rfl rfl ?_
      refine kw_aload_n (pc := 13) (i := 7) (k := 0) (n := 0) rfl rfl rfl ?_
      refine kw_get (pc := 14) (i := 8) (v := .int (σ.1 5 0)) rfl rfl rfl lkX3_9 (fun _ => rfl) ?_
      have b11 : 40 ≤ (σ.1 5 0).toInt ∧ (σ.1 5 0).toInt ≤ 40 := hI 5 0
      refine kw_icmp_le (pc := 17) (i := 9) (tgt := 21) rfl rfl (fun c12 => ?_) (fun c12 => ?_)
      · replace hF := kf_nl c12 hF
        refine kw_aload_n (pc := 21) (i := 11) (k := 0) (n := 0) rfl rfl rfl ?_
        refine kw_get (pc := 22) (i := 12) (v := .ref 21) rfl rfl rfl lkX3_20 (fun _ => rfl) ?_
        refine kw_iload_n (pc := 25) (i := 13) (k := 1) (n := 1) rfl rfl rfl ?_
        refine kw_iload_n (pc := 26) (i := 14) (k := 2) (n := 2) rfl rfl rfl ?_
        refine kw_iast (pc := 27) (i := 15) (n := 3) rfl rfl (by omega) (by omega) ?_
        have I13 : kw_I bX (kw_ui σ 21 k.toNatClampNeg n) := kw_I_ui hI (show -1 ≤ n.toInt by omega) (show n.toInt ≤ 40 by omega)
        have F14 : kw_F [21, 49, 50, 51] σ (kw_ui σ 21 k.toNatClampNeg n) := kw_F_ui hF0 (by decide)
        refine kw_aload_n (pc := 28) (i := 16) (k := 0) (n := 0) rfl rfl rfl ?_
        refine kw_get (pc := 29) (i := 17) (v := .ref 20) rfl rfl rfl lkX3_17 (fun _ => rfl) ?_
        refine kw_iload_n (pc := 32) (i := 18) (k := 1) (n := 1) rfl rfl rfl ?_
        have w15 : k.toInt = 0 ∨ k.toInt = 1 ∨ k.toInt = 2 := by omega
        rcases w15 with w15 | w15 | w15
        · replace hF := kf_p w15 hF
          have e_w15 : k.toNatClampNeg = 0 := by have := kw_clampI (x := k) (by omega); omega
          refine kw_aald (pc := 33) (i := 19) (b := 49) rfl rfl (by decide) (by omega) (by rw [e_w15]; rfl) ?_
          refine kw_iload_n (pc := 34) (i := 20) (k := 3) (n := 3) rfl rfl rfl ?_
          refine kw_callS (pc := 35) (i := 21) (Y := mJ7_fill_53178) (As := [.ref 49, .int v]) (st := []) kw_hE rfl lsX3_24 arJ7_fill_53178 (c_J7_fill_53178_49 l (kw_ui σ 21 k.toNatClampNeg n) I13 v ) (by decide) (Nat.le_of_ble_eq_true rfl) rfl (fun v S17 p16 => ?_)
          obtain ⟨⟨I19, F20⟩, rfl, ef18⟩ := p16
          have F21 : kw_F [21, 49, 50, 51] σ S17 := kw_F.tr F14 F20 (by decide)
          replace hF := kf_le ef18 hF
          show kw_AW l 2 kw_E0 KX mX3_make (p_X3_make_5 σ k n v) 38 [(0, .ref 5), (1, .int k), (2, .int n), (3, .int v)] [] S17
          exact kw_return (pc := 38) (i := 22) rfl rfl ⟨⟨I19, F21⟩, rfl, hF⟩
        · replace hF := kf_n (fun q => absurd (w15.symm.trans q) (by decide)) hF
          replace hF := kf_p w15 hF
          have e_w15 : k.toNatClampNeg = 1 := by have := kw_clampI (x := k) (by omega); omega
          refine kw_aald (pc := 33) (i := 19) (b := 50) rfl rfl (by decide) (by omega) (by rw [e_w15]; rfl) ?_
          refine kw_iload_n (pc := 34) (i := 20) (k := 3) (n := 3) rfl rfl rfl ?_
          refine kw_callS (pc := 35) (i := 21) (Y := mJ7_fill_53178) (As := [.ref 50, .int v]) (st := []) kw_hE rfl lsX3_24 arJ7_fill_53178 (c_J7_fill_53178_50 l (kw_ui σ 21 k.toNatClampNeg n) I13 v ) (by decide) (Nat.le_of_ble_eq_true rfl) rfl (fun v S23 p22 => ?_)
          obtain ⟨⟨I25, F26⟩, rfl, ef24⟩ := p22
          have F27 : kw_F [21, 49, 50, 51] σ S23 := kw_F.tr F14 F26 (by decide)
          replace hF := kf_le ef24 hF
          show kw_AW l 2 kw_E0 KX mX3_make (p_X3_make_5 σ k n v) 38 [(0, .ref 5), (1, .int k), (2, .int n), (3, .int v)] [] S23
          exact kw_return (pc := 38) (i := 22) rfl rfl ⟨⟨I25, F27⟩, rfl, hF⟩
        · replace hF := kf_n (fun q => absurd (w15.symm.trans q) (by decide)) hF
          replace hF := kf_n (fun q => absurd (w15.symm.trans q) (by decide)) hF
          replace hF := kf_p w15 hF
          have e_w15 : k.toNatClampNeg = 2 := by have := kw_clampI (x := k) (by omega); omega
          refine kw_aald (pc := 33) (i := 19) (b := 51) rfl rfl (by decide) (by omega) (by rw [e_w15]; rfl) ?_
          refine kw_iload_n (pc := 34) (i := 20) (k := 3) (n := 3) rfl rfl rfl ?_
          refine kw_callS (pc := 35) (i := 21) (Y := mJ7_fill_53178) (As := [.ref 51, .int v]) (st := []) kw_hE rfl lsX3_24 arJ7_fill_53178 (c_J7_fill_53178_51 l (kw_ui σ 21 k.toNatClampNeg n) I13 v ) (by decide) (Nat.le_of_ble_eq_true rfl) rfl (fun v S29 p28 => ?_)
          obtain ⟨⟨I31, F32⟩, rfl, ef30⟩ := p28
          have F33 : kw_F [21, 49, 50, 51] σ S29 := kw_F.tr F14 F32 (by decide)
          replace hF := kf_le ef30 hF
          show kw_AW l 2 kw_E0 KX mX3_make (p_X3_make_5 σ k n v) 38 [(0, .ref 5), (1, .int k), (2, .int n), (3, .int v)] [] S29
          exact kw_return (pc := 38) (i := 22) rfl rfl ⟨⟨I31, F33⟩, rfl, hF⟩
      · replace hF := kf_p c12 hF
        exact kw_return (pc := 20) (i := 10) rfl rfl ⟨⟨hI, hF0⟩, rfl, hF⟩
noncomputable def f_X3_drop_5 (σ : kw_S) (k : Int32) : kw_S := kf_l (f_X3_has_5 σ k) fun z1 => if z1.toInt = 0 then (σ) else (kw_ui σ 21 k.toNatClampNeg (-1))
theorem f_X3_drop_5_u (σ : kw_S) (k : Int32) : f_X3_drop_5 σ k = kf_l (f_X3_has_5 σ k) fun z1 => if z1.toInt = 0 then (σ) else (kw_ui σ 21 k.toNatClampNeg (-1)) := rfl
abbrev p_X3_drop_5 (σ : kw_S) (k : Int32) : Option Value → kw_S → Prop := fun vv σ' => (kw_I bX σ' ∧ kw_F [21] σ σ') ∧ vv = none ∧ σ' = f_X3_drop_5 σ k
set_option maxRecDepth 100000 in
set_option maxHeartbeats 4000000 in
theorem c_X3_drop_5 (l : Launch) (σ : kw_S) (hI : kw_I bX σ) (k : Int32) : kw_Met l 2 KX mX3_drop [.ref 5, .int k] σ (p_X3_drop_5 σ k) := by
  have r_k := kw_rng k
  have hF0 : kw_F [21] σ σ := kw_F.rf
  have hF := (f_X3_drop_5_u σ k).symm
  have q_m1 : (-1 : Int32).toInt = -1 := rfl
  refine kw_Met.of (by decide) rfl tX3_drop (Nat.le_of_ble_eq_true rfl) ?_
  show kw_AW l 2 kw_E0 KX mX3_drop (p_X3_drop_5 σ k) 0 [(0, .ref 5), (1, .int k)] [] σ
  refine kw_aload_n (pc := 0) (i := 0) (k := 0) (n := 0) rfl rfl rfl ?_
  refine kw_iload_n (pc := 1) (i := 1) (k := 1) (n := 1) rfl rfl rfl ?_
  refine kw_callV (pc := 2) (i := 2) (Y := mX3_has) (a := 5) (As := [.int k]) (st := []) kw_hE rfl rfl lvX3_34 arX3_has (c_X3_has_5 l σ hI k ) (by decide) (Nat.le_of_ble_eq_true rfl) rfl (fun v S2 p1 => ?_)
  obtain ⟨e8, z7, rfl, f3, f4, f5, ef6⟩ := p1
  rw [e8]
  replace hF := kf_le ef6 hF
  have r_z7 := kw_rng z7
  show kw_AW l 2 kw_E0 KX mX3_drop (p_X3_drop_5 σ k) 5 [(0, .ref 5), (1, .int k)] [.int z7] σ
  refine kw_if_eq (pc := 5) (i := 3) (tgt := 15) rfl rfl (fun c9 => ?_) (fun c9 => ?_)
  · replace hF := kf_p c9 hF
    exact kw_return (pc := 15) (i := 9) rfl rfl ⟨⟨hI, hF0⟩, rfl, hF⟩
  · replace hF := kf_n c9 hF
    refine kw_aload_n (pc := 8) (i := 4) (k := 0) (n := 0) rfl rfl rfl ?_
    refine kw_get (pc := 9) (i := 5) (v := .ref 21) rfl rfl rfl lkX3_20 (fun _ => rfl) ?_
    refine kw_iload_n (pc := 12) (i := 6) (k := 1) (n := 1) rfl rfl rfl ?_
    refine kw_iconst (pc := 13) (i := 7) (v := (-1)) rfl rfl ?_
    refine kw_iast (pc := 14) (i := 8) (n := 3) rfl rfl (by omega) (by omega) ?_
    have I10 : kw_I bX (kw_ui σ 21 k.toNatClampNeg (-1)) := kw_I_ui hI (show -1 ≤ ((-1) : Int32).toInt by omega) (show ((-1) : Int32).toInt ≤ 40 by omega)
    have F11 : kw_F [21] σ (kw_ui σ 21 k.toNatClampNeg (-1)) := kw_F_ui hF0 (by decide)
    exact kw_return (pc := 15) (i := 9) rfl rfl ⟨⟨I10, F11⟩, rfl, hF⟩
end
section
noncomputable def f_X3_move_1 (σ : kw_S) (k : Int32) (i : Int32) (t : Int32) (j : Int32) (n : Int32) : kw_S := kf_l (f_X3_hasPlaces_1 σ k i n) fun z1 => if z1.toInt = 0 then (σ) else (kf_l (f_X3_hasPlaces_1 σ t j n) fun z2 => if z2.toInt = 0 then (σ) else (if k.toInt = 0 then (if t.toInt = 0 then (kf_l (kw_ua σ 29 (va_cpy (σ.1 29) (σ.1 29) (i.toNatClampNeg) (j.toNatClampNeg) (n.toNatClampNeg))) fun S3 => S3) else if t.toInt = 1 then (kf_l (kw_ua σ 30 (va_cpy (σ.1 29) (σ.1 30) (i.toNatClampNeg) (j.toNatClampNeg) (n.toNatClampNeg))) fun S4 => S4) else if t.toInt = 2 then (kf_l (kw_ua σ 31 (va_cpy (σ.1 29) (σ.1 31) (i.toNatClampNeg) (j.toNatClampNeg) (n.toNatClampNeg))) fun S5 => S5) else if t.toInt = 3 then (kf_l (kw_ua σ 32 (va_cpy (σ.1 29) (σ.1 32) (i.toNatClampNeg) (j.toNatClampNeg) (n.toNatClampNeg))) fun S6 => S6) else if t.toInt = 4 then (kf_l (kw_ua σ 33 (va_cpy (σ.1 29) (σ.1 33) (i.toNatClampNeg) (j.toNatClampNeg) (n.toNatClampNeg))) fun S7 => S7) else if t.toInt = 5 then (kf_l (kw_ua σ 34 (va_cpy (σ.1 29) (σ.1 34) (i.toNatClampNeg) (j.toNatClampNeg) (n.toNatClampNeg))) fun S8 => S8) else σ) else if k.toInt = 1 then (if t.toInt = 0 then (kf_l (kw_ua σ 29 (va_cpy (σ.1 30) (σ.1 29) (i.toNatClampNeg) (j.toNatClampNeg) (n.toNatClampNeg))) fun S9 => S9) else if t.toInt = 1 then (kf_l (kw_ua σ 30 (va_cpy (σ.1 30) (σ.1 30) (i.toNatClampNeg) (j.toNatClampNeg) (n.toNatClampNeg))) fun S10 => S10) else if t.toInt = 2 then (kf_l (kw_ua σ 31 (va_cpy (σ.1 30) (σ.1 31) (i.toNatClampNeg) (j.toNatClampNeg) (n.toNatClampNeg))) fun S11 => S11) else if t.toInt = 3 then (kf_l (kw_ua σ 32 (va_cpy (σ.1 30) (σ.1 32) (i.toNatClampNeg) (j.toNatClampNeg) (n.toNatClampNeg))) fun S12 => S12) else if t.toInt = 4 then (kf_l (kw_ua σ 33 (va_cpy (σ.1 30) (σ.1 33) (i.toNatClampNeg) (j.toNatClampNeg) (n.toNatClampNeg))) fun S13 => S13) else if t.toInt = 5 then (kf_l (kw_ua σ 34 (va_cpy (σ.1 30) (σ.1 34) (i.toNatClampNeg) (j.toNatClampNeg) (n.toNatClampNeg))) fun S14 => S14) else σ) else if k.toInt = 2 then (if t.toInt = 0 then (kf_l (kw_ua σ 29 (va_cpy (σ.1 31) (σ.1 29) (i.toNatClampNeg) (j.toNatClampNeg) (n.toNatClampNeg))) fun S15 => S15) else if t.toInt = 1 then (kf_l (kw_ua σ 30 (va_cpy (σ.1 31) (σ.1 30) (i.toNatClampNeg) (j.toNatClampNeg) (n.toNatClampNeg))) fun S16 => S16) else if t.toInt = 2 then (kf_l (kw_ua σ 31 (va_cpy (σ.1 31) (σ.1 31) (i.toNatClampNeg) (j.toNatClampNeg) (n.toNatClampNeg))) fun S17 => S17) else if t.toInt = 3 then (kf_l (kw_ua σ 32 (va_cpy (σ.1 31) (σ.1 32) (i.toNatClampNeg) (j.toNatClampNeg) (n.toNatClampNeg))) fun S18 => S18) else if t.toInt = 4 then (kf_l (kw_ua σ 33 (va_cpy (σ.1 31) (σ.1 33) (i.toNatClampNeg) (j.toNatClampNeg) (n.toNatClampNeg))) fun S19 => S19) else if t.toInt = 5 then (kf_l (kw_ua σ 34 (va_cpy (σ.1 31) (σ.1 34) (i.toNatClampNeg) (j.toNatClampNeg) (n.toNatClampNeg))) fun S20 => S20) else σ) else if k.toInt = 3 then (if t.toInt = 0 then (kf_l (kw_ua σ 29 (va_cpy (σ.1 32) (σ.1 29) (i.toNatClampNeg) (j.toNatClampNeg) (n.toNatClampNeg))) fun S21 => S21) else if t.toInt = 1 then (kf_l (kw_ua σ 30 (va_cpy (σ.1 32) (σ.1 30) (i.toNatClampNeg) (j.toNatClampNeg) (n.toNatClampNeg))) fun S22 => S22) else if t.toInt = 2 then (kf_l (kw_ua σ 31 (va_cpy (σ.1 32) (σ.1 31) (i.toNatClampNeg) (j.toNatClampNeg) (n.toNatClampNeg))) fun S23 => S23) else if t.toInt = 3 then (kf_l (kw_ua σ 32 (va_cpy (σ.1 32) (σ.1 32) (i.toNatClampNeg) (j.toNatClampNeg) (n.toNatClampNeg))) fun S24 => S24) else if t.toInt = 4 then (kf_l (kw_ua σ 33 (va_cpy (σ.1 32) (σ.1 33) (i.toNatClampNeg) (j.toNatClampNeg) (n.toNatClampNeg))) fun S25 => S25) else if t.toInt = 5 then (kf_l (kw_ua σ 34 (va_cpy (σ.1 32) (σ.1 34) (i.toNatClampNeg) (j.toNatClampNeg) (n.toNatClampNeg))) fun S26 => S26) else σ) else if k.toInt = 4 then (if t.toInt = 0 then (kf_l (kw_ua σ 29 (va_cpy (σ.1 33) (σ.1 29) (i.toNatClampNeg) (j.toNatClampNeg) (n.toNatClampNeg))) fun S27 => S27) else if t.toInt = 1 then (kf_l (kw_ua σ 30 (va_cpy (σ.1 33) (σ.1 30) (i.toNatClampNeg) (j.toNatClampNeg) (n.toNatClampNeg))) fun S28 => S28) else if t.toInt = 2 then (kf_l (kw_ua σ 31 (va_cpy (σ.1 33) (σ.1 31) (i.toNatClampNeg) (j.toNatClampNeg) (n.toNatClampNeg))) fun S29 => S29) else if t.toInt = 3 then (kf_l (kw_ua σ 32 (va_cpy (σ.1 33) (σ.1 32) (i.toNatClampNeg) (j.toNatClampNeg) (n.toNatClampNeg))) fun S30 => S30) else if t.toInt = 4 then (kf_l (kw_ua σ 33 (va_cpy (σ.1 33) (σ.1 33) (i.toNatClampNeg) (j.toNatClampNeg) (n.toNatClampNeg))) fun S31 => S31) else if t.toInt = 5 then (kf_l (kw_ua σ 34 (va_cpy (σ.1 33) (σ.1 34) (i.toNatClampNeg) (j.toNatClampNeg) (n.toNatClampNeg))) fun S32 => S32) else σ) else if k.toInt = 5 then (if t.toInt = 0 then (kf_l (kw_ua σ 29 (va_cpy (σ.1 34) (σ.1 29) (i.toNatClampNeg) (j.toNatClampNeg) (n.toNatClampNeg))) fun S33 => S33) else if t.toInt = 1 then (kf_l (kw_ua σ 30 (va_cpy (σ.1 34) (σ.1 30) (i.toNatClampNeg) (j.toNatClampNeg) (n.toNatClampNeg))) fun S34 => S34) else if t.toInt = 2 then (kf_l (kw_ua σ 31 (va_cpy (σ.1 34) (σ.1 31) (i.toNatClampNeg) (j.toNatClampNeg) (n.toNatClampNeg))) fun S35 => S35) else if t.toInt = 3 then (kf_l (kw_ua σ 32 (va_cpy (σ.1 34) (σ.1 32) (i.toNatClampNeg) (j.toNatClampNeg) (n.toNatClampNeg))) fun S36 => S36) else if t.toInt = 4 then (kf_l (kw_ua σ 33 (va_cpy (σ.1 34) (σ.1 33) (i.toNatClampNeg) (j.toNatClampNeg) (n.toNatClampNeg))) fun S37 => S37) else if t.toInt = 5 then (kf_l (kw_ua σ 34 (va_cpy (σ.1 34) (σ.1 34) (i.toNatClampNeg) (j.toNatClampNeg) (n.toNatClampNeg))) fun S38 => S38) else σ) else σ))
theorem f_X3_move_1_u (σ : kw_S) (k : Int32) (i : Int32) (t : Int32) (j : Int32) (n : Int32) : f_X3_move_1 σ k i t j n = kf_l (f_X3_hasPlaces_1 σ k i n) fun z1 => if z1.toInt = 0 then (σ) else (kf_l (f_X3_hasPlaces_1 σ t j n) fun z2 => if z2.toInt = 0 then (σ) else (if k.toInt = 0 then (if t.toInt = 0 then (kf_l (kw_ua σ 29 (va_cpy (σ.1 29) (σ.1 29) (i.toNatClampNeg) (j.toNatClampNeg) (n.toNatClampNeg))) fun S3 => S3) else if t.toInt = 1 then (kf_l (kw_ua σ 30 (va_cpy (σ.1 29) (σ.1 30) (i.toNatClampNeg) (j.toNatClampNeg) (n.toNatClampNeg))) fun S4 => S4) else if t.toInt = 2 then (kf_l (kw_ua σ 31 (va_cpy (σ.1 29) (σ.1 31) (i.toNatClampNeg) (j.toNatClampNeg) (n.toNatClampNeg))) fun S5 => S5) else if t.toInt = 3 then (kf_l (kw_ua σ 32 (va_cpy (σ.1 29) (σ.1 32) (i.toNatClampNeg) (j.toNatClampNeg) (n.toNatClampNeg))) fun S6 => S6) else if t.toInt = 4 then (kf_l (kw_ua σ 33 (va_cpy (σ.1 29) (σ.1 33) (i.toNatClampNeg) (j.toNatClampNeg) (n.toNatClampNeg))) fun S7 => S7) else if t.toInt = 5 then (kf_l (kw_ua σ 34 (va_cpy (σ.1 29) (σ.1 34) (i.toNatClampNeg) (j.toNatClampNeg) (n.toNatClampNeg))) fun S8 => S8) else σ) else if k.toInt = 1 then (if t.toInt = 0 then (kf_l (kw_ua σ 29 (va_cpy (σ.1 30) (σ.1 29) (i.toNatClampNeg) (j.toNatClampNeg) (n.toNatClampNeg))) fun S9 => S9) else if t.toInt = 1 then (kf_l (kw_ua σ 30 (va_cpy (σ.1 30) (σ.1 30) (i.toNatClampNeg) (j.toNatClampNeg) (n.toNatClampNeg))) fun S10 => S10) else if t.toInt = 2 then (kf_l (kw_ua σ 31 (va_cpy (σ.1 30) (σ.1 31) (i.toNatClampNeg) (j.toNatClampNeg) (n.toNatClampNeg))) fun S11 => S11) else if t.toInt = 3 then (kf_l (kw_ua σ 32 (va_cpy (σ.1 30) (σ.1 32) (i.toNatClampNeg) (j.toNatClampNeg) (n.toNatClampNeg))) fun S12 => S12) else if t.toInt = 4 then (kf_l (kw_ua σ 33 (va_cpy (σ.1 30) (σ.1 33) (i.toNatClampNeg) (j.toNatClampNeg) (n.toNatClampNeg))) fun S13 => S13) else if t.toInt = 5 then (kf_l (kw_ua σ 34 (va_cpy (σ.1 30) (σ.1 34) (i.toNatClampNeg) (j.toNatClampNeg) (n.toNatClampNeg))) fun S14 => S14) else σ) else if k.toInt = 2 then (if t.toInt = 0 then (kf_l (kw_ua σ 29 (va_cpy (σ.1 31) (σ.1 29) (i.toNatClampNeg) (j.toNatClampNeg) (n.toNatClampNeg))) fun S15 => S15) else if t.toInt = 1 then (kf_l (kw_ua σ 30 (va_cpy (σ.1 31) (σ.1 30) (i.toNatClampNeg) (j.toNatClampNeg) (n.toNatClampNeg))) fun S16 => S16) else if t.toInt = 2 then (kf_l (kw_ua σ 31 (va_cpy (σ.1 31) (σ.1 31) (i.toNatClampNeg) (j.toNatClampNeg) (n.toNatClampNeg))) fun S17 => S17) else if t.toInt = 3 then (kf_l (kw_ua σ 32 (va_cpy (σ.1 31) (σ.1 32) (i.toNatClampNeg) (j.toNatClampNeg) (n.toNatClampNeg))) fun S18 => S18) else if t.toInt = 4 then (kf_l (kw_ua σ 33 (va_cpy (σ.1 31) (σ.1 33) (i.toNatClampNeg) (j.toNatClampNeg) (n.toNatClampNeg))) fun S19 => S19) else if t.toInt = 5 then (kf_l (kw_ua σ 34 (va_cpy (σ.1 31) (σ.1 34) (i.toNatClampNeg) (j.toNatClampNeg) (n.toNatClampNeg))) fun S20 => S20) else σ) else if k.toInt = 3 then (if t.toInt = 0 then (kf_l (kw_ua σ 29 (va_cpy (σ.1 32) (σ.1 29) (i.toNatClampNeg) (j.toNatClampNeg) (n.toNatClampNeg))) fun S21 => S21) else if t.toInt = 1 then (kf_l (kw_ua σ 30 (va_cpy (σ.1 32) (σ.1 30) (i.toNatClampNeg) (j.toNatClampNeg) (n.toNatClampNeg))) fun S22 => S22) else if t.toInt = 2 then (kf_l (kw_ua σ 31 (va_cpy (σ.1 32) (σ.1 31) (i.toNatClampNeg) (j.toNatClampNeg) (n.toNatClampNeg))) fun S23 => S23) else if t.toInt = 3 then (kf_l (kw_ua σ 32 (va_cpy (σ.1 32) (σ.1 32) (i.toNatClampNeg) (j.toNatClampNeg) (n.toNatClampNeg))) fun S24 => S24) else if t.toInt = 4 then (kf_l (kw_ua σ 33 (va_cpy (σ.1 32) (σ.1 33) (i.toNatClampNeg) (j.toNatClampNeg) (n.toNatClampNeg))) fun S25 => S25) else if t.toInt = 5 then (kf_l (kw_ua σ 34 (va_cpy (σ.1 32) (σ.1 34) (i.toNatClampNeg) (j.toNatClampNeg) (n.toNatClampNeg))) fun S26 => S26) else σ) else if k.toInt = 4 then (if t.toInt = 0 then (kf_l (kw_ua σ 29 (va_cpy (σ.1 33) (σ.1 29) (i.toNatClampNeg) (j.toNatClampNeg) (n.toNatClampNeg))) fun S27 => S27) else if t.toInt = 1 then (kf_l (kw_ua σ 30 (va_cpy (σ.1 33) (σ.1 30) (i.toNatClampNeg) (j.toNatClampNeg) (n.toNatClampNeg))) fun S28 => S28) else if t.toInt = 2 then (kf_l (kw_ua σ 31 (va_cpy (σ.1 33) (σ.1 31) (i.toNatClampNeg) (j.toNatClampNeg) (n.toNatClampNeg))) fun S29 => S29) else if t.toInt = 3 then (kf_l (kw_ua σ 32 (va_cpy (σ.1 33) (σ.1 32) (i.toNatClampNeg) (j.toNatClampNeg) (n.toNatClampNeg))) fun S30 => S30) else if t.toInt = 4 then (kf_l (kw_ua σ 33 (va_cpy (σ.1 33) (σ.1 33) (i.toNatClampNeg) (j.toNatClampNeg) (n.toNatClampNeg))) fun S31 => S31) else if t.toInt = 5 then (kf_l (kw_ua σ 34 (va_cpy (σ.1 33) (σ.1 34) (i.toNatClampNeg) (j.toNatClampNeg) (n.toNatClampNeg))) fun S32 => S32) else σ) else if k.toInt = 5 then (if t.toInt = 0 then (kf_l (kw_ua σ 29 (va_cpy (σ.1 34) (σ.1 29) (i.toNatClampNeg) (j.toNatClampNeg) (n.toNatClampNeg))) fun S33 => S33) else if t.toInt = 1 then (kf_l (kw_ua σ 30 (va_cpy (σ.1 34) (σ.1 30) (i.toNatClampNeg) (j.toNatClampNeg) (n.toNatClampNeg))) fun S34 => S34) else if t.toInt = 2 then (kf_l (kw_ua σ 31 (va_cpy (σ.1 34) (σ.1 31) (i.toNatClampNeg) (j.toNatClampNeg) (n.toNatClampNeg))) fun S35 => S35) else if t.toInt = 3 then (kf_l (kw_ua σ 32 (va_cpy (σ.1 34) (σ.1 32) (i.toNatClampNeg) (j.toNatClampNeg) (n.toNatClampNeg))) fun S36 => S36) else if t.toInt = 4 then (kf_l (kw_ua σ 33 (va_cpy (σ.1 34) (σ.1 33) (i.toNatClampNeg) (j.toNatClampNeg) (n.toNatClampNeg))) fun S37 => S37) else if t.toInt = 5 then (kf_l (kw_ua σ 34 (va_cpy (σ.1 34) (σ.1 34) (i.toNatClampNeg) (j.toNatClampNeg) (n.toNatClampNeg))) fun S38 => S38) else σ) else σ)) := rfl
abbrev p_X3_move_1 (σ : kw_S) (k : Int32) (i : Int32) (t : Int32) (j : Int32) (n : Int32) : Option Value → kw_S → Prop := fun vv σ' => (kw_I bX σ' ∧ kw_F [29, 30, 31, 32, 33, 34] σ σ') ∧ vv = none ∧ σ' = f_X3_move_1 σ k i t j n
set_option maxRecDepth 100000 in
set_option maxHeartbeats 4000000 in
theorem c_X3_move_1 (l : Launch) (σ : kw_S) (hI : kw_I bX σ) (k : Int32) (i : Int32) (t : Int32) (j : Int32) (n : Int32) : kw_Met l 3 KX mX3_move [.ref 1, .int k, .int i, .int t, .int j, .int n] σ (p_X3_move_1 σ k i t j n) := by
  have r_k := kw_rng k
  have r_i := kw_rng i
  have r_t := kw_rng t
  have r_j := kw_rng j
  have r_n := kw_rng n
  have hF0 : kw_F [29, 30, 31, 32, 33, 34] σ σ := kw_F.rf
  have hF := (f_X3_move_1_u σ k i t j n).symm
  refine kw_Met.of (by decide) rfl tX3_move (Nat.le_of_ble_eq_true rfl) ?_
  show kw_AW l 3 kw_E0 KX mX3_move (p_X3_move_1 σ k i t j n) 0 [(0, .ref 1), (1, .int k), (2, .int i), (3, .int t), (4, .int j), (5, .int n)] [] σ
  refine kw_aload_n (pc := 0) (i := 0) (k := 0) (n := 0) rfl rfl rfl ?_
  refine kw_iload_n (pc := 1) (i := 1) (k := 1) (n := 1) rfl rfl rfl ?_
  refine kw_iload_n (pc := 2) (i := 2) (k := 2) (n := 2) rfl rfl rfl ?_
  refine kw_iload (pc := 3) (i := 3) (k := 5) (n := 5) rfl rfl ?_
  refine kw_callV (pc := 5) (i := 4) (Y := mX3_hasPlaces) (a := 1) (As := [.int k, .int i, .int n]) (st := []) kw_hE rfl rfl lvX3_41 arX3_hasPlaces (c_X3_hasPlaces_1 l σ hI k i n ) (by decide) (Nat.le_of_ble_eq_true rfl) rfl (fun v S2 p1 => ?_)
  obtain ⟨e7, z6, rfl, f3, f4, ef5⟩ := p1
  rw [e7]
  replace hF := kf_le ef5 hF
  have r_z6 := kw_rng z6
  show kw_AW l 3 kw_E0 KX mX3_move (p_X3_move_1 σ k i t j n) 8 [(0, .ref 1), (1, .int k), (2, .int i), (3, .int t), (4, .int j), (5, .int n)] [.int z6] σ
  refine kw_if_eq (pc := 8) (i := 5) (tgt := 43) rfl rfl (fun c8 => ?_) (fun c8 => ?_)
  · replace hF := kf_p c8 hF
    exact kw_return (pc := 43) (i := 24) rfl rfl ⟨⟨hI, hF0⟩, rfl, hF⟩
  · replace hF := kf_n c8 hF
    refine kw_aload_n (pc := 11) (i := 6) (k := 0) (n := 0) rfl rfl rfl ?_
    refine kw_iload_n (pc := 12) (i := 7) (k := 3) (n := 3) rfl rfl rfl ?_
    refine kw_iload (pc := 13) (i := 8) (k := 4) (n := 4) rfl rfl ?_
    refine kw_iload (pc := 15) (i := 9) (k := 5) (n := 5) rfl rfl ?_
    refine kw_callV (pc := 17) (i := 10) (Y := mX3_hasPlaces) (a := 1) (As := [.int t, .int j, .int n]) (st := []) kw_hE rfl rfl lvX3_41 arX3_hasPlaces (c_X3_hasPlaces_1 l σ hI t j n ) (by decide) (Nat.le_of_ble_eq_true rfl) rfl (fun v S10 p9 => ?_)
    obtain ⟨e15, z14, rfl, f11, f12, ef13⟩ := p9
    rw [e15]
    replace hF := kf_le ef13 hF
    have r_z14 := kw_rng z14
    show kw_AW l 3 kw_E0 KX mX3_move (p_X3_move_1 σ k i t j n) 20 [(0, .ref 1), (1, .int k), (2, .int i), (3, .int t), (4, .int j), (5, .int n)] [.int z14] σ
    refine kw_if_eq (pc := 20) (i := 11) (tgt := 43) rfl rfl (fun c16 => ?_) (fun c16 => ?_)
    · replace hF := kf_p c16 hF
      exact kw_return (pc := 43) (i := 24) rfl rfl ⟨⟨hI, hF0⟩, rfl, hF⟩
    · replace hF := kf_n c16 hF
      refine kw_aload_n (pc := 23) (i := 12) (k := 0) (n := 0) rfl rfl rfl ?_
      refine kw_get (pc := 24) (i := 13) (v := .ref 12) rfl rfl rfl lkX3_17 (fun _ => rfl) ?_
      refine kw_iload_n (pc := 27) (i := 14) (k := 1) (n := 1) rfl rfl rfl ?_
      have w17 : k.toInt = 0 ∨ k.toInt = 1 ∨ k.toInt = 2 ∨ k.toInt = 3 ∨ k.toInt = 4 ∨ k.toInt = 5 := by omega
      rcases w17 with w17 | w17 | w17 | w17 | w17 | w17
      · replace hF := kf_p w17 hF
        have e_w17 : k.toNatClampNeg = 0 := by have := kw_clampI (x := k) (by omega); omega
        refine kw_aald (pc := 28) (i := 15) (b := 29) rfl rfl (by decide) (by omega) (by rw [e_w17]; rfl) ?_
        refine kw_iload_n (pc := 29) (i := 16) (k := 2) (n := 2) rfl rfl rfl ?_
        refine kw_aload_n (pc := 30) (i := 17) (k := 0) (n := 0) rfl rfl rfl ?_
        refine kw_get (pc := 31) (i := 18) (v := .ref 12) rfl rfl rfl lkX3_17 (fun _ => rfl) ?_
        refine kw_iload_n (pc := 34) (i := 19) (k := 3) (n := 3) rfl rfl rfl ?_
        have w18 : t.toInt = 0 ∨ t.toInt = 1 ∨ t.toInt = 2 ∨ t.toInt = 3 ∨ t.toInt = 4 ∨ t.toInt = 5 := by omega
        rcases w18 with w18 | w18 | w18 | w18 | w18 | w18
        · replace hF := kf_p w18 hF
          have e_w18 : t.toNatClampNeg = 0 := by have := kw_clampI (x := t) (by omega); omega
          refine kw_aald (pc := 35) (i := 20) (b := 29) rfl rfl (by decide) (by omega) (by rw [e_w18]; rfl) ?_
          refine kw_iload (pc := 36) (i := 21) (k := 4) (n := 4) rfl rfl ?_
          refine kw_iload (pc := 38) (i := 22) (k := 5) (n := 5) rfl rfl ?_
          refine kw_copy (pc := 40) (i := 23) (n := 40) (m_ := 40) rfl laX3_45 rfl rfl (by omega) (by omega) (by omega) (by omega) (by omega) (by omega) (Nat.le_of_ble_eq_true rfl) ?_
          have I19 : kw_I bX (kw_ua σ 29 (va_cpy (σ.1 29) (σ.1 29) (i.toNatClampNeg) (j.toNatClampNeg) (n.toNatClampNeg))) := kw_I_ua hI (fun j => ⟨(kw_rng _).1, Int.le_of_lt_add_one (kw_rng _).2⟩)
          have F20 : kw_F [29, 30, 31, 32, 33, 34] σ (kw_ua σ 29 (va_cpy (σ.1 29) (σ.1 29) (i.toNatClampNeg) (j.toNatClampNeg) (n.toNatClampNeg))) := kw_F_ua hF0 (by decide)
          generalize hS21 : (kw_ua σ 29 (va_cpy (σ.1 29) (σ.1 29) (i.toNatClampNeg) (j.toNatClampNeg) (n.toNatClampNeg))) = S21 at I19 F20 ⊢
          replace hF := kf_le hS21.symm hF
          exact kw_return (pc := 43) (i := 24) rfl rfl ⟨⟨I19, F20⟩, rfl, hF⟩
        · replace hF := kf_n (fun q => absurd (w18.symm.trans q) (by decide)) hF
          replace hF := kf_p w18 hF
          have e_w18 : t.toNatClampNeg = 1 := by have := kw_clampI (x := t) (by omega); omega
          refine kw_aald (pc := 35) (i := 20) (b := 30) rfl rfl (by decide) (by omega) (by rw [e_w18]; rfl) ?_
          refine kw_iload (pc := 36) (i := 21) (k := 4) (n := 4) rfl rfl ?_
          refine kw_iload (pc := 38) (i := 22) (k := 5) (n := 5) rfl rfl ?_
          refine kw_copy (pc := 40) (i := 23) (n := 40) (m_ := 40) rfl laX3_45 rfl rfl (by omega) (by omega) (by omega) (by omega) (by omega) (by omega) (Nat.le_of_ble_eq_true rfl) ?_
          have I22 : kw_I bX (kw_ua σ 30 (va_cpy (σ.1 29) (σ.1 30) (i.toNatClampNeg) (j.toNatClampNeg) (n.toNatClampNeg))) := kw_I_ua hI (fun j => ⟨(kw_rng _).1, Int.le_of_lt_add_one (kw_rng _).2⟩)
          have F23 : kw_F [29, 30, 31, 32, 33, 34] σ (kw_ua σ 30 (va_cpy (σ.1 29) (σ.1 30) (i.toNatClampNeg) (j.toNatClampNeg) (n.toNatClampNeg))) := kw_F_ua hF0 (by decide)
          generalize hS24 : (kw_ua σ 30 (va_cpy (σ.1 29) (σ.1 30) (i.toNatClampNeg) (j.toNatClampNeg) (n.toNatClampNeg))) = S24 at I22 F23 ⊢
          replace hF := kf_le hS24.symm hF
          exact kw_return (pc := 43) (i := 24) rfl rfl ⟨⟨I22, F23⟩, rfl, hF⟩
        · replace hF := kf_n (fun q => absurd (w18.symm.trans q) (by decide)) hF
          replace hF := kf_n (fun q => absurd (w18.symm.trans q) (by decide)) hF
          replace hF := kf_p w18 hF
          have e_w18 : t.toNatClampNeg = 2 := by have := kw_clampI (x := t) (by omega); omega
          refine kw_aald (pc := 35) (i := 20) (b := 31) rfl rfl (by decide) (by omega) (by rw [e_w18]; rfl) ?_
          refine kw_iload (pc := 36) (i := 21) (k := 4) (n := 4) rfl rfl ?_
          refine kw_iload (pc := 38) (i := 22) (k := 5) (n := 5) rfl rfl ?_
          refine kw_copy (pc := 40) (i := 23) (n := 40) (m_ := 40) rfl laX3_45 rfl rfl (by omega) (by omega) (by omega) (by omega) (by omega) (by omega) (Nat.le_of_ble_eq_true rfl) ?_
          have I25 : kw_I bX (kw_ua σ 31 (va_cpy (σ.1 29) (σ.1 31) (i.toNatClampNeg) (j.toNatClampNeg) (n.toNatClampNeg))) := kw_I_ua hI (fun j => ⟨(kw_rng _).1, Int.le_of_lt_add_one (kw_rng _).2⟩)
          have F26 : kw_F [29, 30, 31, 32, 33, 34] σ (kw_ua σ 31 (va_cpy (σ.1 29) (σ.1 31) (i.toNatClampNeg) (j.toNatClampNeg) (n.toNatClampNeg))) := kw_F_ua hF0 (by decide)
          generalize hS27 : (kw_ua σ 31 (va_cpy (σ.1 29) (σ.1 31) (i.toNatClampNeg) (j.toNatClampNeg) (n.toNatClampNeg))) = S27 at I25 F26 ⊢
          replace hF := kf_le hS27.symm hF
          exact kw_return (pc := 43) (i := 24) rfl rfl ⟨⟨I25, F26⟩, rfl, hF⟩
        · replace hF := kf_n (fun q => absurd (w18.symm.trans q) (by decide)) hF
          replace hF := kf_n (fun q => absurd (w18.symm.trans q) (by decide)) hF
          replace hF := kf_n (fun q => absurd (w18.symm.trans q) (by decide)) hF
          replace hF := kf_p w18 hF
          have e_w18 : t.toNatClampNeg = 3 := by have := kw_clampI (x := t) (by omega); omega
          refine kw_aald (pc := 35) (i := 20) (b := 32) rfl rfl (by decide) (by omega) (by rw [e_w18]; rfl) ?_
          refine kw_iload (pc := 36) (i := 21) (k := 4) (n := 4) rfl rfl ?_
          refine kw_iload (pc := 38) (i := 22) (k := 5) (n := 5) rfl rfl ?_
          refine kw_copy (pc := 40) (i := 23) (n := 40) (m_ := 40) rfl laX3_45 rfl rfl (by omega) (by omega) (by omega) (by omega) (by omega) (by omega) (Nat.le_of_ble_eq_true rfl) ?_
          have I28 : kw_I bX (kw_ua σ 32 (va_cpy (σ.1 29) (σ.1 32) (i.toNatClampNeg) (j.toNatClampNeg) (n.toNatClampNeg))) := kw_I_ua hI (fun j => ⟨(kw_rng _).1, Int.le_of_lt_add_one (kw_rng _).2⟩)
          have F29 : kw_F [29, 30, 31, 32, 33, 34] σ (kw_ua σ 32 (va_cpy (σ.1 29) (σ.1 32) (i.toNatClampNeg) (j.toNatClampNeg) (n.toNatClampNeg))) := kw_F_ua hF0 (by decide)
          generalize hS30 : (kw_ua σ 32 (va_cpy (σ.1 29) (σ.1 32) (i.toNatClampNeg) (j.toNatClampNeg) (n.toNatClampNeg))) = S30 at I28 F29 ⊢
          replace hF := kf_le hS30.symm hF
          exact kw_return (pc := 43) (i := 24) rfl rfl ⟨⟨I28, F29⟩, rfl, hF⟩
        · replace hF := kf_n (fun q => absurd (w18.symm.trans q) (by decide)) hF
          replace hF := kf_n (fun q => absurd (w18.symm.trans q) (by decide)) hF
          replace hF := kf_n (fun q => absurd (w18.symm.trans q) (by decide)) hF
          replace hF := kf_n (fun q => absurd (w18.symm.trans q) (by decide)) hF
          replace hF := kf_p w18 hF
          have e_w18 : t.toNatClampNeg = 4 := by have := kw_clampI (x := t) (by omega); omega
          refine kw_aald (pc := 35) (i := 20) (b := 33) rfl rfl (by decide) (by omega) (by rw [e_w18]; rfl) ?_
          refine kw_iload (pc := 36) (i := 21) (k := 4) (n := 4) rfl rfl ?_
          refine kw_iload (pc := 38) (i := 22) (k := 5) (n := 5) rfl rfl ?_
          refine kw_copy (pc := 40) (i := 23) (n := 40) (m_ := 40) rfl laX3_45 rfl rfl (by omega) (by omega) (by omega) (by omega) (by omega) (by omega) (Nat.le_of_ble_eq_true rfl) ?_
          have I31 : kw_I bX (kw_ua σ 33 (va_cpy (σ.1 29) (σ.1 33) (i.toNatClampNeg) (j.toNatClampNeg) (n.toNatClampNeg))) := kw_I_ua hI (fun j => ⟨(kw_rng _).1, Int.le_of_lt_add_one (kw_rng _).2⟩)
          have F32 : kw_F [29, 30, 31, 32, 33, 34] σ (kw_ua σ 33 (va_cpy (σ.1 29) (σ.1 33) (i.toNatClampNeg) (j.toNatClampNeg) (n.toNatClampNeg))) := kw_F_ua hF0 (by decide)
          generalize hS33 : (kw_ua σ 33 (va_cpy (σ.1 29) (σ.1 33) (i.toNatClampNeg) (j.toNatClampNeg) (n.toNatClampNeg))) = S33 at I31 F32 ⊢
          replace hF := kf_le hS33.symm hF
          exact kw_return (pc := 43) (i := 24) rfl rfl ⟨⟨I31, F32⟩, rfl, hF⟩
        · replace hF := kf_n (fun q => absurd (w18.symm.trans q) (by decide)) hF
          replace hF := kf_n (fun q => absurd (w18.symm.trans q) (by decide)) hF
          replace hF := kf_n (fun q => absurd (w18.symm.trans q) (by decide)) hF
          replace hF := kf_n (fun q => absurd (w18.symm.trans q) (by decide)) hF
          replace hF := kf_n (fun q => absurd (w18.symm.trans q) (by decide)) hF
          replace hF := kf_p w18 hF
          have e_w18 : t.toNatClampNeg = 5 := by have := kw_clampI (x := t) (by omega); omega
          refine kw_aald (pc := 35) (i := 20) (b := 34) rfl rfl (by decide) (by omega) (by rw [e_w18]; rfl) ?_
          refine kw_iload (pc := 36) (i := 21) (k := 4) (n := 4) rfl rfl ?_
          refine kw_iload (pc := 38) (i := 22) (k := 5) (n := 5) rfl rfl ?_
          refine kw_copy (pc := 40) (i := 23) (n := 40) (m_ := 40) rfl laX3_45 rfl rfl (by omega) (by omega) (by omega) (by omega) (by omega) (by omega) (Nat.le_of_ble_eq_true rfl) ?_
          have I34 : kw_I bX (kw_ua σ 34 (va_cpy (σ.1 29) (σ.1 34) (i.toNatClampNeg) (j.toNatClampNeg) (n.toNatClampNeg))) := kw_I_ua hI (fun j => ⟨(kw_rng _).1, Int.le_of_lt_add_one (kw_rng _).2⟩)
          have F35 : kw_F [29, 30, 31, 32, 33, 34] σ (kw_ua σ 34 (va_cpy (σ.1 29) (σ.1 34) (i.toNatClampNeg) (j.toNatClampNeg) (n.toNatClampNeg))) := kw_F_ua hF0 (by decide)
          generalize hS36 : (kw_ua σ 34 (va_cpy (σ.1 29) (σ.1 34) (i.toNatClampNeg) (j.toNatClampNeg) (n.toNatClampNeg))) = S36 at I34 F35 ⊢
          replace hF := kf_le hS36.symm hF
          exact kw_return (pc := 43) (i := 24) rfl rfl ⟨⟨I34, F35⟩, rfl, hF⟩
      · replace hF := kf_n (fun q => absurd (w17.symm.trans q) (by decide)) hF
        replace hF := kf_p w17 hF
        have e_w17 : k.toNatClampNeg = 1 := by have := kw_clampI (x := k) (by omega); omega
        refine kw_aald (pc := 28) (i := 15) (b := 30) rfl rfl (by decide) (by omega) (by rw [e_w17]; rfl) ?_
        refine kw_iload_n (pc := 29) (i := 16) (k := 2) (n := 2) rfl rfl rfl ?_
        refine kw_aload_n (pc := 30) (i := 17) (k := 0) (n := 0) rfl rfl rfl ?_
        refine kw_get (pc := 31) (i := 18) (v := .ref 12) rfl rfl rfl lkX3_17 (fun _ => rfl) ?_
        refine kw_iload_n (pc := 34) (i := 19) (k := 3) (n := 3) rfl rfl rfl ?_
        have w37 : t.toInt = 0 ∨ t.toInt = 1 ∨ t.toInt = 2 ∨ t.toInt = 3 ∨ t.toInt = 4 ∨ t.toInt = 5 := by omega
        rcases w37 with w37 | w37 | w37 | w37 | w37 | w37
        · replace hF := kf_p w37 hF
          have e_w37 : t.toNatClampNeg = 0 := by have := kw_clampI (x := t) (by omega); omega
          refine kw_aald (pc := 35) (i := 20) (b := 29) rfl rfl (by decide) (by omega) (by rw [e_w37]; rfl) ?_
          refine kw_iload (pc := 36) (i := 21) (k := 4) (n := 4) rfl rfl ?_
          refine kw_iload (pc := 38) (i := 22) (k := 5) (n := 5) rfl rfl ?_
          refine kw_copy (pc := 40) (i := 23) (n := 40) (m_ := 40) rfl laX3_45 rfl rfl (by omega) (by omega) (by omega) (by omega) (by omega) (by omega) (Nat.le_of_ble_eq_true rfl) ?_
          have I38 : kw_I bX (kw_ua σ 29 (va_cpy (σ.1 30) (σ.1 29) (i.toNatClampNeg) (j.toNatClampNeg) (n.toNatClampNeg))) := kw_I_ua hI (fun j => ⟨(kw_rng _).1, Int.le_of_lt_add_one (kw_rng _).2⟩)
          have F39 : kw_F [29, 30, 31, 32, 33, 34] σ (kw_ua σ 29 (va_cpy (σ.1 30) (σ.1 29) (i.toNatClampNeg) (j.toNatClampNeg) (n.toNatClampNeg))) := kw_F_ua hF0 (by decide)
          generalize hS40 : (kw_ua σ 29 (va_cpy (σ.1 30) (σ.1 29) (i.toNatClampNeg) (j.toNatClampNeg) (n.toNatClampNeg))) = S40 at I38 F39 ⊢
          replace hF := kf_le hS40.symm hF
          exact kw_return (pc := 43) (i := 24) rfl rfl ⟨⟨I38, F39⟩, rfl, hF⟩
        · replace hF := kf_n (fun q => absurd (w37.symm.trans q) (by decide)) hF
          replace hF := kf_p w37 hF
          have e_w37 : t.toNatClampNeg = 1 := by have := kw_clampI (x := t) (by omega); omega
          refine kw_aald (pc := 35) (i := 20) (b := 30) rfl rfl (by decide) (by omega) (by rw [e_w37]; rfl) ?_
          refine kw_iload (pc := 36) (i := 21) (k := 4) (n := 4) rfl rfl ?_
          refine kw_iload (pc := 38) (i := 22) (k := 5) (n := 5) rfl rfl ?_
          refine kw_copy (pc := 40) (i := 23) (n := 40) (m_ := 40) rfl laX3_45 rfl rfl (by omega) (by omega) (by omega) (by omega) (by omega) (by omega) (Nat.le_of_ble_eq_true rfl) ?_
          have I41 : kw_I bX (kw_ua σ 30 (va_cpy (σ.1 30) (σ.1 30) (i.toNatClampNeg) (j.toNatClampNeg) (n.toNatClampNeg))) := kw_I_ua hI (fun j => ⟨(kw_rng _).1, Int.le_of_lt_add_one (kw_rng _).2⟩)
          have F42 : kw_F [29, 30, 31, 32, 33, 34] σ (kw_ua σ 30 (va_cpy (σ.1 30) (σ.1 30) (i.toNatClampNeg) (j.toNatClampNeg) (n.toNatClampNeg))) := kw_F_ua hF0 (by decide)
          generalize hS43 : (kw_ua σ 30 (va_cpy (σ.1 30) (σ.1 30) (i.toNatClampNeg) (j.toNatClampNeg) (n.toNatClampNeg))) = S43 at I41 F42 ⊢
          replace hF := kf_le hS43.symm hF
          exact kw_return (pc := 43) (i := 24) rfl rfl ⟨⟨I41, F42⟩, rfl, hF⟩
        · replace hF := kf_n (fun q => absurd (w37.symm.trans q) (by decide)) hF
          replace hF := kf_n (fun q => absurd (w37.symm.trans q) (by decide)) hF
          replace hF := kf_p w37 hF
          have e_w37 : t.toNatClampNeg = 2 := by have := kw_clampI (x := t) (by omega); omega
          refine kw_aald (pc := 35) (i := 20) (b := 31) rfl rfl (by decide) (by omega) (by rw [e_w37]; rfl) ?_
          refine kw_iload (pc := 36) (i := 21) (k := 4) (n := 4) rfl rfl ?_
          refine kw_iload (pc := 38) (i := 22) (k := 5) (n := 5) rfl rfl ?_
          refine kw_copy (pc := 40) (i := 23) (n := 40) (m_ := 40) rfl laX3_45 rfl rfl (by omega) (by omega) (by omega) (by omega) (by omega) (by omega) (Nat.le_of_ble_eq_true rfl) ?_
          have I44 : kw_I bX (kw_ua σ 31 (va_cpy (σ.1 30) (σ.1 31) (i.toNatClampNeg) (j.toNatClampNeg) (n.toNatClampNeg))) := kw_I_ua hI (fun j => ⟨(kw_rng _).1, Int.le_of_lt_add_one (kw_rng _).2⟩)
          have F45 : kw_F [29, 30, 31, 32, 33, 34] σ (kw_ua σ 31 (va_cpy (σ.1 30) (σ.1 31) (i.toNatClampNeg) (j.toNatClampNeg) (n.toNatClampNeg))) := kw_F_ua hF0 (by decide)
          generalize hS46 : (kw_ua σ 31 (va_cpy (σ.1 30) (σ.1 31) (i.toNatClampNeg) (j.toNatClampNeg) (n.toNatClampNeg))) = S46 at I44 F45 ⊢
          replace hF := kf_le hS46.symm hF
          exact kw_return (pc := 43) (i := 24) rfl rfl ⟨⟨I44, F45⟩, rfl, hF⟩
        · replace hF := kf_n (fun q => absurd (w37.symm.trans q) (by decide)) hF
          replace hF := kf_n (fun q => absurd (w37.symm.trans q) (by decide)) hF
          replace hF := kf_n (fun q => absurd (w37.symm.trans q) (by decide)) hF
          replace hF := kf_p w37 hF
          have e_w37 : t.toNatClampNeg = 3 := by have := kw_clampI (x := t) (by omega); omega
          refine kw_aald (pc := 35) (i := 20) (b := 32) rfl rfl (by decide) (by omega) (by rw [e_w37]; rfl) ?_
          refine kw_iload (pc := 36) (i := 21) (k := 4) (n := 4) rfl rfl ?_
          refine kw_iload (pc := 38) (i := 22) (k := 5) (n := 5) rfl rfl ?_
          refine kw_copy (pc := 40) (i := 23) (n := 40) (m_ := 40) rfl laX3_45 rfl rfl (by omega) (by omega) (by omega) (by omega) (by omega) (by omega) (Nat.le_of_ble_eq_true rfl) ?_
          have I47 : kw_I bX (kw_ua σ 32 (va_cpy (σ.1 30) (σ.1 32) (i.toNatClampNeg) (j.toNatClampNeg) (n.toNatClampNeg))) := kw_I_ua hI (fun j => ⟨(kw_rng _).1, Int.le_of_lt_add_one (kw_rng _).2⟩)
          have F48 : kw_F [29, 30, 31, 32, 33, 34] σ (kw_ua σ 32 (va_cpy (σ.1 30) (σ.1 32) (i.toNatClampNeg) (j.toNatClampNeg) (n.toNatClampNeg))) := kw_F_ua hF0 (by decide)
          generalize hS49 : (kw_ua σ 32 (va_cpy (σ.1 30) (σ.1 32) (i.toNatClampNeg) (j.toNatClampNeg) (n.toNatClampNeg))) = S49 at I47 F48 ⊢
          replace hF := kf_le hS49.symm hF
          exact kw_return (pc := 43) (i := 24) rfl rfl ⟨⟨I47, F48⟩, rfl, hF⟩
        · replace hF := kf_n (fun q => absurd (w37.symm.trans q) (by decide)) hF
          replace hF := kf_n (fun q => absurd (w37.symm.trans q) (by decide)) hF
          replace hF := kf_n (fun q => absurd (w37.symm.trans q) (by decide)) hF
          replace hF := kf_n (fun q => absurd (w37.symm.trans q) (by decide)) hF
          replace hF := kf_p w37 hF
          have e_w37 : t.toNatClampNeg = 4 := by have := kw_clampI (x := t) (by omega); omega
          refine kw_aald (pc := 35) (i := 20) (b := 33) rfl rfl (by decide) (by omega) (by rw [e_w37]; rfl) ?_
          refine kw_iload (pc := 36) (i := 21) (k := 4) (n := 4) rfl rfl ?_
          refine kw_iload (pc := 38) (i := 22) (k := 5) (n := 5) rfl rfl ?_
          refine kw_copy (pc := 40) (i := 23) (n := 40) (m_ := 40) rfl laX3_45 rfl rfl (by omega) (by omega) (by omega) (by omega) (by omega) (by omega) (Nat.le_of_ble_eq_true rfl) ?_
          have I50 : kw_I bX (kw_ua σ 33 (va_cpy (σ.1 30) (σ.1 33) (i.toNatClampNeg) (j.toNatClampNeg) (n.toNatClampNeg))) := kw_I_ua hI (fun j => ⟨(kw_rng _).1, Int.le_of_lt_add_one (kw_rng _).2⟩)
          have F51 : kw_F [29, 30, 31, 32, 33, 34] σ (kw_ua σ 33 (va_cpy (σ.1 30) (σ.1 33) (i.toNatClampNeg) (j.toNatClampNeg) (n.toNatClampNeg))) := kw_F_ua hF0 (by decide)
          generalize hS52 : (kw_ua σ 33 (va_cpy (σ.1 30) (σ.1 33) (i.toNatClampNeg) (j.toNatClampNeg) (n.toNatClampNeg))) = S52 at I50 F51 ⊢
          replace hF := kf_le hS52.symm hF
          exact kw_return (pc := 43) (i := 24) rfl rfl ⟨⟨I50, F51⟩, rfl, hF⟩
        · replace hF := kf_n (fun q => absurd (w37.symm.trans q) (by decide)) hF
          replace hF := kf_n (fun q => absurd (w37.symm.trans q) (by decide)) hF
          replace hF := kf_n (fun q => absurd (w37.symm.trans q) (by decide)) hF
          replace hF := kf_n (fun q => absurd (w37.symm.trans q) (by decide)) hF
          replace hF := kf_n (fun q => absurd (w37.symm.trans q) (by decide)) hF
          replace hF := kf_p w37 hF
          have e_w37 : t.toNatClampNeg = 5 := by have := kw_clampI (x := t) (by omega); omega
          refine kw_aald (pc := 35) (i := 20) (b := 34) rfl rfl (by decide) (by omega) (by rw [e_w37]; rfl) ?_
          refine kw_iload (pc := 36) (i := 21) (k := 4) (n := 4) rfl rfl ?_
          refine kw_iload (pc := 38) (i := 22) (k := 5) (n := 5) rfl rfl ?_
          refine kw_copy (pc := 40) (i := 23) (n := 40) (m_ := 40) rfl laX3_45 rfl rfl (by omega) (by omega) (by omega) (by omega) (by omega) (by omega) (Nat.le_of_ble_eq_true rfl) ?_
          have I53 : kw_I bX (kw_ua σ 34 (va_cpy (σ.1 30) (σ.1 34) (i.toNatClampNeg) (j.toNatClampNeg) (n.toNatClampNeg))) := kw_I_ua hI (fun j => ⟨(kw_rng _).1, Int.le_of_lt_add_one (kw_rng _).2⟩)
          have F54 : kw_F [29, 30, 31, 32, 33, 34] σ (kw_ua σ 34 (va_cpy (σ.1 30) (σ.1 34) (i.toNatClampNeg) (j.toNatClampNeg) (n.toNatClampNeg))) := kw_F_ua hF0 (by decide)
          generalize hS55 : (kw_ua σ 34 (va_cpy (σ.1 30) (σ.1 34) (i.toNatClampNeg) (j.toNatClampNeg) (n.toNatClampNeg))) = S55 at I53 F54 ⊢
          replace hF := kf_le hS55.symm hF
          exact kw_return (pc := 43) (i := 24) rfl rfl ⟨⟨I53, F54⟩, rfl, hF⟩
      · replace hF := kf_n (fun q => absurd (w17.symm.trans q) (by decide)) hF
        replace hF := kf_n (fun q => absurd (w17.symm.trans q) (by decide)) hF
        replace hF := kf_p w17 hF
        have e_w17 : k.toNatClampNeg = 2 := by have := kw_clampI (x := k) (by omega); omega
        refine kw_aald (pc := 28) (i := 15) (b := 31) rfl rfl (by decide) (by omega) (by rw [e_w17]; rfl) ?_
        refine kw_iload_n (pc := 29) (i := 16) (k := 2) (n := 2) rfl rfl rfl ?_
        refine kw_aload_n (pc := 30) (i := 17) (k := 0) (n := 0) rfl rfl rfl ?_
        refine kw_get (pc := 31) (i := 18) (v := .ref 12) rfl rfl rfl lkX3_17 (fun _ => rfl) ?_
        refine kw_iload_n (pc := 34) (i := 19) (k := 3) (n := 3) rfl rfl rfl ?_
        have w56 : t.toInt = 0 ∨ t.toInt = 1 ∨ t.toInt = 2 ∨ t.toInt = 3 ∨ t.toInt = 4 ∨ t.toInt = 5 := by omega
        rcases w56 with w56 | w56 | w56 | w56 | w56 | w56
        · replace hF := kf_p w56 hF
          have e_w56 : t.toNatClampNeg = 0 := by have := kw_clampI (x := t) (by omega); omega
          refine kw_aald (pc := 35) (i := 20) (b := 29) rfl rfl (by decide) (by omega) (by rw [e_w56]; rfl) ?_
          refine kw_iload (pc := 36) (i := 21) (k := 4) (n := 4) rfl rfl ?_
          refine kw_iload (pc := 38) (i := 22) (k := 5) (n := 5) rfl rfl ?_
          refine kw_copy (pc := 40) (i := 23) (n := 40) (m_ := 40) rfl laX3_45 rfl rfl (by omega) (by omega) (by omega) (by omega) (by omega) (by omega) (Nat.le_of_ble_eq_true rfl) ?_
          have I57 : kw_I bX (kw_ua σ 29 (va_cpy (σ.1 31) (σ.1 29) (i.toNatClampNeg) (j.toNatClampNeg) (n.toNatClampNeg))) := kw_I_ua hI (fun j => ⟨(kw_rng _).1, Int.le_of_lt_add_one (kw_rng _).2⟩)
          have F58 : kw_F [29, 30, 31, 32, 33, 34] σ (kw_ua σ 29 (va_cpy (σ.1 31) (σ.1 29) (i.toNatClampNeg) (j.toNatClampNeg) (n.toNatClampNeg))) := kw_F_ua hF0 (by decide)
          generalize hS59 : (kw_ua σ 29 (va_cpy (σ.1 31) (σ.1 29) (i.toNatClampNeg) (j.toNatClampNeg) (n.toNatClampNeg))) = S59 at I57 F58 ⊢
          replace hF := kf_le hS59.symm hF
          exact kw_return (pc := 43) (i := 24) rfl rfl ⟨⟨I57, F58⟩, rfl, hF⟩
        · replace hF := kf_n (fun q => absurd (w56.symm.trans q) (by decide)) hF
          replace hF := kf_p w56 hF
          have e_w56 : t.toNatClampNeg = 1 := by have := kw_clampI (x := t) (by omega); omega
          refine kw_aald (pc := 35) (i := 20) (b := 30) rfl rfl (by decide) (by omega) (by rw [e_w56]; rfl) ?_
          refine kw_iload (pc := 36) (i := 21) (k := 4) (n := 4) rfl rfl ?_
          refine kw_iload (pc := 38) (i := 22) (k := 5) (n := 5) rfl rfl ?_
          refine kw_copy (pc := 40) (i := 23) (n := 40) (m_ := 40) rfl laX3_45 rfl rfl (by omega) (by omega) (by omega) (by omega) (by omega) (by omega) (Nat.le_of_ble_eq_true rfl) ?_
          have I60 : kw_I bX (kw_ua σ 30 (va_cpy (σ.1 31) (σ.1 30) (i.toNatClampNeg) (j.toNatClampNeg) (n.toNatClampNeg))) := kw_I_ua hI (fun j => ⟨(kw_rng _).1, Int.le_of_lt_add_one (kw_rng _).2⟩)
          have F61 : kw_F [29, 30, 31, 32, 33, 34] σ (kw_ua σ 30 (va_cpy (σ.1 31) (σ.1 30) (i.toNatClampNeg) (j.toNatClampNeg) (n.toNatClampNeg))) := kw_F_ua hF0 (by decide)
          generalize hS62 : (kw_ua σ 30 (va_cpy (σ.1 31) (σ.1 30) (i.toNatClampNeg) (j.toNatClampNeg) (n.toNatClampNeg))) = S62 at I60 F61 ⊢
          replace hF := kf_le hS62.symm hF
          exact kw_return (pc := 43) (i := 24) rfl rfl ⟨⟨I60, F61⟩, rfl, hF⟩
        · replace hF := kf_n (fun q => absurd (w56.symm.trans q) (by decide)) hF
          replace hF := kf_n (fun q => absurd (w56.symm.trans q) (by decide)) hF
          replace hF := kf_p w56 hF
          have e_w56 : t.toNatClampNeg = 2 := by have := kw_clampI (x := t) (by omega); omega
          refine kw_aald (pc := 35) (i := 20) (b := 31) rfl rfl (by decide) (by omega) (by rw [e_w56]; rfl) ?_
          refine kw_iload (pc := 36) (i := 21) (k := 4) (n := 4) rfl rfl ?_
          refine kw_iload (pc := 38) (i := 22) (k := 5) (n := 5) rfl rfl ?_
          refine kw_copy (pc := 40) (i := 23) (n := 40) (m_ := 40) rfl laX3_45 rfl rfl (by omega) (by omega) (by omega) (by omega) (by omega) (by omega) (Nat.le_of_ble_eq_true rfl) ?_
          have I63 : kw_I bX (kw_ua σ 31 (va_cpy (σ.1 31) (σ.1 31) (i.toNatClampNeg) (j.toNatClampNeg) (n.toNatClampNeg))) := kw_I_ua hI (fun j => ⟨(kw_rng _).1, Int.le_of_lt_add_one (kw_rng _).2⟩)
          have F64 : kw_F [29, 30, 31, 32, 33, 34] σ (kw_ua σ 31 (va_cpy (σ.1 31) (σ.1 31) (i.toNatClampNeg) (j.toNatClampNeg) (n.toNatClampNeg))) := kw_F_ua hF0 (by decide)
          generalize hS65 : (kw_ua σ 31 (va_cpy (σ.1 31) (σ.1 31) (i.toNatClampNeg) (j.toNatClampNeg) (n.toNatClampNeg))) = S65 at I63 F64 ⊢
          replace hF := kf_le hS65.symm hF
          exact kw_return (pc := 43) (i := 24) rfl rfl ⟨⟨I63, F64⟩, rfl, hF⟩
        · replace hF := kf_n (fun q => absurd (w56.symm.trans q) (by decide)) hF
          replace hF := kf_n (fun q => absurd (w56.symm.trans q) (by decide)) hF
          replace hF := kf_n (fun q => absurd (w56.symm.trans q) (by decide)) hF
          replace hF := kf_p w56 hF
          have e_w56 : t.toNatClampNeg = 3 := by have := kw_clampI (x := t) (by omega); omega
          refine kw_aald (pc := 35) (i := 20) (b := 32) rfl rfl (by decide) (by omega) (by rw [e_w56]; rfl) ?_
          refine kw_iload (pc := 36) (i := 21) (k := 4) (n := 4) rfl rfl ?_
          refine kw_iload (pc := 38) (i := 22) (k := 5) (n := 5) rfl rfl ?_
          refine kw_copy (pc := 40) (i := 23) (n := 40) (m_ := 40) rfl laX3_45 rfl rfl (by omega) (by omega) (by omega) (by omega) (by omega) (by omega) (Nat.le_of_ble_eq_true rfl) ?_
          have I66 : kw_I bX (kw_ua σ 32 (va_cpy (σ.1 31) (σ.1 32) (i.toNatClampNeg) (j.toNatClampNeg) (n.toNatClampNeg))) := kw_I_ua hI (fun j => ⟨(kw_rng _).1, Int.le_of_lt_add_one (kw_rng _).2⟩)
          have F67 : kw_F [29, 30, 31, 32, 33, 34] σ (kw_ua σ 32 (va_cpy (σ.1 31) (σ.1 32) (i.toNatClampNeg) (j.toNatClampNeg) (n.toNatClampNeg))) := kw_F_ua hF0 (by decide)
          generalize hS68 : (kw_ua σ 32 (va_cpy (σ.1 31) (σ.1 32) (i.toNatClampNeg) (j.toNatClampNeg) (n.toNatClampNeg))) = S68 at I66 F67 ⊢
          replace hF := kf_le hS68.symm hF
          exact kw_return (pc := 43) (i := 24) rfl rfl ⟨⟨I66, F67⟩, rfl, hF⟩
        · replace hF := kf_n (fun q => absurd (w56.symm.trans q) (by decide)) hF
          replace hF := kf_n (fun q => absurd (w56.symm.trans q) (by decide)) hF
          replace hF := kf_n (fun q => absurd (w56.symm.trans q) (by decide)) hF
          replace hF := kf_n (fun q => absurd (w56.symm.trans q) (by decide)) hF
          replace hF := kf_p w56 hF
          have e_w56 : t.toNatClampNeg = 4 := by have := kw_clampI (x := t) (by omega); omega
          refine kw_aald (pc := 35) (i := 20) (b := 33) rfl rfl (by decide) (by omega) (by rw [e_w56]; rfl) ?_
          refine kw_iload (pc := 36) (i := 21) (k := 4) (n := 4) rfl rfl ?_
          refine kw_iload (pc := 38) (i := 22) (k := 5) (n := 5) rfl rfl ?_
          refine kw_copy (pc := 40) (i := 23) (n := 40) (m_ := 40) rfl laX3_45 rfl rfl (by omega) (by omega) (by omega) (by omega) (by omega) (by omega) (Nat.le_of_ble_eq_true rfl) ?_
          have I69 : kw_I bX (kw_ua σ 33 (va_cpy (σ.1 31) (σ.1 33) (i.toNatClampNeg) (j.toNatClampNeg) (n.toNatClampNeg))) := kw_I_ua hI (fun j => ⟨(kw_rng _).1, Int.le_of_lt_add_one (kw_rng _).2⟩)
          have F70 : kw_F [29, 30, 31, 32, 33, 34] σ (kw_ua σ 33 (va_cpy (σ.1 31) (σ.1 33) (i.toNatClampNeg) (j.toNatClampNeg) (n.toNatClampNeg))) := kw_F_ua hF0 (by decide)
          generalize hS71 : (kw_ua σ 33 (va_cpy (σ.1 31) (σ.1 33) (i.toNatClampNeg) (j.toNatClampNeg) (n.toNatClampNeg))) = S71 at I69 F70 ⊢
          replace hF := kf_le hS71.symm hF
          exact kw_return (pc := 43) (i := 24) rfl rfl ⟨⟨I69, F70⟩, rfl, hF⟩
        · replace hF := kf_n (fun q => absurd (w56.symm.trans q) (by decide)) hF
          replace hF := kf_n (fun q => absurd (w56.symm.trans q) (by decide)) hF
          replace hF := kf_n (fun q => absurd (w56.symm.trans q) (by decide)) hF
          replace hF := kf_n (fun q => absurd (w56.symm.trans q) (by decide)) hF
          replace hF := kf_n (fun q => absurd (w56.symm.trans q) (by decide)) hF
          replace hF := kf_p w56 hF
          have e_w56 : t.toNatClampNeg = 5 := by have := kw_clampI (x := t) (by omega); omega
          refine kw_aald (pc := 35) (i := 20) (b := 34) rfl rfl (by decide) (by omega) (by rw [e_w56]; rfl) ?_
          refine kw_iload (pc := 36) (i := 21) (k := 4) (n := 4) rfl rfl ?_
          refine kw_iload (pc := 38) (i := 22) (k := 5) (n := 5) rfl rfl ?_
          refine kw_copy (pc := 40) (i := 23) (n := 40) (m_ := 40) rfl laX3_45 rfl rfl (by omega) (by omega) (by omega) (by omega) (by omega) (by omega) (Nat.le_of_ble_eq_true rfl) ?_
          have I72 : kw_I bX (kw_ua σ 34 (va_cpy (σ.1 31) (σ.1 34) (i.toNatClampNeg) (j.toNatClampNeg) (n.toNatClampNeg))) := kw_I_ua hI (fun j => ⟨(kw_rng _).1, Int.le_of_lt_add_one (kw_rng _).2⟩)
          have F73 : kw_F [29, 30, 31, 32, 33, 34] σ (kw_ua σ 34 (va_cpy (σ.1 31) (σ.1 34) (i.toNatClampNeg) (j.toNatClampNeg) (n.toNatClampNeg))) := kw_F_ua hF0 (by decide)
          generalize hS74 : (kw_ua σ 34 (va_cpy (σ.1 31) (σ.1 34) (i.toNatClampNeg) (j.toNatClampNeg) (n.toNatClampNeg))) = S74 at I72 F73 ⊢
          replace hF := kf_le hS74.symm hF
          exact kw_return (pc := 43) (i := 24) rfl rfl ⟨⟨I72, F73⟩, rfl, hF⟩
      · replace hF := kf_n (fun q => absurd (w17.symm.trans q) (by decide)) hF
        replace hF := kf_n (fun q => absurd (w17.symm.trans q) (by decide)) hF
        replace hF := kf_n (fun q => absurd (w17.symm.trans q) (by decide)) hF
        replace hF := kf_p w17 hF
        have e_w17 : k.toNatClampNeg = 3 := by have := kw_clampI (x := k) (by omega); omega
        refine kw_aald (pc := 28) (i := 15) (b := 32) rfl rfl (by decide) (by omega) (by rw [e_w17]; rfl) ?_
        refine kw_iload_n (pc := 29) (i := 16) (k := 2) (n := 2) rfl rfl rfl ?_
        refine kw_aload_n (pc := 30) (i := 17) (k := 0) (n := 0) rfl rfl rfl ?_
        refine kw_get (pc := 31) (i := 18) (v := .ref 12) rfl rfl rfl lkX3_17 (fun _ => rfl) ?_
        refine kw_iload_n (pc := 34) (i := 19) (k := 3) (n := 3) rfl rfl rfl ?_
        have w75 : t.toInt = 0 ∨ t.toInt = 1 ∨ t.toInt = 2 ∨ t.toInt = 3 ∨ t.toInt = 4 ∨ t.toInt = 5 := by omega
        rcases w75 with w75 | w75 | w75 | w75 | w75 | w75
        · replace hF := kf_p w75 hF
          have e_w75 : t.toNatClampNeg = 0 := by have := kw_clampI (x := t) (by omega); omega
          refine kw_aald (pc := 35) (i := 20) (b := 29) rfl rfl (by decide) (by omega) (by rw [e_w75]; rfl) ?_
          refine kw_iload (pc := 36) (i := 21) (k := 4) (n := 4) rfl rfl ?_
          refine kw_iload (pc := 38) (i := 22) (k := 5) (n := 5) rfl rfl ?_
          refine kw_copy (pc := 40) (i := 23) (n := 40) (m_ := 40) rfl laX3_45 rfl rfl (by omega) (by omega) (by omega) (by omega) (by omega) (by omega) (Nat.le_of_ble_eq_true rfl) ?_
          have I76 : kw_I bX (kw_ua σ 29 (va_cpy (σ.1 32) (σ.1 29) (i.toNatClampNeg) (j.toNatClampNeg) (n.toNatClampNeg))) := kw_I_ua hI (fun j => ⟨(kw_rng _).1, Int.le_of_lt_add_one (kw_rng _).2⟩)
          have F77 : kw_F [29, 30, 31, 32, 33, 34] σ (kw_ua σ 29 (va_cpy (σ.1 32) (σ.1 29) (i.toNatClampNeg) (j.toNatClampNeg) (n.toNatClampNeg))) := kw_F_ua hF0 (by decide)
          generalize hS78 : (kw_ua σ 29 (va_cpy (σ.1 32) (σ.1 29) (i.toNatClampNeg) (j.toNatClampNeg) (n.toNatClampNeg))) = S78 at I76 F77 ⊢
          replace hF := kf_le hS78.symm hF
          exact kw_return (pc := 43) (i := 24) rfl rfl ⟨⟨I76, F77⟩, rfl, hF⟩
        · replace hF := kf_n (fun q => absurd (w75.symm.trans q) (by decide)) hF
          replace hF := kf_p w75 hF
          have e_w75 : t.toNatClampNeg = 1 := by have := kw_clampI (x := t) (by omega); omega
          refine kw_aald (pc := 35) (i := 20) (b := 30) rfl rfl (by decide) (by omega) (by rw [e_w75]; rfl) ?_
          refine kw_iload (pc := 36) (i := 21) (k := 4) (n := 4) rfl rfl ?_
          refine kw_iload (pc := 38) (i := 22) (k := 5) (n := 5) rfl rfl ?_
          refine kw_copy (pc := 40) (i := 23) (n := 40) (m_ := 40) rfl laX3_45 rfl rfl (by omega) (by omega) (by omega) (by omega) (by omega) (by omega) (Nat.le_of_ble_eq_true rfl) ?_
          have I79 : kw_I bX (kw_ua σ 30 (va_cpy (σ.1 32) (σ.1 30) (i.toNatClampNeg) (j.toNatClampNeg) (n.toNatClampNeg))) := kw_I_ua hI (fun j => ⟨(kw_rng _).1, Int.le_of_lt_add_one (kw_rng _).2⟩)
          have F80 : kw_F [29, 30, 31, 32, 33, 34] σ (kw_ua σ 30 (va_cpy (σ.1 32) (σ.1 30) (i.toNatClampNeg) (j.toNatClampNeg) (n.toNatClampNeg))) := kw_F_ua hF0 (by decide)
          generalize hS81 : (kw_ua σ 30 (va_cpy (σ.1 32) (σ.1 30) (i.toNatClampNeg) (j.toNatClampNeg) (n.toNatClampNeg))) = S81 at I79 F80 ⊢
          replace hF := kf_le hS81.symm hF
          exact kw_return (pc := 43) (i := 24) rfl rfl ⟨⟨I79, F80⟩, rfl, hF⟩
        · replace hF := kf_n (fun q => absurd (w75.symm.trans q) (by decide)) hF
          replace hF := kf_n (fun q => absurd (w75.symm.trans q) (by decide)) hF
          replace hF := kf_p w75 hF
          have e_w75 : t.toNatClampNeg = 2 := by have := kw_clampI (x := t) (by omega); omega
          refine kw_aald (pc := 35) (i := 20) (b := 31) rfl rfl (by decide) (by omega) (by rw [e_w75]; rfl) ?_
          refine kw_iload (pc := 36) (i := 21) (k := 4) (n := 4) rfl rfl ?_
          refine kw_iload (pc := 38) (i := 22) (k := 5) (n := 5) rfl rfl ?_
          refine kw_copy (pc := 40) (i := 23) (n := 40) (m_ := 40) rfl laX3_45 rfl rfl (by omega) (by omega) (by omega) (by omega) (by omega) (by omega) (Nat.le_of_ble_eq_true rfl) ?_
          have I82 : kw_I bX (kw_ua σ 31 (va_cpy (σ.1 32) (σ.1 31) (i.toNatClampNeg) (j.toNatClampNeg) (n.toNatClampNeg))) := kw_I_ua hI (fun j => ⟨(kw_rng _).1, Int.le_of_lt_add_one (kw_rng _).2⟩)
          have F83 : kw_F [29, 30, 31, 32, 33, 34] σ (kw_ua σ 31 (va_cpy (σ.1 32) (σ.1 31) (i.toNatClampNeg) (j.toNatClampNeg) (n.toNatClampNeg))) := kw_F_ua hF0 (by decide)
          generalize hS84 : (kw_ua σ 31 (va_cpy (σ.1 32) (σ.1 31) (i.toNatClampNeg) (j.toNatClampNeg) (n.toNatClampNeg))) = S84 at I82 F83 ⊢
          replace hF := kf_le hS84.symm hF
          exact kw_return (pc := 43) (i := 24) rfl rfl ⟨⟨I82, F83⟩, rfl, hF⟩
        · replace hF := kf_n (fun q => absurd (w75.symm.trans q) (by decide)) hF
          replace hF := kf_n (fun q => absurd (w75.symm.trans q) (by decide)) hF
          replace hF := kf_n (fun q => absurd (w75.symm.trans q) (by decide)) hF
          replace hF := kf_p w75 hF
          have e_w75 : t.toNatClampNeg = 3 := by have := kw_clampI (x := t) (by omega); omega
          refine kw_aald (pc := 35) (i := 20) (b := 32) rfl rfl (by decide) (by omega) (by rw [e_w75]; rfl) ?_
          refine kw_iload (pc := 36) (i := 21) (k := 4) (n := 4) rfl rfl ?_
          refine kw_iload (pc := 38) (i := 22) (k := 5) (n := 5) rfl rfl ?_
          refine kw_copy (pc := 40) (i := 23) (n := 40) (m_ := 40) rfl laX3_45 rfl rfl (by omega) (by omega) (by omega) (by omega) (by omega) (by omega) (Nat.le_of_ble_eq_true rfl) ?_
          have I85 : kw_I bX (kw_ua σ 32 (va_cpy (σ.1 32) (σ.1 32) (i.toNatClampNeg) (j.toNatClampNeg) (n.toNatClampNeg))) := kw_I_ua hI (fun j => ⟨(kw_rng _).1, Int.le_of_lt_add_one (kw_rng _).2⟩)
          have F86 : kw_F [29, 30, 31, 32, 33, 34] σ (kw_ua σ 32 (va_cpy (σ.1 32) (σ.1 32) (i.toNatClampNeg) (j.toNatClampNeg) (n.toNatClampNeg))) := kw_F_ua hF0 (by decide)
          generalize hS87 : (kw_ua σ 32 (va_cpy (σ.1 32) (σ.1 32) (i.toNatClampNeg) (j.toNatClampNeg) (n.toNatClampNeg))) = S87 at I85 F86 ⊢
          replace hF := kf_le hS87.symm hF
          exact kw_return (pc := 43) (i := 24) rfl rfl ⟨⟨I85, F86⟩, rfl, hF⟩
        · replace hF := kf_n (fun q => absurd (w75.symm.trans q) (by decide)) hF
          replace hF := kf_n (fun q => absurd (w75.symm.trans q) (by decide)) hF
          replace hF := kf_n (fun q => absurd (w75.symm.trans q) (by decide)) hF
          replace hF := kf_n (fun q => absurd (w75.symm.trans q) (by decide)) hF
          replace hF := kf_p w75 hF
          have e_w75 : t.toNatClampNeg = 4 := by have := kw_clampI (x := t) (by omega); omega
          refine kw_aald (pc := 35) (i := 20) (b := 33) rfl rfl (by decide) (by omega) (by rw [e_w75]; rfl) ?_
          refine kw_iload (pc := 36) (i := 21) (k := 4) (n := 4) rfl rfl ?_
          refine kw_iload (pc := 38) (i := 22) (k := 5) (n := 5) rfl rfl ?_
          refine kw_copy (pc := 40) (i := 23) (n := 40) (m_ := 40) rfl laX3_45 rfl rfl (by omega) (by omega) (by omega) (by omega) (by omega) (by omega) (Nat.le_of_ble_eq_true rfl) ?_
          have I88 : kw_I bX (kw_ua σ 33 (va_cpy (σ.1 32) (σ.1 33) (i.toNatClampNeg) (j.toNatClampNeg) (n.toNatClampNeg))) := kw_I_ua hI (fun j => ⟨(kw_rng _).1, Int.le_of_lt_add_one (kw_rng _).2⟩)
          have F89 : kw_F [29, 30, 31, 32, 33, 34] σ (kw_ua σ 33 (va_cpy (σ.1 32) (σ.1 33) (i.toNatClampNeg) (j.toNatClampNeg) (n.toNatClampNeg))) := kw_F_ua hF0 (by decide)
          generalize hS90 : (kw_ua σ 33 (va_cpy (σ.1 32) (σ.1 33) (i.toNatClampNeg) (j.toNatClampNeg) (n.toNatClampNeg))) = S90 at I88 F89 ⊢
          replace hF := kf_le hS90.symm hF
          exact kw_return (pc := 43) (i := 24) rfl rfl ⟨⟨I88, F89⟩, rfl, hF⟩
        · replace hF := kf_n (fun q => absurd (w75.symm.trans q) (by decide)) hF
          replace hF := kf_n (fun q => absurd (w75.symm.trans q) (by decide)) hF
          replace hF := kf_n (fun q => absurd (w75.symm.trans q) (by decide)) hF
          replace hF := kf_n (fun q => absurd (w75.symm.trans q) (by decide)) hF
          replace hF := kf_n (fun q => absurd (w75.symm.trans q) (by decide)) hF
          replace hF := kf_p w75 hF
          have e_w75 : t.toNatClampNeg = 5 := by have := kw_clampI (x := t) (by omega); omega
          refine kw_aald (pc := 35) (i := 20) (b := 34) rfl rfl (by decide) (by omega) (by rw [e_w75]; rfl) ?_
          refine kw_iload (pc := 36) (i := 21) (k := 4) (n := 4) rfl rfl ?_
          refine kw_iload (pc := 38) (i := 22) (k := 5) (n := 5) rfl rfl ?_
          refine kw_copy (pc := 40) (i := 23) (n := 40) (m_ := 40) rfl laX3_45 rfl rfl (by omega) (by omega) (by omega) (by omega) (by omega) (by omega) (Nat.le_of_ble_eq_true rfl) ?_
          have I91 : kw_I bX (kw_ua σ 34 (va_cpy (σ.1 32) (σ.1 34) (i.toNatClampNeg) (j.toNatClampNeg) (n.toNatClampNeg))) := kw_I_ua hI (fun j => ⟨(kw_rng _).1, Int.le_of_lt_add_one (kw_rng _).2⟩)
          have F92 : kw_F [29, 30, 31, 32, 33, 34] σ (kw_ua σ 34 (va_cpy (σ.1 32) (σ.1 34) (i.toNatClampNeg) (j.toNatClampNeg) (n.toNatClampNeg))) := kw_F_ua hF0 (by decide)
          generalize hS93 : (kw_ua σ 34 (va_cpy (σ.1 32) (σ.1 34) (i.toNatClampNeg) (j.toNatClampNeg) (n.toNatClampNeg))) = S93 at I91 F92 ⊢
          replace hF := kf_le hS93.symm hF
          exact kw_return (pc := 43) (i := 24) rfl rfl ⟨⟨I91, F92⟩, rfl, hF⟩
      · replace hF := kf_n (fun q => absurd (w17.symm.trans q) (by decide)) hF
        replace hF := kf_n (fun q => absurd (w17.symm.trans q) (by decide)) hF
        replace hF := kf_n (fun q => absurd (w17.symm.trans q) (by decide)) hF
        replace hF := kf_n (fun q => absurd (w17.symm.trans q) (by decide)) hF
        replace hF := kf_p w17 hF
        have e_w17 : k.toNatClampNeg = 4 := by have := kw_clampI (x := k) (by omega); omega
        refine kw_aald (pc := 28) (i := 15) (b := 33) rfl rfl (by decide) (by omega) (by rw [e_w17]; rfl) ?_
        refine kw_iload_n (pc := 29) (i := 16) (k := 2) (n := 2) rfl rfl rfl ?_
        refine kw_aload_n (pc := 30) (i := 17) (k := 0) (n := 0) rfl rfl rfl ?_
        refine kw_get (pc := 31) (i := 18) (v := .ref 12) rfl rfl rfl lkX3_17 (fun _ => rfl) ?_
        refine kw_iload_n (pc := 34) (i := 19) (k := 3) (n := 3) rfl rfl rfl ?_
        have w94 : t.toInt = 0 ∨ t.toInt = 1 ∨ t.toInt = 2 ∨ t.toInt = 3 ∨ t.toInt = 4 ∨ t.toInt = 5 := by omega
        rcases w94 with w94 | w94 | w94 | w94 | w94 | w94
        · replace hF := kf_p w94 hF
          have e_w94 : t.toNatClampNeg = 0 := by have := kw_clampI (x := t) (by omega); omega
          refine kw_aald (pc := 35) (i := 20) (b := 29) rfl rfl (by decide) (by omega) (by rw [e_w94]; rfl) ?_
          refine kw_iload (pc := 36) (i := 21) (k := 4) (n := 4) rfl rfl ?_
          refine kw_iload (pc := 38) (i := 22) (k := 5) (n := 5) rfl rfl ?_
          refine kw_copy (pc := 40) (i := 23) (n := 40) (m_ := 40) rfl laX3_45 rfl rfl (by omega) (by omega) (by omega) (by omega) (by omega) (by omega) (Nat.le_of_ble_eq_true rfl) ?_
          have I95 : kw_I bX (kw_ua σ 29 (va_cpy (σ.1 33) (σ.1 29) (i.toNatClampNeg) (j.toNatClampNeg) (n.toNatClampNeg))) := kw_I_ua hI (fun j => ⟨(kw_rng _).1, Int.le_of_lt_add_one (kw_rng _).2⟩)
          have F96 : kw_F [29, 30, 31, 32, 33, 34] σ (kw_ua σ 29 (va_cpy (σ.1 33) (σ.1 29) (i.toNatClampNeg) (j.toNatClampNeg) (n.toNatClampNeg))) := kw_F_ua hF0 (by decide)
          generalize hS97 : (kw_ua σ 29 (va_cpy (σ.1 33) (σ.1 29) (i.toNatClampNeg) (j.toNatClampNeg) (n.toNatClampNeg))) = S97 at I95 F96 ⊢
          replace hF := kf_le hS97.symm hF
          exact kw_return (pc := 43) (i := 24) rfl rfl ⟨⟨I95, F96⟩, rfl, hF⟩
        · replace hF := kf_n (fun q => absurd (w94.symm.trans q) (by decide)) hF
          replace hF := kf_p w94 hF
          have e_w94 : t.toNatClampNeg = 1 := by have := kw_clampI (x := t) (by omega); omega
          refine kw_aald (pc := 35) (i := 20) (b := 30) rfl rfl (by decide) (by omega) (by rw [e_w94]; rfl) ?_
          refine kw_iload (pc := 36) (i := 21) (k := 4) (n := 4) rfl rfl ?_
          refine kw_iload (pc := 38) (i := 22) (k := 5) (n := 5) rfl rfl ?_
          refine kw_copy (pc := 40) (i := 23) (n := 40) (m_ := 40) rfl laX3_45 rfl rfl (by omega) (by omega) (by omega) (by omega) (by omega) (by omega) (Nat.le_of_ble_eq_true rfl) ?_
          have I98 : kw_I bX (kw_ua σ 30 (va_cpy (σ.1 33) (σ.1 30) (i.toNatClampNeg) (j.toNatClampNeg) (n.toNatClampNeg))) := kw_I_ua hI (fun j => ⟨(kw_rng _).1, Int.le_of_lt_add_one (kw_rng _).2⟩)
          have F99 : kw_F [29, 30, 31, 32, 33, 34] σ (kw_ua σ 30 (va_cpy (σ.1 33) (σ.1 30) (i.toNatClampNeg) (j.toNatClampNeg) (n.toNatClampNeg))) := kw_F_ua hF0 (by decide)
          generalize hS100 : (kw_ua σ 30 (va_cpy (σ.1 33) (σ.1 30) (i.toNatClampNeg) (j.toNatClampNeg) (n.toNatClampNeg))) = S100 at I98 F99 ⊢
          replace hF := kf_le hS100.symm hF
          exact kw_return (pc := 43) (i := 24) rfl rfl ⟨⟨I98, F99⟩, rfl, hF⟩
        · replace hF := kf_n (fun q => absurd (w94.symm.trans q) (by decide)) hF
          replace hF := kf_n (fun q => absurd (w94.symm.trans q) (by decide)) hF
          replace hF := kf_p w94 hF
          have e_w94 : t.toNatClampNeg = 2 := by have := kw_clampI (x := t) (by omega); omega
          refine kw_aald (pc := 35) (i := 20) (b := 31) rfl rfl (by decide) (by omega) (by rw [e_w94]; rfl) ?_
          refine kw_iload (pc := 36) (i := 21) (k := 4) (n := 4) rfl rfl ?_
          refine kw_iload (pc := 38) (i := 22) (k := 5) (n := 5) rfl rfl ?_
          refine kw_copy (pc := 40) (i := 23) (n := 40) (m_ := 40) rfl laX3_45 rfl rfl (by omega) (by omega) (by omega) (by omega) (by omega) (by omega) (Nat.le_of_ble_eq_true rfl) ?_
          have I101 : kw_I bX (kw_ua σ 31 (va_cpy (σ.1 33) (σ.1 31) (i.toNatClampNeg) (j.toNatClampNeg) (n.toNatClampNeg))) := kw_I_ua hI (fun j => ⟨(kw_rng _).1, Int.le_of_lt_add_one (kw_rng _).2⟩)
          have F102 : kw_F [29, 30, 31, 32, 33, 34] σ (kw_ua σ 31 (va_cpy (σ.1 33) (σ.1 31) (i.toNatClampNeg) (j.toNatClampNeg) (n.toNatClampNeg))) := kw_F_ua hF0 (by decide)
          generalize hS103 : (kw_ua σ 31 (va_cpy (σ.1 33) (σ.1 31) (i.toNatClampNeg) (j.toNatClampNeg) (n.toNatClampNeg))) = S103 at I101 F102 ⊢
          replace hF := kf_le hS103.symm hF
          exact kw_return (pc := 43) (i := 24) rfl rfl ⟨⟨I101, F102⟩, rfl, hF⟩
        · replace hF := kf_n (fun q => absurd (w94.symm.trans q) (by decide)) hF
          replace hF := kf_n (fun q => absurd (w94.symm.trans q) (by decide)) hF
          replace hF := kf_n (fun q => absurd (w94.symm.trans q) (by decide)) hF
          replace hF := kf_p w94 hF
          have e_w94 : t.toNatClampNeg = 3 := by have := kw_clampI (x := t) (by omega); omega
          refine kw_aald (pc := 35) (i := 20) (b := 32) rfl rfl (by decide) (by omega) (by rw [e_w94]; rfl) ?_
          refine kw_iload (pc := 36) (i := 21) (k := 4) (n := 4) rfl rfl ?_
          refine kw_iload (pc := 38) (i := 22) (k := 5) (n := 5) rfl rfl ?_
          refine kw_copy (pc := 40) (i := 23) (n := 40) (m_ := 40) rfl laX3_45 rfl rfl (by omega) (by omega) (by omega) (by omega) (by omega) (by omega) (Nat.le_of_ble_eq_true rfl) ?_
          have I104 : kw_I bX (kw_ua σ 32 (va_cpy (σ.1 33) (σ.1 32) (i.toNatClampNeg) (j.toNatClampNeg) (n.toNatClampNeg))) := kw_I_ua hI (fun j => ⟨(kw_rng _).1, Int.le_of_lt_add_one (kw_rng _).2⟩)
          have F105 : kw_F [29, 30, 31, 32, 33, 34] σ (kw_ua σ 32 (va_cpy (σ.1 33) (σ.1 32) (i.toNatClampNeg) (j.toNatClampNeg) (n.toNatClampNeg))) := kw_F_ua hF0 (by decide)
          generalize hS106 : (kw_ua σ 32 (va_cpy (σ.1 33) (σ.1 32) (i.toNatClampNeg) (j.toNatClampNeg) (n.toNatClampNeg))) = S106 at I104 F105 ⊢
          replace hF := kf_le hS106.symm hF
          exact kw_return (pc := 43) (i := 24) rfl rfl ⟨⟨I104, F105⟩, rfl, hF⟩
        · replace hF := kf_n (fun q => absurd (w94.symm.trans q) (by decide)) hF
          replace hF := kf_n (fun q => absurd (w94.symm.trans q) (by decide)) hF
          replace hF := kf_n (fun q => absurd (w94.symm.trans q) (by decide)) hF
          replace hF := kf_n (fun q => absurd (w94.symm.trans q) (by decide)) hF
          replace hF := kf_p w94 hF
          have e_w94 : t.toNatClampNeg = 4 := by have := kw_clampI (x := t) (by omega); omega
          refine kw_aald (pc := 35) (i := 20) (b := 33) rfl rfl (by decide) (by omega) (by rw [e_w94]; rfl) ?_
          refine kw_iload (pc := 36) (i := 21) (k := 4) (n := 4) rfl rfl ?_
          refine kw_iload (pc := 38) (i := 22) (k := 5) (n := 5) rfl rfl ?_
          refine kw_copy (pc := 40) (i := 23) (n := 40) (m_ := 40) rfl laX3_45 rfl rfl (by omega) (by omega) (by omega) (by omega) (by omega) (by omega) (Nat.le_of_ble_eq_true rfl) ?_
          have I107 : kw_I bX (kw_ua σ 33 (va_cpy (σ.1 33) (σ.1 33) (i.toNatClampNeg) (j.toNatClampNeg) (n.toNatClampNeg))) := kw_I_ua hI (fun j => ⟨(kw_rng _).1, Int.le_of_lt_add_one (kw_rng _).2⟩)
          have F108 : kw_F [29, 30, 31, 32, 33, 34] σ (kw_ua σ 33 (va_cpy (σ.1 33) (σ.1 33) (i.toNatClampNeg) (j.toNatClampNeg) (n.toNatClampNeg))) := kw_F_ua hF0 (by decide)
          generalize hS109 : (kw_ua σ 33 (va_cpy (σ.1 33) (σ.1 33) (i.toNatClampNeg) (j.toNatClampNeg) (n.toNatClampNeg))) = S109 at I107 F108 ⊢
          replace hF := kf_le hS109.symm hF
          exact kw_return (pc := 43) (i := 24) rfl rfl ⟨⟨I107, F108⟩, rfl, hF⟩
        · replace hF := kf_n (fun q => absurd (w94.symm.trans q) (by decide)) hF
          replace hF := kf_n (fun q => absurd (w94.symm.trans q) (by decide)) hF
          replace hF := kf_n (fun q => absurd (w94.symm.trans q) (by decide)) hF
          replace hF := kf_n (fun q => absurd (w94.symm.trans q) (by decide)) hF
          replace hF := kf_n (fun q => absurd (w94.symm.trans q) (by decide)) hF
          replace hF := kf_p w94 hF
          have e_w94 : t.toNatClampNeg = 5 := by have := kw_clampI (x := t) (by omega); omega
          refine kw_aald (pc := 35) (i := 20) (b := 34) rfl rfl (by decide) (by omega) (by rw [e_w94]; rfl) ?_
          refine kw_iload (pc := 36) (i := 21) (k := 4) (n := 4) rfl rfl ?_
          refine kw_iload (pc := 38) (i := 22) (k := 5) (n := 5) rfl rfl ?_
          refine kw_copy (pc := 40) (i := 23) (n := 40) (m_ := 40) rfl laX3_45 rfl rfl (by omega) (by omega) (by omega) (by omega) (by omega) (by omega) (Nat.le_of_ble_eq_true rfl) ?_
          have I110 : kw_I bX (kw_ua σ 34 (va_cpy (σ.1 33) (σ.1 34) (i.toNatClampNeg) (j.toNatClampNeg) (n.toNatClampNeg))) := kw_I_ua hI (fun j => ⟨(kw_rng _).1, Int.le_of_lt_add_one (kw_rng _).2⟩)
          have F111 : kw_F [29, 30, 31, 32, 33, 34] σ (kw_ua σ 34 (va_cpy (σ.1 33) (σ.1 34) (i.toNatClampNeg) (j.toNatClampNeg) (n.toNatClampNeg))) := kw_F_ua hF0 (by decide)
          generalize hS112 : (kw_ua σ 34 (va_cpy (σ.1 33) (σ.1 34) (i.toNatClampNeg) (j.toNatClampNeg) (n.toNatClampNeg))) = S112 at I110 F111 ⊢
          replace hF := kf_le hS112.symm hF
          exact kw_return (pc := 43) (i := 24) rfl rfl ⟨⟨I110, F111⟩, rfl, hF⟩
      · replace hF := kf_n (fun q => absurd (w17.symm.trans q) (by decide)) hF
        replace hF := kf_n (fun q => absurd (w17.symm.trans q) (by decide)) hF
        replace hF := kf_n (fun q => absurd (w17.symm.trans q) (by decide)) hF
        replace hF := kf_n (fun q => absurd (w17.symm.trans q) (by decide)) hF
        replace hF := kf_n (fun q => absurd (w17.symm.trans q) (by decide)) hF
        replace hF := kf_p w17 hF
        have e_w17 : k.toNatClampNeg = 5 := by have := kw_clampI (x := k) (by omega); omega
        refine kw_aald (pc := 28) (i := 15) (b := 34) rfl rfl (by decide) (by omega) (by rw [e_w17]; rfl) ?_
        refine kw_iload_n (pc := 29) (i := 16) (k := 2) (n := 2) rfl rfl rfl ?_
        refine kw_aload_n (pc := 30) (i := 17) (k := 0) (n := 0) rfl rfl rfl ?_
        refine kw_get (pc := 31) (i := 18) (v := .ref 12) rfl rfl rfl lkX3_17 (fun _ => rfl) ?_
        refine kw_iload_n (pc := 34) (i := 19) (k := 3) (n := 3) rfl rfl rfl ?_
        have w113 : t.toInt = 0 ∨ t.toInt = 1 ∨ t.toInt = 2 ∨ t.toInt = 3 ∨ t.toInt = 4 ∨ t.toInt = 5 := by omega
        rcases w113 with w113 | w113 | w113 | w113 | w113 | w113
        · replace hF := kf_p w113 hF
          have e_w113 : t.toNatClampNeg = 0 := by have := kw_clampI (x := t) (by omega); omega
          refine kw_aald (pc := 35) (i := 20) (b := 29) rfl rfl (by decide) (by omega) (by rw [e_w113]; rfl) ?_
          refine kw_iload (pc := 36) (i := 21) (k := 4) (n := 4) rfl rfl ?_
          refine kw_iload (pc := 38) (i := 22) (k := 5) (n := 5) rfl rfl ?_
          refine kw_copy (pc := 40) (i := 23) (n := 40) (m_ := 40) rfl laX3_45 rfl rfl (by omega) (by omega) (by omega) (by omega) (by omega) (by omega) (Nat.le_of_ble_eq_true rfl) ?_
          have I114 : kw_I bX (kw_ua σ 29 (va_cpy (σ.1 34) (σ.1 29) (i.toNatClampNeg) (j.toNatClampNeg) (n.toNatClampNeg))) := kw_I_ua hI (fun j => ⟨(kw_rng _).1, Int.le_of_lt_add_one (kw_rng _).2⟩)
          have F115 : kw_F [29, 30, 31, 32, 33, 34] σ (kw_ua σ 29 (va_cpy (σ.1 34) (σ.1 29) (i.toNatClampNeg) (j.toNatClampNeg) (n.toNatClampNeg))) := kw_F_ua hF0 (by decide)
          generalize hS116 : (kw_ua σ 29 (va_cpy (σ.1 34) (σ.1 29) (i.toNatClampNeg) (j.toNatClampNeg) (n.toNatClampNeg))) = S116 at I114 F115 ⊢
          replace hF := kf_le hS116.symm hF
          exact kw_return (pc := 43) (i := 24) rfl rfl ⟨⟨I114, F115⟩, rfl, hF⟩
        · replace hF := kf_n (fun q => absurd (w113.symm.trans q) (by decide)) hF
          replace hF := kf_p w113 hF
          have e_w113 : t.toNatClampNeg = 1 := by have := kw_clampI (x := t) (by omega); omega
          refine kw_aald (pc := 35) (i := 20) (b := 30) rfl rfl (by decide) (by omega) (by rw [e_w113]; rfl) ?_
          refine kw_iload (pc := 36) (i := 21) (k := 4) (n := 4) rfl rfl ?_
          refine kw_iload (pc := 38) (i := 22) (k := 5) (n := 5) rfl rfl ?_
          refine kw_copy (pc := 40) (i := 23) (n := 40) (m_ := 40) rfl laX3_45 rfl rfl (by omega) (by omega) (by omega) (by omega) (by omega) (by omega) (Nat.le_of_ble_eq_true rfl) ?_
          have I117 : kw_I bX (kw_ua σ 30 (va_cpy (σ.1 34) (σ.1 30) (i.toNatClampNeg) (j.toNatClampNeg) (n.toNatClampNeg))) := kw_I_ua hI (fun j => ⟨(kw_rng _).1, Int.le_of_lt_add_one (kw_rng _).2⟩)
          have F118 : kw_F [29, 30, 31, 32, 33, 34] σ (kw_ua σ 30 (va_cpy (σ.1 34) (σ.1 30) (i.toNatClampNeg) (j.toNatClampNeg) (n.toNatClampNeg))) := kw_F_ua hF0 (by decide)
          generalize hS119 : (kw_ua σ 30 (va_cpy (σ.1 34) (σ.1 30) (i.toNatClampNeg) (j.toNatClampNeg) (n.toNatClampNeg))) = S119 at I117 F118 ⊢
          replace hF := kf_le hS119.symm hF
          exact kw_return (pc := 43) (i := 24) rfl rfl ⟨⟨I117, F118⟩, rfl, hF⟩
        · replace hF := kf_n (fun q => absurd (w113.symm.trans q) (by decide)) hF
          replace hF := kf_n (fun q => absurd (w113.symm.trans q) (by decide)) hF
          replace hF := kf_p w113 hF
          have e_w113 : t.toNatClampNeg = 2 := by have := kw_clampI (x := t) (by omega); omega
          refine kw_aald (pc := 35) (i := 20) (b := 31) rfl rfl (by decide) (by omega) (by rw [e_w113]; rfl) ?_
          refine kw_iload (pc := 36) (i := 21) (k := 4) (n := 4) rfl rfl ?_
          refine kw_iload (pc := 38) (i := 22) (k := 5) (n := 5) rfl rfl ?_
          refine kw_copy (pc := 40) (i := 23) (n := 40) (m_ := 40) rfl laX3_45 rfl rfl (by omega) (by omega) (by omega) (by omega) (by omega) (by omega) (Nat.le_of_ble_eq_true rfl) ?_
          have I120 : kw_I bX (kw_ua σ 31 (va_cpy (σ.1 34) (σ.1 31) (i.toNatClampNeg) (j.toNatClampNeg) (n.toNatClampNeg))) := kw_I_ua hI (fun j => ⟨(kw_rng _).1, Int.le_of_lt_add_one (kw_rng _).2⟩)
          have F121 : kw_F [29, 30, 31, 32, 33, 34] σ (kw_ua σ 31 (va_cpy (σ.1 34) (σ.1 31) (i.toNatClampNeg) (j.toNatClampNeg) (n.toNatClampNeg))) := kw_F_ua hF0 (by decide)
          generalize hS122 : (kw_ua σ 31 (va_cpy (σ.1 34) (σ.1 31) (i.toNatClampNeg) (j.toNatClampNeg) (n.toNatClampNeg))) = S122 at I120 F121 ⊢
          replace hF := kf_le hS122.symm hF
          exact kw_return (pc := 43) (i := 24) rfl rfl ⟨⟨I120, F121⟩, rfl, hF⟩
        · replace hF := kf_n (fun q => absurd (w113.symm.trans q) (by decide)) hF
          replace hF := kf_n (fun q => absurd (w113.symm.trans q) (by decide)) hF
          replace hF := kf_n (fun q => absurd (w113.symm.trans q) (by decide)) hF
          replace hF := kf_p w113 hF
          have e_w113 : t.toNatClampNeg = 3 := by have := kw_clampI (x := t) (by omega); omega
          refine kw_aald (pc := 35) (i := 20) (b := 32) rfl rfl (by decide) (by omega) (by rw [e_w113]; rfl) ?_
          refine kw_iload (pc := 36) (i := 21) (k := 4) (n := 4) rfl rfl ?_
          refine kw_iload (pc := 38) (i := 22) (k := 5) (n := 5) rfl rfl ?_
          refine kw_copy (pc := 40) (i := 23) (n := 40) (m_ := 40) rfl laX3_45 rfl rfl (by omega) (by omega) (by omega) (by omega) (by omega) (by omega) (Nat.le_of_ble_eq_true rfl) ?_
          have I123 : kw_I bX (kw_ua σ 32 (va_cpy (σ.1 34) (σ.1 32) (i.toNatClampNeg) (j.toNatClampNeg) (n.toNatClampNeg))) := kw_I_ua hI (fun j => ⟨(kw_rng _).1, Int.le_of_lt_add_one (kw_rng _).2⟩)
          have F124 : kw_F [29, 30, 31, 32, 33, 34] σ (kw_ua σ 32 (va_cpy (σ.1 34) (σ.1 32) (i.toNatClampNeg) (j.toNatClampNeg) (n.toNatClampNeg))) := kw_F_ua hF0 (by decide)
          generalize hS125 : (kw_ua σ 32 (va_cpy (σ.1 34) (σ.1 32) (i.toNatClampNeg) (j.toNatClampNeg) (n.toNatClampNeg))) = S125 at I123 F124 ⊢
          replace hF := kf_le hS125.symm hF
          exact kw_return (pc := 43) (i := 24) rfl rfl ⟨⟨I123, F124⟩, rfl, hF⟩
        · replace hF := kf_n (fun q => absurd (w113.symm.trans q) (by decide)) hF
          replace hF := kf_n (fun q => absurd (w113.symm.trans q) (by decide)) hF
          replace hF := kf_n (fun q => absurd (w113.symm.trans q) (by decide)) hF
          replace hF := kf_n (fun q => absurd (w113.symm.trans q) (by decide)) hF
          replace hF := kf_p w113 hF
          have e_w113 : t.toNatClampNeg = 4 := by have := kw_clampI (x := t) (by omega); omega
          refine kw_aald (pc := 35) (i := 20) (b := 33) rfl rfl (by decide) (by omega) (by rw [e_w113]; rfl) ?_
          refine kw_iload (pc := 36) (i := 21) (k := 4) (n := 4) rfl rfl ?_
          refine kw_iload (pc := 38) (i := 22) (k := 5) (n := 5) rfl rfl ?_
          refine kw_copy (pc := 40) (i := 23) (n := 40) (m_ := 40) rfl laX3_45 rfl rfl (by omega) (by omega) (by omega) (by omega) (by omega) (by omega) (Nat.le_of_ble_eq_true rfl) ?_
          have I126 : kw_I bX (kw_ua σ 33 (va_cpy (σ.1 34) (σ.1 33) (i.toNatClampNeg) (j.toNatClampNeg) (n.toNatClampNeg))) := kw_I_ua hI (fun j => ⟨(kw_rng _).1, Int.le_of_lt_add_one (kw_rng _).2⟩)
          have F127 : kw_F [29, 30, 31, 32, 33, 34] σ (kw_ua σ 33 (va_cpy (σ.1 34) (σ.1 33) (i.toNatClampNeg) (j.toNatClampNeg) (n.toNatClampNeg))) := kw_F_ua hF0 (by decide)
          generalize hS128 : (kw_ua σ 33 (va_cpy (σ.1 34) (σ.1 33) (i.toNatClampNeg) (j.toNatClampNeg) (n.toNatClampNeg))) = S128 at I126 F127 ⊢
          replace hF := kf_le hS128.symm hF
          exact kw_return (pc := 43) (i := 24) rfl rfl ⟨⟨I126, F127⟩, rfl, hF⟩
        · replace hF := kf_n (fun q => absurd (w113.symm.trans q) (by decide)) hF
          replace hF := kf_n (fun q => absurd (w113.symm.trans q) (by decide)) hF
          replace hF := kf_n (fun q => absurd (w113.symm.trans q) (by decide)) hF
          replace hF := kf_n (fun q => absurd (w113.symm.trans q) (by decide)) hF
          replace hF := kf_n (fun q => absurd (w113.symm.trans q) (by decide)) hF
          replace hF := kf_p w113 hF
          have e_w113 : t.toNatClampNeg = 5 := by have := kw_clampI (x := t) (by omega); omega
          refine kw_aald (pc := 35) (i := 20) (b := 34) rfl rfl (by decide) (by omega) (by rw [e_w113]; rfl) ?_
          refine kw_iload (pc := 36) (i := 21) (k := 4) (n := 4) rfl rfl ?_
          refine kw_iload (pc := 38) (i := 22) (k := 5) (n := 5) rfl rfl ?_
          refine kw_copy (pc := 40) (i := 23) (n := 40) (m_ := 40) rfl laX3_45 rfl rfl (by omega) (by omega) (by omega) (by omega) (by omega) (by omega) (Nat.le_of_ble_eq_true rfl) ?_
          have I129 : kw_I bX (kw_ua σ 34 (va_cpy (σ.1 34) (σ.1 34) (i.toNatClampNeg) (j.toNatClampNeg) (n.toNatClampNeg))) := kw_I_ua hI (fun j => ⟨(kw_rng _).1, Int.le_of_lt_add_one (kw_rng _).2⟩)
          have F130 : kw_F [29, 30, 31, 32, 33, 34] σ (kw_ua σ 34 (va_cpy (σ.1 34) (σ.1 34) (i.toNatClampNeg) (j.toNatClampNeg) (n.toNatClampNeg))) := kw_F_ua hF0 (by decide)
          generalize hS131 : (kw_ua σ 34 (va_cpy (σ.1 34) (σ.1 34) (i.toNatClampNeg) (j.toNatClampNeg) (n.toNatClampNeg))) = S131 at I129 F130 ⊢
          replace hF := kf_le hS131.symm hF
          exact kw_return (pc := 43) (i := 24) rfl rfl ⟨⟨I129, F130⟩, rfl, hF⟩
end
section
noncomputable def f_X4_answer_8 (σ : kw_S) (v : Int32) : Int32 × kw_S := ((1 : Int32), kw_ui σ 8 2 v)
theorem f_X4_answer_8_u (σ : kw_S) (v : Int32) : f_X4_answer_8 σ v = ((1 : Int32), kw_ui σ 8 2 v) := rfl
abbrev p_X4_answer_8 (σ : kw_S) (v : Int32) : Option Value → kw_S → Prop := fun vv σ' => (kw_I bX σ' ∧ kw_F [8] σ σ') ∧ ∃ r : Int32, vv = some (.int r) ∧ r.toInt = 1 ∧ (r, σ') = f_X4_answer_8 σ v
set_option maxRecDepth 100000 in
set_option maxHeartbeats 4000000 in
theorem c_X4_answer_8 (l : Launch) (σ : kw_S) (hI : kw_I bX σ) (v : Int32) : kw_Met l 1 KX mX4_answer [.ref 8, .int v] σ (p_X4_answer_8 σ v) := by
  have r_v := kw_rng v
  have hF0 : kw_F [8] σ σ := kw_F.rf
  have hF := (f_X4_answer_8_u σ v).symm
  have q_1 : (1 : Int32).toInt = 1 := rfl
  refine kw_Met.of (by decide) rfl tX4_answer (Nat.le_of_ble_eq_true rfl) ?_
  show kw_AW l 1 kw_E0 KX mX4_answer (p_X4_answer_8 σ v) 0 [(0, .ref 8), (1, .int v)] [] σ
  refine kw_aload_n (pc := 0) (i := 0) (k := 0) (n := 0) rfl rfl rfl ?_
  refine kw_iload_n (pc := 1) (i := 1) (k := 1) (n := 1) rfl rfl rfl ?_
  refine kw_puti (pc := 2) (i := 2) (z := 0) rfl rfl rfl lpX4_19 rfl rfl ?_
  have I1 : kw_I bX (kw_ui σ 8 2 v) := kw_I_ui hI (kw_rng v).1 (Int.le_of_lt_add_one (kw_rng v).2)
  have F2 : kw_F [8] σ (kw_ui σ 8 2 v) := kw_F_ui hF0 (by decide)
  refine kw_iconst (pc := 5) (i := 3) (v := 1) rfl rfl ?_
  exact kw_ireturn (pc := 6) (i := 4) (ty := .int) rfl rfl rfl ⟨⟨I1, F2⟩, _, rfl, by omega, hF⟩
noncomputable def f_X4_refuse_8 (σ : kw_S) (f : Int32) : Int32 × kw_S := if f.toInt < (1 : Int32).toInt then ((((-3) : Int32), σ)) else (if (5 : Int32).toInt < f.toInt then ((((-3) : Int32), σ)) else (kf_l ((kw_ui σ 8 1 f).1 28 f.toNatClampNeg) fun z1 => kf_l (z1 + (1 : Int32)) fun z2 => (((-3) : Int32), kw_ui (kw_ui σ 8 1 f) 28 f.toNatClampNeg z2)))
theorem f_X4_refuse_8_u (σ : kw_S) (f : Int32) : f_X4_refuse_8 σ f = if f.toInt < (1 : Int32).toInt then ((((-3) : Int32), σ)) else (if (5 : Int32).toInt < f.toInt then ((((-3) : Int32), σ)) else (kf_l ((kw_ui σ 8 1 f).1 28 f.toNatClampNeg) fun z1 => kf_l (z1 + (1 : Int32)) fun z2 => (((-3) : Int32), kw_ui (kw_ui σ 8 1 f) 28 f.toNatClampNeg z2))) := rfl
abbrev p_X4_refuse_8 (σ : kw_S) (f : Int32) : Option Value → kw_S → Prop := fun vv σ' => (kw_I bX σ' ∧ kw_F [8, 28] σ σ') ∧ ∃ r : Int32, vv = some (.int r) ∧ r.toInt = -3 ∧ (r, σ') = f_X4_refuse_8 σ f
set_option maxRecDepth 100000 in
set_option maxHeartbeats 4000000 in
theorem c_X4_refuse_8 (l : Launch) (σ : kw_S) (hI : kw_I bX σ) (f : Int32) : kw_Met l 1 KX mX4_refuse [.ref 8, .int f] σ (p_X4_refuse_8 σ f) := by
  have r_f := kw_rng f
  have hF0 : kw_F [8, 28] σ σ := kw_F.rf
  have hF := (f_X4_refuse_8_u σ f).symm
  have q_m3 : (-3 : Int32).toInt = -3 := rfl
  have q_1 : (1 : Int32).toInt = 1 := rfl
  have q_5 : (5 : Int32).toInt = 5 := rfl
  refine kw_Met.of (by decide) rfl tX4_refuse (Nat.le_of_ble_eq_true rfl) ?_
  show kw_AW l 1 kw_E0 KX mX4_refuse (p_X4_refuse_8 σ f) 0 [(0, .ref 8), (1, .int f)] [] σ
  refine kw_iload_n (pc := 0) (i := 0) (k := 1) (n := 1) rfl rfl rfl ?_
  refine kw_iconst (pc := 1) (i := 1) (v := 1) rfl rfl ?_
  refine kw_icmp_lt (pc := 2) (i := 2) (tgt := 10) rfl rfl (fun c1 => ?_) (fun c1 => ?_)
  · replace hF := kf_p c1 hF
    refine kw_bipush (pc := 10) (i := 6) (v := (-3)) rfl rfl ?_
    exact kw_ireturn (pc := 12) (i := 7) (ty := .int) rfl rfl rfl ⟨⟨hI, hF0⟩, _, rfl, by omega, hF⟩
  · replace hF := kf_nl c1 hF
    refine kw_iload_n (pc := 5) (i := 3) (k := 1) (n := 1) rfl rfl rfl ?_
    refine kw_iconst (pc := 6) (i := 4) (v := 5) rfl rfl ?_
    refine kw_icmp_le (pc := 7) (i := 5) (tgt := 13) rfl rfl (fun c2 => ?_) (fun c2 => ?_)
    · replace hF := kf_nl c2 hF
      refine kw_aload_n (pc := 13) (i := 8) (k := 0) (n := 0) rfl rfl rfl ?_
      refine kw_iload_n (pc := 14) (i := 9) (k := 1) (n := 1) rfl rfl rfl ?_
      refine kw_puti (pc := 15) (i := 10) (z := 0) rfl rfl rfl lpX4_23 rfl rfl ?_
      have I3 : kw_I bX (kw_ui σ 8 1 f) := kw_I_ui hI (kw_rng f).1 (Int.le_of_lt_add_one (kw_rng f).2)
      have F4 : kw_F [8, 28] σ (kw_ui σ 8 1 f) := kw_F_ui hF0 (by decide)
      refine kw_aload_n (pc := 18) (i := 11) (k := 0) (n := 0) rfl rfl rfl ?_
      refine kw_get (pc := 19) (i := 12) (v := .ref 28) rfl rfl rfl lkX4_9 (fun _ => rfl) ?_
      refine kw_iload_n (pc := 22) (i := 13) (k := 1) (n := 1) rfl rfl rfl ?_
      refine kw_dup2 (pc := 23) (i := 14) rfl rfl rfl ?_
      refine kw_iald (pc := 24) (i := 15) (n := 6) rfl rfl (by omega) (by omega) (fun z5 e_z5 => ?_)
      replace hF := kf_le e_z5 hF
      have t_z5 := congrArg Int32.toInt e_z5
      have r_z5 := kw_rng z5
      refine kw_iconst (pc := 25) (i := 16) (v := 1) rfl rfl ?_
      refine kw_iadd (pc := 26) (i := 17) rfl (fun z6 e_z6 t_z6 => ?_)
      replace hF := kf_le e_z6 hF
      refine kw_iast (pc := 27) (i := 18) (n := 6) rfl rfl (by omega) (by omega) ?_
      have I7 : kw_I bX (kw_ui (kw_ui σ 8 1 f) 28 f.toNatClampNeg z6) := kw_I_ui I3 (kw_rng z6).1 (Int.le_of_lt_add_one (kw_rng z6).2)
      have F8 : kw_F [8, 28] σ (kw_ui (kw_ui σ 8 1 f) 28 f.toNatClampNeg z6) := kw_F_ui F4 (by decide)
      refine kw_bipush (pc := 28) (i := 19) (v := (-3)) rfl rfl ?_
      exact kw_ireturn (pc := 30) (i := 20) (ty := .int) rfl rfl rfl ⟨⟨I7, F8⟩, _, rfl, by omega, hF⟩
    · replace hF := kf_p c2 hF
      refine kw_bipush (pc := 10) (i := 6) (v := (-3)) rfl rfl ?_
      exact kw_ireturn (pc := 12) (i := 7) (ty := .int) rfl rfl rfl ⟨⟨hI, hF0⟩, _, rfl, by omega, hF⟩
noncomputable def f_X4_tellWhole_8 (σ : kw_S) (v : Int64) : kw_S := kw_ul (kw_ul σ 8 3 v) 8 4 1
theorem f_X4_tellWhole_8_u (σ : kw_S) (v : Int64) : f_X4_tellWhole_8 σ v = kw_ul (kw_ul σ 8 3 v) 8 4 1 := rfl
abbrev p_X4_tellWhole_8 (σ : kw_S) (v : Int64) : Option Value → kw_S → Prop := fun vv σ' => (kw_I bX σ' ∧ kw_F [8] σ σ') ∧ vv = none ∧ σ' = f_X4_tellWhole_8 σ v
set_option maxRecDepth 100000 in
set_option maxHeartbeats 4000000 in
theorem c_X4_tellWhole_8 (l : Launch) (σ : kw_S) (hI : kw_I bX σ) (v : Int64) : kw_Met l 1 KX mX4_tellWhole [.ref 8, .long v] σ (p_X4_tellWhole_8 σ v) := by
  have hF0 : kw_F [8] σ σ := kw_F.rf
  have hF := (f_X4_tellWhole_8_u σ v).symm
  refine kw_Met.of (by decide) rfl tX4_tellWhole (Nat.le_of_ble_eq_true rfl) ?_
  show kw_AW l 1 kw_E0 KX mX4_tellWhole (p_X4_tellWhole_8 σ v) 0 [(0, .ref 8), (1, .long v)] [] σ
  refine kw_aload_n (pc := 0) (i := 0) (k := 0) (n := 0) rfl rfl rfl ?_
  refine kw_lload_n (pc := 1) (i := 1) (k := 1) (n := 1) rfl rfl rfl ?_
  refine kw_putl (pc := 2) (i := 2) (z := 0) rfl rfl rfl lpX4_26 ?_
  have I1 : kw_I bX (kw_ul σ 8 3 v) := kw_I_ul hI _ _ _
  have F2 : kw_F [8] σ (kw_ul σ 8 3 v) := kw_F_ul hF0 (by decide)
  refine kw_aload_n (pc := 5) (i := 3) (k := 0) (n := 0) rfl rfl rfl ?_
  refine kw_lconst (pc := 6) (i := 4) (v := 1) rfl rfl ?_
  refine kw_putl (pc := 7) (i := 5) (z := 0) rfl rfl rfl lpX4_15 ?_
  have I3 : kw_I bX (kw_ul (kw_ul σ 8 3 v) 8 4 1) := kw_I_ul I1 _ _ _
  have F4 : kw_F [8] σ (kw_ul (kw_ul σ 8 3 v) 8 4 1) := kw_F_ul F2 (by decide)
  exact kw_return (pc := 10) (i := 6) rfl rfl ⟨⟨I3, F4⟩, rfl, hF⟩
noncomputable def l_X4_commonDivisor_9 (a0 : Int64) (a2 : Int64) (S : kw_S) : Nat → Int64 → Int64 → Int32 → Int64
  | 0, _, _, _ => 0
  | n + 1, x4, x6, x8 => if x8.toInt < (100 : Int32).toInt then (kf_l (lg_cmp x6 (0 : Int64)) fun z1 => if z1.toInt = 0 then (x4) else (kf_l (x4 - x4 / x6 * x6) fun z2 => kf_l (x8 + Int32.ofInt 1) fun z3 => l_X4_commonDivisor_9 a0 a2 S n x6 z2 z3)) else (x4)
theorem l_X4_commonDivisor_9_s (a0 : Int64) (a2 : Int64) (S : kw_S) (n : Nat) (x4 : Int64) (x6 : Int64) (x8 : Int32) : l_X4_commonDivisor_9 a0 a2 S (n + 1) x4 x6 x8 = if x8.toInt < (100 : Int32).toInt then (kf_l (lg_cmp x6 (0 : Int64)) fun z1 => if z1.toInt = 0 then (x4) else (kf_l (x4 - x4 / x6 * x6) fun z2 => kf_l (x8 + Int32.ofInt 1) fun z3 => l_X4_commonDivisor_9 a0 a2 S n x6 z2 z3)) else (x4) := rfl
noncomputable def f_X4_commonDivisor (σ : kw_S) (a : Int64) (b : Int64) : Int64 := l_X4_commonDivisor_9 a b σ ((101 - (0 : Int32).toInt).toNat + 1) a b (0 : Int32)
theorem f_X4_commonDivisor_u (σ : kw_S) (a : Int64) (b : Int64) : f_X4_commonDivisor σ a b = l_X4_commonDivisor_9 a b σ ((101 - (0 : Int32).toInt).toNat + 1) a b (0 : Int32) := rfl
abbrev p_X4_commonDivisor (σ : kw_S) (a : Int64) (b : Int64) : Option Value → kw_S → Prop := fun vv σ' => σ' = σ ∧ ∃ r : Int64, vv = some (.long r) ∧ r = f_X4_commonDivisor σ a b
set_option maxRecDepth 100000 in
set_option maxHeartbeats 4000000 in
theorem c_X4_commonDivisor (l : Launch) (σ : kw_S) (hI : kw_I bX σ) (a : Int64) (b : Int64) : kw_Met l 1 KX mX4_commonDivisor [.long a, .long b] σ (p_X4_commonDivisor σ a b) := by
  have hF := (f_X4_commonDivisor_u σ a b).symm
  have q_0 : (0 : Int32).toInt = 0 := rfl
  have q_100 : (100 : Int32).toInt = 100 := rfl
  refine kw_Met.of (by decide) rfl tX4_commonDivisor (Nat.le_of_ble_eq_true rfl) ?_
  show kw_AW l 1 kw_E0 KX mX4_commonDivisor (p_X4_commonDivisor σ a b) 0 [(0, .long a), (2, .long b)] [] σ
  refine kw_lload_n (pc := 0) (i := 0) (k := 0) (n := 0) rfl rfl rfl ?_
  refine kw_lstore (pc := 1) (i := 1) (n := 4) (lv' := [(4, .long a), (0, .long a), (2, .long b)]) rfl (by decide) rfl ?_
  refine kw_lload_n (pc := 3) (i := 2) (k := 2) (n := 2) rfl rfl rfl ?_
  refine kw_lstore (pc := 4) (i := 3) (n := 6) (lv' := [(6, .long b), (4, .long a), (0, .long a), (2, .long b)]) rfl (by decide) rfl ?_
  refine kw_iconst (pc := 6) (i := 4) (v := 0) rfl rfl ?_
  refine kw_istore (pc := 7) (i := 5) (n := 8) (lv' := [(8, .int 0), (6, .long b), (4, .long a), (0, .long a), (2, .long b)]) rfl (by decide) rfl ?_
  have L4 : ∀ (n8 : Nat) (x1 : Int32) (x2 : Int64) (x3 : Int64), 0 ≤ x1.toInt → l_X4_commonDivisor_9 a b σ n8 x3 x2 x1 = (f_X4_commonDivisor σ a b) → (101 - x1.toInt).toNat < n8 → kw_AW l 1 kw_E0 KX mX4_commonDivisor (p_X4_commonDivisor σ a b) 9 [(8, .int x1), (6, .long x2), (4, .long x3), (0, .long a), (2, .long b)] [] σ := by
    intro n8
    induction n8 with
    | zero => intro x1 x2 x3 v6 hF m7; exact absurd m7 (Nat.not_lt_zero _)
    | succ n8 ih5 =>
      intro x1 x2 x3 v6 hF m7
      replace hF := kf_st (l_X4_commonDivisor_9_s _ _ _ _ _ _ _) hF
      have r_x1 := kw_rng x1
      refine kw_iload (pc := 9) (i := 6) (k := 0) (n := 8) rfl rfl ?_
      refine kw_bipush (pc := 11) (i := 7) (v := 100) rfl rfl ?_
      refine kw_icmp_ge (pc := 13) (i := 8) (tgt := 44) rfl rfl (fun c9 => ?_) (fun c9 => ?_)
      · replace hF := kf_nl c9 hF
        refine kw_lload (pc := 44) (i := 23) (k := 2) (n := 4) rfl rfl ?_
        exact kw_lreturn (pc := 46) (i := 24) rfl rfl ⟨rfl, _, rfl, hF⟩
      · replace hF := kf_p c9 hF
        refine kw_lload (pc := 16) (i := 9) (k := 1) (n := 6) rfl rfl ?_
        refine kw_lconst (pc := 18) (i := 10) (v := 0) rfl rfl ?_
        refine kw_lcmp (pc := 19) (i := 11) rfl (fun z10 e_z10 t_z10 => ?_)
        replace hF := kf_le e_z10 hF
        have lq11 : (0 : Int64).toInt = 0 := rfl
        refine kw_if_eq (pc := 20) (i := 12) (tgt := 44) rfl rfl (fun c12 => ?_) (fun c12 => ?_)
        · replace hF := kf_p c12 hF
          refine kw_lload (pc := 44) (i := 23) (k := 2) (n := 4) rfl rfl ?_
          exact kw_lreturn (pc := 46) (i := 24) rfl rfl ⟨rfl, _, rfl, hF⟩
        · replace hF := kf_n c12 hF
          refine kw_lload (pc := 23) (i := 13) (k := 2) (n := 4) rfl rfl ?_
          refine kw_lload (pc := 25) (i := 14) (k := 1) (n := 6) rfl rfl ?_
          refine kw_lrem (pc := 27) (i := 15) rfl (by omega) (fun z13 e_z13 => ?_)
          replace hF := kf_le e_z13 hF
          refine kw_lstore (pc := 28) (i := 16) (n := 9) (lv' := [(9, .long z13), (8, .int x1), (6, .long x2), (4, .long x3), (0, .long a), (2, .long b)]) rfl (by decide) rfl ?_
          refine kw_lload (pc := 30) (i := 17) (k := 2) (n := 6) rfl rfl ?_
          refine kw_lstore (pc := 32) (i := 18) (n := 4) (lv' := [(4, .long x2), (9, .long z13), (8, .int x1), (6, .long x2), (0, .long a), (2, .long b)]) rfl (by decide) rfl ?_
          refine kw_lload (pc := 34) (i := 19) (k := 1) (n := 9) rfl rfl ?_
          refine kw_lstore (pc := 36) (i := 20) (n := 6) (lv' := [(6, .long z13), (4, .long x2), (9, .long z13), (8, .int x1), (0, .long a), (2, .long b)]) rfl (by decide) rfl ?_
          refine kw_iinc' (pc := 38) (i := 21) (k := 3) (fun z => [(8, .int z), (6, .long z13), (4, .long x2), (9, .long z13), (0, .long a), (2, .long b)]) rfl rfl (by decide) rfl (fun _ => rfl) (fun z14 e_z14 t_z14 => ?_)
          replace hF := kf_le e_z14 hF
          refine kw_goto (pc := 41) (i := 22) (tgt := 9) rfl rfl ?_
          refine kw_sub (lv' := [(8, .int z14), (6, .long z13), (4, .long x2), (0, .long a), (2, .long b)]) [0, 1, 2, 4, 5] rfl ?_
          exact ih5 z14 z13 x2 (by omega) hF (by omega)
  exact L4 _ 0 b a (by omega) hF (Nat.lt_succ_self _)
noncomputable def f_X4_tellShare_8 (σ : kw_S) (a : Int64) (b : Int64) : kw_S := kf_l (if 0 < a then a else -a) fun z1 => kf_l (f_X4_commonDivisor σ z1 b) fun z2 => kf_l (lg_cmp z2 (1 : Int64)) fun z3 => if z3.toInt < 0 then (kf_l (a / (1 : Int64)) fun z6 => kf_l (b / (1 : Int64)) fun z7 => kw_ul (kw_ul σ 8 3 z6) 8 4 z7) else (kf_l (a / z2) fun z4 => kf_l (b / z2) fun z5 => kw_ul (kw_ul σ 8 3 z4) 8 4 z5)
theorem f_X4_tellShare_8_u (σ : kw_S) (a : Int64) (b : Int64) : f_X4_tellShare_8 σ a b = kf_l (if 0 < a then a else -a) fun z1 => kf_l (f_X4_commonDivisor σ z1 b) fun z2 => kf_l (lg_cmp z2 (1 : Int64)) fun z3 => if z3.toInt < 0 then (kf_l (a / (1 : Int64)) fun z6 => kf_l (b / (1 : Int64)) fun z7 => kw_ul (kw_ul σ 8 3 z6) 8 4 z7) else (kf_l (a / z2) fun z4 => kf_l (b / z2) fun z5 => kw_ul (kw_ul σ 8 3 z4) 8 4 z5) := rfl
abbrev p_X4_tellShare_8 (σ : kw_S) (a : Int64) (b : Int64) : Option Value → kw_S → Prop := fun vv σ' => (kw_I bX σ' ∧ kw_F [8] σ σ') ∧ vv = none ∧ σ' = f_X4_tellShare_8 σ a b
set_option maxRecDepth 100000 in
set_option maxHeartbeats 4000000 in
theorem c_X4_tellShare_8 (l : Launch) (σ : kw_S) (hI : kw_I bX σ) (a : Int64) (b : Int64) : kw_Met l 2 KX mX4_tellShare [.ref 8, .long a, .long b] σ (p_X4_tellShare_8 σ a b) := by
  have hF0 : kw_F [8] σ σ := kw_F.rf
  have hF := (f_X4_tellShare_8_u σ a b).symm
  refine kw_Met.of (by decide) rfl tX4_tellShare (Nat.le_of_ble_eq_true rfl) ?_
  show kw_AW l 2 kw_E0 KX mX4_tellShare (p_X4_tellShare_8 σ a b) 0 [(0, .ref 8), (1, .long a), (3, .long b)] [] σ
  refine kw_lload_n (pc := 0) (i := 0) (k := 1) (n := 1) rfl rfl rfl ?_
  refine kw_mabsl (pc := 1) (i := 1) rfl jX4_29 (by omega) (Nat.le_of_ble_eq_true rfl) (fun z1 e_z1 => ?_)
  replace hF := kf_le e_z1 hF
  refine kw_lload_n (pc := 4) (i := 2) (k := 2) (n := 3) rfl rfl rfl ?_
  refine kw_callS (pc := 5) (i := 3) (Y := mX4_commonDivisor) (As := [.long z1, .long b]) (st := []) kw_hE rfl lsX4_35 arX4_commonDivisor (c_X4_commonDivisor l σ hI z1 b ) (by decide) (Nat.le_of_ble_eq_true rfl) rfl (fun v S3 p2 => ?_)
  obtain ⟨e6, z5, rfl, ef4⟩ := p2
  rw [e6]
  replace hF := kf_le ef4 hF
  show kw_AW l 2 kw_E0 KX mX4_tellShare (p_X4_tellShare_8 σ a b) 8 [(0, .ref 8), (1, .long a), (3, .long b)] [.long z5] σ
  refine kw_lstore (pc := 8) (i := 4) (n := 5) (lv' := [(5, .long z5), (0, .ref 8), (1, .long a), (3, .long b)]) rfl (by decide) rfl ?_
  refine kw_lload (pc := 10) (i := 5) (k := 0) (n := 5) rfl rfl ?_
  refine kw_lconst (pc := 12) (i := 6) (v := 1) rfl rfl ?_
  refine kw_lcmp (pc := 13) (i := 7) rfl (fun z7 e_z7 t_z7 => ?_)
  replace hF := kf_le e_z7 hF
  have lq8 : (1 : Int64).toInt = 1 := rfl
  refine kw_if_ge (pc := 14) (i := 8) (tgt := 20) rfl rfl (fun c9 => ?_) (fun c9 => ?_)
  · replace hF := kf_nl c9 hF
    refine kw_aload_n (pc := 20) (i := 11) (k := 1) (n := 0) rfl rfl rfl ?_
    refine kw_lload_n (pc := 21) (i := 12) (k := 2) (n := 1) rfl rfl rfl ?_
    refine kw_lload (pc := 22) (i := 13) (k := 0) (n := 5) rfl rfl ?_
    refine kw_ldiv (pc := 24) (i := 14) rfl (by omega) (fun z10 e_z10 => ?_)
    replace hF := kf_le e_z10 hF
    refine kw_putl (pc := 25) (i := 15) (z := 0) rfl rfl rfl lpX4_26 ?_
    have I11 : kw_I bX (kw_ul σ 8 3 z10) := kw_I_ul hI _ _ _
    have F12 : kw_F [8] σ (kw_ul σ 8 3 z10) := kw_F_ul hF0 (by decide)
    refine kw_aload_n (pc := 28) (i := 16) (k := 1) (n := 0) rfl rfl rfl ?_
    refine kw_lload_n (pc := 29) (i := 17) (k := 3) (n := 3) rfl rfl rfl ?_
    refine kw_lload (pc := 30) (i := 18) (k := 0) (n := 5) rfl rfl ?_
    refine kw_ldiv (pc := 32) (i := 19) rfl (by omega) (fun z13 e_z13 => ?_)
    replace hF := kf_le e_z13 hF
    refine kw_putl (pc := 33) (i := 20) (z := 0) rfl rfl rfl lpX4_15 ?_
    have I14 : kw_I bX (kw_ul (kw_ul σ 8 3 z10) 8 4 z13) := kw_I_ul I11 _ _ _
    have F15 : kw_F [8] σ (kw_ul (kw_ul σ 8 3 z10) 8 4 z13) := kw_F_ul F12 (by decide)
    exact kw_return (pc := 36) (i := 21) rfl rfl ⟨⟨I14, F15⟩, rfl, hF⟩
  · replace hF := kf_p c9 hF
    refine kw_lconst (pc := 17) (i := 9) (v := 1) rfl rfl ?_
    refine kw_lstore (pc := 18) (i := 10) (n := 5) (lv' := [(5, .long 1), (0, .ref 8), (1, .long a), (3, .long b)]) rfl (by decide) rfl ?_
    refine kw_aload_n (pc := 20) (i := 11) (k := 1) (n := 0) rfl rfl rfl ?_
    refine kw_lload_n (pc := 21) (i := 12) (k := 2) (n := 1) rfl rfl rfl ?_
    refine kw_lload (pc := 22) (i := 13) (k := 0) (n := 5) rfl rfl ?_
    refine kw_ldiv (pc := 24) (i := 14) rfl (by decide) (fun z16 e_z16 => ?_)
    replace hF := kf_le e_z16 hF
    refine kw_putl (pc := 25) (i := 15) (z := 0) rfl rfl rfl lpX4_26 ?_
    have I17 : kw_I bX (kw_ul σ 8 3 z16) := kw_I_ul hI _ _ _
    have F18 : kw_F [8] σ (kw_ul σ 8 3 z16) := kw_F_ul hF0 (by decide)
    refine kw_aload_n (pc := 28) (i := 16) (k := 1) (n := 0) rfl rfl rfl ?_
    refine kw_lload_n (pc := 29) (i := 17) (k := 3) (n := 3) rfl rfl rfl ?_
    refine kw_lload (pc := 30) (i := 18) (k := 0) (n := 5) rfl rfl ?_
    refine kw_ldiv (pc := 32) (i := 19) rfl (by decide) (fun z19 e_z19 => ?_)
    replace hF := kf_le e_z19 hF
    refine kw_putl (pc := 33) (i := 20) (z := 0) rfl rfl rfl lpX4_15 ?_
    have I20 : kw_I bX (kw_ul (kw_ul σ 8 3 z16) 8 4 z19) := kw_I_ul I17 _ _ _
    have F21 : kw_F [8] σ (kw_ul (kw_ul σ 8 3 z16) 8 4 z19) := kw_F_ul F18 (by decide)
    exact kw_return (pc := 36) (i := 21) rfl rfl ⟨⟨I20, F21⟩, rfl, hF⟩
end
