section
noncomputable def l_X8_write_0_15_36 (a2 : Int32) : Nat → Int32 → kw_S → kw_S
  | 0, _, S => S
  | n + 1, x3, S => if x3.toInt < (6 : Int32).toInt then (kf_l (a2 + (4 : Int32)) fun z4 => kf_l (z4 + x3) fun z5 => kf_l (S.1 14 x3.toNatClampNeg) fun z6 => kf_l (x3 + Int32.ofInt 1) fun z7 => l_X8_write_0_15_36 a2 n z7 (kw_ui S 15 z5.toNatClampNeg z6)) else (S)
theorem l_X8_write_0_15_36_s (a2 : Int32) (n : Nat) (x3 : Int32) (S : kw_S) : l_X8_write_0_15_36 a2 (n + 1) x3 S = if x3.toInt < (6 : Int32).toInt then (kf_l (a2 + (4 : Int32)) fun z4 => kf_l (z4 + x3) fun z5 => kf_l (S.1 14 x3.toNatClampNeg) fun z6 => kf_l (x3 + Int32.ofInt 1) fun z7 => l_X8_write_0_15_36 a2 n z7 (kw_ui S 15 z5.toNatClampNeg z6)) else (S) := rfl
noncomputable def f_X8_write_0_15 (σ : kw_S) (p : Int32) : kw_S := kf_l (p + (1 : Int32)) fun z1 => kf_l (p + (2 : Int32)) fun z2 => kf_l (p + (3 : Int32)) fun z3 => l_X8_write_0_15_36 p ((7 - (0 : Int32).toInt).toNat + 1) (0 : Int32) (kw_ui (kw_ui (kw_ui (kw_ui σ 15 p.toNatClampNeg (σ.1 0 22)) 15 z1.toNatClampNeg (σ.1 0 23)) 15 z2.toNatClampNeg (σ.1 0 24)) 15 z3.toNatClampNeg (σ.1 0 25))
theorem f_X8_write_0_15_u (σ : kw_S) (p : Int32) : f_X8_write_0_15 σ p = kf_l (p + (1 : Int32)) fun z1 => kf_l (p + (2 : Int32)) fun z2 => kf_l (p + (3 : Int32)) fun z3 => l_X8_write_0_15_36 p ((7 - (0 : Int32).toInt).toNat + 1) (0 : Int32) (kw_ui (kw_ui (kw_ui (kw_ui σ 15 p.toNatClampNeg (σ.1 0 22)) 15 z1.toNatClampNeg (σ.1 0 23)) 15 z2.toNatClampNeg (σ.1 0 24)) 15 z3.toNatClampNeg (σ.1 0 25)) := rfl
abbrev p_X8_write_0_15 (T : Int) (σ : kw_S) (p : Int32) : Option Value → kw_S → Prop := fun vv σ' => (kw_I (bM T) σ' ∧ kw_FM [15] σ σ') ∧ vv = none ∧ σ' = f_X8_write_0_15 σ p
set_option maxRecDepth 100000 in
set_option maxHeartbeats 4000000 in
theorem c_X8_write_0_15 (l : Launch) (T : Int) (hT0 : 0 ≤ T) (hT1 : T ≤ 3000) (σ : kw_S) (hI : kw_I (bM T) σ) (p : Int32) (hp0 : 0 ≤ p.toInt) (hp1 : p.toInt ≤ 390) (hp2 : p.toInt % 10 = 0) : kw_Met l 1 KM mX8_write [.ref 0, .ref 15, .int p] σ (p_X8_write_0_15 T σ p) := by
  have r_p := kw_rng p
  have hF0 : kw_FM [15] σ σ := kw_FM.rf
  have hF := (f_X8_write_0_15_u σ p).symm
  have q_0 : (0 : Int32).toInt = 0 := rfl
  have q_1 : (1 : Int32).toInt = 1 := rfl
  have q_2 : (2 : Int32).toInt = 2 := rfl
  have q_3 : (3 : Int32).toInt = 3 := rfl
  have q_4 : (4 : Int32).toInt = 4 := rfl
  have q_6 : (6 : Int32).toInt = 6 := rfl
  refine kw_Met.of (by decide) rfl tX8_write (Nat.le_of_ble_eq_true rfl) ?_
  show kw_AW l 1 kw_E0 KM mX8_write (p_X8_write_0_15 T σ p) 0 [(0, .ref 0), (1, .ref 15), (2, .int p)] [] σ
  refine kw_aload_n (pc := 0) (i := 0) (k := 1) (n := 1) rfl rfl rfl ?_
  refine kw_iload_n (pc := 1) (i := 1) (k := 2) (n := 2) rfl rfl rfl ?_
  refine kw_aload_n (pc := 2) (i := 2) (k := 0) (n := 0) rfl rfl rfl ?_
  refine kw_get (pc := 3) (i := 3) (v := .int (σ.1 0 22)) rfl rfl rfl lkX8_166 (fun _ => rfl) ?_
  have b1 : 0 ≤ (σ.1 0 22).toInt ∧ (σ.1 0 22).toInt ≤ T := hI 0 22
  refine kw_iast (pc := 6) (i := 4) (n := 400) rfl rfl (by omega) (by omega) ?_
  have I2 : kw_I (bM T) (kw_ui σ 15 p.toNatClampNeg (σ.1 0 22)) := kw_wN hI (x := p) (σ.1 0 22) (by omega) (by omega) (by omega) trivial
  have F3 : kw_FM [15] σ (kw_ui σ 15 p.toNatClampNeg (σ.1 0 22)) := kw_FM_ui hF0 (by decide) (by decide)
  refine kw_aload_n (pc := 7) (i := 5) (k := 1) (n := 1) rfl rfl rfl ?_
  refine kw_iload_n (pc := 8) (i := 6) (k := 2) (n := 2) rfl rfl rfl ?_
  refine kw_iconst (pc := 9) (i := 7) (v := 1) rfl rfl ?_
  refine kw_iadd (pc := 10) (i := 8) rfl (fun z4 e_z4 t_z4 => ?_)
  replace hF := kf_le e_z4 hF
  first | (have u_z4 : z4.toInt = p.toInt + 1 := (by omega); clear t_z4) | skip
  refine kw_aload_n (pc := 11) (i := 9) (k := 0) (n := 0) rfl rfl rfl ?_
  refine kw_get (pc := 12) (i := 10) (v := .int (σ.1 0 23)) rfl rfl rfl lkX8_169 (fun _ => rfl) ?_
  have b5 := kw_rng (σ.1 0 23)
  refine kw_iast (pc := 15) (i := 11) (n := 400) rfl rfl (by omega) (by omega) ?_
  have I6 : kw_I (bM T) (kw_ui (kw_ui σ 15 p.toNatClampNeg (σ.1 0 22)) 15 z4.toNatClampNeg (σ.1 0 23)) := kw_wN I2 (x := z4) (σ.1 0 23) (by omega) (by omega) (by omega) trivial
  have F7 : kw_FM [15] σ (kw_ui (kw_ui σ 15 p.toNatClampNeg (σ.1 0 22)) 15 z4.toNatClampNeg (σ.1 0 23)) := kw_FM_ui F3 (by decide) (by decide)
  refine kw_aload_n (pc := 16) (i := 12) (k := 1) (n := 1) rfl rfl rfl ?_
  refine kw_iload_n (pc := 17) (i := 13) (k := 2) (n := 2) rfl rfl rfl ?_
  refine kw_iconst (pc := 18) (i := 14) (v := 2) rfl rfl ?_
  refine kw_iadd (pc := 19) (i := 15) rfl (fun z8 e_z8 t_z8 => ?_)
  replace hF := kf_le e_z8 hF
  first | (have u_z8 : z8.toInt = p.toInt + 2 := (by omega); clear t_z8) | skip
  refine kw_aload_n (pc := 20) (i := 16) (k := 0) (n := 0) rfl rfl rfl ?_
  refine kw_get (pc := 21) (i := 17) (v := .int (σ.1 0 24)) rfl rfl rfl lkX8_172 (fun _ => rfl) ?_
  have b9 := kw_rng (σ.1 0 24)
  refine kw_iast (pc := 24) (i := 18) (n := 400) rfl rfl (by omega) (by omega) ?_
  have I10 : kw_I (bM T) (kw_ui (kw_ui (kw_ui σ 15 p.toNatClampNeg (σ.1 0 22)) 15 z4.toNatClampNeg (σ.1 0 23)) 15 z8.toNatClampNeg (σ.1 0 24)) := kw_wN I6 (x := z8) (σ.1 0 24) (by omega) (by omega) (by omega) trivial
  have F11 : kw_FM [15] σ (kw_ui (kw_ui (kw_ui σ 15 p.toNatClampNeg (σ.1 0 22)) 15 z4.toNatClampNeg (σ.1 0 23)) 15 z8.toNatClampNeg (σ.1 0 24)) := kw_FM_ui F7 (by decide) (by decide)
  refine kw_aload_n (pc := 25) (i := 19) (k := 1) (n := 1) rfl rfl rfl ?_
  refine kw_iload_n (pc := 26) (i := 20) (k := 2) (n := 2) rfl rfl rfl ?_
  refine kw_iconst (pc := 27) (i := 21) (v := 3) rfl rfl ?_
  refine kw_iadd (pc := 28) (i := 22) rfl (fun z12 e_z12 t_z12 => ?_)
  replace hF := kf_le e_z12 hF
  first | (have u_z12 : z12.toInt = p.toInt + 3 := (by omega); clear t_z12) | skip
  refine kw_aload_n (pc := 29) (i := 23) (k := 0) (n := 0) rfl rfl rfl ?_
  refine kw_get (pc := 30) (i := 24) (v := .int (σ.1 0 25)) rfl rfl rfl lkX8_175 (fun _ => rfl) ?_
  have b13 : 0 ≤ (σ.1 0 25).toInt ∧ (σ.1 0 25).toInt ≤ 63 := hI 0 25
  refine kw_iast (pc := 33) (i := 25) (n := 400) rfl rfl (by omega) (by omega) ?_
  have I14 : kw_I (bM T) (kw_ui (kw_ui (kw_ui (kw_ui σ 15 p.toNatClampNeg (σ.1 0 22)) 15 z4.toNatClampNeg (σ.1 0 23)) 15 z8.toNatClampNeg (σ.1 0 24)) 15 z12.toNatClampNeg (σ.1 0 25)) := kw_wN I10 (x := z12) (σ.1 0 25) (by omega) (by omega) (by omega) trivial
  have F15 : kw_FM [15] σ (kw_ui (kw_ui (kw_ui (kw_ui σ 15 p.toNatClampNeg (σ.1 0 22)) 15 z4.toNatClampNeg (σ.1 0 23)) 15 z8.toNatClampNeg (σ.1 0 24)) 15 z12.toNatClampNeg (σ.1 0 25)) := kw_FM_ui F11 (by decide) (by decide)
  refine kw_iconst (pc := 34) (i := 26) (v := 0) rfl rfl ?_
  refine kw_istore_n (pc := 35) (i := 27) (n := 3) (lv' := [(3, .int 0), (0, .ref 0), (1, .ref 15), (2, .int p)]) rfl rfl (by decide) rfl ?_
  have L20 : ∀ (n24 : Nat) (x16 : Int32) (S17 : kw_S), kw_I (bM T) S17 → kw_FM [15] σ S17 → 0 ≤ x16.toInt → l_X8_write_0_15_36 p n24 x16 S17 = (f_X8_write_0_15 σ p) → (7 - x16.toInt).toNat < n24 → kw_AW l 1 kw_E0 KM mX8_write (p_X8_write_0_15 T σ p) 36 [(3, .int x16), (0, .ref 0), (1, .ref 15), (2, .int p)] [] S17 := by
    intro n24
    induction n24 with
    | zero => intro x16 S17 I18 F19 v22 hF m23; exact absurd m23 (Nat.not_lt_zero _)
    | succ n24 ih21 =>
      intro x16 S17 I18 F19 v22 hF m23
      replace hF := kf_st (l_X8_write_0_15_36_s _ _ _ _) hF
      have r_x16 := kw_rng x16
      refine kw_iload_n (pc := 36) (i := 28) (k := 0) (n := 3) rfl rfl rfl ?_
      refine kw_bipush (pc := 37) (i := 29) (v := 6) rfl rfl ?_
      refine kw_icmp_ge (pc := 39) (i := 30) (tgt := 61) rfl rfl (fun c25 => ?_) (fun c25 => ?_)
      · replace hF := kf_nl c25 hF
        exact kw_return (pc := 61) (i := 44) rfl rfl ⟨⟨I18, F19⟩, rfl, hF⟩
      · replace hF := kf_p c25 hF
        refine kw_aload_n (pc := 42) (i := 31) (k := 2) (n := 1) rfl rfl rfl ?_
        refine kw_iload_n (pc := 43) (i := 32) (k := 3) (n := 2) rfl rfl rfl ?_
        refine kw_iconst (pc := 44) (i := 33) (v := 4) rfl rfl ?_
        refine kw_iadd (pc := 45) (i := 34) rfl (fun z26 e_z26 t_z26 => ?_)
        replace hF := kf_le e_z26 hF
        first | (have u_z26 : z26.toInt = p.toInt + 4 := (by omega); clear t_z26) | skip
        refine kw_iload_n (pc := 46) (i := 35) (k := 0) (n := 3) rfl rfl rfl ?_
        refine kw_iadd (pc := 47) (i := 36) rfl (fun z27 e_z27 t_z27 => ?_)
        replace hF := kf_le e_z27 hF
        first | (have u_z27 : z27.toInt = z26.toInt + x16.toInt := (by omega); clear t_z27) | skip
        refine kw_aload_n (pc := 48) (i := 37) (k := 1) (n := 0) rfl rfl rfl ?_
        refine kw_get (pc := 49) (i := 38) (v := .ref 14) rfl rfl rfl lkX8_57 (fun _ => rfl) ?_
        refine kw_iload_n (pc := 52) (i := 39) (k := 0) (n := 3) rfl rfl rfl ?_
        refine kw_iald (pc := 53) (i := 40) (n := 6) rfl rfl (by omega) (by omega) (fun z28 e_z28 => ?_)
        replace hF := kf_le e_z28 hF
        have t_z28 := congrArg Int32.toInt e_z28
        have r_z28 := kw_rng z28
        refine kw_iast (pc := 54) (i := 41) (n := 400) rfl rfl (by omega) (by omega) ?_
        have I29 : kw_I (bM T) (kw_ui S17 15 z27.toNatClampNeg z28) := kw_wN I18 (x := z27) z28 (by omega) (by omega) (by omega) trivial
        have F30 : kw_FM [15] σ (kw_ui S17 15 z27.toNatClampNeg z28) := kw_FM_ui F19 (by decide) (by decide)
        refine kw_iinc' (pc := 55) (i := 42) (k := 0) (fun z => [(3, .int z), (0, .ref 0), (1, .ref 15), (2, .int p)]) rfl rfl (by decide) rfl (fun _ => rfl) (fun z31 e_z31 t_z31 => ?_)
        replace hF := kf_le e_z31 hF
        first | (have u_z31 : z31.toInt = x16.toInt + 1 := (by omega); clear t_z31) | skip
        refine kw_goto (pc := 58) (i := 43) (tgt := 36) rfl rfl ?_
        refine kw_sub (lv' := [(3, .int z31), (0, .ref 0), (1, .ref 15), (2, .int p)]) [0, 1, 2, 3] rfl ?_
        exact ih21 z31 (kw_ui S17 15 z27.toNatClampNeg z28) I29 F30 (by omega) hF (by omega)
  exact L20 _ 0 (kw_ui (kw_ui (kw_ui (kw_ui σ 15 p.toNatClampNeg (σ.1 0 22)) 15 z4.toNatClampNeg (σ.1 0 23)) 15 z8.toNatClampNeg (σ.1 0 24)) 15 z12.toNatClampNeg (σ.1 0 25)) I14 F15 (by omega) hF (Nat.lt_succ_self _)
noncomputable def l_X8_write_0_17_36 (a2 : Int32) : Nat → Int32 → kw_S → kw_S
  | 0, _, S => S
  | n + 1, x3, S => if x3.toInt < (6 : Int32).toInt then (kf_l (a2 + (4 : Int32)) fun z4 => kf_l (z4 + x3) fun z5 => kf_l (S.1 14 x3.toNatClampNeg) fun z6 => kf_l (x3 + Int32.ofInt 1) fun z7 => l_X8_write_0_17_36 a2 n z7 (kw_ui S 17 z5.toNatClampNeg z6)) else (S)
theorem l_X8_write_0_17_36_s (a2 : Int32) (n : Nat) (x3 : Int32) (S : kw_S) : l_X8_write_0_17_36 a2 (n + 1) x3 S = if x3.toInt < (6 : Int32).toInt then (kf_l (a2 + (4 : Int32)) fun z4 => kf_l (z4 + x3) fun z5 => kf_l (S.1 14 x3.toNatClampNeg) fun z6 => kf_l (x3 + Int32.ofInt 1) fun z7 => l_X8_write_0_17_36 a2 n z7 (kw_ui S 17 z5.toNatClampNeg z6)) else (S) := rfl
noncomputable def f_X8_write_0_17 (σ : kw_S) (p : Int32) : kw_S := kf_l (p + (1 : Int32)) fun z1 => kf_l (p + (2 : Int32)) fun z2 => kf_l (p + (3 : Int32)) fun z3 => l_X8_write_0_17_36 p ((7 - (0 : Int32).toInt).toNat + 1) (0 : Int32) (kw_ui (kw_ui (kw_ui (kw_ui σ 17 p.toNatClampNeg (σ.1 0 22)) 17 z1.toNatClampNeg (σ.1 0 23)) 17 z2.toNatClampNeg (σ.1 0 24)) 17 z3.toNatClampNeg (σ.1 0 25))
theorem f_X8_write_0_17_u (σ : kw_S) (p : Int32) : f_X8_write_0_17 σ p = kf_l (p + (1 : Int32)) fun z1 => kf_l (p + (2 : Int32)) fun z2 => kf_l (p + (3 : Int32)) fun z3 => l_X8_write_0_17_36 p ((7 - (0 : Int32).toInt).toNat + 1) (0 : Int32) (kw_ui (kw_ui (kw_ui (kw_ui σ 17 p.toNatClampNeg (σ.1 0 22)) 17 z1.toNatClampNeg (σ.1 0 23)) 17 z2.toNatClampNeg (σ.1 0 24)) 17 z3.toNatClampNeg (σ.1 0 25)) := rfl
abbrev p_X8_write_0_17 (T : Int) (σ : kw_S) (p : Int32) : Option Value → kw_S → Prop := fun vv σ' => (kw_I (bM T) σ' ∧ kw_FM [17] σ σ') ∧ vv = none ∧ σ' = f_X8_write_0_17 σ p
set_option maxRecDepth 100000 in
set_option maxHeartbeats 4000000 in
theorem c_X8_write_0_17 (l : Launch) (T : Int) (hT0 : 0 ≤ T) (hT1 : T ≤ 3000) (σ : kw_S) (hI : kw_I (bM T) σ) (p : Int32) (hp0 : 0 ≤ p.toInt) (hp1 : p.toInt ≤ 1222) (hp2 : p.toInt % 411 = 400) : kw_Met l 1 KM mX8_write [.ref 0, .ref 17, .int p] σ (p_X8_write_0_17 T σ p) := by
  have r_p := kw_rng p
  have hF0 : kw_FM [17] σ σ := kw_FM.rf
  have hF := (f_X8_write_0_17_u σ p).symm
  have q_0 : (0 : Int32).toInt = 0 := rfl
  have q_1 : (1 : Int32).toInt = 1 := rfl
  have q_2 : (2 : Int32).toInt = 2 := rfl
  have q_3 : (3 : Int32).toInt = 3 := rfl
  have q_4 : (4 : Int32).toInt = 4 := rfl
  have q_6 : (6 : Int32).toInt = 6 := rfl
  refine kw_Met.of (by decide) rfl tX8_write (Nat.le_of_ble_eq_true rfl) ?_
  show kw_AW l 1 kw_E0 KM mX8_write (p_X8_write_0_17 T σ p) 0 [(0, .ref 0), (1, .ref 17), (2, .int p)] [] σ
  refine kw_aload_n (pc := 0) (i := 0) (k := 1) (n := 1) rfl rfl rfl ?_
  refine kw_iload_n (pc := 1) (i := 1) (k := 2) (n := 2) rfl rfl rfl ?_
  refine kw_aload_n (pc := 2) (i := 2) (k := 0) (n := 0) rfl rfl rfl ?_
  refine kw_get (pc := 3) (i := 3) (v := .int (σ.1 0 22)) rfl rfl rfl lkX8_166 (fun _ => rfl) ?_
  have b1 : 0 ≤ (σ.1 0 22).toInt ∧ (σ.1 0 22).toInt ≤ T := hI 0 22
  refine kw_iast (pc := 6) (i := 4) (n := 1233) rfl rfl (by omega) (by omega) ?_
  have I2 : kw_I (bM T) (kw_ui σ 17 p.toNatClampNeg (σ.1 0 22)) := kw_wI hI (x := p) (σ.1 0 22) (by omega) (400) (by omega) (by omega) (by omega) (by omega)
  have F3 : kw_FM [17] σ (kw_ui σ 17 p.toNatClampNeg (σ.1 0 22)) := kw_FM_ui hF0 (by decide) (by decide)
  refine kw_aload_n (pc := 7) (i := 5) (k := 1) (n := 1) rfl rfl rfl ?_
  refine kw_iload_n (pc := 8) (i := 6) (k := 2) (n := 2) rfl rfl rfl ?_
  refine kw_iconst (pc := 9) (i := 7) (v := 1) rfl rfl ?_
  refine kw_iadd (pc := 10) (i := 8) rfl (fun z4 e_z4 t_z4 => ?_)
  replace hF := kf_le e_z4 hF
  first | (have u_z4 : z4.toInt = p.toInt + 1 := (by omega); clear t_z4) | skip
  refine kw_aload_n (pc := 11) (i := 9) (k := 0) (n := 0) rfl rfl rfl ?_
  refine kw_get (pc := 12) (i := 10) (v := .int (σ.1 0 23)) rfl rfl rfl lkX8_169 (fun _ => rfl) ?_
  have b5 := kw_rng (σ.1 0 23)
  refine kw_iast (pc := 15) (i := 11) (n := 1233) rfl rfl (by omega) (by omega) ?_
  have I6 : kw_I (bM T) (kw_ui (kw_ui σ 17 p.toNatClampNeg (σ.1 0 22)) 17 z4.toNatClampNeg (σ.1 0 23)) := kw_wI I2 (x := z4) (σ.1 0 23) (by omega) (401) (by omega) (by omega) (by omega) (by omega)
  have F7 : kw_FM [17] σ (kw_ui (kw_ui σ 17 p.toNatClampNeg (σ.1 0 22)) 17 z4.toNatClampNeg (σ.1 0 23)) := kw_FM_ui F3 (by decide) (by decide)
  refine kw_aload_n (pc := 16) (i := 12) (k := 1) (n := 1) rfl rfl rfl ?_
  refine kw_iload_n (pc := 17) (i := 13) (k := 2) (n := 2) rfl rfl rfl ?_
  refine kw_iconst (pc := 18) (i := 14) (v := 2) rfl rfl ?_
  refine kw_iadd (pc := 19) (i := 15) rfl (fun z8 e_z8 t_z8 => ?_)
  replace hF := kf_le e_z8 hF
  first | (have u_z8 : z8.toInt = p.toInt + 2 := (by omega); clear t_z8) | skip
  refine kw_aload_n (pc := 20) (i := 16) (k := 0) (n := 0) rfl rfl rfl ?_
  refine kw_get (pc := 21) (i := 17) (v := .int (σ.1 0 24)) rfl rfl rfl lkX8_172 (fun _ => rfl) ?_
  have b9 := kw_rng (σ.1 0 24)
  refine kw_iast (pc := 24) (i := 18) (n := 1233) rfl rfl (by omega) (by omega) ?_
  have I10 : kw_I (bM T) (kw_ui (kw_ui (kw_ui σ 17 p.toNatClampNeg (σ.1 0 22)) 17 z4.toNatClampNeg (σ.1 0 23)) 17 z8.toNatClampNeg (σ.1 0 24)) := kw_wI I6 (x := z8) (σ.1 0 24) (by omega) (402) (by omega) (by omega) (by omega) (by omega)
  have F11 : kw_FM [17] σ (kw_ui (kw_ui (kw_ui σ 17 p.toNatClampNeg (σ.1 0 22)) 17 z4.toNatClampNeg (σ.1 0 23)) 17 z8.toNatClampNeg (σ.1 0 24)) := kw_FM_ui F7 (by decide) (by decide)
  refine kw_aload_n (pc := 25) (i := 19) (k := 1) (n := 1) rfl rfl rfl ?_
  refine kw_iload_n (pc := 26) (i := 20) (k := 2) (n := 2) rfl rfl rfl ?_
  refine kw_iconst (pc := 27) (i := 21) (v := 3) rfl rfl ?_
  refine kw_iadd (pc := 28) (i := 22) rfl (fun z12 e_z12 t_z12 => ?_)
  replace hF := kf_le e_z12 hF
  first | (have u_z12 : z12.toInt = p.toInt + 3 := (by omega); clear t_z12) | skip
  refine kw_aload_n (pc := 29) (i := 23) (k := 0) (n := 0) rfl rfl rfl ?_
  refine kw_get (pc := 30) (i := 24) (v := .int (σ.1 0 25)) rfl rfl rfl lkX8_175 (fun _ => rfl) ?_
  have b13 : 0 ≤ (σ.1 0 25).toInt ∧ (σ.1 0 25).toInt ≤ 63 := hI 0 25
  refine kw_iast (pc := 33) (i := 25) (n := 1233) rfl rfl (by omega) (by omega) ?_
  have I14 : kw_I (bM T) (kw_ui (kw_ui (kw_ui (kw_ui σ 17 p.toNatClampNeg (σ.1 0 22)) 17 z4.toNatClampNeg (σ.1 0 23)) 17 z8.toNatClampNeg (σ.1 0 24)) 17 z12.toNatClampNeg (σ.1 0 25)) := kw_wI I10 (x := z12) (σ.1 0 25) (by omega) (403) (by omega) (by omega) (by omega) (by omega)
  have F15 : kw_FM [17] σ (kw_ui (kw_ui (kw_ui (kw_ui σ 17 p.toNatClampNeg (σ.1 0 22)) 17 z4.toNatClampNeg (σ.1 0 23)) 17 z8.toNatClampNeg (σ.1 0 24)) 17 z12.toNatClampNeg (σ.1 0 25)) := kw_FM_ui F11 (by decide) (by decide)
  refine kw_iconst (pc := 34) (i := 26) (v := 0) rfl rfl ?_
  refine kw_istore_n (pc := 35) (i := 27) (n := 3) (lv' := [(3, .int 0), (0, .ref 0), (1, .ref 17), (2, .int p)]) rfl rfl (by decide) rfl ?_
  have L20 : ∀ (n24 : Nat) (x16 : Int32) (S17 : kw_S), kw_I (bM T) S17 → kw_FM [17] σ S17 → 0 ≤ x16.toInt → l_X8_write_0_17_36 p n24 x16 S17 = (f_X8_write_0_17 σ p) → (7 - x16.toInt).toNat < n24 → kw_AW l 1 kw_E0 KM mX8_write (p_X8_write_0_17 T σ p) 36 [(3, .int x16), (0, .ref 0), (1, .ref 17), (2, .int p)] [] S17 := by
    intro n24
    induction n24 with
    | zero => intro x16 S17 I18 F19 v22 hF m23; exact absurd m23 (Nat.not_lt_zero _)
    | succ n24 ih21 =>
      intro x16 S17 I18 F19 v22 hF m23
      replace hF := kf_st (l_X8_write_0_17_36_s _ _ _ _) hF
      have r_x16 := kw_rng x16
      refine kw_iload_n (pc := 36) (i := 28) (k := 0) (n := 3) rfl rfl rfl ?_
      refine kw_bipush (pc := 37) (i := 29) (v := 6) rfl rfl ?_
      refine kw_icmp_ge (pc := 39) (i := 30) (tgt := 61) rfl rfl (fun c25 => ?_) (fun c25 => ?_)
      · replace hF := kf_nl c25 hF
        exact kw_return (pc := 61) (i := 44) rfl rfl ⟨⟨I18, F19⟩, rfl, hF⟩
      · replace hF := kf_p c25 hF
        refine kw_aload_n (pc := 42) (i := 31) (k := 2) (n := 1) rfl rfl rfl ?_
        refine kw_iload_n (pc := 43) (i := 32) (k := 3) (n := 2) rfl rfl rfl ?_
        refine kw_iconst (pc := 44) (i := 33) (v := 4) rfl rfl ?_
        refine kw_iadd (pc := 45) (i := 34) rfl (fun z26 e_z26 t_z26 => ?_)
        replace hF := kf_le e_z26 hF
        first | (have u_z26 : z26.toInt = p.toInt + 4 := (by omega); clear t_z26) | skip
        refine kw_iload_n (pc := 46) (i := 35) (k := 0) (n := 3) rfl rfl rfl ?_
        refine kw_iadd (pc := 47) (i := 36) rfl (fun z27 e_z27 t_z27 => ?_)
        replace hF := kf_le e_z27 hF
        first | (have u_z27 : z27.toInt = z26.toInt + x16.toInt := (by omega); clear t_z27) | skip
        refine kw_aload_n (pc := 48) (i := 37) (k := 1) (n := 0) rfl rfl rfl ?_
        refine kw_get (pc := 49) (i := 38) (v := .ref 14) rfl rfl rfl lkX8_57 (fun _ => rfl) ?_
        refine kw_iload_n (pc := 52) (i := 39) (k := 0) (n := 3) rfl rfl rfl ?_
        refine kw_iald (pc := 53) (i := 40) (n := 6) rfl rfl (by omega) (by omega) (fun z28 e_z28 => ?_)
        replace hF := kf_le e_z28 hF
        have t_z28 := congrArg Int32.toInt e_z28
        have r_z28 := kw_rng z28
        refine kw_iast (pc := 54) (i := 41) (n := 1233) rfl rfl (by omega) (by omega) ?_
        have I29 : kw_I (bM T) (kw_ui S17 17 z27.toNatClampNeg z28) := kw_wI I18 (x := z27) z28 (by omega) (404 + x16.toInt) (by omega) (by omega) (by omega) (by omega)
        have F30 : kw_FM [17] σ (kw_ui S17 17 z27.toNatClampNeg z28) := kw_FM_ui F19 (by decide) (by decide)
        refine kw_iinc' (pc := 55) (i := 42) (k := 0) (fun z => [(3, .int z), (0, .ref 0), (1, .ref 17), (2, .int p)]) rfl rfl (by decide) rfl (fun _ => rfl) (fun z31 e_z31 t_z31 => ?_)
        replace hF := kf_le e_z31 hF
        first | (have u_z31 : z31.toInt = x16.toInt + 1 := (by omega); clear t_z31) | skip
        refine kw_goto (pc := 58) (i := 43) (tgt := 36) rfl rfl ?_
        refine kw_sub (lv' := [(3, .int z31), (0, .ref 0), (1, .ref 17), (2, .int p)]) [0, 1, 2, 3] rfl ?_
        exact ih21 z31 (kw_ui S17 17 z27.toNatClampNeg z28) I29 F30 (by omega) hF (by omega)
  exact L20 _ 0 (kw_ui (kw_ui (kw_ui (kw_ui σ 17 p.toNatClampNeg (σ.1 0 22)) 17 z4.toNatClampNeg (σ.1 0 23)) 17 z8.toNatClampNeg (σ.1 0 24)) 17 z12.toNatClampNeg (σ.1 0 25)) I14 F15 (by omega) hF (Nat.lt_succ_self _)
noncomputable def l_X8_read_0_15_36 (a2 : Int32) : Nat → Int32 → kw_S → kw_S
  | 0, _, S => S
  | n + 1, x3, S => if x3.toInt < (6 : Int32).toInt then (kf_l (a2 + (4 : Int32)) fun z8 => kf_l (z8 + x3) fun z9 => kf_l (S.1 15 z9.toNatClampNeg) fun z10 => kf_l (x3 + Int32.ofInt 1) fun z11 => l_X8_read_0_15_36 a2 n z11 (kw_ui S 14 x3.toNatClampNeg z10)) else (S)
theorem l_X8_read_0_15_36_s (a2 : Int32) (n : Nat) (x3 : Int32) (S : kw_S) : l_X8_read_0_15_36 a2 (n + 1) x3 S = if x3.toInt < (6 : Int32).toInt then (kf_l (a2 + (4 : Int32)) fun z8 => kf_l (z8 + x3) fun z9 => kf_l (S.1 15 z9.toNatClampNeg) fun z10 => kf_l (x3 + Int32.ofInt 1) fun z11 => l_X8_read_0_15_36 a2 n z11 (kw_ui S 14 x3.toNatClampNeg z10)) else (S) := rfl
noncomputable def f_X8_read_0_15 (σ : kw_S) (p : Int32) : kw_S := kf_l (σ.1 15 p.toNatClampNeg) fun z1 => kf_l (p + (1 : Int32)) fun z2 => kf_l ((kw_ui σ 0 22 z1).1 15 z2.toNatClampNeg) fun z3 => kf_l (p + (2 : Int32)) fun z4 => kf_l ((kw_ui (kw_ui σ 0 22 z1) 0 23 z3).1 15 z4.toNatClampNeg) fun z5 => kf_l (p + (3 : Int32)) fun z6 => kf_l ((kw_ui (kw_ui (kw_ui σ 0 22 z1) 0 23 z3) 0 24 z5).1 15 z6.toNatClampNeg) fun z7 => l_X8_read_0_15_36 p ((7 - (0 : Int32).toInt).toNat + 1) (0 : Int32) (kw_ui (kw_ui (kw_ui (kw_ui σ 0 22 z1) 0 23 z3) 0 24 z5) 0 25 z7)
theorem f_X8_read_0_15_u (σ : kw_S) (p : Int32) : f_X8_read_0_15 σ p = kf_l (σ.1 15 p.toNatClampNeg) fun z1 => kf_l (p + (1 : Int32)) fun z2 => kf_l ((kw_ui σ 0 22 z1).1 15 z2.toNatClampNeg) fun z3 => kf_l (p + (2 : Int32)) fun z4 => kf_l ((kw_ui (kw_ui σ 0 22 z1) 0 23 z3).1 15 z4.toNatClampNeg) fun z5 => kf_l (p + (3 : Int32)) fun z6 => kf_l ((kw_ui (kw_ui (kw_ui σ 0 22 z1) 0 23 z3) 0 24 z5).1 15 z6.toNatClampNeg) fun z7 => l_X8_read_0_15_36 p ((7 - (0 : Int32).toInt).toNat + 1) (0 : Int32) (kw_ui (kw_ui (kw_ui (kw_ui σ 0 22 z1) 0 23 z3) 0 24 z5) 0 25 z7) := rfl
abbrev p_X8_read_0_15 (T : Int) (σ : kw_S) (p : Int32) : Option Value → kw_S → Prop := fun vv σ' => (kw_I (bM T) σ' ∧ kw_FM [14, 1022, 1023, 1024, 1025] σ σ') ∧ vv = none ∧ (σ'.1 0 10).toInt = (σ.1 0 10).toInt ∧ (σ'.1 0 27).toInt = (σ.1 0 27).toInt ∧ σ' = f_X8_read_0_15 σ p
set_option maxRecDepth 100000 in
set_option maxHeartbeats 4000000 in
theorem c_X8_read_0_15 (l : Launch) (T : Int) (hT0 : 0 ≤ T) (hT1 : T ≤ 3000) (σ : kw_S) (hI : kw_I (bM T) σ) (p : Int32) (hp0 : 0 ≤ p.toInt) (hp1 : p.toInt ≤ 390) (hp2 : p.toInt % 10 = 0) : kw_Met l 1 KM mX8_read [.ref 0, .ref 15, .int p] σ (p_X8_read_0_15 T σ p) := by
  have r_p := kw_rng p
  have hF0 : kw_FM [14, 1022, 1023, 1024, 1025] σ σ := kw_FM.rf
  have hF := (f_X8_read_0_15_u σ p).symm
  have q_0 : (0 : Int32).toInt = 0 := rfl
  have q_1 : (1 : Int32).toInt = 1 := rfl
  have q_2 : (2 : Int32).toInt = 2 := rfl
  have q_3 : (3 : Int32).toInt = 3 := rfl
  have q_4 : (4 : Int32).toInt = 4 := rfl
  have q_6 : (6 : Int32).toInt = 6 := rfl
  refine kw_Met.of (by decide) rfl tX8_read (Nat.le_of_ble_eq_true rfl) ?_
  show kw_AW l 1 kw_E0 KM mX8_read (p_X8_read_0_15 T σ p) 0 [(0, .ref 0), (1, .ref 15), (2, .int p)] [] σ
  refine kw_aload_n (pc := 0) (i := 0) (k := 0) (n := 0) rfl rfl rfl ?_
  refine kw_aload_n (pc := 1) (i := 1) (k := 1) (n := 1) rfl rfl rfl ?_
  refine kw_iload_n (pc := 2) (i := 2) (k := 2) (n := 2) rfl rfl rfl ?_
  refine kw_iald (pc := 3) (i := 3) (n := 400) rfl rfl (by omega) (by omega) (fun z1 e_z1 => ?_)
  replace hF := kf_le e_z1 hF
  have t_z1 := congrArg Int32.toInt e_z1
  have r_z1 := kw_rng z1
  have b_z1 := kw_rN hI (x := p) z1 e_z1 (by omega)
  refine kw_puti (pc := 4) (i := 4) (z := 0) rfl rfl rfl lpX8_166 rfl rfl ?_
  have I2 : kw_I (bM T) (kw_ui σ 0 22 z1) := kw_I_ui hI (show 0 ≤ z1.toInt by omega) (show z1.toInt ≤ T by omega)
  have F3 : kw_FM [14, 1022, 1023, 1024, 1025] σ (kw_ui σ 0 22 z1) := kw_FM_ui0 hF0 (by decide)
  refine kw_aload_n (pc := 7) (i := 5) (k := 0) (n := 0) rfl rfl rfl ?_
  refine kw_aload_n (pc := 8) (i := 6) (k := 1) (n := 1) rfl rfl rfl ?_
  refine kw_iload_n (pc := 9) (i := 7) (k := 2) (n := 2) rfl rfl rfl ?_
  refine kw_iconst (pc := 10) (i := 8) (v := 1) rfl rfl ?_
  refine kw_iadd (pc := 11) (i := 9) rfl (fun z4 e_z4 t_z4 => ?_)
  replace hF := kf_le e_z4 hF
  first | (have u_z4 : z4.toInt = p.toInt + 1 := (by omega); clear t_z4) | skip
  refine kw_iald (pc := 12) (i := 10) (n := 400) rfl rfl (by omega) (by omega) (fun z5 e_z5 => ?_)
  replace hF := kf_le e_z5 hF
  have t_z5 := congrArg Int32.toInt e_z5
  have r_z5 := kw_rng z5
  have b_z5 := kw_rN I2 (x := z4) z5 e_z5 (by omega)
  refine kw_puti (pc := 13) (i := 11) (z := 0) rfl rfl rfl lpX8_169 rfl rfl ?_
  have I6 : kw_I (bM T) (kw_ui (kw_ui σ 0 22 z1) 0 23 z5) := kw_I_ui I2 (kw_rng z5).1 (Int.le_of_lt_add_one (kw_rng z5).2)
  have F7 : kw_FM [14, 1022, 1023, 1024, 1025] σ (kw_ui (kw_ui σ 0 22 z1) 0 23 z5) := kw_FM_ui0 F3 (by decide)
  refine kw_aload_n (pc := 16) (i := 12) (k := 0) (n := 0) rfl rfl rfl ?_
  refine kw_aload_n (pc := 17) (i := 13) (k := 1) (n := 1) rfl rfl rfl ?_
  refine kw_iload_n (pc := 18) (i := 14) (k := 2) (n := 2) rfl rfl rfl ?_
  refine kw_iconst (pc := 19) (i := 15) (v := 2) rfl rfl ?_
  refine kw_iadd (pc := 20) (i := 16) rfl (fun z8 e_z8 t_z8 => ?_)
  replace hF := kf_le e_z8 hF
  first | (have u_z8 : z8.toInt = p.toInt + 2 := (by omega); clear t_z8) | skip
  refine kw_iald (pc := 21) (i := 17) (n := 400) rfl rfl (by omega) (by omega) (fun z9 e_z9 => ?_)
  replace hF := kf_le e_z9 hF
  have t_z9 := congrArg Int32.toInt e_z9
  have r_z9 := kw_rng z9
  have b_z9 := kw_rN I6 (x := z8) z9 e_z9 (by omega)
  refine kw_puti (pc := 22) (i := 18) (z := 0) rfl rfl rfl lpX8_172 rfl rfl ?_
  have I10 : kw_I (bM T) (kw_ui (kw_ui (kw_ui σ 0 22 z1) 0 23 z5) 0 24 z9) := kw_I_ui I6 (kw_rng z9).1 (Int.le_of_lt_add_one (kw_rng z9).2)
  have F11 : kw_FM [14, 1022, 1023, 1024, 1025] σ (kw_ui (kw_ui (kw_ui σ 0 22 z1) 0 23 z5) 0 24 z9) := kw_FM_ui0 F7 (by decide)
  refine kw_aload_n (pc := 25) (i := 19) (k := 0) (n := 0) rfl rfl rfl ?_
  refine kw_aload_n (pc := 26) (i := 20) (k := 1) (n := 1) rfl rfl rfl ?_
  refine kw_iload_n (pc := 27) (i := 21) (k := 2) (n := 2) rfl rfl rfl ?_
  refine kw_iconst (pc := 28) (i := 22) (v := 3) rfl rfl ?_
  refine kw_iadd (pc := 29) (i := 23) rfl (fun z12 e_z12 t_z12 => ?_)
  replace hF := kf_le e_z12 hF
  first | (have u_z12 : z12.toInt = p.toInt + 3 := (by omega); clear t_z12) | skip
  refine kw_iald (pc := 30) (i := 24) (n := 400) rfl rfl (by omega) (by omega) (fun z13 e_z13 => ?_)
  replace hF := kf_le e_z13 hF
  have t_z13 := congrArg Int32.toInt e_z13
  have r_z13 := kw_rng z13
  have b_z13 := kw_rN I10 (x := z12) z13 e_z13 (by omega)
  refine kw_puti (pc := 31) (i := 25) (z := 0) rfl rfl rfl lpX8_175 rfl rfl ?_
  have I14 : kw_I (bM T) (kw_ui (kw_ui (kw_ui (kw_ui σ 0 22 z1) 0 23 z5) 0 24 z9) 0 25 z13) := kw_I_ui I10 (show 0 ≤ z13.toInt by omega) (show z13.toInt ≤ 63 by omega)
  have F15 : kw_FM [14, 1022, 1023, 1024, 1025] σ (kw_ui (kw_ui (kw_ui (kw_ui σ 0 22 z1) 0 23 z5) 0 24 z9) 0 25 z13) := kw_FM_ui0 F11 (by decide)
  refine kw_iconst (pc := 34) (i := 26) (v := 0) rfl rfl ?_
  refine kw_istore_n (pc := 35) (i := 27) (n := 3) (lv' := [(3, .int 0), (0, .ref 0), (1, .ref 15), (2, .int p)]) rfl rfl (by decide) rfl ?_
  have L20 : ∀ (n26 : Nat) (x16 : Int32) (S17 : kw_S), kw_I (bM T) S17 → kw_FM [14, 1022, 1023, 1024, 1025] σ S17 → 0 ≤ x16.toInt → (S17.1 0 10).toInt = (σ.1 0 10).toInt → (S17.1 0 27).toInt = (σ.1 0 27).toInt → l_X8_read_0_15_36 p n26 x16 S17 = (f_X8_read_0_15 σ p) → (7 - x16.toInt).toNat < n26 → kw_AW l 1 kw_E0 KM mX8_read (p_X8_read_0_15 T σ p) 36 [(3, .int x16), (0, .ref 0), (1, .ref 15), (2, .int p)] [] S17 := by
    intro n26
    induction n26 with
    | zero => intro x16 S17 I18 F19 v22 v23 v24 hF m25; exact absurd m25 (Nat.not_lt_zero _)
    | succ n26 ih21 =>
      intro x16 S17 I18 F19 v22 v23 v24 hF m25
      replace hF := kf_st (l_X8_read_0_15_36_s _ _ _ _) hF
      have r_x16 := kw_rng x16
      refine kw_iload_n (pc := 36) (i := 28) (k := 0) (n := 3) rfl rfl rfl ?_
      refine kw_bipush (pc := 37) (i := 29) (v := 6) rfl rfl ?_
      refine kw_icmp_ge (pc := 39) (i := 30) (tgt := 61) rfl rfl (fun c27 => ?_) (fun c27 => ?_)
      · replace hF := kf_nl c27 hF
        exact kw_return (pc := 61) (i := 44) rfl rfl ⟨⟨I18, F19⟩, rfl, (show (S17.1 0 10).toInt = (σ.1 0 10).toInt from by omega), (show (S17.1 0 27).toInt = (σ.1 0 27).toInt from by omega), hF⟩
      · replace hF := kf_p c27 hF
        refine kw_aload_n (pc := 42) (i := 31) (k := 1) (n := 0) rfl rfl rfl ?_
        refine kw_get (pc := 43) (i := 32) (v := .ref 14) rfl rfl rfl lkX8_57 (fun _ => rfl) ?_
        refine kw_iload_n (pc := 46) (i := 33) (k := 0) (n := 3) rfl rfl rfl ?_
        refine kw_aload_n (pc := 47) (i := 34) (k := 2) (n := 1) rfl rfl rfl ?_
        refine kw_iload_n (pc := 48) (i := 35) (k := 3) (n := 2) rfl rfl rfl ?_
        refine kw_iconst (pc := 49) (i := 36) (v := 4) rfl rfl ?_
        refine kw_iadd (pc := 50) (i := 37) rfl (fun z28 e_z28 t_z28 => ?_)
        replace hF := kf_le e_z28 hF
        first | (have u_z28 : z28.toInt = p.toInt + 4 := (by omega); clear t_z28) | skip
        refine kw_iload_n (pc := 51) (i := 38) (k := 0) (n := 3) rfl rfl rfl ?_
        refine kw_iadd (pc := 52) (i := 39) rfl (fun z29 e_z29 t_z29 => ?_)
        replace hF := kf_le e_z29 hF
        first | (have u_z29 : z29.toInt = z28.toInt + x16.toInt := (by omega); clear t_z29) | skip
        refine kw_iald (pc := 53) (i := 40) (n := 400) rfl rfl (by omega) (by omega) (fun z30 e_z30 => ?_)
        replace hF := kf_le e_z30 hF
        have t_z30 := congrArg Int32.toInt e_z30
        have r_z30 := kw_rng z30
        have b_z30 := kw_rN I18 (x := z29) z30 e_z30 (by omega)
        refine kw_iast (pc := 54) (i := 41) (n := 6) rfl rfl (by omega) (by omega) ?_
        have I31 : kw_I (bM T) (kw_ui S17 14 x16.toNatClampNeg z30) := kw_I_ui I18 (kw_rng z30).1 (Int.le_of_lt_add_one (kw_rng z30).2)
        have F32 : kw_FM [14, 1022, 1023, 1024, 1025] σ (kw_ui S17 14 x16.toNatClampNeg z30) := kw_FM_ui F19 (by decide) (by decide)
        refine kw_iinc' (pc := 55) (i := 42) (k := 0) (fun z => [(3, .int z), (0, .ref 0), (1, .ref 15), (2, .int p)]) rfl rfl (by decide) rfl (fun _ => rfl) (fun z33 e_z33 t_z33 => ?_)
        replace hF := kf_le e_z33 hF
        first | (have u_z33 : z33.toInt = x16.toInt + 1 := (by omega); clear t_z33) | skip
        refine kw_goto (pc := 58) (i := 43) (tgt := 36) rfl rfl ?_
        refine kw_sub (lv' := [(3, .int z33), (0, .ref 0), (1, .ref 15), (2, .int p)]) [0, 1, 2, 3] rfl ?_
        exact ih21 z33 (kw_ui S17 14 x16.toNatClampNeg z30) I31 F32 (by omega) (show (S17.1 0 10).toInt = (σ.1 0 10).toInt from by omega) (show (S17.1 0 27).toInt = (σ.1 0 27).toInt from by omega) hF (by omega)
  exact L20 _ 0 (kw_ui (kw_ui (kw_ui (kw_ui σ 0 22 z1) 0 23 z5) 0 24 z9) 0 25 z13) I14 F15 (by omega) (show (σ.1 0 10).toInt = (σ.1 0 10).toInt from by omega) (show (σ.1 0 27).toInt = (σ.1 0 27).toInt from by omega) hF (Nat.lt_succ_self _)
noncomputable def l_X8_read_0_17_36 (a2 : Int32) : Nat → Int32 → kw_S → kw_S
  | 0, _, S => S
  | n + 1, x3, S => if x3.toInt < (6 : Int32).toInt then (kf_l (a2 + (4 : Int32)) fun z8 => kf_l (z8 + x3) fun z9 => kf_l (S.1 17 z9.toNatClampNeg) fun z10 => kf_l (x3 + Int32.ofInt 1) fun z11 => l_X8_read_0_17_36 a2 n z11 (kw_ui S 14 x3.toNatClampNeg z10)) else (S)
theorem l_X8_read_0_17_36_s (a2 : Int32) (n : Nat) (x3 : Int32) (S : kw_S) : l_X8_read_0_17_36 a2 (n + 1) x3 S = if x3.toInt < (6 : Int32).toInt then (kf_l (a2 + (4 : Int32)) fun z8 => kf_l (z8 + x3) fun z9 => kf_l (S.1 17 z9.toNatClampNeg) fun z10 => kf_l (x3 + Int32.ofInt 1) fun z11 => l_X8_read_0_17_36 a2 n z11 (kw_ui S 14 x3.toNatClampNeg z10)) else (S) := rfl
noncomputable def f_X8_read_0_17 (σ : kw_S) (p : Int32) : kw_S := kf_l (σ.1 17 p.toNatClampNeg) fun z1 => kf_l (p + (1 : Int32)) fun z2 => kf_l ((kw_ui σ 0 22 z1).1 17 z2.toNatClampNeg) fun z3 => kf_l (p + (2 : Int32)) fun z4 => kf_l ((kw_ui (kw_ui σ 0 22 z1) 0 23 z3).1 17 z4.toNatClampNeg) fun z5 => kf_l (p + (3 : Int32)) fun z6 => kf_l ((kw_ui (kw_ui (kw_ui σ 0 22 z1) 0 23 z3) 0 24 z5).1 17 z6.toNatClampNeg) fun z7 => l_X8_read_0_17_36 p ((7 - (0 : Int32).toInt).toNat + 1) (0 : Int32) (kw_ui (kw_ui (kw_ui (kw_ui σ 0 22 z1) 0 23 z3) 0 24 z5) 0 25 z7)
theorem f_X8_read_0_17_u (σ : kw_S) (p : Int32) : f_X8_read_0_17 σ p = kf_l (σ.1 17 p.toNatClampNeg) fun z1 => kf_l (p + (1 : Int32)) fun z2 => kf_l ((kw_ui σ 0 22 z1).1 17 z2.toNatClampNeg) fun z3 => kf_l (p + (2 : Int32)) fun z4 => kf_l ((kw_ui (kw_ui σ 0 22 z1) 0 23 z3).1 17 z4.toNatClampNeg) fun z5 => kf_l (p + (3 : Int32)) fun z6 => kf_l ((kw_ui (kw_ui (kw_ui σ 0 22 z1) 0 23 z3) 0 24 z5).1 17 z6.toNatClampNeg) fun z7 => l_X8_read_0_17_36 p ((7 - (0 : Int32).toInt).toNat + 1) (0 : Int32) (kw_ui (kw_ui (kw_ui (kw_ui σ 0 22 z1) 0 23 z3) 0 24 z5) 0 25 z7) := rfl
abbrev p_X8_read_0_17 (T : Int) (σ : kw_S) (p : Int32) : Option Value → kw_S → Prop := fun vv σ' => (kw_I (bM T) σ' ∧ kw_FM [14, 1022, 1023, 1024, 1025] σ σ') ∧ vv = none ∧ (σ'.1 0 10).toInt = (σ.1 0 10).toInt ∧ (σ'.1 0 27).toInt = (σ.1 0 27).toInt ∧ σ' = f_X8_read_0_17 σ p
set_option maxRecDepth 100000 in
set_option maxHeartbeats 4000000 in
theorem c_X8_read_0_17 (l : Launch) (T : Int) (hT0 : 0 ≤ T) (hT1 : T ≤ 3000) (σ : kw_S) (hI : kw_I (bM T) σ) (p : Int32) (hp0 : 0 ≤ p.toInt) (hp1 : p.toInt ≤ 1222) (hp2 : p.toInt % 411 = 400) : kw_Met l 1 KM mX8_read [.ref 0, .ref 17, .int p] σ (p_X8_read_0_17 T σ p) := by
  have r_p := kw_rng p
  have hF0 : kw_FM [14, 1022, 1023, 1024, 1025] σ σ := kw_FM.rf
  have hF := (f_X8_read_0_17_u σ p).symm
  have q_0 : (0 : Int32).toInt = 0 := rfl
  have q_1 : (1 : Int32).toInt = 1 := rfl
  have q_2 : (2 : Int32).toInt = 2 := rfl
  have q_3 : (3 : Int32).toInt = 3 := rfl
  have q_4 : (4 : Int32).toInt = 4 := rfl
  have q_6 : (6 : Int32).toInt = 6 := rfl
  refine kw_Met.of (by decide) rfl tX8_read (Nat.le_of_ble_eq_true rfl) ?_
  show kw_AW l 1 kw_E0 KM mX8_read (p_X8_read_0_17 T σ p) 0 [(0, .ref 0), (1, .ref 17), (2, .int p)] [] σ
  refine kw_aload_n (pc := 0) (i := 0) (k := 0) (n := 0) rfl rfl rfl ?_
  refine kw_aload_n (pc := 1) (i := 1) (k := 1) (n := 1) rfl rfl rfl ?_
  refine kw_iload_n (pc := 2) (i := 2) (k := 2) (n := 2) rfl rfl rfl ?_
  refine kw_iald (pc := 3) (i := 3) (n := 1233) rfl rfl (by omega) (by omega) (fun z1 e_z1 => ?_)
  replace hF := kf_le e_z1 hF
  have t_z1 := congrArg Int32.toInt e_z1
  have r_z1 := kw_rng z1
  have b_z1 := kw_rI hI (x := p) z1 e_z1 (by omega) (400) (by omega)
  refine kw_puti (pc := 4) (i := 4) (z := 0) rfl rfl rfl lpX8_166 rfl rfl ?_
  have I2 : kw_I (bM T) (kw_ui σ 0 22 z1) := kw_I_ui hI (show 0 ≤ z1.toInt by omega) (show z1.toInt ≤ T by omega)
  have F3 : kw_FM [14, 1022, 1023, 1024, 1025] σ (kw_ui σ 0 22 z1) := kw_FM_ui0 hF0 (by decide)
  refine kw_aload_n (pc := 7) (i := 5) (k := 0) (n := 0) rfl rfl rfl ?_
  refine kw_aload_n (pc := 8) (i := 6) (k := 1) (n := 1) rfl rfl rfl ?_
  refine kw_iload_n (pc := 9) (i := 7) (k := 2) (n := 2) rfl rfl rfl ?_
  refine kw_iconst (pc := 10) (i := 8) (v := 1) rfl rfl ?_
  refine kw_iadd (pc := 11) (i := 9) rfl (fun z4 e_z4 t_z4 => ?_)
  replace hF := kf_le e_z4 hF
  first | (have u_z4 : z4.toInt = p.toInt + 1 := (by omega); clear t_z4) | skip
  refine kw_iald (pc := 12) (i := 10) (n := 1233) rfl rfl (by omega) (by omega) (fun z5 e_z5 => ?_)
  replace hF := kf_le e_z5 hF
  have t_z5 := congrArg Int32.toInt e_z5
  have r_z5 := kw_rng z5
  have b_z5 := kw_rI I2 (x := z4) z5 e_z5 (by omega) (401) (by omega)
  refine kw_puti (pc := 13) (i := 11) (z := 0) rfl rfl rfl lpX8_169 rfl rfl ?_
  have I6 : kw_I (bM T) (kw_ui (kw_ui σ 0 22 z1) 0 23 z5) := kw_I_ui I2 (kw_rng z5).1 (Int.le_of_lt_add_one (kw_rng z5).2)
  have F7 : kw_FM [14, 1022, 1023, 1024, 1025] σ (kw_ui (kw_ui σ 0 22 z1) 0 23 z5) := kw_FM_ui0 F3 (by decide)
  refine kw_aload_n (pc := 16) (i := 12) (k := 0) (n := 0) rfl rfl rfl ?_
  refine kw_aload_n (pc := 17) (i := 13) (k := 1) (n := 1) rfl rfl rfl ?_
  refine kw_iload_n (pc := 18) (i := 14) (k := 2) (n := 2) rfl rfl rfl ?_
  refine kw_iconst (pc := 19) (i := 15) (v := 2) rfl rfl ?_
  refine kw_iadd (pc := 20) (i := 16) rfl (fun z8 e_z8 t_z8 => ?_)
  replace hF := kf_le e_z8 hF
  first | (have u_z8 : z8.toInt = p.toInt + 2 := (by omega); clear t_z8) | skip
  refine kw_iald (pc := 21) (i := 17) (n := 1233) rfl rfl (by omega) (by omega) (fun z9 e_z9 => ?_)
  replace hF := kf_le e_z9 hF
  have t_z9 := congrArg Int32.toInt e_z9
  have r_z9 := kw_rng z9
  have b_z9 := kw_rI I6 (x := z8) z9 e_z9 (by omega) (402) (by omega)
  refine kw_puti (pc := 22) (i := 18) (z := 0) rfl rfl rfl lpX8_172 rfl rfl ?_
  have I10 : kw_I (bM T) (kw_ui (kw_ui (kw_ui σ 0 22 z1) 0 23 z5) 0 24 z9) := kw_I_ui I6 (kw_rng z9).1 (Int.le_of_lt_add_one (kw_rng z9).2)
  have F11 : kw_FM [14, 1022, 1023, 1024, 1025] σ (kw_ui (kw_ui (kw_ui σ 0 22 z1) 0 23 z5) 0 24 z9) := kw_FM_ui0 F7 (by decide)
  refine kw_aload_n (pc := 25) (i := 19) (k := 0) (n := 0) rfl rfl rfl ?_
  refine kw_aload_n (pc := 26) (i := 20) (k := 1) (n := 1) rfl rfl rfl ?_
  refine kw_iload_n (pc := 27) (i := 21) (k := 2) (n := 2) rfl rfl rfl ?_
  refine kw_iconst (pc := 28) (i := 22) (v := 3) rfl rfl ?_
  refine kw_iadd (pc := 29) (i := 23) rfl (fun z12 e_z12 t_z12 => ?_)
  replace hF := kf_le e_z12 hF
  first | (have u_z12 : z12.toInt = p.toInt + 3 := (by omega); clear t_z12) | skip
  refine kw_iald (pc := 30) (i := 24) (n := 1233) rfl rfl (by omega) (by omega) (fun z13 e_z13 => ?_)
  replace hF := kf_le e_z13 hF
  have t_z13 := congrArg Int32.toInt e_z13
  have r_z13 := kw_rng z13
  have b_z13 := kw_rI I10 (x := z12) z13 e_z13 (by omega) (403) (by omega)
  refine kw_puti (pc := 31) (i := 25) (z := 0) rfl rfl rfl lpX8_175 rfl rfl ?_
  have I14 : kw_I (bM T) (kw_ui (kw_ui (kw_ui (kw_ui σ 0 22 z1) 0 23 z5) 0 24 z9) 0 25 z13) := kw_I_ui I10 (show 0 ≤ z13.toInt by omega) (show z13.toInt ≤ 63 by omega)
  have F15 : kw_FM [14, 1022, 1023, 1024, 1025] σ (kw_ui (kw_ui (kw_ui (kw_ui σ 0 22 z1) 0 23 z5) 0 24 z9) 0 25 z13) := kw_FM_ui0 F11 (by decide)
  refine kw_iconst (pc := 34) (i := 26) (v := 0) rfl rfl ?_
  refine kw_istore_n (pc := 35) (i := 27) (n := 3) (lv' := [(3, .int 0), (0, .ref 0), (1, .ref 17), (2, .int p)]) rfl rfl (by decide) rfl ?_
  have L20 : ∀ (n26 : Nat) (x16 : Int32) (S17 : kw_S), kw_I (bM T) S17 → kw_FM [14, 1022, 1023, 1024, 1025] σ S17 → 0 ≤ x16.toInt → (S17.1 0 10).toInt = (σ.1 0 10).toInt → (S17.1 0 27).toInt = (σ.1 0 27).toInt → l_X8_read_0_17_36 p n26 x16 S17 = (f_X8_read_0_17 σ p) → (7 - x16.toInt).toNat < n26 → kw_AW l 1 kw_E0 KM mX8_read (p_X8_read_0_17 T σ p) 36 [(3, .int x16), (0, .ref 0), (1, .ref 17), (2, .int p)] [] S17 := by
    intro n26
    induction n26 with
    | zero => intro x16 S17 I18 F19 v22 v23 v24 hF m25; exact absurd m25 (Nat.not_lt_zero _)
    | succ n26 ih21 =>
      intro x16 S17 I18 F19 v22 v23 v24 hF m25
      replace hF := kf_st (l_X8_read_0_17_36_s _ _ _ _) hF
      have r_x16 := kw_rng x16
      refine kw_iload_n (pc := 36) (i := 28) (k := 0) (n := 3) rfl rfl rfl ?_
      refine kw_bipush (pc := 37) (i := 29) (v := 6) rfl rfl ?_
      refine kw_icmp_ge (pc := 39) (i := 30) (tgt := 61) rfl rfl (fun c27 => ?_) (fun c27 => ?_)
      · replace hF := kf_nl c27 hF
        exact kw_return (pc := 61) (i := 44) rfl rfl ⟨⟨I18, F19⟩, rfl, (show (S17.1 0 10).toInt = (σ.1 0 10).toInt from by omega), (show (S17.1 0 27).toInt = (σ.1 0 27).toInt from by omega), hF⟩
      · replace hF := kf_p c27 hF
        refine kw_aload_n (pc := 42) (i := 31) (k := 1) (n := 0) rfl rfl rfl ?_
        refine kw_get (pc := 43) (i := 32) (v := .ref 14) rfl rfl rfl lkX8_57 (fun _ => rfl) ?_
        refine kw_iload_n (pc := 46) (i := 33) (k := 0) (n := 3) rfl rfl rfl ?_
        refine kw_aload_n (pc := 47) (i := 34) (k := 2) (n := 1) rfl rfl rfl ?_
        refine kw_iload_n (pc := 48) (i := 35) (k := 3) (n := 2) rfl rfl rfl ?_
        refine kw_iconst (pc := 49) (i := 36) (v := 4) rfl rfl ?_
        refine kw_iadd (pc := 50) (i := 37) rfl (fun z28 e_z28 t_z28 => ?_)
        replace hF := kf_le e_z28 hF
        first | (have u_z28 : z28.toInt = p.toInt + 4 := (by omega); clear t_z28) | skip
        refine kw_iload_n (pc := 51) (i := 38) (k := 0) (n := 3) rfl rfl rfl ?_
        refine kw_iadd (pc := 52) (i := 39) rfl (fun z29 e_z29 t_z29 => ?_)
        replace hF := kf_le e_z29 hF
        first | (have u_z29 : z29.toInt = z28.toInt + x16.toInt := (by omega); clear t_z29) | skip
        refine kw_iald (pc := 53) (i := 40) (n := 1233) rfl rfl (by omega) (by omega) (fun z30 e_z30 => ?_)
        replace hF := kf_le e_z30 hF
        have t_z30 := congrArg Int32.toInt e_z30
        have r_z30 := kw_rng z30
        have b_z30 := kw_rI I18 (x := z29) z30 e_z30 (by omega) (404 + x16.toInt) (by omega)
        refine kw_iast (pc := 54) (i := 41) (n := 6) rfl rfl (by omega) (by omega) ?_
        have I31 : kw_I (bM T) (kw_ui S17 14 x16.toNatClampNeg z30) := kw_I_ui I18 (kw_rng z30).1 (Int.le_of_lt_add_one (kw_rng z30).2)
        have F32 : kw_FM [14, 1022, 1023, 1024, 1025] σ (kw_ui S17 14 x16.toNatClampNeg z30) := kw_FM_ui F19 (by decide) (by decide)
        refine kw_iinc' (pc := 55) (i := 42) (k := 0) (fun z => [(3, .int z), (0, .ref 0), (1, .ref 17), (2, .int p)]) rfl rfl (by decide) rfl (fun _ => rfl) (fun z33 e_z33 t_z33 => ?_)
        replace hF := kf_le e_z33 hF
        first | (have u_z33 : z33.toInt = x16.toInt + 1 := (by omega); clear t_z33) | skip
        refine kw_goto (pc := 58) (i := 43) (tgt := 36) rfl rfl ?_
        refine kw_sub (lv' := [(3, .int z33), (0, .ref 0), (1, .ref 17), (2, .int p)]) [0, 1, 2, 3] rfl ?_
        exact ih21 z33 (kw_ui S17 14 x16.toNatClampNeg z30) I31 F32 (by omega) (show (S17.1 0 10).toInt = (σ.1 0 10).toInt from by omega) (show (S17.1 0 27).toInt = (σ.1 0 27).toInt from by omega) hF (by omega)
  exact L20 _ 0 (kw_ui (kw_ui (kw_ui (kw_ui σ 0 22 z1) 0 23 z5) 0 24 z9) 0 25 z13) I14 F15 (by omega) (show (σ.1 0 10).toInt = (σ.1 0 10).toInt from by omega) (show (σ.1 0 27).toInt = (σ.1 0 27).toInt from by omega) hF (Nat.lt_succ_self _)
noncomputable def f_X8_note_0 (σ : kw_S)  : kw_S := kf_l ((10 : Int32) * (σ.1 0 27)) fun z1 => kf_l (f_X8_write_0_15 σ z1) fun S2 => kf_l ((S2.1 0 27) + (1 : Int32)) fun z3 => kw_ui S2 0 27 z3
theorem f_X8_note_0_u (σ : kw_S)  : f_X8_note_0 σ  = kf_l ((10 : Int32) * (σ.1 0 27)) fun z1 => kf_l (f_X8_write_0_15 σ z1) fun S2 => kf_l ((S2.1 0 27) + (1 : Int32)) fun z3 => kw_ui S2 0 27 z3 := rfl
abbrev p_X8_note_0 (T : Int) (σ : kw_S)  : Option Value → kw_S → Prop := fun vv σ' => (kw_I (bM T) σ' ∧ kw_FM [15, 1027] σ σ') ∧ vv = none ∧ (σ'.1 0 27).toInt = (σ.1 0 27).toInt + 1 ∧ (σ'.1 0 10).toInt = (σ.1 0 10).toInt ∧ (σ'.1 0 22).toInt = (σ.1 0 22).toInt ∧ (σ'.1 0 25).toInt = (σ.1 0 25).toInt ∧ σ' = f_X8_note_0 σ
set_option maxRecDepth 100000 in
set_option maxHeartbeats 4000000 in
theorem c_X8_note_0 (l : Launch) (T : Int) (hT0 : 0 ≤ T) (hT1 : T ≤ 3000) (σ : kw_S) (hI : kw_I (bM T) σ) (hp0 : (σ.1 0 27).toInt ≤ 39) : kw_Met l 2 KM mX8_note [.ref 0] σ (p_X8_note_0 T σ) := by
  have hF0 : kw_FM [15, 1027] σ σ := kw_FM.rf
  have hF := (f_X8_note_0_u σ).symm
  have q_1 : (1 : Int32).toInt = 1 := rfl
  have q_10 : (10 : Int32).toInt = 10 := rfl
  refine kw_Met.of (by decide) rfl tX8_note (Nat.le_of_ble_eq_true rfl) ?_
  show kw_AW l 2 kw_E0 KM mX8_note (p_X8_note_0 T σ) 0 [(0, .ref 0)] [] σ
  refine kw_aload_n (pc := 0) (i := 0) (k := 0) (n := 0) rfl rfl rfl ?_
  refine kw_aload_n (pc := 1) (i := 1) (k := 0) (n := 0) rfl rfl rfl ?_
  refine kw_get (pc := 2) (i := 2) (v := .ref 15) rfl rfl rfl lkX8_60 (fun _ => rfl) ?_
  refine kw_bipush (pc := 5) (i := 3) (v := 10) rfl rfl ?_
  refine kw_aload_n (pc := 7) (i := 4) (k := 0) (n := 0) rfl rfl rfl ?_
  refine kw_get (pc := 8) (i := 5) (v := .int (σ.1 0 27)) rfl rfl rfl lkX8_178 (fun _ => rfl) ?_
  have b1 : 0 ≤ (σ.1 0 27).toInt ∧ (σ.1 0 27).toInt ≤ 40 := hI 0 27
  refine kw_imul (pc := 11) (i := 6) rfl (fun z2 e_z2 t_z2 => ?_)
  replace hF := kf_le e_z2 hF
  rw [show (10 : Int32).toInt = 10 from rfl] at t_z2
  first | (have u_z2 : z2.toInt = 10 * (σ.1 0 27).toInt := (by omega); clear t_z2) | skip
  refine kw_callV (pc := 12) (i := 7) (Y := mX8_write) (a := 0) (As := [.ref 15, .int z2]) (st := []) kw_hE rfl rfl lvX8_192 arX8_write (c_X8_write_0_15 l T hT0 hT1 σ hI z2 (by first | omega | decide) (by first | omega | decide) (by first | omega | decide)) (by decide) (Nat.le_of_ble_eq_true rfl) rfl (fun v S4 p3 => ?_)
  obtain ⟨⟨I6, F7⟩, rfl, ef5⟩ := p3
  have F8 : kw_FM [15, 1027] σ S4 := kw_FM.tr hF0 F7 (by decide)
  have w_9 : (S4.1 0 10).toInt = (σ.1 0 10).toInt := congrArg Int32.toInt (kw_FM.at0 (j := 10) F7 (by decide))
  have w_10 : (S4.1 0 22).toInt = (σ.1 0 22).toInt := congrArg Int32.toInt (kw_FM.at0 (j := 22) F7 (by decide))
  have w_11 : (S4.1 0 25).toInt = (σ.1 0 25).toInt := congrArg Int32.toInt (kw_FM.at0 (j := 25) F7 (by decide))
  have w_12 : (S4.1 0 27).toInt = (σ.1 0 27).toInt := congrArg Int32.toInt (kw_FM.at0 (j := 27) F7 (by decide))
  replace hF := kf_le ef5 hF
  show kw_AW l 2 kw_E0 KM mX8_note (p_X8_note_0 T σ) 15 [(0, .ref 0)] [] S4
  refine kw_aload_n (pc := 15) (i := 8) (k := 0) (n := 0) rfl rfl rfl ?_
  refine kw_dup (pc := 16) (i := 9) rfl rfl ?_
  refine kw_get (pc := 17) (i := 10) (v := .int (S4.1 0 27)) rfl rfl rfl lkX8_178 (fun _ => rfl) ?_
  have b13 : 0 ≤ (S4.1 0 27).toInt ∧ (S4.1 0 27).toInt ≤ 40 := I6 0 27
  refine kw_iconst (pc := 20) (i := 11) (v := 1) rfl rfl ?_
  refine kw_iadd (pc := 21) (i := 12) rfl (fun z14 e_z14 t_z14 => ?_)
  replace hF := kf_le e_z14 hF
  first | (have u_z14 : z14.toInt = (S4.1 0 27).toInt + 1 := (by omega); clear t_z14) | skip
  refine kw_puti (pc := 22) (i := 13) (z := 0) rfl rfl rfl lpX8_178 rfl rfl ?_
  have I15 : kw_I (bM T) (kw_ui S4 0 27 z14) := kw_I_ui I6 (show 0 ≤ z14.toInt by omega) (show z14.toInt ≤ 40 by omega)
  have F16 : kw_FM [15, 1027] σ (kw_ui S4 0 27 z14) := kw_FM_ui0 F8 (by decide)
  exact kw_return (pc := 25) (i := 14) rfl rfl ⟨⟨I15, F16⟩, rfl, (show z14.toInt = (σ.1 0 27).toInt + 1 from by omega), (show (S4.1 0 10).toInt = (σ.1 0 10).toInt from by omega), (show (S4.1 0 22).toInt = (σ.1 0 22).toInt from by omega), (show (S4.1 0 25).toInt = (σ.1 0 25).toInt from by omega), hF⟩
noncomputable def f_X8_wetBehind_0 (σ : kw_S) (x : Int32) (w : Int32) : Int32 := if w.toInt = 0 then (kf_l (x + (2 : Int32)) fun z2 => if (9 : Int32).toInt < z2.toInt then ((9 : Int32)) else (kf_l (x + (2 : Int32)) fun z3 => z3)) else (if 0 < x.toInt then (kf_l (x - (1 : Int32)) fun z1 => z1) else ((0 : Int32)))
theorem f_X8_wetBehind_0_u (σ : kw_S) (x : Int32) (w : Int32) : f_X8_wetBehind_0 σ x w = if w.toInt = 0 then (kf_l (x + (2 : Int32)) fun z2 => if (9 : Int32).toInt < z2.toInt then ((9 : Int32)) else (kf_l (x + (2 : Int32)) fun z3 => z3)) else (if 0 < x.toInt then (kf_l (x - (1 : Int32)) fun z1 => z1) else ((0 : Int32))) := rfl
abbrev p_X8_wetBehind_0 (T : Int) (σ : kw_S) (x : Int32) (w : Int32) : Option Value → kw_S → Prop := fun vv σ' => σ' = σ ∧ ∃ r : Int32, vv = some (.int r) ∧ r = f_X8_wetBehind_0 σ x w
set_option maxRecDepth 100000 in
set_option maxHeartbeats 4000000 in
theorem c_X8_wetBehind_0 (l : Launch) (T : Int) (hT0 : 0 ≤ T) (hT1 : T ≤ 3000) (σ : kw_S) (hI : kw_I (bM T) σ) (x : Int32) (w : Int32) : kw_Met l 1 KM mX8_wetBehind [.ref 0, .int x, .int w] σ (p_X8_wetBehind_0 T σ x w) := by
  have r_x := kw_rng x
  have r_w := kw_rng w
  have hF := (f_X8_wetBehind_0_u σ x w).symm
  have q_0 : (0 : Int32).toInt = 0 := rfl
  have q_1 : (1 : Int32).toInt = 1 := rfl
  have q_2 : (2 : Int32).toInt = 2 := rfl
  have q_9 : (9 : Int32).toInt = 9 := rfl
  refine kw_Met.of (by decide) rfl tX8_wetBehind (Nat.le_of_ble_eq_true rfl) ?_
  show kw_AW l 1 kw_E0 KM mX8_wetBehind (p_X8_wetBehind_0 T σ x w) 0 [(0, .ref 0), (1, .int x), (2, .int w)] [] σ
  refine kw_iload_n (pc := 0) (i := 0) (k := 2) (n := 2) rfl rfl rfl ?_
  refine kw_if_ne (pc := 1) (i := 1) (tgt := 23) rfl rfl (fun c1 => ?_) (fun c1 => ?_)
  · replace hF := kf_n c1 hF
    refine kw_iload_n (pc := 23) (i := 13) (k := 1) (n := 1) rfl rfl rfl ?_
    refine kw_if_le (pc := 24) (i := 14) (tgt := 33) rfl rfl (fun c2 => ?_) (fun c2 => ?_)
    · replace hF := kf_nl c2 hF
      refine kw_iconst (pc := 33) (i := 19) (v := 0) rfl rfl ?_
      exact kw_ireturn (pc := 34) (i := 20) (ty := .int) rfl rfl rfl ⟨rfl, _, rfl, hF⟩
    · replace hF := kf_p c2 hF
      refine kw_iload_n (pc := 27) (i := 15) (k := 1) (n := 1) rfl rfl rfl ?_
      refine kw_iconst (pc := 28) (i := 16) (v := 1) rfl rfl ?_
      refine kw_isub (pc := 29) (i := 17) rfl (fun z3 e_z3 t_z3 => ?_)
      replace hF := kf_le e_z3 hF
      first | (have u_z3 : z3.toInt = x.toInt - 1 := (by omega); clear t_z3) | skip
      refine kw_goto (pc := 30) (i := 18) (tgt := 34) rfl rfl ?_
      exact kw_ireturn (pc := 34) (i := 20) (ty := .int) rfl rfl rfl ⟨rfl, _, rfl, hF⟩
  · replace hF := kf_p c1 hF
    refine kw_iload_n (pc := 4) (i := 2) (k := 1) (n := 1) rfl rfl rfl ?_
    refine kw_iconst (pc := 5) (i := 3) (v := 2) rfl rfl ?_
    refine kw_iadd (pc := 6) (i := 4) rfl (fun z4 e_z4 t_z4 => ?_)
    replace hF := kf_le e_z4 hF
    first | (have u_z4 : z4.toInt = x.toInt + 2 := (by omega); clear t_z4) | skip
    refine kw_bipush (pc := 7) (i := 5) (v := 9) rfl rfl ?_
    refine kw_icmp_le (pc := 9) (i := 6) (tgt := 17) rfl rfl (fun c5 => ?_) (fun c5 => ?_)
    · replace hF := kf_nl c5 hF
      refine kw_iload_n (pc := 17) (i := 9) (k := 1) (n := 1) rfl rfl rfl ?_
      refine kw_iconst (pc := 18) (i := 10) (v := 2) rfl rfl ?_
      refine kw_iadd (pc := 19) (i := 11) rfl (fun z6 e_z6 t_z6 => ?_)
      replace hF := kf_le e_z6 hF
      first | (have u_z6 : z6.toInt = x.toInt + 2 := (by omega); clear t_z6) | skip
      refine kw_goto (pc := 20) (i := 12) (tgt := 34) rfl rfl ?_
      exact kw_ireturn (pc := 34) (i := 20) (ty := .int) rfl rfl rfl ⟨rfl, _, rfl, hF⟩
    · replace hF := kf_p c5 hF
      refine kw_bipush (pc := 12) (i := 7) (v := 9) rfl rfl ?_
      refine kw_goto (pc := 14) (i := 8) (tgt := 34) rfl rfl ?_
      exact kw_ireturn (pc := 34) (i := 20) (ty := .int) rfl rfl rfl ⟨rfl, _, rfl, hF⟩
noncomputable def l_X8_pass_0_41 (a1 : Int32) (a2 : Int32) : Nat → Int32 → kw_S → kw_S
  | 0, _, S => S
  | n + 1, x3, S => if x3.toInt < (S.1 0 10).toInt then (kf_l (f_X8_has S a1 x3) fun z7 => if z7.toInt = 0 then (kf_l (S.1 14 x3.toNatClampNeg) fun z8 => kf_l (x3 + Int32.ofInt 1) fun z9 => l_X8_pass_0_41 a1 a2 n z9 (kw_ui S 14 x3.toNatClampNeg z8)) else (kf_l (S.1 14 x3.toNatClampNeg) fun z10 => kf_l (f_X8_wetBehind_0 S z10 a2) fun z11 => kf_l (x3 + Int32.ofInt 1) fun z12 => l_X8_pass_0_41 a1 a2 n z12 (kw_ui S 14 x3.toNatClampNeg z11))) else (kf_l ((S.1 0 22) + (1 : Int32)) fun z6 => kw_ui S 0 22 z6)
theorem l_X8_pass_0_41_s (a1 : Int32) (a2 : Int32) (n : Nat) (x3 : Int32) (S : kw_S) : l_X8_pass_0_41 a1 a2 (n + 1) x3 S = if x3.toInt < (S.1 0 10).toInt then (kf_l (f_X8_has S a1 x3) fun z7 => if z7.toInt = 0 then (kf_l (S.1 14 x3.toNatClampNeg) fun z8 => kf_l (x3 + Int32.ofInt 1) fun z9 => l_X8_pass_0_41 a1 a2 n z9 (kw_ui S 14 x3.toNatClampNeg z8)) else (kf_l (S.1 14 x3.toNatClampNeg) fun z10 => kf_l (f_X8_wetBehind_0 S z10 a2) fun z11 => kf_l (x3 + Int32.ofInt 1) fun z12 => l_X8_pass_0_41 a1 a2 n z12 (kw_ui S 14 x3.toNatClampNeg z11))) else (kf_l ((S.1 0 22) + (1 : Int32)) fun z6 => kw_ui S 0 22 z6) := rfl
noncomputable def f_X8_pass_0 (σ : kw_S) (s : Int32) : kw_S := kf_l (f_X8_windAt_0 σ (σ.1 0 22)) fun z1 => kf_l (f_X8_milesBy_0 σ s z1) fun z2 => kf_l ((σ.1 0 23) + z2) fun z3 => kf_l (f_X8_turnBy_0 (kw_ui σ 0 23 z3) s z1) fun z4 => kf_l ((σ.1 0 24) + z4) fun z5 => l_X8_pass_0_41 s z1 ((7 - (0 : Int32).toInt).toNat + 1) (0 : Int32) (kw_ui (kw_ui σ 0 23 z3) 0 24 z5)
theorem f_X8_pass_0_u (σ : kw_S) (s : Int32) : f_X8_pass_0 σ s = kf_l (f_X8_windAt_0 σ (σ.1 0 22)) fun z1 => kf_l (f_X8_milesBy_0 σ s z1) fun z2 => kf_l ((σ.1 0 23) + z2) fun z3 => kf_l (f_X8_turnBy_0 (kw_ui σ 0 23 z3) s z1) fun z4 => kf_l ((σ.1 0 24) + z4) fun z5 => l_X8_pass_0_41 s z1 ((7 - (0 : Int32).toInt).toNat + 1) (0 : Int32) (kw_ui (kw_ui σ 0 23 z3) 0 24 z5) := rfl
abbrev p_X8_pass_0 (T : Int) (σ : kw_S) (s : Int32) : Option Value → kw_S → Prop := fun vv σ' => (kw_I (bM (T + 1)) σ' ∧ kw_FM [14, 1022, 1023, 1024] σ σ') ∧ vv = none ∧ (σ'.1 0 10).toInt = (σ.1 0 10).toInt ∧ (σ'.1 0 25).toInt = (σ.1 0 25).toInt ∧ (σ'.1 0 27).toInt = (σ.1 0 27).toInt ∧ σ' = f_X8_pass_0 σ s
set_option maxRecDepth 100000 in
set_option maxHeartbeats 4000000 in
theorem c_X8_pass_0 (l : Launch) (T : Int) (hT0 : 0 ≤ T) (hT1 : T ≤ 3000) (σ : kw_S) (hI : kw_I (bM T) σ) (s : Int32) : kw_Met l 4 KM mX8_pass [.ref 0, .int s] σ (p_X8_pass_0 T σ s) := by
  have r_s := kw_rng s
  have hF0 : kw_FM [14, 1022, 1023, 1024] σ σ := kw_FM.rf
  have hF := (f_X8_pass_0_u σ s).symm
  have q_0 : (0 : Int32).toInt = 0 := rfl
  have q_1 : (1 : Int32).toInt = 1 := rfl
  refine kw_Met.of (by decide) rfl tX8_pass (Nat.le_of_ble_eq_true rfl) ?_
  show kw_AW l 4 kw_E0 KM mX8_pass (p_X8_pass_0 T σ s) 0 [(0, .ref 0), (1, .int s)] [] σ
  refine kw_aload_n (pc := 0) (i := 0) (k := 0) (n := 0) rfl rfl rfl ?_
  refine kw_aload_n (pc := 1) (i := 1) (k := 0) (n := 0) rfl rfl rfl ?_
  refine kw_get (pc := 2) (i := 2) (v := .int (σ.1 0 22)) rfl rfl rfl lkX8_166 (fun _ => rfl) ?_
  have b1 : 0 ≤ (σ.1 0 22).toInt ∧ (σ.1 0 22).toInt ≤ T := hI 0 22
  refine kw_callV (pc := 5) (i := 3) (Y := mX8_windAt) (a := 0) (As := [.int (σ.1 0 22)]) (st := []) kw_hE rfl rfl lvX8_196 arX8_windAt (c_X8_windAt_0 l T hT0 hT1 σ hI (σ.1 0 22) (by first | omega | decide)) (by decide) (Nat.le_of_ble_eq_true rfl) rfl (fun v S3 p2 => ?_)
  obtain ⟨e6, z5, rfl, ef4⟩ := p2
  rw [e6]
  replace hF := kf_le ef4 hF
  have r_z5 := kw_rng z5
  show kw_AW l 4 kw_E0 KM mX8_pass (p_X8_pass_0 T σ s) 8 [(0, .ref 0), (1, .int s)] [.int z5] σ
  refine kw_istore_n (pc := 8) (i := 4) (n := 2) (lv' := [(2, .int z5), (0, .ref 0), (1, .int s)]) rfl rfl (by decide) rfl ?_
  refine kw_aload_n (pc := 9) (i := 5) (k := 1) (n := 0) rfl rfl rfl ?_
  refine kw_dup (pc := 10) (i := 6) rfl rfl ?_
  refine kw_get (pc := 11) (i := 7) (v := .int (σ.1 0 23)) rfl rfl rfl lkX8_169 (fun _ => rfl) ?_
  have b7 := kw_rng (σ.1 0 23)
  refine kw_aload_n (pc := 14) (i := 8) (k := 1) (n := 0) rfl rfl rfl ?_
  refine kw_iload_n (pc := 15) (i := 9) (k := 2) (n := 1) rfl rfl rfl ?_
  refine kw_iload_n (pc := 16) (i := 10) (k := 0) (n := 2) rfl rfl rfl ?_
  refine kw_callV (pc := 17) (i := 11) (Y := mX8_milesBy) (a := 0) (As := [.int s, .int z5]) (st := [.int (σ.1 0 23), .ref 0]) kw_hE rfl rfl lvX8_199 arX8_milesBy (c_X8_milesBy_0 l T hT0 hT1 σ hI s z5 ) (by decide) (Nat.le_of_ble_eq_true rfl) rfl (fun v S9 p8 => ?_)
  obtain ⟨e12, z11, rfl, ef10⟩ := p8
  rw [e12]
  replace hF := kf_le ef10 hF
  have r_z11 := kw_rng z11
  show kw_AW l 4 kw_E0 KM mX8_pass (p_X8_pass_0 T σ s) 20 [(2, .int z5), (0, .ref 0), (1, .int s)] [.int z11, .int (σ.1 0 23), .ref 0] σ
  refine kw_iadd (pc := 20) (i := 12) rfl (fun z13 e_z13 t_z13 => ?_)
  replace hF := kf_le e_z13 hF
  first | (have u_z13 : z13.toInt = (σ.1 0 23).toInt + z11.toInt := (by omega); clear t_z13) | skip
  refine kw_puti (pc := 21) (i := 13) (z := 0) rfl rfl rfl lpX8_169 rfl rfl ?_
  have I14 : kw_I (bM T) (kw_ui σ 0 23 z13) := kw_I_ui hI (kw_rng z13).1 (Int.le_of_lt_add_one (kw_rng z13).2)
  have F15 : kw_FM [14, 1022, 1023, 1024] σ (kw_ui σ 0 23 z13) := kw_FM_ui0 hF0 (by decide)
  refine kw_aload_n (pc := 24) (i := 14) (k := 1) (n := 0) rfl rfl rfl ?_
  refine kw_dup (pc := 25) (i := 15) rfl rfl ?_
  refine kw_get (pc := 26) (i := 16) (v := .int (σ.1 0 24)) rfl rfl rfl lkX8_172 (fun _ => rfl) ?_
  have b16 := kw_rng (σ.1 0 24)
  refine kw_aload_n (pc := 29) (i := 17) (k := 1) (n := 0) rfl rfl rfl ?_
  refine kw_iload_n (pc := 30) (i := 18) (k := 2) (n := 1) rfl rfl rfl ?_
  refine kw_iload_n (pc := 31) (i := 19) (k := 0) (n := 2) rfl rfl rfl ?_
  refine kw_callV (pc := 32) (i := 20) (Y := mX8_turnBy) (a := 0) (As := [.int s, .int z5]) (st := [.int (σ.1 0 24), .ref 0]) kw_hE rfl rfl lvX8_202 arX8_turnBy (c_X8_turnBy_0 l T hT0 hT1 (kw_ui σ 0 23 z13) I14 s z5 ) (by decide) (Nat.le_of_ble_eq_true rfl) rfl (fun v S18 p17 => ?_)
  obtain ⟨e21, z20, rfl, ef19⟩ := p17
  rw [e21]
  replace hF := kf_le ef19 hF
  have r_z20 := kw_rng z20
  show kw_AW l 4 kw_E0 KM mX8_pass (p_X8_pass_0 T σ s) 35 [(2, .int z5), (0, .ref 0), (1, .int s)] [.int z20, .int (σ.1 0 24), .ref 0] (kw_ui σ 0 23 z13)
  refine kw_iadd (pc := 35) (i := 21) rfl (fun z22 e_z22 t_z22 => ?_)
  replace hF := kf_le e_z22 hF
  first | (have u_z22 : z22.toInt = (σ.1 0 24).toInt + z20.toInt := (by omega); clear t_z22) | skip
  refine kw_puti (pc := 36) (i := 22) (z := 0) rfl rfl rfl lpX8_172 rfl rfl ?_
  have I23 : kw_I (bM T) (kw_ui (kw_ui σ 0 23 z13) 0 24 z22) := kw_I_ui I14 (kw_rng z22).1 (Int.le_of_lt_add_one (kw_rng z22).2)
  have F24 : kw_FM [14, 1022, 1023, 1024] σ (kw_ui (kw_ui σ 0 23 z13) 0 24 z22) := kw_FM_ui0 F15 (by decide)
  refine kw_iconst (pc := 39) (i := 23) (v := 0) rfl rfl ?_
  refine kw_istore_n (pc := 40) (i := 24) (n := 3) (lv' := [(3, .int 0), (2, .int z5), (0, .ref 0), (1, .int s)]) rfl rfl (by decide) rfl ?_
  have L29 : ∀ (n37 : Nat) (x25 : Int32) (S26 : kw_S), kw_I (bM T) S26 → kw_FM [14, 1022, 1023, 1024] σ S26 → 0 ≤ x25.toInt → (S26.1 0 22).toInt = (σ.1 0 22).toInt → (S26.1 0 10).toInt = (σ.1 0 10).toInt → (S26.1 0 25).toInt = (σ.1 0 25).toInt → (S26.1 0 27).toInt = (σ.1 0 27).toInt → l_X8_pass_0_41 s z5 n37 x25 S26 = (f_X8_pass_0 σ s) → (7 - x25.toInt).toNat < n37 → kw_AW l 4 kw_E0 KM mX8_pass (p_X8_pass_0 T σ s) 41 [(3, .int x25), (2, .int z5), (0, .ref 0), (1, .int s)] [] S26 := by
    intro n37
    induction n37 with
    | zero => intro x25 S26 I27 F28 v31 v32 v33 v34 v35 hF m36; exact absurd m36 (Nat.not_lt_zero _)
    | succ n37 ih30 =>
      intro x25 S26 I27 F28 v31 v32 v33 v34 v35 hF m36
      replace hF := kf_st (l_X8_pass_0_41_s _ _ _ _ _) hF
      have r_x25 := kw_rng x25
      refine kw_iload_n (pc := 41) (i := 25) (k := 0) (n := 3) rfl rfl rfl ?_
      refine kw_aload_n (pc := 42) (i := 26) (k := 2) (n := 0) rfl rfl rfl ?_
      refine kw_get (pc := 43) (i := 27) (v := .int (S26.1 0 10)) rfl rfl rfl lkX8_163 (fun _ => rfl) ?_
      have b38 : 0 ≤ (S26.1 0 10).toInt ∧ (S26.1 0 10).toInt ≤ 6 := I27 0 10
      refine kw_icmp_ge (pc := 46) (i := 28) (tgt := 89) rfl rfl (fun c39 => ?_) (fun c39 => ?_)
      · replace hF := kf_nl c39 hF
        refine kw_aload_n (pc := 89) (i := 51) (k := 2) (n := 0) rfl rfl rfl ?_
        refine kw_dup (pc := 90) (i := 52) rfl rfl ?_
        refine kw_get (pc := 91) (i := 53) (v := .int (S26.1 0 22)) rfl rfl rfl lkX8_166 (fun _ => rfl) ?_
        have b40 : 0 ≤ (S26.1 0 22).toInt ∧ (S26.1 0 22).toInt ≤ T := I27 0 22
        refine kw_iconst (pc := 94) (i := 54) (v := 1) rfl rfl ?_
        refine kw_iadd (pc := 95) (i := 55) rfl (fun z41 e_z41 t_z41 => ?_)
        replace hF := kf_le e_z41 hF
        first | (have u_z41 : z41.toInt = (S26.1 0 22).toInt + 1 := (by omega); clear t_z41) | skip
        have I42 := kw_monoM (T := T) (T' := (T + 1)) (by omega) I27
        refine kw_puti (pc := 96) (i := 56) (z := 0) rfl rfl rfl lpX8_166 rfl rfl ?_
        have I43 : kw_I (bM (T + 1)) (kw_ui S26 0 22 z41) := kw_I_ui I42 (show 0 ≤ z41.toInt by omega) (show z41.toInt ≤ (T + 1) by omega)
        have F44 : kw_FM [14, 1022, 1023, 1024] σ (kw_ui S26 0 22 z41) := kw_FM_ui0 F28 (by decide)
        exact kw_return (pc := 99) (i := 57) rfl rfl ⟨⟨I43, F44⟩, rfl, (show (S26.1 0 10).toInt = (σ.1 0 10).toInt from by omega), (show (S26.1 0 25).toInt = (σ.1 0 25).toInt from by omega), (show (S26.1 0 27).toInt = (σ.1 0 27).toInt from by omega), hF⟩
      · replace hF := kf_p c39 hF
        refine kw_aload_n (pc := 49) (i := 29) (k := 2) (n := 0) rfl rfl rfl ?_
        refine kw_get (pc := 50) (i := 30) (v := .ref 14) rfl rfl rfl lkX8_57 (fun _ => rfl) ?_
        refine kw_iload_n (pc := 53) (i := 31) (k := 0) (n := 3) rfl rfl rfl ?_
        refine kw_iload_n (pc := 54) (i := 32) (k := 3) (n := 1) rfl rfl rfl ?_
        refine kw_iload_n (pc := 55) (i := 33) (k := 0) (n := 3) rfl rfl rfl ?_
        refine kw_callS (pc := 56) (i := 34) (Y := mX8_has) (As := [.int s, .int x25]) (st := [.int x25, .ref 14]) kw_hE rfl lsX8_185 arX8_has (c_X8_has l T hT0 hT1 S26 I27 s x25 ) (by decide) (Nat.le_of_ble_eq_true rfl) rfl (fun v S46 p45 => ?_)
        obtain ⟨e50, z49, rfl, f47, ef48⟩ := p45
        rw [e50]
        replace hF := kf_le ef48 hF
        have r_z49 := kw_rng z49
        show kw_AW l 4 kw_E0 KM mX8_pass (p_X8_pass_0 T σ s) 59 [(3, .int x25), (2, .int z5), (0, .ref 0), (1, .int s)] [.int z49, .int x25, .ref 14] S26
        refine kw_if_eq (pc := 59) (i := 35) (tgt := 76) rfl rfl (fun c51 => ?_) (fun c51 => ?_)
        · replace hF := kf_p c51 hF
          refine kw_aload_n (pc := 76) (i := 44) (k := 2) (n := 0) rfl rfl rfl ?_
          refine kw_get (pc := 77) (i := 45) (v := .ref 14) rfl rfl rfl lkX8_57 (fun _ => rfl) ?_
          refine kw_iload_n (pc := 80) (i := 46) (k := 0) (n := 3) rfl rfl rfl ?_
          refine kw_iald (pc := 81) (i := 47) (n := 6) rfl rfl (by omega) (by omega) (fun z52 e_z52 => ?_)
          replace hF := kf_le e_z52 hF
          have t_z52 := congrArg Int32.toInt e_z52
          have r_z52 := kw_rng z52
          refine kw_iast (pc := 82) (i := 48) (n := 6) rfl rfl (by omega) (by omega) ?_
          have I53 : kw_I (bM T) (kw_ui S26 14 x25.toNatClampNeg z52) := kw_I_ui I27 (kw_rng z52).1 (Int.le_of_lt_add_one (kw_rng z52).2)
          have F54 : kw_FM [14, 1022, 1023, 1024] σ (kw_ui S26 14 x25.toNatClampNeg z52) := kw_FM_ui F28 (by decide) (by decide)
          refine kw_iinc' (pc := 83) (i := 49) (k := 0) (fun z => [(3, .int z), (2, .int z5), (0, .ref 0), (1, .int s)]) rfl rfl (by decide) rfl (fun _ => rfl) (fun z55 e_z55 t_z55 => ?_)
          replace hF := kf_le e_z55 hF
          first | (have u_z55 : z55.toInt = x25.toInt + 1 := (by omega); clear t_z55) | skip
          refine kw_goto (pc := 86) (i := 50) (tgt := 41) rfl rfl ?_
          refine kw_sub (lv' := [(3, .int z55), (2, .int z5), (0, .ref 0), (1, .int s)]) [0, 1, 2, 3] rfl ?_
          exact ih30 z55 (kw_ui S26 14 x25.toNatClampNeg z52) I53 F54 (by omega) (show (S26.1 0 22).toInt = (σ.1 0 22).toInt from by omega) (show (S26.1 0 10).toInt = (σ.1 0 10).toInt from by omega) (show (S26.1 0 25).toInt = (σ.1 0 25).toInt from by omega) (show (S26.1 0 27).toInt = (σ.1 0 27).toInt from by omega) hF (by omega)
        · replace hF := kf_n c51 hF
          refine kw_aload_n (pc := 62) (i := 36) (k := 2) (n := 0) rfl rfl rfl ?_
          refine kw_aload_n (pc := 63) (i := 37) (k := 2) (n := 0) rfl rfl rfl ?_
          refine kw_get (pc := 64) (i := 38) (v := .ref 14) rfl rfl rfl lkX8_57 (fun _ => rfl) ?_
          refine kw_iload_n (pc := 67) (i := 39) (k := 0) (n := 3) rfl rfl rfl ?_
          refine kw_iald (pc := 68) (i := 40) (n := 6) rfl rfl (by omega) (by omega) (fun z56 e_z56 => ?_)
          replace hF := kf_le e_z56 hF
          have t_z56 := congrArg Int32.toInt e_z56
          have r_z56 := kw_rng z56
          refine kw_iload_n (pc := 69) (i := 41) (k := 1) (n := 2) rfl rfl rfl ?_
          refine kw_callV (pc := 70) (i := 42) (Y := mX8_wetBehind) (a := 0) (As := [.int z56, .int z5]) (st := [.int x25, .ref 14]) kw_hE rfl rfl lvX8_205 arX8_wetBehind (c_X8_wetBehind_0 l T hT0 hT1 S26 I27 z56 z5 ) (by decide) (Nat.le_of_ble_eq_true rfl) rfl (fun v S58 p57 => ?_)
          obtain ⟨e61, z60, rfl, ef59⟩ := p57
          rw [e61]
          replace hF := kf_le ef59 hF
          have r_z60 := kw_rng z60
          show kw_AW l 4 kw_E0 KM mX8_pass (p_X8_pass_0 T σ s) 73 [(3, .int x25), (2, .int z5), (0, .ref 0), (1, .int s)] [.int z60, .int x25, .ref 14] S26
          refine kw_goto (pc := 73) (i := 43) (tgt := 82) rfl rfl ?_
          refine kw_iast (pc := 82) (i := 48) (n := 6) rfl rfl (by omega) (by omega) ?_
          have I62 : kw_I (bM T) (kw_ui S26 14 x25.toNatClampNeg z60) := kw_I_ui I27 (kw_rng z60).1 (Int.le_of_lt_add_one (kw_rng z60).2)
          have F63 : kw_FM [14, 1022, 1023, 1024] σ (kw_ui S26 14 x25.toNatClampNeg z60) := kw_FM_ui F28 (by decide) (by decide)
          refine kw_iinc' (pc := 83) (i := 49) (k := 0) (fun z => [(3, .int z), (2, .int z5), (0, .ref 0), (1, .int s)]) rfl rfl (by decide) rfl (fun _ => rfl) (fun z64 e_z64 t_z64 => ?_)
          replace hF := kf_le e_z64 hF
          first | (have u_z64 : z64.toInt = x25.toInt + 1 := (by omega); clear t_z64) | skip
          refine kw_goto (pc := 86) (i := 50) (tgt := 41) rfl rfl ?_
          refine kw_sub (lv' := [(3, .int z64), (2, .int z5), (0, .ref 0), (1, .int s)]) [0, 1, 2, 3] rfl ?_
          exact ih30 z64 (kw_ui S26 14 x25.toNatClampNeg z60) I62 F63 (by omega) (show (S26.1 0 22).toInt = (σ.1 0 22).toInt from by omega) (show (S26.1 0 10).toInt = (σ.1 0 10).toInt from by omega) (show (S26.1 0 25).toInt = (σ.1 0 25).toInt from by omega) (show (S26.1 0 27).toInt = (σ.1 0 27).toInt from by omega) hF (by omega)
  exact L29 _ 0 (kw_ui (kw_ui σ 0 23 z13) 0 24 z22) I23 F24 (by omega) (show (σ.1 0 22).toInt = (σ.1 0 22).toInt from by omega) (show (σ.1 0 10).toInt = (σ.1 0 10).toInt from by omega) (show (σ.1 0 25).toInt = (σ.1 0 25).toInt from by omega) (show (σ.1 0 27).toInt = (σ.1 0 27).toInt from by omega) hF (Nat.lt_succ_self _)
noncomputable def f_X8_turnLine_0 (σ : kw_S) (i : Int32) : kw_S := kf_l (f_X8_note_0 σ) fun S1 => kf_l ((1 : Int32) <<< (i &&& 31)) fun z2 => kf_l ((S1.1 0 25) ^^^ z2) fun z3 => kw_ui S1 0 25 z3
theorem f_X8_turnLine_0_u (σ : kw_S) (i : Int32) : f_X8_turnLine_0 σ i = kf_l (f_X8_note_0 σ) fun S1 => kf_l ((1 : Int32) <<< (i &&& 31)) fun z2 => kf_l ((S1.1 0 25) ^^^ z2) fun z3 => kw_ui S1 0 25 z3 := rfl
abbrev p_X8_turnLine_0 (T : Int) (σ : kw_S) (i : Int32) : Option Value → kw_S → Prop := fun vv σ' => (kw_I (bM T) σ' ∧ kw_FM [15, 1025, 1027] σ σ') ∧ vv = none ∧ (σ'.1 0 27).toInt = (σ.1 0 27).toInt + 1 ∧ (σ'.1 0 10).toInt = (σ.1 0 10).toInt ∧ (σ'.1 0 22).toInt = (σ.1 0 22).toInt ∧ σ' = f_X8_turnLine_0 σ i
set_option maxRecDepth 100000 in
set_option maxHeartbeats 4000000 in
theorem c_X8_turnLine_0 (l : Launch) (T : Int) (hT0 : 0 ≤ T) (hT1 : T ≤ 3000) (σ : kw_S) (hI : kw_I (bM T) σ) (i : Int32) (hp0 : 0 ≤ i.toInt) (hp1 : i.toInt ≤ 5) (hp2 : (σ.1 0 27).toInt ≤ 39) : kw_Met l 3 KM mX8_turnLine [.ref 0, .int i] σ (p_X8_turnLine_0 T σ i) := by
  have r_i := kw_rng i
  have hF0 : kw_FM [15, 1025, 1027] σ σ := kw_FM.rf
  have hF := (f_X8_turnLine_0_u σ i).symm
  have q_1 : (1 : Int32).toInt = 1 := rfl
  refine kw_Met.of (by decide) rfl tX8_turnLine (Nat.le_of_ble_eq_true rfl) ?_
  show kw_AW l 3 kw_E0 KM mX8_turnLine (p_X8_turnLine_0 T σ i) 0 [(0, .ref 0), (1, .int i)] [] σ
  refine kw_aload_n (pc := 0) (i := 0) (k := 0) (n := 0) rfl rfl rfl ?_
  refine kw_callV (pc := 1) (i := 1) (Y := mX8_note) (a := 0) (As := []) (st := []) kw_hE rfl rfl lvX8_208 arX8_note (c_X8_note_0 l T hT0 hT1 σ hI  (show (σ.1 0 27).toInt ≤ 39 from by omega)) (by decide) (Nat.le_of_ble_eq_true rfl) rfl (fun v S2 p1 => ?_)
  obtain ⟨⟨I8, F9⟩, rfl, f3, f4, f5, f6, ef7⟩ := p1
  have F10 : kw_FM [15, 1025, 1027] σ S2 := kw_FM.tr hF0 F9 (by decide)
  have w_11 : (S2.1 0 10).toInt = (σ.1 0 10).toInt := congrArg Int32.toInt (kw_FM.at0 (j := 10) F9 (by decide))
  have w_12 : (S2.1 0 22).toInt = (σ.1 0 22).toInt := congrArg Int32.toInt (kw_FM.at0 (j := 22) F9 (by decide))
  replace hF := kf_le ef7 hF
  have f3 : (S2.1 0 27).toInt = (σ.1 0 27).toInt + 1 := f3
  have f4 : (S2.1 0 10).toInt = (σ.1 0 10).toInt := f4
  have f5 : (S2.1 0 22).toInt = (σ.1 0 22).toInt := f5
  have f6 : (S2.1 0 25).toInt = (σ.1 0 25).toInt := f6
  show kw_AW l 3 kw_E0 KM mX8_turnLine (p_X8_turnLine_0 T σ i) 4 [(0, .ref 0), (1, .int i)] [] S2
  refine kw_aload_n (pc := 4) (i := 2) (k := 0) (n := 0) rfl rfl rfl ?_
  refine kw_dup (pc := 5) (i := 3) rfl rfl ?_
  refine kw_get (pc := 6) (i := 4) (v := .int (S2.1 0 25)) rfl rfl rfl lkX8_175 (fun _ => rfl) ?_
  have b13 : 0 ≤ (S2.1 0 25).toInt ∧ (S2.1 0 25).toInt ≤ 63 := I8 0 25
  refine kw_iconst (pc := 9) (i := 5) (v := 1) rfl rfl ?_
  refine kw_iload_n (pc := 10) (i := 6) (k := 1) (n := 1) rfl rfl rfl ?_
  refine kw_ishl (pc := 11) (i := 7) rfl (fun z14 e_z14 => ?_)
  have r_z14 := kw_rng z14
  replace hF := kf_le e_z14 hF
  have t_z14 := kw_shlm i z14 e_z14
  first | (replace t_z14 := And.intro (t_z14.1 (by omega) (by omega)) (t_z14.2 (by omega) (by omega))) | (replace t_z14 := t_z14.1 (by omega) (by omega)) | skip
  have u_z14 := congrArg Int32.toInt e_z14
  refine kw_ixor (pc := 12) (i := 8) rfl (fun z15 e_z15 => ?_)
  have r_z15 := kw_rng z15
  replace hF := kf_le e_z15 hF
  have t_z15 := kw_xor63 (S2.1 0 25) z14 z15 e_z15
  first | (replace t_z15 := t_z15 (by omega) (by omega) (by omega) (by omega)) | skip
  refine kw_puti (pc := 13) (i := 9) (z := 0) rfl rfl rfl lpX8_175 rfl rfl ?_
  have I16 : kw_I (bM T) (kw_ui S2 0 25 z15) := kw_I_ui I8 (show 0 ≤ z15.toInt by omega) (show z15.toInt ≤ 63 by omega)
  have F17 : kw_FM [15, 1025, 1027] σ (kw_ui S2 0 25 z15) := kw_FM_ui0 F10 (by decide)
  exact kw_return (pc := 16) (i := 10) rfl rfl ⟨⟨I16, F17⟩, rfl, (show (S2.1 0 27).toInt = (σ.1 0 27).toInt + 1 from by omega), (show (S2.1 0 10).toInt = (σ.1 0 10).toInt from by omega), (show (S2.1 0 22).toInt = (σ.1 0 22).toInt from by omega), hF⟩
noncomputable def f_X8_hang_0 (σ : kw_S) (i : Int32) : Int32 × kw_S := kf_l (f_X8_isLine_0 σ i) fun z1 => if z1.toInt = 0 then ((((-1) : Int32), σ)) else (kf_l (f_X8_has σ (σ.1 0 25) i) fun z2 => if z2.toInt = 0 then (if (σ.1 0 27).toInt = (40 : Int32).toInt then ((((-2) : Int32), σ)) else (kf_l (f_X8_turnLine_0 σ i) fun S3 => kf_l (f_X8_bits S3 (S3.1 0 25)) fun z4 => (z4, S3))) else ((((-4) : Int32), σ)))
theorem f_X8_hang_0_u (σ : kw_S) (i : Int32) : f_X8_hang_0 σ i = kf_l (f_X8_isLine_0 σ i) fun z1 => if z1.toInt = 0 then ((((-1) : Int32), σ)) else (kf_l (f_X8_has σ (σ.1 0 25) i) fun z2 => if z2.toInt = 0 then (if (σ.1 0 27).toInt = (40 : Int32).toInt then ((((-2) : Int32), σ)) else (kf_l (f_X8_turnLine_0 σ i) fun S3 => kf_l (f_X8_bits S3 (S3.1 0 25)) fun z4 => (z4, S3))) else ((((-4) : Int32), σ))) := rfl
abbrev p_X8_hang_0 (T : Int) (σ : kw_S) (i : Int32) : Option Value → kw_S → Prop := fun vv σ' => (kw_I (bM T) σ' ∧ kw_FM [15, 1025, 1027] σ σ') ∧ ∃ r : Int32, vv = some (.int r) ∧ (r, σ') = f_X8_hang_0 σ i
set_option maxRecDepth 100000 in
set_option maxHeartbeats 4000000 in
theorem c_X8_hang_0 (l : Launch) (T : Int) (hT0 : 0 ≤ T) (hT1 : T ≤ 3000) (σ : kw_S) (hI : kw_I (bM T) σ) (i : Int32) : kw_Met l 4 KM mX8_hang [.ref 0, .int i] σ (p_X8_hang_0 T σ i) := by
  have r_i := kw_rng i
  have hF0 : kw_FM [15, 1025, 1027] σ σ := kw_FM.rf
  have hF := (f_X8_hang_0_u σ i).symm
  have q_m4 : (-4 : Int32).toInt = -4 := rfl
  have q_m2 : (-2 : Int32).toInt = -2 := rfl
  have q_m1 : (-1 : Int32).toInt = -1 := rfl
  have q_40 : (40 : Int32).toInt = 40 := rfl
  refine kw_Met.of (by decide) rfl tX8_hang (Nat.le_of_ble_eq_true rfl) ?_
  show kw_AW l 4 kw_E0 KM mX8_hang (p_X8_hang_0 T σ i) 0 [(0, .ref 0), (1, .int i)] [] σ
  refine kw_aload_n (pc := 0) (i := 0) (k := 0) (n := 0) rfl rfl rfl ?_
  refine kw_iload_n (pc := 1) (i := 1) (k := 1) (n := 1) rfl rfl rfl ?_
  refine kw_callV (pc := 2) (i := 2) (Y := mX8_isLine) (a := 0) (As := [.int i]) (st := []) kw_hE rfl rfl lvX8_211 arX8_isLine (c_X8_isLine_0 l T hT0 hT1 σ hI i ) (by decide) (Nat.le_of_ble_eq_true rfl) rfl (fun v S2 p1 => ?_)
  obtain ⟨e7, z6, rfl, f3, f4, ef5⟩ := p1
  rw [e7]
  replace hF := kf_le ef5 hF
  have f4 : (z6.toInt = 0 ∨ 0 ≤ i.toInt ∧ i.toInt < (σ.1 0 10).toInt ∧ i.toInt ≤ 5) := f4
  have r_z6 := kw_rng z6
  show kw_AW l 4 kw_E0 KM mX8_hang (p_X8_hang_0 T σ i) 5 [(0, .ref 0), (1, .int i)] [.int z6] σ
  refine kw_if_ne (pc := 5) (i := 3) (tgt := 10) rfl rfl (fun c8 => ?_) (fun c8 => ?_)
  · replace hF := kf_n c8 hF
    refine kw_aload_n (pc := 10) (i := 6) (k := 0) (n := 0) rfl rfl rfl ?_
    refine kw_get (pc := 11) (i := 7) (v := .int (σ.1 0 25)) rfl rfl rfl lkX8_175 (fun _ => rfl) ?_
    have b9 : 0 ≤ (σ.1 0 25).toInt ∧ (σ.1 0 25).toInt ≤ 63 := hI 0 25
    refine kw_iload_n (pc := 14) (i := 8) (k := 1) (n := 1) rfl rfl rfl ?_
    refine kw_callS (pc := 15) (i := 9) (Y := mX8_has) (As := [.int (σ.1 0 25), .int i]) (st := []) kw_hE rfl lsX8_185 arX8_has (c_X8_has l T hT0 hT1 σ hI (σ.1 0 25) i ) (by decide) (Nat.le_of_ble_eq_true rfl) rfl (fun v S11 p10 => ?_)
    obtain ⟨e15, z14, rfl, f12, ef13⟩ := p10
    rw [e15]
    replace hF := kf_le ef13 hF
    have r_z14 := kw_rng z14
    show kw_AW l 4 kw_E0 KM mX8_hang (p_X8_hang_0 T σ i) 18 [(0, .ref 0), (1, .int i)] [.int z14] σ
    refine kw_if_eq (pc := 18) (i := 10) (tgt := 24) rfl rfl (fun c16 => ?_) (fun c16 => ?_)
    · replace hF := kf_p c16 hF
      refine kw_aload_n (pc := 24) (i := 13) (k := 0) (n := 0) rfl rfl rfl ?_
      refine kw_get (pc := 25) (i := 14) (v := .int (σ.1 0 27)) rfl rfl rfl lkX8_178 (fun _ => rfl) ?_
      have b17 : 0 ≤ (σ.1 0 27).toInt ∧ (σ.1 0 27).toInt ≤ 40 := hI 0 27
      refine kw_bipush (pc := 28) (i := 15) (v := 40) rfl rfl ?_
      refine kw_icmp_ne (pc := 30) (i := 16) (tgt := 36) rfl rfl (fun c18 => ?_) (fun c18 => ?_)
      · replace hF := kf_n c18 hF
        refine kw_aload_n (pc := 36) (i := 19) (k := 0) (n := 0) rfl rfl rfl ?_
        refine kw_iload_n (pc := 37) (i := 20) (k := 1) (n := 1) rfl rfl rfl ?_
        refine kw_callV (pc := 38) (i := 21) (Y := mX8_turnLine) (a := 0) (As := [.int i]) (st := []) kw_hE rfl rfl lvX8_214 arX8_turnLine (c_X8_turnLine_0 l T hT0 hT1 σ hI i (by first | omega | decide) (by first | omega | decide) (show (σ.1 0 27).toInt ≤ 39 from by omega)) (by decide) (Nat.le_of_ble_eq_true rfl) rfl (fun v S20 p19 => ?_)
        obtain ⟨⟨I25, F26⟩, rfl, f21, f22, f23, ef24⟩ := p19
        have F27 : kw_FM [15, 1025, 1027] σ S20 := kw_FM.tr hF0 F26 (by decide)
        replace hF := kf_le ef24 hF
        have f21 : (S20.1 0 27).toInt = (σ.1 0 27).toInt + 1 := f21
        have f22 : (S20.1 0 10).toInt = (σ.1 0 10).toInt := f22
        have f23 : (S20.1 0 22).toInt = (σ.1 0 22).toInt := f23
        show kw_AW l 4 kw_E0 KM mX8_hang (p_X8_hang_0 T σ i) 41 [(0, .ref 0), (1, .int i)] [] S20
        refine kw_aload_n (pc := 41) (i := 22) (k := 0) (n := 0) rfl rfl rfl ?_
        refine kw_get (pc := 42) (i := 23) (v := .int (S20.1 0 25)) rfl rfl rfl lkX8_175 (fun _ => rfl) ?_
        have b28 : 0 ≤ (S20.1 0 25).toInt ∧ (S20.1 0 25).toInt ≤ 63 := I25 0 25
        refine kw_callS (pc := 45) (i := 24) (Y := mX8_bits) (As := [.int (S20.1 0 25)]) (st := []) kw_hE rfl lsX8_217 arX8_bits (c_X8_bits l T hT0 hT1 S20 I25 (S20.1 0 25) ) (by decide) (Nat.le_of_ble_eq_true rfl) rfl (fun v S30 p29 => ?_)
        obtain ⟨e33, z32, rfl, ef31⟩ := p29
        rw [e33]
        replace hF := kf_le ef31 hF
        have r_z32 := kw_rng z32
        show kw_AW l 4 kw_E0 KM mX8_hang (p_X8_hang_0 T σ i) 48 [(0, .ref 0), (1, .int i)] [.int z32] S20
        exact kw_ireturn (pc := 48) (i := 25) (ty := .int) rfl rfl rfl ⟨⟨I25, F27⟩, _, rfl, hF⟩
      · replace hF := kf_p c18 hF
        refine kw_bipush (pc := 33) (i := 17) (v := (-2)) rfl rfl ?_
        exact kw_ireturn (pc := 35) (i := 18) (ty := .int) rfl rfl rfl ⟨⟨hI, hF0⟩, _, rfl, hF⟩
    · replace hF := kf_n c16 hF
      refine kw_bipush (pc := 21) (i := 11) (v := (-4)) rfl rfl ?_
      exact kw_ireturn (pc := 23) (i := 12) (ty := .int) rfl rfl rfl ⟨⟨hI, hF0⟩, _, rfl, hF⟩
  · replace hF := kf_p c8 hF
    refine kw_iconst (pc := 8) (i := 4) (v := (-1)) rfl rfl ?_
    exact kw_ireturn (pc := 9) (i := 5) (ty := .int) rfl rfl rfl ⟨⟨hI, hF0⟩, _, rfl, hF⟩
noncomputable def f_X8_take_0 (σ : kw_S) (i : Int32) : Int32 × kw_S := kf_l (f_X8_isLine_0 σ i) fun z1 => if z1.toInt = 0 then ((((-1) : Int32), σ)) else (kf_l (f_X8_has σ (σ.1 0 25) i) fun z2 => if z2.toInt = 0 then ((((-4) : Int32), σ)) else (if (σ.1 0 27).toInt = (40 : Int32).toInt then ((((-2) : Int32), σ)) else (kf_l (f_X8_turnLine_0 σ i) fun S3 => kf_l (S3.1 14 i.toNatClampNeg) fun z4 => (z4, S3))))
theorem f_X8_take_0_u (σ : kw_S) (i : Int32) : f_X8_take_0 σ i = kf_l (f_X8_isLine_0 σ i) fun z1 => if z1.toInt = 0 then ((((-1) : Int32), σ)) else (kf_l (f_X8_has σ (σ.1 0 25) i) fun z2 => if z2.toInt = 0 then ((((-4) : Int32), σ)) else (if (σ.1 0 27).toInt = (40 : Int32).toInt then ((((-2) : Int32), σ)) else (kf_l (f_X8_turnLine_0 σ i) fun S3 => kf_l (S3.1 14 i.toNatClampNeg) fun z4 => (z4, S3)))) := rfl
abbrev p_X8_take_0 (T : Int) (σ : kw_S) (i : Int32) : Option Value → kw_S → Prop := fun vv σ' => (kw_I (bM T) σ' ∧ kw_FM [15, 1025, 1027] σ σ') ∧ ∃ r : Int32, vv = some (.int r) ∧ (r, σ') = f_X8_take_0 σ i
set_option maxRecDepth 100000 in
set_option maxHeartbeats 4000000 in
theorem c_X8_take_0 (l : Launch) (T : Int) (hT0 : 0 ≤ T) (hT1 : T ≤ 3000) (σ : kw_S) (hI : kw_I (bM T) σ) (i : Int32) : kw_Met l 4 KM mX8_take [.ref 0, .int i] σ (p_X8_take_0 T σ i) := by
  have r_i := kw_rng i
  have hF0 : kw_FM [15, 1025, 1027] σ σ := kw_FM.rf
  have hF := (f_X8_take_0_u σ i).symm
  have q_m4 : (-4 : Int32).toInt = -4 := rfl
  have q_m2 : (-2 : Int32).toInt = -2 := rfl
  have q_m1 : (-1 : Int32).toInt = -1 := rfl
  have q_40 : (40 : Int32).toInt = 40 := rfl
  refine kw_Met.of (by decide) rfl tX8_take (Nat.le_of_ble_eq_true rfl) ?_
  show kw_AW l 4 kw_E0 KM mX8_take (p_X8_take_0 T σ i) 0 [(0, .ref 0), (1, .int i)] [] σ
  refine kw_aload_n (pc := 0) (i := 0) (k := 0) (n := 0) rfl rfl rfl ?_
  refine kw_iload_n (pc := 1) (i := 1) (k := 1) (n := 1) rfl rfl rfl ?_
  refine kw_callV (pc := 2) (i := 2) (Y := mX8_isLine) (a := 0) (As := [.int i]) (st := []) kw_hE rfl rfl lvX8_211 arX8_isLine (c_X8_isLine_0 l T hT0 hT1 σ hI i ) (by decide) (Nat.le_of_ble_eq_true rfl) rfl (fun v S2 p1 => ?_)
  obtain ⟨e7, z6, rfl, f3, f4, ef5⟩ := p1
  rw [e7]
  replace hF := kf_le ef5 hF
  have f4 : (z6.toInt = 0 ∨ 0 ≤ i.toInt ∧ i.toInt < (σ.1 0 10).toInt ∧ i.toInt ≤ 5) := f4
  have r_z6 := kw_rng z6
  show kw_AW l 4 kw_E0 KM mX8_take (p_X8_take_0 T σ i) 5 [(0, .ref 0), (1, .int i)] [.int z6] σ
  refine kw_if_ne (pc := 5) (i := 3) (tgt := 10) rfl rfl (fun c8 => ?_) (fun c8 => ?_)
  · replace hF := kf_n c8 hF
    refine kw_aload_n (pc := 10) (i := 6) (k := 0) (n := 0) rfl rfl rfl ?_
    refine kw_get (pc := 11) (i := 7) (v := .int (σ.1 0 25)) rfl rfl rfl lkX8_175 (fun _ => rfl) ?_
    have b9 : 0 ≤ (σ.1 0 25).toInt ∧ (σ.1 0 25).toInt ≤ 63 := hI 0 25
    refine kw_iload_n (pc := 14) (i := 8) (k := 1) (n := 1) rfl rfl rfl ?_
    refine kw_callS (pc := 15) (i := 9) (Y := mX8_has) (As := [.int (σ.1 0 25), .int i]) (st := []) kw_hE rfl lsX8_185 arX8_has (c_X8_has l T hT0 hT1 σ hI (σ.1 0 25) i ) (by decide) (Nat.le_of_ble_eq_true rfl) rfl (fun v S11 p10 => ?_)
    obtain ⟨e15, z14, rfl, f12, ef13⟩ := p10
    rw [e15]
    replace hF := kf_le ef13 hF
    have r_z14 := kw_rng z14
    show kw_AW l 4 kw_E0 KM mX8_take (p_X8_take_0 T σ i) 18 [(0, .ref 0), (1, .int i)] [.int z14] σ
    refine kw_if_ne (pc := 18) (i := 10) (tgt := 24) rfl rfl (fun c16 => ?_) (fun c16 => ?_)
    · replace hF := kf_n c16 hF
      refine kw_aload_n (pc := 24) (i := 13) (k := 0) (n := 0) rfl rfl rfl ?_
      refine kw_get (pc := 25) (i := 14) (v := .int (σ.1 0 27)) rfl rfl rfl lkX8_178 (fun _ => rfl) ?_
      have b17 : 0 ≤ (σ.1 0 27).toInt ∧ (σ.1 0 27).toInt ≤ 40 := hI 0 27
      refine kw_bipush (pc := 28) (i := 15) (v := 40) rfl rfl ?_
      refine kw_icmp_ne (pc := 30) (i := 16) (tgt := 36) rfl rfl (fun c18 => ?_) (fun c18 => ?_)
      · replace hF := kf_n c18 hF
        refine kw_aload_n (pc := 36) (i := 19) (k := 0) (n := 0) rfl rfl rfl ?_
        refine kw_iload_n (pc := 37) (i := 20) (k := 1) (n := 1) rfl rfl rfl ?_
        refine kw_callV (pc := 38) (i := 21) (Y := mX8_turnLine) (a := 0) (As := [.int i]) (st := []) kw_hE rfl rfl lvX8_214 arX8_turnLine (c_X8_turnLine_0 l T hT0 hT1 σ hI i (by first | omega | decide) (by first | omega | decide) (show (σ.1 0 27).toInt ≤ 39 from by omega)) (by decide) (Nat.le_of_ble_eq_true rfl) rfl (fun v S20 p19 => ?_)
        obtain ⟨⟨I25, F26⟩, rfl, f21, f22, f23, ef24⟩ := p19
        have F27 : kw_FM [15, 1025, 1027] σ S20 := kw_FM.tr hF0 F26 (by decide)
        replace hF := kf_le ef24 hF
        have f21 : (S20.1 0 27).toInt = (σ.1 0 27).toInt + 1 := f21
        have f22 : (S20.1 0 10).toInt = (σ.1 0 10).toInt := f22
        have f23 : (S20.1 0 22).toInt = (σ.1 0 22).toInt := f23
        show kw_AW l 4 kw_E0 KM mX8_take (p_X8_take_0 T σ i) 41 [(0, .ref 0), (1, .int i)] [] S20
        refine kw_aload_n (pc := 41) (i := 22) (k := 0) (n := 0) rfl rfl rfl ?_
        refine kw_get (pc := 42) (i := 23) (v := .ref 14) rfl rfl rfl lkX8_57 (fun _ => rfl) ?_
        refine kw_iload_n (pc := 45) (i := 24) (k := 1) (n := 1) rfl rfl rfl ?_
        refine kw_iald (pc := 46) (i := 25) (n := 6) rfl rfl (by omega) (by omega) (fun z28 e_z28 => ?_)
        replace hF := kf_le e_z28 hF
        have t_z28 := congrArg Int32.toInt e_z28
        have r_z28 := kw_rng z28
        exact kw_ireturn (pc := 47) (i := 26) (ty := .int) rfl rfl rfl ⟨⟨I25, F27⟩, _, rfl, hF⟩
      · replace hF := kf_p c18 hF
        refine kw_bipush (pc := 33) (i := 17) (v := (-2)) rfl rfl ?_
        exact kw_ireturn (pc := 35) (i := 18) (ty := .int) rfl rfl rfl ⟨⟨hI, hF0⟩, _, rfl, hF⟩
    · replace hF := kf_p c16 hF
      refine kw_bipush (pc := 21) (i := 11) (v := (-4)) rfl rfl ?_
      exact kw_ireturn (pc := 23) (i := 12) (ty := .int) rfl rfl rfl ⟨⟨hI, hF0⟩, _, rfl, hF⟩
  · replace hF := kf_p c8 hF
    refine kw_iconst (pc := 8) (i := 4) (v := (-1)) rfl rfl ?_
    exact kw_ireturn (pc := 9) (i := 5) (ty := .int) rfl rfl rfl ⟨⟨hI, hF0⟩, _, rfl, hF⟩
noncomputable def f_X8_hour_0 (σ : kw_S)  : Int32 × kw_S := if (σ.1 0 10).toInt = 0 then ((((-4) : Int32), σ)) else (if (σ.1 0 27).toInt = (40 : Int32).toInt then ((((-2) : Int32), σ)) else (kf_l (f_X8_note_0 σ) fun S1 => kf_l (f_X8_pass_0 S1 (S1.1 0 25)) fun S2 => kf_l (S2.1 0 24).toInt64 fun z3 => kf_b (f_X8_part_0 S2 z3 (1 : Int64)) fun z4 S5 => kf_b (f_X8_ask_0 S5 (S5.1 0 23) (1 : Int32)) fun z6 S7 => (z6, S7)))
theorem f_X8_hour_0_u (σ : kw_S)  : f_X8_hour_0 σ  = if (σ.1 0 10).toInt = 0 then ((((-4) : Int32), σ)) else (if (σ.1 0 27).toInt = (40 : Int32).toInt then ((((-2) : Int32), σ)) else (kf_l (f_X8_note_0 σ) fun S1 => kf_l (f_X8_pass_0 S1 (S1.1 0 25)) fun S2 => kf_l (S2.1 0 24).toInt64 fun z3 => kf_b (f_X8_part_0 S2 z3 (1 : Int64)) fun z4 S5 => kf_b (f_X8_ask_0 S5 (S5.1 0 23) (1 : Int32)) fun z6 S7 => (z6, S7))) := rfl
abbrev p_X8_hour_0 (T : Int) (σ : kw_S)  : Option Value → kw_S → Prop := fun vv σ' => (kw_I (bM (T + 1)) σ' ∧ kw_FM [14, 15, 1002, 1022, 1023, 1024, 1027, 2003, 2004] σ σ') ∧ ∃ r : Int32, vv = some (.int r) ∧ (r, σ') = f_X8_hour_0 σ
set_option maxRecDepth 100000 in
set_option maxHeartbeats 4000000 in
theorem c_X8_hour_0 (l : Launch) (T : Int) (hT0 : 0 ≤ T) (hT1 : T ≤ 3000) (σ : kw_S) (hI : kw_I (bM T) σ) (hp0 : T ≤ 2000) : kw_Met l 5 KM mX8_hour [.ref 0] σ (p_X8_hour_0 T σ) := by
  have hF0 : kw_FM [14, 15, 1002, 1022, 1023, 1024, 1027, 2003, 2004] σ σ := kw_FM.rf
  have hF := (f_X8_hour_0_u σ).symm
  have q_m4 : (-4 : Int32).toInt = -4 := rfl
  have q_m2 : (-2 : Int32).toInt = -2 := rfl
  have q_1 : (1 : Int32).toInt = 1 := rfl
  have q_40 : (40 : Int32).toInt = 40 := rfl
  refine kw_Met.of (by decide) rfl tX8_hour (Nat.le_of_ble_eq_true rfl) ?_
  show kw_AW l 5 kw_E0 KM mX8_hour (p_X8_hour_0 T σ) 0 [(0, .ref 0)] [] σ
  refine kw_aload_n (pc := 0) (i := 0) (k := 0) (n := 0) rfl rfl rfl ?_
  refine kw_get (pc := 1) (i := 1) (v := .int (σ.1 0 10)) rfl rfl rfl lkX8_163 (fun _ => rfl) ?_
  have b1 : 0 ≤ (σ.1 0 10).toInt ∧ (σ.1 0 10).toInt ≤ 6 := hI 0 10
  refine kw_if_ne (pc := 4) (i := 2) (tgt := 10) rfl rfl (fun c2 => ?_) (fun c2 => ?_)
  · replace hF := kf_n c2 hF
    refine kw_aload_n (pc := 10) (i := 5) (k := 0) (n := 0) rfl rfl rfl ?_
    refine kw_get (pc := 11) (i := 6) (v := .int (σ.1 0 27)) rfl rfl rfl lkX8_178 (fun _ => rfl) ?_
    have b3 : 0 ≤ (σ.1 0 27).toInt ∧ (σ.1 0 27).toInt ≤ 40 := hI 0 27
    refine kw_bipush (pc := 14) (i := 7) (v := 40) rfl rfl ?_
    refine kw_icmp_ne (pc := 16) (i := 8) (tgt := 22) rfl rfl (fun c4 => ?_) (fun c4 => ?_)
    · replace hF := kf_n c4 hF
      refine kw_aload_n (pc := 22) (i := 11) (k := 0) (n := 0) rfl rfl rfl ?_
      refine kw_callV (pc := 23) (i := 12) (Y := mX8_note) (a := 0) (As := []) (st := []) kw_hE rfl rfl lvX8_208 arX8_note (c_X8_note_0 l T hT0 hT1 σ hI  (show (σ.1 0 27).toInt ≤ 39 from by omega)) (by decide) (Nat.le_of_ble_eq_true rfl) rfl (fun v S6 p5 => ?_)
      obtain ⟨⟨I12, F13⟩, rfl, f7, f8, f9, f10, ef11⟩ := p5
      have F14 : kw_FM [14, 15, 1002, 1022, 1023, 1024, 1027, 2003, 2004] σ S6 := kw_FM.tr hF0 F13 (by decide)
      replace hF := kf_le ef11 hF
      have f7 : (S6.1 0 27).toInt = (σ.1 0 27).toInt + 1 := f7
      have f8 : (S6.1 0 10).toInt = (σ.1 0 10).toInt := f8
      have f9 : (S6.1 0 22).toInt = (σ.1 0 22).toInt := f9
      have f10 : (S6.1 0 25).toInt = (σ.1 0 25).toInt := f10
      show kw_AW l 5 kw_E0 KM mX8_hour (p_X8_hour_0 T σ) 26 [(0, .ref 0)] [] S6
      refine kw_aload_n (pc := 26) (i := 13) (k := 0) (n := 0) rfl rfl rfl ?_
      refine kw_aload_n (pc := 27) (i := 14) (k := 0) (n := 0) rfl rfl rfl ?_
      refine kw_get (pc := 28) (i := 15) (v := .int (S6.1 0 25)) rfl rfl rfl lkX8_175 (fun _ => rfl) ?_
      have b15 : 0 ≤ (S6.1 0 25).toInt ∧ (S6.1 0 25).toInt ≤ 63 := I12 0 25
      refine kw_callV (pc := 31) (i := 16) (Y := mX8_pass) (a := 0) (As := [.int (S6.1 0 25)]) (st := []) kw_hE rfl rfl lvX8_220 arX8_pass (c_X8_pass_0 l T hT0 hT1 S6 I12 (S6.1 0 25) ) (by decide) (Nat.le_of_ble_eq_true rfl) rfl (fun v S17 p16 => ?_)
      obtain ⟨⟨I22, F23⟩, rfl, f18, f19, f20, ef21⟩ := p16
      have F24 : kw_FM [14, 15, 1002, 1022, 1023, 1024, 1027, 2003, 2004] σ S17 := kw_FM.tr F14 F23 (by decide)
      have w_25 : (S17.1 0 27).toInt = (S6.1 0 27).toInt := congrArg Int32.toInt (kw_FM.at0 (j := 27) F23 (by decide))
      replace hF := kf_le ef21 hF
      have f18 : (S17.1 0 10).toInt = (S6.1 0 10).toInt := f18
      have f19 : (S17.1 0 25).toInt = (S6.1 0 25).toInt := f19
      have f20 : (S17.1 0 27).toInt = (S6.1 0 27).toInt := f20
      show kw_AW l 5 kw_E0 KM mX8_hour (p_X8_hour_0 T σ) 34 [(0, .ref 0)] [] S17
      refine kw_aload_n (pc := 34) (i := 17) (k := 0) (n := 0) rfl rfl rfl ?_
      refine kw_aload_n (pc := 35) (i := 18) (k := 0) (n := 0) rfl rfl rfl ?_
      refine kw_get (pc := 36) (i := 19) (v := .int (S17.1 0 24)) rfl rfl rfl lkX8_172 (fun _ => rfl) ?_
      have b26 := kw_rng (S17.1 0 24)
      refine kw_i2l (pc := 39) (i := 20) rfl (fun z27 e_z27 t_z27 => ?_)
      replace hF := kf_le e_z27 hF
      refine kw_lconst (pc := 40) (i := 21) (v := 1) rfl rfl ?_
      refine kw_callV (pc := 41) (i := 22) (Y := mX8_part) (a := 0) (As := [.long z27, .long 1]) (st := []) kw_hE rfl rfl lvX8_223 arX8_part (c_X8_part_0 l (T + 1) (by omega) (by omega) S17 I22 z27 1 (by first | omega | decide)) (by decide) (Nat.le_of_ble_eq_true rfl) rfl (fun v S29 p28 => ?_)
      obtain ⟨⟨I33, F34⟩, z32, rfl, f30, ef31⟩ := p28
      have F35 : kw_FM [14, 15, 1002, 1022, 1023, 1024, 1027, 2003, 2004] σ S29 := kw_FM.tr F24 F34 (by decide)
      have w_36 : (S29.1 0 27).toInt = (S17.1 0 27).toInt := congrArg Int32.toInt (kw_FM.at0 (j := 27) F34 (by decide))
      replace hF := kf_be ef31 hF
      have r_z32 := kw_rng z32
      show kw_AW l 5 kw_E0 KM mX8_hour (p_X8_hour_0 T σ) 44 [(0, .ref 0)] [.int z32] S29
      refine kw_pop (pc := 44) (i := 23) rfl rfl ?_
      refine kw_aload_n (pc := 45) (i := 24) (k := 0) (n := 0) rfl rfl rfl ?_
      refine kw_aload_n (pc := 46) (i := 25) (k := 0) (n := 0) rfl rfl rfl ?_
      refine kw_get (pc := 47) (i := 26) (v := .int (S29.1 0 23)) rfl rfl rfl lkX8_169 (fun _ => rfl) ?_
      have b37 := kw_rng (S29.1 0 23)
      refine kw_iconst (pc := 50) (i := 27) (v := 1) rfl rfl ?_
      refine kw_callV (pc := 51) (i := 28) (Y := mX8_ask) (a := 0) (As := [.int (S29.1 0 23), .int 1]) (st := []) kw_hE rfl rfl lvX8_119 arX8_ask (c_X8_ask_0 l (T + 1) (by omega) (by omega) S29 I33 (S29.1 0 23) 1 ) (by decide) (Nat.le_of_ble_eq_true rfl) rfl (fun v S39 p38 => ?_)
      obtain ⟨⟨I43, F44⟩, z42, rfl, f40, ef41⟩ := p38
      have F45 : kw_FM [14, 15, 1002, 1022, 1023, 1024, 1027, 2003, 2004] σ S39 := kw_FM.tr F35 F44 (by decide)
      have w_46 : (S39.1 0 27).toInt = (S29.1 0 27).toInt := congrArg Int32.toInt (kw_FM.at0 (j := 27) F44 (by decide))
      replace hF := kf_be ef41 hF
      have r_z42 := kw_rng z42
      show kw_AW l 5 kw_E0 KM mX8_hour (p_X8_hour_0 T σ) 54 [(0, .ref 0)] [.int z42] S39
      exact kw_ireturn (pc := 54) (i := 29) (ty := .int) rfl rfl rfl ⟨⟨I43, F45⟩, _, rfl, hF⟩
    · replace hF := kf_p c4 hF
      refine kw_bipush (pc := 19) (i := 9) (v := (-2)) rfl rfl ?_
      exact kw_ireturn (pc := 21) (i := 10) (ty := .int) rfl rfl rfl ⟨⟨(kw_monoM (by omega) hI), hF0⟩, _, rfl, hF⟩
  · replace hF := kf_p c2 hF
    refine kw_bipush (pc := 7) (i := 3) (v := (-4)) rfl rfl ?_
    exact kw_ireturn (pc := 9) (i := 4) (ty := .int) rfl rfl rfl ⟨⟨(kw_monoM (by omega) hI), hF0⟩, _, rfl, hF⟩
noncomputable def f_X8_undo_0 (σ : kw_S) (n : Int32) : Int32 × kw_S := kf_l (f_X8_in σ n (0 : Int32) (σ.1 0 27)) fun z1 => if z1.toInt = 0 then ((((-1) : Int32), σ)) else (kf_l ((σ.1 0 27) - n) fun z2 => if 0 < z2.toInt then (kf_l ((10 : Int32) * n) fun z3 => kf_l (f_X8_read_0_15 σ z3) fun S4 => (z2, kw_ui S4 0 27 n)) else ((z2, σ)))
theorem f_X8_undo_0_u (σ : kw_S) (n : Int32) : f_X8_undo_0 σ n = kf_l (f_X8_in σ n (0 : Int32) (σ.1 0 27)) fun z1 => if z1.toInt = 0 then ((((-1) : Int32), σ)) else (kf_l ((σ.1 0 27) - n) fun z2 => if 0 < z2.toInt then (kf_l ((10 : Int32) * n) fun z3 => kf_l (f_X8_read_0_15 σ z3) fun S4 => (z2, kw_ui S4 0 27 n)) else ((z2, σ))) := rfl
abbrev p_X8_undo_0 (T : Int) (σ : kw_S) (n : Int32) : Option Value → kw_S → Prop := fun vv σ' => (kw_I (bM T) σ' ∧ kw_FM [14, 1022, 1023, 1024, 1025, 1027] σ σ') ∧ ∃ r : Int32, vv = some (.int r) ∧ (r, σ') = f_X8_undo_0 σ n
set_option maxRecDepth 100000 in
set_option maxHeartbeats 4000000 in
theorem c_X8_undo_0 (l : Launch) (T : Int) (hT0 : 0 ≤ T) (hT1 : T ≤ 3000) (σ : kw_S) (hI : kw_I (bM T) σ) (n : Int32) : kw_Met l 2 KM mX8_undo [.ref 0, .int n] σ (p_X8_undo_0 T σ n) := by
  have r_n := kw_rng n
  have hF0 : kw_FM [14, 1022, 1023, 1024, 1025, 1027] σ σ := kw_FM.rf
  have hF := (f_X8_undo_0_u σ n).symm
  have q_m1 : (-1 : Int32).toInt = -1 := rfl
  have q_0 : (0 : Int32).toInt = 0 := rfl
  have q_10 : (10 : Int32).toInt = 10 := rfl
  refine kw_Met.of (by decide) rfl tX8_undo (Nat.le_of_ble_eq_true rfl) ?_
  show kw_AW l 2 kw_E0 KM mX8_undo (p_X8_undo_0 T σ n) 0 [(0, .ref 0), (1, .int n)] [] σ
  refine kw_iload_n (pc := 0) (i := 0) (k := 1) (n := 1) rfl rfl rfl ?_
  refine kw_iconst (pc := 1) (i := 1) (v := 0) rfl rfl ?_
  refine kw_aload_n (pc := 2) (i := 2) (k := 0) (n := 0) rfl rfl rfl ?_
  refine kw_get (pc := 3) (i := 3) (v := .int (σ.1 0 27)) rfl rfl rfl lkX8_178 (fun _ => rfl) ?_
  have b1 : 0 ≤ (σ.1 0 27).toInt ∧ (σ.1 0 27).toInt ≤ 40 := hI 0 27
  refine kw_callS (pc := 6) (i := 4) (Y := mX8_in) (As := [.int n, .int 0, .int (σ.1 0 27)]) (st := []) kw_hE rfl lsX8_93 arX8_in (c_X8_in l T hT0 hT1 σ hI n 0 (σ.1 0 27) ) (by decide) (Nat.le_of_ble_eq_true rfl) rfl (fun v S3 p2 => ?_)
  obtain ⟨e9, z8, rfl, f4, f5, f6, ef7⟩ := p2
  rw [e9]
  replace hF := kf_le ef7 hF
  have r_z8 := kw_rng z8
  show kw_AW l 2 kw_E0 KM mX8_undo (p_X8_undo_0 T σ n) 9 [(0, .ref 0), (1, .int n)] [.int z8] σ
  refine kw_if_ne (pc := 9) (i := 5) (tgt := 14) rfl rfl (fun c10 => ?_) (fun c10 => ?_)
  · replace hF := kf_n c10 hF
    refine kw_aload_n (pc := 14) (i := 8) (k := 0) (n := 0) rfl rfl rfl ?_
    refine kw_get (pc := 15) (i := 9) (v := .int (σ.1 0 27)) rfl rfl rfl lkX8_178 (fun _ => rfl) ?_
    refine kw_iload_n (pc := 18) (i := 10) (k := 1) (n := 1) rfl rfl rfl ?_
    refine kw_isub (pc := 19) (i := 11) rfl (fun z11 e_z11 t_z11 => ?_)
    replace hF := kf_le e_z11 hF
    first | (have u_z11 : z11.toInt = (σ.1 0 27).toInt - n.toInt := (by omega); clear t_z11) | skip
    refine kw_istore_n (pc := 20) (i := 12) (n := 2) (lv' := [(2, .int z11), (0, .ref 0), (1, .int n)]) rfl rfl (by decide) rfl ?_
    refine kw_iload_n (pc := 21) (i := 13) (k := 0) (n := 2) rfl rfl rfl ?_
    refine kw_if_le (pc := 22) (i := 14) (tgt := 42) rfl rfl (fun c12 => ?_) (fun c12 => ?_)
    · replace hF := kf_nl c12 hF
      refine kw_iload_n (pc := 42) (i := 25) (k := 0) (n := 2) rfl rfl rfl ?_
      exact kw_ireturn (pc := 43) (i := 26) (ty := .int) rfl rfl rfl ⟨⟨hI, hF0⟩, _, rfl, hF⟩
    · replace hF := kf_p c12 hF
      refine kw_aload_n (pc := 25) (i := 15) (k := 1) (n := 0) rfl rfl rfl ?_
      refine kw_aload_n (pc := 26) (i := 16) (k := 1) (n := 0) rfl rfl rfl ?_
      refine kw_get (pc := 27) (i := 17) (v := .ref 15) rfl rfl rfl lkX8_60 (fun _ => rfl) ?_
      refine kw_bipush (pc := 30) (i := 18) (v := 10) rfl rfl ?_
      refine kw_iload_n (pc := 32) (i := 19) (k := 2) (n := 1) rfl rfl rfl ?_
      refine kw_imul (pc := 33) (i := 20) rfl (fun z13 e_z13 t_z13 => ?_)
      replace hF := kf_le e_z13 hF
      rw [show (10 : Int32).toInt = 10 from rfl] at t_z13
      first | (have u_z13 : z13.toInt = 10 * n.toInt := (by omega); clear t_z13) | skip
      refine kw_callV (pc := 34) (i := 21) (Y := mX8_read) (a := 0) (As := [.ref 15, .int z13]) (st := []) kw_hE rfl rfl lvX8_227 arX8_read (c_X8_read_0_15 l T hT0 hT1 σ hI z13 (by first | omega | decide) (by first | omega | decide) (by first | omega | decide)) (by decide) (Nat.le_of_ble_eq_true rfl) rfl (fun v S15 p14 => ?_)
      obtain ⟨⟨I19, F20⟩, rfl, f16, f17, ef18⟩ := p14
      have F21 : kw_FM [14, 1022, 1023, 1024, 1025, 1027] σ S15 := kw_FM.tr hF0 F20 (by decide)
      have w_22 : (S15.1 0 27).toInt = (σ.1 0 27).toInt := congrArg Int32.toInt (kw_FM.at0 (j := 27) F20 (by decide))
      replace hF := kf_le ef18 hF
      have f16 : (S15.1 0 10).toInt = (σ.1 0 10).toInt := f16
      have f17 : (S15.1 0 27).toInt = (σ.1 0 27).toInt := f17
      show kw_AW l 2 kw_E0 KM mX8_undo (p_X8_undo_0 T σ n) 37 [(2, .int z11), (0, .ref 0), (1, .int n)] [] S15
      refine kw_aload_n (pc := 37) (i := 22) (k := 1) (n := 0) rfl rfl rfl ?_
      refine kw_iload_n (pc := 38) (i := 23) (k := 2) (n := 1) rfl rfl rfl ?_
      refine kw_puti (pc := 39) (i := 24) (z := 0) rfl rfl rfl lpX8_178 rfl rfl ?_
      have I23 : kw_I (bM T) (kw_ui S15 0 27 n) := kw_I_ui I19 (show 0 ≤ n.toInt by omega) (show n.toInt ≤ 40 by omega)
      have F24 : kw_FM [14, 1022, 1023, 1024, 1025, 1027] σ (kw_ui S15 0 27 n) := kw_FM_ui0 F21 (by decide)
      refine kw_iload_n (pc := 42) (i := 25) (k := 0) (n := 2) rfl rfl rfl ?_
      exact kw_ireturn (pc := 43) (i := 26) (ty := .int) rfl rfl rfl ⟨⟨I23, F24⟩, _, rfl, hF⟩
  · replace hF := kf_p c10 hF
    refine kw_iconst (pc := 12) (i := 6) (v := (-1)) rfl rfl ?_
    exact kw_ireturn (pc := 13) (i := 7) (ty := .int) rfl rfl rfl ⟨⟨hI, hF0⟩, _, rfl, hF⟩
noncomputable def l_X8_keep_0_29 (a1 : Int32) (a2 : Int32) : Nat → Int32 → kw_S → Int32 × kw_S
  | 0, _, S => (0, S)
  | n + 1, x3, S => kf_l ((10 : Int32) * (S.1 0 27)) fun z3 => if x3.toInt < z3.toInt then (kf_l (a2 + x3) fun z7 => kf_l (S.1 15 x3.toNatClampNeg) fun z8 => kf_l (x3 + Int32.ofInt 1) fun z9 => l_X8_keep_0_29 a1 a2 n z9 (kw_ui S 17 z7.toNatClampNeg z8)) else (kf_l (a2 + (400 : Int32)) fun z4 => kf_l (f_X8_write_0_17 S z4) fun S5 => kf_l (a2 + (410 : Int32)) fun z6 => ((S5.1 0 27), kw_ui (kw_ui S5 17 z6.toNatClampNeg (S5.1 0 27)) 16 a1.toNatClampNeg 1))
theorem l_X8_keep_0_29_s (a1 : Int32) (a2 : Int32) (n : Nat) (x3 : Int32) (S : kw_S) : l_X8_keep_0_29 a1 a2 (n + 1) x3 S = kf_l ((10 : Int32) * (S.1 0 27)) fun z3 => if x3.toInt < z3.toInt then (kf_l (a2 + x3) fun z7 => kf_l (S.1 15 x3.toNatClampNeg) fun z8 => kf_l (x3 + Int32.ofInt 1) fun z9 => l_X8_keep_0_29 a1 a2 n z9 (kw_ui S 17 z7.toNatClampNeg z8)) else (kf_l (a2 + (400 : Int32)) fun z4 => kf_l (f_X8_write_0_17 S z4) fun S5 => kf_l (a2 + (410 : Int32)) fun z6 => ((S5.1 0 27), kw_ui (kw_ui S5 17 z6.toNatClampNeg (S5.1 0 27)) 16 a1.toNatClampNeg 1)) := rfl
noncomputable def f_X8_keep_0 (σ : kw_S) (k : Int32) : Int32 × kw_S := kf_l (f_X8_in σ k (0 : Int32) (2 : Int32)) fun z1 => if z1.toInt = 0 then ((((-1) : Int32), σ)) else (if (σ.1 0 10).toInt = 0 then ((((-4) : Int32), σ)) else (kf_l ((411 : Int32) * k) fun z2 => l_X8_keep_0_29 k z2 ((401 - (0 : Int32).toInt).toNat + 1) (0 : Int32) σ))
theorem f_X8_keep_0_u (σ : kw_S) (k : Int32) : f_X8_keep_0 σ k = kf_l (f_X8_in σ k (0 : Int32) (2 : Int32)) fun z1 => if z1.toInt = 0 then ((((-1) : Int32), σ)) else (if (σ.1 0 10).toInt = 0 then ((((-4) : Int32), σ)) else (kf_l ((411 : Int32) * k) fun z2 => l_X8_keep_0_29 k z2 ((401 - (0 : Int32).toInt).toNat + 1) (0 : Int32) σ)) := rfl
abbrev p_X8_keep_0 (T : Int) (σ : kw_S) (k : Int32) : Option Value → kw_S → Prop := fun vv σ' => (kw_I (bM T) σ' ∧ kw_FM [16, 17] σ σ') ∧ ∃ r : Int32, vv = some (.int r) ∧ (r, σ') = f_X8_keep_0 σ k
set_option maxRecDepth 100000 in
set_option maxHeartbeats 4000000 in
theorem c_X8_keep_0 (l : Launch) (T : Int) (hT0 : 0 ≤ T) (hT1 : T ≤ 3000) (σ : kw_S) (hI : kw_I (bM T) σ) (k : Int32) : kw_Met l 2 KM mX8_keep [.ref 0, .int k] σ (p_X8_keep_0 T σ k) := by
  have r_k := kw_rng k
  have hF0 : kw_FM [16, 17] σ σ := kw_FM.rf
  have hF := (f_X8_keep_0_u σ k).symm
  have q_m4 : (-4 : Int32).toInt = -4 := rfl
  have q_m1 : (-1 : Int32).toInt = -1 := rfl
  have q_0 : (0 : Int32).toInt = 0 := rfl
  have q_1 : (1 : Int32).toInt = 1 := rfl
  have q_2 : (2 : Int32).toInt = 2 := rfl
  have q_10 : (10 : Int32).toInt = 10 := rfl
  have q_400 : (400 : Int32).toInt = 400 := rfl
  have q_410 : (410 : Int32).toInt = 410 := rfl
  have q_411 : (411 : Int32).toInt = 411 := rfl
  refine kw_Met.of (by decide) rfl tX8_keep (Nat.le_of_ble_eq_true rfl) ?_
  show kw_AW l 2 kw_E0 KM mX8_keep (p_X8_keep_0 T σ k) 0 [(0, .ref 0), (1, .int k)] [] σ
  refine kw_iload_n (pc := 0) (i := 0) (k := 1) (n := 1) rfl rfl rfl ?_
  refine kw_iconst (pc := 1) (i := 1) (v := 0) rfl rfl ?_
  refine kw_iconst (pc := 2) (i := 2) (v := 2) rfl rfl ?_
  refine kw_callS (pc := 3) (i := 3) (Y := mX8_in) (As := [.int k, .int 0, .int 2]) (st := []) kw_hE rfl lsX8_93 arX8_in (c_X8_in l T hT0 hT1 σ hI k 0 2 ) (by decide) (Nat.le_of_ble_eq_true rfl) rfl (fun v S2 p1 => ?_)
  obtain ⟨e8, z7, rfl, f3, f4, f5, ef6⟩ := p1
  rw [e8]
  replace hF := kf_le ef6 hF
  have r_z7 := kw_rng z7
  show kw_AW l 2 kw_E0 KM mX8_keep (p_X8_keep_0 T σ k) 6 [(0, .ref 0), (1, .int k)] [.int z7] σ
  refine kw_if_ne (pc := 6) (i := 4) (tgt := 11) rfl rfl (fun c9 => ?_) (fun c9 => ?_)
  · replace hF := kf_n c9 hF
    refine kw_aload_n (pc := 11) (i := 7) (k := 0) (n := 0) rfl rfl rfl ?_
    refine kw_get (pc := 12) (i := 8) (v := .int (σ.1 0 10)) rfl rfl rfl lkX8_163 (fun _ => rfl) ?_
    have b10 : 0 ≤ (σ.1 0 10).toInt ∧ (σ.1 0 10).toInt ≤ 6 := hI 0 10
    refine kw_if_ne (pc := 15) (i := 9) (tgt := 21) rfl rfl (fun c11 => ?_) (fun c11 => ?_)
    · replace hF := kf_n c11 hF
      refine kw_sipush (pc := 21) (i := 12) (v := 411) rfl rfl ?_
      refine kw_iload_n (pc := 24) (i := 13) (k := 1) (n := 1) rfl rfl rfl ?_
      refine kw_imul (pc := 25) (i := 14) rfl (fun z12 e_z12 t_z12 => ?_)
      replace hF := kf_le e_z12 hF
      rw [show (411 : Int32).toInt = 411 from rfl] at t_z12
      first | (have u_z12 : z12.toInt = 411 * k.toInt := (by omega); clear t_z12) | skip
      refine kw_istore_n (pc := 26) (i := 15) (n := 2) (lv' := [(2, .int z12), (0, .ref 0), (1, .int k)]) rfl rfl (by decide) rfl ?_
      refine kw_iconst (pc := 27) (i := 16) (v := 0) rfl rfl ?_
      refine kw_istore_n (pc := 28) (i := 17) (n := 3) (lv' := [(3, .int 0), (2, .int z12), (0, .ref 0), (1, .int k)]) rfl rfl (by decide) rfl ?_
      have L17 : ∀ (n21 : Nat) (x13 : Int32) (S14 : kw_S), kw_I (bM T) S14 → kw_FM [16, 17] σ S14 → 0 ≤ x13.toInt → l_X8_keep_0_29 k z12 n21 x13 S14 = (f_X8_keep_0 σ k) → (401 - x13.toInt).toNat < n21 → kw_AW l 2 kw_E0 KM mX8_keep (p_X8_keep_0 T σ k) 29 [(3, .int x13), (2, .int z12), (0, .ref 0), (1, .int k)] [] S14 := by
        intro n21
        induction n21 with
        | zero => intro x13 S14 I15 F16 v19 hF m20; exact absurd m20 (Nat.not_lt_zero _)
        | succ n21 ih18 =>
          intro x13 S14 I15 F16 v19 hF m20
          replace hF := kf_st (l_X8_keep_0_29_s _ _ _ _ _) hF
          have r_x13 := kw_rng x13
          refine kw_iload_n (pc := 29) (i := 18) (k := 0) (n := 3) rfl rfl rfl ?_
          refine kw_bipush (pc := 30) (i := 19) (v := 10) rfl rfl ?_
          refine kw_aload_n (pc := 32) (i := 20) (k := 2) (n := 0) rfl rfl rfl ?_
          refine kw_get (pc := 33) (i := 21) (v := .int (S14.1 0 27)) rfl rfl rfl lkX8_178 (fun _ => rfl) ?_
          have b22 : 0 ≤ (S14.1 0 27).toInt ∧ (S14.1 0 27).toInt ≤ 40 := I15 0 27
          refine kw_imul (pc := 36) (i := 22) rfl (fun z23 e_z23 t_z23 => ?_)
          replace hF := kf_le e_z23 hF
          rw [show (10 : Int32).toInt = 10 from rfl] at t_z23
          first | (have u_z23 : z23.toInt = 10 * (S14.1 0 27).toInt := (by omega); clear t_z23) | skip
          refine kw_icmp_ge (pc := 37) (i := 23) (tgt := 60) rfl rfl (fun c24 => ?_) (fun c24 => ?_)
          · replace hF := kf_nl c24 hF
            refine kw_aload_n (pc := 60) (i := 36) (k := 2) (n := 0) rfl rfl rfl ?_
            refine kw_aload_n (pc := 61) (i := 37) (k := 2) (n := 0) rfl rfl rfl ?_
            refine kw_get (pc := 62) (i := 38) (v := .ref 17) rfl rfl rfl lkX8_66 (fun _ => rfl) ?_
            refine kw_iload_n (pc := 65) (i := 39) (k := 1) (n := 2) rfl rfl rfl ?_
            refine kw_sipush (pc := 66) (i := 40) (v := 400) rfl rfl ?_
            refine kw_iadd (pc := 69) (i := 41) rfl (fun z25 e_z25 t_z25 => ?_)
            replace hF := kf_le e_z25 hF
            first | (have u_z25 : z25.toInt = z12.toInt + 400 := (by omega); clear t_z25) | skip
            refine kw_callV (pc := 70) (i := 42) (Y := mX8_write) (a := 0) (As := [.ref 17, .int z25]) (st := []) kw_hE rfl rfl lvX8_192 arX8_write (c_X8_write_0_17 l T hT0 hT1 S14 I15 z25 (by first | omega | decide) (by first | omega | decide) (by first | omega | decide)) (by decide) (Nat.le_of_ble_eq_true rfl) rfl (fun v S27 p26 => ?_)
            obtain ⟨⟨I29, F30⟩, rfl, ef28⟩ := p26
            have F31 : kw_FM [16, 17] σ S27 := kw_FM.tr F16 F30 (by decide)
            have w_32 : (S27.1 0 27).toInt = (S14.1 0 27).toInt := congrArg Int32.toInt (kw_FM.at0 (j := 27) F30 (by decide))
            replace hF := kf_le ef28 hF
            show kw_AW l 2 kw_E0 KM mX8_keep (p_X8_keep_0 T σ k) 73 [(3, .int x13), (2, .int z12), (0, .ref 0), (1, .int k)] [] S27
            refine kw_aload_n (pc := 73) (i := 43) (k := 2) (n := 0) rfl rfl rfl ?_
            refine kw_get (pc := 74) (i := 44) (v := .ref 17) rfl rfl rfl lkX8_66 (fun _ => rfl) ?_
            refine kw_iload_n (pc := 77) (i := 45) (k := 1) (n := 2) rfl rfl rfl ?_
            refine kw_sipush (pc := 78) (i := 46) (v := 410) rfl rfl ?_
            refine kw_iadd (pc := 81) (i := 47) rfl (fun z33 e_z33 t_z33 => ?_)
            replace hF := kf_le e_z33 hF
            first | (have u_z33 : z33.toInt = z12.toInt + 410 := (by omega); clear t_z33) | skip
            refine kw_aload_n (pc := 82) (i := 48) (k := 2) (n := 0) rfl rfl rfl ?_
            refine kw_get (pc := 83) (i := 49) (v := .int (S27.1 0 27)) rfl rfl rfl lkX8_178 (fun _ => rfl) ?_
            have b34 : 0 ≤ (S27.1 0 27).toInt ∧ (S27.1 0 27).toInt ≤ 40 := I29 0 27
            refine kw_iast (pc := 86) (i := 50) (n := 1233) rfl rfl (by omega) (by omega) ?_
            have I35 : kw_I (bM T) (kw_ui S27 17 z33.toNatClampNeg (S27.1 0 27)) := kw_wI I29 (x := z33) (S27.1 0 27) (by omega) (410) (by omega) (by omega) (by omega) (by omega)
            have F36 : kw_FM [16, 17] σ (kw_ui S27 17 z33.toNatClampNeg (S27.1 0 27)) := kw_FM_ui F31 (by decide) (by decide)
            refine kw_aload_n (pc := 87) (i := 51) (k := 2) (n := 0) rfl rfl rfl ?_
            refine kw_get (pc := 88) (i := 52) (v := .ref 16) rfl rfl rfl lkX8_63 (fun _ => rfl) ?_
            refine kw_iload_n (pc := 91) (i := 53) (k := 3) (n := 1) rfl rfl rfl ?_
            refine kw_iconst (pc := 92) (i := 54) (v := 1) rfl rfl ?_
            refine kw_iast (pc := 93) (i := 55) (n := 3) rfl rfl (by omega) (by omega) ?_
            have I37 : kw_I (bM T) (kw_ui (kw_ui S27 17 z33.toNatClampNeg (S27.1 0 27)) 16 k.toNatClampNeg 1) := kw_I_ui I35 (kw_rng (1 : Int32)).1 (Int.le_of_lt_add_one (kw_rng (1 : Int32)).2)
            have F38 : kw_FM [16, 17] σ (kw_ui (kw_ui S27 17 z33.toNatClampNeg (S27.1 0 27)) 16 k.toNatClampNeg 1) := kw_FM_ui F36 (by decide) (by decide)
            refine kw_aload_n (pc := 94) (i := 56) (k := 2) (n := 0) rfl rfl rfl ?_
            refine kw_get (pc := 95) (i := 57) (v := .int (S27.1 0 27)) rfl rfl rfl lkX8_178 (fun _ => rfl) ?_
            exact kw_ireturn (pc := 98) (i := 58) (ty := .int) rfl rfl rfl ⟨⟨I37, F38⟩, _, rfl, hF⟩
          · replace hF := kf_p c24 hF
            refine kw_aload_n (pc := 40) (i := 24) (k := 2) (n := 0) rfl rfl rfl ?_
            refine kw_get (pc := 41) (i := 25) (v := .ref 17) rfl rfl rfl lkX8_66 (fun _ => rfl) ?_
            refine kw_iload_n (pc := 44) (i := 26) (k := 1) (n := 2) rfl rfl rfl ?_
            refine kw_iload_n (pc := 45) (i := 27) (k := 0) (n := 3) rfl rfl rfl ?_
            refine kw_iadd (pc := 46) (i := 28) rfl (fun z39 e_z39 t_z39 => ?_)
            replace hF := kf_le e_z39 hF
            first | (have u_z39 : z39.toInt = z12.toInt + x13.toInt := (by omega); clear t_z39) | skip
            refine kw_aload_n (pc := 47) (i := 29) (k := 2) (n := 0) rfl rfl rfl ?_
            refine kw_get (pc := 48) (i := 30) (v := .ref 15) rfl rfl rfl lkX8_60 (fun _ => rfl) ?_
            refine kw_iload_n (pc := 51) (i := 31) (k := 0) (n := 3) rfl rfl rfl ?_
            refine kw_iald (pc := 52) (i := 32) (n := 400) rfl rfl (by omega) (by omega) (fun z40 e_z40 => ?_)
            replace hF := kf_le e_z40 hF
            have t_z40 := congrArg Int32.toInt e_z40
            have r_z40 := kw_rng z40
            have b_z40 := kw_rN I15 (x := x13) z40 e_z40 (by omega)
            refine kw_iast (pc := 53) (i := 33) (n := 1233) rfl rfl (by omega) (by omega) ?_
            have I41 : kw_I (bM T) (kw_ui S14 17 z39.toNatClampNeg z40) := kw_wI I15 (x := z39) z40 (by omega) (x13.toInt) (by omega) (by omega) (by omega) (by omega)
            have F42 : kw_FM [16, 17] σ (kw_ui S14 17 z39.toNatClampNeg z40) := kw_FM_ui F16 (by decide) (by decide)
            refine kw_iinc' (pc := 54) (i := 34) (k := 0) (fun z => [(3, .int z), (2, .int z12), (0, .ref 0), (1, .int k)]) rfl rfl (by decide) rfl (fun _ => rfl) (fun z43 e_z43 t_z43 => ?_)
            replace hF := kf_le e_z43 hF
            first | (have u_z43 : z43.toInt = x13.toInt + 1 := (by omega); clear t_z43) | skip
            refine kw_goto (pc := 57) (i := 35) (tgt := 29) rfl rfl ?_
            refine kw_sub (lv' := [(3, .int z43), (2, .int z12), (0, .ref 0), (1, .int k)]) [0, 1, 2, 3] rfl ?_
            exact ih18 z43 (kw_ui S14 17 z39.toNatClampNeg z40) I41 F42 (by omega) hF (by omega)
      exact L17 _ 0 σ hI hF0 (by omega) hF (Nat.lt_succ_self _)
    · replace hF := kf_p c11 hF
      refine kw_bipush (pc := 18) (i := 10) (v := (-4)) rfl rfl ?_
      exact kw_ireturn (pc := 20) (i := 11) (ty := .int) rfl rfl rfl ⟨⟨hI, hF0⟩, _, rfl, hF⟩
  · replace hF := kf_p c9 hF
    refine kw_iconst (pc := 9) (i := 5) (v := (-1)) rfl rfl ?_
    exact kw_ireturn (pc := 10) (i := 6) (ty := .int) rfl rfl rfl ⟨⟨hI, hF0⟩, _, rfl, hF⟩
noncomputable def l_X8_on_0_61 (a1 : Int32) (a2 : Int32) : Nat → Int32 → kw_S → Int32 × kw_S
  | 0, _, S => (0, S)
  | n + 1, x3, S => kf_l ((10 : Int32) * (S.1 0 27)) fun z8 => if x3.toInt < z8.toInt then (kf_l (a2 + x3) fun z9 => kf_l (S.1 17 z9.toNatClampNeg) fun z10 => kf_l (x3 + Int32.ofInt 1) fun z11 => l_X8_on_0_61 a1 a2 n z11 (kw_ui S 15 x3.toNatClampNeg z10)) else (((S.1 0 27), S))
theorem l_X8_on_0_61_s (a1 : Int32) (a2 : Int32) (n : Nat) (x3 : Int32) (S : kw_S) : l_X8_on_0_61 a1 a2 (n + 1) x3 S = kf_l ((10 : Int32) * (S.1 0 27)) fun z8 => if x3.toInt < z8.toInt then (kf_l (a2 + x3) fun z9 => kf_l (S.1 17 z9.toNatClampNeg) fun z10 => kf_l (x3 + Int32.ofInt 1) fun z11 => l_X8_on_0_61 a1 a2 n z11 (kw_ui S 15 x3.toNatClampNeg z10)) else (((S.1 0 27), S)) := rfl
noncomputable def f_X8_on_0 (σ : kw_S) (k : Int32) : Int32 × kw_S := kf_l (f_X8_in σ k (0 : Int32) (2 : Int32)) fun z1 => if z1.toInt = 0 then ((((-1) : Int32), σ)) else (kf_l (σ.1 16 k.toNatClampNeg) fun z2 => if z2.toInt = 0 then (kf_b (f_X8_meet_0 σ (1 : Int32)) fun z12 S13 => (z12, S13)) else (kf_l ((411 : Int32) * k) fun z3 => kf_l (z3 + (400 : Int32)) fun z4 => kf_l (f_X8_read_0_17 σ z4) fun S5 => kf_l (z3 + (410 : Int32)) fun z6 => kf_l (S5.1 17 z6.toNatClampNeg) fun z7 => l_X8_on_0_61 k z3 ((401 - (0 : Int32).toInt).toNat + 1) (0 : Int32) (kw_ui S5 0 27 z7)))
theorem f_X8_on_0_u (σ : kw_S) (k : Int32) : f_X8_on_0 σ k = kf_l (f_X8_in σ k (0 : Int32) (2 : Int32)) fun z1 => if z1.toInt = 0 then ((((-1) : Int32), σ)) else (kf_l (σ.1 16 k.toNatClampNeg) fun z2 => if z2.toInt = 0 then (kf_b (f_X8_meet_0 σ (1 : Int32)) fun z12 S13 => (z12, S13)) else (kf_l ((411 : Int32) * k) fun z3 => kf_l (z3 + (400 : Int32)) fun z4 => kf_l (f_X8_read_0_17 σ z4) fun S5 => kf_l (z3 + (410 : Int32)) fun z6 => kf_l (S5.1 17 z6.toNatClampNeg) fun z7 => l_X8_on_0_61 k z3 ((401 - (0 : Int32).toInt).toNat + 1) (0 : Int32) (kw_ui S5 0 27 z7))) := rfl
abbrev p_X8_on_0 (T : Int) (σ : kw_S) (k : Int32) : Option Value → kw_S → Prop := fun vv σ' => (kw_I (bM T) σ' ∧ kw_FM [1, 14, 15, 1000, 1022, 1023, 1024, 1025, 1027] σ σ') ∧ ∃ r : Int32, vv = some (.int r) ∧ (r, σ') = f_X8_on_0 σ k
set_option maxRecDepth 100000 in
set_option maxHeartbeats 4000000 in
theorem c_X8_on_0 (l : Launch) (T : Int) (hT0 : 0 ≤ T) (hT1 : T ≤ 3000) (σ : kw_S) (hI : kw_I (bM T) σ) (k : Int32) : kw_Met l 2 KM mX8_on [.ref 0, .int k] σ (p_X8_on_0 T σ k) := by
  have r_k := kw_rng k
  have hF0 : kw_FM [1, 14, 15, 1000, 1022, 1023, 1024, 1025, 1027] σ σ := kw_FM.rf
  have hF := (f_X8_on_0_u σ k).symm
  have q_m1 : (-1 : Int32).toInt = -1 := rfl
  have q_0 : (0 : Int32).toInt = 0 := rfl
  have q_1 : (1 : Int32).toInt = 1 := rfl
  have q_2 : (2 : Int32).toInt = 2 := rfl
  have q_10 : (10 : Int32).toInt = 10 := rfl
  have q_400 : (400 : Int32).toInt = 400 := rfl
  have q_410 : (410 : Int32).toInt = 410 := rfl
  have q_411 : (411 : Int32).toInt = 411 := rfl
  refine kw_Met.of (by decide) rfl tX8_on (Nat.le_of_ble_eq_true rfl) ?_
  show kw_AW l 2 kw_E0 KM mX8_on (p_X8_on_0 T σ k) 0 [(0, .ref 0), (1, .int k)] [] σ
  refine kw_iload_n (pc := 0) (i := 0) (k := 1) (n := 1) rfl rfl rfl ?_
  refine kw_iconst (pc := 1) (i := 1) (v := 0) rfl rfl ?_
  refine kw_iconst (pc := 2) (i := 2) (v := 2) rfl rfl ?_
  refine kw_callS (pc := 3) (i := 3) (Y := mX8_in) (As := [.int k, .int 0, .int 2]) (st := []) kw_hE rfl lsX8_93 arX8_in (c_X8_in l T hT0 hT1 σ hI k 0 2 ) (by decide) (Nat.le_of_ble_eq_true rfl) rfl (fun v S2 p1 => ?_)
  obtain ⟨e8, z7, rfl, f3, f4, f5, ef6⟩ := p1
  rw [e8]
  replace hF := kf_le ef6 hF
  have r_z7 := kw_rng z7
  show kw_AW l 2 kw_E0 KM mX8_on (p_X8_on_0 T σ k) 6 [(0, .ref 0), (1, .int k)] [.int z7] σ
  refine kw_if_ne (pc := 6) (i := 4) (tgt := 11) rfl rfl (fun c9 => ?_) (fun c9 => ?_)
  · replace hF := kf_n c9 hF
    refine kw_aload_n (pc := 11) (i := 7) (k := 0) (n := 0) rfl rfl rfl ?_
    refine kw_get (pc := 12) (i := 8) (v := .ref 16) rfl rfl rfl lkX8_63 (fun _ => rfl) ?_
    refine kw_iload_n (pc := 15) (i := 9) (k := 1) (n := 1) rfl rfl rfl ?_
    refine kw_iald (pc := 16) (i := 10) (n := 3) rfl rfl (by omega) (by omega) (fun z10 e_z10 => ?_)
    replace hF := kf_le e_z10 hF
    have t_z10 := congrArg Int32.toInt e_z10
    have r_z10 := kw_rng z10
    refine kw_if_ne (pc := 17) (i := 11) (tgt := 26) rfl rfl (fun c11 => ?_) (fun c11 => ?_)
    · replace hF := kf_n c11 hF
      refine kw_sipush (pc := 26) (i := 16) (v := 411) rfl rfl ?_
      refine kw_iload_n (pc := 29) (i := 17) (k := 1) (n := 1) rfl rfl rfl ?_
      refine kw_imul (pc := 30) (i := 18) rfl (fun z12 e_z12 t_z12 => ?_)
      replace hF := kf_le e_z12 hF
      rw [show (411 : Int32).toInt = 411 from rfl] at t_z12
      first | (have u_z12 : z12.toInt = 411 * k.toInt := (by omega); clear t_z12) | skip
      refine kw_istore_n (pc := 31) (i := 19) (n := 2) (lv' := [(2, .int z12), (0, .ref 0), (1, .int k)]) rfl rfl (by decide) rfl ?_
      refine kw_aload_n (pc := 32) (i := 20) (k := 1) (n := 0) rfl rfl rfl ?_
      refine kw_aload_n (pc := 33) (i := 21) (k := 1) (n := 0) rfl rfl rfl ?_
      refine kw_get (pc := 34) (i := 22) (v := .ref 17) rfl rfl rfl lkX8_66 (fun _ => rfl) ?_
      refine kw_iload_n (pc := 37) (i := 23) (k := 0) (n := 2) rfl rfl rfl ?_
      refine kw_sipush (pc := 38) (i := 24) (v := 400) rfl rfl ?_
      refine kw_iadd (pc := 41) (i := 25) rfl (fun z13 e_z13 t_z13 => ?_)
      replace hF := kf_le e_z13 hF
      first | (have u_z13 : z13.toInt = z12.toInt + 400 := (by omega); clear t_z13) | skip
      refine kw_callV (pc := 42) (i := 26) (Y := mX8_read) (a := 0) (As := [.ref 17, .int z13]) (st := []) kw_hE rfl rfl lvX8_227 arX8_read (c_X8_read_0_17 l T hT0 hT1 σ hI z13 (by first | omega | decide) (by first | omega | decide) (by first | omega | decide)) (by decide) (Nat.le_of_ble_eq_true rfl) rfl (fun v S15 p14 => ?_)
      obtain ⟨⟨I19, F20⟩, rfl, f16, f17, ef18⟩ := p14
      have F21 : kw_FM [1, 14, 15, 1000, 1022, 1023, 1024, 1025, 1027] σ S15 := kw_FM.tr hF0 F20 (by decide)
      have w_22 : (S15.1 0 27).toInt = (σ.1 0 27).toInt := congrArg Int32.toInt (kw_FM.at0 (j := 27) F20 (by decide))
      replace hF := kf_le ef18 hF
      have f16 : (S15.1 0 10).toInt = (σ.1 0 10).toInt := f16
      have f17 : (S15.1 0 27).toInt = (σ.1 0 27).toInt := f17
      show kw_AW l 2 kw_E0 KM mX8_on (p_X8_on_0 T σ k) 45 [(2, .int z12), (0, .ref 0), (1, .int k)] [] S15
      refine kw_aload_n (pc := 45) (i := 27) (k := 1) (n := 0) rfl rfl rfl ?_
      refine kw_aload_n (pc := 46) (i := 28) (k := 1) (n := 0) rfl rfl rfl ?_
      refine kw_get (pc := 47) (i := 29) (v := .ref 17) rfl rfl rfl lkX8_66 (fun _ => rfl) ?_
      refine kw_iload_n (pc := 50) (i := 30) (k := 0) (n := 2) rfl rfl rfl ?_
      refine kw_sipush (pc := 51) (i := 31) (v := 410) rfl rfl ?_
      refine kw_iadd (pc := 54) (i := 32) rfl (fun z23 e_z23 t_z23 => ?_)
      replace hF := kf_le e_z23 hF
      first | (have u_z23 : z23.toInt = z12.toInt + 410 := (by omega); clear t_z23) | skip
      refine kw_iald (pc := 55) (i := 33) (n := 1233) rfl rfl (by omega) (by omega) (fun z24 e_z24 => ?_)
      replace hF := kf_le e_z24 hF
      have t_z24 := congrArg Int32.toInt e_z24
      have r_z24 := kw_rng z24
      have b_z24 := kw_rI I19 (x := z23) z24 e_z24 (by omega) (410) (by omega)
      refine kw_puti (pc := 56) (i := 34) (z := 0) rfl rfl rfl lpX8_178 rfl rfl ?_
      have I25 : kw_I (bM T) (kw_ui S15 0 27 z24) := kw_I_ui I19 (show 0 ≤ z24.toInt by omega) (show z24.toInt ≤ 40 by omega)
      have F26 : kw_FM [1, 14, 15, 1000, 1022, 1023, 1024, 1025, 1027] σ (kw_ui S15 0 27 z24) := kw_FM_ui0 F21 (by decide)
      refine kw_iconst (pc := 59) (i := 35) (v := 0) rfl rfl ?_
      refine kw_istore_n (pc := 60) (i := 36) (n := 3) (lv' := [(3, .int 0), (2, .int z12), (0, .ref 0), (1, .int k)]) rfl rfl (by decide) rfl ?_
      have L31 : ∀ (n35 : Nat) (x27 : Int32) (S28 : kw_S), kw_I (bM T) S28 → kw_FM [1, 14, 15, 1000, 1022, 1023, 1024, 1025, 1027] σ S28 → 0 ≤ x27.toInt → l_X8_on_0_61 k z12 n35 x27 S28 = (f_X8_on_0 σ k) → (401 - x27.toInt).toNat < n35 → kw_AW l 2 kw_E0 KM mX8_on (p_X8_on_0 T σ k) 61 [(3, .int x27), (2, .int z12), (0, .ref 0), (1, .int k)] [] S28 := by
        intro n35
        induction n35 with
        | zero => intro x27 S28 I29 F30 v33 hF m34; exact absurd m34 (Nat.not_lt_zero _)
        | succ n35 ih32 =>
          intro x27 S28 I29 F30 v33 hF m34
          replace hF := kf_st (l_X8_on_0_61_s _ _ _ _ _) hF
          have r_x27 := kw_rng x27
          refine kw_iload_n (pc := 61) (i := 37) (k := 0) (n := 3) rfl rfl rfl ?_
          refine kw_bipush (pc := 62) (i := 38) (v := 10) rfl rfl ?_
          refine kw_aload_n (pc := 64) (i := 39) (k := 2) (n := 0) rfl rfl rfl ?_
          refine kw_get (pc := 65) (i := 40) (v := .int (S28.1 0 27)) rfl rfl rfl lkX8_178 (fun _ => rfl) ?_
          have b36 : 0 ≤ (S28.1 0 27).toInt ∧ (S28.1 0 27).toInt ≤ 40 := I29 0 27
          refine kw_imul (pc := 68) (i := 41) rfl (fun z37 e_z37 t_z37 => ?_)
          replace hF := kf_le e_z37 hF
          rw [show (10 : Int32).toInt = 10 from rfl] at t_z37
          first | (have u_z37 : z37.toInt = 10 * (S28.1 0 27).toInt := (by omega); clear t_z37) | skip
          refine kw_icmp_ge (pc := 69) (i := 42) (tgt := 92) rfl rfl (fun c38 => ?_) (fun c38 => ?_)
          · replace hF := kf_nl c38 hF
            refine kw_aload_n (pc := 92) (i := 55) (k := 2) (n := 0) rfl rfl rfl ?_
            refine kw_get (pc := 93) (i := 56) (v := .int (S28.1 0 27)) rfl rfl rfl lkX8_178 (fun _ => rfl) ?_
            exact kw_ireturn (pc := 96) (i := 57) (ty := .int) rfl rfl rfl ⟨⟨I29, F30⟩, _, rfl, hF⟩
          · replace hF := kf_p c38 hF
            refine kw_aload_n (pc := 72) (i := 43) (k := 2) (n := 0) rfl rfl rfl ?_
            refine kw_get (pc := 73) (i := 44) (v := .ref 15) rfl rfl rfl lkX8_60 (fun _ => rfl) ?_
            refine kw_iload_n (pc := 76) (i := 45) (k := 0) (n := 3) rfl rfl rfl ?_
            refine kw_aload_n (pc := 77) (i := 46) (k := 2) (n := 0) rfl rfl rfl ?_
            refine kw_get (pc := 78) (i := 47) (v := .ref 17) rfl rfl rfl lkX8_66 (fun _ => rfl) ?_
            refine kw_iload_n (pc := 81) (i := 48) (k := 1) (n := 2) rfl rfl rfl ?_
            refine kw_iload_n (pc := 82) (i := 49) (k := 0) (n := 3) rfl rfl rfl ?_
            refine kw_iadd (pc := 83) (i := 50) rfl (fun z39 e_z39 t_z39 => ?_)
            replace hF := kf_le e_z39 hF
            first | (have u_z39 : z39.toInt = z12.toInt + x27.toInt := (by omega); clear t_z39) | skip
            refine kw_iald (pc := 84) (i := 51) (n := 1233) rfl rfl (by omega) (by omega) (fun z40 e_z40 => ?_)
            replace hF := kf_le e_z40 hF
            have t_z40 := congrArg Int32.toInt e_z40
            have r_z40 := kw_rng z40
            have b_z40 := kw_rI I29 (x := z39) z40 e_z40 (by omega) (x27.toInt) (by omega)
            refine kw_iast (pc := 85) (i := 52) (n := 400) rfl rfl (by omega) (by omega) ?_
            have I41 : kw_I (bM T) (kw_ui S28 15 x27.toNatClampNeg z40) := kw_wN I29 (x := x27) z40 (by omega) (by omega) (by omega) trivial
            have F42 : kw_FM [1, 14, 15, 1000, 1022, 1023, 1024, 1025, 1027] σ (kw_ui S28 15 x27.toNatClampNeg z40) := kw_FM_ui F30 (by decide) (by decide)
            refine kw_iinc' (pc := 86) (i := 53) (k := 0) (fun z => [(3, .int z), (2, .int z12), (0, .ref 0), (1, .int k)]) rfl rfl (by decide) rfl (fun _ => rfl) (fun z43 e_z43 t_z43 => ?_)
            replace hF := kf_le e_z43 hF
            first | (have u_z43 : z43.toInt = x27.toInt + 1 := (by omega); clear t_z43) | skip
            refine kw_goto (pc := 89) (i := 54) (tgt := 61) rfl rfl ?_
            refine kw_sub (lv' := [(3, .int z43), (2, .int z12), (0, .ref 0), (1, .int k)]) [0, 1, 2, 3] rfl ?_
            exact ih32 z43 (kw_ui S28 15 x27.toNatClampNeg z40) I41 F42 (by omega) hF (by omega)
      exact L31 _ 0 (kw_ui S15 0 27 z24) I25 F26 (by omega) hF (Nat.lt_succ_self _)
    · replace hF := kf_p c11 hF
      refine kw_aload_n (pc := 20) (i := 12) (k := 0) (n := 0) rfl rfl rfl ?_
      refine kw_iconst (pc := 21) (i := 13) (v := 1) rfl rfl ?_
      refine kw_callV (pc := 22) (i := 14) (Y := mX8_meet) (a := 0) (As := [.int 1]) (st := []) kw_hE rfl rfl lvX8_101 arX8_meet (c_X8_meet_0 l T hT0 hT1 σ hI 1 (by first | omega | decide) (by first | omega | decide)) (by decide) (Nat.le_of_ble_eq_true rfl) rfl (fun v S45 p44 => ?_)
      obtain ⟨⟨I49, F50⟩, z48, rfl, f46, ef47⟩ := p44
      have F51 : kw_FM [1, 14, 15, 1000, 1022, 1023, 1024, 1025, 1027] σ S45 := kw_FM.tr hF0 F50 (by decide)
      have w_52 : (S45.1 0 27).toInt = (σ.1 0 27).toInt := congrArg Int32.toInt (kw_FM.at0 (j := 27) F50 (by decide))
      replace hF := kf_be ef47 hF
      have r_z48 := kw_rng z48
      show kw_AW l 2 kw_E0 KM mX8_on (p_X8_on_0 T σ k) 25 [(0, .ref 0), (1, .int k)] [.int z48] S45
      exact kw_ireturn (pc := 25) (i := 15) (ty := .int) rfl rfl rfl ⟨⟨I49, F51⟩, _, rfl, hF⟩
  · replace hF := kf_p c9 hF
    refine kw_iconst (pc := 9) (i := 5) (v := (-1)) rfl rfl ?_
    exact kw_ireturn (pc := 10) (i := 6) (ty := .int) rfl rfl rfl ⟨⟨hI, hF0⟩, _, rfl, hF⟩
end
section
noncomputable def f_X8_lineOf_0 (σ : kw_S) (i : Int32) (w : Int32) : Int32 := if w.toInt = 0 then (kf_l (σ.1 8 i.toNatClampNeg) fun z1 => z1) else if w.toInt = 1 then (kf_l (σ.1 9 i.toNatClampNeg) fun z2 => z2) else if w.toInt = 2 then (kf_l (σ.1 10 i.toNatClampNeg) fun z3 => z3) else if w.toInt = 3 then (kf_l (σ.1 11 i.toNatClampNeg) fun z4 => z4) else if w.toInt = 4 then (kf_l ((σ.1 0 25) >>> (i &&& 31)) fun z5 => kf_l (z5 &&& (1 : Int32)) fun z6 => z6) else if w.toInt = 5 then (kf_l (σ.1 14 i.toNatClampNeg) fun z7 => z7) else (kf_l (f_X8_windAt_0 σ (σ.1 0 22)) fun z8 => kf_l (f_X8_pullOf_0 σ i z8) fun z9 => z9)
theorem f_X8_lineOf_0_u (σ : kw_S) (i : Int32) (w : Int32) : f_X8_lineOf_0 σ i w = if w.toInt = 0 then (kf_l (σ.1 8 i.toNatClampNeg) fun z1 => z1) else if w.toInt = 1 then (kf_l (σ.1 9 i.toNatClampNeg) fun z2 => z2) else if w.toInt = 2 then (kf_l (σ.1 10 i.toNatClampNeg) fun z3 => z3) else if w.toInt = 3 then (kf_l (σ.1 11 i.toNatClampNeg) fun z4 => z4) else if w.toInt = 4 then (kf_l ((σ.1 0 25) >>> (i &&& 31)) fun z5 => kf_l (z5 &&& (1 : Int32)) fun z6 => z6) else if w.toInt = 5 then (kf_l (σ.1 14 i.toNatClampNeg) fun z7 => z7) else (kf_l (f_X8_windAt_0 σ (σ.1 0 22)) fun z8 => kf_l (f_X8_pullOf_0 σ i z8) fun z9 => z9) := rfl
abbrev p_X8_lineOf_0 (T : Int) (σ : kw_S) (i : Int32) (w : Int32) : Option Value → kw_S → Prop := fun vv σ' => σ' = σ ∧ ∃ r : Int32, vv = some (.int r) ∧ r = f_X8_lineOf_0 σ i w
set_option maxRecDepth 100000 in
set_option maxHeartbeats 4000000 in
theorem c_X8_lineOf_0 (l : Launch) (T : Int) (hT0 : 0 ≤ T) (hT1 : T ≤ 3000) (σ : kw_S) (hI : kw_I (bM T) σ) (i : Int32) (w : Int32) (hp0 : 0 ≤ i.toInt) (hp1 : i.toInt ≤ 5) : kw_Met l 3 KM mX8_lineOf [.ref 0, .int i, .int w] σ (p_X8_lineOf_0 T σ i w) := by
  have r_i := kw_rng i
  have r_w := kw_rng w
  have hF := (f_X8_lineOf_0_u σ i w).symm
  have q_1 : (1 : Int32).toInt = 1 := rfl
  refine kw_Met.of (by decide) rfl tX8_lineOf (Nat.le_of_ble_eq_true rfl) ?_
  show kw_AW l 3 kw_E0 KM mX8_lineOf (p_X8_lineOf_0 T σ i w) 0 [(0, .ref 0), (1, .int i), (2, .int w)] [] σ
  refine kw_iload_n (pc := 0) (i := 0) (k := 2) (n := 2) rfl rfl rfl ?_
  by_cases c1 : w.toInt = 0
  · refine kw_tableIn (pc := 1) (i := 1) (k := 0) (tgt := 40) rfl (by omega) (by decide) rfl rfl ?_
    replace hF := kf_p c1 hF
    refine kw_aload_n (pc := 40) (i := 2) (k := 0) (n := 0) rfl rfl rfl ?_
    refine kw_get (pc := 41) (i := 3) (v := .ref 8) rfl rfl rfl lkX8_39 (fun _ => rfl) ?_
    refine kw_iload_n (pc := 44) (i := 4) (k := 1) (n := 1) rfl rfl rfl ?_
    refine kw_iald (pc := 45) (i := 5) (n := 6) rfl rfl (by omega) (by omega) (fun z2 e_z2 => ?_)
    replace hF := kf_le e_z2 hF
    have t_z2 := congrArg Int32.toInt e_z2
    have r_z2 := kw_rng z2
    exact kw_ireturn (pc := 46) (i := 6) (ty := .int) rfl rfl rfl ⟨rfl, _, rfl, hF⟩
  replace hF := kf_n c1 hF
  by_cases c3 : w.toInt = 1
  · refine kw_tableIn (pc := 1) (i := 1) (k := 1) (tgt := 47) rfl (by omega) (by decide) rfl rfl ?_
    replace hF := kf_p c3 hF
    refine kw_aload_n (pc := 47) (i := 7) (k := 0) (n := 0) rfl rfl rfl ?_
    refine kw_get (pc := 48) (i := 8) (v := .ref 9) rfl rfl rfl lkX8_42 (fun _ => rfl) ?_
    refine kw_iload_n (pc := 51) (i := 9) (k := 1) (n := 1) rfl rfl rfl ?_
    refine kw_iald (pc := 52) (i := 10) (n := 6) rfl rfl (by omega) (by omega) (fun z4 e_z4 => ?_)
    replace hF := kf_le e_z4 hF
    have t_z4 := congrArg Int32.toInt e_z4
    have r_z4 := kw_rng z4
    exact kw_ireturn (pc := 53) (i := 11) (ty := .int) rfl rfl rfl ⟨rfl, _, rfl, hF⟩
  replace hF := kf_n c3 hF
  by_cases c5 : w.toInt = 2
  · refine kw_tableIn (pc := 1) (i := 1) (k := 2) (tgt := 54) rfl (by omega) (by decide) rfl rfl ?_
    replace hF := kf_p c5 hF
    refine kw_aload_n (pc := 54) (i := 12) (k := 0) (n := 0) rfl rfl rfl ?_
    refine kw_get (pc := 55) (i := 13) (v := .ref 10) rfl rfl rfl lkX8_45 (fun _ => rfl) ?_
    refine kw_iload_n (pc := 58) (i := 14) (k := 1) (n := 1) rfl rfl rfl ?_
    refine kw_iald (pc := 59) (i := 15) (n := 6) rfl rfl (by omega) (by omega) (fun z6 e_z6 => ?_)
    replace hF := kf_le e_z6 hF
    have t_z6 := congrArg Int32.toInt e_z6
    have r_z6 := kw_rng z6
    exact kw_ireturn (pc := 60) (i := 16) (ty := .int) rfl rfl rfl ⟨rfl, _, rfl, hF⟩
  replace hF := kf_n c5 hF
  by_cases c7 : w.toInt = 3
  · refine kw_tableIn (pc := 1) (i := 1) (k := 3) (tgt := 61) rfl (by omega) (by decide) rfl rfl ?_
    replace hF := kf_p c7 hF
    refine kw_aload_n (pc := 61) (i := 17) (k := 0) (n := 0) rfl rfl rfl ?_
    refine kw_get (pc := 62) (i := 18) (v := .ref 11) rfl rfl rfl lkX8_48 (fun _ => rfl) ?_
    refine kw_iload_n (pc := 65) (i := 19) (k := 1) (n := 1) rfl rfl rfl ?_
    refine kw_iald (pc := 66) (i := 20) (n := 6) rfl rfl (by omega) (by omega) (fun z8 e_z8 => ?_)
    replace hF := kf_le e_z8 hF
    have t_z8 := congrArg Int32.toInt e_z8
    have r_z8 := kw_rng z8
    exact kw_ireturn (pc := 67) (i := 21) (ty := .int) rfl rfl rfl ⟨rfl, _, rfl, hF⟩
  replace hF := kf_n c7 hF
  by_cases c9 : w.toInt = 4
  · refine kw_tableIn (pc := 1) (i := 1) (k := 4) (tgt := 68) rfl (by omega) (by decide) rfl rfl ?_
    replace hF := kf_p c9 hF
    refine kw_aload_n (pc := 68) (i := 22) (k := 0) (n := 0) rfl rfl rfl ?_
    refine kw_get (pc := 69) (i := 23) (v := .int (σ.1 0 25)) rfl rfl rfl lkX8_175 (fun _ => rfl) ?_
    have b10 : 0 ≤ (σ.1 0 25).toInt ∧ (σ.1 0 25).toInt ≤ 63 := hI 0 25
    refine kw_iload_n (pc := 72) (i := 24) (k := 1) (n := 1) rfl rfl rfl ?_
    refine kw_ishr (pc := 73) (i := 25) rfl (fun z11 e_z11 => ?_)
    have r_z11 := kw_rng z11
    replace hF := kf_le e_z11 hF
    refine kw_iconst (pc := 74) (i := 26) (v := 1) rfl rfl ?_
    refine kw_iand (pc := 75) (i := 27) rfl (fun z12 e_z12 => ?_)
    have r_z12 := kw_rng z12
    replace hF := kf_le e_z12 hF
    have t_z12 := kw_andI z11 (1 : Int32) z12 e_z12
    first | (replace t_z12 := t_z12 (by omega) (by omega)) | skip
    exact kw_ireturn (pc := 76) (i := 28) (ty := .int) rfl rfl rfl ⟨rfl, _, rfl, hF⟩
  replace hF := kf_n c9 hF
  by_cases c13 : w.toInt = 5
  · refine kw_tableIn (pc := 1) (i := 1) (k := 5) (tgt := 77) rfl (by omega) (by decide) rfl rfl ?_
    replace hF := kf_p c13 hF
    refine kw_aload_n (pc := 77) (i := 29) (k := 0) (n := 0) rfl rfl rfl ?_
    refine kw_get (pc := 78) (i := 30) (v := .ref 14) rfl rfl rfl lkX8_57 (fun _ => rfl) ?_
    refine kw_iload_n (pc := 81) (i := 31) (k := 1) (n := 1) rfl rfl rfl ?_
    refine kw_iald (pc := 82) (i := 32) (n := 6) rfl rfl (by omega) (by omega) (fun z14 e_z14 => ?_)
    replace hF := kf_le e_z14 hF
    have t_z14 := congrArg Int32.toInt e_z14
    have r_z14 := kw_rng z14
    exact kw_ireturn (pc := 83) (i := 33) (ty := .int) rfl rfl rfl ⟨rfl, _, rfl, hF⟩
  replace hF := kf_n c13 hF
  refine kw_tableOut (pc := 1) (i := 1) (tgt := 84) rfl (by omega) rfl ?_
  refine kw_aload_n (pc := 84) (i := 34) (k := 0) (n := 0) rfl rfl rfl ?_
  refine kw_iload_n (pc := 85) (i := 35) (k := 1) (n := 1) rfl rfl rfl ?_
  refine kw_aload_n (pc := 86) (i := 36) (k := 0) (n := 0) rfl rfl rfl ?_
  refine kw_aload_n (pc := 87) (i := 37) (k := 0) (n := 0) rfl rfl rfl ?_
  refine kw_get (pc := 88) (i := 38) (v := .int (σ.1 0 22)) rfl rfl rfl lkX8_166 (fun _ => rfl) ?_
  have b15 : 0 ≤ (σ.1 0 22).toInt ∧ (σ.1 0 22).toInt ≤ T := hI 0 22
  refine kw_callV (pc := 91) (i := 39) (Y := mX8_windAt) (a := 0) (As := [.int (σ.1 0 22)]) (st := [.int i, .ref 0]) kw_hE rfl rfl lvX8_196 arX8_windAt (c_X8_windAt_0 l T hT0 hT1 σ hI (σ.1 0 22) (by first | omega | decide)) (by decide) (Nat.le_of_ble_eq_true rfl) rfl (fun v S17 p16 => ?_)
  obtain ⟨e20, z19, rfl, ef18⟩ := p16
  rw [e20]
  replace hF := kf_le ef18 hF
  have r_z19 := kw_rng z19
  show kw_AW l 3 kw_E0 KM mX8_lineOf (p_X8_lineOf_0 T σ i w) 94 [(0, .ref 0), (1, .int i), (2, .int w)] [.int z19, .int i, .ref 0] σ
  refine kw_callV (pc := 94) (i := 40) (Y := mX8_pullOf) (a := 0) (As := [.int i, .int z19]) (st := []) kw_hE rfl rfl lvX8_189 arX8_pullOf (c_X8_pullOf_0 l T hT0 hT1 σ hI i z19 (by first | omega | decide) (by first | omega | decide)) (by decide) (Nat.le_of_ble_eq_true rfl) rfl (fun v S22 p21 => ?_)
  obtain ⟨e25, z24, rfl, ef23⟩ := p21
  rw [e25]
  replace hF := kf_le ef23 hF
  have r_z24 := kw_rng z24
  show kw_AW l 3 kw_E0 KM mX8_lineOf (p_X8_lineOf_0 T σ i w) 97 [(0, .ref 0), (1, .int i), (2, .int w)] [.int z24] σ
  exact kw_ireturn (pc := 97) (i := 41) (ty := .int) rfl rfl rfl ⟨rfl, _, rfl, hF⟩
noncomputable def f_X8_line_0 (σ : kw_S) (i : Int32) (w : Int32) : Int32 × kw_S := kf_l (f_X8_isLine_0 σ i) fun z1 => if z1.toInt = 0 then ((((-1) : Int32), σ)) else (kf_l (f_X8_in σ w (0 : Int32) (6 : Int32)) fun z2 => if z2.toInt = 0 then ((((-1) : Int32), σ)) else (kf_l (f_X8_lineOf_0 σ i w) fun z3 => kf_b (f_X8_ask_0 σ z3 (1 : Int32)) fun z4 S5 => (z4, S5)))
theorem f_X8_line_0_u (σ : kw_S) (i : Int32) (w : Int32) : f_X8_line_0 σ i w = kf_l (f_X8_isLine_0 σ i) fun z1 => if z1.toInt = 0 then ((((-1) : Int32), σ)) else (kf_l (f_X8_in σ w (0 : Int32) (6 : Int32)) fun z2 => if z2.toInt = 0 then ((((-1) : Int32), σ)) else (kf_l (f_X8_lineOf_0 σ i w) fun z3 => kf_b (f_X8_ask_0 σ z3 (1 : Int32)) fun z4 S5 => (z4, S5))) := rfl
abbrev p_X8_line_0 (T : Int) (σ : kw_S) (i : Int32) (w : Int32) : Option Value → kw_S → Prop := fun vv σ' => (kw_I (bM T) σ' ∧ kw_FM [1002] σ σ') ∧ ∃ r : Int32, vv = some (.int r) ∧ (r, σ') = f_X8_line_0 σ i w
set_option maxRecDepth 100000 in
set_option maxHeartbeats 4000000 in
theorem c_X8_line_0 (l : Launch) (T : Int) (hT0 : 0 ≤ T) (hT1 : T ≤ 3000) (σ : kw_S) (hI : kw_I (bM T) σ) (i : Int32) (w : Int32) : kw_Met l 4 KM mX8_line [.ref 0, .int i, .int w] σ (p_X8_line_0 T σ i w) := by
  have r_i := kw_rng i
  have r_w := kw_rng w
  have hF0 : kw_FM [1002] σ σ := kw_FM.rf
  have hF := (f_X8_line_0_u σ i w).symm
  have q_m1 : (-1 : Int32).toInt = -1 := rfl
  have q_0 : (0 : Int32).toInt = 0 := rfl
  have q_1 : (1 : Int32).toInt = 1 := rfl
  have q_6 : (6 : Int32).toInt = 6 := rfl
  refine kw_Met.of (by decide) rfl tX8_line (Nat.le_of_ble_eq_true rfl) ?_
  show kw_AW l 4 kw_E0 KM mX8_line (p_X8_line_0 T σ i w) 0 [(0, .ref 0), (1, .int i), (2, .int w)] [] σ
  refine kw_aload_n (pc := 0) (i := 0) (k := 0) (n := 0) rfl rfl rfl ?_
  refine kw_iload_n (pc := 1) (i := 1) (k := 1) (n := 1) rfl rfl rfl ?_
  refine kw_callV (pc := 2) (i := 2) (Y := mX8_isLine) (a := 0) (As := [.int i]) (st := []) kw_hE rfl rfl lvX8_211 arX8_isLine (c_X8_isLine_0 l T hT0 hT1 σ hI i ) (by decide) (Nat.le_of_ble_eq_true rfl) rfl (fun v S2 p1 => ?_)
  obtain ⟨e7, z6, rfl, f3, f4, ef5⟩ := p1
  rw [e7]
  replace hF := kf_le ef5 hF
  have f4 : (z6.toInt = 0 ∨ 0 ≤ i.toInt ∧ i.toInt < (σ.1 0 10).toInt ∧ i.toInt ≤ 5) := f4
  have r_z6 := kw_rng z6
  show kw_AW l 4 kw_E0 KM mX8_line (p_X8_line_0 T σ i w) 5 [(0, .ref 0), (1, .int i), (2, .int w)] [.int z6] σ
  refine kw_if_eq (pc := 5) (i := 3) (tgt := 32) rfl rfl (fun c8 => ?_) (fun c8 => ?_)
  · replace hF := kf_p c8 hF
    refine kw_iconst (pc := 32) (i := 17) (v := (-1)) rfl rfl ?_
    exact kw_ireturn (pc := 33) (i := 18) (ty := .int) rfl rfl rfl ⟨⟨hI, hF0⟩, _, rfl, hF⟩
  · replace hF := kf_n c8 hF
    refine kw_iload_n (pc := 8) (i := 4) (k := 2) (n := 2) rfl rfl rfl ?_
    refine kw_iconst (pc := 9) (i := 5) (v := 0) rfl rfl ?_
    refine kw_bipush (pc := 10) (i := 6) (v := 6) rfl rfl ?_
    refine kw_callS (pc := 12) (i := 7) (Y := mX8_in) (As := [.int w, .int 0, .int 6]) (st := []) kw_hE rfl lsX8_93 arX8_in (c_X8_in l T hT0 hT1 σ hI w 0 6 ) (by decide) (Nat.le_of_ble_eq_true rfl) rfl (fun v S10 p9 => ?_)
    obtain ⟨e16, z15, rfl, f11, f12, f13, ef14⟩ := p9
    rw [e16]
    replace hF := kf_le ef14 hF
    have r_z15 := kw_rng z15
    show kw_AW l 4 kw_E0 KM mX8_line (p_X8_line_0 T σ i w) 15 [(0, .ref 0), (1, .int i), (2, .int w)] [.int z15] σ
    refine kw_if_eq (pc := 15) (i := 8) (tgt := 32) rfl rfl (fun c17 => ?_) (fun c17 => ?_)
    · replace hF := kf_p c17 hF
      refine kw_iconst (pc := 32) (i := 17) (v := (-1)) rfl rfl ?_
      exact kw_ireturn (pc := 33) (i := 18) (ty := .int) rfl rfl rfl ⟨⟨hI, hF0⟩, _, rfl, hF⟩
    · replace hF := kf_n c17 hF
      refine kw_aload_n (pc := 18) (i := 9) (k := 0) (n := 0) rfl rfl rfl ?_
      refine kw_aload_n (pc := 19) (i := 10) (k := 0) (n := 0) rfl rfl rfl ?_
      refine kw_iload_n (pc := 20) (i := 11) (k := 1) (n := 1) rfl rfl rfl ?_
      refine kw_iload_n (pc := 21) (i := 12) (k := 2) (n := 2) rfl rfl rfl ?_
      refine kw_callV (pc := 22) (i := 13) (Y := mX8_lineOf) (a := 0) (As := [.int i, .int w]) (st := [.ref 0]) kw_hE rfl rfl lvX8_230 arX8_lineOf (c_X8_lineOf_0 l T hT0 hT1 σ hI i w (by first | omega | decide) (by first | omega | decide)) (by decide) (Nat.le_of_ble_eq_true rfl) rfl (fun v S19 p18 => ?_)
      obtain ⟨e22, z21, rfl, ef20⟩ := p18
      rw [e22]
      replace hF := kf_le ef20 hF
      have r_z21 := kw_rng z21
      show kw_AW l 4 kw_E0 KM mX8_line (p_X8_line_0 T σ i w) 25 [(0, .ref 0), (1, .int i), (2, .int w)] [.int z21, .ref 0] σ
      refine kw_iconst (pc := 25) (i := 14) (v := 1) rfl rfl ?_
      refine kw_callV (pc := 26) (i := 15) (Y := mX8_ask) (a := 0) (As := [.int z21, .int 1]) (st := []) kw_hE rfl rfl lvX8_119 arX8_ask (c_X8_ask_0 l T hT0 hT1 σ hI z21 1 ) (by decide) (Nat.le_of_ble_eq_true rfl) rfl (fun v S24 p23 => ?_)
      obtain ⟨⟨I28, F29⟩, z27, rfl, f25, ef26⟩ := p23
      have F30 : kw_FM [1002] σ S24 := kw_FM.tr hF0 F29 (by decide)
      have w_31 : (S24.1 0 27).toInt = (σ.1 0 27).toInt := congrArg Int32.toInt (kw_FM.at0 (j := 27) F29 (by decide))
      replace hF := kf_be ef26 hF
      have r_z27 := kw_rng z27
      show kw_AW l 4 kw_E0 KM mX8_line (p_X8_line_0 T σ i w) 29 [(0, .ref 0), (1, .int i), (2, .int w)] [.int z27] S24
      refine kw_goto (pc := 29) (i := 16) (tgt := 33) rfl rfl ?_
      exact kw_ireturn (pc := 33) (i := 18) (ty := .int) rfl rfl rfl ⟨⟨I28, F30⟩, _, rfl, hF⟩
noncomputable def f_X8_isA (σ : kw_S) (x : Int32) (kind : Int32) : Int32 := if x.toInt = kind.toInt then ((1 : Int32)) else (if kind.toInt = (1 : Int32).toInt then (if x.toInt < (4 : Int32).toInt then (if kind.toInt = (4 : Int32).toInt then (if x.toInt = (5 : Int32).toInt then ((1 : Int32)) else ((0 : Int32))) else ((0 : Int32))) else ((1 : Int32))) else (if kind.toInt = (4 : Int32).toInt then (if x.toInt = (5 : Int32).toInt then ((1 : Int32)) else ((0 : Int32))) else ((0 : Int32))))
theorem f_X8_isA_u (σ : kw_S) (x : Int32) (kind : Int32) : f_X8_isA σ x kind = if x.toInt = kind.toInt then ((1 : Int32)) else (if kind.toInt = (1 : Int32).toInt then (if x.toInt < (4 : Int32).toInt then (if kind.toInt = (4 : Int32).toInt then (if x.toInt = (5 : Int32).toInt then ((1 : Int32)) else ((0 : Int32))) else ((0 : Int32))) else ((1 : Int32))) else (if kind.toInt = (4 : Int32).toInt then (if x.toInt = (5 : Int32).toInt then ((1 : Int32)) else ((0 : Int32))) else ((0 : Int32)))) := rfl
abbrev p_X8_isA (T : Int) (σ : kw_S) (x : Int32) (kind : Int32) : Option Value → kw_S → Prop := fun vv σ' => σ' = σ ∧ ∃ r : Int32, vv = some (.int r) ∧ (r.toInt = 0 ∨ r.toInt = 1) ∧ r = f_X8_isA σ x kind
set_option maxRecDepth 100000 in
set_option maxHeartbeats 4000000 in
theorem c_X8_isA (l : Launch) (T : Int) (hT0 : 0 ≤ T) (hT1 : T ≤ 3000) (σ : kw_S) (hI : kw_I (bM T) σ) (x : Int32) (kind : Int32) : kw_Met l 1 KM mX8_isA [.int x, .int kind] σ (p_X8_isA T σ x kind) := by
  have r_x := kw_rng x
  have r_kind := kw_rng kind
  have hF := (f_X8_isA_u σ x kind).symm
  have q_0 : (0 : Int32).toInt = 0 := rfl
  have q_1 : (1 : Int32).toInt = 1 := rfl
  have q_4 : (4 : Int32).toInt = 4 := rfl
  have q_5 : (5 : Int32).toInt = 5 := rfl
  refine kw_Met.of (by decide) rfl tX8_isA (Nat.le_of_ble_eq_true rfl) ?_
  show kw_AW l 1 kw_E0 KM mX8_isA (p_X8_isA T σ x kind) 0 [(0, .int x), (1, .int kind)] [] σ
  refine kw_iload_n (pc := 0) (i := 0) (k := 0) (n := 0) rfl rfl rfl ?_
  refine kw_iload_n (pc := 1) (i := 1) (k := 1) (n := 1) rfl rfl rfl ?_
  refine kw_icmp_eq (pc := 2) (i := 2) (tgt := 25) rfl rfl (fun c1 => ?_) (fun c1 => ?_)
  · replace hF := kf_p c1 hF
    refine kw_iconst (pc := 25) (i := 15) (v := 1) rfl rfl ?_
    refine kw_goto (pc := 26) (i := 16) (tgt := 30) rfl rfl ?_
    exact kw_ireturn (pc := 30) (i := 18) (ty := .boolean) rfl rfl rfl ⟨rfl, _, rfl, by omega, hF⟩
  · replace hF := kf_n c1 hF
    refine kw_iload_n (pc := 5) (i := 3) (k := 1) (n := 1) rfl rfl rfl ?_
    refine kw_iconst (pc := 6) (i := 4) (v := 1) rfl rfl ?_
    refine kw_icmp_ne (pc := 7) (i := 5) (tgt := 15) rfl rfl (fun c2 => ?_) (fun c2 => ?_)
    · replace hF := kf_n c2 hF
      refine kw_iload_n (pc := 15) (i := 9) (k := 1) (n := 1) rfl rfl rfl ?_
      refine kw_iconst (pc := 16) (i := 10) (v := 4) rfl rfl ?_
      refine kw_icmp_ne (pc := 17) (i := 11) (tgt := 29) rfl rfl (fun c3 => ?_) (fun c3 => ?_)
      · replace hF := kf_n c3 hF
        refine kw_iconst (pc := 29) (i := 17) (v := 0) rfl rfl ?_
        exact kw_ireturn (pc := 30) (i := 18) (ty := .boolean) rfl rfl rfl ⟨rfl, _, rfl, by omega, hF⟩
      · replace hF := kf_p c3 hF
        refine kw_iload_n (pc := 20) (i := 12) (k := 0) (n := 0) rfl rfl rfl ?_
        refine kw_iconst (pc := 21) (i := 13) (v := 5) rfl rfl ?_
        refine kw_icmp_ne (pc := 22) (i := 14) (tgt := 29) rfl rfl (fun c4 => ?_) (fun c4 => ?_)
        · replace hF := kf_n c4 hF
          refine kw_iconst (pc := 29) (i := 17) (v := 0) rfl rfl ?_
          exact kw_ireturn (pc := 30) (i := 18) (ty := .boolean) rfl rfl rfl ⟨rfl, _, rfl, by omega, hF⟩
        · replace hF := kf_p c4 hF
          refine kw_iconst (pc := 25) (i := 15) (v := 1) rfl rfl ?_
          refine kw_goto (pc := 26) (i := 16) (tgt := 30) rfl rfl ?_
          exact kw_ireturn (pc := 30) (i := 18) (ty := .boolean) rfl rfl rfl ⟨rfl, _, rfl, by omega, hF⟩
    · replace hF := kf_p c2 hF
      refine kw_iload_n (pc := 10) (i := 6) (k := 0) (n := 0) rfl rfl rfl ?_
      refine kw_iconst (pc := 11) (i := 7) (v := 4) rfl rfl ?_
      refine kw_icmp_ge (pc := 12) (i := 8) (tgt := 25) rfl rfl (fun c5 => ?_) (fun c5 => ?_)
      · replace hF := kf_nl c5 hF
        refine kw_iconst (pc := 25) (i := 15) (v := 1) rfl rfl ?_
        refine kw_goto (pc := 26) (i := 16) (tgt := 30) rfl rfl ?_
        exact kw_ireturn (pc := 30) (i := 18) (ty := .boolean) rfl rfl rfl ⟨rfl, _, rfl, by omega, hF⟩
      · replace hF := kf_p c5 hF
        refine kw_iload_n (pc := 15) (i := 9) (k := 1) (n := 1) rfl rfl rfl ?_
        refine kw_iconst (pc := 16) (i := 10) (v := 4) rfl rfl ?_
        refine kw_icmp_ne (pc := 17) (i := 11) (tgt := 29) rfl rfl (fun c6 => ?_) (fun c6 => ?_)
        · replace hF := kf_n c6 hF
          refine kw_iconst (pc := 29) (i := 17) (v := 0) rfl rfl ?_
          exact kw_ireturn (pc := 30) (i := 18) (ty := .boolean) rfl rfl rfl ⟨rfl, _, rfl, by omega, hF⟩
        · replace hF := kf_p c6 hF
          refine kw_iload_n (pc := 20) (i := 12) (k := 0) (n := 0) rfl rfl rfl ?_
          refine kw_iconst (pc := 21) (i := 13) (v := 5) rfl rfl ?_
          refine kw_icmp_ne (pc := 22) (i := 14) (tgt := 29) rfl rfl (fun c7 => ?_) (fun c7 => ?_)
          · replace hF := kf_n c7 hF
            refine kw_iconst (pc := 29) (i := 17) (v := 0) rfl rfl ?_
            exact kw_ireturn (pc := 30) (i := 18) (ty := .boolean) rfl rfl rfl ⟨rfl, _, rfl, by omega, hF⟩
          · replace hF := kf_p c7 hF
            refine kw_iconst (pc := 25) (i := 15) (v := 1) rfl rfl ?_
            refine kw_goto (pc := 26) (i := 16) (tgt := 30) rfl rfl ?_
            exact kw_ireturn (pc := 30) (i := 18) (ty := .boolean) rfl rfl rfl ⟨rfl, _, rfl, by omega, hF⟩
noncomputable def l_X8_howMany_0_4 (a1 : Int32) (S : kw_S) : Nat → Int32 → Int32 → Int32
  | 0, _, _ => 0
  | n + 1, x2, x3 => if x3.toInt < (S.1 0 10).toInt then (kf_l (S.1 8 x3.toNatClampNeg) fun z1 => kf_l (f_X8_isA S z1 a1) fun z2 => if z2.toInt = 0 then (kf_l (x2 + (0 : Int32)) fun z3 => kf_l (x3 + Int32.ofInt 1) fun z4 => l_X8_howMany_0_4 a1 S n z3 z4) else (kf_l (x2 + (1 : Int32)) fun z5 => kf_l (x3 + Int32.ofInt 1) fun z6 => l_X8_howMany_0_4 a1 S n z5 z6)) else (x2)
theorem l_X8_howMany_0_4_s (a1 : Int32) (S : kw_S) (n : Nat) (x2 : Int32) (x3 : Int32) : l_X8_howMany_0_4 a1 S (n + 1) x2 x3 = if x3.toInt < (S.1 0 10).toInt then (kf_l (S.1 8 x3.toNatClampNeg) fun z1 => kf_l (f_X8_isA S z1 a1) fun z2 => if z2.toInt = 0 then (kf_l (x2 + (0 : Int32)) fun z3 => kf_l (x3 + Int32.ofInt 1) fun z4 => l_X8_howMany_0_4 a1 S n z3 z4) else (kf_l (x2 + (1 : Int32)) fun z5 => kf_l (x3 + Int32.ofInt 1) fun z6 => l_X8_howMany_0_4 a1 S n z5 z6)) else (x2) := rfl
noncomputable def f_X8_howMany_0 (σ : kw_S) (kind : Int32) : Int32 := l_X8_howMany_0_4 kind σ ((7 - (0 : Int32).toInt).toNat + 1) (0 : Int32) (0 : Int32)
theorem f_X8_howMany_0_u (σ : kw_S) (kind : Int32) : f_X8_howMany_0 σ kind = l_X8_howMany_0_4 kind σ ((7 - (0 : Int32).toInt).toNat + 1) (0 : Int32) (0 : Int32) := rfl
abbrev p_X8_howMany_0 (T : Int) (σ : kw_S) (kind : Int32) : Option Value → kw_S → Prop := fun vv σ' => σ' = σ ∧ ∃ r : Int32, vv = some (.int r) ∧ r = f_X8_howMany_0 σ kind
set_option maxRecDepth 100000 in
set_option maxHeartbeats 4000000 in
theorem c_X8_howMany_0 (l : Launch) (T : Int) (hT0 : 0 ≤ T) (hT1 : T ≤ 3000) (σ : kw_S) (hI : kw_I (bM T) σ) (kind : Int32) : kw_Met l 2 KM mX8_howMany [.ref 0, .int kind] σ (p_X8_howMany_0 T σ kind) := by
  have r_kind := kw_rng kind
  have hF := (f_X8_howMany_0_u σ kind).symm
  have q_0 : (0 : Int32).toInt = 0 := rfl
  have q_1 : (1 : Int32).toInt = 1 := rfl
  refine kw_Met.of (by decide) rfl tX8_howMany (Nat.le_of_ble_eq_true rfl) ?_
  show kw_AW l 2 kw_E0 KM mX8_howMany (p_X8_howMany_0 T σ kind) 0 [(0, .ref 0), (1, .int kind)] [] σ
  refine kw_iconst (pc := 0) (i := 0) (v := 0) rfl rfl ?_
  refine kw_istore_n (pc := 1) (i := 1) (n := 2) (lv' := [(2, .int 0), (0, .ref 0), (1, .int kind)]) rfl rfl (by decide) rfl ?_
  refine kw_iconst (pc := 2) (i := 2) (v := 0) rfl rfl ?_
  refine kw_istore_n (pc := 3) (i := 3) (n := 3) (lv' := [(3, .int 0), (2, .int 0), (0, .ref 0), (1, .int kind)]) rfl rfl (by decide) rfl ?_
  have L3 : ∀ (n7 : Nat) (x1 : Int32) (x2 : Int32), 0 ≤ x1.toInt → l_X8_howMany_0_4 kind σ n7 x2 x1 = (f_X8_howMany_0 σ kind) → (7 - x1.toInt).toNat < n7 → kw_AW l 2 kw_E0 KM mX8_howMany (p_X8_howMany_0 T σ kind) 4 [(3, .int x1), (2, .int x2), (0, .ref 0), (1, .int kind)] [] σ := by
    intro n7
    induction n7 with
    | zero => intro x1 x2 v5 hF m6; exact absurd m6 (Nat.not_lt_zero _)
    | succ n7 ih4 =>
      intro x1 x2 v5 hF m6
      replace hF := kf_st (l_X8_howMany_0_4_s _ _ _ _ _) hF
      have r_x1 := kw_rng x1
      have r_x2 := kw_rng x2
      refine kw_iload_n (pc := 4) (i := 4) (k := 0) (n := 3) rfl rfl rfl ?_
      refine kw_aload_n (pc := 5) (i := 5) (k := 2) (n := 0) rfl rfl rfl ?_
      refine kw_get (pc := 6) (i := 6) (v := .int (σ.1 0 10)) rfl rfl rfl lkX8_163 (fun _ => rfl) ?_
      have b8 : 0 ≤ (σ.1 0 10).toInt ∧ (σ.1 0 10).toInt ≤ 6 := hI 0 10
      refine kw_icmp_ge (pc := 9) (i := 7) (tgt := 39) rfl rfl (fun c9 => ?_) (fun c9 => ?_)
      · replace hF := kf_nl c9 hF
        refine kw_iload_n (pc := 39) (i := 23) (k := 1) (n := 2) rfl rfl rfl ?_
        exact kw_ireturn (pc := 40) (i := 24) (ty := .int) rfl rfl rfl ⟨rfl, _, rfl, hF⟩
      · replace hF := kf_p c9 hF
        refine kw_iload_n (pc := 12) (i := 8) (k := 1) (n := 2) rfl rfl rfl ?_
        refine kw_aload_n (pc := 13) (i := 9) (k := 2) (n := 0) rfl rfl rfl ?_
        refine kw_get (pc := 14) (i := 10) (v := .ref 8) rfl rfl rfl lkX8_39 (fun _ => rfl) ?_
        refine kw_iload_n (pc := 17) (i := 11) (k := 0) (n := 3) rfl rfl rfl ?_
        refine kw_iald (pc := 18) (i := 12) (n := 6) rfl rfl (by omega) (by omega) (fun z10 e_z10 => ?_)
        replace hF := kf_le e_z10 hF
        have t_z10 := congrArg Int32.toInt e_z10
        have r_z10 := kw_rng z10
        refine kw_iload_n (pc := 19) (i := 13) (k := 3) (n := 1) rfl rfl rfl ?_
        refine kw_callS (pc := 20) (i := 14) (Y := mX8_isA) (As := [.int z10, .int kind]) (st := [.int x2]) kw_hE rfl lsX8_233 arX8_isA (c_X8_isA l T hT0 hT1 σ hI z10 kind ) (by decide) (Nat.le_of_ble_eq_true rfl) rfl (fun v S12 p11 => ?_)
        obtain ⟨e16, z15, rfl, f13, ef14⟩ := p11
        rw [e16]
        replace hF := kf_le ef14 hF
        have r_z15 := kw_rng z15
        show kw_AW l 2 kw_E0 KM mX8_howMany (p_X8_howMany_0 T σ kind) 23 [(3, .int x1), (2, .int x2), (0, .ref 0), (1, .int kind)] [.int z15, .int x2] σ
        refine kw_if_eq (pc := 23) (i := 15) (tgt := 30) rfl rfl (fun c17 => ?_) (fun c17 => ?_)
        · replace hF := kf_p c17 hF
          refine kw_iconst (pc := 30) (i := 18) (v := 0) rfl rfl ?_
          refine kw_iadd (pc := 31) (i := 19) rfl (fun z18 e_z18 t_z18 => ?_)
          replace hF := kf_le e_z18 hF
          first | (have u_z18 : z18.toInt = x2.toInt + 0 := (by omega); clear t_z18) | skip
          refine kw_istore_n (pc := 32) (i := 20) (n := 2) (lv' := [(2, .int z18), (3, .int x1), (0, .ref 0), (1, .int kind)]) rfl rfl (by decide) rfl ?_
          refine kw_iinc' (pc := 33) (i := 21) (k := 1) (fun z => [(3, .int z), (2, .int z18), (0, .ref 0), (1, .int kind)]) rfl rfl (by decide) rfl (fun _ => rfl) (fun z19 e_z19 t_z19 => ?_)
          replace hF := kf_le e_z19 hF
          first | (have u_z19 : z19.toInt = x1.toInt + 1 := (by omega); clear t_z19) | skip
          refine kw_goto (pc := 36) (i := 22) (tgt := 4) rfl rfl ?_
          refine kw_sub (lv' := [(3, .int z19), (2, .int z18), (0, .ref 0), (1, .int kind)]) [0, 1, 2, 3] rfl ?_
          exact ih4 z19 z18 (by omega) hF (by omega)
        · replace hF := kf_n c17 hF
          refine kw_iconst (pc := 26) (i := 16) (v := 1) rfl rfl ?_
          refine kw_goto (pc := 27) (i := 17) (tgt := 31) rfl rfl ?_
          refine kw_iadd (pc := 31) (i := 19) rfl (fun z20 e_z20 t_z20 => ?_)
          replace hF := kf_le e_z20 hF
          first | (have u_z20 : z20.toInt = x2.toInt + 1 := (by omega); clear t_z20) | skip
          refine kw_istore_n (pc := 32) (i := 20) (n := 2) (lv' := [(2, .int z20), (3, .int x1), (0, .ref 0), (1, .int kind)]) rfl rfl (by decide) rfl ?_
          refine kw_iinc' (pc := 33) (i := 21) (k := 1) (fun z => [(3, .int z), (2, .int z20), (0, .ref 0), (1, .int kind)]) rfl rfl (by decide) rfl (fun _ => rfl) (fun z21 e_z21 t_z21 => ?_)
          replace hF := kf_le e_z21 hF
          first | (have u_z21 : z21.toInt = x1.toInt + 1 := (by omega); clear t_z21) | skip
          refine kw_goto (pc := 36) (i := 22) (tgt := 4) rfl rfl ?_
          refine kw_sub (lv' := [(3, .int z21), (2, .int z20), (0, .ref 0), (1, .int kind)]) [0, 1, 2, 3] rfl ?_
          exact ih4 z21 z20 (by omega) hF (by omega)
  exact L3 _ 0 0 (by omega) hF (Nat.lt_succ_self _)
noncomputable def l_X8_hoursTill_0_2 (S : kw_S) : Nat → Int32 → Int32
  | 0, _ => 0
  | n + 1, x1 => if x1.toInt < (8 : Int32).toInt then (kf_l ((S.1 0 22) + x1) fun z1 => kf_l (f_X8_windAt_0 S z1) fun z2 => if z2.toInt < (3 : Int32).toInt then (kf_l (x1 + Int32.ofInt 1) fun z3 => l_X8_hoursTill_0_2 S n z3) else (if x1.toInt < (8 : Int32).toInt then (x1) else (((-9) : Int32)))) else (if x1.toInt < (8 : Int32).toInt then (x1) else (((-9) : Int32)))
theorem l_X8_hoursTill_0_2_s (S : kw_S) (n : Nat) (x1 : Int32) : l_X8_hoursTill_0_2 S (n + 1) x1 = if x1.toInt < (8 : Int32).toInt then (kf_l ((S.1 0 22) + x1) fun z1 => kf_l (f_X8_windAt_0 S z1) fun z2 => if z2.toInt < (3 : Int32).toInt then (kf_l (x1 + Int32.ofInt 1) fun z3 => l_X8_hoursTill_0_2 S n z3) else (if x1.toInt < (8 : Int32).toInt then (x1) else (((-9) : Int32)))) else (if x1.toInt < (8 : Int32).toInt then (x1) else (((-9) : Int32))) := rfl
noncomputable def f_X8_hoursTill_0 (σ : kw_S)  : Int32 := l_X8_hoursTill_0_2 σ ((9 - (0 : Int32).toInt).toNat + 1) (0 : Int32)
theorem f_X8_hoursTill_0_u (σ : kw_S)  : f_X8_hoursTill_0 σ  = l_X8_hoursTill_0_2 σ ((9 - (0 : Int32).toInt).toNat + 1) (0 : Int32) := rfl
abbrev p_X8_hoursTill_0 (T : Int) (σ : kw_S)  : Option Value → kw_S → Prop := fun vv σ' => σ' = σ ∧ ∃ r : Int32, vv = some (.int r) ∧ r = f_X8_hoursTill_0 σ
set_option maxRecDepth 100000 in
set_option maxHeartbeats 4000000 in
theorem c_X8_hoursTill_0 (l : Launch) (T : Int) (hT0 : 0 ≤ T) (hT1 : T ≤ 3000) (σ : kw_S) (hI : kw_I (bM T) σ)  : kw_Met l 2 KM mX8_hoursTill [.ref 0] σ (p_X8_hoursTill_0 T σ) := by
  have hF := (f_X8_hoursTill_0_u σ).symm
  have q_m9 : (-9 : Int32).toInt = -9 := rfl
  have q_0 : (0 : Int32).toInt = 0 := rfl
  have q_3 : (3 : Int32).toInt = 3 := rfl
  have q_8 : (8 : Int32).toInt = 8 := rfl
  refine kw_Met.of (by decide) rfl tX8_hoursTill (Nat.le_of_ble_eq_true rfl) ?_
  show kw_AW l 2 kw_E0 KM mX8_hoursTill (p_X8_hoursTill_0 T σ) 0 [(0, .ref 0)] [] σ
  refine kw_iconst (pc := 0) (i := 0) (v := 0) rfl rfl ?_
  refine kw_istore_n (pc := 1) (i := 1) (n := 1) (lv' := [(1, .int 0), (0, .ref 0)]) rfl rfl (by decide) rfl ?_
  have L2 : ∀ (n6 : Nat) (x1 : Int32), 0 ≤ x1.toInt → l_X8_hoursTill_0_2 σ n6 x1 = (f_X8_hoursTill_0 σ) → (9 - x1.toInt).toNat < n6 → kw_AW l 2 kw_E0 KM mX8_hoursTill (p_X8_hoursTill_0 T σ) 2 [(1, .int x1), (0, .ref 0)] [] σ := by
    intro n6
    induction n6 with
    | zero => intro x1 v4 hF m5; exact absurd m5 (Nat.not_lt_zero _)
    | succ n6 ih3 =>
      intro x1 v4 hF m5
      replace hF := kf_st (l_X8_hoursTill_0_2_s _ _ _) hF
      have r_x1 := kw_rng x1
      refine kw_iload_n (pc := 2) (i := 2) (k := 0) (n := 1) rfl rfl rfl ?_
      refine kw_bipush (pc := 3) (i := 3) (v := 8) rfl rfl ?_
      refine kw_icmp_ge (pc := 5) (i := 4) (tgt := 28) rfl rfl (fun c7 => ?_) (fun c7 => ?_)
      · replace hF := kf_nl c7 hF
        refine kw_iload_n (pc := 28) (i := 15) (k := 0) (n := 1) rfl rfl rfl ?_
        refine kw_bipush (pc := 29) (i := 16) (v := 8) rfl rfl ?_
        refine kw_icmp_ge (pc := 31) (i := 17) (tgt := 38) rfl rfl (fun c8 => ?_) (fun c8 => ?_)
        · replace hF := kf_nl c8 hF
          refine kw_bipush (pc := 38) (i := 20) (v := (-9)) rfl rfl ?_
          exact kw_ireturn (pc := 40) (i := 21) (ty := .int) rfl rfl rfl ⟨rfl, _, rfl, hF⟩
        · replace hF := kf_p c8 hF
          refine kw_iload_n (pc := 34) (i := 18) (k := 0) (n := 1) rfl rfl rfl ?_
          refine kw_goto (pc := 35) (i := 19) (tgt := 40) rfl rfl ?_
          exact kw_ireturn (pc := 40) (i := 21) (ty := .int) rfl rfl rfl ⟨rfl, _, rfl, hF⟩
      · replace hF := kf_p c7 hF
        refine kw_aload_n (pc := 8) (i := 5) (k := 1) (n := 0) rfl rfl rfl ?_
        refine kw_aload_n (pc := 9) (i := 6) (k := 1) (n := 0) rfl rfl rfl ?_
        refine kw_get (pc := 10) (i := 7) (v := .int (σ.1 0 22)) rfl rfl rfl lkX8_166 (fun _ => rfl) ?_
        have b9 : 0 ≤ (σ.1 0 22).toInt ∧ (σ.1 0 22).toInt ≤ T := hI 0 22
        refine kw_iload_n (pc := 13) (i := 8) (k := 0) (n := 1) rfl rfl rfl ?_
        refine kw_iadd (pc := 14) (i := 9) rfl (fun z10 e_z10 t_z10 => ?_)
        replace hF := kf_le e_z10 hF
        first | (have u_z10 : z10.toInt = (σ.1 0 22).toInt + x1.toInt := (by omega); clear t_z10) | skip
        refine kw_callV (pc := 15) (i := 10) (Y := mX8_windAt) (a := 0) (As := [.int z10]) (st := []) kw_hE rfl rfl lvX8_196 arX8_windAt (c_X8_windAt_0 l T hT0 hT1 σ hI z10 (by first | omega | decide)) (by decide) (Nat.le_of_ble_eq_true rfl) rfl (fun v S12 p11 => ?_)
        obtain ⟨e15, z14, rfl, ef13⟩ := p11
        rw [e15]
        replace hF := kf_le ef13 hF
        have r_z14 := kw_rng z14
        show kw_AW l 2 kw_E0 KM mX8_hoursTill (p_X8_hoursTill_0 T σ) 18 [(1, .int x1), (0, .ref 0)] [.int z14] σ
        refine kw_iconst (pc := 18) (i := 11) (v := 3) rfl rfl ?_
        refine kw_icmp_ge (pc := 19) (i := 12) (tgt := 28) rfl rfl (fun c16 => ?_) (fun c16 => ?_)
        · replace hF := kf_nl c16 hF
          refine kw_iload_n (pc := 28) (i := 15) (k := 0) (n := 1) rfl rfl rfl ?_
          refine kw_bipush (pc := 29) (i := 16) (v := 8) rfl rfl ?_
          refine kw_icmp_ge (pc := 31) (i := 17) (tgt := 38) rfl rfl (fun c17 => ?_) (fun c17 => ?_)
          · replace hF := kf_nl c17 hF
            refine kw_bipush (pc := 38) (i := 20) (v := (-9)) rfl rfl ?_
            exact kw_ireturn (pc := 40) (i := 21) (ty := .int) rfl rfl rfl ⟨rfl, _, rfl, hF⟩
          · replace hF := kf_p c17 hF
            refine kw_iload_n (pc := 34) (i := 18) (k := 0) (n := 1) rfl rfl rfl ?_
            refine kw_goto (pc := 35) (i := 19) (tgt := 40) rfl rfl ?_
            exact kw_ireturn (pc := 40) (i := 21) (ty := .int) rfl rfl rfl ⟨rfl, _, rfl, hF⟩
        · replace hF := kf_p c16 hF
          refine kw_iinc' (pc := 22) (i := 13) (k := 0) (fun z => [(1, .int z), (0, .ref 0)]) rfl rfl (by decide) rfl (fun _ => rfl) (fun z18 e_z18 t_z18 => ?_)
          replace hF := kf_le e_z18 hF
          first | (have u_z18 : z18.toInt = x1.toInt + 1 := (by omega); clear t_z18) | skip
          refine kw_goto (pc := 25) (i := 14) (tgt := 2) rfl rfl ?_
          refine kw_sub (lv' := [(1, .int z18), (0, .ref 0)]) [0, 1] rfl ?_
          exact ih3 z18 (by omega) hF (by omega)
  exact L2 _ 0 (by omega) hF (Nat.lt_succ_self _)
noncomputable def l_X8_lesserOnes_0_4 (a1 : Int32) (S : kw_S) : Nat → Int32 → Int32 → Int32
  | 0, _, _ => 0
  | n + 1, x2, x3 => if x3.toInt < (S.1 0 10).toInt then (if x3.toInt = a1.toInt then (kf_l (x2 + (0 : Int32)) fun z1 => kf_l (x3 + Int32.ofInt 1) fun z2 => l_X8_lesserOnes_0_4 a1 S n z1 z2) else (kf_l (S.1 10 x3.toNatClampNeg) fun z3 => kf_l (S.1 10 a1.toNatClampNeg) fun z4 => if z4.toInt < z3.toInt then (kf_l (x2 + (0 : Int32)) fun z5 => kf_l (x3 + Int32.ofInt 1) fun z6 => l_X8_lesserOnes_0_4 a1 S n z5 z6) else (kf_l (x2 + (1 : Int32)) fun z7 => kf_l (x3 + Int32.ofInt 1) fun z8 => l_X8_lesserOnes_0_4 a1 S n z7 z8))) else (x2)
theorem l_X8_lesserOnes_0_4_s (a1 : Int32) (S : kw_S) (n : Nat) (x2 : Int32) (x3 : Int32) : l_X8_lesserOnes_0_4 a1 S (n + 1) x2 x3 = if x3.toInt < (S.1 0 10).toInt then (if x3.toInt = a1.toInt then (kf_l (x2 + (0 : Int32)) fun z1 => kf_l (x3 + Int32.ofInt 1) fun z2 => l_X8_lesserOnes_0_4 a1 S n z1 z2) else (kf_l (S.1 10 x3.toNatClampNeg) fun z3 => kf_l (S.1 10 a1.toNatClampNeg) fun z4 => if z4.toInt < z3.toInt then (kf_l (x2 + (0 : Int32)) fun z5 => kf_l (x3 + Int32.ofInt 1) fun z6 => l_X8_lesserOnes_0_4 a1 S n z5 z6) else (kf_l (x2 + (1 : Int32)) fun z7 => kf_l (x3 + Int32.ofInt 1) fun z8 => l_X8_lesserOnes_0_4 a1 S n z7 z8))) else (x2) := rfl
noncomputable def f_X8_lesserOnes_0 (σ : kw_S) (i : Int32) : Int32 := l_X8_lesserOnes_0_4 i σ ((7 - (0 : Int32).toInt).toNat + 1) (0 : Int32) (0 : Int32)
theorem f_X8_lesserOnes_0_u (σ : kw_S) (i : Int32) : f_X8_lesserOnes_0 σ i = l_X8_lesserOnes_0_4 i σ ((7 - (0 : Int32).toInt).toNat + 1) (0 : Int32) (0 : Int32) := rfl
abbrev p_X8_lesserOnes_0 (T : Int) (σ : kw_S) (i : Int32) : Option Value → kw_S → Prop := fun vv σ' => σ' = σ ∧ ∃ r : Int32, vv = some (.int r) ∧ r = f_X8_lesserOnes_0 σ i
set_option maxRecDepth 100000 in
set_option maxHeartbeats 4000000 in
theorem c_X8_lesserOnes_0 (l : Launch) (T : Int) (hT0 : 0 ≤ T) (hT1 : T ≤ 3000) (σ : kw_S) (hI : kw_I (bM T) σ) (i : Int32) (hp0 : 0 ≤ i.toInt) (hp1 : i.toInt ≤ 5) : kw_Met l 1 KM mX8_lesserOnes [.ref 0, .int i] σ (p_X8_lesserOnes_0 T σ i) := by
  have r_i := kw_rng i
  have hF := (f_X8_lesserOnes_0_u σ i).symm
  have q_0 : (0 : Int32).toInt = 0 := rfl
  have q_1 : (1 : Int32).toInt = 1 := rfl
  refine kw_Met.of (by decide) rfl tX8_lesserOnes (Nat.le_of_ble_eq_true rfl) ?_
  show kw_AW l 1 kw_E0 KM mX8_lesserOnes (p_X8_lesserOnes_0 T σ i) 0 [(0, .ref 0), (1, .int i)] [] σ
  refine kw_iconst (pc := 0) (i := 0) (v := 0) rfl rfl ?_
  refine kw_istore_n (pc := 1) (i := 1) (n := 2) (lv' := [(2, .int 0), (0, .ref 0), (1, .int i)]) rfl rfl (by decide) rfl ?_
  refine kw_iconst (pc := 2) (i := 2) (v := 0) rfl rfl ?_
  refine kw_istore_n (pc := 3) (i := 3) (n := 3) (lv' := [(3, .int 0), (2, .int 0), (0, .ref 0), (1, .int i)]) rfl rfl (by decide) rfl ?_
  have L3 : ∀ (n7 : Nat) (x1 : Int32) (x2 : Int32), 0 ≤ x1.toInt → l_X8_lesserOnes_0_4 i σ n7 x2 x1 = (f_X8_lesserOnes_0 σ i) → (7 - x1.toInt).toNat < n7 → kw_AW l 1 kw_E0 KM mX8_lesserOnes (p_X8_lesserOnes_0 T σ i) 4 [(3, .int x1), (2, .int x2), (0, .ref 0), (1, .int i)] [] σ := by
    intro n7
    induction n7 with
    | zero => intro x1 x2 v5 hF m6; exact absurd m6 (Nat.not_lt_zero _)
    | succ n7 ih4 =>
      intro x1 x2 v5 hF m6
      replace hF := kf_st (l_X8_lesserOnes_0_4_s _ _ _ _ _) hF
      have r_x1 := kw_rng x1
      have r_x2 := kw_rng x2
      refine kw_iload_n (pc := 4) (i := 4) (k := 0) (n := 3) rfl rfl rfl ?_
      refine kw_aload_n (pc := 5) (i := 5) (k := 2) (n := 0) rfl rfl rfl ?_
      refine kw_get (pc := 6) (i := 6) (v := .int (σ.1 0 10)) rfl rfl rfl lkX8_163 (fun _ => rfl) ?_
      have b8 : 0 ≤ (σ.1 0 10).toInt ∧ (σ.1 0 10).toInt ≤ 6 := hI 0 10
      refine kw_icmp_ge (pc := 9) (i := 7) (tgt := 46) rfl rfl (fun c9 => ?_) (fun c9 => ?_)
      · replace hF := kf_nl c9 hF
        refine kw_iload_n (pc := 46) (i := 28) (k := 1) (n := 2) rfl rfl rfl ?_
        exact kw_ireturn (pc := 47) (i := 29) (ty := .int) rfl rfl rfl ⟨rfl, _, rfl, hF⟩
      · replace hF := kf_p c9 hF
        refine kw_iload_n (pc := 12) (i := 8) (k := 1) (n := 2) rfl rfl rfl ?_
        refine kw_iload_n (pc := 13) (i := 9) (k := 0) (n := 3) rfl rfl rfl ?_
        refine kw_iload_n (pc := 14) (i := 10) (k := 3) (n := 1) rfl rfl rfl ?_
        refine kw_icmp_eq (pc := 15) (i := 11) (tgt := 37) rfl rfl (fun c10 => ?_) (fun c10 => ?_)
        · replace hF := kf_p c10 hF
          refine kw_iconst (pc := 37) (i := 23) (v := 0) rfl rfl ?_
          refine kw_iadd (pc := 38) (i := 24) rfl (fun z11 e_z11 t_z11 => ?_)
          replace hF := kf_le e_z11 hF
          first | (have u_z11 : z11.toInt = x2.toInt + 0 := (by omega); clear t_z11) | skip
          refine kw_istore_n (pc := 39) (i := 25) (n := 2) (lv' := [(2, .int z11), (3, .int x1), (0, .ref 0), (1, .int i)]) rfl rfl (by decide) rfl ?_
          refine kw_iinc' (pc := 40) (i := 26) (k := 1) (fun z => [(3, .int z), (2, .int z11), (0, .ref 0), (1, .int i)]) rfl rfl (by decide) rfl (fun _ => rfl) (fun z12 e_z12 t_z12 => ?_)
          replace hF := kf_le e_z12 hF
          first | (have u_z12 : z12.toInt = x1.toInt + 1 := (by omega); clear t_z12) | skip
          refine kw_goto (pc := 43) (i := 27) (tgt := 4) rfl rfl ?_
          refine kw_sub (lv' := [(3, .int z12), (2, .int z11), (0, .ref 0), (1, .int i)]) [0, 1, 2, 3] rfl ?_
          exact ih4 z12 z11 (by omega) hF (by omega)
        · replace hF := kf_n c10 hF
          refine kw_aload_n (pc := 18) (i := 12) (k := 2) (n := 0) rfl rfl rfl ?_
          refine kw_get (pc := 19) (i := 13) (v := .ref 10) rfl rfl rfl lkX8_45 (fun _ => rfl) ?_
          refine kw_iload_n (pc := 22) (i := 14) (k := 0) (n := 3) rfl rfl rfl ?_
          refine kw_iald (pc := 23) (i := 15) (n := 6) rfl rfl (by omega) (by omega) (fun z13 e_z13 => ?_)
          replace hF := kf_le e_z13 hF
          have t_z13 := congrArg Int32.toInt e_z13
          have r_z13 := kw_rng z13
          refine kw_aload_n (pc := 24) (i := 16) (k := 2) (n := 0) rfl rfl rfl ?_
          refine kw_get (pc := 25) (i := 17) (v := .ref 10) rfl rfl rfl lkX8_45 (fun _ => rfl) ?_
          refine kw_iload_n (pc := 28) (i := 18) (k := 3) (n := 1) rfl rfl rfl ?_
          refine kw_iald (pc := 29) (i := 19) (n := 6) rfl rfl (by omega) (by omega) (fun z14 e_z14 => ?_)
          replace hF := kf_le e_z14 hF
          have t_z14 := congrArg Int32.toInt e_z14
          have r_z14 := kw_rng z14
          refine kw_icmp_gt (pc := 30) (i := 20) (tgt := 37) rfl rfl (fun c15 => ?_) (fun c15 => ?_)
          · replace hF := kf_p c15 hF
            refine kw_iconst (pc := 37) (i := 23) (v := 0) rfl rfl ?_
            refine kw_iadd (pc := 38) (i := 24) rfl (fun z16 e_z16 t_z16 => ?_)
            replace hF := kf_le e_z16 hF
            first | (have u_z16 : z16.toInt = x2.toInt + 0 := (by omega); clear t_z16) | skip
            refine kw_istore_n (pc := 39) (i := 25) (n := 2) (lv' := [(2, .int z16), (3, .int x1), (0, .ref 0), (1, .int i)]) rfl rfl (by decide) rfl ?_
            refine kw_iinc' (pc := 40) (i := 26) (k := 1) (fun z => [(3, .int z), (2, .int z16), (0, .ref 0), (1, .int i)]) rfl rfl (by decide) rfl (fun _ => rfl) (fun z17 e_z17 t_z17 => ?_)
            replace hF := kf_le e_z17 hF
            first | (have u_z17 : z17.toInt = x1.toInt + 1 := (by omega); clear t_z17) | skip
            refine kw_goto (pc := 43) (i := 27) (tgt := 4) rfl rfl ?_
            refine kw_sub (lv' := [(3, .int z17), (2, .int z16), (0, .ref 0), (1, .int i)]) [0, 1, 2, 3] rfl ?_
            exact ih4 z17 z16 (by omega) hF (by omega)
          · replace hF := kf_nl c15 hF
            refine kw_iconst (pc := 33) (i := 21) (v := 1) rfl rfl ?_
            refine kw_goto (pc := 34) (i := 22) (tgt := 38) rfl rfl ?_
            refine kw_iadd (pc := 38) (i := 24) rfl (fun z18 e_z18 t_z18 => ?_)
            replace hF := kf_le e_z18 hF
            first | (have u_z18 : z18.toInt = x2.toInt + 1 := (by omega); clear t_z18) | skip
            refine kw_istore_n (pc := 39) (i := 25) (n := 2) (lv' := [(2, .int z18), (3, .int x1), (0, .ref 0), (1, .int i)]) rfl rfl (by decide) rfl ?_
            refine kw_iinc' (pc := 40) (i := 26) (k := 1) (fun z => [(3, .int z), (2, .int z18), (0, .ref 0), (1, .int i)]) rfl rfl (by decide) rfl (fun _ => rfl) (fun z19 e_z19 t_z19 => ?_)
            replace hF := kf_le e_z19 hF
            first | (have u_z19 : z19.toInt = x1.toInt + 1 := (by omega); clear t_z19) | skip
            refine kw_goto (pc := 43) (i := 27) (tgt := 4) rfl rfl ?_
            refine kw_sub (lv' := [(3, .int z19), (2, .int z18), (0, .ref 0), (1, .int i)]) [0, 1, 2, 3] rfl ?_
            exact ih4 z19 z18 (by omega) hF (by omega)
  exact L3 _ 0 0 (by omega) hF (Nat.lt_succ_self _)
noncomputable def f_X8_mark_0 (σ : kw_S) (i : Int32) (kind : Int32) : Int32 × kw_S := kf_l (f_X8_isLine_0 σ i) fun z1 => if z1.toInt = 0 then ((((-1) : Int32), σ)) else (kf_l (f_X8_in σ kind (1 : Int32) (5 : Int32)) fun z2 => if z2.toInt = 0 then ((((-1) : Int32), σ)) else (kf_l (σ.1 8 i.toNatClampNeg) fun z3 => kf_l (f_X8_isA σ z3 kind) fun z4 => if z4.toInt = 0 then (kf_b (f_X8_meet_0 σ (3 : Int32)) fun z17 S18 => (z17, S18)) else (kf_l (f_X8_windAt_0 σ (σ.1 0 22)) fun z5 => if kind.toInt = 1 then (kf_l (f_X8_pullOf_0 σ i (5 : Int32)) fun z6 => (z6, σ)) else if kind.toInt = 2 then (kf_l (f_X8_hoursTill_0 σ) fun z7 => (z7, σ)) else if kind.toInt = 3 then (kf_l ((1 : Int32) <<< (i &&& 31)) fun z8 => kf_l (z8 ^^^ ((-1) : Int32)) fun z9 => kf_l ((σ.1 0 25) &&& z9) fun z10 => kf_l (f_X8_bits σ z10) fun z11 => (z11, σ)) else if kind.toInt = 4 then (kf_l (f_X8_lesserOnes_0 σ i) fun z12 => (z12, σ)) else (kf_l (σ.1 10 i.toNatClampNeg) fun z13 => kf_l (f_X8_pullBy σ (4 : Int32) z13 z5) fun z14 => kf_l (f_X8_pullOf_0 σ i z5) fun z15 => kf_l (z14 - z15) fun z16 => (z16, σ)))))
theorem f_X8_mark_0_u (σ : kw_S) (i : Int32) (kind : Int32) : f_X8_mark_0 σ i kind = kf_l (f_X8_isLine_0 σ i) fun z1 => if z1.toInt = 0 then ((((-1) : Int32), σ)) else (kf_l (f_X8_in σ kind (1 : Int32) (5 : Int32)) fun z2 => if z2.toInt = 0 then ((((-1) : Int32), σ)) else (kf_l (σ.1 8 i.toNatClampNeg) fun z3 => kf_l (f_X8_isA σ z3 kind) fun z4 => if z4.toInt = 0 then (kf_b (f_X8_meet_0 σ (3 : Int32)) fun z17 S18 => (z17, S18)) else (kf_l (f_X8_windAt_0 σ (σ.1 0 22)) fun z5 => if kind.toInt = 1 then (kf_l (f_X8_pullOf_0 σ i (5 : Int32)) fun z6 => (z6, σ)) else if kind.toInt = 2 then (kf_l (f_X8_hoursTill_0 σ) fun z7 => (z7, σ)) else if kind.toInt = 3 then (kf_l ((1 : Int32) <<< (i &&& 31)) fun z8 => kf_l (z8 ^^^ ((-1) : Int32)) fun z9 => kf_l ((σ.1 0 25) &&& z9) fun z10 => kf_l (f_X8_bits σ z10) fun z11 => (z11, σ)) else if kind.toInt = 4 then (kf_l (f_X8_lesserOnes_0 σ i) fun z12 => (z12, σ)) else (kf_l (σ.1 10 i.toNatClampNeg) fun z13 => kf_l (f_X8_pullBy σ (4 : Int32) z13 z5) fun z14 => kf_l (f_X8_pullOf_0 σ i z5) fun z15 => kf_l (z14 - z15) fun z16 => (z16, σ))))) := rfl
abbrev p_X8_mark_0 (T : Int) (σ : kw_S) (i : Int32) (kind : Int32) : Option Value → kw_S → Prop := fun vv σ' => (kw_I (bM T) σ' ∧ kw_FM [1, 1000] σ σ') ∧ ∃ r : Int32, vv = some (.int r) ∧ (r, σ') = f_X8_mark_0 σ i kind
set_option maxRecDepth 100000 in
set_option maxHeartbeats 4000000 in
theorem c_X8_mark_0 (l : Launch) (T : Int) (hT0 : 0 ≤ T) (hT1 : T ≤ 3000) (σ : kw_S) (hI : kw_I (bM T) σ) (i : Int32) (kind : Int32) : kw_Met l 3 KM mX8_mark [.ref 0, .int i, .int kind] σ (p_X8_mark_0 T σ i kind) := by
  have r_i := kw_rng i
  have r_kind := kw_rng kind
  have hF0 : kw_FM [1, 1000] σ σ := kw_FM.rf
  have hF := (f_X8_mark_0_u σ i kind).symm
  have q_m1 : (-1 : Int32).toInt = -1 := rfl
  have q_1 : (1 : Int32).toInt = 1 := rfl
  have q_3 : (3 : Int32).toInt = 3 := rfl
  have q_4 : (4 : Int32).toInt = 4 := rfl
  have q_5 : (5 : Int32).toInt = 5 := rfl
  refine kw_Met.of (by decide) rfl tX8_mark (Nat.le_of_ble_eq_true rfl) ?_
  show kw_AW l 3 kw_E0 KM mX8_mark (p_X8_mark_0 T σ i kind) 0 [(0, .ref 0), (1, .int i), (2, .int kind)] [] σ
  refine kw_aload_n (pc := 0) (i := 0) (k := 0) (n := 0) rfl rfl rfl ?_
  refine kw_iload_n (pc := 1) (i := 1) (k := 1) (n := 1) rfl rfl rfl ?_
  refine kw_callV (pc := 2) (i := 2) (Y := mX8_isLine) (a := 0) (As := [.int i]) (st := []) kw_hE rfl rfl lvX8_211 arX8_isLine (c_X8_isLine_0 l T hT0 hT1 σ hI i ) (by decide) (Nat.le_of_ble_eq_true rfl) rfl (fun v S2 p1 => ?_)
  obtain ⟨e7, z6, rfl, f3, f4, ef5⟩ := p1
  rw [e7]
  replace hF := kf_le ef5 hF
  have f4 : (z6.toInt = 0 ∨ 0 ≤ i.toInt ∧ i.toInt < (σ.1 0 10).toInt ∧ i.toInt ≤ 5) := f4
  have r_z6 := kw_rng z6
  show kw_AW l 3 kw_E0 KM mX8_mark (p_X8_mark_0 T σ i kind) 5 [(0, .ref 0), (1, .int i), (2, .int kind)] [.int z6] σ
  refine kw_if_eq (pc := 5) (i := 3) (tgt := 17) rfl rfl (fun c8 => ?_) (fun c8 => ?_)
  · replace hF := kf_p c8 hF
    refine kw_iconst (pc := 17) (i := 9) (v := (-1)) rfl rfl ?_
    exact kw_ireturn (pc := 18) (i := 10) (ty := .int) rfl rfl rfl ⟨⟨hI, hF0⟩, _, rfl, hF⟩
  · replace hF := kf_n c8 hF
    refine kw_iload_n (pc := 8) (i := 4) (k := 2) (n := 2) rfl rfl rfl ?_
    refine kw_iconst (pc := 9) (i := 5) (v := 1) rfl rfl ?_
    refine kw_iconst (pc := 10) (i := 6) (v := 5) rfl rfl ?_
    refine kw_callS (pc := 11) (i := 7) (Y := mX8_in) (As := [.int kind, .int 1, .int 5]) (st := []) kw_hE rfl lsX8_93 arX8_in (c_X8_in l T hT0 hT1 σ hI kind 1 5 ) (by decide) (Nat.le_of_ble_eq_true rfl) rfl (fun v S10 p9 => ?_)
    obtain ⟨e16, z15, rfl, f11, f12, f13, ef14⟩ := p9
    rw [e16]
    replace hF := kf_le ef14 hF
    have r_z15 := kw_rng z15
    show kw_AW l 3 kw_E0 KM mX8_mark (p_X8_mark_0 T σ i kind) 14 [(0, .ref 0), (1, .int i), (2, .int kind)] [.int z15] σ
    refine kw_if_ne (pc := 14) (i := 8) (tgt := 19) rfl rfl (fun c17 => ?_) (fun c17 => ?_)
    · replace hF := kf_n c17 hF
      refine kw_aload_n (pc := 19) (i := 11) (k := 0) (n := 0) rfl rfl rfl ?_
      refine kw_get (pc := 20) (i := 12) (v := .ref 8) rfl rfl rfl lkX8_39 (fun _ => rfl) ?_
      refine kw_iload_n (pc := 23) (i := 13) (k := 1) (n := 1) rfl rfl rfl ?_
      refine kw_iald (pc := 24) (i := 14) (n := 6) rfl rfl (by omega) (by omega) (fun z18 e_z18 => ?_)
      replace hF := kf_le e_z18 hF
      have t_z18 := congrArg Int32.toInt e_z18
      have r_z18 := kw_rng z18
      refine kw_iload_n (pc := 25) (i := 15) (k := 2) (n := 2) rfl rfl rfl ?_
      refine kw_callS (pc := 26) (i := 16) (Y := mX8_isA) (As := [.int z18, .int kind]) (st := []) kw_hE rfl lsX8_233 arX8_isA (c_X8_isA l T hT0 hT1 σ hI z18 kind ) (by decide) (Nat.le_of_ble_eq_true rfl) rfl (fun v S20 p19 => ?_)
      obtain ⟨e24, z23, rfl, f21, ef22⟩ := p19
      rw [e24]
      replace hF := kf_le ef22 hF
      have r_z23 := kw_rng z23
      show kw_AW l 3 kw_E0 KM mX8_mark (p_X8_mark_0 T σ i kind) 29 [(0, .ref 0), (1, .int i), (2, .int kind)] [.int z23] σ
      refine kw_if_ne (pc := 29) (i := 17) (tgt := 38) rfl rfl (fun c25 => ?_) (fun c25 => ?_)
      · replace hF := kf_n c25 hF
        refine kw_aload_n (pc := 38) (i := 22) (k := 0) (n := 0) rfl rfl rfl ?_
        refine kw_aload_n (pc := 39) (i := 23) (k := 0) (n := 0) rfl rfl rfl ?_
        refine kw_get (pc := 40) (i := 24) (v := .int (σ.1 0 22)) rfl rfl rfl lkX8_166 (fun _ => rfl) ?_
        have b26 : 0 ≤ (σ.1 0 22).toInt ∧ (σ.1 0 22).toInt ≤ T := hI 0 22
        refine kw_callV (pc := 43) (i := 25) (Y := mX8_windAt) (a := 0) (As := [.int (σ.1 0 22)]) (st := []) kw_hE rfl rfl lvX8_196 arX8_windAt (c_X8_windAt_0 l T hT0 hT1 σ hI (σ.1 0 22) (by first | omega | decide)) (by decide) (Nat.le_of_ble_eq_true rfl) rfl (fun v S28 p27 => ?_)
        obtain ⟨e31, z30, rfl, ef29⟩ := p27
        rw [e31]
        replace hF := kf_le ef29 hF
        have r_z30 := kw_rng z30
        show kw_AW l 3 kw_E0 KM mX8_mark (p_X8_mark_0 T σ i kind) 46 [(0, .ref 0), (1, .int i), (2, .int kind)] [.int z30] σ
        refine kw_istore_n (pc := 46) (i := 26) (n := 3) (lv' := [(3, .int z30), (0, .ref 0), (1, .int i), (2, .int kind)]) rfl rfl (by decide) rfl ?_
        refine kw_iload_n (pc := 47) (i := 27) (k := 3) (n := 2) rfl rfl rfl ?_
        by_cases c32 : kind.toInt = 1
        · refine kw_tableIn (pc := 48) (i := 28) (k := 0) (tgt := 80) rfl (by omega) (by decide) rfl rfl ?_
          replace hF := kf_p c32 hF
          refine kw_aload_n (pc := 80) (i := 29) (k := 1) (n := 0) rfl rfl rfl ?_
          refine kw_iload_n (pc := 81) (i := 30) (k := 2) (n := 1) rfl rfl rfl ?_
          refine kw_iconst (pc := 82) (i := 31) (v := 5) rfl rfl ?_
          refine kw_callV (pc := 83) (i := 32) (Y := mX8_pullOf) (a := 0) (As := [.int i, .int 5]) (st := []) kw_hE rfl rfl lvX8_189 arX8_pullOf (c_X8_pullOf_0 l T hT0 hT1 σ hI i 5 (by first | omega | decide) (by first | omega | decide)) (by decide) (Nat.le_of_ble_eq_true rfl) rfl (fun v S34 p33 => ?_)
          obtain ⟨e37, z36, rfl, ef35⟩ := p33
          rw [e37]
          replace hF := kf_le ef35 hF
          have r_z36 := kw_rng z36
          show kw_AW l 3 kw_E0 KM mX8_mark (p_X8_mark_0 T σ i kind) 86 [(3, .int z30), (0, .ref 0), (1, .int i), (2, .int kind)] [.int z36] σ
          exact kw_ireturn (pc := 86) (i := 33) (ty := .int) rfl rfl rfl ⟨⟨hI, hF0⟩, _, rfl, hF⟩
        replace hF := kf_n c32 hF
        by_cases c38 : kind.toInt = 2
        · refine kw_tableIn (pc := 48) (i := 28) (k := 1) (tgt := 87) rfl (by omega) (by decide) rfl rfl ?_
          replace hF := kf_p c38 hF
          refine kw_aload_n (pc := 87) (i := 34) (k := 1) (n := 0) rfl rfl rfl ?_
          refine kw_callV (pc := 88) (i := 35) (Y := mX8_hoursTill) (a := 0) (As := []) (st := []) kw_hE rfl rfl lvX8_236 arX8_hoursTill (c_X8_hoursTill_0 l T hT0 hT1 σ hI  ) (by decide) (Nat.le_of_ble_eq_true rfl) rfl (fun v S40 p39 => ?_)
          obtain ⟨e43, z42, rfl, ef41⟩ := p39
          rw [e43]
          replace hF := kf_le ef41 hF
          have r_z42 := kw_rng z42
          show kw_AW l 3 kw_E0 KM mX8_mark (p_X8_mark_0 T σ i kind) 91 [(3, .int z30), (0, .ref 0), (1, .int i), (2, .int kind)] [.int z42] σ
          exact kw_ireturn (pc := 91) (i := 36) (ty := .int) rfl rfl rfl ⟨⟨hI, hF0⟩, _, rfl, hF⟩
        replace hF := kf_n c38 hF
        by_cases c44 : kind.toInt = 3
        · refine kw_tableIn (pc := 48) (i := 28) (k := 2) (tgt := 92) rfl (by omega) (by decide) rfl rfl ?_
          replace hF := kf_p c44 hF
          refine kw_aload_n (pc := 92) (i := 37) (k := 1) (n := 0) rfl rfl rfl ?_
          refine kw_get (pc := 93) (i := 38) (v := .int (σ.1 0 25)) rfl rfl rfl lkX8_175 (fun _ => rfl) ?_
          have b45 : 0 ≤ (σ.1 0 25).toInt ∧ (σ.1 0 25).toInt ≤ 63 := hI 0 25
          refine kw_iconst (pc := 96) (i := 39) (v := 1) rfl rfl ?_
          refine kw_iload_n (pc := 97) (i := 40) (k := 2) (n := 1) rfl rfl rfl ?_
          refine kw_ishl (pc := 98) (i := 41) rfl (fun z46 e_z46 => ?_)
          have r_z46 := kw_rng z46
          replace hF := kf_le e_z46 hF
          have t_z46 := kw_shlm i z46 e_z46
          first | (replace t_z46 := And.intro (t_z46.1 (by omega) (by omega)) (t_z46.2 (by omega) (by omega))) | (replace t_z46 := t_z46.1 (by omega) (by omega)) | skip
          have u_z46 := congrArg Int32.toInt e_z46
          refine kw_iconst (pc := 99) (i := 42) (v := (-1)) rfl rfl ?_
          refine kw_ixor (pc := 100) (i := 43) rfl (fun z47 e_z47 => ?_)
          have r_z47 := kw_rng z47
          replace hF := kf_le e_z47 hF
          have t_z47 := kw_xor63 z46 ((-1) : Int32) z47 e_z47
          first | (replace t_z47 := t_z47 (by omega) (by omega) (by omega) (by omega)) | skip
          refine kw_iand (pc := 101) (i := 44) rfl (fun z48 e_z48 => ?_)
          have r_z48 := kw_rng z48
          replace hF := kf_le e_z48 hF
          have t_z48 := kw_andI (σ.1 0 25) z47 z48 e_z48
          first | (replace t_z48 := t_z48 (by omega) (by omega)) | skip
          refine kw_callS (pc := 102) (i := 45) (Y := mX8_bits) (As := [.int z48]) (st := []) kw_hE rfl lsX8_217 arX8_bits (c_X8_bits l T hT0 hT1 σ hI z48 ) (by decide) (Nat.le_of_ble_eq_true rfl) rfl (fun v S50 p49 => ?_)
          obtain ⟨e53, z52, rfl, ef51⟩ := p49
          rw [e53]
          replace hF := kf_le ef51 hF
          have r_z52 := kw_rng z52
          show kw_AW l 3 kw_E0 KM mX8_mark (p_X8_mark_0 T σ i kind) 105 [(3, .int z30), (0, .ref 0), (1, .int i), (2, .int kind)] [.int z52] σ
          exact kw_ireturn (pc := 105) (i := 46) (ty := .int) rfl rfl rfl ⟨⟨hI, hF0⟩, _, rfl, hF⟩
        replace hF := kf_n c44 hF
        by_cases c54 : kind.toInt = 4
        · refine kw_tableIn (pc := 48) (i := 28) (k := 3) (tgt := 106) rfl (by omega) (by decide) rfl rfl ?_
          replace hF := kf_p c54 hF
          refine kw_aload_n (pc := 106) (i := 47) (k := 1) (n := 0) rfl rfl rfl ?_
          refine kw_iload_n (pc := 107) (i := 48) (k := 2) (n := 1) rfl rfl rfl ?_
          refine kw_callV (pc := 108) (i := 49) (Y := mX8_lesserOnes) (a := 0) (As := [.int i]) (st := []) kw_hE rfl rfl lvX8_240 arX8_lesserOnes (c_X8_lesserOnes_0 l T hT0 hT1 σ hI i (by first | omega | decide) (by first | omega | decide)) (by decide) (Nat.le_of_ble_eq_true rfl) rfl (fun v S56 p55 => ?_)
          obtain ⟨e59, z58, rfl, ef57⟩ := p55
          rw [e59]
          replace hF := kf_le ef57 hF
          have r_z58 := kw_rng z58
          show kw_AW l 3 kw_E0 KM mX8_mark (p_X8_mark_0 T σ i kind) 111 [(3, .int z30), (0, .ref 0), (1, .int i), (2, .int kind)] [.int z58] σ
          exact kw_ireturn (pc := 111) (i := 50) (ty := .int) rfl rfl rfl ⟨⟨hI, hF0⟩, _, rfl, hF⟩
        replace hF := kf_n c54 hF
        refine kw_tableOut (pc := 48) (i := 28) (tgt := 112) rfl (by omega) rfl ?_
        refine kw_iconst (pc := 112) (i := 51) (v := 4) rfl rfl ?_
        refine kw_aload_n (pc := 113) (i := 52) (k := 1) (n := 0) rfl rfl rfl ?_
        refine kw_get (pc := 114) (i := 53) (v := .ref 10) rfl rfl rfl lkX8_45 (fun _ => rfl) ?_
        refine kw_iload_n (pc := 117) (i := 54) (k := 2) (n := 1) rfl rfl rfl ?_
        refine kw_iald (pc := 118) (i := 55) (n := 6) rfl rfl (by omega) (by omega) (fun z60 e_z60 => ?_)
        replace hF := kf_le e_z60 hF
        have t_z60 := congrArg Int32.toInt e_z60
        have r_z60 := kw_rng z60
        refine kw_iload_n (pc := 119) (i := 56) (k := 0) (n := 3) rfl rfl rfl ?_
        refine kw_callS (pc := 120) (i := 57) (Y := mX8_pullBy) (As := [.int 4, .int z60, .int z30]) (st := []) kw_hE rfl lsX8_181 arX8_pullBy (c_X8_pullBy l T hT0 hT1 σ hI 4 z60 z30 ) (by decide) (Nat.le_of_ble_eq_true rfl) rfl (fun v S62 p61 => ?_)
        obtain ⟨e65, z64, rfl, ef63⟩ := p61
        rw [e65]
        replace hF := kf_le ef63 hF
        have r_z64 := kw_rng z64
        show kw_AW l 3 kw_E0 KM mX8_mark (p_X8_mark_0 T σ i kind) 123 [(3, .int z30), (0, .ref 0), (1, .int i), (2, .int kind)] [.int z64] σ
        refine kw_aload_n (pc := 123) (i := 58) (k := 1) (n := 0) rfl rfl rfl ?_
        refine kw_iload_n (pc := 124) (i := 59) (k := 2) (n := 1) rfl rfl rfl ?_
        refine kw_iload_n (pc := 125) (i := 60) (k := 0) (n := 3) rfl rfl rfl ?_
        refine kw_callV (pc := 126) (i := 61) (Y := mX8_pullOf) (a := 0) (As := [.int i, .int z30]) (st := [.int z64]) kw_hE rfl rfl lvX8_189 arX8_pullOf (c_X8_pullOf_0 l T hT0 hT1 σ hI i z30 (by first | omega | decide) (by first | omega | decide)) (by decide) (Nat.le_of_ble_eq_true rfl) rfl (fun v S67 p66 => ?_)
        obtain ⟨e70, z69, rfl, ef68⟩ := p66
        rw [e70]
        replace hF := kf_le ef68 hF
        have r_z69 := kw_rng z69
        show kw_AW l 3 kw_E0 KM mX8_mark (p_X8_mark_0 T σ i kind) 129 [(3, .int z30), (0, .ref 0), (1, .int i), (2, .int kind)] [.int z69, .int z64] σ
        refine kw_isub (pc := 129) (i := 62) rfl (fun z71 e_z71 t_z71 => ?_)
        replace hF := kf_le e_z71 hF
        first | (have u_z71 : z71.toInt = z64.toInt - z69.toInt := (by omega); clear t_z71) | skip
        exact kw_ireturn (pc := 130) (i := 63) (ty := .int) rfl rfl rfl ⟨⟨hI, hF0⟩, _, rfl, hF⟩
      · replace hF := kf_p c25 hF
        refine kw_aload_n (pc := 32) (i := 18) (k := 0) (n := 0) rfl rfl rfl ?_
        refine kw_iconst (pc := 33) (i := 19) (v := 3) rfl rfl ?_
        refine kw_callV (pc := 34) (i := 20) (Y := mX8_meet) (a := 0) (As := [.int 3]) (st := []) kw_hE rfl rfl lvX8_101 arX8_meet (c_X8_meet_0 l T hT0 hT1 σ hI 3 (by first | omega | decide) (by first | omega | decide)) (by decide) (Nat.le_of_ble_eq_true rfl) rfl (fun v S73 p72 => ?_)
        obtain ⟨⟨I77, F78⟩, z76, rfl, f74, ef75⟩ := p72
        have F79 : kw_FM [1, 1000] σ S73 := kw_FM.tr hF0 F78 (by decide)
        have w_80 : (S73.1 0 27).toInt = (σ.1 0 27).toInt := congrArg Int32.toInt (kw_FM.at0 (j := 27) F78 (by decide))
        replace hF := kf_be ef75 hF
        have r_z76 := kw_rng z76
        show kw_AW l 3 kw_E0 KM mX8_mark (p_X8_mark_0 T σ i kind) 37 [(0, .ref 0), (1, .int i), (2, .int kind)] [.int z76] S73
        exact kw_ireturn (pc := 37) (i := 21) (ty := .int) rfl rfl rfl ⟨⟨I77, F79⟩, _, rfl, hF⟩
    · replace hF := kf_p c17 hF
      refine kw_iconst (pc := 17) (i := 9) (v := (-1)) rfl rfl ?_
      exact kw_ireturn (pc := 18) (i := 10) (ty := .int) rfl rfl rfl ⟨⟨hI, hF0⟩, _, rfl, hF⟩
noncomputable def f_X8_wind_0 (σ : kw_S) (h : Int32) : Int32 := kf_l (f_X8_in σ h (0 : Int32) (999 : Int32)) fun z1 => if z1.toInt = 0 then (((-1) : Int32)) else (if (σ.1 0 10).toInt = 0 then (((-4) : Int32)) else (kf_l (f_X8_windAt_0 σ h) fun z2 => z2))
theorem f_X8_wind_0_u (σ : kw_S) (h : Int32) : f_X8_wind_0 σ h = kf_l (f_X8_in σ h (0 : Int32) (999 : Int32)) fun z1 => if z1.toInt = 0 then (((-1) : Int32)) else (if (σ.1 0 10).toInt = 0 then (((-4) : Int32)) else (kf_l (f_X8_windAt_0 σ h) fun z2 => z2)) := rfl
abbrev p_X8_wind_0 (T : Int) (σ : kw_S) (h : Int32) : Option Value → kw_S → Prop := fun vv σ' => σ' = σ ∧ ∃ r : Int32, vv = some (.int r) ∧ r = f_X8_wind_0 σ h
set_option maxRecDepth 100000 in
set_option maxHeartbeats 4000000 in
theorem c_X8_wind_0 (l : Launch) (T : Int) (hT0 : 0 ≤ T) (hT1 : T ≤ 3000) (σ : kw_S) (hI : kw_I (bM T) σ) (h : Int32) : kw_Met l 2 KM mX8_wind [.ref 0, .int h] σ (p_X8_wind_0 T σ h) := by
  have r_h := kw_rng h
  have hF := (f_X8_wind_0_u σ h).symm
  have q_m4 : (-4 : Int32).toInt = -4 := rfl
  have q_m1 : (-1 : Int32).toInt = -1 := rfl
  have q_0 : (0 : Int32).toInt = 0 := rfl
  have q_999 : (999 : Int32).toInt = 999 := rfl
  refine kw_Met.of (by decide) rfl tX8_wind (Nat.le_of_ble_eq_true rfl) ?_
  show kw_AW l 2 kw_E0 KM mX8_wind (p_X8_wind_0 T σ h) 0 [(0, .ref 0), (1, .int h)] [] σ
  refine kw_iload_n (pc := 0) (i := 0) (k := 1) (n := 1) rfl rfl rfl ?_
  refine kw_iconst (pc := 1) (i := 1) (v := 0) rfl rfl ?_
  refine kw_sipush (pc := 2) (i := 2) (v := 999) rfl rfl ?_
  refine kw_callS (pc := 5) (i := 3) (Y := mX8_in) (As := [.int h, .int 0, .int 999]) (st := []) kw_hE rfl lsX8_93 arX8_in (c_X8_in l T hT0 hT1 σ hI h 0 999 ) (by decide) (Nat.le_of_ble_eq_true rfl) rfl (fun v S2 p1 => ?_)
  obtain ⟨e8, z7, rfl, f3, f4, f5, ef6⟩ := p1
  rw [e8]
  replace hF := kf_le ef6 hF
  have r_z7 := kw_rng z7
  show kw_AW l 2 kw_E0 KM mX8_wind (p_X8_wind_0 T σ h) 8 [(0, .ref 0), (1, .int h)] [.int z7] σ
  refine kw_if_ne (pc := 8) (i := 4) (tgt := 13) rfl rfl (fun c9 => ?_) (fun c9 => ?_)
  · replace hF := kf_n c9 hF
    refine kw_aload_n (pc := 13) (i := 7) (k := 0) (n := 0) rfl rfl rfl ?_
    refine kw_get (pc := 14) (i := 8) (v := .int (σ.1 0 10)) rfl rfl rfl lkX8_163 (fun _ => rfl) ?_
    have b10 : 0 ≤ (σ.1 0 10).toInt ∧ (σ.1 0 10).toInt ≤ 6 := hI 0 10
    refine kw_if_ne (pc := 17) (i := 9) (tgt := 25) rfl rfl (fun c11 => ?_) (fun c11 => ?_)
    · replace hF := kf_n c11 hF
      refine kw_aload_n (pc := 25) (i := 12) (k := 0) (n := 0) rfl rfl rfl ?_
      refine kw_iload_n (pc := 26) (i := 13) (k := 1) (n := 1) rfl rfl rfl ?_
      refine kw_callV (pc := 27) (i := 14) (Y := mX8_windAt) (a := 0) (As := [.int h]) (st := []) kw_hE rfl rfl lvX8_196 arX8_windAt (c_X8_windAt_0 l T hT0 hT1 σ hI h (by first | omega | decide)) (by decide) (Nat.le_of_ble_eq_true rfl) rfl (fun v S13 p12 => ?_)
      obtain ⟨e16, z15, rfl, ef14⟩ := p12
      rw [e16]
      replace hF := kf_le ef14 hF
      have r_z15 := kw_rng z15
      show kw_AW l 2 kw_E0 KM mX8_wind (p_X8_wind_0 T σ h) 30 [(0, .ref 0), (1, .int h)] [.int z15] σ
      exact kw_ireturn (pc := 30) (i := 15) (ty := .int) rfl rfl rfl ⟨rfl, _, rfl, hF⟩
    · replace hF := kf_p c11 hF
      refine kw_bipush (pc := 20) (i := 10) (v := (-4)) rfl rfl ?_
      refine kw_goto (pc := 22) (i := 11) (tgt := 30) rfl rfl ?_
      exact kw_ireturn (pc := 30) (i := 15) (ty := .int) rfl rfl rfl ⟨rfl, _, rfl, hF⟩
  · replace hF := kf_p c9 hF
    refine kw_iconst (pc := 11) (i := 5) (v := (-1)) rfl rfl ?_
    exact kw_ireturn (pc := 12) (i := 6) (ty := .int) rfl rfl rfl ⟨rfl, _, rfl, hF⟩
noncomputable def f_X8_goes_0 (σ : kw_S) (s : Int32) : Int32 × kw_S := kf_l (f_X8_isSet_0 σ s) fun z1 => if z1.toInt = 0 then ((((-1) : Int32), σ)) else (kf_l (f_X8_windAt_0 σ (σ.1 0 22)) fun z2 => kf_l (f_X8_turnBy_0 σ s z2) fun z3 => kf_l z3.toInt64 fun z4 => kf_b (f_X8_part_0 σ z4 (1 : Int64)) fun z5 S6 => kf_l (f_X8_milesBy_0 S6 s z2) fun z7 => kf_b (f_X8_ask_0 S6 z7 (1 : Int32)) fun z8 S9 => (z8, S9))
theorem f_X8_goes_0_u (σ : kw_S) (s : Int32) : f_X8_goes_0 σ s = kf_l (f_X8_isSet_0 σ s) fun z1 => if z1.toInt = 0 then ((((-1) : Int32), σ)) else (kf_l (f_X8_windAt_0 σ (σ.1 0 22)) fun z2 => kf_l (f_X8_turnBy_0 σ s z2) fun z3 => kf_l z3.toInt64 fun z4 => kf_b (f_X8_part_0 σ z4 (1 : Int64)) fun z5 S6 => kf_l (f_X8_milesBy_0 S6 s z2) fun z7 => kf_b (f_X8_ask_0 S6 z7 (1 : Int32)) fun z8 S9 => (z8, S9)) := rfl
abbrev p_X8_goes_0 (T : Int) (σ : kw_S) (s : Int32) : Option Value → kw_S → Prop := fun vv σ' => (kw_I (bM T) σ' ∧ kw_FM [1002, 2003, 2004] σ σ') ∧ ∃ r : Int32, vv = some (.int r) ∧ (r, σ') = f_X8_goes_0 σ s
set_option maxRecDepth 100000 in
set_option maxHeartbeats 4000000 in
theorem c_X8_goes_0 (l : Launch) (T : Int) (hT0 : 0 ≤ T) (hT1 : T ≤ 3000) (σ : kw_S) (hI : kw_I (bM T) σ) (s : Int32) : kw_Met l 4 KM mX8_goes [.ref 0, .int s] σ (p_X8_goes_0 T σ s) := by
  have r_s := kw_rng s
  have hF0 : kw_FM [1002, 2003, 2004] σ σ := kw_FM.rf
  have hF := (f_X8_goes_0_u σ s).symm
  have q_m1 : (-1 : Int32).toInt = -1 := rfl
  have q_1 : (1 : Int32).toInt = 1 := rfl
  refine kw_Met.of (by decide) rfl tX8_goes (Nat.le_of_ble_eq_true rfl) ?_
  show kw_AW l 4 kw_E0 KM mX8_goes (p_X8_goes_0 T σ s) 0 [(0, .ref 0), (1, .int s)] [] σ
  refine kw_aload_n (pc := 0) (i := 0) (k := 0) (n := 0) rfl rfl rfl ?_
  refine kw_iload_n (pc := 1) (i := 1) (k := 1) (n := 1) rfl rfl rfl ?_
  refine kw_callV (pc := 2) (i := 2) (Y := mX8_isSet) (a := 0) (As := [.int s]) (st := []) kw_hE rfl rfl lvX8_243 arX8_isSet (c_X8_isSet_0 l T hT0 hT1 σ hI s ) (by decide) (Nat.le_of_ble_eq_true rfl) rfl (fun v S2 p1 => ?_)
  obtain ⟨e6, z5, rfl, f3, ef4⟩ := p1
  rw [e6]
  replace hF := kf_le ef4 hF
  have r_z5 := kw_rng z5
  show kw_AW l 4 kw_E0 KM mX8_goes (p_X8_goes_0 T σ s) 5 [(0, .ref 0), (1, .int s)] [.int z5] σ
  refine kw_if_ne (pc := 5) (i := 3) (tgt := 10) rfl rfl (fun c7 => ?_) (fun c7 => ?_)
  · replace hF := kf_n c7 hF
    refine kw_aload_n (pc := 10) (i := 6) (k := 0) (n := 0) rfl rfl rfl ?_
    refine kw_aload_n (pc := 11) (i := 7) (k := 0) (n := 0) rfl rfl rfl ?_
    refine kw_get (pc := 12) (i := 8) (v := .int (σ.1 0 22)) rfl rfl rfl lkX8_166 (fun _ => rfl) ?_
    have b8 : 0 ≤ (σ.1 0 22).toInt ∧ (σ.1 0 22).toInt ≤ T := hI 0 22
    refine kw_callV (pc := 15) (i := 9) (Y := mX8_windAt) (a := 0) (As := [.int (σ.1 0 22)]) (st := []) kw_hE rfl rfl lvX8_196 arX8_windAt (c_X8_windAt_0 l T hT0 hT1 σ hI (σ.1 0 22) (by first | omega | decide)) (by decide) (Nat.le_of_ble_eq_true rfl) rfl (fun v S10 p9 => ?_)
    obtain ⟨e13, z12, rfl, ef11⟩ := p9
    rw [e13]
    replace hF := kf_le ef11 hF
    have r_z12 := kw_rng z12
    show kw_AW l 4 kw_E0 KM mX8_goes (p_X8_goes_0 T σ s) 18 [(0, .ref 0), (1, .int s)] [.int z12] σ
    refine kw_istore_n (pc := 18) (i := 10) (n := 2) (lv' := [(2, .int z12), (0, .ref 0), (1, .int s)]) rfl rfl (by decide) rfl ?_
    refine kw_aload_n (pc := 19) (i := 11) (k := 1) (n := 0) rfl rfl rfl ?_
    refine kw_aload_n (pc := 20) (i := 12) (k := 1) (n := 0) rfl rfl rfl ?_
    refine kw_iload_n (pc := 21) (i := 13) (k := 2) (n := 1) rfl rfl rfl ?_
    refine kw_iload_n (pc := 22) (i := 14) (k := 0) (n := 2) rfl rfl rfl ?_
    refine kw_callV (pc := 23) (i := 15) (Y := mX8_turnBy) (a := 0) (As := [.int s, .int z12]) (st := [.ref 0]) kw_hE rfl rfl lvX8_202 arX8_turnBy (c_X8_turnBy_0 l T hT0 hT1 σ hI s z12 ) (by decide) (Nat.le_of_ble_eq_true rfl) rfl (fun v S15 p14 => ?_)
    obtain ⟨e18, z17, rfl, ef16⟩ := p14
    rw [e18]
    replace hF := kf_le ef16 hF
    have r_z17 := kw_rng z17
    show kw_AW l 4 kw_E0 KM mX8_goes (p_X8_goes_0 T σ s) 26 [(2, .int z12), (0, .ref 0), (1, .int s)] [.int z17, .ref 0] σ
    refine kw_i2l (pc := 26) (i := 16) rfl (fun z19 e_z19 t_z19 => ?_)
    replace hF := kf_le e_z19 hF
    refine kw_lconst (pc := 27) (i := 17) (v := 1) rfl rfl ?_
    refine kw_callV (pc := 28) (i := 18) (Y := mX8_part) (a := 0) (As := [.long z19, .long 1]) (st := []) kw_hE rfl rfl lvX8_223 arX8_part (c_X8_part_0 l T hT0 hT1 σ hI z19 1 (by first | omega | decide)) (by decide) (Nat.le_of_ble_eq_true rfl) rfl (fun v S21 p20 => ?_)
    obtain ⟨⟨I25, F26⟩, z24, rfl, f22, ef23⟩ := p20
    have F27 : kw_FM [1002, 2003, 2004] σ S21 := kw_FM.tr hF0 F26 (by decide)
    have w_28 : (S21.1 0 27).toInt = (σ.1 0 27).toInt := congrArg Int32.toInt (kw_FM.at0 (j := 27) F26 (by decide))
    replace hF := kf_be ef23 hF
    have r_z24 := kw_rng z24
    show kw_AW l 4 kw_E0 KM mX8_goes (p_X8_goes_0 T σ s) 31 [(2, .int z12), (0, .ref 0), (1, .int s)] [.int z24] S21
    refine kw_pop (pc := 31) (i := 19) rfl rfl ?_
    refine kw_aload_n (pc := 32) (i := 20) (k := 1) (n := 0) rfl rfl rfl ?_
    refine kw_aload_n (pc := 33) (i := 21) (k := 1) (n := 0) rfl rfl rfl ?_
    refine kw_iload_n (pc := 34) (i := 22) (k := 2) (n := 1) rfl rfl rfl ?_
    refine kw_iload_n (pc := 35) (i := 23) (k := 0) (n := 2) rfl rfl rfl ?_
    refine kw_callV (pc := 36) (i := 24) (Y := mX8_milesBy) (a := 0) (As := [.int s, .int z12]) (st := [.ref 0]) kw_hE rfl rfl lvX8_199 arX8_milesBy (c_X8_milesBy_0 l T hT0 hT1 S21 I25 s z12 ) (by decide) (Nat.le_of_ble_eq_true rfl) rfl (fun v S30 p29 => ?_)
    obtain ⟨e33, z32, rfl, ef31⟩ := p29
    rw [e33]
    replace hF := kf_le ef31 hF
    have r_z32 := kw_rng z32
    show kw_AW l 4 kw_E0 KM mX8_goes (p_X8_goes_0 T σ s) 39 [(2, .int z12), (0, .ref 0), (1, .int s)] [.int z32, .ref 0] S21
    refine kw_iconst (pc := 39) (i := 25) (v := 1) rfl rfl ?_
    refine kw_callV (pc := 40) (i := 26) (Y := mX8_ask) (a := 0) (As := [.int z32, .int 1]) (st := []) kw_hE rfl rfl lvX8_119 arX8_ask (c_X8_ask_0 l T hT0 hT1 S21 I25 z32 1 ) (by decide) (Nat.le_of_ble_eq_true rfl) rfl (fun v S35 p34 => ?_)
    obtain ⟨⟨I39, F40⟩, z38, rfl, f36, ef37⟩ := p34
    have F41 : kw_FM [1002, 2003, 2004] σ S35 := kw_FM.tr F27 F40 (by decide)
    have w_42 : (S35.1 0 27).toInt = (S21.1 0 27).toInt := congrArg Int32.toInt (kw_FM.at0 (j := 27) F40 (by decide))
    replace hF := kf_be ef37 hF
    have r_z38 := kw_rng z38
    show kw_AW l 4 kw_E0 KM mX8_goes (p_X8_goes_0 T σ s) 43 [(2, .int z12), (0, .ref 0), (1, .int s)] [.int z38] S35
    exact kw_ireturn (pc := 43) (i := 27) (ty := .int) rfl rfl rfl ⟨⟨I39, F41⟩, _, rfl, hF⟩
  · replace hF := kf_p c7 hF
    refine kw_iconst (pc := 8) (i := 4) (v := (-1)) rfl rfl ?_
    exact kw_ireturn (pc := 9) (i := 5) (ty := .int) rfl rfl rfl ⟨⟨hI, hF0⟩, _, rfl, hF⟩
noncomputable def l_X8_even_0_41 (a1 : Int32) (a2 : Int32) (S : kw_S) : Nat → Int32 → Int32 → Int32 → Int32 × kw_S
  | 0, _, _, _ => (0, S)
  | n + 1, x3, x4, x5 => kf_l ((1 : Int32) <<< ((S.1 0 10) &&& 31)) fun z3 => if x5.toInt < z3.toInt then (kf_l (f_X8_milesBy_0 S x5 a2) fun z9 => if z9.toInt = a1.toInt then (kf_l (f_X8_turnBy_0 S x5 a2) fun z11 => if z11.toInt = 0 then (kf_l (x3 + Int32.ofInt 1) fun z13 => if x4.toInt = ((-9) : Int32).toInt then (kf_l (x5 + Int32.ofInt 1) fun z14 => l_X8_even_0_41 a1 a2 S n z13 x5 z14) else (kf_l (f_X8_linenOf_0 S x5) fun z15 => kf_l (f_X8_linenOf_0 S x4) fun z16 => if z15.toInt < z16.toInt then (kf_l (x5 + Int32.ofInt 1) fun z18 => l_X8_even_0_41 a1 a2 S n z13 x5 z18) else (kf_l (x5 + Int32.ofInt 1) fun z17 => l_X8_even_0_41 a1 a2 S n z13 x4 z17))) else (kf_l (x5 + Int32.ofInt 1) fun z12 => l_X8_even_0_41 a1 a2 S n x3 x4 z12)) else (kf_l (x5 + Int32.ofInt 1) fun z10 => l_X8_even_0_41 a1 a2 S n x3 x4 z10)) else (kf_l x3.toInt64 fun z4 => kf_b (f_X8_part_0 S z4 (1 : Int64)) fun z5 S6 => kf_b (f_X8_ask_0 S6 x4 (1 : Int32)) fun z7 S8 => (z7, S8))
theorem l_X8_even_0_41_s (a1 : Int32) (a2 : Int32) (S : kw_S) (n : Nat) (x3 : Int32) (x4 : Int32) (x5 : Int32) : l_X8_even_0_41 a1 a2 S (n + 1) x3 x4 x5 = kf_l ((1 : Int32) <<< ((S.1 0 10) &&& 31)) fun z3 => if x5.toInt < z3.toInt then (kf_l (f_X8_milesBy_0 S x5 a2) fun z9 => if z9.toInt = a1.toInt then (kf_l (f_X8_turnBy_0 S x5 a2) fun z11 => if z11.toInt = 0 then (kf_l (x3 + Int32.ofInt 1) fun z13 => if x4.toInt = ((-9) : Int32).toInt then (kf_l (x5 + Int32.ofInt 1) fun z14 => l_X8_even_0_41 a1 a2 S n z13 x5 z14) else (kf_l (f_X8_linenOf_0 S x5) fun z15 => kf_l (f_X8_linenOf_0 S x4) fun z16 => if z15.toInt < z16.toInt then (kf_l (x5 + Int32.ofInt 1) fun z18 => l_X8_even_0_41 a1 a2 S n z13 x5 z18) else (kf_l (x5 + Int32.ofInt 1) fun z17 => l_X8_even_0_41 a1 a2 S n z13 x4 z17))) else (kf_l (x5 + Int32.ofInt 1) fun z12 => l_X8_even_0_41 a1 a2 S n x3 x4 z12)) else (kf_l (x5 + Int32.ofInt 1) fun z10 => l_X8_even_0_41 a1 a2 S n x3 x4 z10)) else (kf_l x3.toInt64 fun z4 => kf_b (f_X8_part_0 S z4 (1 : Int64)) fun z5 S6 => kf_b (f_X8_ask_0 S6 x4 (1 : Int32)) fun z7 S8 => (z7, S8)) := rfl
noncomputable def f_X8_even_0 (σ : kw_S) (m : Int32) : Int32 × kw_S := kf_l (f_X8_in σ m ((-99) : Int32) (99 : Int32)) fun z1 => if z1.toInt = 0 then ((((-1) : Int32), σ)) else (if (σ.1 0 10).toInt = 0 then ((((-4) : Int32), σ)) else (kf_l (f_X8_windAt_0 σ (σ.1 0 22)) fun z2 => l_X8_even_0_41 m z2 σ ((65 - (0 : Int32).toInt).toNat + 1) (0 : Int32) ((-9) : Int32) (0 : Int32)))
theorem f_X8_even_0_u (σ : kw_S) (m : Int32) : f_X8_even_0 σ m = kf_l (f_X8_in σ m ((-99) : Int32) (99 : Int32)) fun z1 => if z1.toInt = 0 then ((((-1) : Int32), σ)) else (if (σ.1 0 10).toInt = 0 then ((((-4) : Int32), σ)) else (kf_l (f_X8_windAt_0 σ (σ.1 0 22)) fun z2 => l_X8_even_0_41 m z2 σ ((65 - (0 : Int32).toInt).toNat + 1) (0 : Int32) ((-9) : Int32) (0 : Int32))) := rfl
abbrev p_X8_even_0 (T : Int) (σ : kw_S) (m : Int32) : Option Value → kw_S → Prop := fun vv σ' => (kw_I (bM T) σ' ∧ kw_FM [1002, 2003, 2004] σ σ') ∧ ∃ r : Int32, vv = some (.int r) ∧ ((m.toInt < -99 ∨ 99 < m.toInt) ∧ r.toInt = -1 ∨ -99 ≤ m.toInt ∧ m.toInt ≤ 99 ∧ (σ.1 0 10).toInt = 0 ∧ r.toInt = -4 ∨ -99 ≤ m.toInt ∧ m.toInt ≤ 99 ∧ (σ.1 0 10).toInt ≠ 0 ∧ r.toInt = 1) ∧ (r, σ') = f_X8_even_0 σ m
set_option maxRecDepth 100000 in
set_option maxHeartbeats 4000000 in
theorem c_X8_even_0 (l : Launch) (T : Int) (hT0 : 0 ≤ T) (hT1 : T ≤ 3000) (σ : kw_S) (hI : kw_I (bM T) σ) (m : Int32) : kw_Met l 4 KM mX8_even [.ref 0, .int m] σ (p_X8_even_0 T σ m) := by
  have r_m := kw_rng m
  have hF0 : kw_FM [1002, 2003, 2004] σ σ := kw_FM.rf
  have hF := (f_X8_even_0_u σ m).symm
  have q_m99 : (-99 : Int32).toInt = -99 := rfl
  have q_m9 : (-9 : Int32).toInt = -9 := rfl
  have q_m4 : (-4 : Int32).toInt = -4 := rfl
  have q_m1 : (-1 : Int32).toInt = -1 := rfl
  have q_0 : (0 : Int32).toInt = 0 := rfl
  have q_1 : (1 : Int32).toInt = 1 := rfl
  have q_99 : (99 : Int32).toInt = 99 := rfl
  refine kw_Met.of (by decide) rfl tX8_even (Nat.le_of_ble_eq_true rfl) ?_
  show kw_AW l 4 kw_E0 KM mX8_even (p_X8_even_0 T σ m) 0 [(0, .ref 0), (1, .int m)] [] σ
  refine kw_iload_n (pc := 0) (i := 0) (k := 1) (n := 1) rfl rfl rfl ?_
  refine kw_bipush (pc := 1) (i := 1) (v := (-99)) rfl rfl ?_
  refine kw_bipush (pc := 3) (i := 2) (v := 99) rfl rfl ?_
  refine kw_callS (pc := 5) (i := 3) (Y := mX8_in) (As := [.int m, .int (-99), .int 99]) (st := []) kw_hE rfl lsX8_93 arX8_in (c_X8_in l T hT0 hT1 σ hI m (-99) 99 ) (by decide) (Nat.le_of_ble_eq_true rfl) rfl (fun v S2 p1 => ?_)
  obtain ⟨e8, z7, rfl, f3, f4, f5, ef6⟩ := p1
  rw [e8]
  replace hF := kf_le ef6 hF
  have r_z7 := kw_rng z7
  show kw_AW l 4 kw_E0 KM mX8_even (p_X8_even_0 T σ m) 8 [(0, .ref 0), (1, .int m)] [.int z7] σ
  refine kw_if_ne (pc := 8) (i := 4) (tgt := 13) rfl rfl (fun c9 => ?_) (fun c9 => ?_)
  · replace hF := kf_n c9 hF
    refine kw_aload_n (pc := 13) (i := 7) (k := 0) (n := 0) rfl rfl rfl ?_
    refine kw_get (pc := 14) (i := 8) (v := .int (σ.1 0 10)) rfl rfl rfl lkX8_163 (fun _ => rfl) ?_
    have b10 : 0 ≤ (σ.1 0 10).toInt ∧ (σ.1 0 10).toInt ≤ 6 := hI 0 10
    refine kw_if_ne (pc := 17) (i := 9) (tgt := 23) rfl rfl (fun c11 => ?_) (fun c11 => ?_)
    · replace hF := kf_n c11 hF
      refine kw_aload_n (pc := 23) (i := 12) (k := 0) (n := 0) rfl rfl rfl ?_
      refine kw_aload_n (pc := 24) (i := 13) (k := 0) (n := 0) rfl rfl rfl ?_
      refine kw_get (pc := 25) (i := 14) (v := .int (σ.1 0 22)) rfl rfl rfl lkX8_166 (fun _ => rfl) ?_
      have b12 : 0 ≤ (σ.1 0 22).toInt ∧ (σ.1 0 22).toInt ≤ T := hI 0 22
      refine kw_callV (pc := 28) (i := 15) (Y := mX8_windAt) (a := 0) (As := [.int (σ.1 0 22)]) (st := []) kw_hE rfl rfl lvX8_196 arX8_windAt (c_X8_windAt_0 l T hT0 hT1 σ hI (σ.1 0 22) (by first | omega | decide)) (by decide) (Nat.le_of_ble_eq_true rfl) rfl (fun v S14 p13 => ?_)
      obtain ⟨e17, z16, rfl, ef15⟩ := p13
      rw [e17]
      replace hF := kf_le ef15 hF
      have r_z16 := kw_rng z16
      show kw_AW l 4 kw_E0 KM mX8_even (p_X8_even_0 T σ m) 31 [(0, .ref 0), (1, .int m)] [.int z16] σ
      refine kw_istore_n (pc := 31) (i := 16) (n := 2) (lv' := [(2, .int z16), (0, .ref 0), (1, .int m)]) rfl rfl (by decide) rfl ?_
      refine kw_iconst (pc := 32) (i := 17) (v := 0) rfl rfl ?_
      refine kw_istore_n (pc := 33) (i := 18) (n := 3) (lv' := [(3, .int 0), (2, .int z16), (0, .ref 0), (1, .int m)]) rfl rfl (by decide) rfl ?_
      refine kw_bipush (pc := 34) (i := 19) (v := (-9)) rfl rfl ?_
      refine kw_istore (pc := 36) (i := 20) (n := 4) (lv' := [(4, .int (-9)), (3, .int 0), (2, .int z16), (0, .ref 0), (1, .int m)]) rfl (by decide) rfl ?_
      refine kw_iconst (pc := 38) (i := 21) (v := 0) rfl rfl ?_
      refine kw_istore (pc := 39) (i := 22) (n := 5) (lv' := [(5, .int 0), (4, .int (-9)), (3, .int 0), (2, .int z16), (0, .ref 0), (1, .int m)]) rfl (by decide) rfl ?_
      have L21 : ∀ (n25 : Nat) (x18 : Int32) (x19 : Int32) (x20 : Int32), 0 ≤ x18.toInt → l_X8_even_0_41 m z16 σ n25 x20 x19 x18 = (f_X8_even_0 σ m) → (65 - x18.toInt).toNat < n25 → kw_AW l 4 kw_E0 KM mX8_even (p_X8_even_0 T σ m) 41 [(5, .int x18), (4, .int x19), (3, .int x20), (2, .int z16), (0, .ref 0), (1, .int m)] [] σ := by
        intro n25
        induction n25 with
        | zero => intro x18 x19 x20 v23 hF m24; exact absurd m24 (Nat.not_lt_zero _)
        | succ n25 ih22 =>
          intro x18 x19 x20 v23 hF m24
          replace hF := kf_st (l_X8_even_0_41_s _ _ _ _ _ _ _) hF
          have r_x18 := kw_rng x18
          have r_x19 := kw_rng x19
          have r_x20 := kw_rng x20
          refine kw_iload (pc := 41) (i := 23) (k := 0) (n := 5) rfl rfl ?_
          refine kw_iconst (pc := 43) (i := 24) (v := 1) rfl rfl ?_
          refine kw_aload_n (pc := 44) (i := 25) (k := 4) (n := 0) rfl rfl rfl ?_
          refine kw_get (pc := 45) (i := 26) (v := .int (σ.1 0 10)) rfl rfl rfl lkX8_163 (fun _ => rfl) ?_
          refine kw_ishl (pc := 48) (i := 27) rfl (fun z26 e_z26 => ?_)
          have r_z26 := kw_rng z26
          replace hF := kf_le e_z26 hF
          have t_z26 := kw_shlm (σ.1 0 10) z26 e_z26
          first | (replace t_z26 := And.intro (t_z26.1 (by omega) (by omega)) (t_z26.2 (by omega) (by omega))) | (replace t_z26 := t_z26.1 (by omega) (by omega)) | skip
          have u_z26 := congrArg Int32.toInt e_z26
          refine kw_icmp_ge (pc := 49) (i := 28) (tgt := 113) rfl rfl (fun c27 => ?_) (fun c27 => ?_)
          · replace hF := kf_nl c27 hF
            refine kw_aload_n (pc := 113) (i := 57) (k := 4) (n := 0) rfl rfl rfl ?_
            refine kw_iload_n (pc := 114) (i := 58) (k := 2) (n := 3) rfl rfl rfl ?_
            refine kw_i2l (pc := 115) (i := 59) rfl (fun z28 e_z28 t_z28 => ?_)
            replace hF := kf_le e_z28 hF
            refine kw_lconst (pc := 116) (i := 60) (v := 1) rfl rfl ?_
            refine kw_callV (pc := 117) (i := 61) (Y := mX8_part) (a := 0) (As := [.long z28, .long 1]) (st := []) kw_hE rfl rfl lvX8_223 arX8_part (c_X8_part_0 l T hT0 hT1 σ hI z28 1 (by first | omega | decide)) (by decide) (Nat.le_of_ble_eq_true rfl) rfl (fun v S30 p29 => ?_)
            obtain ⟨⟨I34, F35⟩, z33, rfl, f31, ef32⟩ := p29
            have F36 : kw_FM [1002, 2003, 2004] σ S30 := kw_FM.tr hF0 F35 (by decide)
            have w_37 : (S30.1 0 27).toInt = (σ.1 0 27).toInt := congrArg Int32.toInt (kw_FM.at0 (j := 27) F35 (by decide))
            replace hF := kf_be ef32 hF
            have r_z33 := kw_rng z33
            show kw_AW l 4 kw_E0 KM mX8_even (p_X8_even_0 T σ m) 120 [(5, .int x18), (4, .int x19), (3, .int x20), (2, .int z16), (0, .ref 0), (1, .int m)] [.int z33] S30
            refine kw_pop (pc := 120) (i := 62) rfl rfl ?_
            refine kw_aload_n (pc := 121) (i := 63) (k := 4) (n := 0) rfl rfl rfl ?_
            refine kw_iload (pc := 122) (i := 64) (k := 1) (n := 4) rfl rfl ?_
            refine kw_iconst (pc := 124) (i := 65) (v := 1) rfl rfl ?_
            refine kw_callV (pc := 125) (i := 66) (Y := mX8_ask) (a := 0) (As := [.int x19, .int 1]) (st := []) kw_hE rfl rfl lvX8_119 arX8_ask (c_X8_ask_0 l T hT0 hT1 S30 I34 x19 1 ) (by decide) (Nat.le_of_ble_eq_true rfl) rfl (fun v S39 p38 => ?_)
            obtain ⟨⟨I43, F44⟩, z42, rfl, f40, ef41⟩ := p38
            have F45 : kw_FM [1002, 2003, 2004] σ S39 := kw_FM.tr F36 F44 (by decide)
            have w_46 : (S39.1 0 27).toInt = (S30.1 0 27).toInt := congrArg Int32.toInt (kw_FM.at0 (j := 27) F44 (by decide))
            replace hF := kf_be ef41 hF
            have r_z42 := kw_rng z42
            show kw_AW l 4 kw_E0 KM mX8_even (p_X8_even_0 T σ m) 128 [(5, .int x18), (4, .int x19), (3, .int x20), (2, .int z16), (0, .ref 0), (1, .int m)] [.int z42] S39
            exact kw_ireturn (pc := 128) (i := 67) (ty := .int) rfl rfl rfl ⟨⟨I43, F45⟩, _, rfl, by omega, hF⟩
          · replace hF := kf_p c27 hF
            refine kw_aload_n (pc := 52) (i := 29) (k := 4) (n := 0) rfl rfl rfl ?_
            refine kw_iload (pc := 53) (i := 30) (k := 0) (n := 5) rfl rfl ?_
            refine kw_iload_n (pc := 55) (i := 31) (k := 3) (n := 2) rfl rfl rfl ?_
            refine kw_callV (pc := 56) (i := 32) (Y := mX8_milesBy) (a := 0) (As := [.int x18, .int z16]) (st := []) kw_hE rfl rfl lvX8_199 arX8_milesBy (c_X8_milesBy_0 l T hT0 hT1 σ hI x18 z16 ) (by decide) (Nat.le_of_ble_eq_true rfl) rfl (fun v S48 p47 => ?_)
            obtain ⟨e51, z50, rfl, ef49⟩ := p47
            rw [e51]
            replace hF := kf_le ef49 hF
            have r_z50 := kw_rng z50
            show kw_AW l 4 kw_E0 KM mX8_even (p_X8_even_0 T σ m) 59 [(5, .int x18), (4, .int x19), (3, .int x20), (2, .int z16), (0, .ref 0), (1, .int m)] [.int z50] σ
            refine kw_iload_n (pc := 59) (i := 33) (k := 5) (n := 1) rfl rfl rfl ?_
            refine kw_icmp_ne (pc := 60) (i := 34) (tgt := 107) rfl rfl (fun c52 => ?_) (fun c52 => ?_)
            · replace hF := kf_n c52 hF
              refine kw_iinc' (pc := 107) (i := 55) (k := 0) (fun z => [(5, .int z), (4, .int x19), (3, .int x20), (2, .int z16), (0, .ref 0), (1, .int m)]) rfl rfl (by decide) rfl (fun _ => rfl) (fun z53 e_z53 t_z53 => ?_)
              replace hF := kf_le e_z53 hF
              first | (have u_z53 : z53.toInt = x18.toInt + 1 := (by omega); clear t_z53) | skip
              refine kw_goto (pc := 110) (i := 56) (tgt := 41) rfl rfl ?_
              refine kw_sub (lv' := [(5, .int z53), (4, .int x19), (3, .int x20), (2, .int z16), (0, .ref 0), (1, .int m)]) [0, 1, 2, 3, 4, 5] rfl ?_
              exact ih22 z53 x19 x20 (by omega) hF (by omega)
            · replace hF := kf_p c52 hF
              refine kw_aload_n (pc := 63) (i := 35) (k := 4) (n := 0) rfl rfl rfl ?_
              refine kw_iload (pc := 64) (i := 36) (k := 0) (n := 5) rfl rfl ?_
              refine kw_iload_n (pc := 66) (i := 37) (k := 3) (n := 2) rfl rfl rfl ?_
              refine kw_callV (pc := 67) (i := 38) (Y := mX8_turnBy) (a := 0) (As := [.int x18, .int z16]) (st := []) kw_hE rfl rfl lvX8_202 arX8_turnBy (c_X8_turnBy_0 l T hT0 hT1 σ hI x18 z16 ) (by decide) (Nat.le_of_ble_eq_true rfl) rfl (fun v S55 p54 => ?_)
              obtain ⟨e58, z57, rfl, ef56⟩ := p54
              rw [e58]
              replace hF := kf_le ef56 hF
              have r_z57 := kw_rng z57
              show kw_AW l 4 kw_E0 KM mX8_even (p_X8_even_0 T σ m) 70 [(5, .int x18), (4, .int x19), (3, .int x20), (2, .int z16), (0, .ref 0), (1, .int m)] [.int z57] σ
              refine kw_if_ne (pc := 70) (i := 39) (tgt := 107) rfl rfl (fun c59 => ?_) (fun c59 => ?_)
              · replace hF := kf_n c59 hF
                refine kw_iinc' (pc := 107) (i := 55) (k := 0) (fun z => [(5, .int z), (4, .int x19), (3, .int x20), (2, .int z16), (0, .ref 0), (1, .int m)]) rfl rfl (by decide) rfl (fun _ => rfl) (fun z60 e_z60 t_z60 => ?_)
                replace hF := kf_le e_z60 hF
                first | (have u_z60 : z60.toInt = x18.toInt + 1 := (by omega); clear t_z60) | skip
                refine kw_goto (pc := 110) (i := 56) (tgt := 41) rfl rfl ?_
                refine kw_sub (lv' := [(5, .int z60), (4, .int x19), (3, .int x20), (2, .int z16), (0, .ref 0), (1, .int m)]) [0, 1, 2, 3, 4, 5] rfl ?_
                exact ih22 z60 x19 x20 (by omega) hF (by omega)
              · replace hF := kf_p c59 hF
                refine kw_iinc' (pc := 73) (i := 40) (k := 2) (fun z => [(3, .int z), (5, .int x18), (4, .int x19), (2, .int z16), (0, .ref 0), (1, .int m)]) rfl rfl (by decide) rfl (fun _ => rfl) (fun z61 e_z61 t_z61 => ?_)
                replace hF := kf_le e_z61 hF
                first | (have u_z61 : z61.toInt = x20.toInt + 1 := (by omega); clear t_z61) | skip
                refine kw_iload (pc := 76) (i := 41) (k := 2) (n := 4) rfl rfl ?_
                refine kw_bipush (pc := 78) (i := 42) (v := (-9)) rfl rfl ?_
                refine kw_icmp_eq (pc := 80) (i := 43) (tgt := 98) rfl rfl (fun c62 => ?_) (fun c62 => ?_)
                · replace hF := kf_p c62 hF
                  refine kw_iload (pc := 98) (i := 51) (k := 1) (n := 5) rfl rfl ?_
                  refine kw_goto (pc := 100) (i := 52) (tgt := 105) rfl rfl ?_
                  refine kw_istore (pc := 105) (i := 54) (n := 4) (lv' := [(4, .int x18), (3, .int z61), (5, .int x18), (2, .int z16), (0, .ref 0), (1, .int m)]) rfl (by decide) rfl ?_
                  refine kw_iinc' (pc := 107) (i := 55) (k := 2) (fun z => [(5, .int z), (4, .int x18), (3, .int z61), (2, .int z16), (0, .ref 0), (1, .int m)]) rfl rfl (by decide) rfl (fun _ => rfl) (fun z63 e_z63 t_z63 => ?_)
                  replace hF := kf_le e_z63 hF
                  first | (have u_z63 : z63.toInt = x18.toInt + 1 := (by omega); clear t_z63) | skip
                  refine kw_goto (pc := 110) (i := 56) (tgt := 41) rfl rfl ?_
                  refine kw_sub (lv' := [(5, .int z63), (4, .int x18), (3, .int z61), (2, .int z16), (0, .ref 0), (1, .int m)]) [0, 1, 2, 3, 4, 5] rfl ?_
                  exact ih22 z63 x18 z61 (by omega) hF (by omega)
                · replace hF := kf_n c62 hF
                  refine kw_aload_n (pc := 83) (i := 44) (k := 4) (n := 0) rfl rfl rfl ?_
                  refine kw_iload (pc := 84) (i := 45) (k := 1) (n := 5) rfl rfl ?_
                  refine kw_callV (pc := 86) (i := 46) (Y := mX8_linenOf) (a := 0) (As := [.int x18]) (st := []) kw_hE rfl rfl lvX8_246 arX8_linenOf (c_X8_linenOf_0 l T hT0 hT1 σ hI x18 ) (by decide) (Nat.le_of_ble_eq_true rfl) rfl (fun v S65 p64 => ?_)
                  obtain ⟨e68, z67, rfl, ef66⟩ := p64
                  rw [e68]
                  replace hF := kf_le ef66 hF
                  have r_z67 := kw_rng z67
                  show kw_AW l 4 kw_E0 KM mX8_even (p_X8_even_0 T σ m) 89 [(3, .int z61), (5, .int x18), (4, .int x19), (2, .int z16), (0, .ref 0), (1, .int m)] [.int z67] σ
                  refine kw_aload_n (pc := 89) (i := 47) (k := 4) (n := 0) rfl rfl rfl ?_
                  refine kw_iload (pc := 90) (i := 48) (k := 2) (n := 4) rfl rfl ?_
                  refine kw_callV (pc := 92) (i := 49) (Y := mX8_linenOf) (a := 0) (As := [.int x19]) (st := [.int z67]) kw_hE rfl rfl lvX8_246 arX8_linenOf (c_X8_linenOf_0 l T hT0 hT1 σ hI x19 ) (by decide) (Nat.le_of_ble_eq_true rfl) rfl (fun v S70 p69 => ?_)
                  obtain ⟨e73, z72, rfl, ef71⟩ := p69
                  rw [e73]
                  replace hF := kf_le ef71 hF
                  have r_z72 := kw_rng z72
                  show kw_AW l 4 kw_E0 KM mX8_even (p_X8_even_0 T σ m) 95 [(3, .int z61), (5, .int x18), (4, .int x19), (2, .int z16), (0, .ref 0), (1, .int m)] [.int z72, .int z67] σ
                  refine kw_icmp_ge (pc := 95) (i := 50) (tgt := 103) rfl rfl (fun c74 => ?_) (fun c74 => ?_)
                  · replace hF := kf_nl c74 hF
                    refine kw_iload (pc := 103) (i := 53) (k := 2) (n := 4) rfl rfl ?_
                    refine kw_istore (pc := 105) (i := 54) (n := 4) (lv' := [(4, .int x19), (3, .int z61), (5, .int x18), (2, .int z16), (0, .ref 0), (1, .int m)]) rfl (by decide) rfl ?_
                    refine kw_iinc' (pc := 107) (i := 55) (k := 2) (fun z => [(5, .int z), (4, .int x19), (3, .int z61), (2, .int z16), (0, .ref 0), (1, .int m)]) rfl rfl (by decide) rfl (fun _ => rfl) (fun z75 e_z75 t_z75 => ?_)
                    replace hF := kf_le e_z75 hF
                    first | (have u_z75 : z75.toInt = x18.toInt + 1 := (by omega); clear t_z75) | skip
                    refine kw_goto (pc := 110) (i := 56) (tgt := 41) rfl rfl ?_
                    refine kw_sub (lv' := [(5, .int z75), (4, .int x19), (3, .int z61), (2, .int z16), (0, .ref 0), (1, .int m)]) [0, 1, 2, 3, 4, 5] rfl ?_
                    exact ih22 z75 x19 z61 (by omega) hF (by omega)
                  · replace hF := kf_p c74 hF
                    refine kw_iload (pc := 98) (i := 51) (k := 1) (n := 5) rfl rfl ?_
                    refine kw_goto (pc := 100) (i := 52) (tgt := 105) rfl rfl ?_
                    refine kw_istore (pc := 105) (i := 54) (n := 4) (lv' := [(4, .int x18), (3, .int z61), (5, .int x18), (2, .int z16), (0, .ref 0), (1, .int m)]) rfl (by decide) rfl ?_
                    refine kw_iinc' (pc := 107) (i := 55) (k := 2) (fun z => [(5, .int z), (4, .int x18), (3, .int z61), (2, .int z16), (0, .ref 0), (1, .int m)]) rfl rfl (by decide) rfl (fun _ => rfl) (fun z76 e_z76 t_z76 => ?_)
                    replace hF := kf_le e_z76 hF
                    first | (have u_z76 : z76.toInt = x18.toInt + 1 := (by omega); clear t_z76) | skip
                    refine kw_goto (pc := 110) (i := 56) (tgt := 41) rfl rfl ?_
                    refine kw_sub (lv' := [(5, .int z76), (4, .int x18), (3, .int z61), (2, .int z16), (0, .ref 0), (1, .int m)]) [0, 1, 2, 3, 4, 5] rfl ?_
                    exact ih22 z76 x18 z61 (by omega) hF (by omega)
      exact L21 _ 0 (-9) 0 (by omega) hF (Nat.lt_succ_self _)
    · replace hF := kf_p c11 hF
      refine kw_bipush (pc := 20) (i := 10) (v := (-4)) rfl rfl ?_
      exact kw_ireturn (pc := 22) (i := 11) (ty := .int) rfl rfl rfl ⟨⟨hI, hF0⟩, _, rfl, by omega, hF⟩
  · replace hF := kf_p c9 hF
    refine kw_iconst (pc := 11) (i := 5) (v := (-1)) rfl rfl ?_
    exact kw_ireturn (pc := 12) (i := 6) (ty := .int) rfl rfl rfl ⟨⟨hI, hF0⟩, _, rfl, by omega, hF⟩
noncomputable def l_X8_fast_0_36 (a1 : Int32) (a2 : Int32) (S : kw_S) : Nat → Int32 → Int32 → Int32 × kw_S
  | 0, _, _ => (0, S)
  | n + 1, x3, x4 => kf_l ((1 : Int32) <<< ((S.1 0 10) &&& 31)) fun z3 => if x4.toInt < z3.toInt then (kf_l (f_X8_linenOf_0 S x4) fun z7 => if a1.toInt < z7.toInt then (kf_l (x4 + Int32.ofInt 1) fun z8 => l_X8_fast_0_36 a1 a2 S n x3 z8) else (kf_l (f_X8_milesBy_0 S x4 a2) fun z9 => kf_l (f_X8_milesBy_0 S x3 a2) fun z10 => if z10.toInt < z9.toInt then (kf_l (x4 + Int32.ofInt 1) fun z12 => l_X8_fast_0_36 a1 a2 S n x4 z12) else (kf_l (x4 + Int32.ofInt 1) fun z11 => l_X8_fast_0_36 a1 a2 S n x3 z11))) else (kf_l (f_X8_milesBy_0 S x3 a2) fun z4 => kf_b (f_X8_ask_0 S x3 z4) fun z5 S6 => (z5, S6))
theorem l_X8_fast_0_36_s (a1 : Int32) (a2 : Int32) (S : kw_S) (n : Nat) (x3 : Int32) (x4 : Int32) : l_X8_fast_0_36 a1 a2 S (n + 1) x3 x4 = kf_l ((1 : Int32) <<< ((S.1 0 10) &&& 31)) fun z3 => if x4.toInt < z3.toInt then (kf_l (f_X8_linenOf_0 S x4) fun z7 => if a1.toInt < z7.toInt then (kf_l (x4 + Int32.ofInt 1) fun z8 => l_X8_fast_0_36 a1 a2 S n x3 z8) else (kf_l (f_X8_milesBy_0 S x4 a2) fun z9 => kf_l (f_X8_milesBy_0 S x3 a2) fun z10 => if z10.toInt < z9.toInt then (kf_l (x4 + Int32.ofInt 1) fun z12 => l_X8_fast_0_36 a1 a2 S n x4 z12) else (kf_l (x4 + Int32.ofInt 1) fun z11 => l_X8_fast_0_36 a1 a2 S n x3 z11))) else (kf_l (f_X8_milesBy_0 S x3 a2) fun z4 => kf_b (f_X8_ask_0 S x3 z4) fun z5 S6 => (z5, S6)) := rfl
noncomputable def f_X8_fast_0 (σ : kw_S) (m : Int32) : Int32 × kw_S := kf_l (f_X8_in σ m (0 : Int32) (99 : Int32)) fun z1 => if z1.toInt = 0 then ((((-1) : Int32), σ)) else (if (σ.1 0 10).toInt = 0 then ((((-4) : Int32), σ)) else (kf_l (f_X8_windAt_0 σ (σ.1 0 22)) fun z2 => l_X8_fast_0_36 m z2 σ ((65 - (1 : Int32).toInt).toNat + 1) (0 : Int32) (1 : Int32)))
theorem f_X8_fast_0_u (σ : kw_S) (m : Int32) : f_X8_fast_0 σ m = kf_l (f_X8_in σ m (0 : Int32) (99 : Int32)) fun z1 => if z1.toInt = 0 then ((((-1) : Int32), σ)) else (if (σ.1 0 10).toInt = 0 then ((((-4) : Int32), σ)) else (kf_l (f_X8_windAt_0 σ (σ.1 0 22)) fun z2 => l_X8_fast_0_36 m z2 σ ((65 - (1 : Int32).toInt).toNat + 1) (0 : Int32) (1 : Int32))) := rfl
abbrev p_X8_fast_0 (T : Int) (σ : kw_S) (m : Int32) : Option Value → kw_S → Prop := fun vv σ' => (kw_I (bM T) σ' ∧ kw_FM [1002] σ σ') ∧ ∃ r : Int32, vv = some (.int r) ∧ (r, σ') = f_X8_fast_0 σ m
set_option maxRecDepth 100000 in
set_option maxHeartbeats 4000000 in
theorem c_X8_fast_0 (l : Launch) (T : Int) (hT0 : 0 ≤ T) (hT1 : T ≤ 3000) (σ : kw_S) (hI : kw_I (bM T) σ) (m : Int32) : kw_Met l 4 KM mX8_fast [.ref 0, .int m] σ (p_X8_fast_0 T σ m) := by
  have r_m := kw_rng m
  have hF0 : kw_FM [1002] σ σ := kw_FM.rf
  have hF := (f_X8_fast_0_u σ m).symm
  have q_m4 : (-4 : Int32).toInt = -4 := rfl
  have q_m1 : (-1 : Int32).toInt = -1 := rfl
  have q_0 : (0 : Int32).toInt = 0 := rfl
  have q_1 : (1 : Int32).toInt = 1 := rfl
  have q_99 : (99 : Int32).toInt = 99 := rfl
  refine kw_Met.of (by decide) rfl tX8_fast (Nat.le_of_ble_eq_true rfl) ?_
  show kw_AW l 4 kw_E0 KM mX8_fast (p_X8_fast_0 T σ m) 0 [(0, .ref 0), (1, .int m)] [] σ
  refine kw_iload_n (pc := 0) (i := 0) (k := 1) (n := 1) rfl rfl rfl ?_
  refine kw_iconst (pc := 1) (i := 1) (v := 0) rfl rfl ?_
  refine kw_bipush (pc := 2) (i := 2) (v := 99) rfl rfl ?_
  refine kw_callS (pc := 4) (i := 3) (Y := mX8_in) (As := [.int m, .int 0, .int 99]) (st := []) kw_hE rfl lsX8_93 arX8_in (c_X8_in l T hT0 hT1 σ hI m 0 99 ) (by decide) (Nat.le_of_ble_eq_true rfl) rfl (fun v S2 p1 => ?_)
  obtain ⟨e8, z7, rfl, f3, f4, f5, ef6⟩ := p1
  rw [e8]
  replace hF := kf_le ef6 hF
  have r_z7 := kw_rng z7
  show kw_AW l 4 kw_E0 KM mX8_fast (p_X8_fast_0 T σ m) 7 [(0, .ref 0), (1, .int m)] [.int z7] σ
  refine kw_if_ne (pc := 7) (i := 4) (tgt := 12) rfl rfl (fun c9 => ?_) (fun c9 => ?_)
  · replace hF := kf_n c9 hF
    refine kw_aload_n (pc := 12) (i := 7) (k := 0) (n := 0) rfl rfl rfl ?_
    refine kw_get (pc := 13) (i := 8) (v := .int (σ.1 0 10)) rfl rfl rfl lkX8_163 (fun _ => rfl) ?_
    have b10 : 0 ≤ (σ.1 0 10).toInt ∧ (σ.1 0 10).toInt ≤ 6 := hI 0 10
    refine kw_if_ne (pc := 16) (i := 9) (tgt := 22) rfl rfl (fun c11 => ?_) (fun c11 => ?_)
    · replace hF := kf_n c11 hF
      refine kw_aload_n (pc := 22) (i := 12) (k := 0) (n := 0) rfl rfl rfl ?_
      refine kw_aload_n (pc := 23) (i := 13) (k := 0) (n := 0) rfl rfl rfl ?_
      refine kw_get (pc := 24) (i := 14) (v := .int (σ.1 0 22)) rfl rfl rfl lkX8_166 (fun _ => rfl) ?_
      have b12 : 0 ≤ (σ.1 0 22).toInt ∧ (σ.1 0 22).toInt ≤ T := hI 0 22
      refine kw_callV (pc := 27) (i := 15) (Y := mX8_windAt) (a := 0) (As := [.int (σ.1 0 22)]) (st := []) kw_hE rfl rfl lvX8_196 arX8_windAt (c_X8_windAt_0 l T hT0 hT1 σ hI (σ.1 0 22) (by first | omega | decide)) (by decide) (Nat.le_of_ble_eq_true rfl) rfl (fun v S14 p13 => ?_)
      obtain ⟨e17, z16, rfl, ef15⟩ := p13
      rw [e17]
      replace hF := kf_le ef15 hF
      have r_z16 := kw_rng z16
      show kw_AW l 4 kw_E0 KM mX8_fast (p_X8_fast_0 T σ m) 30 [(0, .ref 0), (1, .int m)] [.int z16] σ
      refine kw_istore_n (pc := 30) (i := 16) (n := 2) (lv' := [(2, .int z16), (0, .ref 0), (1, .int m)]) rfl rfl (by decide) rfl ?_
      refine kw_iconst (pc := 31) (i := 17) (v := 0) rfl rfl ?_
      refine kw_istore_n (pc := 32) (i := 18) (n := 3) (lv' := [(3, .int 0), (2, .int z16), (0, .ref 0), (1, .int m)]) rfl rfl (by decide) rfl ?_
      refine kw_iconst (pc := 33) (i := 19) (v := 1) rfl rfl ?_
      refine kw_istore (pc := 34) (i := 20) (n := 4) (lv' := [(4, .int 1), (3, .int 0), (2, .int z16), (0, .ref 0), (1, .int m)]) rfl (by decide) rfl ?_
      have L20 : ∀ (n24 : Nat) (x18 : Int32) (x19 : Int32), 0 ≤ x18.toInt → l_X8_fast_0_36 m z16 σ n24 x19 x18 = (f_X8_fast_0 σ m) → (65 - x18.toInt).toNat < n24 → kw_AW l 4 kw_E0 KM mX8_fast (p_X8_fast_0 T σ m) 36 [(4, .int x18), (3, .int x19), (2, .int z16), (0, .ref 0), (1, .int m)] [] σ := by
        intro n24
        induction n24 with
        | zero => intro x18 x19 v22 hF m23; exact absurd m23 (Nat.not_lt_zero _)
        | succ n24 ih21 =>
          intro x18 x19 v22 hF m23
          replace hF := kf_st (l_X8_fast_0_36_s _ _ _ _ _ _) hF
          have r_x18 := kw_rng x18
          have r_x19 := kw_rng x19
          refine kw_iload (pc := 36) (i := 21) (k := 0) (n := 4) rfl rfl ?_
          refine kw_iconst (pc := 38) (i := 22) (v := 1) rfl rfl ?_
          refine kw_aload_n (pc := 39) (i := 23) (k := 3) (n := 0) rfl rfl rfl ?_
          refine kw_get (pc := 40) (i := 24) (v := .int (σ.1 0 10)) rfl rfl rfl lkX8_163 (fun _ => rfl) ?_
          refine kw_ishl (pc := 43) (i := 25) rfl (fun z25 e_z25 => ?_)
          have r_z25 := kw_rng z25
          replace hF := kf_le e_z25 hF
          have t_z25 := kw_shlm (σ.1 0 10) z25 e_z25
          first | (replace t_z25 := And.intro (t_z25.1 (by omega) (by omega)) (t_z25.2 (by omega) (by omega))) | (replace t_z25 := t_z25.1 (by omega) (by omega)) | skip
          have u_z25 := congrArg Int32.toInt e_z25
          refine kw_icmp_ge (pc := 44) (i := 26) (tgt := 86) rfl rfl (fun c26 => ?_) (fun c26 => ?_)
          · replace hF := kf_nl c26 hF
            refine kw_aload_n (pc := 86) (i := 47) (k := 3) (n := 0) rfl rfl rfl ?_
            refine kw_iload_n (pc := 87) (i := 48) (k := 1) (n := 3) rfl rfl rfl ?_
            refine kw_aload_n (pc := 88) (i := 49) (k := 3) (n := 0) rfl rfl rfl ?_
            refine kw_iload_n (pc := 89) (i := 50) (k := 1) (n := 3) rfl rfl rfl ?_
            refine kw_iload_n (pc := 90) (i := 51) (k := 2) (n := 2) rfl rfl rfl ?_
            refine kw_callV (pc := 91) (i := 52) (Y := mX8_milesBy) (a := 0) (As := [.int x19, .int z16]) (st := [.int x19, .ref 0]) kw_hE rfl rfl lvX8_199 arX8_milesBy (c_X8_milesBy_0 l T hT0 hT1 σ hI x19 z16 ) (by decide) (Nat.le_of_ble_eq_true rfl) rfl (fun v S28 p27 => ?_)
            obtain ⟨e31, z30, rfl, ef29⟩ := p27
            rw [e31]
            replace hF := kf_le ef29 hF
            have r_z30 := kw_rng z30
            show kw_AW l 4 kw_E0 KM mX8_fast (p_X8_fast_0 T σ m) 94 [(4, .int x18), (3, .int x19), (2, .int z16), (0, .ref 0), (1, .int m)] [.int z30, .int x19, .ref 0] σ
            refine kw_callV (pc := 94) (i := 53) (Y := mX8_ask) (a := 0) (As := [.int x19, .int z30]) (st := []) kw_hE rfl rfl lvX8_119 arX8_ask (c_X8_ask_0 l T hT0 hT1 σ hI x19 z30 ) (by decide) (Nat.le_of_ble_eq_true rfl) rfl (fun v S33 p32 => ?_)
            obtain ⟨⟨I37, F38⟩, z36, rfl, f34, ef35⟩ := p32
            have F39 : kw_FM [1002] σ S33 := kw_FM.tr hF0 F38 (by decide)
            have w_40 : (S33.1 0 27).toInt = (σ.1 0 27).toInt := congrArg Int32.toInt (kw_FM.at0 (j := 27) F38 (by decide))
            replace hF := kf_be ef35 hF
            have r_z36 := kw_rng z36
            show kw_AW l 4 kw_E0 KM mX8_fast (p_X8_fast_0 T σ m) 97 [(4, .int x18), (3, .int x19), (2, .int z16), (0, .ref 0), (1, .int m)] [.int z36] S33
            exact kw_ireturn (pc := 97) (i := 54) (ty := .int) rfl rfl rfl ⟨⟨I37, F39⟩, _, rfl, hF⟩
          · replace hF := kf_p c26 hF
            refine kw_aload_n (pc := 47) (i := 27) (k := 3) (n := 0) rfl rfl rfl ?_
            refine kw_iload (pc := 48) (i := 28) (k := 0) (n := 4) rfl rfl ?_
            refine kw_callV (pc := 50) (i := 29) (Y := mX8_linenOf) (a := 0) (As := [.int x18]) (st := []) kw_hE rfl rfl lvX8_246 arX8_linenOf (c_X8_linenOf_0 l T hT0 hT1 σ hI x18 ) (by decide) (Nat.le_of_ble_eq_true rfl) rfl (fun v S42 p41 => ?_)
            obtain ⟨e45, z44, rfl, ef43⟩ := p41
            rw [e45]
            replace hF := kf_le ef43 hF
            have r_z44 := kw_rng z44
            show kw_AW l 4 kw_E0 KM mX8_fast (p_X8_fast_0 T σ m) 53 [(4, .int x18), (3, .int x19), (2, .int z16), (0, .ref 0), (1, .int m)] [.int z44] σ
            refine kw_iload_n (pc := 53) (i := 30) (k := 4) (n := 1) rfl rfl rfl ?_
            refine kw_icmp_gt (pc := 54) (i := 31) (tgt := 78) rfl rfl (fun c46 => ?_) (fun c46 => ?_)
            · replace hF := kf_p c46 hF
              refine kw_iload_n (pc := 78) (i := 43) (k := 1) (n := 3) rfl rfl rfl ?_
              refine kw_istore_n (pc := 79) (i := 44) (n := 3) (lv' := [(3, .int x19), (4, .int x18), (2, .int z16), (0, .ref 0), (1, .int m)]) rfl rfl (by decide) rfl ?_
              refine kw_iinc' (pc := 80) (i := 45) (k := 1) (fun z => [(4, .int z), (3, .int x19), (2, .int z16), (0, .ref 0), (1, .int m)]) rfl rfl (by decide) rfl (fun _ => rfl) (fun z47 e_z47 t_z47 => ?_)
              replace hF := kf_le e_z47 hF
              first | (have u_z47 : z47.toInt = x18.toInt + 1 := (by omega); clear t_z47) | skip
              refine kw_goto (pc := 83) (i := 46) (tgt := 36) rfl rfl ?_
              refine kw_sub (lv' := [(4, .int z47), (3, .int x19), (2, .int z16), (0, .ref 0), (1, .int m)]) [0, 1, 2, 3, 4] rfl ?_
              exact ih21 z47 x19 (by omega) hF (by omega)
            · replace hF := kf_nl c46 hF
              refine kw_aload_n (pc := 57) (i := 32) (k := 3) (n := 0) rfl rfl rfl ?_
              refine kw_iload (pc := 58) (i := 33) (k := 0) (n := 4) rfl rfl ?_
              refine kw_iload_n (pc := 60) (i := 34) (k := 2) (n := 2) rfl rfl rfl ?_
              refine kw_callV (pc := 61) (i := 35) (Y := mX8_milesBy) (a := 0) (As := [.int x18, .int z16]) (st := []) kw_hE rfl rfl lvX8_199 arX8_milesBy (c_X8_milesBy_0 l T hT0 hT1 σ hI x18 z16 ) (by decide) (Nat.le_of_ble_eq_true rfl) rfl (fun v S49 p48 => ?_)
              obtain ⟨e52, z51, rfl, ef50⟩ := p48
              rw [e52]
              replace hF := kf_le ef50 hF
              have r_z51 := kw_rng z51
              show kw_AW l 4 kw_E0 KM mX8_fast (p_X8_fast_0 T σ m) 64 [(4, .int x18), (3, .int x19), (2, .int z16), (0, .ref 0), (1, .int m)] [.int z51] σ
              refine kw_aload_n (pc := 64) (i := 36) (k := 3) (n := 0) rfl rfl rfl ?_
              refine kw_iload_n (pc := 65) (i := 37) (k := 1) (n := 3) rfl rfl rfl ?_
              refine kw_iload_n (pc := 66) (i := 38) (k := 2) (n := 2) rfl rfl rfl ?_
              refine kw_callV (pc := 67) (i := 39) (Y := mX8_milesBy) (a := 0) (As := [.int x19, .int z16]) (st := [.int z51]) kw_hE rfl rfl lvX8_199 arX8_milesBy (c_X8_milesBy_0 l T hT0 hT1 σ hI x19 z16 ) (by decide) (Nat.le_of_ble_eq_true rfl) rfl (fun v S54 p53 => ?_)
              obtain ⟨e57, z56, rfl, ef55⟩ := p53
              rw [e57]
              replace hF := kf_le ef55 hF
              have r_z56 := kw_rng z56
              show kw_AW l 4 kw_E0 KM mX8_fast (p_X8_fast_0 T σ m) 70 [(4, .int x18), (3, .int x19), (2, .int z16), (0, .ref 0), (1, .int m)] [.int z56, .int z51] σ
              refine kw_icmp_le (pc := 70) (i := 40) (tgt := 78) rfl rfl (fun c58 => ?_) (fun c58 => ?_)
              · replace hF := kf_nl c58 hF
                refine kw_iload_n (pc := 78) (i := 43) (k := 1) (n := 3) rfl rfl rfl ?_
                refine kw_istore_n (pc := 79) (i := 44) (n := 3) (lv' := [(3, .int x19), (4, .int x18), (2, .int z16), (0, .ref 0), (1, .int m)]) rfl rfl (by decide) rfl ?_
                refine kw_iinc' (pc := 80) (i := 45) (k := 1) (fun z => [(4, .int z), (3, .int x19), (2, .int z16), (0, .ref 0), (1, .int m)]) rfl rfl (by decide) rfl (fun _ => rfl) (fun z59 e_z59 t_z59 => ?_)
                replace hF := kf_le e_z59 hF
                first | (have u_z59 : z59.toInt = x18.toInt + 1 := (by omega); clear t_z59) | skip
                refine kw_goto (pc := 83) (i := 46) (tgt := 36) rfl rfl ?_
                refine kw_sub (lv' := [(4, .int z59), (3, .int x19), (2, .int z16), (0, .ref 0), (1, .int m)]) [0, 1, 2, 3, 4] rfl ?_
                exact ih21 z59 x19 (by omega) hF (by omega)
              · replace hF := kf_p c58 hF
                refine kw_iload (pc := 73) (i := 41) (k := 0) (n := 4) rfl rfl ?_
                refine kw_goto (pc := 75) (i := 42) (tgt := 79) rfl rfl ?_
                refine kw_istore_n (pc := 79) (i := 44) (n := 3) (lv' := [(3, .int x18), (4, .int x18), (2, .int z16), (0, .ref 0), (1, .int m)]) rfl rfl (by decide) rfl ?_
                refine kw_iinc' (pc := 80) (i := 45) (k := 1) (fun z => [(4, .int z), (3, .int x18), (2, .int z16), (0, .ref 0), (1, .int m)]) rfl rfl (by decide) rfl (fun _ => rfl) (fun z60 e_z60 t_z60 => ?_)
                replace hF := kf_le e_z60 hF
                first | (have u_z60 : z60.toInt = x18.toInt + 1 := (by omega); clear t_z60) | skip
                refine kw_goto (pc := 83) (i := 46) (tgt := 36) rfl rfl ?_
                refine kw_sub (lv' := [(4, .int z60), (3, .int x18), (2, .int z16), (0, .ref 0), (1, .int m)]) [0, 1, 2, 3, 4] rfl ?_
                exact ih21 z60 x18 (by omega) hF (by omega)
      exact L20 _ 1 0 (by omega) hF (Nat.lt_succ_self _)
    · replace hF := kf_p c11 hF
      refine kw_bipush (pc := 19) (i := 10) (v := (-4)) rfl rfl ?_
      exact kw_ireturn (pc := 21) (i := 11) (ty := .int) rfl rfl rfl ⟨⟨hI, hF0⟩, _, rfl, hF⟩
  · replace hF := kf_p c9 hF
    refine kw_iconst (pc := 10) (i := 5) (v := (-1)) rfl rfl ?_
    exact kw_ireturn (pc := 11) (i := 6) (ty := .int) rfl rfl rfl ⟨⟨hI, hF0⟩, _, rfl, hF⟩
noncomputable def l_X8_wetOfAll_0_4 (S : kw_S) : Nat → Int32 → Int32 → Int32
  | 0, _, _ => 0
  | n + 1, x1, x2 => if x2.toInt < (S.1 0 10).toInt then (kf_l (S.1 14 x2.toNatClampNeg) fun z1 => kf_l (x1 + z1) fun z2 => kf_l (x2 + Int32.ofInt 1) fun z3 => l_X8_wetOfAll_0_4 S n z2 z3) else (x1)
theorem l_X8_wetOfAll_0_4_s (S : kw_S) (n : Nat) (x1 : Int32) (x2 : Int32) : l_X8_wetOfAll_0_4 S (n + 1) x1 x2 = if x2.toInt < (S.1 0 10).toInt then (kf_l (S.1 14 x2.toNatClampNeg) fun z1 => kf_l (x1 + z1) fun z2 => kf_l (x2 + Int32.ofInt 1) fun z3 => l_X8_wetOfAll_0_4 S n z2 z3) else (x1) := rfl
noncomputable def f_X8_wetOfAll_0 (σ : kw_S)  : Int32 := l_X8_wetOfAll_0_4 σ ((7 - (0 : Int32).toInt).toNat + 1) (0 : Int32) (0 : Int32)
theorem f_X8_wetOfAll_0_u (σ : kw_S)  : f_X8_wetOfAll_0 σ  = l_X8_wetOfAll_0_4 σ ((7 - (0 : Int32).toInt).toNat + 1) (0 : Int32) (0 : Int32) := rfl
abbrev p_X8_wetOfAll_0 (T : Int) (σ : kw_S)  : Option Value → kw_S → Prop := fun vv σ' => σ' = σ ∧ ∃ r : Int32, vv = some (.int r) ∧ r = f_X8_wetOfAll_0 σ
set_option maxRecDepth 100000 in
set_option maxHeartbeats 4000000 in
theorem c_X8_wetOfAll_0 (l : Launch) (T : Int) (hT0 : 0 ≤ T) (hT1 : T ≤ 3000) (σ : kw_S) (hI : kw_I (bM T) σ)  : kw_Met l 1 KM mX8_wetOfAll [.ref 0] σ (p_X8_wetOfAll_0 T σ) := by
  have hF := (f_X8_wetOfAll_0_u σ).symm
  have q_0 : (0 : Int32).toInt = 0 := rfl
  refine kw_Met.of (by decide) rfl tX8_wetOfAll (Nat.le_of_ble_eq_true rfl) ?_
  show kw_AW l 1 kw_E0 KM mX8_wetOfAll (p_X8_wetOfAll_0 T σ) 0 [(0, .ref 0)] [] σ
  refine kw_iconst (pc := 0) (i := 0) (v := 0) rfl rfl ?_
  refine kw_istore_n (pc := 1) (i := 1) (n := 1) (lv' := [(1, .int 0), (0, .ref 0)]) rfl rfl (by decide) rfl ?_
  refine kw_iconst (pc := 2) (i := 2) (v := 0) rfl rfl ?_
  refine kw_istore_n (pc := 3) (i := 3) (n := 2) (lv' := [(2, .int 0), (1, .int 0), (0, .ref 0)]) rfl rfl (by decide) rfl ?_
  have L3 : ∀ (n7 : Nat) (x1 : Int32) (x2 : Int32), 0 ≤ x1.toInt → l_X8_wetOfAll_0_4 σ n7 x2 x1 = (f_X8_wetOfAll_0 σ) → (7 - x1.toInt).toNat < n7 → kw_AW l 1 kw_E0 KM mX8_wetOfAll (p_X8_wetOfAll_0 T σ) 4 [(2, .int x1), (1, .int x2), (0, .ref 0)] [] σ := by
    intro n7
    induction n7 with
    | zero => intro x1 x2 v5 hF m6; exact absurd m6 (Nat.not_lt_zero _)
    | succ n7 ih4 =>
      intro x1 x2 v5 hF m6
      replace hF := kf_st (l_X8_wetOfAll_0_4_s _ _ _ _) hF
      have r_x1 := kw_rng x1
      have r_x2 := kw_rng x2
      refine kw_iload_n (pc := 4) (i := 4) (k := 0) (n := 2) rfl rfl rfl ?_
      refine kw_aload_n (pc := 5) (i := 5) (k := 2) (n := 0) rfl rfl rfl ?_
      refine kw_get (pc := 6) (i := 6) (v := .int (σ.1 0 10)) rfl rfl rfl lkX8_163 (fun _ => rfl) ?_
      have b8 : 0 ≤ (σ.1 0 10).toInt ∧ (σ.1 0 10).toInt ≤ 6 := hI 0 10
      refine kw_icmp_ge (pc := 9) (i := 7) (tgt := 27) rfl rfl (fun c9 => ?_) (fun c9 => ?_)
      · replace hF := kf_nl c9 hF
        refine kw_iload_n (pc := 27) (i := 17) (k := 1) (n := 1) rfl rfl rfl ?_
        exact kw_ireturn (pc := 28) (i := 18) (ty := .int) rfl rfl rfl ⟨rfl, _, rfl, hF⟩
      · replace hF := kf_p c9 hF
        refine kw_iload_n (pc := 12) (i := 8) (k := 1) (n := 1) rfl rfl rfl ?_
        refine kw_aload_n (pc := 13) (i := 9) (k := 2) (n := 0) rfl rfl rfl ?_
        refine kw_get (pc := 14) (i := 10) (v := .ref 14) rfl rfl rfl lkX8_57 (fun _ => rfl) ?_
        refine kw_iload_n (pc := 17) (i := 11) (k := 0) (n := 2) rfl rfl rfl ?_
        refine kw_iald (pc := 18) (i := 12) (n := 6) rfl rfl (by omega) (by omega) (fun z10 e_z10 => ?_)
        replace hF := kf_le e_z10 hF
        have t_z10 := congrArg Int32.toInt e_z10
        have r_z10 := kw_rng z10
        refine kw_iadd (pc := 19) (i := 13) rfl (fun z11 e_z11 t_z11 => ?_)
        replace hF := kf_le e_z11 hF
        first | (have u_z11 : z11.toInt = x2.toInt + z10.toInt := (by omega); clear t_z11) | skip
        refine kw_istore_n (pc := 20) (i := 14) (n := 1) (lv' := [(1, .int z11), (2, .int x1), (0, .ref 0)]) rfl rfl (by decide) rfl ?_
        refine kw_iinc' (pc := 21) (i := 15) (k := 1) (fun z => [(2, .int z), (1, .int z11), (0, .ref 0)]) rfl rfl (by decide) rfl (fun _ => rfl) (fun z12 e_z12 t_z12 => ?_)
        replace hF := kf_le e_z12 hF
        first | (have u_z12 : z12.toInt = x1.toInt + 1 := (by omega); clear t_z12) | skip
        refine kw_goto (pc := 24) (i := 16) (tgt := 4) rfl rfl ?_
        refine kw_sub (lv' := [(2, .int z12), (1, .int z11), (0, .ref 0)]) [0, 1, 2] rfl ?_
        exact ih4 z12 z11 (by omega) hF (by omega)
  exact L3 _ 0 0 (by omega) hF (Nat.lt_succ_self _)
noncomputable def l_X8_wet_0_4 (S : kw_S) : Nat → Int32 → Int32 → Int32 × kw_S
  | 0, _, _ => (0, S)
  | n + 1, x1, x2 => if x2.toInt < (S.1 0 10).toInt then (kf_l (S.1 14 x2.toNatClampNeg) fun z4 => if 0 < z4.toInt then (kf_l ((1 : Int32) <<< (x2 &&& 31)) fun z7 => kf_l (x1 ||| z7) fun z8 => kf_l (x2 + Int32.ofInt 1) fun z9 => l_X8_wet_0_4 S n z8 z9) else (kf_l (x1 ||| (0 : Int32)) fun z5 => kf_l (x2 + Int32.ofInt 1) fun z6 => l_X8_wet_0_4 S n z5 z6)) else (kf_l (f_X8_wetOfAll_0 S) fun z1 => kf_b (f_X8_ask_0 S z1 x1) fun z2 S3 => (z2, S3))
theorem l_X8_wet_0_4_s (S : kw_S) (n : Nat) (x1 : Int32) (x2 : Int32) : l_X8_wet_0_4 S (n + 1) x1 x2 = if x2.toInt < (S.1 0 10).toInt then (kf_l (S.1 14 x2.toNatClampNeg) fun z4 => if 0 < z4.toInt then (kf_l ((1 : Int32) <<< (x2 &&& 31)) fun z7 => kf_l (x1 ||| z7) fun z8 => kf_l (x2 + Int32.ofInt 1) fun z9 => l_X8_wet_0_4 S n z8 z9) else (kf_l (x1 ||| (0 : Int32)) fun z5 => kf_l (x2 + Int32.ofInt 1) fun z6 => l_X8_wet_0_4 S n z5 z6)) else (kf_l (f_X8_wetOfAll_0 S) fun z1 => kf_b (f_X8_ask_0 S z1 x1) fun z2 S3 => (z2, S3)) := rfl
noncomputable def f_X8_wet_0 (σ : kw_S)  : Int32 × kw_S := l_X8_wet_0_4 σ ((7 - (0 : Int32).toInt).toNat + 1) (0 : Int32) (0 : Int32)
theorem f_X8_wet_0_u (σ : kw_S)  : f_X8_wet_0 σ  = l_X8_wet_0_4 σ ((7 - (0 : Int32).toInt).toNat + 1) (0 : Int32) (0 : Int32) := rfl
abbrev p_X8_wet_0 (T : Int) (σ : kw_S)  : Option Value → kw_S → Prop := fun vv σ' => (kw_I (bM T) σ' ∧ kw_FM [1002] σ σ') ∧ ∃ r : Int32, vv = some (.int r) ∧ (r, σ') = f_X8_wet_0 σ
set_option maxRecDepth 100000 in
set_option maxHeartbeats 4000000 in
theorem c_X8_wet_0 (l : Launch) (T : Int) (hT0 : 0 ≤ T) (hT1 : T ≤ 3000) (σ : kw_S) (hI : kw_I (bM T) σ)  : kw_Met l 2 KM mX8_wet [.ref 0] σ (p_X8_wet_0 T σ) := by
  have hF0 : kw_FM [1002] σ σ := kw_FM.rf
  have hF := (f_X8_wet_0_u σ).symm
  have q_0 : (0 : Int32).toInt = 0 := rfl
  have q_1 : (1 : Int32).toInt = 1 := rfl
  refine kw_Met.of (by decide) rfl tX8_wet (Nat.le_of_ble_eq_true rfl) ?_
  show kw_AW l 2 kw_E0 KM mX8_wet (p_X8_wet_0 T σ) 0 [(0, .ref 0)] [] σ
  refine kw_iconst (pc := 0) (i := 0) (v := 0) rfl rfl ?_
  refine kw_istore_n (pc := 1) (i := 1) (n := 1) (lv' := [(1, .int 0), (0, .ref 0)]) rfl rfl (by decide) rfl ?_
  refine kw_iconst (pc := 2) (i := 2) (v := 0) rfl rfl ?_
  refine kw_istore_n (pc := 3) (i := 3) (n := 2) (lv' := [(2, .int 0), (1, .int 0), (0, .ref 0)]) rfl rfl (by decide) rfl ?_
  have L3 : ∀ (n7 : Nat) (x1 : Int32) (x2 : Int32), 0 ≤ x1.toInt → l_X8_wet_0_4 σ n7 x2 x1 = (f_X8_wet_0 σ) → (7 - x1.toInt).toNat < n7 → kw_AW l 2 kw_E0 KM mX8_wet (p_X8_wet_0 T σ) 4 [(2, .int x1), (1, .int x2), (0, .ref 0)] [] σ := by
    intro n7
    induction n7 with
    | zero => intro x1 x2 v5 hF m6; exact absurd m6 (Nat.not_lt_zero _)
    | succ n7 ih4 =>
      intro x1 x2 v5 hF m6
      replace hF := kf_st (l_X8_wet_0_4_s _ _ _ _) hF
      have r_x1 := kw_rng x1
      have r_x2 := kw_rng x2
      refine kw_iload_n (pc := 4) (i := 4) (k := 0) (n := 2) rfl rfl rfl ?_
      refine kw_aload_n (pc := 5) (i := 5) (k := 2) (n := 0) rfl rfl rfl ?_
      refine kw_get (pc := 6) (i := 6) (v := .int (σ.1 0 10)) rfl rfl rfl lkX8_163 (fun _ => rfl) ?_
      have b8 : 0 ≤ (σ.1 0 10).toInt ∧ (σ.1 0 10).toInt ≤ 6 := hI 0 10
      refine kw_icmp_ge (pc := 9) (i := 7) (tgt := 37) rfl rfl (fun c9 => ?_) (fun c9 => ?_)
      · replace hF := kf_nl c9 hF
        refine kw_aload_n (pc := 37) (i := 23) (k := 2) (n := 0) rfl rfl rfl ?_
        refine kw_aload_n (pc := 38) (i := 24) (k := 2) (n := 0) rfl rfl rfl ?_
        refine kw_callV (pc := 39) (i := 25) (Y := mX8_wetOfAll) (a := 0) (As := []) (st := [.ref 0]) kw_hE rfl rfl lvX8_249 arX8_wetOfAll (c_X8_wetOfAll_0 l T hT0 hT1 σ hI  ) (by decide) (Nat.le_of_ble_eq_true rfl) rfl (fun v S11 p10 => ?_)
        obtain ⟨e14, z13, rfl, ef12⟩ := p10
        rw [e14]
        replace hF := kf_le ef12 hF
        have r_z13 := kw_rng z13
        show kw_AW l 2 kw_E0 KM mX8_wet (p_X8_wet_0 T σ) 42 [(2, .int x1), (1, .int x2), (0, .ref 0)] [.int z13, .ref 0] σ
        refine kw_iload_n (pc := 42) (i := 26) (k := 1) (n := 1) rfl rfl rfl ?_
        refine kw_callV (pc := 43) (i := 27) (Y := mX8_ask) (a := 0) (As := [.int z13, .int x2]) (st := []) kw_hE rfl rfl lvX8_119 arX8_ask (c_X8_ask_0 l T hT0 hT1 σ hI z13 x2 ) (by decide) (Nat.le_of_ble_eq_true rfl) rfl (fun v S16 p15 => ?_)
        obtain ⟨⟨I20, F21⟩, z19, rfl, f17, ef18⟩ := p15
        have F22 : kw_FM [1002] σ S16 := kw_FM.tr hF0 F21 (by decide)
        have w_23 : (S16.1 0 27).toInt = (σ.1 0 27).toInt := congrArg Int32.toInt (kw_FM.at0 (j := 27) F21 (by decide))
        replace hF := kf_be ef18 hF
        have r_z19 := kw_rng z19
        show kw_AW l 2 kw_E0 KM mX8_wet (p_X8_wet_0 T σ) 46 [(2, .int x1), (1, .int x2), (0, .ref 0)] [.int z19] S16
        exact kw_ireturn (pc := 46) (i := 28) (ty := .int) rfl rfl rfl ⟨⟨I20, F22⟩, _, rfl, hF⟩
      · replace hF := kf_p c9 hF
        refine kw_iload_n (pc := 12) (i := 8) (k := 1) (n := 1) rfl rfl rfl ?_
        refine kw_aload_n (pc := 13) (i := 9) (k := 2) (n := 0) rfl rfl rfl ?_
        refine kw_get (pc := 14) (i := 10) (v := .ref 14) rfl rfl rfl lkX8_57 (fun _ => rfl) ?_
        refine kw_iload_n (pc := 17) (i := 11) (k := 0) (n := 2) rfl rfl rfl ?_
        refine kw_iald (pc := 18) (i := 12) (n := 6) rfl rfl (by omega) (by omega) (fun z24 e_z24 => ?_)
        replace hF := kf_le e_z24 hF
        have t_z24 := congrArg Int32.toInt e_z24
        have r_z24 := kw_rng z24
        refine kw_if_le (pc := 19) (i := 13) (tgt := 28) rfl rfl (fun c25 => ?_) (fun c25 => ?_)
        · replace hF := kf_nl c25 hF
          refine kw_iconst (pc := 28) (i := 18) (v := 0) rfl rfl ?_
          refine kw_ior (pc := 29) (i := 19) rfl (fun z26 e_z26 => ?_)
          have r_z26 := kw_rng z26
          replace hF := kf_le e_z26 hF
          refine kw_istore_n (pc := 30) (i := 20) (n := 1) (lv' := [(1, .int z26), (2, .int x1), (0, .ref 0)]) rfl rfl (by decide) rfl ?_
          refine kw_iinc' (pc := 31) (i := 21) (k := 1) (fun z => [(2, .int z), (1, .int z26), (0, .ref 0)]) rfl rfl (by decide) rfl (fun _ => rfl) (fun z27 e_z27 t_z27 => ?_)
          replace hF := kf_le e_z27 hF
          first | (have u_z27 : z27.toInt = x1.toInt + 1 := (by omega); clear t_z27) | skip
          refine kw_goto (pc := 34) (i := 22) (tgt := 4) rfl rfl ?_
          refine kw_sub (lv' := [(2, .int z27), (1, .int z26), (0, .ref 0)]) [0, 1, 2] rfl ?_
          exact ih4 z27 z26 (by omega) hF (by omega)
        · replace hF := kf_p c25 hF
          refine kw_iconst (pc := 22) (i := 14) (v := 1) rfl rfl ?_
          refine kw_iload_n (pc := 23) (i := 15) (k := 0) (n := 2) rfl rfl rfl ?_
          refine kw_ishl (pc := 24) (i := 16) rfl (fun z28 e_z28 => ?_)
          have r_z28 := kw_rng z28
          replace hF := kf_le e_z28 hF
          have t_z28 := kw_shlm x1 z28 e_z28
          first | (replace t_z28 := And.intro (t_z28.1 (by omega) (by omega)) (t_z28.2 (by omega) (by omega))) | (replace t_z28 := t_z28.1 (by omega) (by omega)) | skip
          have u_z28 := congrArg Int32.toInt e_z28
          refine kw_goto (pc := 25) (i := 17) (tgt := 29) rfl rfl ?_
          refine kw_ior (pc := 29) (i := 19) rfl (fun z29 e_z29 => ?_)
          have r_z29 := kw_rng z29
          replace hF := kf_le e_z29 hF
          refine kw_istore_n (pc := 30) (i := 20) (n := 1) (lv' := [(1, .int z29), (2, .int x1), (0, .ref 0)]) rfl rfl (by decide) rfl ?_
          refine kw_iinc' (pc := 31) (i := 21) (k := 1) (fun z => [(2, .int z), (1, .int z29), (0, .ref 0)]) rfl rfl (by decide) rfl (fun _ => rfl) (fun z30 e_z30 t_z30 => ?_)
          replace hF := kf_le e_z30 hF
          first | (have u_z30 : z30.toInt = x1.toInt + 1 := (by omega); clear t_z30) | skip
          refine kw_goto (pc := 34) (i := 22) (tgt := 4) rfl rfl ?_
          refine kw_sub (lv' := [(2, .int z30), (1, .int z29), (0, .ref 0)]) [0, 1, 2] rfl ?_
          exact ih4 z30 z29 (by omega) hF (by omega)
  exact L3 _ 0 0 (by omega) hF (Nat.lt_succ_self _)
noncomputable def l_X8_askedPlan_0_53 (a1 : Int32) (S : kw_S) : Nat → Int32 → Int32 × kw_S
  | 0, _ => (0, S)
  | n + 1, x2 => kf_l (S.1 2 a1.toNatClampNeg) fun z4 => if x2.toInt < z4.toInt then (kf_l (f_X8_rowAt_0 S a1 x2) fun z5 => kf_l (f_X8_isSet_0 S z5) fun z6 => if z6.toInt = 0 then (kf_b (f_X8_meet_0 S (3 : Int32)) fun z8 S9 => (z8, S9)) else (kf_l (x2 + Int32.ofInt 1) fun z7 => l_X8_askedPlan_0_53 a1 S n z7)) else (((0 : Int32), S))
theorem l_X8_askedPlan_0_53_s (a1 : Int32) (S : kw_S) (n : Nat) (x2 : Int32) : l_X8_askedPlan_0_53 a1 S (n + 1) x2 = kf_l (S.1 2 a1.toNatClampNeg) fun z4 => if x2.toInt < z4.toInt then (kf_l (f_X8_rowAt_0 S a1 x2) fun z5 => kf_l (f_X8_isSet_0 S z5) fun z6 => if z6.toInt = 0 then (kf_b (f_X8_meet_0 S (3 : Int32)) fun z8 S9 => (z8, S9)) else (kf_l (x2 + Int32.ofInt 1) fun z7 => l_X8_askedPlan_0_53 a1 S n z7)) else (((0 : Int32), S)) := rfl
noncomputable def f_X8_askedPlan_0 (σ : kw_S) (a : Int32) : Int32 × kw_S := kf_l (f_X8_isRow σ a) fun z1 => if z1.toInt = 0 then ((((-1) : Int32), σ)) else (if (σ.1 0 10).toInt = 0 then ((((-4) : Int32), σ)) else (kf_l (σ.1 2 a.toNatClampNeg) fun z2 => if z2.toInt < 0 then (kf_b (f_X8_meet_0 σ (1 : Int32)) fun z12 S13 => (z12, S13)) else (kf_l (σ.1 2 a.toNatClampNeg) fun z3 => if (6 : Int32).toInt < z3.toInt then (kf_b (f_X8_meet_0 σ (5 : Int32)) fun z10 S11 => (z10, S11)) else (l_X8_askedPlan_0_53 a σ ((41 - (0 : Int32).toInt).toNat + 1) (0 : Int32)))))
theorem f_X8_askedPlan_0_u (σ : kw_S) (a : Int32) : f_X8_askedPlan_0 σ a = kf_l (f_X8_isRow σ a) fun z1 => if z1.toInt = 0 then ((((-1) : Int32), σ)) else (if (σ.1 0 10).toInt = 0 then ((((-4) : Int32), σ)) else (kf_l (σ.1 2 a.toNatClampNeg) fun z2 => if z2.toInt < 0 then (kf_b (f_X8_meet_0 σ (1 : Int32)) fun z12 S13 => (z12, S13)) else (kf_l (σ.1 2 a.toNatClampNeg) fun z3 => if (6 : Int32).toInt < z3.toInt then (kf_b (f_X8_meet_0 σ (5 : Int32)) fun z10 S11 => (z10, S11)) else (l_X8_askedPlan_0_53 a σ ((41 - (0 : Int32).toInt).toNat + 1) (0 : Int32))))) := rfl
abbrev p_X8_askedPlan_0 (T : Int) (σ : kw_S) (a : Int32) : Option Value → kw_S → Prop := fun vv σ' => (kw_I (bM T) σ' ∧ kw_FM [1, 1000] σ σ') ∧ ∃ r : Int32, vv = some (.int r) ∧ (r.toInt < 0 ∨ 0 ≤ a.toInt ∧ a.toInt ≤ 5 ∧ 0 ≤ (σ'.1 2 a.toNatClampNeg).toInt ∧ (σ'.1 2 a.toNatClampNeg).toInt ≤ 6) ∧ (r, σ') = f_X8_askedPlan_0 σ a
set_option maxRecDepth 100000 in
set_option maxHeartbeats 4000000 in
theorem c_X8_askedPlan_0 (l : Launch) (T : Int) (hT0 : 0 ≤ T) (hT1 : T ≤ 3000) (σ : kw_S) (hI : kw_I (bM T) σ) (a : Int32) : kw_Met l 3 KM mX8_askedPlan [.ref 0, .int a] σ (p_X8_askedPlan_0 T σ a) := by
  have r_a := kw_rng a
  have hF0 : kw_FM [1, 1000] σ σ := kw_FM.rf
  have hF := (f_X8_askedPlan_0_u σ a).symm
  have q_m4 : (-4 : Int32).toInt = -4 := rfl
  have q_m1 : (-1 : Int32).toInt = -1 := rfl
  have q_0 : (0 : Int32).toInt = 0 := rfl
  have q_1 : (1 : Int32).toInt = 1 := rfl
  have q_3 : (3 : Int32).toInt = 3 := rfl
  have q_5 : (5 : Int32).toInt = 5 := rfl
  have q_6 : (6 : Int32).toInt = 6 := rfl
  refine kw_Met.of (by decide) rfl tX8_askedPlan (Nat.le_of_ble_eq_true rfl) ?_
  show kw_AW l 3 kw_E0 KM mX8_askedPlan (p_X8_askedPlan_0 T σ a) 0 [(0, .ref 0), (1, .int a)] [] σ
  refine kw_iload_n (pc := 0) (i := 0) (k := 1) (n := 1) rfl rfl rfl ?_
  refine kw_callS (pc := 1) (i := 1) (Y := mX8_isRow) (As := [.int a]) (st := []) kw_hE rfl lsX8_97 arX8_isRow (c_X8_isRow l T hT0 hT1 σ hI a ) (by decide) (Nat.le_of_ble_eq_true rfl) rfl (fun v S2 p1 => ?_)
  obtain ⟨e8, z7, rfl, f3, f4, f5, ef6⟩ := p1
  rw [e8]
  replace hF := kf_le ef6 hF
  have r_z7 := kw_rng z7
  show kw_AW l 3 kw_E0 KM mX8_askedPlan (p_X8_askedPlan_0 T σ a) 4 [(0, .ref 0), (1, .int a)] [.int z7] σ
  refine kw_if_ne (pc := 4) (i := 2) (tgt := 9) rfl rfl (fun c9 => ?_) (fun c9 => ?_)
  · replace hF := kf_n c9 hF
    refine kw_aload_n (pc := 9) (i := 5) (k := 0) (n := 0) rfl rfl rfl ?_
    refine kw_get (pc := 10) (i := 6) (v := .int (σ.1 0 10)) rfl rfl rfl lkX8_163 (fun _ => rfl) ?_
    have b10 : 0 ≤ (σ.1 0 10).toInt ∧ (σ.1 0 10).toInt ≤ 6 := hI 0 10
    refine kw_if_ne (pc := 13) (i := 7) (tgt := 19) rfl rfl (fun c11 => ?_) (fun c11 => ?_)
    · replace hF := kf_n c11 hF
      refine kw_aload_n (pc := 19) (i := 10) (k := 0) (n := 0) rfl rfl rfl ?_
      refine kw_get (pc := 20) (i := 11) (v := .ref 2) rfl rfl rfl lkX8_17 (fun _ => rfl) ?_
      refine kw_iload_n (pc := 23) (i := 12) (k := 1) (n := 1) rfl rfl rfl ?_
      refine kw_iald (pc := 24) (i := 13) (n := 6) rfl rfl (by omega) (by omega) (fun z12 e_z12 => ?_)
      replace hF := kf_le e_z12 hF
      have t_z12 := congrArg Int32.toInt e_z12
      have b_z12 : -9 ≤ z12.toInt ∧ z12.toInt ≤ 40 := by rw [e_z12]; exact hI 2 _
      refine kw_if_ge (pc := 25) (i := 14) (tgt := 34) rfl rfl (fun c13 => ?_) (fun c13 => ?_)
      · replace hF := kf_nl c13 hF
        refine kw_aload_n (pc := 34) (i := 19) (k := 0) (n := 0) rfl rfl rfl ?_
        refine kw_get (pc := 35) (i := 20) (v := .ref 2) rfl rfl rfl lkX8_17 (fun _ => rfl) ?_
        refine kw_iload_n (pc := 38) (i := 21) (k := 1) (n := 1) rfl rfl rfl ?_
        refine kw_iald (pc := 39) (i := 22) (n := 6) rfl rfl (by omega) (by omega) (fun z14 e_z14 => ?_)
        replace hF := kf_le e_z14 hF
        have t_z14 := congrArg Int32.toInt e_z14
        have b_z14 : -9 ≤ z14.toInt ∧ z14.toInt ≤ 40 := by rw [e_z14]; exact hI 2 _
        refine kw_bipush (pc := 40) (i := 23) (v := 6) rfl rfl ?_
        refine kw_icmp_le (pc := 42) (i := 24) (tgt := 51) rfl rfl (fun c15 => ?_) (fun c15 => ?_)
        · replace hF := kf_nl c15 hF
          refine kw_iconst (pc := 51) (i := 29) (v := 0) rfl rfl ?_
          refine kw_istore_n (pc := 52) (i := 30) (n := 2) (lv' := [(2, .int 0), (0, .ref 0), (1, .int a)]) rfl rfl (by decide) rfl ?_
          have L17 : ∀ (n21 : Nat) (x16 : Int32), 0 ≤ x16.toInt → l_X8_askedPlan_0_53 a σ n21 x16 = (f_X8_askedPlan_0 σ a) → (41 - x16.toInt).toNat < n21 → kw_AW l 3 kw_E0 KM mX8_askedPlan (p_X8_askedPlan_0 T σ a) 53 [(2, .int x16), (0, .ref 0), (1, .int a)] [] σ := by
            intro n21
            induction n21 with
            | zero => intro x16 v19 hF m20; exact absurd m20 (Nat.not_lt_zero _)
            | succ n21 ih18 =>
              intro x16 v19 hF m20
              replace hF := kf_st (l_X8_askedPlan_0_53_s _ _ _ _) hF
              have r_x16 := kw_rng x16
              refine kw_iload_n (pc := 53) (i := 31) (k := 0) (n := 2) rfl rfl rfl ?_
              refine kw_aload_n (pc := 54) (i := 32) (k := 1) (n := 0) rfl rfl rfl ?_
              refine kw_get (pc := 55) (i := 33) (v := .ref 2) rfl rfl rfl lkX8_17 (fun _ => rfl) ?_
              refine kw_iload_n (pc := 58) (i := 34) (k := 2) (n := 1) rfl rfl rfl ?_
              refine kw_iald (pc := 59) (i := 35) (n := 6) rfl rfl (by omega) (by omega) (fun z22 e_z22 => ?_)
              replace hF := kf_le e_z22 hF
              have t_z22 := congrArg Int32.toInt e_z22
              have b_z22 : -9 ≤ z22.toInt ∧ z22.toInt ≤ 40 := by rw [e_z22]; exact hI 2 _
              refine kw_icmp_ge (pc := 60) (i := 36) (tgt := 88) rfl rfl (fun c23 => ?_) (fun c23 => ?_)
              · replace hF := kf_nl c23 hF
                refine kw_iconst (pc := 88) (i := 50) (v := 0) rfl rfl ?_
                exact kw_ireturn (pc := 89) (i := 51) (ty := .int) rfl rfl rfl ⟨⟨hI, hF0⟩, _, rfl, by omega, hF⟩
              · replace hF := kf_p c23 hF
                refine kw_aload_n (pc := 63) (i := 37) (k := 1) (n := 0) rfl rfl rfl ?_
                refine kw_aload_n (pc := 64) (i := 38) (k := 1) (n := 0) rfl rfl rfl ?_
                refine kw_iload_n (pc := 65) (i := 39) (k := 2) (n := 1) rfl rfl rfl ?_
                refine kw_iload_n (pc := 66) (i := 40) (k := 0) (n := 2) rfl rfl rfl ?_
                refine kw_callV (pc := 67) (i := 41) (Y := mX8_rowAt) (a := 0) (As := [.int a, .int x16]) (st := [.ref 0]) kw_hE rfl rfl lvX8_115 arX8_rowAt (c_X8_rowAt_0 l T hT0 hT1 σ hI a x16 (by first | omega | decide) (by first | omega | decide) (by first | omega | decide) (by first | omega | decide)) (by decide) (Nat.le_of_ble_eq_true rfl) rfl (fun v S25 p24 => ?_)
                obtain ⟨e28, z27, rfl, ef26⟩ := p24
                rw [e28]
                replace hF := kf_le ef26 hF
                have r_z27 := kw_rng z27
                show kw_AW l 3 kw_E0 KM mX8_askedPlan (p_X8_askedPlan_0 T σ a) 70 [(2, .int x16), (0, .ref 0), (1, .int a)] [.int z27, .ref 0] σ
                refine kw_callV (pc := 70) (i := 42) (Y := mX8_isSet) (a := 0) (As := [.int z27]) (st := []) kw_hE rfl rfl lvX8_243 arX8_isSet (c_X8_isSet_0 l T hT0 hT1 σ hI z27 ) (by decide) (Nat.le_of_ble_eq_true rfl) rfl (fun v S30 p29 => ?_)
                obtain ⟨e34, z33, rfl, f31, ef32⟩ := p29
                rw [e34]
                replace hF := kf_le ef32 hF
                have r_z33 := kw_rng z33
                show kw_AW l 3 kw_E0 KM mX8_askedPlan (p_X8_askedPlan_0 T σ a) 73 [(2, .int x16), (0, .ref 0), (1, .int a)] [.int z33] σ
                refine kw_if_ne (pc := 73) (i := 43) (tgt := 82) rfl rfl (fun c35 => ?_) (fun c35 => ?_)
                · replace hF := kf_n c35 hF
                  refine kw_iinc' (pc := 82) (i := 48) (k := 0) (fun z => [(2, .int z), (0, .ref 0), (1, .int a)]) rfl rfl (by decide) rfl (fun _ => rfl) (fun z36 e_z36 t_z36 => ?_)
                  replace hF := kf_le e_z36 hF
                  first | (have u_z36 : z36.toInt = x16.toInt + 1 := (by omega); clear t_z36) | skip
                  refine kw_goto (pc := 85) (i := 49) (tgt := 53) rfl rfl ?_
                  refine kw_sub (lv' := [(2, .int z36), (0, .ref 0), (1, .int a)]) [0, 1, 2] rfl ?_
                  exact ih18 z36 (by omega) hF (by omega)
                · replace hF := kf_p c35 hF
                  refine kw_aload_n (pc := 76) (i := 44) (k := 1) (n := 0) rfl rfl rfl ?_
                  refine kw_iconst (pc := 77) (i := 45) (v := 3) rfl rfl ?_
                  refine kw_callV (pc := 78) (i := 46) (Y := mX8_meet) (a := 0) (As := [.int 3]) (st := []) kw_hE rfl rfl lvX8_101 arX8_meet (c_X8_meet_0 l T hT0 hT1 σ hI 3 (by first | omega | decide) (by first | omega | decide)) (by decide) (Nat.le_of_ble_eq_true rfl) rfl (fun v S38 p37 => ?_)
                  obtain ⟨⟨I42, F43⟩, z41, rfl, f39, ef40⟩ := p37
                  have F44 : kw_FM [1, 1000] σ S38 := kw_FM.tr hF0 F43 (by decide)
                  have w_45 : (S38.1 0 27).toInt = (σ.1 0 27).toInt := congrArg Int32.toInt (kw_FM.at0 (j := 27) F43 (by decide))
                  replace hF := kf_be ef40 hF
                  have r_z41 := kw_rng z41
                  show kw_AW l 3 kw_E0 KM mX8_askedPlan (p_X8_askedPlan_0 T σ a) 81 [(2, .int x16), (0, .ref 0), (1, .int a)] [.int z41] S38
                  exact kw_ireturn (pc := 81) (i := 47) (ty := .int) rfl rfl rfl ⟨⟨I42, F44⟩, _, rfl, by omega, hF⟩
          exact L17 _ 0 (by omega) hF (Nat.lt_succ_self _)
        · replace hF := kf_p c15 hF
          refine kw_aload_n (pc := 45) (i := 25) (k := 0) (n := 0) rfl rfl rfl ?_
          refine kw_iconst (pc := 46) (i := 26) (v := 5) rfl rfl ?_
          refine kw_callV (pc := 47) (i := 27) (Y := mX8_meet) (a := 0) (As := [.int 5]) (st := []) kw_hE rfl rfl lvX8_101 arX8_meet (c_X8_meet_0 l T hT0 hT1 σ hI 5 (by first | omega | decide) (by first | omega | decide)) (by decide) (Nat.le_of_ble_eq_true rfl) rfl (fun v S47 p46 => ?_)
          obtain ⟨⟨I51, F52⟩, z50, rfl, f48, ef49⟩ := p46
          have F53 : kw_FM [1, 1000] σ S47 := kw_FM.tr hF0 F52 (by decide)
          have w_54 : (S47.1 0 27).toInt = (σ.1 0 27).toInt := congrArg Int32.toInt (kw_FM.at0 (j := 27) F52 (by decide))
          replace hF := kf_be ef49 hF
          have r_z50 := kw_rng z50
          show kw_AW l 3 kw_E0 KM mX8_askedPlan (p_X8_askedPlan_0 T σ a) 50 [(0, .ref 0), (1, .int a)] [.int z50] S47
          exact kw_ireturn (pc := 50) (i := 28) (ty := .int) rfl rfl rfl ⟨⟨I51, F53⟩, _, rfl, by omega, hF⟩
      · replace hF := kf_p c13 hF
        refine kw_aload_n (pc := 28) (i := 15) (k := 0) (n := 0) rfl rfl rfl ?_
        refine kw_iconst (pc := 29) (i := 16) (v := 1) rfl rfl ?_
        refine kw_callV (pc := 30) (i := 17) (Y := mX8_meet) (a := 0) (As := [.int 1]) (st := []) kw_hE rfl rfl lvX8_101 arX8_meet (c_X8_meet_0 l T hT0 hT1 σ hI 1 (by first | omega | decide) (by first | omega | decide)) (by decide) (Nat.le_of_ble_eq_true rfl) rfl (fun v S56 p55 => ?_)
        obtain ⟨⟨I60, F61⟩, z59, rfl, f57, ef58⟩ := p55
        have F62 : kw_FM [1, 1000] σ S56 := kw_FM.tr hF0 F61 (by decide)
        have w_63 : (S56.1 0 27).toInt = (σ.1 0 27).toInt := congrArg Int32.toInt (kw_FM.at0 (j := 27) F61 (by decide))
        replace hF := kf_be ef58 hF
        have r_z59 := kw_rng z59
        show kw_AW l 3 kw_E0 KM mX8_askedPlan (p_X8_askedPlan_0 T σ a) 33 [(0, .ref 0), (1, .int a)] [.int z59] S56
        exact kw_ireturn (pc := 33) (i := 18) (ty := .int) rfl rfl rfl ⟨⟨I60, F62⟩, _, rfl, by omega, hF⟩
    · replace hF := kf_p c11 hF
      refine kw_bipush (pc := 16) (i := 8) (v := (-4)) rfl rfl ?_
      exact kw_ireturn (pc := 18) (i := 9) (ty := .int) rfl rfl rfl ⟨⟨hI, hF0⟩, _, rfl, by omega, hF⟩
  · replace hF := kf_p c9 hF
    refine kw_iconst (pc := 7) (i := 3) (v := (-1)) rfl rfl ?_
    exact kw_ireturn (pc := 8) (i := 4) (ty := .int) rfl rfl rfl ⟨⟨hI, hF0⟩, _, rfl, by omega, hF⟩
noncomputable def l_X8_sail_0_26 (a1 : Int32) (a2 : Int32) (S : kw_S) : Nat → Int32 → Int32 → Int32 → Int32 × kw_S
  | 0, _, _, _ => (0, S)
  | n + 1, x3, x4, x5 => kf_l (S.1 2 a1.toNatClampNeg) fun z3 => if x5.toInt < z3.toInt then (kf_l (f_X8_rowAt_0 S a1 x5) fun z9 => kf_l ((S.1 0 22) + x5) fun z10 => kf_l (f_X8_windAt_0 S z10) fun z11 => kf_l (f_X8_milesBy_0 S z9 z11) fun z12 => kf_l (x3 + z12) fun z13 => kf_l (f_X8_rowAt_0 S a1 x5) fun z14 => kf_l ((S.1 0 22) + x5) fun z15 => kf_l (f_X8_windAt_0 S z15) fun z16 => kf_l (f_X8_turnBy_0 S z14 z16) fun z17 => kf_l (x4 + z17) fun z18 => kf_l (x5 + Int32.ofInt 1) fun z19 => l_X8_sail_0_26 a1 a2 S n z13 z18 z19) else (kf_l x4.toInt64 fun z4 => kf_b (f_X8_part_0 S z4 (1 : Int64)) fun z5 S6 => kf_b (f_X8_ask_0 S6 x3 (1 : Int32)) fun z7 S8 => (z7, S8))
theorem l_X8_sail_0_26_s (a1 : Int32) (a2 : Int32) (S : kw_S) (n : Nat) (x3 : Int32) (x4 : Int32) (x5 : Int32) : l_X8_sail_0_26 a1 a2 S (n + 1) x3 x4 x5 = kf_l (S.1 2 a1.toNatClampNeg) fun z3 => if x5.toInt < z3.toInt then (kf_l (f_X8_rowAt_0 S a1 x5) fun z9 => kf_l ((S.1 0 22) + x5) fun z10 => kf_l (f_X8_windAt_0 S z10) fun z11 => kf_l (f_X8_milesBy_0 S z9 z11) fun z12 => kf_l (x3 + z12) fun z13 => kf_l (f_X8_rowAt_0 S a1 x5) fun z14 => kf_l ((S.1 0 22) + x5) fun z15 => kf_l (f_X8_windAt_0 S z15) fun z16 => kf_l (f_X8_turnBy_0 S z14 z16) fun z17 => kf_l (x4 + z17) fun z18 => kf_l (x5 + Int32.ofInt 1) fun z19 => l_X8_sail_0_26 a1 a2 S n z13 z18 z19) else (kf_l x4.toInt64 fun z4 => kf_b (f_X8_part_0 S z4 (1 : Int64)) fun z5 S6 => kf_b (f_X8_ask_0 S6 x3 (1 : Int32)) fun z7 S8 => (z7, S8)) := rfl
noncomputable def f_X8_sail_0 (σ : kw_S) (a : Int32) : Int32 × kw_S := kf_b (f_X8_askedPlan_0 σ a) fun z1 S2 => if z1.toInt < 0 then ((z1, S2)) else (l_X8_sail_0_26 a z1 S2 ((41 - (0 : Int32).toInt).toNat + 1) (S2.1 0 23) (S2.1 0 24) (0 : Int32))
theorem f_X8_sail_0_u (σ : kw_S) (a : Int32) : f_X8_sail_0 σ a = kf_b (f_X8_askedPlan_0 σ a) fun z1 S2 => if z1.toInt < 0 then ((z1, S2)) else (l_X8_sail_0_26 a z1 S2 ((41 - (0 : Int32).toInt).toNat + 1) (S2.1 0 23) (S2.1 0 24) (0 : Int32)) := rfl
abbrev p_X8_sail_0 (T : Int) (σ : kw_S) (a : Int32) : Option Value → kw_S → Prop := fun vv σ' => (kw_I (bM T) σ' ∧ kw_FM [1, 1000, 1002, 2003, 2004] σ σ') ∧ ∃ r : Int32, vv = some (.int r) ∧ (r, σ') = f_X8_sail_0 σ a
set_option maxRecDepth 100000 in
set_option maxHeartbeats 4000000 in
theorem c_X8_sail_0 (l : Launch) (T : Int) (hT0 : 0 ≤ T) (hT1 : T ≤ 3000) (σ : kw_S) (hI : kw_I (bM T) σ) (a : Int32) : kw_Met l 4 KM mX8_sail [.ref 0, .int a] σ (p_X8_sail_0 T σ a) := by
  have r_a := kw_rng a
  have hF0 : kw_FM [1, 1000, 1002, 2003, 2004] σ σ := kw_FM.rf
  have hF := (f_X8_sail_0_u σ a).symm
  have q_0 : (0 : Int32).toInt = 0 := rfl
  have q_1 : (1 : Int32).toInt = 1 := rfl
  refine kw_Met.of (by decide) rfl tX8_sail (Nat.le_of_ble_eq_true rfl) ?_
  show kw_AW l 4 kw_E0 KM mX8_sail (p_X8_sail_0 T σ a) 0 [(0, .ref 0), (1, .int a)] [] σ
  refine kw_aload_n (pc := 0) (i := 0) (k := 0) (n := 0) rfl rfl rfl ?_
  refine kw_iload_n (pc := 1) (i := 1) (k := 1) (n := 1) rfl rfl rfl ?_
  refine kw_callV (pc := 2) (i := 2) (Y := mX8_askedPlan) (a := 0) (As := [.int a]) (st := []) kw_hE rfl rfl lvX8_252 arX8_askedPlan (c_X8_askedPlan_0 l T hT0 hT1 σ hI a ) (by decide) (Nat.le_of_ble_eq_true rfl) rfl (fun v S2 p1 => ?_)
  obtain ⟨⟨I6, F7⟩, z5, rfl, f3, ef4⟩ := p1
  have F8 : kw_FM [1, 1000, 1002, 2003, 2004] σ S2 := kw_FM.tr hF0 F7 (by decide)
  have w_9 : (S2.1 0 27).toInt = (σ.1 0 27).toInt := congrArg Int32.toInt (kw_FM.at0 (j := 27) F7 (by decide))
  replace hF := kf_be ef4 hF
  have r_z5 := kw_rng z5
  show kw_AW l 4 kw_E0 KM mX8_sail (p_X8_sail_0 T σ a) 5 [(0, .ref 0), (1, .int a)] [.int z5] S2
  refine kw_istore_n (pc := 5) (i := 3) (n := 2) (lv' := [(2, .int z5), (0, .ref 0), (1, .int a)]) rfl rfl (by decide) rfl ?_
  refine kw_iload_n (pc := 6) (i := 4) (k := 0) (n := 2) rfl rfl rfl ?_
  refine kw_if_ge (pc := 7) (i := 5) (tgt := 12) rfl rfl (fun c10 => ?_) (fun c10 => ?_)
  · replace hF := kf_nl c10 hF
    refine kw_aload_n (pc := 12) (i := 8) (k := 1) (n := 0) rfl rfl rfl ?_
    refine kw_get (pc := 13) (i := 9) (v := .int (S2.1 0 23)) rfl rfl rfl lkX8_169 (fun _ => rfl) ?_
    have b11 := kw_rng (S2.1 0 23)
    refine kw_istore_n (pc := 16) (i := 10) (n := 3) (lv' := [(3, .int (S2.1 0 23)), (2, .int z5), (0, .ref 0), (1, .int a)]) rfl rfl (by decide) rfl ?_
    refine kw_aload_n (pc := 17) (i := 11) (k := 2) (n := 0) rfl rfl rfl ?_
    refine kw_get (pc := 18) (i := 12) (v := .int (S2.1 0 24)) rfl rfl rfl lkX8_172 (fun _ => rfl) ?_
    have b12 := kw_rng (S2.1 0 24)
    refine kw_istore (pc := 21) (i := 13) (n := 4) (lv' := [(4, .int (S2.1 0 24)), (3, .int (S2.1 0 23)), (2, .int z5), (0, .ref 0), (1, .int a)]) rfl (by decide) rfl ?_
    refine kw_iconst (pc := 23) (i := 14) (v := 0) rfl rfl ?_
    refine kw_istore (pc := 24) (i := 15) (n := 5) (lv' := [(5, .int 0), (4, .int (S2.1 0 24)), (3, .int (S2.1 0 23)), (2, .int z5), (0, .ref 0), (1, .int a)]) rfl (by decide) rfl ?_
    have L16 : ∀ (n20 : Nat) (x13 : Int32) (x14 : Int32) (x15 : Int32), 0 ≤ x13.toInt → l_X8_sail_0_26 a z5 S2 n20 x15 x14 x13 = (f_X8_sail_0 σ a) → (41 - x13.toInt).toNat < n20 → kw_AW l 4 kw_E0 KM mX8_sail (p_X8_sail_0 T σ a) 26 [(5, .int x13), (4, .int x14), (3, .int x15), (2, .int z5), (0, .ref 0), (1, .int a)] [] S2 := by
      intro n20
      induction n20 with
      | zero => intro x13 x14 x15 v18 hF m19; exact absurd m19 (Nat.not_lt_zero _)
      | succ n20 ih17 =>
        intro x13 x14 x15 v18 hF m19
        replace hF := kf_st (l_X8_sail_0_26_s _ _ _ _ _ _ _) hF
        have r_x13 := kw_rng x13
        have r_x14 := kw_rng x14
        have r_x15 := kw_rng x15
        refine kw_iload (pc := 26) (i := 16) (k := 0) (n := 5) rfl rfl ?_
        refine kw_aload_n (pc := 28) (i := 17) (k := 4) (n := 0) rfl rfl rfl ?_
        refine kw_get (pc := 29) (i := 18) (v := .ref 2) rfl rfl rfl lkX8_17 (fun _ => rfl) ?_
        refine kw_iload_n (pc := 32) (i := 19) (k := 5) (n := 1) rfl rfl rfl ?_
        refine kw_iald (pc := 33) (i := 20) (n := 6) rfl rfl (by omega) (by omega) (fun z21 e_z21 => ?_)
        replace hF := kf_le e_z21 hF
        have t_z21 := congrArg Int32.toInt e_z21
        have b_z21 : -9 ≤ z21.toInt ∧ z21.toInt ≤ 40 := by rw [e_z21]; exact I6 2 _
        refine kw_icmp_ge (pc := 34) (i := 21) (tgt := 95) rfl rfl (fun c22 => ?_) (fun c22 => ?_)
        · replace hF := kf_nl c22 hF
          refine kw_aload_n (pc := 95) (i := 54) (k := 4) (n := 0) rfl rfl rfl ?_
          refine kw_iload (pc := 96) (i := 55) (k := 1) (n := 4) rfl rfl ?_
          refine kw_i2l (pc := 98) (i := 56) rfl (fun z23 e_z23 t_z23 => ?_)
          replace hF := kf_le e_z23 hF
          refine kw_lconst (pc := 99) (i := 57) (v := 1) rfl rfl ?_
          refine kw_callV (pc := 100) (i := 58) (Y := mX8_part) (a := 0) (As := [.long z23, .long 1]) (st := []) kw_hE rfl rfl lvX8_223 arX8_part (c_X8_part_0 l T hT0 hT1 S2 I6 z23 1 (by first | omega | decide)) (by decide) (Nat.le_of_ble_eq_true rfl) rfl (fun v S25 p24 => ?_)
          obtain ⟨⟨I29, F30⟩, z28, rfl, f26, ef27⟩ := p24
          have F31 : kw_FM [1, 1000, 1002, 2003, 2004] σ S25 := kw_FM.tr F8 F30 (by decide)
          have w_32 : (S25.1 0 27).toInt = (S2.1 0 27).toInt := congrArg Int32.toInt (kw_FM.at0 (j := 27) F30 (by decide))
          replace hF := kf_be ef27 hF
          have r_z28 := kw_rng z28
          show kw_AW l 4 kw_E0 KM mX8_sail (p_X8_sail_0 T σ a) 103 [(5, .int x13), (4, .int x14), (3, .int x15), (2, .int z5), (0, .ref 0), (1, .int a)] [.int z28] S25
          refine kw_pop (pc := 103) (i := 59) rfl rfl ?_
          refine kw_aload_n (pc := 104) (i := 60) (k := 4) (n := 0) rfl rfl rfl ?_
          refine kw_iload_n (pc := 105) (i := 61) (k := 2) (n := 3) rfl rfl rfl ?_
          refine kw_iconst (pc := 106) (i := 62) (v := 1) rfl rfl ?_
          refine kw_callV (pc := 107) (i := 63) (Y := mX8_ask) (a := 0) (As := [.int x15, .int 1]) (st := []) kw_hE rfl rfl lvX8_119 arX8_ask (c_X8_ask_0 l T hT0 hT1 S25 I29 x15 1 ) (by decide) (Nat.le_of_ble_eq_true rfl) rfl (fun v S34 p33 => ?_)
          obtain ⟨⟨I38, F39⟩, z37, rfl, f35, ef36⟩ := p33
          have F40 : kw_FM [1, 1000, 1002, 2003, 2004] σ S34 := kw_FM.tr F31 F39 (by decide)
          have w_41 : (S34.1 0 27).toInt = (S25.1 0 27).toInt := congrArg Int32.toInt (kw_FM.at0 (j := 27) F39 (by decide))
          replace hF := kf_be ef36 hF
          have r_z37 := kw_rng z37
          show kw_AW l 4 kw_E0 KM mX8_sail (p_X8_sail_0 T σ a) 110 [(5, .int x13), (4, .int x14), (3, .int x15), (2, .int z5), (0, .ref 0), (1, .int a)] [.int z37] S34
          exact kw_ireturn (pc := 110) (i := 64) (ty := .int) rfl rfl rfl ⟨⟨I38, F40⟩, _, rfl, hF⟩
        · replace hF := kf_p c22 hF
          refine kw_iload_n (pc := 37) (i := 22) (k := 2) (n := 3) rfl rfl rfl ?_
          refine kw_aload_n (pc := 38) (i := 23) (k := 4) (n := 0) rfl rfl rfl ?_
          refine kw_aload_n (pc := 39) (i := 24) (k := 4) (n := 0) rfl rfl rfl ?_
          refine kw_iload_n (pc := 40) (i := 25) (k := 5) (n := 1) rfl rfl rfl ?_
          refine kw_iload (pc := 41) (i := 26) (k := 0) (n := 5) rfl rfl ?_
          refine kw_callV (pc := 43) (i := 27) (Y := mX8_rowAt) (a := 0) (As := [.int a, .int x13]) (st := [.ref 0, .int x15]) kw_hE rfl rfl lvX8_115 arX8_rowAt (c_X8_rowAt_0 l T hT0 hT1 S2 I6 a x13 (by first | omega | decide) (by first | omega | decide) (by first | omega | decide) (by first | omega | decide)) (by decide) (Nat.le_of_ble_eq_true rfl) rfl (fun v S43 p42 => ?_)
          obtain ⟨e46, z45, rfl, ef44⟩ := p42
          rw [e46]
          replace hF := kf_le ef44 hF
          have r_z45 := kw_rng z45
          show kw_AW l 4 kw_E0 KM mX8_sail (p_X8_sail_0 T σ a) 46 [(5, .int x13), (4, .int x14), (3, .int x15), (2, .int z5), (0, .ref 0), (1, .int a)] [.int z45, .ref 0, .int x15] S2
          refine kw_aload_n (pc := 46) (i := 28) (k := 4) (n := 0) rfl rfl rfl ?_
          refine kw_aload_n (pc := 47) (i := 29) (k := 4) (n := 0) rfl rfl rfl ?_
          refine kw_get (pc := 48) (i := 30) (v := .int (S2.1 0 22)) rfl rfl rfl lkX8_166 (fun _ => rfl) ?_
          have b47 : 0 ≤ (S2.1 0 22).toInt ∧ (S2.1 0 22).toInt ≤ T := I6 0 22
          refine kw_iload (pc := 51) (i := 31) (k := 0) (n := 5) rfl rfl ?_
          refine kw_iadd (pc := 53) (i := 32) rfl (fun z48 e_z48 t_z48 => ?_)
          replace hF := kf_le e_z48 hF
          first | (have u_z48 : z48.toInt = (S2.1 0 22).toInt + x13.toInt := (by omega); clear t_z48) | skip
          refine kw_callV (pc := 54) (i := 33) (Y := mX8_windAt) (a := 0) (As := [.int z48]) (st := [.int z45, .ref 0, .int x15]) kw_hE rfl rfl lvX8_196 arX8_windAt (c_X8_windAt_0 l T hT0 hT1 S2 I6 z48 (by first | omega | decide)) (by decide) (Nat.le_of_ble_eq_true rfl) rfl (fun v S50 p49 => ?_)
          obtain ⟨e53, z52, rfl, ef51⟩ := p49
          rw [e53]
          replace hF := kf_le ef51 hF
          have r_z52 := kw_rng z52
          show kw_AW l 4 kw_E0 KM mX8_sail (p_X8_sail_0 T σ a) 57 [(5, .int x13), (4, .int x14), (3, .int x15), (2, .int z5), (0, .ref 0), (1, .int a)] [.int z52, .int z45, .ref 0, .int x15] S2
          refine kw_callV (pc := 57) (i := 34) (Y := mX8_milesBy) (a := 0) (As := [.int z45, .int z52]) (st := [.int x15]) kw_hE rfl rfl lvX8_199 arX8_milesBy (c_X8_milesBy_0 l T hT0 hT1 S2 I6 z45 z52 ) (by decide) (Nat.le_of_ble_eq_true rfl) rfl (fun v S55 p54 => ?_)
          obtain ⟨e58, z57, rfl, ef56⟩ := p54
          rw [e58]
          replace hF := kf_le ef56 hF
          have r_z57 := kw_rng z57
          show kw_AW l 4 kw_E0 KM mX8_sail (p_X8_sail_0 T σ a) 60 [(5, .int x13), (4, .int x14), (3, .int x15), (2, .int z5), (0, .ref 0), (1, .int a)] [.int z57, .int x15] S2
          refine kw_iadd (pc := 60) (i := 35) rfl (fun z59 e_z59 t_z59 => ?_)
          replace hF := kf_le e_z59 hF
          first | (have u_z59 : z59.toInt = x15.toInt + z57.toInt := (by omega); clear t_z59) | skip
          refine kw_istore_n (pc := 61) (i := 36) (n := 3) (lv' := [(3, .int z59), (5, .int x13), (4, .int x14), (2, .int z5), (0, .ref 0), (1, .int a)]) rfl rfl (by decide) rfl ?_
          refine kw_iload (pc := 62) (i := 37) (k := 2) (n := 4) rfl rfl ?_
          refine kw_aload_n (pc := 64) (i := 38) (k := 4) (n := 0) rfl rfl rfl ?_
          refine kw_aload_n (pc := 65) (i := 39) (k := 4) (n := 0) rfl rfl rfl ?_
          refine kw_iload_n (pc := 66) (i := 40) (k := 5) (n := 1) rfl rfl rfl ?_
          refine kw_iload (pc := 67) (i := 41) (k := 1) (n := 5) rfl rfl ?_
          refine kw_callV (pc := 69) (i := 42) (Y := mX8_rowAt) (a := 0) (As := [.int a, .int x13]) (st := [.ref 0, .int x14]) kw_hE rfl rfl lvX8_115 arX8_rowAt (c_X8_rowAt_0 l T hT0 hT1 S2 I6 a x13 (by first | omega | decide) (by first | omega | decide) (by first | omega | decide) (by first | omega | decide)) (by decide) (Nat.le_of_ble_eq_true rfl) rfl (fun v S61 p60 => ?_)
          obtain ⟨e64, z63, rfl, ef62⟩ := p60
          rw [e64]
          replace hF := kf_le ef62 hF
          have r_z63 := kw_rng z63
          show kw_AW l 4 kw_E0 KM mX8_sail (p_X8_sail_0 T σ a) 72 [(3, .int z59), (5, .int x13), (4, .int x14), (2, .int z5), (0, .ref 0), (1, .int a)] [.int z63, .ref 0, .int x14] S2
          refine kw_aload_n (pc := 72) (i := 43) (k := 4) (n := 0) rfl rfl rfl ?_
          refine kw_aload_n (pc := 73) (i := 44) (k := 4) (n := 0) rfl rfl rfl ?_
          refine kw_get (pc := 74) (i := 45) (v := .int (S2.1 0 22)) rfl rfl rfl lkX8_166 (fun _ => rfl) ?_
          refine kw_iload (pc := 77) (i := 46) (k := 1) (n := 5) rfl rfl ?_
          refine kw_iadd (pc := 79) (i := 47) rfl (fun z65 e_z65 t_z65 => ?_)
          replace hF := kf_le e_z65 hF
          first | (have u_z65 : z65.toInt = (S2.1 0 22).toInt + x13.toInt := (by omega); clear t_z65) | skip
          refine kw_callV (pc := 80) (i := 48) (Y := mX8_windAt) (a := 0) (As := [.int z65]) (st := [.int z63, .ref 0, .int x14]) kw_hE rfl rfl lvX8_196 arX8_windAt (c_X8_windAt_0 l T hT0 hT1 S2 I6 z65 (by first | omega | decide)) (by decide) (Nat.le_of_ble_eq_true rfl) rfl (fun v S67 p66 => ?_)
          obtain ⟨e70, z69, rfl, ef68⟩ := p66
          rw [e70]
          replace hF := kf_le ef68 hF
          have r_z69 := kw_rng z69
          show kw_AW l 4 kw_E0 KM mX8_sail (p_X8_sail_0 T σ a) 83 [(3, .int z59), (5, .int x13), (4, .int x14), (2, .int z5), (0, .ref 0), (1, .int a)] [.int z69, .int z63, .ref 0, .int x14] S2
          refine kw_callV (pc := 83) (i := 49) (Y := mX8_turnBy) (a := 0) (As := [.int z63, .int z69]) (st := [.int x14]) kw_hE rfl rfl lvX8_202 arX8_turnBy (c_X8_turnBy_0 l T hT0 hT1 S2 I6 z63 z69 ) (by decide) (Nat.le_of_ble_eq_true rfl) rfl (fun v S72 p71 => ?_)
          obtain ⟨e75, z74, rfl, ef73⟩ := p71
          rw [e75]
          replace hF := kf_le ef73 hF
          have r_z74 := kw_rng z74
          show kw_AW l 4 kw_E0 KM mX8_sail (p_X8_sail_0 T σ a) 86 [(3, .int z59), (5, .int x13), (4, .int x14), (2, .int z5), (0, .ref 0), (1, .int a)] [.int z74, .int x14] S2
          refine kw_iadd (pc := 86) (i := 50) rfl (fun z76 e_z76 t_z76 => ?_)
          replace hF := kf_le e_z76 hF
          first | (have u_z76 : z76.toInt = x14.toInt + z74.toInt := (by omega); clear t_z76) | skip
          refine kw_istore (pc := 87) (i := 51) (n := 4) (lv' := [(4, .int z76), (3, .int z59), (5, .int x13), (2, .int z5), (0, .ref 0), (1, .int a)]) rfl (by decide) rfl ?_
          refine kw_iinc' (pc := 89) (i := 52) (k := 2) (fun z => [(5, .int z), (4, .int z76), (3, .int z59), (2, .int z5), (0, .ref 0), (1, .int a)]) rfl rfl (by decide) rfl (fun _ => rfl) (fun z77 e_z77 t_z77 => ?_)
          replace hF := kf_le e_z77 hF
          first | (have u_z77 : z77.toInt = x13.toInt + 1 := (by omega); clear t_z77) | skip
          refine kw_goto (pc := 92) (i := 53) (tgt := 26) rfl rfl ?_
          refine kw_sub (lv' := [(5, .int z77), (4, .int z76), (3, .int z59), (2, .int z5), (0, .ref 0), (1, .int a)]) [0, 1, 2, 3, 4, 5] rfl ?_
          exact ih17 z77 z76 z59 (by omega) hF (by omega)
    exact L16 _ 0 (S2.1 0 24) (S2.1 0 23) (by omega) hF (Nat.lt_succ_self _)
  · replace hF := kf_p c10 hF
    refine kw_iload_n (pc := 10) (i := 6) (k := 0) (n := 2) rfl rfl rfl ?_
    exact kw_ireturn (pc := 11) (i := 7) (ty := .int) rfl rfl rfl ⟨⟨I6, F8⟩, _, rfl, hF⟩
noncomputable def l_X8_dry_0_38 (k17 : Int32 → Int32 → Int32 × kw_S) (a1 : Int32) (a2 : Int32) (a3 : Int32) (a4 : Int32) (S : kw_S) : Nat → Int32 → Int32 → Int32 × kw_S
  | 0, _, _ => (0, S)
  | n + 1, x5, x6 => kf_l (S.1 2 a1.toNatClampNeg) fun z4 => if x6.toInt < z4.toInt then (kf_l (f_X8_rowAt_0 S a1 x6) fun z10 => kf_l (f_X8_has S z10 a4) fun z11 => if z11.toInt = 0 then (kf_l (x6 + Int32.ofInt 1) fun z12 => l_X8_dry_0_38 k17 a1 a2 a3 a4 S n x5 z12) else (kf_l ((S.1 0 22) + x6) fun z13 => kf_l (f_X8_windAt_0 S z13) fun z14 => kf_l (f_X8_wetBehind_0 S x5 z14) fun z15 => kf_l (x6 + Int32.ofInt 1) fun z16 => l_X8_dry_0_38 k17 a1 a2 a3 a4 S n z15 z16)) else (if x5.toInt = 0 then (kf_l ((1 : Int32) <<< (a4 &&& 31)) fun z7 => kf_l (a3 ||| z7) fun z8 => kf_l (a4 + Int32.ofInt 1) fun z9 => k17 z8 z9) else (kf_l (a3 ||| (0 : Int32)) fun z5 => kf_l (a4 + Int32.ofInt 1) fun z6 => k17 z5 z6))
theorem l_X8_dry_0_38_s (k17 : Int32 → Int32 → Int32 × kw_S) (a1 : Int32) (a2 : Int32) (a3 : Int32) (a4 : Int32) (S : kw_S) (n : Nat) (x5 : Int32) (x6 : Int32) : l_X8_dry_0_38 k17 a1 a2 a3 a4 S (n + 1) x5 x6 = kf_l (S.1 2 a1.toNatClampNeg) fun z4 => if x6.toInt < z4.toInt then (kf_l (f_X8_rowAt_0 S a1 x6) fun z10 => kf_l (f_X8_has S z10 a4) fun z11 => if z11.toInt = 0 then (kf_l (x6 + Int32.ofInt 1) fun z12 => l_X8_dry_0_38 k17 a1 a2 a3 a4 S n x5 z12) else (kf_l ((S.1 0 22) + x6) fun z13 => kf_l (f_X8_windAt_0 S z13) fun z14 => kf_l (f_X8_wetBehind_0 S x5 z14) fun z15 => kf_l (x6 + Int32.ofInt 1) fun z16 => l_X8_dry_0_38 k17 a1 a2 a3 a4 S n z15 z16)) else (if x5.toInt = 0 then (kf_l ((1 : Int32) <<< (a4 &&& 31)) fun z7 => kf_l (a3 ||| z7) fun z8 => kf_l (a4 + Int32.ofInt 1) fun z9 => k17 z8 z9) else (kf_l (a3 ||| (0 : Int32)) fun z5 => kf_l (a4 + Int32.ofInt 1) fun z6 => k17 z5 z6)) := rfl
noncomputable def l_X8_dry_0_17 (a1 : Int32) (a2 : Int32) (S : kw_S) : Nat → Int32 → Int32 → Int32 × kw_S
  | 0, _, _ => (0, S)
  | n + 1, x3, x4 => if x4.toInt < (S.1 0 10).toInt then (kf_l (S.1 14 x4.toNatClampNeg) fun z3 => l_X8_dry_0_38 (l_X8_dry_0_17 a1 a2 S n) a1 a2 x3 x4 S ((41 - (0 : Int32).toInt).toNat + 1) z3 (0 : Int32)) else ((x3, S))
theorem l_X8_dry_0_17_s (a1 : Int32) (a2 : Int32) (S : kw_S) (n : Nat) (x3 : Int32) (x4 : Int32) : l_X8_dry_0_17 a1 a2 S (n + 1) x3 x4 = if x4.toInt < (S.1 0 10).toInt then (kf_l (S.1 14 x4.toNatClampNeg) fun z3 => l_X8_dry_0_38 (l_X8_dry_0_17 a1 a2 S n) a1 a2 x3 x4 S ((41 - (0 : Int32).toInt).toNat + 1) z3 (0 : Int32)) else ((x3, S)) := rfl
noncomputable def f_X8_dry_0 (σ : kw_S) (a : Int32) : Int32 × kw_S := kf_b (f_X8_askedPlan_0 σ a) fun z1 S2 => if z1.toInt < 0 then ((z1, S2)) else (l_X8_dry_0_17 a z1 S2 ((7 - (0 : Int32).toInt).toNat + 1) (0 : Int32) (0 : Int32))
theorem f_X8_dry_0_u (σ : kw_S) (a : Int32) : f_X8_dry_0 σ a = kf_b (f_X8_askedPlan_0 σ a) fun z1 S2 => if z1.toInt < 0 then ((z1, S2)) else (l_X8_dry_0_17 a z1 S2 ((7 - (0 : Int32).toInt).toNat + 1) (0 : Int32) (0 : Int32)) := rfl
abbrev p_X8_dry_0 (T : Int) (σ : kw_S) (a : Int32) : Option Value → kw_S → Prop := fun vv σ' => (kw_I (bM T) σ' ∧ kw_FM [1, 1000] σ σ') ∧ ∃ r : Int32, vv = some (.int r) ∧ (r, σ') = f_X8_dry_0 σ a
set_option maxRecDepth 100000 in
set_option maxHeartbeats 4000000 in
theorem c_X8_dry_0 (l : Launch) (T : Int) (hT0 : 0 ≤ T) (hT1 : T ≤ 3000) (σ : kw_S) (hI : kw_I (bM T) σ) (a : Int32) : kw_Met l 4 KM mX8_dry [.ref 0, .int a] σ (p_X8_dry_0 T σ a) := by
  have r_a := kw_rng a
  have hF0 : kw_FM [1, 1000] σ σ := kw_FM.rf
  have hF := (f_X8_dry_0_u σ a).symm
  have q_0 : (0 : Int32).toInt = 0 := rfl
  have q_1 : (1 : Int32).toInt = 1 := rfl
  refine kw_Met.of (by decide) rfl tX8_dry (Nat.le_of_ble_eq_true rfl) ?_
  show kw_AW l 4 kw_E0 KM mX8_dry (p_X8_dry_0 T σ a) 0 [(0, .ref 0), (1, .int a)] [] σ
  refine kw_aload_n (pc := 0) (i := 0) (k := 0) (n := 0) rfl rfl rfl ?_
  refine kw_iload_n (pc := 1) (i := 1) (k := 1) (n := 1) rfl rfl rfl ?_
  refine kw_callV (pc := 2) (i := 2) (Y := mX8_askedPlan) (a := 0) (As := [.int a]) (st := []) kw_hE rfl rfl lvX8_252 arX8_askedPlan (c_X8_askedPlan_0 l T hT0 hT1 σ hI a ) (by decide) (Nat.le_of_ble_eq_true rfl) rfl (fun v S2 p1 => ?_)
  obtain ⟨⟨I6, F7⟩, z5, rfl, f3, ef4⟩ := p1
  have F8 : kw_FM [1, 1000] σ S2 := kw_FM.tr hF0 F7 (by decide)
  have w_9 : (S2.1 0 27).toInt = (σ.1 0 27).toInt := congrArg Int32.toInt (kw_FM.at0 (j := 27) F7 (by decide))
  replace hF := kf_be ef4 hF
  have r_z5 := kw_rng z5
  show kw_AW l 4 kw_E0 KM mX8_dry (p_X8_dry_0 T σ a) 5 [(0, .ref 0), (1, .int a)] [.int z5] S2
  refine kw_istore_n (pc := 5) (i := 3) (n := 2) (lv' := [(2, .int z5), (0, .ref 0), (1, .int a)]) rfl rfl (by decide) rfl ?_
  refine kw_iload_n (pc := 6) (i := 4) (k := 0) (n := 2) rfl rfl rfl ?_
  refine kw_if_ge (pc := 7) (i := 5) (tgt := 12) rfl rfl (fun c10 => ?_) (fun c10 => ?_)
  · replace hF := kf_nl c10 hF
    refine kw_iconst (pc := 12) (i := 8) (v := 0) rfl rfl ?_
    refine kw_istore_n (pc := 13) (i := 9) (n := 3) (lv' := [(3, .int 0), (2, .int z5), (0, .ref 0), (1, .int a)]) rfl rfl (by decide) rfl ?_
    refine kw_iconst (pc := 14) (i := 10) (v := 0) rfl rfl ?_
    refine kw_istore (pc := 15) (i := 11) (n := 4) (lv' := [(4, .int 0), (3, .int 0), (2, .int z5), (0, .ref 0), (1, .int a)]) rfl (by decide) rfl ?_
    have L13 : ∀ (n17 : Nat) (x11 : Int32) (x12 : Int32), 0 ≤ x11.toInt → l_X8_dry_0_17 a z5 S2 n17 x12 x11 = (f_X8_dry_0 σ a) → (7 - x11.toInt).toNat < n17 → kw_AW l 4 kw_E0 KM mX8_dry (p_X8_dry_0 T σ a) 17 [(4, .int x11), (3, .int x12), (2, .int z5), (0, .ref 0), (1, .int a)] [] S2 := by
      intro n17
      induction n17 with
      | zero => intro x11 x12 v15 hF m16; exact absurd m16 (Nat.not_lt_zero _)
      | succ n17 ih14 =>
        intro x11 x12 v15 hF m16
        replace hF := kf_st (l_X8_dry_0_17_s _ _ _ _ _ _) hF
        have r_x11 := kw_rng x11
        have r_x12 := kw_rng x12
        refine kw_iload (pc := 17) (i := 12) (k := 0) (n := 4) rfl rfl ?_
        refine kw_aload_n (pc := 19) (i := 13) (k := 3) (n := 0) rfl rfl rfl ?_
        refine kw_get (pc := 20) (i := 14) (v := .int (S2.1 0 10)) rfl rfl rfl lkX8_163 (fun _ => rfl) ?_
        have b18 : 0 ≤ (S2.1 0 10).toInt ∧ (S2.1 0 10).toInt ≤ 6 := I6 0 10
        refine kw_icmp_ge (pc := 23) (i := 15) (tgt := 116) rfl rfl (fun c19 => ?_) (fun c19 => ?_)
        · replace hF := kf_nl c19 hF
          refine kw_iload_n (pc := 116) (i := 62) (k := 1) (n := 3) rfl rfl rfl ?_
          exact kw_ireturn (pc := 117) (i := 63) (ty := .int) rfl rfl rfl ⟨⟨I6, F8⟩, _, rfl, hF⟩
        · replace hF := kf_p c19 hF
          refine kw_aload_n (pc := 26) (i := 16) (k := 3) (n := 0) rfl rfl rfl ?_
          refine kw_get (pc := 27) (i := 17) (v := .ref 14) rfl rfl rfl lkX8_57 (fun _ => rfl) ?_
          refine kw_iload (pc := 30) (i := 18) (k := 0) (n := 4) rfl rfl ?_
          refine kw_iald (pc := 32) (i := 19) (n := 6) rfl rfl (by omega) (by omega) (fun z20 e_z20 => ?_)
          replace hF := kf_le e_z20 hF
          have t_z20 := congrArg Int32.toInt e_z20
          have r_z20 := kw_rng z20
          refine kw_istore (pc := 33) (i := 20) (n := 5) (lv' := [(5, .int z20), (4, .int x11), (3, .int x12), (2, .int z5), (0, .ref 0), (1, .int a)]) rfl (by decide) rfl ?_
          refine kw_iconst (pc := 35) (i := 21) (v := 0) rfl rfl ?_
          refine kw_istore (pc := 36) (i := 22) (n := 6) (lv' := [(6, .int 0), (5, .int z20), (4, .int x11), (3, .int x12), (2, .int z5), (0, .ref 0), (1, .int a)]) rfl (by decide) rfl ?_
          have L23 : ∀ (n27 : Nat) (x21 : Int32) (x22 : Int32), 0 ≤ x21.toInt → l_X8_dry_0_38 (l_X8_dry_0_17 a z5 S2 n17) a z5 x12 x11 S2 n27 x22 x21 = (f_X8_dry_0 σ a) → (41 - x21.toInt).toNat < n27 → kw_AW l 4 kw_E0 KM mX8_dry (p_X8_dry_0 T σ a) 38 [(6, .int x21), (5, .int x22), (4, .int x11), (3, .int x12), (2, .int z5), (0, .ref 0), (1, .int a)] [] S2 := by
            intro n27
            induction n27 with
            | zero => intro x21 x22 v25 hF m26; exact absurd m26 (Nat.not_lt_zero _)
            | succ n27 ih24 =>
              intro x21 x22 v25 hF m26
              replace hF := kf_st (l_X8_dry_0_38_s _ _ _ _ _ _ _ _ _) hF
              have r_x21 := kw_rng x21
              have r_x22 := kw_rng x22
              refine kw_iload (pc := 38) (i := 23) (k := 0) (n := 6) rfl rfl ?_
              refine kw_aload_n (pc := 40) (i := 24) (k := 5) (n := 0) rfl rfl rfl ?_
              refine kw_get (pc := 41) (i := 25) (v := .ref 2) rfl rfl rfl lkX8_17 (fun _ => rfl) ?_
              refine kw_iload_n (pc := 44) (i := 26) (k := 6) (n := 1) rfl rfl rfl ?_
              refine kw_iald (pc := 45) (i := 27) (n := 6) rfl rfl (by omega) (by omega) (fun z28 e_z28 => ?_)
              replace hF := kf_le e_z28 hF
              have t_z28 := congrArg Int32.toInt e_z28
              have b_z28 : -9 ≤ z28.toInt ∧ z28.toInt ≤ 40 := by rw [e_z28]; exact I6 2 _
              refine kw_icmp_ge (pc := 46) (i := 28) (tgt := 94) rfl rfl (fun c29 => ?_) (fun c29 => ?_)
              · replace hF := kf_nl c29 hF
                refine kw_iload_n (pc := 94) (i := 50) (k := 3) (n := 3) rfl rfl rfl ?_
                refine kw_iload (pc := 95) (i := 51) (k := 1) (n := 5) rfl rfl ?_
                refine kw_if_ne (pc := 97) (i := 52) (tgt := 107) rfl rfl (fun c30 => ?_) (fun c30 => ?_)
                · replace hF := kf_n c30 hF
                  refine kw_iconst (pc := 107) (i := 57) (v := 0) rfl rfl ?_
                  refine kw_ior (pc := 108) (i := 58) rfl (fun z31 e_z31 => ?_)
                  have r_z31 := kw_rng z31
                  replace hF := kf_le e_z31 hF
                  refine kw_istore_n (pc := 109) (i := 59) (n := 3) (lv' := [(3, .int z31), (6, .int x21), (5, .int x22), (4, .int x11), (2, .int z5), (0, .ref 0), (1, .int a)]) rfl rfl (by decide) rfl ?_
                  refine kw_iinc' (pc := 110) (i := 60) (k := 3) (fun z => [(4, .int z), (3, .int z31), (6, .int x21), (5, .int x22), (2, .int z5), (0, .ref 0), (1, .int a)]) rfl rfl (by decide) rfl (fun _ => rfl) (fun z32 e_z32 t_z32 => ?_)
                  replace hF := kf_le e_z32 hF
                  first | (have u_z32 : z32.toInt = x11.toInt + 1 := (by omega); clear t_z32) | skip
                  refine kw_goto (pc := 113) (i := 61) (tgt := 17) rfl rfl ?_
                  refine kw_sub (lv' := [(4, .int z32), (3, .int z31), (2, .int z5), (0, .ref 0), (1, .int a)]) [0, 1, 4, 5, 6] rfl ?_
                  exact ih14 z32 z31 (by omega) hF (by omega)
                · replace hF := kf_p c30 hF
                  refine kw_iconst (pc := 100) (i := 53) (v := 1) rfl rfl ?_
                  refine kw_iload (pc := 101) (i := 54) (k := 2) (n := 4) rfl rfl ?_
                  refine kw_ishl (pc := 103) (i := 55) rfl (fun z33 e_z33 => ?_)
                  have r_z33 := kw_rng z33
                  replace hF := kf_le e_z33 hF
                  have t_z33 := kw_shlm x11 z33 e_z33
                  first | (replace t_z33 := And.intro (t_z33.1 (by omega) (by omega)) (t_z33.2 (by omega) (by omega))) | (replace t_z33 := t_z33.1 (by omega) (by omega)) | skip
                  have u_z33 := congrArg Int32.toInt e_z33
                  refine kw_goto (pc := 104) (i := 56) (tgt := 108) rfl rfl ?_
                  refine kw_ior (pc := 108) (i := 58) rfl (fun z34 e_z34 => ?_)
                  have r_z34 := kw_rng z34
                  replace hF := kf_le e_z34 hF
                  refine kw_istore_n (pc := 109) (i := 59) (n := 3) (lv' := [(3, .int z34), (6, .int x21), (5, .int x22), (4, .int x11), (2, .int z5), (0, .ref 0), (1, .int a)]) rfl rfl (by decide) rfl ?_
                  refine kw_iinc' (pc := 110) (i := 60) (k := 3) (fun z => [(4, .int z), (3, .int z34), (6, .int x21), (5, .int x22), (2, .int z5), (0, .ref 0), (1, .int a)]) rfl rfl (by decide) rfl (fun _ => rfl) (fun z35 e_z35 t_z35 => ?_)
                  replace hF := kf_le e_z35 hF
                  first | (have u_z35 : z35.toInt = x11.toInt + 1 := (by omega); clear t_z35) | skip
                  refine kw_goto (pc := 113) (i := 61) (tgt := 17) rfl rfl ?_
                  refine kw_sub (lv' := [(4, .int z35), (3, .int z34), (2, .int z5), (0, .ref 0), (1, .int a)]) [0, 1, 4, 5, 6] rfl ?_
                  exact ih14 z35 z34 (by omega) hF (by omega)
              · replace hF := kf_p c29 hF
                refine kw_aload_n (pc := 49) (i := 29) (k := 5) (n := 0) rfl rfl rfl ?_
                refine kw_iload_n (pc := 50) (i := 30) (k := 6) (n := 1) rfl rfl rfl ?_
                refine kw_iload (pc := 51) (i := 31) (k := 0) (n := 6) rfl rfl ?_
                refine kw_callV (pc := 53) (i := 32) (Y := mX8_rowAt) (a := 0) (As := [.int a, .int x21]) (st := []) kw_hE rfl rfl lvX8_115 arX8_rowAt (c_X8_rowAt_0 l T hT0 hT1 S2 I6 a x21 (by first | omega | decide) (by first | omega | decide) (by first | omega | decide) (by first | omega | decide)) (by decide) (Nat.le_of_ble_eq_true rfl) rfl (fun v S37 p36 => ?_)
                obtain ⟨e40, z39, rfl, ef38⟩ := p36
                rw [e40]
                replace hF := kf_le ef38 hF
                have r_z39 := kw_rng z39
                show kw_AW l 4 kw_E0 KM mX8_dry (p_X8_dry_0 T σ a) 56 [(6, .int x21), (5, .int x22), (4, .int x11), (3, .int x12), (2, .int z5), (0, .ref 0), (1, .int a)] [.int z39] S2
                refine kw_iload (pc := 56) (i := 33) (k := 2) (n := 4) rfl rfl ?_
                refine kw_callS (pc := 58) (i := 34) (Y := mX8_has) (As := [.int z39, .int x11]) (st := []) kw_hE rfl lsX8_185 arX8_has (c_X8_has l T hT0 hT1 S2 I6 z39 x11 ) (by decide) (Nat.le_of_ble_eq_true rfl) rfl (fun v S42 p41 => ?_)
                obtain ⟨e46, z45, rfl, f43, ef44⟩ := p41
                rw [e46]
                replace hF := kf_le ef44 hF
                have r_z45 := kw_rng z45
                show kw_AW l 4 kw_E0 KM mX8_dry (p_X8_dry_0 T σ a) 61 [(6, .int x21), (5, .int x22), (4, .int x11), (3, .int x12), (2, .int z5), (0, .ref 0), (1, .int a)] [.int z45] S2
                refine kw_if_eq (pc := 61) (i := 35) (tgt := 84) rfl rfl (fun c47 => ?_) (fun c47 => ?_)
                · replace hF := kf_p c47 hF
                  refine kw_iload (pc := 84) (i := 46) (k := 1) (n := 5) rfl rfl ?_
                  refine kw_istore (pc := 86) (i := 47) (n := 5) (lv' := [(5, .int x22), (6, .int x21), (4, .int x11), (3, .int x12), (2, .int z5), (0, .ref 0), (1, .int a)]) rfl (by decide) rfl ?_
                  refine kw_iinc' (pc := 88) (i := 48) (k := 1) (fun z => [(6, .int z), (5, .int x22), (4, .int x11), (3, .int x12), (2, .int z5), (0, .ref 0), (1, .int a)]) rfl rfl (by decide) rfl (fun _ => rfl) (fun z48 e_z48 t_z48 => ?_)
                  replace hF := kf_le e_z48 hF
                  first | (have u_z48 : z48.toInt = x21.toInt + 1 := (by omega); clear t_z48) | skip
                  refine kw_goto (pc := 91) (i := 49) (tgt := 38) rfl rfl ?_
                  refine kw_sub (lv' := [(6, .int z48), (5, .int x22), (4, .int x11), (3, .int x12), (2, .int z5), (0, .ref 0), (1, .int a)]) [0, 1, 2, 3, 4, 5, 6] rfl ?_
                  exact ih24 z48 x22 (by omega) hF (by omega)
                · replace hF := kf_n c47 hF
                  refine kw_aload_n (pc := 64) (i := 36) (k := 5) (n := 0) rfl rfl rfl ?_
                  refine kw_iload (pc := 65) (i := 37) (k := 1) (n := 5) rfl rfl ?_
                  refine kw_aload_n (pc := 67) (i := 38) (k := 5) (n := 0) rfl rfl rfl ?_
                  refine kw_aload_n (pc := 68) (i := 39) (k := 5) (n := 0) rfl rfl rfl ?_
                  refine kw_get (pc := 69) (i := 40) (v := .int (S2.1 0 22)) rfl rfl rfl lkX8_166 (fun _ => rfl) ?_
                  have b49 : 0 ≤ (S2.1 0 22).toInt ∧ (S2.1 0 22).toInt ≤ T := I6 0 22
                  refine kw_iload (pc := 72) (i := 41) (k := 0) (n := 6) rfl rfl ?_
                  refine kw_iadd (pc := 74) (i := 42) rfl (fun z50 e_z50 t_z50 => ?_)
                  replace hF := kf_le e_z50 hF
                  first | (have u_z50 : z50.toInt = (S2.1 0 22).toInt + x21.toInt := (by omega); clear t_z50) | skip
                  refine kw_callV (pc := 75) (i := 43) (Y := mX8_windAt) (a := 0) (As := [.int z50]) (st := [.int x22, .ref 0]) kw_hE rfl rfl lvX8_196 arX8_windAt (c_X8_windAt_0 l T hT0 hT1 S2 I6 z50 (by first | omega | decide)) (by decide) (Nat.le_of_ble_eq_true rfl) rfl (fun v S52 p51 => ?_)
                  obtain ⟨e55, z54, rfl, ef53⟩ := p51
                  rw [e55]
                  replace hF := kf_le ef53 hF
                  have r_z54 := kw_rng z54
                  show kw_AW l 4 kw_E0 KM mX8_dry (p_X8_dry_0 T σ a) 78 [(6, .int x21), (5, .int x22), (4, .int x11), (3, .int x12), (2, .int z5), (0, .ref 0), (1, .int a)] [.int z54, .int x22, .ref 0] S2
                  refine kw_callV (pc := 78) (i := 44) (Y := mX8_wetBehind) (a := 0) (As := [.int x22, .int z54]) (st := []) kw_hE rfl rfl lvX8_205 arX8_wetBehind (c_X8_wetBehind_0 l T hT0 hT1 S2 I6 x22 z54 ) (by decide) (Nat.le_of_ble_eq_true rfl) rfl (fun v S57 p56 => ?_)
                  obtain ⟨e60, z59, rfl, ef58⟩ := p56
                  rw [e60]
                  replace hF := kf_le ef58 hF
                  have r_z59 := kw_rng z59
                  show kw_AW l 4 kw_E0 KM mX8_dry (p_X8_dry_0 T σ a) 81 [(6, .int x21), (5, .int x22), (4, .int x11), (3, .int x12), (2, .int z5), (0, .ref 0), (1, .int a)] [.int z59] S2
                  refine kw_goto (pc := 81) (i := 45) (tgt := 86) rfl rfl ?_
                  refine kw_istore (pc := 86) (i := 47) (n := 5) (lv' := [(5, .int z59), (6, .int x21), (4, .int x11), (3, .int x12), (2, .int z5), (0, .ref 0), (1, .int a)]) rfl (by decide) rfl ?_
                  refine kw_iinc' (pc := 88) (i := 48) (k := 1) (fun z => [(6, .int z), (5, .int z59), (4, .int x11), (3, .int x12), (2, .int z5), (0, .ref 0), (1, .int a)]) rfl rfl (by decide) rfl (fun _ => rfl) (fun z61 e_z61 t_z61 => ?_)
                  replace hF := kf_le e_z61 hF
                  first | (have u_z61 : z61.toInt = x21.toInt + 1 := (by omega); clear t_z61) | skip
                  refine kw_goto (pc := 91) (i := 49) (tgt := 38) rfl rfl ?_
                  refine kw_sub (lv' := [(6, .int z61), (5, .int z59), (4, .int x11), (3, .int x12), (2, .int z5), (0, .ref 0), (1, .int a)]) [0, 1, 2, 3, 4, 5, 6] rfl ?_
                  exact ih24 z61 z59 (by omega) hF (by omega)
          exact L23 _ 0 z20 (by omega) hF (Nat.lt_succ_self _)
    exact L13 _ 0 0 (by omega) hF (Nat.lt_succ_self _)
  · replace hF := kf_p c10 hF
    refine kw_iload_n (pc := 10) (i := 6) (k := 0) (n := 2) rfl rfl rfl ?_
    exact kw_ireturn (pc := 11) (i := 7) (ty := .int) rfl rfl rfl ⟨⟨I6, F8⟩, _, rfl, hF⟩
noncomputable def l_X8_setHours_0_9 (k2 : Int32 → kw_S → kw_S) (a1 : Int32) : Nat → Int32 → kw_S → kw_S
  | 0, _, S => S
  | n + 1, x2, S => kf_l ((1 : Int32) <<< ((S.1 0 10) &&& 31)) fun z1 => if x2.toInt < z1.toInt then (kf_l ((64 : Int32) * a1) fun z3 => kf_l (z3 + x2) fun z4 => kf_l ((S.1 0 22) + a1) fun z5 => kf_l (f_X8_windAt_0 S z5) fun z6 => kf_l (f_X8_milesBy_0 S x2 z6) fun z7 => kf_l ((64 : Int32) * a1) fun z8 => kf_l (z8 + x2) fun z9 => kf_l ((S.1 0 22) + a1) fun z10 => kf_l (f_X8_windAt_0 (kw_ui S 18 z4.toNatClampNeg z7) z10) fun z11 => kf_l (f_X8_turnBy_0 (kw_ui S 18 z4.toNatClampNeg z7) x2 z11) fun z12 => kf_l (x2 + Int32.ofInt 1) fun z13 => l_X8_setHours_0_9 k2 a1 n z13 (kw_ui (kw_ui S 18 z4.toNatClampNeg z7) 19 z9.toNatClampNeg z12)) else (kf_l (a1 + Int32.ofInt 1) fun z2 => k2 z2 S)
theorem l_X8_setHours_0_9_s (k2 : Int32 → kw_S → kw_S) (a1 : Int32) (n : Nat) (x2 : Int32) (S : kw_S) : l_X8_setHours_0_9 k2 a1 (n + 1) x2 S = kf_l ((1 : Int32) <<< ((S.1 0 10) &&& 31)) fun z1 => if x2.toInt < z1.toInt then (kf_l ((64 : Int32) * a1) fun z3 => kf_l (z3 + x2) fun z4 => kf_l ((S.1 0 22) + a1) fun z5 => kf_l (f_X8_windAt_0 S z5) fun z6 => kf_l (f_X8_milesBy_0 S x2 z6) fun z7 => kf_l ((64 : Int32) * a1) fun z8 => kf_l (z8 + x2) fun z9 => kf_l ((S.1 0 22) + a1) fun z10 => kf_l (f_X8_windAt_0 (kw_ui S 18 z4.toNatClampNeg z7) z10) fun z11 => kf_l (f_X8_turnBy_0 (kw_ui S 18 z4.toNatClampNeg z7) x2 z11) fun z12 => kf_l (x2 + Int32.ofInt 1) fun z13 => l_X8_setHours_0_9 k2 a1 n z13 (kw_ui (kw_ui S 18 z4.toNatClampNeg z7) 19 z9.toNatClampNeg z12)) else (kf_l (a1 + Int32.ofInt 1) fun z2 => k2 z2 S) := rfl
noncomputable def l_X8_setHours_0_2  : Nat → Int32 → kw_S → kw_S
  | 0, _, S => S
  | n + 1, x1, S => if x1.toInt < (3 : Int32).toInt then (l_X8_setHours_0_9 (l_X8_setHours_0_2 n) x1 ((65 - (0 : Int32).toInt).toNat + 1) (0 : Int32) S) else (S)
theorem l_X8_setHours_0_2_s  (n : Nat) (x1 : Int32) (S : kw_S) : l_X8_setHours_0_2 (n + 1) x1 S = if x1.toInt < (3 : Int32).toInt then (l_X8_setHours_0_9 (l_X8_setHours_0_2 n) x1 ((65 - (0 : Int32).toInt).toNat + 1) (0 : Int32) S) else (S) := rfl
noncomputable def f_X8_setHours_0 (σ : kw_S)  : kw_S := l_X8_setHours_0_2 ((4 - (0 : Int32).toInt).toNat + 1) (0 : Int32) σ
theorem f_X8_setHours_0_u (σ : kw_S)  : f_X8_setHours_0 σ  = l_X8_setHours_0_2 ((4 - (0 : Int32).toInt).toNat + 1) (0 : Int32) σ := rfl
abbrev p_X8_setHours_0 (T : Int) (σ : kw_S)  : Option Value → kw_S → Prop := fun vv σ' => (kw_I (bM T) σ' ∧ kw_FM [18, 19] σ σ') ∧ vv = none ∧ σ' = f_X8_setHours_0 σ
set_option maxRecDepth 100000 in
set_option maxHeartbeats 4000000 in
theorem c_X8_setHours_0 (l : Launch) (T : Int) (hT0 : 0 ≤ T) (hT1 : T ≤ 3000) (σ : kw_S) (hI : kw_I (bM T) σ)  : kw_Met l 4 KM mX8_setHours [.ref 0] σ (p_X8_setHours_0 T σ) := by
  have hF0 : kw_FM [18, 19] σ σ := kw_FM.rf
  have hF := (f_X8_setHours_0_u σ).symm
  have q_0 : (0 : Int32).toInt = 0 := rfl
  have q_1 : (1 : Int32).toInt = 1 := rfl
  have q_3 : (3 : Int32).toInt = 3 := rfl
  have q_64 : (64 : Int32).toInt = 64 := rfl
  refine kw_Met.of (by decide) rfl tX8_setHours (Nat.le_of_ble_eq_true rfl) ?_
  show kw_AW l 4 kw_E0 KM mX8_setHours (p_X8_setHours_0 T σ) 0 [(0, .ref 0)] [] σ
  refine kw_iconst (pc := 0) (i := 0) (v := 0) rfl rfl ?_
  refine kw_istore_n (pc := 1) (i := 1) (n := 1) (lv' := [(1, .int 0), (0, .ref 0)]) rfl rfl (by decide) rfl ?_
  have L5 : ∀ (n9 : Nat) (x1 : Int32) (S2 : kw_S), kw_I (bM T) S2 → kw_FM [18, 19] σ S2 → 0 ≤ x1.toInt → l_X8_setHours_0_2 n9 x1 S2 = (f_X8_setHours_0 σ) → (4 - x1.toInt).toNat < n9 → kw_AW l 4 kw_E0 KM mX8_setHours (p_X8_setHours_0 T σ) 2 [(1, .int x1), (0, .ref 0)] [] S2 := by
    intro n9
    induction n9 with
    | zero => intro x1 S2 I3 F4 v7 hF m8; exact absurd m8 (Nat.not_lt_zero _)
    | succ n9 ih6 =>
      intro x1 S2 I3 F4 v7 hF m8
      replace hF := kf_st (l_X8_setHours_0_2_s _ _ _) hF
      have r_x1 := kw_rng x1
      refine kw_iload_n (pc := 2) (i := 2) (k := 0) (n := 1) rfl rfl rfl ?_
      refine kw_iconst (pc := 3) (i := 3) (v := 3) rfl rfl ?_
      refine kw_icmp_ge (pc := 4) (i := 4) (tgt := 83) rfl rfl (fun c10 => ?_) (fun c10 => ?_)
      · replace hF := kf_nl c10 hF
        exact kw_return (pc := 83) (i := 51) rfl rfl ⟨⟨I3, F4⟩, rfl, hF⟩
      · replace hF := kf_p c10 hF
        refine kw_iconst (pc := 7) (i := 5) (v := 0) rfl rfl ?_
        refine kw_istore_n (pc := 8) (i := 6) (n := 2) (lv' := [(2, .int 0), (1, .int x1), (0, .ref 0)]) rfl rfl (by decide) rfl ?_
        have L15 : ∀ (n19 : Nat) (x11 : Int32) (S12 : kw_S), kw_I (bM T) S12 → kw_FM [18, 19] σ S12 → 0 ≤ x11.toInt → l_X8_setHours_0_9 (l_X8_setHours_0_2 n9) x1 n19 x11 S12 = (f_X8_setHours_0 σ) → (65 - x11.toInt).toNat < n19 → kw_AW l 4 kw_E0 KM mX8_setHours (p_X8_setHours_0 T σ) 9 [(2, .int x11), (1, .int x1), (0, .ref 0)] [] S12 := by
          intro n19
          induction n19 with
          | zero => intro x11 S12 I13 F14 v17 hF m18; exact absurd m18 (Nat.not_lt_zero _)
          | succ n19 ih16 =>
            intro x11 S12 I13 F14 v17 hF m18
            replace hF := kf_st (l_X8_setHours_0_9_s _ _ _ _ _) hF
            have r_x11 := kw_rng x11
            refine kw_iload_n (pc := 9) (i := 7) (k := 0) (n := 2) rfl rfl rfl ?_
            refine kw_iconst (pc := 10) (i := 8) (v := 1) rfl rfl ?_
            refine kw_aload_n (pc := 11) (i := 9) (k := 2) (n := 0) rfl rfl rfl ?_
            refine kw_get (pc := 12) (i := 10) (v := .int (S12.1 0 10)) rfl rfl rfl lkX8_163 (fun _ => rfl) ?_
            have b20 : 0 ≤ (S12.1 0 10).toInt ∧ (S12.1 0 10).toInt ≤ 6 := I13 0 10
            refine kw_ishl (pc := 15) (i := 11) rfl (fun z21 e_z21 => ?_)
            have r_z21 := kw_rng z21
            replace hF := kf_le e_z21 hF
            have t_z21 := kw_shlm (S12.1 0 10) z21 e_z21
            first | (replace t_z21 := And.intro (t_z21.1 (by omega) (by omega)) (t_z21.2 (by omega) (by omega))) | (replace t_z21 := t_z21.1 (by omega) (by omega)) | skip
            have u_z21 := congrArg Int32.toInt e_z21
            refine kw_icmp_ge (pc := 16) (i := 12) (tgt := 77) rfl rfl (fun c22 => ?_) (fun c22 => ?_)
            · replace hF := kf_nl c22 hF
              refine kw_iinc' (pc := 77) (i := 49) (k := 1) (fun z => [(1, .int z), (2, .int x11), (0, .ref 0)]) rfl rfl (by decide) rfl (fun _ => rfl) (fun z23 e_z23 t_z23 => ?_)
              replace hF := kf_le e_z23 hF
              first | (have u_z23 : z23.toInt = x1.toInt + 1 := (by omega); clear t_z23) | skip
              refine kw_goto (pc := 80) (i := 50) (tgt := 2) rfl rfl ?_
              refine kw_sub (lv' := [(1, .int z23), (0, .ref 0)]) [0, 2] rfl ?_
              exact ih6 z23 S12 I13 F14 (by omega) hF (by omega)
            · replace hF := kf_p c22 hF
              refine kw_aload_n (pc := 19) (i := 13) (k := 2) (n := 0) rfl rfl rfl ?_
              refine kw_get (pc := 20) (i := 14) (v := .ref 18) rfl rfl rfl lkX8_69 (fun _ => rfl) ?_
              refine kw_bipush (pc := 23) (i := 15) (v := 64) rfl rfl ?_
              refine kw_iload_n (pc := 25) (i := 16) (k := 1) (n := 1) rfl rfl rfl ?_
              refine kw_imul (pc := 26) (i := 17) rfl (fun z24 e_z24 t_z24 => ?_)
              replace hF := kf_le e_z24 hF
              rw [show (64 : Int32).toInt = 64 from rfl] at t_z24
              first | (have u_z24 : z24.toInt = 64 * x1.toInt := (by omega); clear t_z24) | skip
              refine kw_iload_n (pc := 27) (i := 18) (k := 0) (n := 2) rfl rfl rfl ?_
              refine kw_iadd (pc := 28) (i := 19) rfl (fun z25 e_z25 t_z25 => ?_)
              replace hF := kf_le e_z25 hF
              first | (have u_z25 : z25.toInt = z24.toInt + x11.toInt := (by omega); clear t_z25) | skip
              refine kw_aload_n (pc := 29) (i := 20) (k := 2) (n := 0) rfl rfl rfl ?_
              refine kw_iload_n (pc := 30) (i := 21) (k := 0) (n := 2) rfl rfl rfl ?_
              refine kw_aload_n (pc := 31) (i := 22) (k := 2) (n := 0) rfl rfl rfl ?_
              refine kw_aload_n (pc := 32) (i := 23) (k := 2) (n := 0) rfl rfl rfl ?_
              refine kw_get (pc := 33) (i := 24) (v := .int (S12.1 0 22)) rfl rfl rfl lkX8_166 (fun _ => rfl) ?_
              have b26 : 0 ≤ (S12.1 0 22).toInt ∧ (S12.1 0 22).toInt ≤ T := I13 0 22
              refine kw_iload_n (pc := 36) (i := 25) (k := 1) (n := 1) rfl rfl rfl ?_
              refine kw_iadd (pc := 37) (i := 26) rfl (fun z27 e_z27 t_z27 => ?_)
              replace hF := kf_le e_z27 hF
              first | (have u_z27 : z27.toInt = (S12.1 0 22).toInt + x1.toInt := (by omega); clear t_z27) | skip
              refine kw_callV (pc := 38) (i := 27) (Y := mX8_windAt) (a := 0) (As := [.int z27]) (st := [.int x11, .ref 0, .int z25, .ref 18]) kw_hE rfl rfl lvX8_196 arX8_windAt (c_X8_windAt_0 l T hT0 hT1 S12 I13 z27 (by first | omega | decide)) (by decide) (Nat.le_of_ble_eq_true rfl) rfl (fun v S29 p28 => ?_)
              obtain ⟨e32, z31, rfl, ef30⟩ := p28
              rw [e32]
              replace hF := kf_le ef30 hF
              have r_z31 := kw_rng z31
              show kw_AW l 4 kw_E0 KM mX8_setHours (p_X8_setHours_0 T σ) 41 [(2, .int x11), (1, .int x1), (0, .ref 0)] [.int z31, .int x11, .ref 0, .int z25, .ref 18] S12
              refine kw_callV (pc := 41) (i := 28) (Y := mX8_milesBy) (a := 0) (As := [.int x11, .int z31]) (st := [.int z25, .ref 18]) kw_hE rfl rfl lvX8_199 arX8_milesBy (c_X8_milesBy_0 l T hT0 hT1 S12 I13 x11 z31 ) (by decide) (Nat.le_of_ble_eq_true rfl) rfl (fun v S34 p33 => ?_)
              obtain ⟨e37, z36, rfl, ef35⟩ := p33
              rw [e37]
              replace hF := kf_le ef35 hF
              have r_z36 := kw_rng z36
              show kw_AW l 4 kw_E0 KM mX8_setHours (p_X8_setHours_0 T σ) 44 [(2, .int x11), (1, .int x1), (0, .ref 0)] [.int z36, .int z25, .ref 18] S12
              refine kw_iast (pc := 44) (i := 29) (n := 192) rfl rfl (by omega) (by omega) ?_
              have I38 : kw_I (bM T) (kw_ui S12 18 z25.toNatClampNeg z36) := kw_I_ui I13 (kw_rng z36).1 (Int.le_of_lt_add_one (kw_rng z36).2)
              have F39 : kw_FM [18, 19] σ (kw_ui S12 18 z25.toNatClampNeg z36) := kw_FM_ui F14 (by decide) (by decide)
              refine kw_aload_n (pc := 45) (i := 30) (k := 2) (n := 0) rfl rfl rfl ?_
              refine kw_get (pc := 46) (i := 31) (v := .ref 19) rfl rfl rfl lkX8_72 (fun _ => rfl) ?_
              refine kw_bipush (pc := 49) (i := 32) (v := 64) rfl rfl ?_
              refine kw_iload_n (pc := 51) (i := 33) (k := 1) (n := 1) rfl rfl rfl ?_
              refine kw_imul (pc := 52) (i := 34) rfl (fun z40 e_z40 t_z40 => ?_)
              replace hF := kf_le e_z40 hF
              rw [show (64 : Int32).toInt = 64 from rfl] at t_z40
              first | (have u_z40 : z40.toInt = 64 * x1.toInt := (by omega); clear t_z40) | skip
              refine kw_iload_n (pc := 53) (i := 35) (k := 0) (n := 2) rfl rfl rfl ?_
              refine kw_iadd (pc := 54) (i := 36) rfl (fun z41 e_z41 t_z41 => ?_)
              replace hF := kf_le e_z41 hF
              first | (have u_z41 : z41.toInt = z40.toInt + x11.toInt := (by omega); clear t_z41) | skip
              refine kw_aload_n (pc := 55) (i := 37) (k := 2) (n := 0) rfl rfl rfl ?_
              refine kw_iload_n (pc := 56) (i := 38) (k := 0) (n := 2) rfl rfl rfl ?_
              refine kw_aload_n (pc := 57) (i := 39) (k := 2) (n := 0) rfl rfl rfl ?_
              refine kw_aload_n (pc := 58) (i := 40) (k := 2) (n := 0) rfl rfl rfl ?_
              refine kw_get (pc := 59) (i := 41) (v := .int (S12.1 0 22)) rfl rfl rfl lkX8_166 (fun _ => rfl) ?_
              refine kw_iload_n (pc := 62) (i := 42) (k := 1) (n := 1) rfl rfl rfl ?_
              refine kw_iadd (pc := 63) (i := 43) rfl (fun z42 e_z42 t_z42 => ?_)
              replace hF := kf_le e_z42 hF
              first | (have u_z42 : z42.toInt = (S12.1 0 22).toInt + x1.toInt := (by omega); clear t_z42) | skip
              refine kw_callV (pc := 64) (i := 44) (Y := mX8_windAt) (a := 0) (As := [.int z42]) (st := [.int x11, .ref 0, .int z41, .ref 19]) kw_hE rfl rfl lvX8_196 arX8_windAt (c_X8_windAt_0 l T hT0 hT1 (kw_ui S12 18 z25.toNatClampNeg z36) I38 z42 (by first | omega | decide)) (by decide) (Nat.le_of_ble_eq_true rfl) rfl (fun v S44 p43 => ?_)
              obtain ⟨e47, z46, rfl, ef45⟩ := p43
              rw [e47]
              replace hF := kf_le ef45 hF
              have r_z46 := kw_rng z46
              show kw_AW l 4 kw_E0 KM mX8_setHours (p_X8_setHours_0 T σ) 67 [(2, .int x11), (1, .int x1), (0, .ref 0)] [.int z46, .int x11, .ref 0, .int z41, .ref 19] (kw_ui S12 18 z25.toNatClampNeg z36)
              refine kw_callV (pc := 67) (i := 45) (Y := mX8_turnBy) (a := 0) (As := [.int x11, .int z46]) (st := [.int z41, .ref 19]) kw_hE rfl rfl lvX8_202 arX8_turnBy (c_X8_turnBy_0 l T hT0 hT1 (kw_ui S12 18 z25.toNatClampNeg z36) I38 x11 z46 ) (by decide) (Nat.le_of_ble_eq_true rfl) rfl (fun v S49 p48 => ?_)
              obtain ⟨e52, z51, rfl, ef50⟩ := p48
              rw [e52]
              replace hF := kf_le ef50 hF
              have r_z51 := kw_rng z51
              show kw_AW l 4 kw_E0 KM mX8_setHours (p_X8_setHours_0 T σ) 70 [(2, .int x11), (1, .int x1), (0, .ref 0)] [.int z51, .int z41, .ref 19] (kw_ui S12 18 z25.toNatClampNeg z36)
              refine kw_iast (pc := 70) (i := 46) (n := 192) rfl rfl (by omega) (by omega) ?_
              have I53 : kw_I (bM T) (kw_ui (kw_ui S12 18 z25.toNatClampNeg z36) 19 z41.toNatClampNeg z51) := kw_I_ui I38 (kw_rng z51).1 (Int.le_of_lt_add_one (kw_rng z51).2)
              have F54 : kw_FM [18, 19] σ (kw_ui (kw_ui S12 18 z25.toNatClampNeg z36) 19 z41.toNatClampNeg z51) := kw_FM_ui F39 (by decide) (by decide)
              refine kw_iinc' (pc := 71) (i := 47) (k := 0) (fun z => [(2, .int z), (1, .int x1), (0, .ref 0)]) rfl rfl (by decide) rfl (fun _ => rfl) (fun z55 e_z55 t_z55 => ?_)
              replace hF := kf_le e_z55 hF
              first | (have u_z55 : z55.toInt = x11.toInt + 1 := (by omega); clear t_z55) | skip
              refine kw_goto (pc := 74) (i := 48) (tgt := 9) rfl rfl ?_
              refine kw_sub (lv' := [(2, .int z55), (1, .int x1), (0, .ref 0)]) [0, 1, 2] rfl ?_
              exact ih16 z55 (kw_ui (kw_ui S12 18 z25.toNatClampNeg z36) 19 z41.toNatClampNeg z51) I53 F54 (by omega) hF (by omega)
        exact L15 _ 0 S2 I3 F4 (by omega) hF (Nat.lt_succ_self _)
  exact L5 _ 0 σ hI hF0 (by omega) hF (Nat.lt_succ_self _)
noncomputable def f_X8_isTurn (σ : kw_S) (x : Int32) (t : Int32) : Int32 := kf_l (-t) fun z1 => if x.toInt < z1.toInt then ((0 : Int32)) else (if t.toInt < x.toInt then ((0 : Int32)) else ((1 : Int32)))
theorem f_X8_isTurn_u (σ : kw_S) (x : Int32) (t : Int32) : f_X8_isTurn σ x t = kf_l (-t) fun z1 => if x.toInt < z1.toInt then ((0 : Int32)) else (if t.toInt < x.toInt then ((0 : Int32)) else ((1 : Int32))) := rfl
abbrev p_X8_isTurn (T : Int) (σ : kw_S) (x : Int32) (t : Int32) : Option Value → kw_S → Prop := fun vv σ' => σ' = σ ∧ ∃ r : Int32, vv = some (.int r) ∧ (r.toInt = 0 ∨ r.toInt = 1) ∧ r = f_X8_isTurn σ x t
set_option maxRecDepth 100000 in
set_option maxHeartbeats 4000000 in
theorem c_X8_isTurn (l : Launch) (T : Int) (hT0 : 0 ≤ T) (hT1 : T ≤ 3000) (σ : kw_S) (hI : kw_I (bM T) σ) (x : Int32) (t : Int32) : kw_Met l 1 KM mX8_isTurn [.int x, .int t] σ (p_X8_isTurn T σ x t) := by
  have r_x := kw_rng x
  have r_t := kw_rng t
  have hF := (f_X8_isTurn_u σ x t).symm
  have q_0 : (0 : Int32).toInt = 0 := rfl
  have q_1 : (1 : Int32).toInt = 1 := rfl
  refine kw_Met.of (by decide) rfl tX8_isTurn (Nat.le_of_ble_eq_true rfl) ?_
  show kw_AW l 1 kw_E0 KM mX8_isTurn (p_X8_isTurn T σ x t) 0 [(0, .int x), (1, .int t)] [] σ
  refine kw_iload_n (pc := 0) (i := 0) (k := 0) (n := 0) rfl rfl rfl ?_
  refine kw_iload_n (pc := 1) (i := 1) (k := 1) (n := 1) rfl rfl rfl ?_
  refine kw_ineg (pc := 2) (i := 2) rfl (fun z1 e_z1 t_z1 => ?_)
  replace hF := kf_le e_z1 hF
  refine kw_icmp_lt (pc := 3) (i := 3) (tgt := 15) rfl rfl (fun c2 => ?_) (fun c2 => ?_)
  · replace hF := kf_p c2 hF
    refine kw_iconst (pc := 15) (i := 9) (v := 0) rfl rfl ?_
    exact kw_ireturn (pc := 16) (i := 10) (ty := .boolean) rfl rfl rfl ⟨rfl, _, rfl, by omega, hF⟩
  · replace hF := kf_nl c2 hF
    refine kw_iload_n (pc := 6) (i := 4) (k := 0) (n := 0) rfl rfl rfl ?_
    refine kw_iload_n (pc := 7) (i := 5) (k := 1) (n := 1) rfl rfl rfl ?_
    refine kw_icmp_gt (pc := 8) (i := 6) (tgt := 15) rfl rfl (fun c3 => ?_) (fun c3 => ?_)
    · replace hF := kf_p c3 hF
      refine kw_iconst (pc := 15) (i := 9) (v := 0) rfl rfl ?_
      exact kw_ireturn (pc := 16) (i := 10) (ty := .boolean) rfl rfl rfl ⟨rfl, _, rfl, by omega, hF⟩
    · replace hF := kf_nl c3 hF
      refine kw_iconst (pc := 11) (i := 7) (v := 1) rfl rfl ?_
      refine kw_goto (pc := 12) (i := 8) (tgt := 16) rfl rfl ?_
      exact kw_ireturn (pc := 16) (i := 10) (ty := .boolean) rfl rfl rfl ⟨rfl, _, rfl, by omega, hF⟩
noncomputable def l_X8_mostOf_0_5 (a1 : Int32) (a2 : Int32) (S : kw_S) : Nat → Int32 → Int32 → Int32
  | 0, _, _ => 0
  | n + 1, x3, x4 => if 0 < x4.toInt then (kf_l ((64 : Int32) * a1) fun z1 => kf_l (z1 + x4) fun z2 => kf_l (S.1 18 z2.toNatClampNeg) fun z3 => kf_l (f_X8_greater S x3 z3) fun z4 => kf_l (x4 - (1 : Int32)) fun z5 => kf_l (z5 &&& a2) fun z6 => l_X8_mostOf_0_5 a1 a2 S n z4 z6) else (x3)
theorem l_X8_mostOf_0_5_s (a1 : Int32) (a2 : Int32) (S : kw_S) (n : Nat) (x3 : Int32) (x4 : Int32) : l_X8_mostOf_0_5 a1 a2 S (n + 1) x3 x4 = if 0 < x4.toInt then (kf_l ((64 : Int32) * a1) fun z1 => kf_l (z1 + x4) fun z2 => kf_l (S.1 18 z2.toNatClampNeg) fun z3 => kf_l (f_X8_greater S x3 z3) fun z4 => kf_l (x4 - (1 : Int32)) fun z5 => kf_l (z5 &&& a2) fun z6 => l_X8_mostOf_0_5 a1 a2 S n z4 z6) else (x3) := rfl
noncomputable def f_X8_mostOf_0 (σ : kw_S) (k : Int32) (o : Int32) : Int32 := l_X8_mostOf_0_5 k o σ ((o.toInt).toNat + 1) (0 : Int32) o
theorem f_X8_mostOf_0_u (σ : kw_S) (k : Int32) (o : Int32) : f_X8_mostOf_0 σ k o = l_X8_mostOf_0_5 k o σ ((o.toInt).toNat + 1) (0 : Int32) o := rfl
abbrev p_X8_mostOf_0 (T : Int) (σ : kw_S) (k : Int32) (o : Int32) : Option Value → kw_S → Prop := fun vv σ' => σ' = σ ∧ ∃ r : Int32, vv = some (.int r) ∧ r = f_X8_mostOf_0 σ k o
set_option maxRecDepth 100000 in
set_option maxHeartbeats 4000000 in
theorem c_X8_mostOf_0 (l : Launch) (T : Int) (hT0 : 0 ≤ T) (hT1 : T ≤ 3000) (σ : kw_S) (hI : kw_I (bM T) σ) (k : Int32) (o : Int32) (hp0 : 0 ≤ k.toInt) (hp1 : k.toInt ≤ 2) (hp2 : 0 ≤ o.toInt) (hp3 : o.toInt ≤ 63) : kw_Met l 2 KM mX8_mostOf [.ref 0, .int k, .int o] σ (p_X8_mostOf_0 T σ k o) := by
  have r_k := kw_rng k
  have r_o := kw_rng o
  have hF := (f_X8_mostOf_0_u σ k o).symm
  have q_0 : (0 : Int32).toInt = 0 := rfl
  have q_1 : (1 : Int32).toInt = 1 := rfl
  have q_64 : (64 : Int32).toInt = 64 := rfl
  refine kw_Met.of (by decide) rfl tX8_mostOf (Nat.le_of_ble_eq_true rfl) ?_
  show kw_AW l 2 kw_E0 KM mX8_mostOf (p_X8_mostOf_0 T σ k o) 0 [(0, .ref 0), (1, .int k), (2, .int o)] [] σ
  refine kw_iconst (pc := 0) (i := 0) (v := 0) rfl rfl ?_
  refine kw_istore_n (pc := 1) (i := 1) (n := 3) (lv' := [(3, .int 0), (0, .ref 0), (1, .int k), (2, .int o)]) rfl rfl (by decide) rfl ?_
  refine kw_iload_n (pc := 2) (i := 2) (k := 3) (n := 2) rfl rfl rfl ?_
  refine kw_istore (pc := 3) (i := 3) (n := 4) (lv' := [(4, .int o), (3, .int 0), (0, .ref 0), (1, .int k), (2, .int o)]) rfl (by decide) rfl ?_
  have L3 : ∀ (n8 : Nat) (x1 : Int32) (x2 : Int32), 0 ≤ x1.toInt → x1.toInt ≤ o.toInt → l_X8_mostOf_0_5 k o σ n8 x2 x1 = (f_X8_mostOf_0 σ k o) → (x1.toInt).toNat < n8 → kw_AW l 2 kw_E0 KM mX8_mostOf (p_X8_mostOf_0 T σ k o) 5 [(4, .int x1), (3, .int x2), (0, .ref 0), (1, .int k), (2, .int o)] [] σ := by
    intro n8
    induction n8 with
    | zero => intro x1 x2 v5 v6 hF m7; exact absurd m7 (Nat.not_lt_zero _)
    | succ n8 ih4 =>
      intro x1 x2 v5 v6 hF m7
      replace hF := kf_st (l_X8_mostOf_0_5_s _ _ _ _ _ _) hF
      have r_x1 := kw_rng x1
      have r_x2 := kw_rng x2
      refine kw_iload (pc := 5) (i := 4) (k := 0) (n := 4) rfl rfl ?_
      refine kw_if_le (pc := 7) (i := 5) (tgt := 38) rfl rfl (fun c9 => ?_) (fun c9 => ?_)
      · replace hF := kf_nl c9 hF
        refine kw_iload_n (pc := 38) (i := 24) (k := 1) (n := 3) rfl rfl rfl ?_
        exact kw_ireturn (pc := 39) (i := 25) (ty := .int) rfl rfl rfl ⟨rfl, _, rfl, hF⟩
      · replace hF := kf_p c9 hF
        refine kw_iload_n (pc := 10) (i := 6) (k := 1) (n := 3) rfl rfl rfl ?_
        refine kw_aload_n (pc := 11) (i := 7) (k := 2) (n := 0) rfl rfl rfl ?_
        refine kw_get (pc := 12) (i := 8) (v := .ref 18) rfl rfl rfl lkX8_69 (fun _ => rfl) ?_
        refine kw_bipush (pc := 15) (i := 9) (v := 64) rfl rfl ?_
        refine kw_iload_n (pc := 17) (i := 10) (k := 3) (n := 1) rfl rfl rfl ?_
        refine kw_imul (pc := 18) (i := 11) rfl (fun z10 e_z10 t_z10 => ?_)
        replace hF := kf_le e_z10 hF
        rw [show (64 : Int32).toInt = 64 from rfl] at t_z10
        first | (have u_z10 : z10.toInt = 64 * k.toInt := (by omega); clear t_z10) | skip
        refine kw_iload (pc := 19) (i := 12) (k := 0) (n := 4) rfl rfl ?_
        refine kw_iadd (pc := 21) (i := 13) rfl (fun z11 e_z11 t_z11 => ?_)
        replace hF := kf_le e_z11 hF
        first | (have u_z11 : z11.toInt = z10.toInt + x1.toInt := (by omega); clear t_z11) | skip
        refine kw_iald (pc := 22) (i := 14) (n := 192) rfl rfl (by omega) (by omega) (fun z12 e_z12 => ?_)
        replace hF := kf_le e_z12 hF
        have t_z12 := congrArg Int32.toInt e_z12
        have r_z12 := kw_rng z12
        refine kw_callS (pc := 23) (i := 15) (Y := mX8_greater) (As := [.int x2, .int z12]) (st := []) kw_hE rfl lsX8_265 arX8_greater (c_X8_greater l T hT0 hT1 σ hI x2 z12 ) (by decide) (Nat.le_of_ble_eq_true rfl) rfl (fun v S14 p13 => ?_)
        obtain ⟨e17, z16, rfl, ef15⟩ := p13
        rw [e17]
        replace hF := kf_le ef15 hF
        have r_z16 := kw_rng z16
        show kw_AW l 2 kw_E0 KM mX8_mostOf (p_X8_mostOf_0 T σ k o) 26 [(4, .int x1), (3, .int x2), (0, .ref 0), (1, .int k), (2, .int o)] [.int z16] σ
        refine kw_istore_n (pc := 26) (i := 16) (n := 3) (lv' := [(3, .int z16), (4, .int x1), (0, .ref 0), (1, .int k), (2, .int o)]) rfl rfl (by decide) rfl ?_
        refine kw_iload (pc := 27) (i := 17) (k := 1) (n := 4) rfl rfl ?_
        refine kw_iconst (pc := 29) (i := 18) (v := 1) rfl rfl ?_
        refine kw_isub (pc := 30) (i := 19) rfl (fun z18 e_z18 t_z18 => ?_)
        replace hF := kf_le e_z18 hF
        first | (have u_z18 : z18.toInt = x1.toInt - 1 := (by omega); clear t_z18) | skip
        refine kw_iload_n (pc := 31) (i := 20) (k := 4) (n := 2) rfl rfl rfl ?_
        refine kw_iand (pc := 32) (i := 21) rfl (fun z19 e_z19 => ?_)
        have r_z19 := kw_rng z19
        replace hF := kf_le e_z19 hF
        have t_z19 := kw_andI z18 o z19 e_z19
        first | (replace t_z19 := t_z19 (by omega) (by omega)) | skip
        refine kw_istore (pc := 33) (i := 22) (n := 4) (lv' := [(4, .int z19), (3, .int z16), (0, .ref 0), (1, .int k), (2, .int o)]) rfl (by decide) rfl ?_
        refine kw_goto (pc := 35) (i := 23) (tgt := 5) rfl rfl ?_
        refine kw_sub (lv' := [(4, .int z19), (3, .int z16), (0, .ref 0), (1, .int k), (2, .int o)]) [0, 1, 2, 3, 4] rfl ?_
        exact ih4 z19 z16 (by omega) (by omega) hF (by omega)
  exact L3 _ o 0 (by omega) (by omega) hF (Nat.lt_succ_self _)
noncomputable def l_X8_soon_0_36 (a1 : Int32) (S : kw_S) : Nat → Int32 → Int32 → Int32 × kw_S
  | 0, _, _ => (0, S)
  | n + 1, x2, x3 => if x3.toInt < (3 : Int32).toInt then (if x2.toInt < a1.toInt then (kf_l ((1 : Int32) <<< ((S.1 0 10) &&& 31)) fun z3 => kf_l (z3 - (1 : Int32)) fun z4 => kf_l (f_X8_mostOf_0 S x3 z4) fun z5 => kf_l (x2 + z5) fun z6 => kf_l (x3 + Int32.ofInt 1) fun z7 => l_X8_soon_0_36 a1 S n z6 z7) else (if x2.toInt < a1.toInt then ((((-9) : Int32), S)) else ((x3, S)))) else (if x2.toInt < a1.toInt then ((((-9) : Int32), S)) else ((x3, S)))
theorem l_X8_soon_0_36_s (a1 : Int32) (S : kw_S) (n : Nat) (x2 : Int32) (x3 : Int32) : l_X8_soon_0_36 a1 S (n + 1) x2 x3 = if x3.toInt < (3 : Int32).toInt then (if x2.toInt < a1.toInt then (kf_l ((1 : Int32) <<< ((S.1 0 10) &&& 31)) fun z3 => kf_l (z3 - (1 : Int32)) fun z4 => kf_l (f_X8_mostOf_0 S x3 z4) fun z5 => kf_l (x2 + z5) fun z6 => kf_l (x3 + Int32.ofInt 1) fun z7 => l_X8_soon_0_36 a1 S n z6 z7) else (if x2.toInt < a1.toInt then ((((-9) : Int32), S)) else ((x3, S)))) else (if x2.toInt < a1.toInt then ((((-9) : Int32), S)) else ((x3, S))) := rfl
noncomputable def f_X8_soon_0 (σ : kw_S) (m : Int32) : Int32 × kw_S := kf_l (f_X8_in σ m ((-999) : Int32) (999 : Int32)) fun z1 => if z1.toInt = 0 then ((((-1) : Int32), σ)) else (if (σ.1 0 10).toInt = 0 then ((((-4) : Int32), σ)) else (kf_l (f_X8_setHours_0 σ) fun S2 => l_X8_soon_0_36 m S2 ((4 - (0 : Int32).toInt).toNat + 1) (S2.1 0 23) (0 : Int32)))
theorem f_X8_soon_0_u (σ : kw_S) (m : Int32) : f_X8_soon_0 σ m = kf_l (f_X8_in σ m ((-999) : Int32) (999 : Int32)) fun z1 => if z1.toInt = 0 then ((((-1) : Int32), σ)) else (if (σ.1 0 10).toInt = 0 then ((((-4) : Int32), σ)) else (kf_l (f_X8_setHours_0 σ) fun S2 => l_X8_soon_0_36 m S2 ((4 - (0 : Int32).toInt).toNat + 1) (S2.1 0 23) (0 : Int32))) := rfl
abbrev p_X8_soon_0 (T : Int) (σ : kw_S) (m : Int32) : Option Value → kw_S → Prop := fun vv σ' => (kw_I (bM T) σ' ∧ kw_FM [18, 19] σ σ') ∧ ∃ r : Int32, vv = some (.int r) ∧ (r, σ') = f_X8_soon_0 σ m
set_option maxRecDepth 100000 in
set_option maxHeartbeats 4000000 in
theorem c_X8_soon_0 (l : Launch) (T : Int) (hT0 : 0 ≤ T) (hT1 : T ≤ 3000) (σ : kw_S) (hI : kw_I (bM T) σ) (m : Int32) : kw_Met l 5 KM mX8_soon [.ref 0, .int m] σ (p_X8_soon_0 T σ m) := by
  have r_m := kw_rng m
  have hF0 : kw_FM [18, 19] σ σ := kw_FM.rf
  have hF := (f_X8_soon_0_u σ m).symm
  have q_m999 : (-999 : Int32).toInt = -999 := rfl
  have q_m9 : (-9 : Int32).toInt = -9 := rfl
  have q_m4 : (-4 : Int32).toInt = -4 := rfl
  have q_m1 : (-1 : Int32).toInt = -1 := rfl
  have q_0 : (0 : Int32).toInt = 0 := rfl
  have q_1 : (1 : Int32).toInt = 1 := rfl
  have q_3 : (3 : Int32).toInt = 3 := rfl
  have q_999 : (999 : Int32).toInt = 999 := rfl
  refine kw_Met.of (by decide) rfl tX8_soon (Nat.le_of_ble_eq_true rfl) ?_
  show kw_AW l 5 kw_E0 KM mX8_soon (p_X8_soon_0 T σ m) 0 [(0, .ref 0), (1, .int m)] [] σ
  refine kw_iload_n (pc := 0) (i := 0) (k := 1) (n := 1) rfl rfl rfl ?_
  refine kw_sipush (pc := 1) (i := 1) (v := (-999)) rfl rfl ?_
  refine kw_sipush (pc := 4) (i := 2) (v := 999) rfl rfl ?_
  refine kw_callS (pc := 7) (i := 3) (Y := mX8_in) (As := [.int m, .int (-999), .int 999]) (st := []) kw_hE rfl lsX8_93 arX8_in (c_X8_in l T hT0 hT1 σ hI m (-999) 999 ) (by decide) (Nat.le_of_ble_eq_true rfl) rfl (fun v S2 p1 => ?_)
  obtain ⟨e8, z7, rfl, f3, f4, f5, ef6⟩ := p1
  rw [e8]
  replace hF := kf_le ef6 hF
  have r_z7 := kw_rng z7
  show kw_AW l 5 kw_E0 KM mX8_soon (p_X8_soon_0 T σ m) 10 [(0, .ref 0), (1, .int m)] [.int z7] σ
  refine kw_if_ne (pc := 10) (i := 4) (tgt := 15) rfl rfl (fun c9 => ?_) (fun c9 => ?_)
  · replace hF := kf_n c9 hF
    refine kw_aload_n (pc := 15) (i := 7) (k := 0) (n := 0) rfl rfl rfl ?_
    refine kw_get (pc := 16) (i := 8) (v := .int (σ.1 0 10)) rfl rfl rfl lkX8_163 (fun _ => rfl) ?_
    have b10 : 0 ≤ (σ.1 0 10).toInt ∧ (σ.1 0 10).toInt ≤ 6 := hI 0 10
    refine kw_if_ne (pc := 19) (i := 9) (tgt := 25) rfl rfl (fun c11 => ?_) (fun c11 => ?_)
    · replace hF := kf_n c11 hF
      refine kw_aload_n (pc := 25) (i := 12) (k := 0) (n := 0) rfl rfl rfl ?_
      refine kw_callV (pc := 26) (i := 13) (Y := mX8_setHours) (a := 0) (As := []) (st := []) kw_hE rfl rfl lvX8_259 arX8_setHours (c_X8_setHours_0 l T hT0 hT1 σ hI  ) (by decide) (Nat.le_of_ble_eq_true rfl) rfl (fun v S13 p12 => ?_)
      obtain ⟨⟨I15, F16⟩, rfl, ef14⟩ := p12
      have F17 : kw_FM [18, 19] σ S13 := kw_FM.tr hF0 F16 (by decide)
      have w_18 : (S13.1 0 27).toInt = (σ.1 0 27).toInt := congrArg Int32.toInt (kw_FM.at0 (j := 27) F16 (by decide))
      replace hF := kf_le ef14 hF
      show kw_AW l 5 kw_E0 KM mX8_soon (p_X8_soon_0 T σ m) 29 [(0, .ref 0), (1, .int m)] [] S13
      refine kw_aload_n (pc := 29) (i := 14) (k := 0) (n := 0) rfl rfl rfl ?_
      refine kw_get (pc := 30) (i := 15) (v := .int (S13.1 0 23)) rfl rfl rfl lkX8_169 (fun _ => rfl) ?_
      have b19 := kw_rng (S13.1 0 23)
      refine kw_istore_n (pc := 33) (i := 16) (n := 2) (lv' := [(2, .int (S13.1 0 23)), (0, .ref 0), (1, .int m)]) rfl rfl (by decide) rfl ?_
      refine kw_iconst (pc := 34) (i := 17) (v := 0) rfl rfl ?_
      refine kw_istore_n (pc := 35) (i := 18) (n := 3) (lv' := [(3, .int 0), (2, .int (S13.1 0 23)), (0, .ref 0), (1, .int m)]) rfl rfl (by decide) rfl ?_
      have L22 : ∀ (n26 : Nat) (x20 : Int32) (x21 : Int32), 0 ≤ x20.toInt → l_X8_soon_0_36 m S13 n26 x21 x20 = (f_X8_soon_0 σ m) → (4 - x20.toInt).toNat < n26 → kw_AW l 5 kw_E0 KM mX8_soon (p_X8_soon_0 T σ m) 36 [(3, .int x20), (2, .int x21), (0, .ref 0), (1, .int m)] [] S13 := by
        intro n26
        induction n26 with
        | zero => intro x20 x21 v24 hF m25; exact absurd m25 (Nat.not_lt_zero _)
        | succ n26 ih23 =>
          intro x20 x21 v24 hF m25
          replace hF := kf_st (l_X8_soon_0_36_s _ _ _ _ _) hF
          have r_x20 := kw_rng x20
          have r_x21 := kw_rng x21
          refine kw_iload_n (pc := 36) (i := 19) (k := 0) (n := 3) rfl rfl rfl ?_
          refine kw_iconst (pc := 37) (i := 20) (v := 3) rfl rfl ?_
          refine kw_icmp_ge (pc := 38) (i := 21) (tgt := 68) rfl rfl (fun c27 => ?_) (fun c27 => ?_)
          · replace hF := kf_nl c27 hF
            refine kw_iload_n (pc := 68) (i := 39) (k := 1) (n := 2) rfl rfl rfl ?_
            refine kw_iload_n (pc := 69) (i := 40) (k := 3) (n := 1) rfl rfl rfl ?_
            refine kw_icmp_ge (pc := 70) (i := 41) (tgt := 78) rfl rfl (fun c28 => ?_) (fun c28 => ?_)
            · replace hF := kf_nl c28 hF
              refine kw_iload_n (pc := 78) (i := 44) (k := 0) (n := 3) rfl rfl rfl ?_
              exact kw_ireturn (pc := 79) (i := 45) (ty := .int) rfl rfl rfl ⟨⟨I15, F17⟩, _, rfl, hF⟩
            · replace hF := kf_p c28 hF
              refine kw_bipush (pc := 73) (i := 42) (v := (-9)) rfl rfl ?_
              refine kw_goto (pc := 75) (i := 43) (tgt := 79) rfl rfl ?_
              exact kw_ireturn (pc := 79) (i := 45) (ty := .int) rfl rfl rfl ⟨⟨I15, F17⟩, _, rfl, hF⟩
          · replace hF := kf_p c27 hF
            refine kw_iload_n (pc := 41) (i := 22) (k := 1) (n := 2) rfl rfl rfl ?_
            refine kw_iload_n (pc := 42) (i := 23) (k := 3) (n := 1) rfl rfl rfl ?_
            refine kw_icmp_ge (pc := 43) (i := 24) (tgt := 68) rfl rfl (fun c29 => ?_) (fun c29 => ?_)
            · replace hF := kf_nl c29 hF
              refine kw_iload_n (pc := 68) (i := 39) (k := 1) (n := 2) rfl rfl rfl ?_
              refine kw_iload_n (pc := 69) (i := 40) (k := 3) (n := 1) rfl rfl rfl ?_
              refine kw_icmp_ge (pc := 70) (i := 41) (tgt := 78) rfl rfl (fun c30 => ?_) (fun c30 => ?_)
              · replace hF := kf_nl c30 hF
                refine kw_iload_n (pc := 78) (i := 44) (k := 0) (n := 3) rfl rfl rfl ?_
                exact kw_ireturn (pc := 79) (i := 45) (ty := .int) rfl rfl rfl ⟨⟨I15, F17⟩, _, rfl, hF⟩
              · replace hF := kf_p c30 hF
                refine kw_bipush (pc := 73) (i := 42) (v := (-9)) rfl rfl ?_
                refine kw_goto (pc := 75) (i := 43) (tgt := 79) rfl rfl ?_
                exact kw_ireturn (pc := 79) (i := 45) (ty := .int) rfl rfl rfl ⟨⟨I15, F17⟩, _, rfl, hF⟩
            · replace hF := kf_p c29 hF
              refine kw_iload_n (pc := 46) (i := 25) (k := 1) (n := 2) rfl rfl rfl ?_
              refine kw_aload_n (pc := 47) (i := 26) (k := 2) (n := 0) rfl rfl rfl ?_
              refine kw_iload_n (pc := 48) (i := 27) (k := 0) (n := 3) rfl rfl rfl ?_
              refine kw_iconst (pc := 49) (i := 28) (v := 1) rfl rfl ?_
              refine kw_aload_n (pc := 50) (i := 29) (k := 2) (n := 0) rfl rfl rfl ?_
              refine kw_get (pc := 51) (i := 30) (v := .int (S13.1 0 10)) rfl rfl rfl lkX8_163 (fun _ => rfl) ?_
              have b31 : 0 ≤ (S13.1 0 10).toInt ∧ (S13.1 0 10).toInt ≤ 6 := I15 0 10
              refine kw_ishl (pc := 54) (i := 31) rfl (fun z32 e_z32 => ?_)
              have r_z32 := kw_rng z32
              replace hF := kf_le e_z32 hF
              have t_z32 := kw_shlm (S13.1 0 10) z32 e_z32
              first | (replace t_z32 := And.intro (t_z32.1 (by omega) (by omega)) (t_z32.2 (by omega) (by omega))) | (replace t_z32 := t_z32.1 (by omega) (by omega)) | skip
              have u_z32 := congrArg Int32.toInt e_z32
              refine kw_iconst (pc := 55) (i := 32) (v := 1) rfl rfl ?_
              refine kw_isub (pc := 56) (i := 33) rfl (fun z33 e_z33 t_z33 => ?_)
              replace hF := kf_le e_z33 hF
              first | (have u_z33 : z33.toInt = z32.toInt - 1 := (by omega); clear t_z33) | skip
              refine kw_callV (pc := 57) (i := 34) (Y := mX8_mostOf) (a := 0) (As := [.int x20, .int z33]) (st := [.int x21]) kw_hE rfl rfl lvX8_268 arX8_mostOf (c_X8_mostOf_0 l T hT0 hT1 S13 I15 x20 z33 (by first | omega | decide) (by first | omega | decide) (by first | omega | decide) (by first | omega | decide)) (by decide) (Nat.le_of_ble_eq_true rfl) rfl (fun v S35 p34 => ?_)
              obtain ⟨e38, z37, rfl, ef36⟩ := p34
              rw [e38]
              replace hF := kf_le ef36 hF
              have r_z37 := kw_rng z37
              show kw_AW l 5 kw_E0 KM mX8_soon (p_X8_soon_0 T σ m) 60 [(3, .int x20), (2, .int x21), (0, .ref 0), (1, .int m)] [.int z37, .int x21] S13
              refine kw_iadd (pc := 60) (i := 35) rfl (fun z39 e_z39 t_z39 => ?_)
              replace hF := kf_le e_z39 hF
              first | (have u_z39 : z39.toInt = x21.toInt + z37.toInt := (by omega); clear t_z39) | skip
              refine kw_istore_n (pc := 61) (i := 36) (n := 2) (lv' := [(2, .int z39), (3, .int x20), (0, .ref 0), (1, .int m)]) rfl rfl (by decide) rfl ?_
              refine kw_iinc' (pc := 62) (i := 37) (k := 1) (fun z => [(3, .int z), (2, .int z39), (0, .ref 0), (1, .int m)]) rfl rfl (by decide) rfl (fun _ => rfl) (fun z40 e_z40 t_z40 => ?_)
              replace hF := kf_le e_z40 hF
              first | (have u_z40 : z40.toInt = x20.toInt + 1 := (by omega); clear t_z40) | skip
              refine kw_goto (pc := 65) (i := 38) (tgt := 36) rfl rfl ?_
              refine kw_sub (lv' := [(3, .int z40), (2, .int z39), (0, .ref 0), (1, .int m)]) [0, 1, 2, 3] rfl ?_
              exact ih23 z40 z39 (by omega) hF (by omega)
      exact L22 _ 0 (S13.1 0 23) (by omega) hF (Nat.lt_succ_self _)
    · replace hF := kf_p c11 hF
      refine kw_bipush (pc := 22) (i := 10) (v := (-4)) rfl rfl ?_
      exact kw_ireturn (pc := 24) (i := 11) (ty := .int) rfl rfl rfl ⟨⟨hI, hF0⟩, _, rfl, hF⟩
  · replace hF := kf_p c9 hF
    refine kw_iconst (pc := 13) (i := 5) (v := (-1)) rfl rfl ?_
    exact kw_ireturn (pc := 14) (i := 6) (ty := .int) rfl rfl rfl ⟨⟨hI, hF0⟩, _, rfl, hF⟩
noncomputable def l_X8_least_0_64 (k44 : Int32 → Int32 → Int32 × kw_S) (a1 : Int32) (a2 : Int32) (a3 : Int32) (a4 : Int32) (S : kw_S) : Nat → Int32 → Int32 → Int32 × kw_S
  | 0, _, _ => (0, S)
  | n + 1, x5, x6 => if x6.toInt < a1.toInt then (kf_l (f_X8_mostOf_0 S x6 a4) fun z14 => kf_l (x5 + z14) fun z15 => kf_l (x6 + Int32.ofInt 1) fun z16 => l_X8_least_0_64 k44 a1 a2 a3 a4 S n z15 z16) else (if a3.toInt = ((-9) : Int32).toInt then (if x5.toInt < a2.toInt then (kf_l (a4 + Int32.ofInt 1) fun z5 => k44 a3 z5) else (if (1 : Int32).toInt = 0 then ((0, S)) else (kf_l (f_X8_linenOf_0 S a4) fun z6 => kf_l (a4 + Int32.ofInt 1) fun z7 => k44 z6 z7))) else (kf_l (f_X8_linenOf_0 S a4) fun z8 => if z8.toInt < a3.toInt then (if x5.toInt < a2.toInt then (kf_l (a4 + Int32.ofInt 1) fun z11 => k44 a3 z11) else (if (1 : Int32).toInt = 0 then ((0, S)) else (kf_l (f_X8_linenOf_0 S a4) fun z12 => kf_l (a4 + Int32.ofInt 1) fun z13 => k44 z12 z13))) else (if x5.toInt < a2.toInt then (kf_l (a4 + Int32.ofInt 1) fun z9 => k44 a3 z9) else (if (0 : Int32).toInt = 0 then (kf_l (a4 + Int32.ofInt 1) fun z10 => k44 a3 z10) else ((0, S))))))
theorem l_X8_least_0_64_s (k44 : Int32 → Int32 → Int32 × kw_S) (a1 : Int32) (a2 : Int32) (a3 : Int32) (a4 : Int32) (S : kw_S) (n : Nat) (x5 : Int32) (x6 : Int32) : l_X8_least_0_64 k44 a1 a2 a3 a4 S (n + 1) x5 x6 = if x6.toInt < a1.toInt then (kf_l (f_X8_mostOf_0 S x6 a4) fun z14 => kf_l (x5 + z14) fun z15 => kf_l (x6 + Int32.ofInt 1) fun z16 => l_X8_least_0_64 k44 a1 a2 a3 a4 S n z15 z16) else (if a3.toInt = ((-9) : Int32).toInt then (if x5.toInt < a2.toInt then (kf_l (a4 + Int32.ofInt 1) fun z5 => k44 a3 z5) else (if (1 : Int32).toInt = 0 then ((0, S)) else (kf_l (f_X8_linenOf_0 S a4) fun z6 => kf_l (a4 + Int32.ofInt 1) fun z7 => k44 z6 z7))) else (kf_l (f_X8_linenOf_0 S a4) fun z8 => if z8.toInt < a3.toInt then (if x5.toInt < a2.toInt then (kf_l (a4 + Int32.ofInt 1) fun z11 => k44 a3 z11) else (if (1 : Int32).toInt = 0 then ((0, S)) else (kf_l (f_X8_linenOf_0 S a4) fun z12 => kf_l (a4 + Int32.ofInt 1) fun z13 => k44 z12 z13))) else (if x5.toInt < a2.toInt then (kf_l (a4 + Int32.ofInt 1) fun z9 => k44 a3 z9) else (if (0 : Int32).toInt = 0 then (kf_l (a4 + Int32.ofInt 1) fun z10 => k44 a3 z10) else ((0, S)))))) := rfl
noncomputable def l_X8_least_0_44 (a1 : Int32) (a2 : Int32) (S : kw_S) : Nat → Int32 → Int32 → Int32 × kw_S
  | 0, _, _ => (0, S)
  | n + 1, x3, x4 => kf_l ((1 : Int32) <<< ((S.1 0 10) &&& 31)) fun z4 => if x4.toInt < z4.toInt then (l_X8_least_0_64 (l_X8_least_0_44 a1 a2 S n) a1 a2 x3 x4 S ((4 - (0 : Int32).toInt).toNat + 1) (S.1 0 23) (0 : Int32)) else ((x3, S))
theorem l_X8_least_0_44_s (a1 : Int32) (a2 : Int32) (S : kw_S) (n : Nat) (x3 : Int32) (x4 : Int32) : l_X8_least_0_44 a1 a2 S (n + 1) x3 x4 = kf_l ((1 : Int32) <<< ((S.1 0 10) &&& 31)) fun z4 => if x4.toInt < z4.toInt then (l_X8_least_0_64 (l_X8_least_0_44 a1 a2 S n) a1 a2 x3 x4 S ((4 - (0 : Int32).toInt).toNat + 1) (S.1 0 23) (0 : Int32)) else ((x3, S)) := rfl
noncomputable def f_X8_least_0 (σ : kw_S) (n : Int32) (m : Int32) : Int32 × kw_S := kf_l (f_X8_in σ n (0 : Int32) (3 : Int32)) fun z1 => if z1.toInt = 0 then ((((-1) : Int32), σ)) else (kf_l (f_X8_in σ m ((-999) : Int32) (999 : Int32)) fun z2 => if z2.toInt = 0 then ((((-1) : Int32), σ)) else (if (σ.1 0 10).toInt = 0 then ((((-4) : Int32), σ)) else (kf_l (f_X8_setHours_0 σ) fun S3 => l_X8_least_0_44 n m S3 ((65 - (0 : Int32).toInt).toNat + 1) ((-9) : Int32) (0 : Int32))))
theorem f_X8_least_0_u (σ : kw_S) (n : Int32) (m : Int32) : f_X8_least_0 σ n m = kf_l (f_X8_in σ n (0 : Int32) (3 : Int32)) fun z1 => if z1.toInt = 0 then ((((-1) : Int32), σ)) else (kf_l (f_X8_in σ m ((-999) : Int32) (999 : Int32)) fun z2 => if z2.toInt = 0 then ((((-1) : Int32), σ)) else (if (σ.1 0 10).toInt = 0 then ((((-4) : Int32), σ)) else (kf_l (f_X8_setHours_0 σ) fun S3 => l_X8_least_0_44 n m S3 ((65 - (0 : Int32).toInt).toNat + 1) ((-9) : Int32) (0 : Int32)))) := rfl
abbrev p_X8_least_0 (T : Int) (σ : kw_S) (n : Int32) (m : Int32) : Option Value → kw_S → Prop := fun vv σ' => (kw_I (bM T) σ' ∧ kw_FM [18, 19] σ σ') ∧ ∃ r : Int32, vv = some (.int r) ∧ (r, σ') = f_X8_least_0 σ n m
set_option maxRecDepth 100000 in
set_option maxHeartbeats 4000000 in
theorem c_X8_least_0 (l : Launch) (T : Int) (hT0 : 0 ≤ T) (hT1 : T ≤ 3000) (σ : kw_S) (hI : kw_I (bM T) σ) (n : Int32) (m : Int32) : kw_Met l 5 KM mX8_least [.ref 0, .int n, .int m] σ (p_X8_least_0 T σ n m) := by
  have r_n := kw_rng n
  have r_m := kw_rng m
  have hF0 : kw_FM [18, 19] σ σ := kw_FM.rf
  have hF := (f_X8_least_0_u σ n m).symm
  have q_m999 : (-999 : Int32).toInt = -999 := rfl
  have q_m9 : (-9 : Int32).toInt = -9 := rfl
  have q_m4 : (-4 : Int32).toInt = -4 := rfl
  have q_m1 : (-1 : Int32).toInt = -1 := rfl
  have q_0 : (0 : Int32).toInt = 0 := rfl
  have q_1 : (1 : Int32).toInt = 1 := rfl
  have q_3 : (3 : Int32).toInt = 3 := rfl
  have q_999 : (999 : Int32).toInt = 999 := rfl
  refine kw_Met.of (by decide) rfl tX8_least (Nat.le_of_ble_eq_true rfl) ?_
  show kw_AW l 5 kw_E0 KM mX8_least (p_X8_least_0 T σ n m) 0 [(0, .ref 0), (1, .int n), (2, .int m)] [] σ
  refine kw_iload_n (pc := 0) (i := 0) (k := 1) (n := 1) rfl rfl rfl ?_
  refine kw_iconst (pc := 1) (i := 1) (v := 0) rfl rfl ?_
  refine kw_iconst (pc := 2) (i := 2) (v := 3) rfl rfl ?_
  refine kw_callS (pc := 3) (i := 3) (Y := mX8_in) (As := [.int n, .int 0, .int 3]) (st := []) kw_hE rfl lsX8_93 arX8_in (c_X8_in l T hT0 hT1 σ hI n 0 3 ) (by decide) (Nat.le_of_ble_eq_true rfl) rfl (fun v S2 p1 => ?_)
  obtain ⟨e8, z7, rfl, f3, f4, f5, ef6⟩ := p1
  rw [e8]
  replace hF := kf_le ef6 hF
  have r_z7 := kw_rng z7
  show kw_AW l 5 kw_E0 KM mX8_least (p_X8_least_0 T σ n m) 6 [(0, .ref 0), (1, .int n), (2, .int m)] [.int z7] σ
  refine kw_if_eq (pc := 6) (i := 4) (tgt := 22) rfl rfl (fun c9 => ?_) (fun c9 => ?_)
  · replace hF := kf_p c9 hF
    refine kw_iconst (pc := 22) (i := 10) (v := (-1)) rfl rfl ?_
    exact kw_ireturn (pc := 23) (i := 11) (ty := .int) rfl rfl rfl ⟨⟨hI, hF0⟩, _, rfl, hF⟩
  · replace hF := kf_n c9 hF
    refine kw_iload_n (pc := 9) (i := 5) (k := 2) (n := 2) rfl rfl rfl ?_
    refine kw_sipush (pc := 10) (i := 6) (v := (-999)) rfl rfl ?_
    refine kw_sipush (pc := 13) (i := 7) (v := 999) rfl rfl ?_
    refine kw_callS (pc := 16) (i := 8) (Y := mX8_in) (As := [.int m, .int (-999), .int 999]) (st := []) kw_hE rfl lsX8_93 arX8_in (c_X8_in l T hT0 hT1 σ hI m (-999) 999 ) (by decide) (Nat.le_of_ble_eq_true rfl) rfl (fun v S11 p10 => ?_)
    obtain ⟨e17, z16, rfl, f12, f13, f14, ef15⟩ := p10
    rw [e17]
    replace hF := kf_le ef15 hF
    have r_z16 := kw_rng z16
    show kw_AW l 5 kw_E0 KM mX8_least (p_X8_least_0 T σ n m) 19 [(0, .ref 0), (1, .int n), (2, .int m)] [.int z16] σ
    refine kw_if_ne (pc := 19) (i := 9) (tgt := 24) rfl rfl (fun c18 => ?_) (fun c18 => ?_)
    · replace hF := kf_n c18 hF
      refine kw_aload_n (pc := 24) (i := 12) (k := 0) (n := 0) rfl rfl rfl ?_
      refine kw_get (pc := 25) (i := 13) (v := .int (σ.1 0 10)) rfl rfl rfl lkX8_163 (fun _ => rfl) ?_
      have b19 : 0 ≤ (σ.1 0 10).toInt ∧ (σ.1 0 10).toInt ≤ 6 := hI 0 10
      refine kw_if_ne (pc := 28) (i := 14) (tgt := 34) rfl rfl (fun c20 => ?_) (fun c20 => ?_)
      · replace hF := kf_n c20 hF
        refine kw_aload_n (pc := 34) (i := 17) (k := 0) (n := 0) rfl rfl rfl ?_
        refine kw_callV (pc := 35) (i := 18) (Y := mX8_setHours) (a := 0) (As := []) (st := []) kw_hE rfl rfl lvX8_259 arX8_setHours (c_X8_setHours_0 l T hT0 hT1 σ hI  ) (by decide) (Nat.le_of_ble_eq_true rfl) rfl (fun v S22 p21 => ?_)
        obtain ⟨⟨I24, F25⟩, rfl, ef23⟩ := p21
        have F26 : kw_FM [18, 19] σ S22 := kw_FM.tr hF0 F25 (by decide)
        have w_27 : (S22.1 0 27).toInt = (σ.1 0 27).toInt := congrArg Int32.toInt (kw_FM.at0 (j := 27) F25 (by decide))
        replace hF := kf_le ef23 hF
        show kw_AW l 5 kw_E0 KM mX8_least (p_X8_least_0 T σ n m) 38 [(0, .ref 0), (1, .int n), (2, .int m)] [] S22
        refine kw_bipush (pc := 38) (i := 19) (v := (-9)) rfl rfl ?_
        refine kw_istore_n (pc := 40) (i := 20) (n := 3) (lv' := [(3, .int (-9)), (0, .ref 0), (1, .int n), (2, .int m)]) rfl rfl (by decide) rfl ?_
        refine kw_iconst (pc := 41) (i := 21) (v := 0) rfl rfl ?_
        refine kw_istore (pc := 42) (i := 22) (n := 4) (lv' := [(4, .int 0), (3, .int (-9)), (0, .ref 0), (1, .int n), (2, .int m)]) rfl (by decide) rfl ?_
        have L30 : ∀ (n34 : Nat) (x28 : Int32) (x29 : Int32), 0 ≤ x28.toInt → l_X8_least_0_44 n m S22 n34 x29 x28 = (f_X8_least_0 σ n m) → (65 - x28.toInt).toNat < n34 → kw_AW l 5 kw_E0 KM mX8_least (p_X8_least_0 T σ n m) 44 [(4, .int x28), (3, .int x29), (0, .ref 0), (1, .int n), (2, .int m)] [] S22 := by
          intro n34
          induction n34 with
          | zero => intro x28 x29 v32 hF m33; exact absurd m33 (Nat.not_lt_zero _)
          | succ n34 ih31 =>
            intro x28 x29 v32 hF m33
            replace hF := kf_st (l_X8_least_0_44_s _ _ _ _ _ _) hF
            have r_x28 := kw_rng x28
            have r_x29 := kw_rng x29
            refine kw_iload (pc := 44) (i := 23) (k := 0) (n := 4) rfl rfl ?_
            refine kw_iconst (pc := 46) (i := 24) (v := 1) rfl rfl ?_
            refine kw_aload_n (pc := 47) (i := 25) (k := 2) (n := 0) rfl rfl rfl ?_
            refine kw_get (pc := 48) (i := 26) (v := .int (S22.1 0 10)) rfl rfl rfl lkX8_163 (fun _ => rfl) ?_
            have b35 : 0 ≤ (S22.1 0 10).toInt ∧ (S22.1 0 10).toInt ≤ 6 := I24 0 10
            refine kw_ishl (pc := 51) (i := 27) rfl (fun z36 e_z36 => ?_)
            have r_z36 := kw_rng z36
            replace hF := kf_le e_z36 hF
            have t_z36 := kw_shlm (S22.1 0 10) z36 e_z36
            first | (replace t_z36 := And.intro (t_z36.1 (by omega) (by omega)) (t_z36.2 (by omega) (by omega))) | (replace t_z36 := t_z36.1 (by omega) (by omega)) | skip
            have u_z36 := congrArg Int32.toInt e_z36
            refine kw_icmp_ge (pc := 52) (i := 28) (tgt := 140) rfl rfl (fun c37 => ?_) (fun c37 => ?_)
            · replace hF := kf_nl c37 hF
              refine kw_iload_n (pc := 140) (i := 71) (k := 1) (n := 3) rfl rfl rfl ?_
              exact kw_ireturn (pc := 141) (i := 72) (ty := .int) rfl rfl rfl ⟨⟨I24, F26⟩, _, rfl, hF⟩
            · replace hF := kf_p c37 hF
              refine kw_aload_n (pc := 55) (i := 29) (k := 2) (n := 0) rfl rfl rfl ?_
              refine kw_get (pc := 56) (i := 30) (v := .int (S22.1 0 23)) rfl rfl rfl lkX8_169 (fun _ => rfl) ?_
              have b38 := kw_rng (S22.1 0 23)
              refine kw_istore (pc := 59) (i := 31) (n := 5) (lv' := [(5, .int (S22.1 0 23)), (4, .int x28), (3, .int x29), (0, .ref 0), (1, .int n), (2, .int m)]) rfl (by decide) rfl ?_
              refine kw_iconst (pc := 61) (i := 32) (v := 0) rfl rfl ?_
              refine kw_istore (pc := 62) (i := 33) (n := 6) (lv' := [(6, .int 0), (5, .int (S22.1 0 23)), (4, .int x28), (3, .int x29), (0, .ref 0), (1, .int n), (2, .int m)]) rfl (by decide) rfl ?_
              have L41 : ∀ (n45 : Nat) (x39 : Int32) (x40 : Int32), 0 ≤ x39.toInt → l_X8_least_0_64 (l_X8_least_0_44 n m S22 n34) n m x29 x28 S22 n45 x40 x39 = (f_X8_least_0 σ n m) → (4 - x39.toInt).toNat < n45 → kw_AW l 5 kw_E0 KM mX8_least (p_X8_least_0 T σ n m) 64 [(6, .int x39), (5, .int x40), (4, .int x28), (3, .int x29), (0, .ref 0), (1, .int n), (2, .int m)] [] S22 := by
                intro n45
                induction n45 with
                | zero => intro x39 x40 v43 hF m44; exact absurd m44 (Nat.not_lt_zero _)
                | succ n45 ih42 =>
                  intro x39 x40 v43 hF m44
                  replace hF := kf_st (l_X8_least_0_64_s _ _ _ _ _ _ _ _ _) hF
                  have r_x39 := kw_rng x39
                  have r_x40 := kw_rng x40
                  refine kw_iload (pc := 64) (i := 34) (k := 0) (n := 6) rfl rfl ?_
                  refine kw_iload_n (pc := 66) (i := 35) (k := 5) (n := 1) rfl rfl rfl ?_
                  refine kw_icmp_ge (pc := 67) (i := 36) (tgt := 89) rfl rfl (fun c46 => ?_) (fun c46 => ?_)
                  · replace hF := kf_nl c46 hF
                    refine kw_iload_n (pc := 89) (i := 46) (k := 3) (n := 3) rfl rfl rfl ?_
                    refine kw_bipush (pc := 90) (i := 47) (v := (-9)) rfl rfl ?_
                    refine kw_icmp_eq (pc := 92) (i := 48) (tgt := 105) rfl rfl (fun c47 => ?_) (fun c47 => ?_)
                    · replace hF := kf_p c47 hF
                      refine kw_iconst (pc := 105) (i := 54) (v := 1) rfl rfl ?_
                      refine kw_goto (pc := 106) (i := 55) (tgt := 110) rfl rfl ?_
                      refine kw_istore (pc := 110) (i := 57) (n := 6) (lv' := [(6, .int 1), (5, .int x40), (4, .int x28), (3, .int x29), (0, .ref 0), (1, .int n), (2, .int m)]) rfl (by decide) rfl ?_
                      refine kw_iload (pc := 112) (i := 58) (k := 1) (n := 5) rfl rfl ?_
                      refine kw_iload_n (pc := 114) (i := 59) (k := 6) (n := 2) rfl rfl rfl ?_
                      refine kw_icmp_lt (pc := 115) (i := 60) (tgt := 132) rfl rfl (fun c48 => ?_) (fun c48 => ?_)
                      · replace hF := kf_p c48 hF
                        refine kw_iload_n (pc := 132) (i := 67) (k := 3) (n := 3) rfl rfl rfl ?_
                        refine kw_istore_n (pc := 133) (i := 68) (n := 3) (lv' := [(3, .int x29), (6, .int 1), (5, .int x40), (4, .int x28), (0, .ref 0), (1, .int n), (2, .int m)]) rfl rfl (by decide) rfl ?_
                        refine kw_iinc' (pc := 134) (i := 69) (k := 3) (fun z => [(4, .int z), (3, .int x29), (6, .int 1), (5, .int x40), (0, .ref 0), (1, .int n), (2, .int m)]) rfl rfl (by decide) rfl (fun _ => rfl) (fun z49 e_z49 t_z49 => ?_)
                        replace hF := kf_le e_z49 hF
                        first | (have u_z49 : z49.toInt = x28.toInt + 1 := (by omega); clear t_z49) | skip
                        refine kw_goto (pc := 137) (i := 70) (tgt := 44) rfl rfl ?_
                        refine kw_sub (lv' := [(4, .int z49), (3, .int x29), (0, .ref 0), (1, .int n), (2, .int m)]) [0, 1, 4, 5, 6] rfl ?_
                        exact ih31 z49 x29 (by omega) hF (by omega)
                      · replace hF := kf_nl c48 hF
                        refine kw_iload (pc := 118) (i := 61) (k := 0) (n := 6) rfl rfl ?_
                        refine kw_if_eq (pc := 120) (i := 62) (tgt := 132) rfl rfl (fun c50 => ?_) (fun c50 => ?_)
                        · exfalso; omega
                        · replace hF := kf_n c50 hF
                          refine kw_aload_n (pc := 123) (i := 63) (k := 4) (n := 0) rfl rfl rfl ?_
                          refine kw_iload (pc := 124) (i := 64) (k := 2) (n := 4) rfl rfl ?_
                          refine kw_callV (pc := 126) (i := 65) (Y := mX8_linenOf) (a := 0) (As := [.int x28]) (st := []) kw_hE rfl rfl lvX8_246 arX8_linenOf (c_X8_linenOf_0 l T hT0 hT1 S22 I24 x28 ) (by decide) (Nat.le_of_ble_eq_true rfl) rfl (fun v S52 p51 => ?_)
                          obtain ⟨e55, z54, rfl, ef53⟩ := p51
                          rw [e55]
                          replace hF := kf_le ef53 hF
                          have r_z54 := kw_rng z54
                          show kw_AW l 5 kw_E0 KM mX8_least (p_X8_least_0 T σ n m) 129 [(6, .int 1), (5, .int x40), (4, .int x28), (3, .int x29), (0, .ref 0), (1, .int n), (2, .int m)] [.int z54] S22
                          refine kw_goto (pc := 129) (i := 66) (tgt := 133) rfl rfl ?_
                          refine kw_istore_n (pc := 133) (i := 68) (n := 3) (lv' := [(3, .int z54), (6, .int 1), (5, .int x40), (4, .int x28), (0, .ref 0), (1, .int n), (2, .int m)]) rfl rfl (by decide) rfl ?_
                          refine kw_iinc' (pc := 134) (i := 69) (k := 3) (fun z => [(4, .int z), (3, .int z54), (6, .int 1), (5, .int x40), (0, .ref 0), (1, .int n), (2, .int m)]) rfl rfl (by decide) rfl (fun _ => rfl) (fun z56 e_z56 t_z56 => ?_)
                          replace hF := kf_le e_z56 hF
                          first | (have u_z56 : z56.toInt = x28.toInt + 1 := (by omega); clear t_z56) | skip
                          refine kw_goto (pc := 137) (i := 70) (tgt := 44) rfl rfl ?_
                          refine kw_sub (lv' := [(4, .int z56), (3, .int z54), (0, .ref 0), (1, .int n), (2, .int m)]) [0, 1, 4, 5, 6] rfl ?_
                          exact ih31 z56 z54 (by omega) hF (by omega)
                    · replace hF := kf_n c47 hF
                      refine kw_aload_n (pc := 95) (i := 49) (k := 4) (n := 0) rfl rfl rfl ?_
                      refine kw_iload (pc := 96) (i := 50) (k := 2) (n := 4) rfl rfl ?_
                      refine kw_callV (pc := 98) (i := 51) (Y := mX8_linenOf) (a := 0) (As := [.int x28]) (st := []) kw_hE rfl rfl lvX8_246 arX8_linenOf (c_X8_linenOf_0 l T hT0 hT1 S22 I24 x28 ) (by decide) (Nat.le_of_ble_eq_true rfl) rfl (fun v S58 p57 => ?_)
                      obtain ⟨e61, z60, rfl, ef59⟩ := p57
                      rw [e61]
                      replace hF := kf_le ef59 hF
                      have r_z60 := kw_rng z60
                      show kw_AW l 5 kw_E0 KM mX8_least (p_X8_least_0 T σ n m) 101 [(6, .int x39), (5, .int x40), (4, .int x28), (3, .int x29), (0, .ref 0), (1, .int n), (2, .int m)] [.int z60] S22
                      refine kw_iload_n (pc := 101) (i := 52) (k := 3) (n := 3) rfl rfl rfl ?_
                      refine kw_icmp_ge (pc := 102) (i := 53) (tgt := 109) rfl rfl (fun c62 => ?_) (fun c62 => ?_)
                      · replace hF := kf_nl c62 hF
                        refine kw_iconst (pc := 109) (i := 56) (v := 0) rfl rfl ?_
                        refine kw_istore (pc := 110) (i := 57) (n := 6) (lv' := [(6, .int 0), (5, .int x40), (4, .int x28), (3, .int x29), (0, .ref 0), (1, .int n), (2, .int m)]) rfl (by decide) rfl ?_
                        refine kw_iload (pc := 112) (i := 58) (k := 1) (n := 5) rfl rfl ?_
                        refine kw_iload_n (pc := 114) (i := 59) (k := 6) (n := 2) rfl rfl rfl ?_
                        refine kw_icmp_lt (pc := 115) (i := 60) (tgt := 132) rfl rfl (fun c63 => ?_) (fun c63 => ?_)
                        · replace hF := kf_p c63 hF
                          refine kw_iload_n (pc := 132) (i := 67) (k := 3) (n := 3) rfl rfl rfl ?_
                          refine kw_istore_n (pc := 133) (i := 68) (n := 3) (lv' := [(3, .int x29), (6, .int 0), (5, .int x40), (4, .int x28), (0, .ref 0), (1, .int n), (2, .int m)]) rfl rfl (by decide) rfl ?_
                          refine kw_iinc' (pc := 134) (i := 69) (k := 3) (fun z => [(4, .int z), (3, .int x29), (6, .int 0), (5, .int x40), (0, .ref 0), (1, .int n), (2, .int m)]) rfl rfl (by decide) rfl (fun _ => rfl) (fun z64 e_z64 t_z64 => ?_)
                          replace hF := kf_le e_z64 hF
                          first | (have u_z64 : z64.toInt = x28.toInt + 1 := (by omega); clear t_z64) | skip
                          refine kw_goto (pc := 137) (i := 70) (tgt := 44) rfl rfl ?_
                          refine kw_sub (lv' := [(4, .int z64), (3, .int x29), (0, .ref 0), (1, .int n), (2, .int m)]) [0, 1, 4, 5, 6] rfl ?_
                          exact ih31 z64 x29 (by omega) hF (by omega)
                        · replace hF := kf_nl c63 hF
                          refine kw_iload (pc := 118) (i := 61) (k := 0) (n := 6) rfl rfl ?_
                          refine kw_if_eq (pc := 120) (i := 62) (tgt := 132) rfl rfl (fun c65 => ?_) (fun c65 => ?_)
                          · replace hF := kf_p c65 hF
                            refine kw_iload_n (pc := 132) (i := 67) (k := 3) (n := 3) rfl rfl rfl ?_
                            refine kw_istore_n (pc := 133) (i := 68) (n := 3) (lv' := [(3, .int x29), (6, .int 0), (5, .int x40), (4, .int x28), (0, .ref 0), (1, .int n), (2, .int m)]) rfl rfl (by decide) rfl ?_
                            refine kw_iinc' (pc := 134) (i := 69) (k := 3) (fun z => [(4, .int z), (3, .int x29), (6, .int 0), (5, .int x40), (0, .ref 0), (1, .int n), (2, .int m)]) rfl rfl (by decide) rfl (fun _ => rfl) (fun z66 e_z66 t_z66 => ?_)
                            replace hF := kf_le e_z66 hF
                            first | (have u_z66 : z66.toInt = x28.toInt + 1 := (by omega); clear t_z66) | skip
                            refine kw_goto (pc := 137) (i := 70) (tgt := 44) rfl rfl ?_
                            refine kw_sub (lv' := [(4, .int z66), (3, .int x29), (0, .ref 0), (1, .int n), (2, .int m)]) [0, 1, 4, 5, 6] rfl ?_
                            exact ih31 z66 x29 (by omega) hF (by omega)
                          · exfalso; omega
                      · replace hF := kf_p c62 hF
                        refine kw_iconst (pc := 105) (i := 54) (v := 1) rfl rfl ?_
                        refine kw_goto (pc := 106) (i := 55) (tgt := 110) rfl rfl ?_
                        refine kw_istore (pc := 110) (i := 57) (n := 6) (lv' := [(6, .int 1), (5, .int x40), (4, .int x28), (3, .int x29), (0, .ref 0), (1, .int n), (2, .int m)]) rfl (by decide) rfl ?_
                        refine kw_iload (pc := 112) (i := 58) (k := 1) (n := 5) rfl rfl ?_
                        refine kw_iload_n (pc := 114) (i := 59) (k := 6) (n := 2) rfl rfl rfl ?_
                        refine kw_icmp_lt (pc := 115) (i := 60) (tgt := 132) rfl rfl (fun c67 => ?_) (fun c67 => ?_)
                        · replace hF := kf_p c67 hF
                          refine kw_iload_n (pc := 132) (i := 67) (k := 3) (n := 3) rfl rfl rfl ?_
                          refine kw_istore_n (pc := 133) (i := 68) (n := 3) (lv' := [(3, .int x29), (6, .int 1), (5, .int x40), (4, .int x28), (0, .ref 0), (1, .int n), (2, .int m)]) rfl rfl (by decide) rfl ?_
                          refine kw_iinc' (pc := 134) (i := 69) (k := 3) (fun z => [(4, .int z), (3, .int x29), (6, .int 1), (5, .int x40), (0, .ref 0), (1, .int n), (2, .int m)]) rfl rfl (by decide) rfl (fun _ => rfl) (fun z68 e_z68 t_z68 => ?_)
                          replace hF := kf_le e_z68 hF
                          first | (have u_z68 : z68.toInt = x28.toInt + 1 := (by omega); clear t_z68) | skip
                          refine kw_goto (pc := 137) (i := 70) (tgt := 44) rfl rfl ?_
                          refine kw_sub (lv' := [(4, .int z68), (3, .int x29), (0, .ref 0), (1, .int n), (2, .int m)]) [0, 1, 4, 5, 6] rfl ?_
                          exact ih31 z68 x29 (by omega) hF (by omega)
                        · replace hF := kf_nl c67 hF
                          refine kw_iload (pc := 118) (i := 61) (k := 0) (n := 6) rfl rfl ?_
                          refine kw_if_eq (pc := 120) (i := 62) (tgt := 132) rfl rfl (fun c69 => ?_) (fun c69 => ?_)
                          · exfalso; omega
                          · replace hF := kf_n c69 hF
                            refine kw_aload_n (pc := 123) (i := 63) (k := 4) (n := 0) rfl rfl rfl ?_
                            refine kw_iload (pc := 124) (i := 64) (k := 2) (n := 4) rfl rfl ?_
                            refine kw_callV (pc := 126) (i := 65) (Y := mX8_linenOf) (a := 0) (As := [.int x28]) (st := []) kw_hE rfl rfl lvX8_246 arX8_linenOf (c_X8_linenOf_0 l T hT0 hT1 S22 I24 x28 ) (by decide) (Nat.le_of_ble_eq_true rfl) rfl (fun v S71 p70 => ?_)
                            obtain ⟨e74, z73, rfl, ef72⟩ := p70
                            rw [e74]
                            replace hF := kf_le ef72 hF
                            have r_z73 := kw_rng z73
                            show kw_AW l 5 kw_E0 KM mX8_least (p_X8_least_0 T σ n m) 129 [(6, .int 1), (5, .int x40), (4, .int x28), (3, .int x29), (0, .ref 0), (1, .int n), (2, .int m)] [.int z73] S22
                            refine kw_goto (pc := 129) (i := 66) (tgt := 133) rfl rfl ?_
                            refine kw_istore_n (pc := 133) (i := 68) (n := 3) (lv' := [(3, .int z73), (6, .int 1), (5, .int x40), (4, .int x28), (0, .ref 0), (1, .int n), (2, .int m)]) rfl rfl (by decide) rfl ?_
                            refine kw_iinc' (pc := 134) (i := 69) (k := 3) (fun z => [(4, .int z), (3, .int z73), (6, .int 1), (5, .int x40), (0, .ref 0), (1, .int n), (2, .int m)]) rfl rfl (by decide) rfl (fun _ => rfl) (fun z75 e_z75 t_z75 => ?_)
                            replace hF := kf_le e_z75 hF
                            first | (have u_z75 : z75.toInt = x28.toInt + 1 := (by omega); clear t_z75) | skip
                            refine kw_goto (pc := 137) (i := 70) (tgt := 44) rfl rfl ?_
                            refine kw_sub (lv' := [(4, .int z75), (3, .int z73), (0, .ref 0), (1, .int n), (2, .int m)]) [0, 1, 4, 5, 6] rfl ?_
                            exact ih31 z75 z73 (by omega) hF (by omega)
                  · replace hF := kf_p c46 hF
                    refine kw_iload (pc := 70) (i := 37) (k := 1) (n := 5) rfl rfl ?_
                    refine kw_aload_n (pc := 72) (i := 38) (k := 4) (n := 0) rfl rfl rfl ?_
                    refine kw_iload (pc := 73) (i := 39) (k := 0) (n := 6) rfl rfl ?_
                    refine kw_iload (pc := 75) (i := 40) (k := 2) (n := 4) rfl rfl ?_
                    refine kw_callV (pc := 77) (i := 41) (Y := mX8_mostOf) (a := 0) (As := [.int x39, .int x28]) (st := [.int x40]) kw_hE rfl rfl lvX8_268 arX8_mostOf (c_X8_mostOf_0 l T hT0 hT1 S22 I24 x39 x28 (by first | omega | decide) (by first | omega | decide) (by first | omega | decide) (by first | omega | decide)) (by decide) (Nat.le_of_ble_eq_true rfl) rfl (fun v S77 p76 => ?_)
                    obtain ⟨e80, z79, rfl, ef78⟩ := p76
                    rw [e80]
                    replace hF := kf_le ef78 hF
                    have r_z79 := kw_rng z79
                    show kw_AW l 5 kw_E0 KM mX8_least (p_X8_least_0 T σ n m) 80 [(6, .int x39), (5, .int x40), (4, .int x28), (3, .int x29), (0, .ref 0), (1, .int n), (2, .int m)] [.int z79, .int x40] S22
                    refine kw_iadd (pc := 80) (i := 42) rfl (fun z81 e_z81 t_z81 => ?_)
                    replace hF := kf_le e_z81 hF
                    first | (have u_z81 : z81.toInt = x40.toInt + z79.toInt := (by omega); clear t_z81) | skip
                    refine kw_istore (pc := 81) (i := 43) (n := 5) (lv' := [(5, .int z81), (6, .int x39), (4, .int x28), (3, .int x29), (0, .ref 0), (1, .int n), (2, .int m)]) rfl (by decide) rfl ?_
                    refine kw_iinc' (pc := 83) (i := 44) (k := 1) (fun z => [(6, .int z), (5, .int z81), (4, .int x28), (3, .int x29), (0, .ref 0), (1, .int n), (2, .int m)]) rfl rfl (by decide) rfl (fun _ => rfl) (fun z82 e_z82 t_z82 => ?_)
                    replace hF := kf_le e_z82 hF
                    first | (have u_z82 : z82.toInt = x39.toInt + 1 := (by omega); clear t_z82) | skip
                    refine kw_goto (pc := 86) (i := 45) (tgt := 64) rfl rfl ?_
                    refine kw_sub (lv' := [(6, .int z82), (5, .int z81), (4, .int x28), (3, .int x29), (0, .ref 0), (1, .int n), (2, .int m)]) [0, 1, 2, 3, 4, 5, 6] rfl ?_
                    exact ih42 z82 z81 (by omega) hF (by omega)
              exact L41 _ 0 (S22.1 0 23) (by omega) hF (Nat.lt_succ_self _)
        exact L30 _ 0 (-9) (by omega) hF (Nat.lt_succ_self _)
      · replace hF := kf_p c20 hF
        refine kw_bipush (pc := 31) (i := 15) (v := (-4)) rfl rfl ?_
        exact kw_ireturn (pc := 33) (i := 16) (ty := .int) rfl rfl rfl ⟨⟨hI, hF0⟩, _, rfl, hF⟩
    · replace hF := kf_p c18 hF
      refine kw_iconst (pc := 22) (i := 10) (v := (-1)) rfl rfl ?_
      exact kw_ireturn (pc := 23) (i := 11) (ty := .int) rfl rfl rfl ⟨⟨hI, hF0⟩, _, rfl, hF⟩
noncomputable def l_X8_ways_0_61 (a1 : Int32) (a2 : Int32) (a3 : Int32) (S : kw_S) : Nat → Int32 → Int32 → Int32 → Int32 × kw_S
  | 0, _, _, _ => (0, S)
  | n + 1, x4, x5, x6 => kf_l ((1 : Int32) <<< ((S.1 0 10) &&& 31)) fun z6 => if x6.toInt < z6.toInt then (kf_l (f_X8_milesBy_0 S x6 a3) fun z14 => if z14.toInt = a1.toInt then (kf_l (f_X8_turnBy_0 S x6 a3) fun z16 => if z16.toInt = a2.toInt then (kf_l (x4 + Int32.ofInt 1) fun z18 => kf_l (x5 &&& x6) fun z19 => kf_l (x6 + Int32.ofInt 1) fun z20 => l_X8_ways_0_61 a1 a2 a3 S n z18 z19 z20) else (kf_l (x6 + Int32.ofInt 1) fun z17 => l_X8_ways_0_61 a1 a2 a3 S n x4 x5 z17)) else (kf_l (x6 + Int32.ofInt 1) fun z15 => l_X8_ways_0_61 a1 a2 a3 S n x4 x5 z15)) else (kf_l x4.toInt64 fun z7 => kf_b (f_X8_part_0 S z7 (1 : Int64)) fun z8 S9 => if x4.toInt = 0 then (kf_b (f_X8_ask_0 S9 (0 : Int32) (1 : Int32)) fun z12 S13 => (z12, S13)) else (kf_b (f_X8_ask_0 S9 x5 (1 : Int32)) fun z10 S11 => (z10, S11)))
theorem l_X8_ways_0_61_s (a1 : Int32) (a2 : Int32) (a3 : Int32) (S : kw_S) (n : Nat) (x4 : Int32) (x5 : Int32) (x6 : Int32) : l_X8_ways_0_61 a1 a2 a3 S (n + 1) x4 x5 x6 = kf_l ((1 : Int32) <<< ((S.1 0 10) &&& 31)) fun z6 => if x6.toInt < z6.toInt then (kf_l (f_X8_milesBy_0 S x6 a3) fun z14 => if z14.toInt = a1.toInt then (kf_l (f_X8_turnBy_0 S x6 a3) fun z16 => if z16.toInt = a2.toInt then (kf_l (x4 + Int32.ofInt 1) fun z18 => kf_l (x5 &&& x6) fun z19 => kf_l (x6 + Int32.ofInt 1) fun z20 => l_X8_ways_0_61 a1 a2 a3 S n z18 z19 z20) else (kf_l (x6 + Int32.ofInt 1) fun z17 => l_X8_ways_0_61 a1 a2 a3 S n x4 x5 z17)) else (kf_l (x6 + Int32.ofInt 1) fun z15 => l_X8_ways_0_61 a1 a2 a3 S n x4 x5 z15)) else (kf_l x4.toInt64 fun z7 => kf_b (f_X8_part_0 S z7 (1 : Int64)) fun z8 S9 => if x4.toInt = 0 then (kf_b (f_X8_ask_0 S9 (0 : Int32) (1 : Int32)) fun z12 S13 => (z12, S13)) else (kf_b (f_X8_ask_0 S9 x5 (1 : Int32)) fun z10 S11 => (z10, S11))) := rfl
noncomputable def f_X8_ways_0 (σ : kw_S) (m : Int32) (t : Int32) : Int32 × kw_S := kf_l (f_X8_in σ m ((-99) : Int32) (99 : Int32)) fun z1 => if z1.toInt = 0 then ((((-1) : Int32), σ)) else (kf_l (f_X8_in σ t ((-999) : Int32) (999 : Int32)) fun z2 => if z2.toInt = 0 then ((((-1) : Int32), σ)) else (if (σ.1 0 10).toInt = 0 then ((((-4) : Int32), σ)) else (kf_l (f_X8_windAt_0 σ (σ.1 0 22)) fun z3 => kf_l ((1 : Int32) <<< ((σ.1 0 10) &&& 31)) fun z4 => kf_l (z4 - (1 : Int32)) fun z5 => l_X8_ways_0_61 m t z3 σ ((65 - (0 : Int32).toInt).toNat + 1) (0 : Int32) z5 (0 : Int32))))
theorem f_X8_ways_0_u (σ : kw_S) (m : Int32) (t : Int32) : f_X8_ways_0 σ m t = kf_l (f_X8_in σ m ((-99) : Int32) (99 : Int32)) fun z1 => if z1.toInt = 0 then ((((-1) : Int32), σ)) else (kf_l (f_X8_in σ t ((-999) : Int32) (999 : Int32)) fun z2 => if z2.toInt = 0 then ((((-1) : Int32), σ)) else (if (σ.1 0 10).toInt = 0 then ((((-4) : Int32), σ)) else (kf_l (f_X8_windAt_0 σ (σ.1 0 22)) fun z3 => kf_l ((1 : Int32) <<< ((σ.1 0 10) &&& 31)) fun z4 => kf_l (z4 - (1 : Int32)) fun z5 => l_X8_ways_0_61 m t z3 σ ((65 - (0 : Int32).toInt).toNat + 1) (0 : Int32) z5 (0 : Int32)))) := rfl
abbrev p_X8_ways_0 (T : Int) (σ : kw_S) (m : Int32) (t : Int32) : Option Value → kw_S → Prop := fun vv σ' => (kw_I (bM T) σ' ∧ kw_FM [1002, 2003, 2004] σ σ') ∧ ∃ r : Int32, vv = some (.int r) ∧ ((m.toInt < -99 ∨ 99 < m.toInt ∨ t.toInt < -999 ∨ 999 < t.toInt) ∧ r.toInt = -1 ∨ -99 ≤ m.toInt ∧ m.toInt ≤ 99 ∧ -999 ≤ t.toInt ∧ t.toInt ≤ 999 ∧ (σ.1 0 10).toInt = 0 ∧ r.toInt = -4 ∨ -99 ≤ m.toInt ∧ m.toInt ≤ 99 ∧ -999 ≤ t.toInt ∧ t.toInt ≤ 999 ∧ (σ.1 0 10).toInt ≠ 0 ∧ r.toInt = 1) ∧ (r, σ') = f_X8_ways_0 σ m t
set_option maxRecDepth 100000 in
set_option maxHeartbeats 4000000 in
theorem c_X8_ways_0 (l : Launch) (T : Int) (hT0 : 0 ≤ T) (hT1 : T ≤ 3000) (σ : kw_S) (hI : kw_I (bM T) σ) (m : Int32) (t : Int32) : kw_Met l 4 KM mX8_ways [.ref 0, .int m, .int t] σ (p_X8_ways_0 T σ m t) := by
  have r_m := kw_rng m
  have r_t := kw_rng t
  have hF0 : kw_FM [1002, 2003, 2004] σ σ := kw_FM.rf
  have hF := (f_X8_ways_0_u σ m t).symm
  have q_m999 : (-999 : Int32).toInt = -999 := rfl
  have q_m99 : (-99 : Int32).toInt = -99 := rfl
  have q_m4 : (-4 : Int32).toInt = -4 := rfl
  have q_m1 : (-1 : Int32).toInt = -1 := rfl
  have q_0 : (0 : Int32).toInt = 0 := rfl
  have q_1 : (1 : Int32).toInt = 1 := rfl
  have q_99 : (99 : Int32).toInt = 99 := rfl
  have q_999 : (999 : Int32).toInt = 999 := rfl
  refine kw_Met.of (by decide) rfl tX8_ways (Nat.le_of_ble_eq_true rfl) ?_
  show kw_AW l 4 kw_E0 KM mX8_ways (p_X8_ways_0 T σ m t) 0 [(0, .ref 0), (1, .int m), (2, .int t)] [] σ
  refine kw_iload_n (pc := 0) (i := 0) (k := 1) (n := 1) rfl rfl rfl ?_
  refine kw_bipush (pc := 1) (i := 1) (v := (-99)) rfl rfl ?_
  refine kw_bipush (pc := 3) (i := 2) (v := 99) rfl rfl ?_
  refine kw_callS (pc := 5) (i := 3) (Y := mX8_in) (As := [.int m, .int (-99), .int 99]) (st := []) kw_hE rfl lsX8_93 arX8_in (c_X8_in l T hT0 hT1 σ hI m (-99) 99 ) (by decide) (Nat.le_of_ble_eq_true rfl) rfl (fun v S2 p1 => ?_)
  obtain ⟨e8, z7, rfl, f3, f4, f5, ef6⟩ := p1
  rw [e8]
  replace hF := kf_le ef6 hF
  have r_z7 := kw_rng z7
  show kw_AW l 4 kw_E0 KM mX8_ways (p_X8_ways_0 T σ m t) 8 [(0, .ref 0), (1, .int m), (2, .int t)] [.int z7] σ
  refine kw_if_eq (pc := 8) (i := 4) (tgt := 24) rfl rfl (fun c9 => ?_) (fun c9 => ?_)
  · replace hF := kf_p c9 hF
    refine kw_iconst (pc := 24) (i := 10) (v := (-1)) rfl rfl ?_
    exact kw_ireturn (pc := 25) (i := 11) (ty := .int) rfl rfl rfl ⟨⟨hI, hF0⟩, _, rfl, by omega, hF⟩
  · replace hF := kf_n c9 hF
    refine kw_iload_n (pc := 11) (i := 5) (k := 2) (n := 2) rfl rfl rfl ?_
    refine kw_sipush (pc := 12) (i := 6) (v := (-999)) rfl rfl ?_
    refine kw_sipush (pc := 15) (i := 7) (v := 999) rfl rfl ?_
    refine kw_callS (pc := 18) (i := 8) (Y := mX8_in) (As := [.int t, .int (-999), .int 999]) (st := []) kw_hE rfl lsX8_93 arX8_in (c_X8_in l T hT0 hT1 σ hI t (-999) 999 ) (by decide) (Nat.le_of_ble_eq_true rfl) rfl (fun v S11 p10 => ?_)
    obtain ⟨e17, z16, rfl, f12, f13, f14, ef15⟩ := p10
    rw [e17]
    replace hF := kf_le ef15 hF
    have r_z16 := kw_rng z16
    show kw_AW l 4 kw_E0 KM mX8_ways (p_X8_ways_0 T σ m t) 21 [(0, .ref 0), (1, .int m), (2, .int t)] [.int z16] σ
    refine kw_if_ne (pc := 21) (i := 9) (tgt := 26) rfl rfl (fun c18 => ?_) (fun c18 => ?_)
    · replace hF := kf_n c18 hF
      refine kw_aload_n (pc := 26) (i := 12) (k := 0) (n := 0) rfl rfl rfl ?_
      refine kw_get (pc := 27) (i := 13) (v := .int (σ.1 0 10)) rfl rfl rfl lkX8_163 (fun _ => rfl) ?_
      have b19 : 0 ≤ (σ.1 0 10).toInt ∧ (σ.1 0 10).toInt ≤ 6 := hI 0 10
      refine kw_if_ne (pc := 30) (i := 14) (tgt := 36) rfl rfl (fun c20 => ?_) (fun c20 => ?_)
      · replace hF := kf_n c20 hF
        refine kw_aload_n (pc := 36) (i := 17) (k := 0) (n := 0) rfl rfl rfl ?_
        refine kw_aload_n (pc := 37) (i := 18) (k := 0) (n := 0) rfl rfl rfl ?_
        refine kw_get (pc := 38) (i := 19) (v := .int (σ.1 0 22)) rfl rfl rfl lkX8_166 (fun _ => rfl) ?_
        have b21 : 0 ≤ (σ.1 0 22).toInt ∧ (σ.1 0 22).toInt ≤ T := hI 0 22
        refine kw_callV (pc := 41) (i := 20) (Y := mX8_windAt) (a := 0) (As := [.int (σ.1 0 22)]) (st := []) kw_hE rfl rfl lvX8_196 arX8_windAt (c_X8_windAt_0 l T hT0 hT1 σ hI (σ.1 0 22) (by first | omega | decide)) (by decide) (Nat.le_of_ble_eq_true rfl) rfl (fun v S23 p22 => ?_)
        obtain ⟨e26, z25, rfl, ef24⟩ := p22
        rw [e26]
        replace hF := kf_le ef24 hF
        have r_z25 := kw_rng z25
        show kw_AW l 4 kw_E0 KM mX8_ways (p_X8_ways_0 T σ m t) 44 [(0, .ref 0), (1, .int m), (2, .int t)] [.int z25] σ
        refine kw_istore_n (pc := 44) (i := 21) (n := 3) (lv' := [(3, .int z25), (0, .ref 0), (1, .int m), (2, .int t)]) rfl rfl (by decide) rfl ?_
        refine kw_iconst (pc := 45) (i := 22) (v := 0) rfl rfl ?_
        refine kw_istore (pc := 46) (i := 23) (n := 4) (lv' := [(4, .int 0), (3, .int z25), (0, .ref 0), (1, .int m), (2, .int t)]) rfl (by decide) rfl ?_
        refine kw_iconst (pc := 48) (i := 24) (v := 1) rfl rfl ?_
        refine kw_aload_n (pc := 49) (i := 25) (k := 2) (n := 0) rfl rfl rfl ?_
        refine kw_get (pc := 50) (i := 26) (v := .int (σ.1 0 10)) rfl rfl rfl lkX8_163 (fun _ => rfl) ?_
        refine kw_ishl (pc := 53) (i := 27) rfl (fun z27 e_z27 => ?_)
        have r_z27 := kw_rng z27
        replace hF := kf_le e_z27 hF
        have t_z27 := kw_shlm (σ.1 0 10) z27 e_z27
        first | (replace t_z27 := And.intro (t_z27.1 (by omega) (by omega)) (t_z27.2 (by omega) (by omega))) | (replace t_z27 := t_z27.1 (by omega) (by omega)) | skip
        have u_z27 := congrArg Int32.toInt e_z27
        refine kw_iconst (pc := 54) (i := 28) (v := 1) rfl rfl ?_
        refine kw_isub (pc := 55) (i := 29) rfl (fun z28 e_z28 t_z28 => ?_)
        replace hF := kf_le e_z28 hF
        first | (have u_z28 : z28.toInt = z27.toInt - 1 := (by omega); clear t_z28) | skip
        refine kw_istore (pc := 56) (i := 30) (n := 5) (lv' := [(5, .int z28), (4, .int 0), (3, .int z25), (0, .ref 0), (1, .int m), (2, .int t)]) rfl (by decide) rfl ?_
        refine kw_iconst (pc := 58) (i := 31) (v := 0) rfl rfl ?_
        refine kw_istore (pc := 59) (i := 32) (n := 6) (lv' := [(6, .int 0), (5, .int z28), (4, .int 0), (3, .int z25), (0, .ref 0), (1, .int m), (2, .int t)]) rfl (by decide) rfl ?_
        have L32 : ∀ (n36 : Nat) (x29 : Int32) (x30 : Int32) (x31 : Int32), 0 ≤ x29.toInt → l_X8_ways_0_61 m t z25 σ n36 x31 x30 x29 = (f_X8_ways_0 σ m t) → (65 - x29.toInt).toNat < n36 → kw_AW l 4 kw_E0 KM mX8_ways (p_X8_ways_0 T σ m t) 61 [(6, .int x29), (5, .int x30), (4, .int x31), (3, .int z25), (0, .ref 0), (1, .int m), (2, .int t)] [] σ := by
          intro n36
          induction n36 with
          | zero => intro x29 x30 x31 v34 hF m35; exact absurd m35 (Nat.not_lt_zero _)
          | succ n36 ih33 =>
            intro x29 x30 x31 v34 hF m35
            replace hF := kf_st (l_X8_ways_0_61_s _ _ _ _ _ _ _ _) hF
            have r_x29 := kw_rng x29
            have r_x30 := kw_rng x30
            have r_x31 := kw_rng x31
            refine kw_iload (pc := 61) (i := 33) (k := 0) (n := 6) rfl rfl ?_
            refine kw_iconst (pc := 63) (i := 34) (v := 1) rfl rfl ?_
            refine kw_aload_n (pc := 64) (i := 35) (k := 4) (n := 0) rfl rfl rfl ?_
            refine kw_get (pc := 65) (i := 36) (v := .int (σ.1 0 10)) rfl rfl rfl lkX8_163 (fun _ => rfl) ?_
            refine kw_ishl (pc := 68) (i := 37) rfl (fun z37 e_z37 => ?_)
            have r_z37 := kw_rng z37
            replace hF := kf_le e_z37 hF
            have t_z37 := kw_shlm (σ.1 0 10) z37 e_z37
            first | (replace t_z37 := And.intro (t_z37.1 (by omega) (by omega)) (t_z37.2 (by omega) (by omega))) | (replace t_z37 := t_z37.1 (by omega) (by omega)) | skip
            have u_z37 := congrArg Int32.toInt e_z37
            refine kw_icmp_ge (pc := 69) (i := 38) (tgt := 110) rfl rfl (fun c38 => ?_) (fun c38 => ?_)
            · replace hF := kf_nl c38 hF
              refine kw_aload_n (pc := 110) (i := 58) (k := 4) (n := 0) rfl rfl rfl ?_
              refine kw_iload (pc := 111) (i := 59) (k := 2) (n := 4) rfl rfl ?_
              refine kw_i2l (pc := 113) (i := 60) rfl (fun z39 e_z39 t_z39 => ?_)
              replace hF := kf_le e_z39 hF
              refine kw_lconst (pc := 114) (i := 61) (v := 1) rfl rfl ?_
              refine kw_callV (pc := 115) (i := 62) (Y := mX8_part) (a := 0) (As := [.long z39, .long 1]) (st := []) kw_hE rfl rfl lvX8_223 arX8_part (c_X8_part_0 l T hT0 hT1 σ hI z39 1 (by first | omega | decide)) (by decide) (Nat.le_of_ble_eq_true rfl) rfl (fun v S41 p40 => ?_)
              obtain ⟨⟨I45, F46⟩, z44, rfl, f42, ef43⟩ := p40
              have F47 : kw_FM [1002, 2003, 2004] σ S41 := kw_FM.tr hF0 F46 (by decide)
              have w_48 : (S41.1 0 27).toInt = (σ.1 0 27).toInt := congrArg Int32.toInt (kw_FM.at0 (j := 27) F46 (by decide))
              replace hF := kf_be ef43 hF
              have r_z44 := kw_rng z44
              show kw_AW l 4 kw_E0 KM mX8_ways (p_X8_ways_0 T σ m t) 118 [(6, .int x29), (5, .int x30), (4, .int x31), (3, .int z25), (0, .ref 0), (1, .int m), (2, .int t)] [.int z44] S41
              refine kw_pop (pc := 118) (i := 63) rfl rfl ?_
              refine kw_aload_n (pc := 119) (i := 64) (k := 4) (n := 0) rfl rfl rfl ?_
              refine kw_iload (pc := 120) (i := 65) (k := 2) (n := 4) rfl rfl ?_
              refine kw_if_ne (pc := 122) (i := 66) (tgt := 129) rfl rfl (fun c49 => ?_) (fun c49 => ?_)
              · replace hF := kf_n c49 hF
                refine kw_iload (pc := 129) (i := 69) (k := 1) (n := 5) rfl rfl ?_
                refine kw_iconst (pc := 131) (i := 70) (v := 1) rfl rfl ?_
                refine kw_callV (pc := 132) (i := 71) (Y := mX8_ask) (a := 0) (As := [.int x30, .int 1]) (st := []) kw_hE rfl rfl lvX8_119 arX8_ask (c_X8_ask_0 l T hT0 hT1 S41 I45 x30 1 ) (by decide) (Nat.le_of_ble_eq_true rfl) rfl (fun v S51 p50 => ?_)
                obtain ⟨⟨I55, F56⟩, z54, rfl, f52, ef53⟩ := p50
                have F57 : kw_FM [1002, 2003, 2004] σ S51 := kw_FM.tr F47 F56 (by decide)
                have w_58 : (S51.1 0 27).toInt = (S41.1 0 27).toInt := congrArg Int32.toInt (kw_FM.at0 (j := 27) F56 (by decide))
                replace hF := kf_be ef53 hF
                have r_z54 := kw_rng z54
                show kw_AW l 4 kw_E0 KM mX8_ways (p_X8_ways_0 T σ m t) 135 [(6, .int x29), (5, .int x30), (4, .int x31), (3, .int z25), (0, .ref 0), (1, .int m), (2, .int t)] [.int z54] S51
                exact kw_ireturn (pc := 135) (i := 72) (ty := .int) rfl rfl rfl ⟨⟨I55, F57⟩, _, rfl, by omega, hF⟩
              · replace hF := kf_p c49 hF
                refine kw_iconst (pc := 125) (i := 67) (v := 0) rfl rfl ?_
                refine kw_goto (pc := 126) (i := 68) (tgt := 131) rfl rfl ?_
                refine kw_iconst (pc := 131) (i := 70) (v := 1) rfl rfl ?_
                refine kw_callV (pc := 132) (i := 71) (Y := mX8_ask) (a := 0) (As := [.int 0, .int 1]) (st := []) kw_hE rfl rfl lvX8_119 arX8_ask (c_X8_ask_0 l T hT0 hT1 S41 I45 0 1 ) (by decide) (Nat.le_of_ble_eq_true rfl) rfl (fun v S60 p59 => ?_)
                obtain ⟨⟨I64, F65⟩, z63, rfl, f61, ef62⟩ := p59
                have F66 : kw_FM [1002, 2003, 2004] σ S60 := kw_FM.tr F47 F65 (by decide)
                have w_67 : (S60.1 0 27).toInt = (S41.1 0 27).toInt := congrArg Int32.toInt (kw_FM.at0 (j := 27) F65 (by decide))
                replace hF := kf_be ef62 hF
                have r_z63 := kw_rng z63
                show kw_AW l 4 kw_E0 KM mX8_ways (p_X8_ways_0 T σ m t) 135 [(6, .int x29), (5, .int x30), (4, .int x31), (3, .int z25), (0, .ref 0), (1, .int m), (2, .int t)] [.int z63] S60
                exact kw_ireturn (pc := 135) (i := 72) (ty := .int) rfl rfl rfl ⟨⟨I64, F66⟩, _, rfl, by omega, hF⟩
            · replace hF := kf_p c38 hF
              refine kw_aload_n (pc := 72) (i := 39) (k := 4) (n := 0) rfl rfl rfl ?_
              refine kw_iload (pc := 73) (i := 40) (k := 0) (n := 6) rfl rfl ?_
              refine kw_iload_n (pc := 75) (i := 41) (k := 3) (n := 3) rfl rfl rfl ?_
              refine kw_callV (pc := 76) (i := 42) (Y := mX8_milesBy) (a := 0) (As := [.int x29, .int z25]) (st := []) kw_hE rfl rfl lvX8_199 arX8_milesBy (c_X8_milesBy_0 l T hT0 hT1 σ hI x29 z25 ) (by decide) (Nat.le_of_ble_eq_true rfl) rfl (fun v S69 p68 => ?_)
              obtain ⟨e72, z71, rfl, ef70⟩ := p68
              rw [e72]
              replace hF := kf_le ef70 hF
              have r_z71 := kw_rng z71
              show kw_AW l 4 kw_E0 KM mX8_ways (p_X8_ways_0 T σ m t) 79 [(6, .int x29), (5, .int x30), (4, .int x31), (3, .int z25), (0, .ref 0), (1, .int m), (2, .int t)] [.int z71] σ
              refine kw_iload_n (pc := 79) (i := 43) (k := 5) (n := 1) rfl rfl rfl ?_
              refine kw_icmp_ne (pc := 80) (i := 44) (tgt := 104) rfl rfl (fun c73 => ?_) (fun c73 => ?_)
              · replace hF := kf_n c73 hF
                refine kw_iinc' (pc := 104) (i := 56) (k := 0) (fun z => [(6, .int z), (5, .int x30), (4, .int x31), (3, .int z25), (0, .ref 0), (1, .int m), (2, .int t)]) rfl rfl (by decide) rfl (fun _ => rfl) (fun z74 e_z74 t_z74 => ?_)
                replace hF := kf_le e_z74 hF
                first | (have u_z74 : z74.toInt = x29.toInt + 1 := (by omega); clear t_z74) | skip
                refine kw_goto (pc := 107) (i := 57) (tgt := 61) rfl rfl ?_
                refine kw_sub (lv' := [(6, .int z74), (5, .int x30), (4, .int x31), (3, .int z25), (0, .ref 0), (1, .int m), (2, .int t)]) [0, 1, 2, 3, 4, 5, 6] rfl ?_
                exact ih33 z74 x30 x31 (by omega) hF (by omega)
              · replace hF := kf_p c73 hF
                refine kw_aload_n (pc := 83) (i := 45) (k := 4) (n := 0) rfl rfl rfl ?_
                refine kw_iload (pc := 84) (i := 46) (k := 0) (n := 6) rfl rfl ?_
                refine kw_iload_n (pc := 86) (i := 47) (k := 3) (n := 3) rfl rfl rfl ?_
                refine kw_callV (pc := 87) (i := 48) (Y := mX8_turnBy) (a := 0) (As := [.int x29, .int z25]) (st := []) kw_hE rfl rfl lvX8_202 arX8_turnBy (c_X8_turnBy_0 l T hT0 hT1 σ hI x29 z25 ) (by decide) (Nat.le_of_ble_eq_true rfl) rfl (fun v S76 p75 => ?_)
                obtain ⟨e79, z78, rfl, ef77⟩ := p75
                rw [e79]
                replace hF := kf_le ef77 hF
                have r_z78 := kw_rng z78
                show kw_AW l 4 kw_E0 KM mX8_ways (p_X8_ways_0 T σ m t) 90 [(6, .int x29), (5, .int x30), (4, .int x31), (3, .int z25), (0, .ref 0), (1, .int m), (2, .int t)] [.int z78] σ
                refine kw_iload_n (pc := 90) (i := 49) (k := 6) (n := 2) rfl rfl rfl ?_
                refine kw_icmp_ne (pc := 91) (i := 50) (tgt := 104) rfl rfl (fun c80 => ?_) (fun c80 => ?_)
                · replace hF := kf_n c80 hF
                  refine kw_iinc' (pc := 104) (i := 56) (k := 0) (fun z => [(6, .int z), (5, .int x30), (4, .int x31), (3, .int z25), (0, .ref 0), (1, .int m), (2, .int t)]) rfl rfl (by decide) rfl (fun _ => rfl) (fun z81 e_z81 t_z81 => ?_)
                  replace hF := kf_le e_z81 hF
                  first | (have u_z81 : z81.toInt = x29.toInt + 1 := (by omega); clear t_z81) | skip
                  refine kw_goto (pc := 107) (i := 57) (tgt := 61) rfl rfl ?_
                  refine kw_sub (lv' := [(6, .int z81), (5, .int x30), (4, .int x31), (3, .int z25), (0, .ref 0), (1, .int m), (2, .int t)]) [0, 1, 2, 3, 4, 5, 6] rfl ?_
                  exact ih33 z81 x30 x31 (by omega) hF (by omega)
                · replace hF := kf_p c80 hF
                  refine kw_iinc' (pc := 94) (i := 51) (k := 2) (fun z => [(4, .int z), (6, .int x29), (5, .int x30), (3, .int z25), (0, .ref 0), (1, .int m), (2, .int t)]) rfl rfl (by decide) rfl (fun _ => rfl) (fun z82 e_z82 t_z82 => ?_)
                  replace hF := kf_le e_z82 hF
                  first | (have u_z82 : z82.toInt = x31.toInt + 1 := (by omega); clear t_z82) | skip
                  refine kw_iload (pc := 97) (i := 52) (k := 2) (n := 5) rfl rfl ?_
                  refine kw_iload (pc := 99) (i := 53) (k := 1) (n := 6) rfl rfl ?_
                  refine kw_iand (pc := 101) (i := 54) rfl (fun z83 e_z83 => ?_)
                  have r_z83 := kw_rng z83
                  replace hF := kf_le e_z83 hF
                  have t_z83 := kw_andI x30 x29 z83 e_z83
                  first | (replace t_z83 := t_z83 (by omega) (by omega)) | skip
                  refine kw_istore (pc := 102) (i := 55) (n := 5) (lv' := [(5, .int z83), (4, .int z82), (6, .int x29), (3, .int z25), (0, .ref 0), (1, .int m), (2, .int t)]) rfl (by decide) rfl ?_
                  refine kw_iinc' (pc := 104) (i := 56) (k := 2) (fun z => [(6, .int z), (5, .int z83), (4, .int z82), (3, .int z25), (0, .ref 0), (1, .int m), (2, .int t)]) rfl rfl (by decide) rfl (fun _ => rfl) (fun z84 e_z84 t_z84 => ?_)
                  replace hF := kf_le e_z84 hF
                  first | (have u_z84 : z84.toInt = x29.toInt + 1 := (by omega); clear t_z84) | skip
                  refine kw_goto (pc := 107) (i := 57) (tgt := 61) rfl rfl ?_
                  refine kw_sub (lv' := [(6, .int z84), (5, .int z83), (4, .int z82), (3, .int z25), (0, .ref 0), (1, .int m), (2, .int t)]) [0, 1, 2, 3, 4, 5, 6] rfl ?_
                  exact ih33 z84 z83 z82 (by omega) hF (by omega)
        exact L32 _ 0 z28 0 (by omega) hF (Nat.lt_succ_self _)
      · replace hF := kf_p c20 hF
        refine kw_bipush (pc := 33) (i := 15) (v := (-4)) rfl rfl ?_
        exact kw_ireturn (pc := 35) (i := 16) (ty := .int) rfl rfl rfl ⟨⟨hI, hF0⟩, _, rfl, by omega, hF⟩
    · replace hF := kf_p c18 hF
      refine kw_iconst (pc := 24) (i := 10) (v := (-1)) rfl rfl ?_
      exact kw_ireturn (pc := 25) (i := 11) (ty := .int) rfl rfl rfl ⟨⟨hI, hF0⟩, _, rfl, by omega, hF⟩
end
