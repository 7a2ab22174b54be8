noncomputable def l_X8_write_0_15_36 (a2 : Int32) : Nat → Int32 → kw_S → kw_S
  | 0, _, S => S
  | n + 1, x3, S => if x3.toInt < (6 : Int32).toInt then (kf_l (a2 + (4 : Int32)) fun z4 => kf_l (z4 + x3) fun z5 => kf_l (S.1 14 x3.toNatClampNeg) fun z6 => kf_l (x3 + Int32.ofInt 1) fun z7 => l_X8_write_0_15_36 a2 n z7 (kw_ui S 15 z5.toNatClampNeg z6)) else (S)
theorem l_X8_write_0_15_36_s (a2 : Int32) (n : Nat) (x3 : Int32) (S : kw_S) : l_X8_write_0_15_36 a2 (n + 1) x3 S = if x3.toInt < (6 : Int32).toInt then (kf_l (a2 + (4 : Int32)) fun z4 => kf_l (z4 + x3) fun z5 => kf_l (S.1 14 x3.toNatClampNeg) fun z6 => kf_l (x3 + Int32.ofInt 1) fun z7 => l_X8_write_0_15_36 a2 n z7 (kw_ui S 15 z5.toNatClampNeg z6)) else (S) := rfl
noncomputable def f_X8_write_0_15 (σ : kw_S) (p : Int32) : kw_S := kf_l (p + (1 : Int32)) fun z1 => kf_l (p + (2 : Int32)) fun z2 => kf_l (p + (3 : Int32)) fun z3 => l_X8_write_0_15_36 p ((7 - (0 : Int32).toInt).toNat + 1) (0 : Int32) (kw_ui (kw_ui (kw_ui (kw_ui σ 15 p.toNatClampNeg (σ.1 0 22)) 15 z1.toNatClampNeg (σ.1 0 23)) 15 z2.toNatClampNeg (σ.1 0 24)) 15 z3.toNatClampNeg (σ.1 0 25))
theorem f_X8_write_0_15_u (σ : kw_S) (p : Int32) : f_X8_write_0_15 σ p = kf_l (p + (1 : Int32)) fun z1 => kf_l (p + (2 : Int32)) fun z2 => kf_l (p + (3 : Int32)) fun z3 => l_X8_write_0_15_36 p ((7 - (0 : Int32).toInt).toNat + 1) (0 : Int32) (kw_ui (kw_ui (kw_ui (kw_ui σ 15 p.toNatClampNeg (σ.1 0 22)) 15 z1.toNatClampNeg (σ.1 0 23)) 15 z2.toNatClampNeg (σ.1 0 24)) 15 z3.toNatClampNeg (σ.1 0 25)) := rfl
abbrev p_X8_write_0_15 (T : Int) (σ : kw_S) (p : Int32) : Option Value → kw_S → Prop := fun vv σ' => (kw_I (bM T) σ' ∧ kw_FM [15] σ σ') ∧ vv = none ∧ σ' = f_X8_write_0_15 σ p
set_option maxRecDepth 100000 in
set_option maxHeartbeats 4000000 in
theorem c_X8_write_0_15 (l : Launch) (T : Int) (hT0 : 0 ≤ T) (hT1 : T ≤ 3000) (σ : kw_S) (hI : kw_I (bM T) σ) (p : Int32) (hp0 : 0 ≤ p.toInt) (hp1 : p.toInt ≤ 390) (hp2 : p.toInt % 10 = 0) : kw_Met l 1 KM mX8_write [.ref 0, .ref 15, .int p] σ (p_X8_write_0_15 T σ p) := by
  have r_p := kw_rng p
  have hF0 : kw_FM [15] σ σ := kw_FM.rf
  have hF := (f_X8_write_0_15_u σ p).symm
  have q_0 : (0 : Int32).toInt = 0 := rfl
  have q_1 : (1 : Int32).toInt = 1 := rfl
  have q_2 : (2 : Int32).toInt = 2 := rfl
  have q_3 : (3 : Int32).toInt = 3 := rfl
  have q_4 : (4 : Int32).toInt = 4 := rfl
  have q_6 : (6 : Int32).toInt = 6 := rfl
  refine kw_Met.of (by decide) rfl tX8_write (Nat.le_of_ble_eq_true rfl) ?_
  show kw_AW l 1 kw_E0 KM mX8_write (p_X8_write_0_15 T σ p) 0 [(0, .ref 0), (1, .ref 15), (2, .int p)] [] σ
  refine kw_aload_n (pc := 0) (i := 0) (k := 1) (n := 1) rfl rfl rfl ?_
  refine kw_iload_n (pc := 1) (i := 1) (k := 2) (n := 2) rfl rfl rfl ?_
  refine kw_aload_n (pc := 2) (i := 2) (k := 0) (n := 0) rfl rfl rfl ?_
  refine kw_get (pc := 3) (i := 3) (v := .int (σ.1 0 22)) rfl rfl rfl lkX8_166 (fun _ => rfl) ?_
  have b1 : 0 ≤ (σ.1 0 22).toInt ∧ (σ.1 0 22).toInt ≤ T := hI 0 22
  refine kw_iast (pc := 6) (i := 4) (n := 400) rfl rfl (by omega) (by omega) ?_
  have I2 : kw_I (bM T) (kw_ui σ 15 p.toNatClampNeg (σ.1 0 22)) := kw_wN hI (x := p) (σ.1 0 22) (by omega) (by omega) (by omega) trivial
  have F3 : kw_FM [15] σ (kw_ui σ 15 p.toNatClampNeg (σ.1 0 22)) := kw_FM_ui hF0 (by decide) (by decide)
  refine kw_aload_n (pc := 7) (i := 5) (k := 1) (n := 1) rfl rfl rfl ?_
  refine kw_iload_n (pc := 8) (i := 6) (k := 2) (n := 2) rfl rfl rfl ?_
  refine kw_iconst (pc := 9) (i := 7) (v := 1) rfl rfl ?_
  refine kw_iadd (pc := 10) (i := 8) rfl (fun z4 e_z4 t_z4 => ?_)
  replace hF := kf_le e_z4 hF
  first | (have u_z4 : z4.toInt = p.toInt + 1 := (by omega); clear t_z4) | skip
  refine kw_aload_n (pc := 11) (i := 9) (k := 0) (n := 0) rfl rfl rfl ?_
  refine kw_get (pc := 12) (i := 10) (v := .int (σ.1 0 23)) rfl rfl rfl lkX8_169 (fun _ => rfl) ?_
  have b5 := kw_rng (σ.1 0 23)
  refine kw_iast (pc := 15) (i := 11) (n := 400) rfl rfl (by omega) (by omega) ?_
  have I6 : kw_I (bM T) (kw_ui (kw_ui σ 15 p.toNatClampNeg (σ.1 0 22)) 15 z4.toNatClampNeg (σ.1 0 23)) := kw_wN I2 (x := z4) (σ.1 0 23) (by omega) (by omega) (by omega) trivial
  have F7 : kw_FM [15] σ (kw_ui (kw_ui σ 15 p.toNatClampNeg (σ.1 0 22)) 15 z4.toNatClampNeg (σ.1 0 23)) := kw_FM_ui F3 (by decide) (by decide)
  refine kw_aload_n (pc := 16) (i := 12) (k := 1) (n := 1) rfl rfl rfl ?_
  refine kw_iload_n (pc := 17) (i := 13) (k := 2) (n := 2) rfl rfl rfl ?_
  refine kw_iconst (pc := 18) (i := 14) (v := 2) rfl rfl ?_
  refine kw_iadd (pc := 19) (i := 15) rfl (fun z8 e_z8 t_z8 => ?_)
  replace hF := kf_le e_z8 hF
  first | (have u_z8 : z8.toInt = p.toInt + 2 := (by omega); clear t_z8) | skip
  refine kw_aload_n (pc := 20) (i := 16) (k := 0) (n := 0) rfl rfl rfl ?_
  refine kw_get (pc := 21) (i := 17) (v := .int (σ.1 0 24)) rfl rfl rfl lkX8_172 (fun _ => rfl) ?_
  have b9 := kw_rng (σ.1 0 24)
  refine kw_iast (pc := 24) (i := 18) (n := 400) rfl rfl (by omega) (by omega) ?_
  have I10 : kw_I (bM T) (kw_ui (kw_ui (kw_ui σ 15 p.toNatClampNeg (σ.1 0 22)) 15 z4.toNatClampNeg (σ.1 0 23)) 15 z8.toNatClampNeg (σ.1 0 24)) := kw_wN I6 (x := z8) (σ.1 0 24) (by omega) (by omega) (by omega) trivial
  have F11 : kw_FM [15] σ (kw_ui (kw_ui (kw_ui σ 15 p.toNatClampNeg (σ.1 0 22)) 15 z4.toNatClampNeg (σ.1 0 23)) 15 z8.toNatClampNeg (σ.1 0 24)) := kw_FM_ui F7 (by decide) (by decide)
  refine kw_aload_n (pc := 25) (i := 19) (k := 1) (n := 1) rfl rfl rfl ?_
  refine kw_iload_n (pc := 26) (i := 20) (k := 2) (n := 2) rfl rfl rfl ?_
  refine kw_iconst (pc := 27) (i := 21) (v := 3) rfl rfl ?_
  refine kw_iadd (pc := 28) (i := 22) rfl (fun z12 e_z12 t_z12 => ?_)
  replace hF := kf_le e_z12 hF
  first | (have u_z12 : z12.toInt = p.toInt + 3 := (by omega); clear t_z12) | skip
  refine kw_aload_n (pc := 29) (i := 23) (k := 0) (n := 0) rfl rfl rfl ?_
  refine kw_get (pc := 30) (i := 24) (v := .int (σ.1 0 25)) rfl rfl rfl lkX8_175 (fun _ => rfl) ?_
  have b13 : 0 ≤ (σ.1 0 25).toInt ∧ (σ.1 0 25).toInt ≤ 63 := hI 0 25
  refine kw_iast (pc := 33) (i := 25) (n := 400) rfl rfl (by omega) (by omega) ?_
  have I14 : kw_I (bM T) (kw_ui (kw_ui (kw_ui (kw_ui σ 15 p.toNatClampNeg (σ.1 0 22)) 15 z4.toNatClampNeg (σ.1 0 23)) 15 z8.toNatClampNeg (σ.1 0 24)) 15 z12.toNatClampNeg (σ.1 0 25)) := kw_wN I10 (x := z12) (σ.1 0 25) (by omega) (by omega) (by omega) trivial
  have F15 : kw_FM [15] σ (kw_ui (kw_ui (kw_ui (kw_ui σ 15 p.toNatClampNeg (σ.1 0 22)) 15 z4.toNatClampNeg (σ.1 0 23)) 15 z8.toNatClampNeg (σ.1 0 24)) 15 z12.toNatClampNeg (σ.1 0 25)) := kw_FM_ui F11 (by decide) (by decide)
  refine kw_iconst (pc := 34) (i := 26) (v := 0) rfl rfl ?_
  refine kw_istore_n (pc := 35) (i := 27) (n := 3) (lv' := [(3, .int 0), (0, .ref 0), (1, .ref 15), (2, .int p)]) rfl rfl (by decide) rfl ?_
  have L20 : ∀ (n24 : Nat) (x16 : Int32) (S17 : kw_S), kw_I (bM T) S17 → kw_FM [15] σ S17 → 0 ≤ x16.toInt → l_X8_write_0_15_36 p n24 x16 S17 = (f_X8_write_0_15 σ p) → (7 - x16.toInt).toNat < n24 → kw_AW l 1 kw_E0 KM mX8_write (p_X8_write_0_15 T σ p) 36 [(3, .int x16), (0, .ref 0), (1, .ref 15), (2, .int p)] [] S17 := by
    intro n24
    induction n24 with
    | zero => intro x16 S17 I18 F19 v22 hF m23; exact absurd m23 (Nat.not_lt_zero _)
    | succ n24 ih21 =>
      intro x16 S17 I18 F19 v22 hF m23
      replace hF := kf_st (l_X8_write_0_15_36_s _ _ _ _) hF
      have r_x16 := kw_rng x16
      refine kw_iload_n (pc := 36) (i := 28) (k := 0) (n := 3) rfl rfl rfl ?_
      refine kw_bipush (pc := 37) (i := 29) (v := 6) rfl rfl ?_
      refine kw_icmp_ge (pc := 39) (i := 30) (tgt := 61) rfl rfl (fun c25 => ?_) (fun c25 => ?_)
      · replace hF := kf_nl c25 hF
        exact kw_return (pc := 61) (i := 44) rfl rfl ⟨⟨I18, F19⟩, rfl, hF⟩
      · replace hF := kf_p c25 hF
        refine kw_aload_n (pc := 42) (i := 31) (k := 2) (n := 1) rfl rfl rfl ?_
        refine kw_iload_n (pc := 43) (i := 32) (k := 3) (n := 2) rfl rfl rfl ?_
        refine kw_iconst (pc := 44) (i := 33) (v := 4) rfl rfl ?_
        refine kw_iadd (pc := 45) (i := 34) rfl (fun z26 e_z26 t_z26 => ?_)
        replace hF := kf_le e_z26 hF
        first | (have u_z26 : z26.toInt = p.toInt + 4 := (by omega); clear t_z26) | skip
        refine kw_iload_n (pc := 46) (i := 35) (k := 0) (n := 3) rfl rfl rfl ?_
        refine kw_iadd (pc := 47) (i := 36) rfl (fun z27 e_z27 t_z27 => ?_)
        replace hF := kf_le e_z27 hF
        first | (have u_z27 : z27.toInt = z26.toInt + x16.toInt := (by omega); clear t_z27) | skip
        refine kw_aload_n (pc := 48) (i := 37) (k := 1) (n := 0) rfl rfl rfl ?_
        refine kw_get (pc := 49) (i := 38) (v := .ref 14) rfl rfl rfl lkX8_57 (fun _ => rfl) ?_
        refine kw_iload_n (pc := 52) (i := 39) (k := 0) (n := 3) rfl rfl rfl ?_
        refine kw_iald (pc := 53) (i := 40) (n := 6) rfl rfl (by omega) (by omega) (fun z28 e_z28 => ?_)
        replace hF := kf_le e_z28 hF
        have t_z28 := congrArg Int32.toInt e_z28
        have r_z28 := kw_rng z28
        refine kw_iast (pc := 54) (i := 41) (n := 400) rfl rfl (by omega) (by omega) ?_
        have I29 : kw_I (bM T) (kw_ui S17 15 z27.toNatClampNeg z28) := kw_wN I18 (x := z27) z28 (by omega) (by omega) (by omega) trivial
        have F30 : kw_FM [15] σ (kw_ui S17 15 z27.toNatClampNeg z28) := kw_FM_ui F19 (by decide) (by decide)
        refine kw_iinc' (pc := 55) (i := 42) (k := 0) (fun z => [(3, .int z), (0, .ref 0), (1, .ref 15), (2, .int p)]) rfl rfl (by decide) rfl (fun _ => rfl) (fun z31 e_z31 t_z31 => ?_)
        replace hF := kf_le e_z31 hF
        first | (have u_z31 : z31.toInt = x16.toInt + 1 := (by omega); clear t_z31) | skip
        refine kw_goto (pc := 58) (i := 43) (tgt := 36) rfl rfl ?_
        refine kw_sub (lv' := [(3, .int z31), (0, .ref 0), (1, .ref 15), (2, .int p)]) [0, 1, 2, 3] rfl ?_
        exact ih21 z31 (kw_ui S17 15 z27.toNatClampNeg z28) I29 F30 (by omega) hF (by omega)
  exact L20 _ 0 (kw_ui (kw_ui (kw_ui (kw_ui σ 15 p.toNatClampNeg (σ.1 0 22)) 15 z4.toNatClampNeg (σ.1 0 23)) 15 z8.toNatClampNeg (σ.1 0 24)) 15 z12.toNatClampNeg (σ.1 0 25)) I14 F15 (by omega) hF (Nat.lt_succ_self _)
noncomputable def l_X8_write_0_17_36 (a2 : Int32) : Nat → Int32 → kw_S → kw_S
  | 0, _, S => S
  | n + 1, x3, S => if x3.toInt < (6 : Int32).toInt then (kf_l (a2 + (4 : Int32)) fun z4 => kf_l (z4 + x3) fun z5 => kf_l (S.1 14 x3.toNatClampNeg) fun z6 => kf_l (x3 + Int32.ofInt 1) fun z7 => l_X8_write_0_17_36 a2 n z7 (kw_ui S 17 z5.toNatClampNeg z6)) else (S)
theorem l_X8_write_0_17_36_s (a2 : Int32) (n : Nat) (x3 : Int32) (S : kw_S) : l_X8_write_0_17_36 a2 (n + 1) x3 S = if x3.toInt < (6 : Int32).toInt then (kf_l (a2 + (4 : Int32)) fun z4 => kf_l (z4 + x3) fun z5 => kf_l (S.1 14 x3.toNatClampNeg) fun z6 => kf_l (x3 + Int32.ofInt 1) fun z7 => l_X8_write_0_17_36 a2 n z7 (kw_ui S 17 z5.toNatClampNeg z6)) else (S) := rfl
noncomputable def f_X8_write_0_17 (σ : kw_S) (p : Int32) : kw_S := kf_l (p + (1 : Int32)) fun z1 => kf_l (p + (2 : Int32)) fun z2 => kf_l (p + (3 : Int32)) fun z3 => l_X8_write_0_17_36 p ((7 - (0 : Int32).toInt).toNat + 1) (0 : Int32) (kw_ui (kw_ui (kw_ui (kw_ui σ 17 p.toNatClampNeg (σ.1 0 22)) 17 z1.toNatClampNeg (σ.1 0 23)) 17 z2.toNatClampNeg (σ.1 0 24)) 17 z3.toNatClampNeg (σ.1 0 25))
theorem f_X8_write_0_17_u (σ : kw_S) (p : Int32) : f_X8_write_0_17 σ p = kf_l (p + (1 : Int32)) fun z1 => kf_l (p + (2 : Int32)) fun z2 => kf_l (p + (3 : Int32)) fun z3 => l_X8_write_0_17_36 p ((7 - (0 : Int32).toInt).toNat + 1) (0 : Int32) (kw_ui (kw_ui (kw_ui (kw_ui σ 17 p.toNatClampNeg (σ.1 0 22)) 17 z1.toNatClampNeg (σ.1 0 23)) 17 z2.toNatClampNeg (σ.1 0 24)) 17 z3.toNatClampNeg (σ.1 0 25)) := rfl
abbrev p_X8_write_0_17 (T : Int) (σ : kw_S) (p : Int32) : Option Value → kw_S → Prop := fun vv σ' => (kw_I (bM T) σ' ∧ kw_FM [17] σ σ') ∧ vv = none ∧ σ' = f_X8_write_0_17 σ p
set_option maxRecDepth 100000 in
set_option maxHeartbeats 4000000 in
theorem c_X8_write_0_17 (l : Launch) (T : Int) (hT0 : 0 ≤ T) (hT1 : T ≤ 3000) (σ : kw_S) (hI : kw_I (bM T) σ) (p : Int32) (hp0 : 0 ≤ p.toInt) (hp1 : p.toInt ≤ 1222) (hp2 : p.toInt % 411 = 400) : kw_Met l 1 KM mX8_write [.ref 0, .ref 17, .int p] σ (p_X8_write_0_17 T σ p) := by
  have r_p := kw_rng p
  have hF0 : kw_FM [17] σ σ := kw_FM.rf
  have hF := (f_X8_write_0_17_u σ p).symm
  have q_0 : (0 : Int32).toInt = 0 := rfl
  have q_1 : (1 : Int32).toInt = 1 := rfl
  have q_2 : (2 : Int32).toInt = 2 := rfl
  have q_3 : (3 : Int32).toInt = 3 := rfl
  have q_4 : (4 : Int32).toInt = 4 := rfl
  have q_6 : (6 : Int32).toInt = 6 := rfl
  refine kw_Met.of (by decide) rfl tX8_write (Nat.le_of_ble_eq_true rfl) ?_
  show kw_AW l 1 kw_E0 KM mX8_write (p_X8_write_0_17 T σ p) 0 [(0, .ref 0), (1, .ref 17), (2, .int p)] [] σ
  refine kw_aload_n (pc := 0) (i := 0) (k := 1) (n := 1) rfl rfl rfl ?_
  refine kw_iload_n (pc := 1) (i := 1) (k := 2) (n := 2) rfl rfl rfl ?_
  refine kw_aload_n (pc := 2) (i := 2) (k := 0) (n := 0) rfl rfl rfl ?_
  refine kw_get (pc := 3) (i := 3) (v := .int (σ.1 0 22)) rfl rfl rfl lkX8_166 (fun _ => rfl) ?_
  have b1 : 0 ≤ (σ.1 0 22).toInt ∧ (σ.1 0 22).toInt ≤ T := hI 0 22
  refine kw_iast (pc := 6) (i := 4) (n := 1233) rfl rfl (by omega) (by omega) ?_
  have I2 : kw_I (bM T) (kw_ui σ 17 p.toNatClampNeg (σ.1 0 22)) := kw_wI hI (x := p) (σ.1 0 22) (by omega) (400) (by omega) (by omega) (by omega) (by omega)
  have F3 : kw_FM [17] σ (kw_ui σ 17 p.toNatClampNeg (σ.1 0 22)) := kw_FM_ui hF0 (by decide) (by decide)
  refine kw_aload_n (pc := 7) (i := 5) (k := 1) (n := 1) rfl rfl rfl ?_
  refine kw_iload_n (pc := 8) (i := 6) (k := 2) (n := 2) rfl rfl rfl ?_
  refine kw_iconst (pc := 9) (i := 7) (v := 1) rfl rfl ?_
  refine kw_iadd (pc := 10) (i := 8) rfl (fun z4 e_z4 t_z4 => ?_)
  replace hF := kf_le e_z4 hF
  first | (have u_z4 : z4.toInt = p.toInt + 1 := (by omega); clear t_z4) | skip
  refine kw_aload_n (pc := 11) (i := 9) (k := 0) (n := 0) rfl rfl rfl ?_
  refine kw_get (pc := 12) (i := 10) (v := .int (σ.1 0 23)) rfl rfl rfl lkX8_169 (fun _ => rfl) ?_
  have b5 := kw_rng (σ.1 0 23)
  refine kw_iast (pc := 15) (i := 11) (n := 1233) rfl rfl (by omega) (by omega) ?_
  have I6 : kw_I (bM T) (kw_ui (kw_ui σ 17 p.toNatClampNeg (σ.1 0 22)) 17 z4.toNatClampNeg (σ.1 0 23)) := kw_wI I2 (x := z4) (σ.1 0 23) (by omega) (401) (by omega) (by omega) (by omega) (by omega)
  have F7 : kw_FM [17] σ (kw_ui (kw_ui σ 17 p.toNatClampNeg (σ.1 0 22)) 17 z4.toNatClampNeg (σ.1 0 23)) := kw_FM_ui F3 (by decide) (by decide)
  refine kw_aload_n (pc := 16) (i := 12) (k := 1) (n := 1) rfl rfl rfl ?_
  refine kw_iload_n (pc := 17) (i := 13) (k := 2) (n := 2) rfl rfl rfl ?_
  refine kw_iconst (pc := 18) (i := 14) (v := 2) rfl rfl ?_
  refine kw_iadd (pc := 19) (i := 15) rfl (fun z8 e_z8 t_z8 => ?_)
  replace hF := kf_le e_z8 hF
  first | (have u_z8 : z8.toInt = p.toInt + 2 := (by omega); clear t_z8) | skip
  refine kw_aload_n (pc := 20) (i := 16) (k := 0) (n := 0) rfl rfl rfl ?_
  refine kw_get (pc := 21) (i := 17) (v := .int (σ.1 0 24)) rfl rfl rfl lkX8_172 (fun _ => rfl) ?_
  have b9 := kw_rng (σ.1 0 24)
  refine kw_iast (pc := 24) (i := 18) (n := 1233) rfl rfl (by omega) (by omega) ?_
  have I10 : kw_I (bM T) (kw_ui (kw_ui (kw_ui σ 17 p.toNatClampNeg (σ.1 0 22)) 17 z4.toNatClampNeg (σ.1 0 23)) 17 z8.toNatClampNeg (σ.1 0 24)) := kw_wI I6 (x := z8) (σ.1 0 24) (by omega) (402) (by omega) (by omega) (by omega) (by omega)
  have F11 : kw_FM [17] σ (kw_ui (kw_ui (kw_ui σ 17 p.toNatClampNeg (σ.1 0 22)) 17 z4.toNatClampNeg (σ.1 0 23)) 17 z8.toNatClampNeg (σ.1 0 24)) := kw_FM_ui F7 (by decide) (by decide)
  refine kw_aload_n (pc := 25) (i := 19) (k := 1) (n := 1) rfl rfl rfl ?_
  refine kw_iload_n (pc := 26) (i := 20) (k := 2) (n := 2) rfl rfl rfl ?_
  refine kw_iconst (pc := 27) (i := 21) (v := 3) rfl rfl ?_
  refine kw_iadd (pc := 28) (i := 22) rfl (fun z12 e_z12 t_z12 => ?_)
  replace hF := kf_le e_z12 hF
  first | (have u_z12 : z12.toInt = p.toInt + 3 := (by omega); clear t_z12) | skip
  refine kw_aload_n (pc := 29) (i := 23) (k := 0) (n := 0) rfl rfl rfl ?_
  refine kw_get (pc := 30) (i := 24) (v := .int (σ.1 0 25)) rfl rfl rfl lkX8_175 (fun _ => rfl) ?_
  have b13 : 0 ≤ (σ.1 0 25).toInt ∧ (σ.1 0 25).toInt ≤ 63 := hI 0 25
  refine kw_iast (pc := 33) (i := 25) (n := 1233) rfl rfl (by omega) (by omega) ?_
  have I14 : kw_I (bM T) (kw_ui (kw_ui (kw_ui (kw_ui σ 17 p.toNatClampNeg (σ.1 0 22)) 17 z4.toNatClampNeg (σ.1 0 23)) 17 z8.toNatClampNeg (σ.1 0 24)) 17 z12.toNatClampNeg (σ.1 0 25)) := kw_wI I10 (x := z12) (σ.1 0 25) (by omega) (403) (by omega) (by omega) (by omega) (by omega)
  have F15 : kw_FM [17] σ (kw_ui (kw_ui (kw_ui (kw_ui σ 17 p.toNatClampNeg (σ.1 0 22)) 17 z4.toNatClampNeg (σ.1 0 23)) 17 z8.toNatClampNeg (σ.1 0 24)) 17 z12.toNatClampNeg (σ.1 0 25)) := kw_FM_ui F11 (by decide) (by decide)
  refine kw_iconst (pc := 34) (i := 26) (v := 0) rfl rfl ?_
  refine kw_istore_n (pc := 35) (i := 27) (n := 3) (lv' := [(3, .int 0), (0, .ref 0), (1, .ref 17), (2, .int p)]) rfl rfl (by decide) rfl ?_
  have L20 : ∀ (n24 : Nat) (x16 : Int32) (S17 : kw_S), kw_I (bM T) S17 → kw_FM [17] σ S17 → 0 ≤ x16.toInt → l_X8_write_0_17_36 p n24 x16 S17 = (f_X8_write_0_17 σ p) → (7 - x16.toInt).toNat < n24 → kw_AW l 1 kw_E0 KM mX8_write (p_X8_write_0_17 T σ p) 36 [(3, .int x16), (0, .ref 0), (1, .ref 17), (2, .int p)] [] S17 := by
    intro n24
    induction n24 with
    | zero => intro x16 S17 I18 F19 v22 hF m23; exact absurd m23 (Nat.not_lt_zero _)
    | succ n24 ih21 =>
      intro x16 S17 I18 F19 v22 hF m23
      replace hF := kf_st (l_X8_write_0_17_36_s _ _ _ _) hF
      have r_x16 := kw_rng x16
      refine kw_iload_n (pc := 36) (i := 28) (k := 0) (n := 3) rfl rfl rfl ?_
      refine kw_bipush (pc := 37) (i := 29) (v := 6) rfl rfl ?_
      refine kw_icmp_ge (pc := 39) (i := 30) (tgt := 61) rfl rfl (fun c25 => ?_) (fun c25 => ?_)
      · replace hF := kf_nl c25 hF
        exact kw_return (pc := 61) (i := 44) rfl rfl ⟨⟨I18, F19⟩, rfl, hF⟩
      · replace hF := kf_p c25 hF
        refine kw_aload_n (pc := 42) (i := 31) (k := 2) (n := 1) rfl rfl rfl ?_
        refine kw_iload_n (pc := 43) (i := 32) (k := 3) (n := 2) rfl rfl rfl ?_
        refine kw_iconst (pc := 44) (i := 33) (v := 4) rfl rfl ?_
        refine kw_iadd (pc := 45) (i := 34) rfl (fun z26 e_z26 t_z26 => ?_)
        replace hF := kf_le e_z26 hF
        first | (have u_z26 : z26.toInt = p.toInt + 4 := (by omega); clear t_z26) | skip
        refine kw_iload_n (pc := 46) (i := 35) (k := 0) (n := 3) rfl rfl rfl ?_
        refine kw_iadd (pc := 47) (i := 36) rfl (fun z27 e_z27 t_z27 => ?_)
        replace hF := kf_le e_z27 hF
        first | (have u_z27 : z27.toInt = z26.toInt + x16.toInt := (by omega); clear t_z27) | skip
        refine kw_aload_n (pc := 48) (i := 37) (k := 1) (n := 0) rfl rfl rfl ?_
        refine kw_get (pc := 49) (i := 38) (v := .ref 14) rfl rfl rfl lkX8_57 (fun _ => rfl) ?_
        refine kw_iload_n (pc := 52) (i := 39) (k := 0) (n := 3) rfl rfl rfl ?_
        refine kw_iald (pc := 53) (i := 40) (n := 6) rfl rfl (by omega) (by omega) (fun z28 e_z28 => ?_)
        replace hF := kf_le e_z28 hF
        have t_z28 := congrArg Int32.toInt e_z28
        have r_z28 := kw_rng z28
        refine kw_iast (pc := 54) (i := 41) (n := 1233) rfl rfl (by omega) (by omega) ?_
        have I29 : kw_I (bM T) (kw_ui S17 17 z27.toNatClampNeg z28) := kw_wI I18 (x := z27) z28 (by omega) (404 + x16.toInt) (by omega) (by omega) (by omega) (by omega)
        have F30 : kw_FM [17] σ (kw_ui S17 17 z27.toNatClampNeg z28) := kw_FM_ui F19 (by decide) (by decide)
        refine kw_iinc' (pc := 55) (i := 42) (k := 0) (fun z => [(3, .int z), (0, .ref 0), (1, .ref 17), (2, .int p)]) rfl rfl (by decide) rfl (fun _ => rfl) (fun z31 e_z31 t_z31 => ?_)
        replace hF := kf_le e_z31 hF
        first | (have u_z31 : z31.toInt = x16.toInt + 1 := (by omega); clear t_z31) | skip
        refine kw_goto (pc := 58) (i := 43) (tgt := 36) rfl rfl ?_
        refine kw_sub (lv' := [(3, .int z31), (0, .ref 0), (1, .ref 17), (2, .int p)]) [0, 1, 2, 3] rfl ?_
        exact ih21 z31 (kw_ui S17 17 z27.toNatClampNeg z28) I29 F30 (by omega) hF (by omega)
  exact L20 _ 0 (kw_ui (kw_ui (kw_ui (kw_ui σ 17 p.toNatClampNeg (σ.1 0 22)) 17 z4.toNatClampNeg (σ.1 0 23)) 17 z8.toNatClampNeg (σ.1 0 24)) 17 z12.toNatClampNeg (σ.1 0 25)) I14 F15 (by omega) hF (Nat.lt_succ_self _)
noncomputable def l_X8_read_0_15_36 (a2 : Int32) : Nat → Int32 → kw_S → kw_S
  | 0, _, S => S
  | n + 1, x3, S => if x3.toInt < (6 : Int32).toInt then (kf_l (a2 + (4 : Int32)) fun z8 => kf_l (z8 + x3) fun z9 => kf_l (S.1 15 z9.toNatClampNeg) fun z10 => kf_l (x3 + Int32.ofInt 1) fun z11 => l_X8_read_0_15_36 a2 n z11 (kw_ui S 14 x3.toNatClampNeg z10)) else (S)
theorem l_X8_read_0_15_36_s (a2 : Int32) (n : Nat) (x3 : Int32) (S : kw_S) : l_X8_read_0_15_36 a2 (n + 1) x3 S = if x3.toInt < (6 : Int32).toInt then (kf_l (a2 + (4 : Int32)) fun z8 => kf_l (z8 + x3) fun z9 => kf_l (S.1 15 z9.toNatClampNeg) fun z10 => kf_l (x3 + Int32.ofInt 1) fun z11 => l_X8_read_0_15_36 a2 n z11 (kw_ui S 14 x3.toNatClampNeg z10)) else (S) := rfl
noncomputable def f_X8_read_0_15 (σ : kw_S) (p : Int32) : kw_S := kf_l (σ.1 15 p.toNatClampNeg) fun z1 => kf_l (p + (1 : Int32)) fun z2 => kf_l ((kw_ui σ 0 22 z1).1 15 z2.toNatClampNeg) fun z3 => kf_l (p + (2 : Int32)) fun z4 => kf_l ((kw_ui (kw_ui σ 0 22 z1) 0 23 z3).1 15 z4.toNatClampNeg) fun z5 => kf_l (p + (3 : Int32)) fun z6 => kf_l ((kw_ui (kw_ui (kw_ui σ 0 22 z1) 0 23 z3) 0 24 z5).1 15 z6.toNatClampNeg) fun z7 => l_X8_read_0_15_36 p ((7 - (0 : Int32).toInt).toNat + 1) (0 : Int32) (kw_ui (kw_ui (kw_ui (kw_ui σ 0 22 z1) 0 23 z3) 0 24 z5) 0 25 z7)
theorem f_X8_read_0_15_u (σ : kw_S) (p : Int32) : f_X8_read_0_15 σ p = kf_l (σ.1 15 p.toNatClampNeg) fun z1 => kf_l (p + (1 : Int32)) fun z2 => kf_l ((kw_ui σ 0 22 z1).1 15 z2.toNatClampNeg) fun z3 => kf_l (p + (2 : Int32)) fun z4 => kf_l ((kw_ui (kw_ui σ 0 22 z1) 0 23 z3).1 15 z4.toNatClampNeg) fun z5 => kf_l (p + (3 : Int32)) fun z6 => kf_l ((kw_ui (kw_ui (kw_ui σ 0 22 z1) 0 23 z3) 0 24 z5).1 15 z6.toNatClampNeg) fun z7 => l_X8_read_0_15_36 p ((7 - (0 : Int32).toInt).toNat + 1) (0 : Int32) (kw_ui (kw_ui (kw_ui (kw_ui σ 0 22 z1) 0 23 z3) 0 24 z5) 0 25 z7) := rfl
abbrev p_X8_read_0_15 (T : Int) (σ : kw_S) (p : Int32) : Option Value → kw_S → Prop := fun vv σ' => (kw_I (bM T) σ' ∧ kw_FM [14, 1022, 1023, 1024, 1025] σ σ') ∧ vv = none ∧ (σ'.1 0 10).toInt = (σ.1 0 10).toInt ∧ (σ'.1 0 27).toInt = (σ.1 0 27).toInt ∧ σ' = f_X8_read_0_15 σ p
set_option maxRecDepth 100000 in
set_option maxHeartbeats 4000000 in
theorem c_X8_read_0_15 (l : Launch) (T : Int) (hT0 : 0 ≤ T) (hT1 : T ≤ 3000) (σ : kw_S) (hI : kw_I (bM T) σ) (p : Int32) (hp0 : 0 ≤ p.toInt) (hp1 : p.toInt ≤ 390) (hp2 : p.toInt % 10 = 0) : kw_Met l 1 KM mX8_read [.ref 0, .ref 15, .int p] σ (p_X8_read_0_15 T σ p) := by
  have r_p := kw_rng p
  have hF0 : kw_FM [14, 1022, 1023, 1024, 1025] σ σ := kw_FM.rf
  have hF := (f_X8_read_0_15_u σ p).symm
  have q_0 : (0 : Int32).toInt = 0 := rfl
  have q_1 : (1 : Int32).toInt = 1 := rfl
  have q_2 : (2 : Int32).toInt = 2 := rfl
  have q_3 : (3 : Int32).toInt = 3 := rfl
  have q_4 : (4 : Int32).toInt = 4 := rfl
  have q_6 : (6 : Int32).toInt = 6 := rfl
  refine kw_Met.of (by decide) rfl tX8_read (Nat.le_of_ble_eq_true rfl) ?_
  show kw_AW l 1 kw_E0 KM mX8_read (p_X8_read_0_15 T σ p) 0 [(0, .ref 0), (1, .ref 15), (2, .int p)] [] σ
  refine kw_aload_n (pc := 0) (i := 0) (k := 0) (n := 0) rfl rfl rfl ?_
  refine kw_aload_n (pc := 1) (i := 1) (k := 1) (n := 1) rfl rfl rfl ?_
  refine kw_iload_n (pc := 2) (i := 2) (k := 2) (n := 2) rfl rfl rfl ?_
  refine kw_iald (pc := 3) (i := 3) (n := 400) rfl rfl (by omega) (by omega) (fun z1 e_z1 => ?_)
  replace hF := kf_le e_z1 hF
  have t_z1 := congrArg Int32.toInt e_z1
  have r_z1 := kw_rng z1
  have b_z1 := kw_rN hI (x := p) z1 e_z1 (by omega)
  refine kw_puti (pc := 4) (i := 4) (z := 0) rfl rfl rfl lpX8_166 rfl rfl ?_
  have I2 : kw_I (bM T) (kw_ui σ 0 22 z1) := kw_I_ui hI (show 0 ≤ z1.toInt by omega) (show z1.toInt ≤ T by omega)
  have F3 : kw_FM [14, 1022, 1023, 1024, 1025] σ (kw_ui σ 0 22 z1) := kw_FM_ui0 hF0 (by decide)
  refine kw_aload_n (pc := 7) (i := 5) (k := 0) (n := 0) rfl rfl rfl ?_
  refine kw_aload_n (pc := 8) (i := 6) (k := 1) (n := 1) rfl rfl rfl ?_
  refine kw_iload_n (pc := 9) (i := 7) (k := 2) (n := 2) rfl rfl rfl ?_
  refine kw_iconst (pc := 10) (i := 8) (v := 1) rfl rfl ?_
  refine kw_iadd (pc := 11) (i := 9) rfl (fun z4 e_z4 t_z4 => ?_)
  replace hF := kf_le e_z4 hF
  first | (have u_z4 : z4.toInt = p.toInt + 1 := (by omega); clear t_z4) | skip
  refine kw_iald (pc := 12) (i := 10) (n := 400) rfl rfl (by omega) (by omega) (fun z5 e_z5 => ?_)
  replace hF := kf_le e_z5 hF
  have t_z5 := congrArg Int32.toInt e_z5
  have r_z5 := kw_rng z5
  have b_z5 := kw_rN I2 (x := z4) z5 e_z5 (by omega)
  refine kw_puti (pc := 13) (i := 11) (z := 0) rfl rfl rfl lpX8_169 rfl rfl ?_
  have I6 : kw_I (bM T) (kw_ui (kw_ui σ 0 22 z1) 0 23 z5) := kw_I_ui I2 (kw_rng z5).1 (Int.le_of_lt_add_one (kw_rng z5).2)
  have F7 : kw_FM [14, 1022, 1023, 1024, 1025] σ (kw_ui (kw_ui σ 0 22 z1) 0 23 z5) := kw_FM_ui0 F3 (by decide)
  refine kw_aload_n (pc := 16) (i := 12) (k := 0) (n := 0) rfl rfl rfl ?_
  refine kw_aload_n (pc := 17) (i := 13) (k := 1) (n := 1) rfl rfl rfl ?_
  refine kw_iload_n (pc := 18) (i := 14) (k := 2) (n := 2) rfl rfl rfl ?_
  refine kw_iconst (pc := 19) (i := 15) (v := 2) rfl rfl ?_
  refine kw_iadd (pc := 20) (i := 16) rfl (fun z8 e_z8 t_z8 => ?_)
  replace hF := kf_le e_z8 hF
  first | (have u_z8 : z8.toInt = p.toInt + 2 := (by omega); clear t_z8) | skip
  refine kw_iald (pc := 21) (i := 17) (n := 400) rfl rfl (by omega) (by omega) (fun z9 e_z9 => ?_)
  replace hF := kf_le e_z9 hF
  have t_z9 := congrArg Int32.toInt e_z9
  have r_z9 := kw_rng z9
  have b_z9 := kw_rN I6 (x := z8) z9 e_z9 (by omega)
  refine kw_puti (pc := 22) (i := 18) (z := 0) rfl rfl rfl lpX8_172 rfl rfl ?_
  have I10 : kw_I (bM T) (kw_ui (kw_ui (kw_ui σ 0 22 z1) 0 23 z5) 0 24 z9) := kw_I_ui I6 (kw_rng z9).1 (Int.le_of_lt_add_one (kw_rng z9).2)
  have F11 : kw_FM [14, 1022, 1023, 1024, 1025] σ (kw_ui (kw_ui (kw_ui σ 0 22 z1) 0 23 z5) 0 24 z9) := kw_FM_ui0 F7 (by decide)
  refine kw_aload_n (pc := 25) (i := 19) (k := 0) (n := 0) rfl rfl rfl ?_
  refine kw_aload_n (pc := 26) (i := 20) (k := 1) (n := 1) rfl rfl rfl ?_
  refine kw_iload_n (pc := 27) (i := 21) (k := 2) (n := 2) rfl rfl rfl ?_
  refine kw_iconst (pc := 28) (i := 22) (v := 3) rfl rfl ?_
  refine kw_iadd (pc := 29) (i := 23) rfl (fun z12 e_z12 t_z12 => ?_)
  replace hF := kf_le e_z12 hF
  first | (have u_z12 : z12.toInt = p.toInt + 3 := (by omega); clear t_z12) | skip
  refine kw_iald (pc := 30) (i := 24) (n := 400) rfl rfl (by omega) (by omega) (fun z13 e_z13 => ?_)
  replace hF := kf_le e_z13 hF
  have t_z13 := congrArg Int32.toInt e_z13
  have r_z13 := kw_rng z13
  have b_z13 := kw_rN I10 (x := z12) z13 e_z13 (by omega)
  refine kw_puti (pc := 31) (i := 25) (z := 0) rfl rfl rfl lpX8_175 rfl rfl ?_
  have I14 : kw_I (bM T) (kw_ui (kw_ui (kw_ui (kw_ui σ 0 22 z1) 0 23 z5) 0 24 z9) 0 25 z13) := kw_I_ui I10 (show 0 ≤ z13.toInt by omega) (show z13.toInt ≤ 63 by omega)
  have F15 : kw_FM [14, 1022, 1023, 1024, 1025] σ (kw_ui (kw_ui (kw_ui (kw_ui σ 0 22 z1) 0 23 z5) 0 24 z9) 0 25 z13) := kw_FM_ui0 F11 (by decide)
  refine kw_iconst (pc := 34) (i := 26) (v := 0) rfl rfl ?_
  refine kw_istore_n (pc := 35) (i := 27) (n := 3) (lv' := [(3, .int 0), (0, .ref 0), (1, .ref 15), (2, .int p)]) rfl rfl (by decide) rfl ?_
  have L20 : ∀ (n26 : Nat) (x16 : Int32) (S17 : kw_S), kw_I (bM T) S17 → kw_FM [14, 1022, 1023, 1024, 1025] σ S17 → 0 ≤ x16.toInt → (S17.1 0 10).toInt = (σ.1 0 10).toInt → (S17.1 0 27).toInt = (σ.1 0 27).toInt → l_X8_read_0_15_36 p n26 x16 S17 = (f_X8_read_0_15 σ p) → (7 - x16.toInt).toNat < n26 → kw_AW l 1 kw_E0 KM mX8_read (p_X8_read_0_15 T σ p) 36 [(3, .int x16), (0, .ref 0), (1, .ref 15), (2, .int p)] [] S17 := by
    intro n26
    induction n26 with
    | zero => intro x16 S17 I18 F19 v22 v23 v24 hF m25; exact absurd m25 (Nat.not_lt_zero _)
    | succ n26 ih21 =>
      intro x16 S17 I18 F19 v22 v23 v24 hF m25
      replace hF := kf_st (l_X8_read_0_15_36_s _ _ _ _) hF
      have r_x16 := kw_rng x16
      refine kw_iload_n (pc := 36) (i := 28) (k := 0) (n := 3) rfl rfl rfl ?_
      refine kw_bipush (pc := 37) (i := 29) (v := 6) rfl rfl ?_
      refine kw_icmp_ge (pc := 39) (i := 30) (tgt := 61) rfl rfl (fun c27 => ?_) (fun c27 => ?_)
      · replace hF := kf_nl c27 hF
        exact kw_return (pc := 61) (i := 44) rfl rfl ⟨⟨I18, F19⟩, rfl, (show (S17.1 0 10).toInt = (σ.1 0 10).toInt from by omega), (show (S17.1 0 27).toInt = (σ.1 0 27).toInt from by omega), hF⟩
      · replace hF := kf_p c27 hF
        refine kw_aload_n (pc := 42) (i := 31) (k := 1) (n := 0) rfl rfl rfl ?_
        refine kw_get (pc := 43) (i := 32) (v := .ref 14) rfl rfl rfl lkX8_57 (fun _ => rfl) ?_
        refine kw_iload_n (pc := 46) (i := 33) (k := 0) (n := 3) rfl rfl rfl ?_
        refine kw_aload_n (pc := 47) (i := 34) (k := 2) (n := 1) rfl rfl rfl ?_
        refine kw_iload_n (pc := 48) (i := 35) (k := 3) (n := 2) rfl rfl rfl ?_
        refine kw_iconst (pc := 49) (i := 36) (v := 4) rfl rfl ?_
        refine kw_iadd (pc := 50) (i := 37) rfl (fun z28 e_z28 t_z28 => ?_)
        replace hF := kf_le e_z28 hF
        first | (have u_z28 : z28.toInt = p.toInt + 4 := (by omega); clear t_z28) | skip
        refine kw_iload_n (pc := 51) (i := 38) (k := 0) (n := 3) rfl rfl rfl ?_
        refine kw_iadd (pc := 52) (i := 39) rfl (fun z29 e_z29 t_z29 => ?_)
        replace hF := kf_le e_z29 hF
        first | (have u_z29 : z29.toInt = z28.toInt + x16.toInt := (by omega); clear t_z29) | skip
        refine kw_iald (pc := 53) (i := 40) (n := 400) rfl rfl (by omega) (by omega) (fun z30 e_z30 => ?_)
        replace hF := kf_le e_z30 hF
        have t_z30 := congrArg Int32.toInt e_z30
        have r_z30 := kw_rng z30
        have b_z30 := kw_rN I18 (x := z29) z30 e_z30 (by omega)
        refine kw_iast (pc := 54) (i := 41) (n := 6) rfl rfl (by omega) (by omega) ?_
        have I31 : kw_I (bM T) (kw_ui S17 14 x16.toNatClampNeg z30) := kw_I_ui I18 (kw_rng z30).1 (Int.le_of_lt_add_one (kw_rng z30).2)
        have F32 : kw_FM [14, 1022, 1023, 1024, 1025] σ (kw_ui S17 14 x16.toNatClampNeg z30) := kw_FM_ui F19 (by decide) (by decide)
        refine kw_iinc' (pc := 55) (i := 42) (k := 0) (fun z => [(3, .int z), (0, .ref 0), (1, .ref 15), (2, .int p)]) rfl rfl (by decide) rfl (fun _ => rfl) (fun z33 e_z33 t_z33 => ?_)
        replace hF := kf_le e_z33 hF
        first | (have u_z33 : z33.toInt = x16.toInt + 1 := (by omega); clear t_z33) | skip
        refine kw_goto (pc := 58) (i := 43) (tgt := 36) rfl rfl ?_
        refine kw_sub (lv' := [(3, .int z33), (0, .ref 0), (1, .ref 15), (2, .int p)]) [0, 1, 2, 3] rfl ?_
        exact ih21 z33 (kw_ui S17 14 x16.toNatClampNeg z30) I31 F32 (by omega) (show (S17.1 0 10).toInt = (σ.1 0 10).toInt from by omega) (show (S17.1 0 27).toInt = (σ.1 0 27).toInt from by omega) hF (by omega)
  exact L20 _ 0 (kw_ui (kw_ui (kw_ui (kw_ui σ 0 22 z1) 0 23 z5) 0 24 z9) 0 25 z13) I14 F15 (by omega) (show (σ.1 0 10).toInt = (σ.1 0 10).toInt from by omega) (show (σ.1 0 27).toInt = (σ.1 0 27).toInt from by omega) hF (Nat.lt_succ_self _)
noncomputable def l_X8_read_0_17_36 (a2 : Int32) : Nat → Int32 → kw_S → kw_S
  | 0, _, S => S
  | n + 1, x3, S => if x3.toInt < (6 : Int32).toInt then (kf_l (a2 + (4 : Int32)) fun z8 => kf_l (z8 + x3) fun z9 => kf_l (S.1 17 z9.toNatClampNeg) fun z10 => kf_l (x3 + Int32.ofInt 1) fun z11 => l_X8_read_0_17_36 a2 n z11 (kw_ui S 14 x3.toNatClampNeg z10)) else (S)
theorem l_X8_read_0_17_36_s (a2 : Int32) (n : Nat) (x3 : Int32) (S : kw_S) : l_X8_read_0_17_36 a2 (n + 1) x3 S = if x3.toInt < (6 : Int32).toInt then (kf_l (a2 + (4 : Int32)) fun z8 => kf_l (z8 + x3) fun z9 => kf_l (S.1 17 z9.toNatClampNeg) fun z10 => kf_l (x3 + Int32.ofInt 1) fun z11 => l_X8_read_0_17_36 a2 n z11 (kw_ui S 14 x3.toNatClampNeg z10)) else (S) := rfl
noncomputable def f_X8_read_0_17 (σ : kw_S) (p : Int32) : kw_S := kf_l (σ.1 17 p.toNatClampNeg) fun z1 => kf_l (p + (1 : Int32)) fun z2 => kf_l ((kw_ui σ 0 22 z1).1 17 z2.toNatClampNeg) fun z3 => kf_l (p + (2 : Int32)) fun z4 => kf_l ((kw_ui (kw_ui σ 0 22 z1) 0 23 z3).1 17 z4.toNatClampNeg) fun z5 => kf_l (p + (3 : Int32)) fun z6 => kf_l ((kw_ui (kw_ui (kw_ui σ 0 22 z1) 0 23 z3) 0 24 z5).1 17 z6.toNatClampNeg) fun z7 => l_X8_read_0_17_36 p ((7 - (0 : Int32).toInt).toNat + 1) (0 : Int32) (kw_ui (kw_ui (kw_ui (kw_ui σ 0 22 z1) 0 23 z3) 0 24 z5) 0 25 z7)
theorem f_X8_read_0_17_u (σ : kw_S) (p : Int32) : f_X8_read_0_17 σ p = kf_l (σ.1 17 p.toNatClampNeg) fun z1 => kf_l (p + (1 : Int32)) fun z2 => kf_l ((kw_ui σ 0 22 z1).1 17 z2.toNatClampNeg) fun z3 => kf_l (p + (2 : Int32)) fun z4 => kf_l ((kw_ui (kw_ui σ 0 22 z1) 0 23 z3).1 17 z4.toNatClampNeg) fun z5 => kf_l (p + (3 : Int32)) fun z6 => kf_l ((kw_ui (kw_ui (kw_ui σ 0 22 z1) 0 23 z3) 0 24 z5).1 17 z6.toNatClampNeg) fun z7 => l_X8_read_0_17_36 p ((7 - (0 : Int32).toInt).toNat + 1) (0 : Int32) (kw_ui (kw_ui (kw_ui (kw_ui σ 0 22 z1) 0 23 z3) 0 24 z5) 0 25 z7) := rfl
abbrev p_X8_read_0_17 (T : Int) (σ : kw_S) (p : Int32) : Option Value → kw_S → Prop := fun vv σ' => (kw_I (bM T) σ' ∧ kw_FM [14, 1022, 1023, 1024, 1025] σ σ') ∧ vv = none ∧ (σ'.1 0 10).toInt = (σ.1 0 10).toInt ∧ (σ'.1 0 27).toInt = (σ.1 0 27).toInt ∧ σ' = f_X8_read_0_17 σ p
set_option maxRecDepth 100000 in
set_option maxHeartbeats 4000000 in
theorem c_X8_read_0_17 (l : Launch) (T : Int) (hT0 : 0 ≤ T) (hT1 : T ≤ 3000) (σ : kw_S) (hI : kw_I (bM T) σ) (p : Int32) (hp0 : 0 ≤ p.toInt) (hp1 : p.toInt ≤ 1222) (hp2 : p.toInt % 411 = 400) : kw_Met l 1 KM mX8_read [.ref 0, .ref 17, .int p] σ (p_X8_read_0_17 T σ p) := by
  have r_p := kw_rng p
  have hF0 : kw_FM [14, 1022, 1023, 1024, 1025] σ σ := kw_FM.rf
  have hF := (f_X8_read_0_17_u σ p).symm
  have q_0 : (0 : Int32).toInt = 0 := rfl
  have q_1 : (1 : Int32).toInt = 1 := rfl
  have q_2 : (2 : Int32).toInt = 2 := rfl
  have q_3 : (3 : Int32).toInt = 3 := rfl
  have q_4 : (4 : Int32).toInt = 4 := rfl
  have q_6 : (6 : Int32).toInt = 6 := rfl
  refine kw_Met.of (by decide) rfl tX8_read (Nat.le_of_ble_eq_true rfl) ?_
  show kw_AW l 1 kw_E0 KM mX8_read (p_X8_read_0_17 T σ p) 0 [(0, .ref 0), (1, .ref 17), (2, .int p)] [] σ
  refine kw_aload_n (pc := 0) (i := 0) (k := 0) (n := 0) rfl rfl rfl ?_
  refine kw_aload_n (pc := 1) (i := 1) (k := 1) (n := 1) rfl rfl rfl ?_
  refine kw_iload_n (pc := 2) (i := 2) (k := 2) (n := 2) rfl rfl rfl ?_
  refine kw_iald (pc := 3) (i := 3) (n := 1233) rfl rfl (by omega) (by omega) (fun z1 e_z1 => ?_)
  replace hF := kf_le e_z1 hF
  have t_z1 := congrArg Int32.toInt e_z1
  have r_z1 := kw_rng z1
  have b_z1 := kw_rI hI (x := p) z1 e_z1 (by omega) (400) (by omega)
  refine kw_puti (pc := 4) (i := 4) (z := 0) rfl rfl rfl lpX8_166 rfl rfl ?_
  have I2 : kw_I (bM T) (kw_ui σ 0 22 z1) := kw_I_ui hI (show 0 ≤ z1.toInt by omega) (show z1.toInt ≤ T by omega)
  have F3 : kw_FM [14, 1022, 1023, 1024, 1025] σ (kw_ui σ 0 22 z1) := kw_FM_ui0 hF0 (by decide)
  refine kw_aload_n (pc := 7) (i := 5) (k := 0) (n := 0) rfl rfl rfl ?_
  refine kw_aload_n (pc := 8) (i := 6) (k := 1) (n := 1) rfl rfl rfl ?_
  refine kw_iload_n (pc := 9) (i := 7) (k := 2) (n := 2) rfl rfl rfl ?_
  refine kw_iconst (pc := 10) (i := 8) (v := 1) rfl rfl ?_
  refine kw_iadd (pc := 11) (i := 9) rfl (fun z4 e_z4 t_z4 => ?_)
  replace hF := kf_le e_z4 hF
  first | (have u_z4 : z4.toInt = p.toInt + 1 := (by omega); clear t_z4) | skip
  refine kw_iald (pc := 12) (i := 10) (n := 1233) rfl rfl (by omega) (by omega) (fun z5 e_z5 => ?_)
  replace hF := kf_le e_z5 hF
  have t_z5 := congrArg Int32.toInt e_z5
  have r_z5 := kw_rng z5
  have b_z5 := kw_rI I2 (x := z4) z5 e_z5 (by omega) (401) (by omega)
  refine kw_puti (pc := 13) (i := 11) (z := 0) rfl rfl rfl lpX8_169 rfl rfl ?_
  have I6 : kw_I (bM T) (kw_ui (kw_ui σ 0 22 z1) 0 23 z5) := kw_I_ui I2 (kw_rng z5).1 (Int.le_of_lt_add_one (kw_rng z5).2)
  have F7 : kw_FM [14, 1022, 1023, 1024, 1025] σ (kw_ui (kw_ui σ 0 22 z1) 0 23 z5) := kw_FM_ui0 F3 (by decide)
  refine kw_aload_n (pc := 16) (i := 12) (k := 0) (n := 0) rfl rfl rfl ?_
  refine kw_aload_n (pc := 17) (i := 13) (k := 1) (n := 1) rfl rfl rfl ?_
  refine kw_iload_n (pc := 18) (i := 14) (k := 2) (n := 2) rfl rfl rfl ?_
  refine kw_iconst (pc := 19) (i := 15) (v := 2) rfl rfl ?_
  refine kw_iadd (pc := 20) (i := 16) rfl (fun z8 e_z8 t_z8 => ?_)
  replace hF := kf_le e_z8 hF
  first | (have u_z8 : z8.toInt = p.toInt + 2 := (by omega); clear t_z8) | skip
  refine kw_iald (pc := 21) (i := 17) (n := 1233) rfl rfl (by omega) (by omega) (fun z9 e_z9 => ?_)
  replace hF := kf_le e_z9 hF
  have t_z9 := congrArg Int32.toInt e_z9
  have r_z9 := kw_rng z9
  have b_z9 := kw_rI I6 (x := z8) z9 e_z9 (by omega) (402) (by omega)
  refine kw_puti (pc := 22) (i := 18) (z := 0) rfl rfl rfl lpX8_172 rfl rfl ?_
  have I10 : kw_I (bM T) (kw_ui (kw_ui (kw_ui σ 0 22 z1) 0 23 z5) 0 24 z9) := kw_I_ui I6 (kw_rng z9).1 (Int.le_of_lt_add_one (kw_rng z9).2)
  have F11 : kw_FM [14, 1022, 1023, 1024, 1025] σ (kw_ui (kw_ui (kw_ui σ 0 22 z1) 0 23 z5) 0 24 z9) := kw_FM_ui0 F7 (by decide)
  refine kw_aload_n (pc := 25) (i := 19) (k := 0) (n := 0) rfl rfl rfl ?_
  refine kw_aload_n (pc := 26) (i := 20) (k := 1) (n := 1) rfl rfl rfl ?_
  refine kw_iload_n (pc := 27) (i := 21) (k := 2) (n := 2) rfl rfl rfl ?_
  refine kw_iconst (pc := 28) (i := 22) (v := 3) rfl rfl ?_
  refine kw_iadd (pc := 29) (i := 23) rfl (fun z12 e_z12 t_z12 => ?_)
  replace hF := kf_le e_z12 hF
  first | (have u_z12 : z12.toInt = p.toInt + 3 := (by omega); clear t_z12) | skip
  refine kw_iald (pc := 30) (i := 24) (n := 1233) rfl rfl (by omega) (by omega) (fun z13 e_z13 => ?_)
  replace hF := kf_le e_z13 hF
  have t_z13 := congrArg Int32.toInt e_z13
  have r_z13 := kw_rng z13
  have b_z13 := kw_rI I10 (x := z12) z13 e_z13 (by omega) (403) (by omega)
  refine kw_puti (pc := 31) (i := 25) (z := 0) rfl rfl rfl lpX8_175 rfl rfl ?_
  have I14 : kw_I (bM T) (kw_ui (kw_ui (kw_ui (kw_ui σ 0 22 z1) 0 23 z5) 0 24 z9) 0 25 z13) := kw_I_ui I10 (show 0 ≤ z13.toInt by omega) (show z13.toInt ≤ 63 by omega)
  have F15 : kw_FM [14, 1022, 1023, 1024, 1025] σ (kw_ui (kw_ui (kw_ui (kw_ui σ 0 22 z1) 0 23 z5) 0 24 z9) 0 25 z13) := kw_FM_ui0 F11 (by decide)
  refine kw_iconst (pc := 34) (i := 26) (v := 0) rfl rfl ?_
  refine kw_istore_n (pc := 35) (i := 27) (n := 3) (lv' := [(3, .int 0), (0, .ref 0), (1, .ref 17), (2, .int p)]) rfl rfl (by decide) rfl ?_
  have L20 : ∀ (n26 : Nat) (x16 : Int32) (S17 : kw_S), kw_I (bM T) S17 → kw_FM [14, 1022, 1023, 1024, 1025] σ S17 → 0 ≤ x16.toInt → (S17.1 0 10).toInt = (σ.1 0 10).toInt → (S17.1 0 27).toInt = (σ.1 0 27).toInt → l_X8_read_0_17_36 p n26 x16 S17 = (f_X8_read_0_17 σ p) → (7 - x16.toInt).toNat < n26 → kw_AW l 1 kw_E0 KM mX8_read (p_X8_read_0_17 T σ p) 36 [(3, .int x16), (0, .ref 0), (1, .ref 17), (2, .int p)] [] S17 := by
    intro n26
    induction n26 with
    | zero => intro x16 S17 I18 F19 v22 v23 v24 hF m25; exact absurd m25 (Nat.not_lt_zero _)
    | succ n26 ih21 =>
      intro x16 S17 I18 F19 v22 v23 v24 hF m25
      replace hF := kf_st (l_X8_read_0_17_36_s _ _ _ _) hF
      have r_x16 := kw_rng x16
      refine kw_iload_n (pc := 36) (i := 28) (k := 0) (n := 3) rfl rfl rfl ?_
      refine kw_bipush (pc := 37) (i := 29) (v := 6) rfl rfl ?_
      refine kw_icmp_ge (pc := 39) (i := 30) (tgt := 61) rfl rfl (fun c27 => ?_) (fun c27 => ?_)
      · replace hF := kf_nl c27 hF
        exact kw_return (pc := 61) (i := 44) rfl rfl ⟨⟨I18, F19⟩, rfl, (show (S17.1 0 10).toInt = (σ.1 0 10).toInt from by omega), (show (S17.1 0 27).toInt = (σ.1 0 27).toInt from by omega), hF⟩
      · replace hF := kf_p c27 hF
        refine kw_aload_n (pc := 42) (i := 31) (k := 1) (n := 0) rfl rfl rfl ?_
        refine kw_get (pc := 43) (i := 32) (v := .ref 14) rfl rfl rfl lkX8_57 (fun _ => rfl) ?_
        refine kw_iload_n (pc := 46) (i := 33) (k := 0) (n := 3) rfl rfl rfl ?_
        refine kw_aload_n (pc := 47) (i := 34) (k := 2) (n := 1) rfl rfl rfl ?_
        refine kw_iload_n (pc := 48) (i := 35) (k := 3) (n := 2) rfl rfl rfl ?_
        refine kw_iconst (pc := 49) (i := 36) (v := 4) rfl rfl ?_
        refine kw_iadd (pc := 50) (i := 37) rfl (fun z28 e_z28 t_z28 => ?_)
        replace hF := kf_le e_z28 hF
        first | (have u_z28 : z28.toInt = p.toInt + 4 := (by omega); clear t_z28) | skip
        refine kw_iload_n (pc := 51) (i := 38) (k := 0) (n := 3) rfl rfl rfl ?_
        refine kw_iadd (pc := 52) (i := 39) rfl (fun z29 e_z29 t_z29 => ?_)
        replace hF := kf_le e_z29 hF
        first | (have u_z29 : z29.toInt = z28.toInt + x16.toInt := (by omega); clear t_z29) | skip
        refine kw_iald (pc := 53) (i := 40) (n := 1233) rfl rfl (by omega) (by omega) (fun z30 e_z30 => ?_)
        replace hF := kf_le e_z30 hF
        have t_z30 := congrArg Int32.toInt e_z30
        have r_z30 := kw_rng z30
        have b_z30 := kw_rI I18 (x := z29) z30 e_z30 (by omega) (404 + x16.toInt) (by omega)
        refine kw_iast (pc := 54) (i := 41) (n := 6) rfl rfl (by omega) (by omega) ?_
        have I31 : kw_I (bM T) (kw_ui S17 14 x16.toNatClampNeg z30) := kw_I_ui I18 (kw_rng z30).1 (Int.le_of_lt_add_one (kw_rng z30).2)
        have F32 : kw_FM [14, 1022, 1023, 1024, 1025] σ (kw_ui S17 14 x16.toNatClampNeg z30) := kw_FM_ui F19 (by decide) (by decide)
        refine kw_iinc' (pc := 55) (i := 42) (k := 0) (fun z => [(3, .int z), (0, .ref 0), (1, .ref 17), (2, .int p)]) rfl rfl (by decide) rfl (fun _ => rfl) (fun z33 e_z33 t_z33 => ?_)
        replace hF := kf_le e_z33 hF
        first | (have u_z33 : z33.toInt = x16.toInt + 1 := (by omega); clear t_z33) | skip
        refine kw_goto (pc := 58) (i := 43) (tgt := 36) rfl rfl ?_
        refine kw_sub (lv' := [(3, .int z33), (0, .ref 0), (1, .ref 17), (2, .int p)]) [0, 1, 2, 3] rfl ?_
        exact ih21 z33 (kw_ui S17 14 x16.toNatClampNeg z30) I31 F32 (by omega) (show (S17.1 0 10).toInt = (σ.1 0 10).toInt from by omega) (show (S17.1 0 27).toInt = (σ.1 0 27).toInt from by omega) hF (by omega)
  exact L20 _ 0 (kw_ui (kw_ui (kw_ui (kw_ui σ 0 22 z1) 0 23 z5) 0 24 z9) 0 25 z13) I14 F15 (by omega) (show (σ.1 0 10).toInt = (σ.1 0 10).toInt from by omega) (show (σ.1 0 27).toInt = (σ.1 0 27).toInt from by omega) hF (Nat.lt_succ_self _)
noncomputable def f_X8_note_0 (σ : kw_S)  : kw_S := kf_l ((10 : Int32) * (σ.1 0 27)) fun z1 => kf_l (f_X8_write_0_15 σ z1) fun S2 => kf_l ((S2.1 0 27) + (1 : Int32)) fun z3 => kw_ui S2 0 27 z3
theorem f_X8_note_0_u (σ : kw_S)  : f_X8_note_0 σ  = kf_l ((10 : Int32) * (σ.1 0 27)) fun z1 => kf_l (f_X8_write_0_15 σ z1) fun S2 => kf_l ((S2.1 0 27) + (1 : Int32)) fun z3 => kw_ui S2 0 27 z3 := rfl
abbrev p_X8_note_0 (T : Int) (σ : kw_S)  : Option Value → kw_S → Prop := fun vv σ' => (kw_I (bM T) σ' ∧ kw_FM [15, 1027] σ σ') ∧ vv = none ∧ (σ'.1 0 27).toInt = (σ.1 0 27).toInt + 1 ∧ (σ'.1 0 10).toInt = (σ.1 0 10).toInt ∧ (σ'.1 0 22).toInt = (σ.1 0 22).toInt ∧ (σ'.1 0 25).toInt = (σ.1 0 25).toInt ∧ σ' = f_X8_note_0 σ
set_option maxRecDepth 100000 in
set_option maxHeartbeats 4000000 in
theorem c_X8_note_0 (l : Launch) (T : Int) (hT0 : 0 ≤ T) (hT1 : T ≤ 3000) (σ : kw_S) (hI : kw_I (bM T) σ) (hp0 : (σ.1 0 27).toInt ≤ 39) : kw_Met l 2 KM mX8_note [.ref 0] σ (p_X8_note_0 T σ) := by
  have hF0 : kw_FM [15, 1027] σ σ := kw_FM.rf
  have hF := (f_X8_note_0_u σ).symm
  have q_1 : (1 : Int32).toInt = 1 := rfl
  have q_10 : (10 : Int32).toInt = 10 := rfl
  refine kw_Met.of (by decide) rfl tX8_note (Nat.le_of_ble_eq_true rfl) ?_
  show kw_AW l 2 kw_E0 KM mX8_note (p_X8_note_0 T σ) 0 [(0, .ref 0)] [] σ
  refine kw_aload_n (pc := 0) (i := 0) (k := 0) (n := 0) rfl rfl rfl ?_
  refine kw_aload_n (pc := 1) (i := 1) (k := 0) (n := 0) rfl rfl rfl ?_
  refine kw_get (pc := 2) (i := 2) (v := .ref 15) rfl rfl rfl lkX8_60 (fun _ => rfl) ?_
  refine kw_bipush (pc := 5) (i := 3) (v := 10) rfl rfl ?_
  refine kw_aload_n (pc := 7) (i := 4) (k := 0) (n := 0) rfl rfl rfl ?_
  refine kw_get (pc := 8) (i := 5) (v := .int (σ.1 0 27)) rfl rfl rfl lkX8_178 (fun _ => rfl) ?_
  have b1 : 0 ≤ (σ.1 0 27).toInt ∧ (σ.1 0 27).toInt ≤ 40 := hI 0 27
  refine kw_imul (pc := 11) (i := 6) rfl (fun z2 e_z2 t_z2 => ?_)
  replace hF := kf_le e_z2 hF
  rw [show (10 : Int32).toInt = 10 from rfl] at t_z2
  first | (have u_z2 : z2.toInt = 10 * (σ.1 0 27).toInt := (by omega); clear t_z2) | skip
  refine kw_callV (pc := 12) (i := 7) (Y := mX8_write) (a := 0) (As := [.ref 15, .int z2]) (st := []) kw_hE rfl rfl lvX8_192 arX8_write (c_X8_write_0_15 l T hT0 hT1 σ hI z2 (by first | omega | decide) (by first | omega | decide) (by first | omega | decide)) (by decide) (Nat.le_of_ble_eq_true rfl) rfl (fun v S4 p3 => ?_)
  obtain ⟨⟨I6, F7⟩, rfl, ef5⟩ := p3
  have F8 : kw_FM [15, 1027] σ S4 := kw_FM.tr hF0 F7 (by decide)
  have w_9 : (S4.1 0 10).toInt = (σ.1 0 10).toInt := congrArg Int32.toInt (kw_FM.at0 (j := 10) F7 (by decide))
  have w_10 : (S4.1 0 22).toInt = (σ.1 0 22).toInt := congrArg Int32.toInt (kw_FM.at0 (j := 22) F7 (by decide))
  have w_11 : (S4.1 0 25).toInt = (σ.1 0 25).toInt := congrArg Int32.toInt (kw_FM.at0 (j := 25) F7 (by decide))
  have w_12 : (S4.1 0 27).toInt = (σ.1 0 27).toInt := congrArg Int32.toInt (kw_FM.at0 (j := 27) F7 (by decide))
  replace hF := kf_le ef5 hF
  show kw_AW l 2 kw_E0 KM mX8_note (p_X8_note_0 T σ) 15 [(0, .ref 0)] [] S4
  refine kw_aload_n (pc := 15) (i := 8) (k := 0) (n := 0) rfl rfl rfl ?_
  refine kw_dup (pc := 16) (i := 9) rfl rfl ?_
  refine kw_get (pc := 17) (i := 10) (v := .int (S4.1 0 27)) rfl rfl rfl lkX8_178 (fun _ => rfl) ?_
  have b13 : 0 ≤ (S4.1 0 27).toInt ∧ (S4.1 0 27).toInt ≤ 40 := I6 0 27
  refine kw_iconst (pc := 20) (i := 11) (v := 1) rfl rfl ?_
  refine kw_iadd (pc := 21) (i := 12) rfl (fun z14 e_z14 t_z14 => ?_)
  replace hF := kf_le e_z14 hF
  first | (have u_z14 : z14.toInt = (S4.1 0 27).toInt + 1 := (by omega); clear t_z14) | skip
  refine kw_puti (pc := 22) (i := 13) (z := 0) rfl rfl rfl lpX8_178 rfl rfl ?_
  have I15 : kw_I (bM T) (kw_ui S4 0 27 z14) := kw_I_ui I6 (show 0 ≤ z14.toInt by omega) (show z14.toInt ≤ 40 by omega)
  have F16 : kw_FM [15, 1027] σ (kw_ui S4 0 27 z14) := kw_FM_ui0 F8 (by decide)
  exact kw_return (pc := 25) (i := 14) rfl rfl ⟨⟨I15, F16⟩, rfl, (show z14.toInt = (σ.1 0 27).toInt + 1 from by omega), (show (S4.1 0 10).toInt = (σ.1 0 10).toInt from by omega), (show (S4.1 0 22).toInt = (σ.1 0 22).toInt from by omega), (show (S4.1 0 25).toInt = (σ.1 0 25).toInt from by omega), hF⟩
noncomputable def f_X8_wetBehind_0 (σ : kw_S) (x : Int32) (w : Int32) : Int32 := if w.toInt = 0 then (kf_l (x + (2 : Int32)) fun z2 => if (9 : Int32).toInt < z2.toInt then ((9 : Int32)) else (kf_l (x + (2 : Int32)) fun z3 => z3)) else (if 0 < x.toInt then (kf_l (x - (1 : Int32)) fun z1 => z1) else ((0 : Int32)))
theorem f_X8_wetBehind_0_u (σ : kw_S) (x : Int32) (w : Int32) : f_X8_wetBehind_0 σ x w = if w.toInt = 0 then (kf_l (x + (2 : Int32)) fun z2 => if (9 : Int32).toInt < z2.toInt then ((9 : Int32)) else (kf_l (x + (2 : Int32)) fun z3 => z3)) else (if 0 < x.toInt then (kf_l (x - (1 : Int32)) fun z1 => z1) else ((0 : Int32))) := rfl
abbrev p_X8_wetBehind_0 (T : Int) (σ : kw_S) (x : Int32) (w : Int32) : Option Value → kw_S → Prop := fun vv σ' => σ' = σ ∧ ∃ r : Int32, vv = some (.int r) ∧ r = f_X8_wetBehind_0 σ x w
set_option maxRecDepth 100000 in
set_option maxHeartbeats 4000000 in
theorem c_X8_wetBehind_0 (l : Launch) (T : Int) (hT0 : 0 ≤ T) (hT1 : T ≤ 3000) (σ : kw_S) (hI : kw_I (bM T) σ) (x : Int32) (w : Int32) : kw_Met l 1 KM mX8_wetBehind [.ref 0, .int x, .int w] σ (p_X8_wetBehind_0 T σ x w) := by
  have r_x := kw_rng x
  have r_w := kw_rng w
  have hF := (f_X8_wetBehind_0_u σ x w).symm
  have q_0 : (0 : Int32).toInt = 0 := rfl
  have q_1 : (1 : Int32).toInt = 1 := rfl
  have q_2 : (2 : Int32).toInt = 2 := rfl
  have q_9 : (9 : Int32).toInt = 9 := rfl
  refine kw_Met.of (by decide) rfl tX8_wetBehind (Nat.le_of_ble_eq_true rfl) ?_
  show kw_AW l 1 kw_E0 KM mX8_wetBehind (p_X8_wetBehind_0 T σ x w) 0 [(0, .ref 0), (1, .int x), (2, .int w)] [] σ
  refine kw_iload_n (pc := 0) (i := 0) (k := 2) (n := 2) rfl rfl rfl ?_
  refine kw_if_ne (pc := 1) (i := 1) (tgt := 23) rfl rfl (fun c1 => ?_) (fun c1 => ?_)
  · replace hF := kf_n c1 hF
    refine kw_iload_n (pc := 23) (i := 13) (k := 1) (n := 1) rfl rfl rfl ?_
    refine kw_if_le (pc := 24) (i := 14) (tgt := 33) rfl rfl (fun c2 => ?_) (fun c2 => ?_)
    · replace hF := kf_nl c2 hF
      refine kw_iconst (pc := 33) (i := 19) (v := 0) rfl rfl ?_
      exact kw_ireturn (pc := 34) (i := 20) (ty := .int) rfl rfl rfl ⟨rfl, _, rfl, hF⟩
    · replace hF := kf_p c2 hF
      refine kw_iload_n (pc := 27) (i := 15) (k := 1) (n := 1) rfl rfl rfl ?_
      refine kw_iconst (pc := 28) (i := 16) (v := 1) rfl rfl ?_
      refine kw_isub (pc := 29) (i := 17) rfl (fun z3 e_z3 t_z3 => ?_)
      replace hF := kf_le e_z3 hF
      first | (have u_z3 : z3.toInt = x.toInt - 1 := (by omega); clear t_z3) | skip
      refine kw_goto (pc := 30) (i := 18) (tgt := 34) rfl rfl ?_
      exact kw_ireturn (pc := 34) (i := 20) (ty := .int) rfl rfl rfl ⟨rfl, _, rfl, hF⟩
  · replace hF := kf_p c1 hF
    refine kw_iload_n (pc := 4) (i := 2) (k := 1) (n := 1) rfl rfl rfl ?_
    refine kw_iconst (pc := 5) (i := 3) (v := 2) rfl rfl ?_
    refine kw_iadd (pc := 6) (i := 4) rfl (fun z4 e_z4 t_z4 => ?_)
    replace hF := kf_le e_z4 hF
    first | (have u_z4 : z4.toInt = x.toInt + 2 := (by omega); clear t_z4) | skip
    refine kw_bipush (pc := 7) (i := 5) (v := 9) rfl rfl ?_
    refine kw_icmp_le (pc := 9) (i := 6) (tgt := 17) rfl rfl (fun c5 => ?_) (fun c5 => ?_)
    · replace hF := kf_nl c5 hF
      refine kw_iload_n (pc := 17) (i := 9) (k := 1) (n := 1) rfl rfl rfl ?_
      refine kw_iconst (pc := 18) (i := 10) (v := 2) rfl rfl ?_
      refine kw_iadd (pc := 19) (i := 11) rfl (fun z6 e_z6 t_z6 => ?_)
      replace hF := kf_le e_z6 hF
      first | (have u_z6 : z6.toInt = x.toInt + 2 := (by omega); clear t_z6) | skip
      refine kw_goto (pc := 20) (i := 12) (tgt := 34) rfl rfl ?_
      exact kw_ireturn (pc := 34) (i := 20) (ty := .int) rfl rfl rfl ⟨rfl, _, rfl, hF⟩
    · replace hF := kf_p c5 hF
      refine kw_bipush (pc := 12) (i := 7) (v := 9) rfl rfl ?_
      refine kw_goto (pc := 14) (i := 8) (tgt := 34) rfl rfl ?_
      exact kw_ireturn (pc := 34) (i := 20) (ty := .int) rfl rfl rfl ⟨rfl, _, rfl, hF⟩
noncomputable def l_X8_pass_0_41 (a1 : Int32) (a2 : Int32) : Nat → Int32 → kw_S → kw_S
  | 0, _, S => S
  | n + 1, x3, S => if x3.toInt < (S.1 0 10).toInt then (kf_l (f_X8_has S a1 x3) fun z7 => if z7.toInt = 0 then (kf_l (S.1 14 x3.toNatClampNeg) fun z8 => kf_l (x3 + Int32.ofInt 1) fun z9 => l_X8_pass_0_41 a1 a2 n z9 (kw_ui S 14 x3.toNatClampNeg z8)) else (kf_l (S.1 14 x3.toNatClampNeg) fun z10 => kf_l (f_X8_wetBehind_0 S z10 a2) fun z11 => kf_l (x3 + Int32.ofInt 1) fun z12 => l_X8_pass_0_41 a1 a2 n z12 (kw_ui S 14 x3.toNatClampNeg z11))) else (kf_l ((S.1 0 22) + (1 : Int32)) fun z6 => kw_ui S 0 22 z6)
theorem l_X8_pass_0_41_s (a1 : Int32) (a2 : Int32) (n : Nat) (x3 : Int32) (S : kw_S) : l_X8_pass_0_41 a1 a2 (n + 1) x3 S = if x3.toInt < (S.1 0 10).toInt then (kf_l (f_X8_has S a1 x3) fun z7 => if z7.toInt = 0 then (kf_l (S.1 14 x3.toNatClampNeg) fun z8 => kf_l (x3 + Int32.ofInt 1) fun z9 => l_X8_pass_0_41 a1 a2 n z9 (kw_ui S 14 x3.toNatClampNeg z8)) else (kf_l (S.1 14 x3.toNatClampNeg) fun z10 => kf_l (f_X8_wetBehind_0 S z10 a2) fun z11 => kf_l (x3 + Int32.ofInt 1) fun z12 => l_X8_pass_0_41 a1 a2 n z12 (kw_ui S 14 x3.toNatClampNeg z11))) else (kf_l ((S.1 0 22) + (1 : Int32)) fun z6 => kw_ui S 0 22 z6) := rfl
noncomputable def f_X8_pass_0 (σ : kw_S) (s : Int32) : kw_S := kf_l (f_X8_windAt_0 σ (σ.1 0 22)) fun z1 => kf_l (f_X8_milesBy_0 σ s z1) fun z2 => kf_l ((σ.1 0 23) + z2) fun z3 => kf_l (f_X8_turnBy_0 (kw_ui σ 0 23 z3) s z1) fun z4 => kf_l ((σ.1 0 24) + z4) fun z5 => l_X8_pass_0_41 s z1 ((7 - (0 : Int32).toInt).toNat + 1) (0 : Int32) (kw_ui (kw_ui σ 0 23 z3) 0 24 z5)
theorem f_X8_pass_0_u (σ : kw_S) (s : Int32) : f_X8_pass_0 σ s = kf_l (f_X8_windAt_0 σ (σ.1 0 22)) fun z1 => kf_l (f_X8_milesBy_0 σ s z1) fun z2 => kf_l ((σ.1 0 23) + z2) fun z3 => kf_l (f_X8_turnBy_0 (kw_ui σ 0 23 z3) s z1) fun z4 => kf_l ((σ.1 0 24) + z4) fun z5 => l_X8_pass_0_41 s z1 ((7 - (0 : Int32).toInt).toNat + 1) (0 : Int32) (kw_ui (kw_ui σ 0 23 z3) 0 24 z5) := rfl
abbrev p_X8_pass_0 (T : Int) (σ : kw_S) (s : Int32) : Option Value → kw_S → Prop := fun vv σ' => (kw_I (bM (T + 1)) σ' ∧ kw_FM [14, 1022, 1023, 1024] σ σ') ∧ vv = none ∧ (σ'.1 0 10).toInt = (σ.1 0 10).toInt ∧ (σ'.1 0 25).toInt = (σ.1 0 25).toInt ∧ (σ'.1 0 27).toInt = (σ.1 0 27).toInt ∧ σ' = f_X8_pass_0 σ s
set_option maxRecDepth 100000 in
set_option maxHeartbeats 4000000 in
theorem c_X8_pass_0 (l : Launch) (T : Int) (hT0 : 0 ≤ T) (hT1 : T ≤ 3000) (σ : kw_S) (hI : kw_I (bM T) σ) (s : Int32) : kw_Met l 4 KM mX8_pass [.ref 0, .int s] σ (p_X8_pass_0 T σ s) := by
  have r_s := kw_rng s
  have hF0 : kw_FM [14, 1022, 1023, 1024] σ σ := kw_FM.rf
  have hF := (f_X8_pass_0_u σ s).symm
  have q_0 : (0 : Int32).toInt = 0 := rfl
  have q_1 : (1 : Int32).toInt = 1 := rfl
  refine kw_Met.of (by decide) rfl tX8_pass (Nat.le_of_ble_eq_true rfl) ?_
  show kw_AW l 4 kw_E0 KM mX8_pass (p_X8_pass_0 T σ s) 0 [(0, .ref 0), (1, .int s)] [] σ
  refine kw_aload_n (pc := 0) (i := 0) (k := 0) (n := 0) rfl rfl rfl ?_
  refine kw_aload_n (pc := 1) (i := 1) (k := 0) (n := 0) rfl rfl rfl ?_
  refine kw_get (pc := 2) (i := 2) (v := .int (σ.1 0 22)) rfl rfl rfl lkX8_166 (fun _ => rfl) ?_
  have b1 : 0 ≤ (σ.1 0 22).toInt ∧ (σ.1 0 22).toInt ≤ T := hI 0 22
  refine kw_callV (pc := 5) (i := 3) (Y := mX8_windAt) (a := 0) (As := [.int (σ.1 0 22)]) (st := []) kw_hE rfl rfl lvX8_196 arX8_windAt (c_X8_windAt_0 l T hT0 hT1 σ hI (σ.1 0 22) (by first | omega | decide)) (by decide) (Nat.le_of_ble_eq_true rfl) rfl (fun v S3 p2 => ?_)
  obtain ⟨e6, z5, rfl, ef4⟩ := p2
  rw [e6]
  replace hF := kf_le ef4 hF
  have r_z5 := kw_rng z5
  show kw_AW l 4 kw_E0 KM mX8_pass (p_X8_pass_0 T σ s) 8 [(0, .ref 0), (1, .int s)] [.int z5] σ
  refine kw_istore_n (pc := 8) (i := 4) (n := 2) (lv' := [(2, .int z5), (0, .ref 0), (1, .int s)]) rfl rfl (by decide) rfl ?_
  refine kw_aload_n (pc := 9) (i := 5) (k := 1) (n := 0) rfl rfl rfl ?_
  refine kw_dup (pc := 10) (i := 6) rfl rfl ?_
  refine kw_get (pc := 11) (i := 7) (v := .int (σ.1 0 23)) rfl rfl rfl lkX8_169 (fun _ => rfl) ?_
  have b7 := kw_rng (σ.1 0 23)
  refine kw_aload_n (pc := 14) (i := 8) (k := 1) (n := 0) rfl rfl rfl ?_
  refine kw_iload_n (pc := 15) (i := 9) (k := 2) (n := 1) rfl rfl rfl ?_
  refine kw_iload_n (pc := 16) (i := 10) (k := 0) (n := 2) rfl rfl rfl ?_
  refine kw_callV (pc := 17) (i := 11) (Y := mX8_milesBy) (a := 0) (As := [.int s, .int z5]) (st := [.int (σ.1 0 23), .ref 0]) kw_hE rfl rfl lvX8_199 arX8_milesBy (c_X8_milesBy_0 l T hT0 hT1 σ hI s z5 ) (by decide) (Nat.le_of_ble_eq_true rfl) rfl (fun v S9 p8 => ?_)
  obtain ⟨e12, z11, rfl, ef10⟩ := p8
  rw [e12]
  replace hF := kf_le ef10 hF
  have r_z11 := kw_rng z11
  show kw_AW l 4 kw_E0 KM mX8_pass (p_X8_pass_0 T σ s) 20 [(2, .int z5), (0, .ref 0), (1, .int s)] [.int z11, .int (σ.1 0 23), .ref 0] σ
  refine kw_iadd (pc := 20) (i := 12) rfl (fun z13 e_z13 t_z13 => ?_)
  replace hF := kf_le e_z13 hF
  first | (have u_z13 : z13.toInt = (σ.1 0 23).toInt + z11.toInt := (by omega); clear t_z13) | skip
  refine kw_puti (pc := 21) (i := 13) (z := 0) rfl rfl rfl lpX8_169 rfl rfl ?_
  have I14 : kw_I (bM T) (kw_ui σ 0 23 z13) := kw_I_ui hI (kw_rng z13).1 (Int.le_of_lt_add_one (kw_rng z13).2)
  have F15 : kw_FM [14, 1022, 1023, 1024] σ (kw_ui σ 0 23 z13) := kw_FM_ui0 hF0 (by decide)
  refine kw_aload_n (pc := 24) (i := 14) (k := 1) (n := 0) rfl rfl rfl ?_
  refine kw_dup (pc := 25) (i := 15) rfl rfl ?_
  refine kw_get (pc := 26) (i := 16) (v := .int (σ.1 0 24)) rfl rfl rfl lkX8_172 (fun _ => rfl) ?_
  have b16 := kw_rng (σ.1 0 24)
  refine kw_aload_n (pc := 29) (i := 17) (k := 1) (n := 0) rfl rfl rfl ?_
  refine kw_iload_n (pc := 30) (i := 18) (k := 2) (n := 1) rfl rfl rfl ?_
  refine kw_iload_n (pc := 31) (i := 19) (k := 0) (n := 2) rfl rfl rfl ?_
  refine kw_callV (pc := 32) (i := 20) (Y := mX8_turnBy) (a := 0) (As := [.int s, .int z5]) (st := [.int (σ.1 0 24), .ref 0]) kw_hE rfl rfl lvX8_202 arX8_turnBy (c_X8_turnBy_0 l T hT0 hT1 (kw_ui σ 0 23 z13) I14 s z5 ) (by decide) (Nat.le_of_ble_eq_true rfl) rfl (fun v S18 p17 => ?_)
  obtain ⟨e21, z20, rfl, ef19⟩ := p17
  rw [e21]
  replace hF := kf_le ef19 hF
  have r_z20 := kw_rng z20
  show kw_AW l 4 kw_E0 KM mX8_pass (p_X8_pass_0 T σ s) 35 [(2, .int z5), (0, .ref 0), (1, .int s)] [.int z20, .int (σ.1 0 24), .ref 0] (kw_ui σ 0 23 z13)
  refine kw_iadd (pc := 35) (i := 21) rfl (fun z22 e_z22 t_z22 => ?_)
  replace hF := kf_le e_z22 hF
  first | (have u_z22 : z22.toInt = (σ.1 0 24).toInt + z20.toInt := (by omega); clear t_z22) | skip
  refine kw_puti (pc := 36) (i := 22) (z := 0) rfl rfl rfl lpX8_172 rfl rfl ?_
  have I23 : kw_I (bM T) (kw_ui (kw_ui σ 0 23 z13) 0 24 z22) := kw_I_ui I14 (kw_rng z22).1 (Int.le_of_lt_add_one (kw_rng z22).2)
  have F24 : kw_FM [14, 1022, 1023, 1024] σ (kw_ui (kw_ui σ 0 23 z13) 0 24 z22) := kw_FM_ui0 F15 (by decide)
  refine kw_iconst (pc := 39) (i := 23) (v := 0) rfl rfl ?_
  refine kw_istore_n (pc := 40) (i := 24) (n := 3) (lv' := [(3, .int 0), (2, .int z5), (0, .ref 0), (1, .int s)]) rfl rfl (by decide) rfl ?_
  have L29 : ∀ (n37 : Nat) (x25 : Int32) (S26 : kw_S), kw_I (bM T) S26 → kw_FM [14, 1022, 1023, 1024] σ S26 → 0 ≤ x25.toInt → (S26.1 0 22).toInt = (σ.1 0 22).toInt → (S26.1 0 10).toInt = (σ.1 0 10).toInt → (S26.1 0 25).toInt = (σ.1 0 25).toInt → (S26.1 0 27).toInt = (σ.1 0 27).toInt → l_X8_pass_0_41 s z5 n37 x25 S26 = (f_X8_pass_0 σ s) → (7 - x25.toInt).toNat < n37 → kw_AW l 4 kw_E0 KM mX8_pass (p_X8_pass_0 T σ s) 41 [(3, .int x25), (2, .int z5), (0, .ref 0), (1, .int s)] [] S26 := by
    intro n37
    induction n37 with
    | zero => intro x25 S26 I27 F28 v31 v32 v33 v34 v35 hF m36; exact absurd m36 (Nat.not_lt_zero _)
    | succ n37 ih30 =>
      intro x25 S26 I27 F28 v31 v32 v33 v34 v35 hF m36
      replace hF := kf_st (l_X8_pass_0_41_s _ _ _ _ _) hF
      have r_x25 := kw_rng x25
      refine kw_iload_n (pc := 41) (i := 25) (k := 0) (n := 3) rfl rfl rfl ?_
      refine kw_aload_n (pc := 42) (i := 26) (k := 2) (n := 0) rfl rfl rfl ?_
      refine kw_get (pc := 43) (i := 27) (v := .int (S26.1 0 10)) rfl rfl rfl lkX8_163 (fun _ => rfl) ?_
      have b38 : 0 ≤ (S26.1 0 10).toInt ∧ (S26.1 0 10).toInt ≤ 6 := I27 0 10
      refine kw_icmp_ge (pc := 46) (i := 28) (tgt := 89) rfl rfl (fun c39 => ?_) (fun c39 => ?_)
      · replace hF := kf_nl c39 hF
        refine kw_aload_n (pc := 89) (i := 51) (k := 2) (n := 0) rfl rfl rfl ?_
        refine kw_dup (pc := 90) (i := 52) rfl rfl ?_
        refine kw_get (pc := 91) (i := 53) (v := .int (S26.1 0 22)) rfl rfl rfl lkX8_166 (fun _ => rfl) ?_
        have b40 : 0 ≤ (S26.1 0 22).toInt ∧ (S26.1 0 22).toInt ≤ T := I27 0 22
        refine kw_iconst (pc := 94) (i := 54) (v := 1) rfl rfl ?_
        refine kw_iadd (pc := 95) (i := 55) rfl (fun z41 e_z41 t_z41 => ?_)
        replace hF := kf_le e_z41 hF
        first | (have u_z41 : z41.toInt = (S26.1 0 22).toInt + 1 := (by omega); clear t_z41) | skip
        have I42 := kw_monoM (T := T) (T' := (T + 1)) (by omega) I27
        refine kw_puti (pc := 96) (i := 56) (z := 0) rfl rfl rfl lpX8_166 rfl rfl ?_
        have I43 : kw_I (bM (T + 1)) (kw_ui S26 0 22 z41) := kw_I_ui I42 (show 0 ≤ z41.toInt by omega) (show z41.toInt ≤ (T + 1) by omega)
        have F44 : kw_FM [14, 1022, 1023, 1024] σ (kw_ui S26 0 22 z41) := kw_FM_ui0 F28 (by decide)
        exact kw_return (pc := 99) (i := 57) rfl rfl ⟨⟨I43, F44⟩, rfl, (show (S26.1 0 10).toInt = (σ.1 0 10).toInt from by omega), (show (S26.1 0 25).toInt = (σ.1 0 25).toInt from by omega), (show (S26.1 0 27).toInt = (σ.1 0 27).toInt from by omega), hF⟩
      · replace hF := kf_p c39 hF
        refine kw_aload_n (pc := 49) (i := 29) (k := 2) (n := 0) rfl rfl rfl ?_
        refine kw_get (pc := 50) (i := 30) (v := .ref 14) rfl rfl rfl lkX8_57 (fun _ => rfl) ?_
        refine kw_iload_n (pc := 53) (i := 31) (k := 0) (n := 3) rfl rfl rfl ?_
        refine kw_iload_n (pc := 54) (i := 32) (k := 3) (n := 1) rfl rfl rfl ?_
        refine kw_iload_n (pc := 55) (i := 33) (k := 0) (n := 3) rfl rfl rfl ?_
        refine kw_callS (pc := 56) (i := 34) (Y := mX8_has) (As := [.int s, .int x25]) (st := [.int x25, .ref 14]) kw_hE rfl lsX8_185 arX8_has (c_X8_has l T hT0 hT1 S26 I27 s x25 ) (by decide) (Nat.le_of_ble_eq_true rfl) rfl (fun v S46 p45 => ?_)
        obtain ⟨e50, z49, rfl, f47, ef48⟩ := p45
        rw [e50]
        replace hF := kf_le ef48 hF
        have r_z49 := kw_rng z49
        show kw_AW l 4 kw_E0 KM mX8_pass (p_X8_pass_0 T σ s) 59 [(3, .int x25), (2, .int z5), (0, .ref 0), (1, .int s)] [.int z49, .int x25, .ref 14] S26
        refine kw_if_eq (pc := 59) (i := 35) (tgt := 76) rfl rfl (fun c51 => ?_) (fun c51 => ?_)
        · replace hF := kf_p c51 hF
          refine kw_aload_n (pc := 76) (i := 44) (k := 2) (n := 0) rfl rfl rfl ?_
          refine kw_get (pc := 77) (i := 45) (v := .ref 14) rfl rfl rfl lkX8_57 (fun _ => rfl) ?_
          refine kw_iload_n (pc := 80) (i := 46) (k := 0) (n := 3) rfl rfl rfl ?_
          refine kw_iald (pc := 81) (i := 47) (n := 6) rfl rfl (by omega) (by omega) (fun z52 e_z52 => ?_)
          replace hF := kf_le e_z52 hF
          have t_z52 := congrArg Int32.toInt e_z52
          have r_z52 := kw_rng z52
          refine kw_iast (pc := 82) (i := 48) (n := 6) rfl rfl (by omega) (by omega) ?_
          have I53 : kw_I (bM T) (kw_ui S26 14 x25.toNatClampNeg z52) := kw_I_ui I27 (kw_rng z52).1 (Int.le_of_lt_add_one (kw_rng z52).2)
          have F54 : kw_FM [14, 1022, 1023, 1024] σ (kw_ui S26 14 x25.toNatClampNeg z52) := kw_FM_ui F28 (by decide) (by decide)
          refine kw_iinc' (pc := 83) (i := 49) (k := 0) (fun z => [(3, .int z), (2, .int z5), (0, .ref 0), (1, .int s)]) rfl rfl (by decide) rfl (fun _ => rfl) (fun z55 e_z55 t_z55 => ?_)
          replace hF := kf_le e_z55 hF
          first | (have u_z55 : z55.toInt = x25.toInt + 1 := (by omega); clear t_z55) | skip
          refine kw_goto (pc := 86) (i := 50) (tgt := 41) rfl rfl ?_
          refine kw_sub (lv' := [(3, .int z55), (2, .int z5), (0, .ref 0), (1, .int s)]) [0, 1, 2, 3] rfl ?_
          exact ih30 z55 (kw_ui S26 14 x25.toNatClampNeg z52) I53 F54 (by omega) (show (S26.1 0 22).toInt = (σ.1 0 22).toInt from by omega) (show (S26.1 0 10).toInt = (σ.1 0 10).toInt from by omega) (show (S26.1 0 25).toInt = (σ.1 0 25).toInt from by omega) (show (S26.1 0 27).toInt = (σ.1 0 27).toInt from by omega) hF (by omega)
        · replace hF := kf_n c51 hF
          refine kw_aload_n (pc := 62) (i := 36) (k := 2) (n := 0) rfl rfl rfl ?_
          refine kw_aload_n (pc := 63) (i := 37) (k := 2) (n := 0) rfl rfl rfl ?_
          refine kw_get (pc := 64) (i := 38) (v := .ref 14) rfl rfl rfl lkX8_57 (fun _ => rfl) ?_
          refine kw_iload_n (pc := 67) (i := 39) (k := 0) (n := 3) rfl rfl rfl ?_
          refine kw_iald (pc := 68) (i := 40) (n := 6) rfl rfl (by omega) (by omega) (fun z56 e_z56 => ?_)
          replace hF := kf_le e_z56 hF
          have t_z56 := congrArg Int32.toInt e_z56
          have r_z56 := kw_rng z56
          refine kw_iload_n (pc := 69) (i := 41) (k := 1) (n := 2) rfl rfl rfl ?_
          refine kw_callV (pc := 70) (i := 42) (Y := mX8_wetBehind) (a := 0) (As := [.int z56, .int z5]) (st := [.int x25, .ref 14]) kw_hE rfl rfl lvX8_205 arX8_wetBehind (c_X8_wetBehind_0 l T hT0 hT1 S26 I27 z56 z5 ) (by decide) (Nat.le_of_ble_eq_true rfl) rfl (fun v S58 p57 => ?_)
          obtain ⟨e61, z60, rfl, ef59⟩ := p57
          rw [e61]
          replace hF := kf_le ef59 hF
          have r_z60 := kw_rng z60
          show kw_AW l 4 kw_E0 KM mX8_pass (p_X8_pass_0 T σ s) 73 [(3, .int x25), (2, .int z5), (0, .ref 0), (1, .int s)] [.int z60, .int x25, .ref 14] S26
          refine kw_goto (pc := 73) (i := 43) (tgt := 82) rfl rfl ?_
          refine kw_iast (pc := 82) (i := 48) (n := 6) rfl rfl (by omega) (by omega) ?_
          have I62 : kw_I (bM T) (kw_ui S26 14 x25.toNatClampNeg z60) := kw_I_ui I27 (kw_rng z60).1 (Int.le_of_lt_add_one (kw_rng z60).2)
          have F63 : kw_FM [14, 1022, 1023, 1024] σ (kw_ui S26 14 x25.toNatClampNeg z60) := kw_FM_ui F28 (by decide) (by decide)
          refine kw_iinc' (pc := 83) (i := 49) (k := 0) (fun z => [(3, .int z), (2, .int z5), (0, .ref 0), (1, .int s)]) rfl rfl (by decide) rfl (fun _ => rfl) (fun z64 e_z64 t_z64 => ?_)
          replace hF := kf_le e_z64 hF
          first | (have u_z64 : z64.toInt = x25.toInt + 1 := (by omega); clear t_z64) | skip
          refine kw_goto (pc := 86) (i := 50) (tgt := 41) rfl rfl ?_
          refine kw_sub (lv' := [(3, .int z64), (2, .int z5), (0, .ref 0), (1, .int s)]) [0, 1, 2, 3] rfl ?_
          exact ih30 z64 (kw_ui S26 14 x25.toNatClampNeg z60) I62 F63 (by omega) (show (S26.1 0 22).toInt = (σ.1 0 22).toInt from by omega) (show (S26.1 0 10).toInt = (σ.1 0 10).toInt from by omega) (show (S26.1 0 25).toInt = (σ.1 0 25).toInt from by omega) (show (S26.1 0 27).toInt = (σ.1 0 27).toInt from by omega) hF (by omega)
  exact L29 _ 0 (kw_ui (kw_ui σ 0 23 z13) 0 24 z22) I23 F24 (by omega) (show (σ.1 0 22).toInt = (σ.1 0 22).toInt from by omega) (show (σ.1 0 10).toInt = (σ.1 0 10).toInt from by omega) (show (σ.1 0 25).toInt = (σ.1 0 25).toInt from by omega) (show (σ.1 0 27).toInt = (σ.1 0 27).toInt from by omega) hF (Nat.lt_succ_self _)
noncomputable def f_X8_turnLine_0 (σ : kw_S) (i : Int32) : kw_S := kf_l (f_X8_note_0 σ) fun S1 => kf_l ((1 : Int32) <<< (i &&& 31)) fun z2 => kf_l ((S1.1 0 25) ^^^ z2) fun z3 => kw_ui S1 0 25 z3
theorem f_X8_turnLine_0_u (σ : kw_S) (i : Int32) : f_X8_turnLine_0 σ i = kf_l (f_X8_note_0 σ) fun S1 => kf_l ((1 : Int32) <<< (i &&& 31)) fun z2 => kf_l ((S1.1 0 25) ^^^ z2) fun z3 => kw_ui S1 0 25 z3 := rfl
abbrev p_X8_turnLine_0 (T : Int) (σ : kw_S) (i : Int32) : Option Value → kw_S → Prop := fun vv σ' => (kw_I (bM T) σ' ∧ kw_FM [15, 1025, 1027] σ σ') ∧ vv = none ∧ (σ'.1 0 27).toInt = (σ.1 0 27).toInt + 1 ∧ (σ'.1 0 10).toInt = (σ.1 0 10).toInt ∧ (σ'.1 0 22).toInt = (σ.1 0 22).toInt ∧ σ' = f_X8_turnLine_0 σ i
set_option maxRecDepth 100000 in
set_option maxHeartbeats 4000000 in
theorem c_X8_turnLine_0 (l : Launch) (T : Int) (hT0 : 0 ≤ T) (hT1 : T ≤ 3000) (σ : kw_S) (hI : kw_I (bM T) σ) (i : Int32) (hp0 : 0 ≤ i.toInt) (hp1 : i.toInt ≤ 5) (hp2 : (σ.1 0 27).toInt ≤ 39) : kw_Met l 3 KM mX8_turnLine [.ref 0, .int i] σ (p_X8_turnLine_0 T σ i) := by
  have r_i := kw_rng i
  have hF0 : kw_FM [15, 1025, 1027] σ σ := kw_FM.rf
  have hF := (f_X8_turnLine_0_u σ i).symm
  have q_1 : (1 : Int32).toInt = 1 := rfl
  refine kw_Met.of (by decide) rfl tX8_turnLine (Nat.le_of_ble_eq_true rfl) ?_
  show kw_AW l 3 kw_E0 KM mX8_turnLine (p_X8_turnLine_0 T σ i) 0 [(0, .ref 0), (1, .int i)] [] σ
  refine kw_aload_n (pc := 0) (i := 0) (k := 0) (n := 0) rfl rfl rfl ?_
  refine kw_callV (pc := 1) (i := 1) (Y := mX8_note) (a := 0) (As := []) (st := []) kw_hE rfl rfl lvX8_208 arX8_note (c_X8_note_0 l T hT0 hT1 σ hI  (show (σ.1 0 27).toInt ≤ 39 from by omega)) (by decide) (Nat.le_of_ble_eq_true rfl) rfl (fun v S2 p1 => ?_)
  obtain ⟨⟨I8, F9⟩, rfl, f3, f4, f5, f6, ef7⟩ := p1
  have F10 : kw_FM [15, 1025, 1027] σ S2 := kw_FM.tr hF0 F9 (by decide)
  have w_11 : (S2.1 0 10).toInt = (σ.1 0 10).toInt := congrArg Int32.toInt (kw_FM.at0 (j := 10) F9 (by decide))
  have w_12 : (S2.1 0 22).toInt = (σ.1 0 22).toInt := congrArg Int32.toInt (kw_FM.at0 (j := 22) F9 (by decide))
  replace hF := kf_le ef7 hF
  have f3 : (S2.1 0 27).toInt = (σ.1 0 27).toInt + 1 := f3
  have f4 : (S2.1 0 10).toInt = (σ.1 0 10).toInt := f4
  have f5 : (S2.1 0 22).toInt = (σ.1 0 22).toInt := f5
  have f6 : (S2.1 0 25).toInt = (σ.1 0 25).toInt := f6
  show kw_AW l 3 kw_E0 KM mX8_turnLine (p_X8_turnLine_0 T σ i) 4 [(0, .ref 0), (1, .int i)] [] S2
  refine kw_aload_n (pc := 4) (i := 2) (k := 0) (n := 0) rfl rfl rfl ?_
  refine kw_dup (pc := 5) (i := 3) rfl rfl ?_
  refine kw_get (pc := 6) (i := 4) (v := .int (S2.1 0 25)) rfl rfl rfl lkX8_175 (fun _ => rfl) ?_
  have b13 : 0 ≤ (S2.1 0 25).toInt ∧ (S2.1 0 25).toInt ≤ 63 := I8 0 25
  refine kw_iconst (pc := 9) (i := 5) (v := 1) rfl rfl ?_
  refine kw_iload_n (pc := 10) (i := 6) (k := 1) (n := 1) rfl rfl rfl ?_
  refine kw_ishl (pc := 11) (i := 7) rfl (fun z14 e_z14 => ?_)
  have r_z14 := kw_rng z14
  replace hF := kf_le e_z14 hF
  have t_z14 := kw_shlm i z14 e_z14
  first | (replace t_z14 := And.intro (t_z14.1 (by omega) (by omega)) (t_z14.2 (by omega) (by omega))) | (replace t_z14 := t_z14.1 (by omega) (by omega)) | skip
  have u_z14 := congrArg Int32.toInt e_z14
  refine kw_ixor (pc := 12) (i := 8) rfl (fun z15 e_z15 => ?_)
  have r_z15 := kw_rng z15
  replace hF := kf_le e_z15 hF
  have t_z15 := kw_xor63 (S2.1 0 25) z14 z15 e_z15
  first | (replace t_z15 := t_z15 (by omega) (by omega) (by omega) (by omega)) | skip
  refine kw_puti (pc := 13) (i := 9) (z := 0) rfl rfl rfl lpX8_175 rfl rfl ?_
  have I16 : kw_I (bM T) (kw_ui S2 0 25 z15) := kw_I_ui I8 (show 0 ≤ z15.toInt by omega) (show z15.toInt ≤ 63 by omega)
  have F17 : kw_FM [15, 1025, 1027] σ (kw_ui S2 0 25 z15) := kw_FM_ui0 F10 (by decide)
  exact kw_return (pc := 16) (i := 10) rfl rfl ⟨⟨I16, F17⟩, rfl, (show (S2.1 0 27).toInt = (σ.1 0 27).toInt + 1 from by omega), (show (S2.1 0 10).toInt = (σ.1 0 10).toInt from by omega), (show (S2.1 0 22).toInt = (σ.1 0 22).toInt from by omega), hF⟩
noncomputable def f_X8_hang_0 (σ : kw_S) (i : Int32) : Int32 × kw_S := kf_l (f_X8_isLine_0 σ i) fun z1 => if z1.toInt = 0 then ((((-1) : Int32), σ)) else (kf_l (f_X8_has σ (σ.1 0 25) i) fun z2 => if z2.toInt = 0 then (if (σ.1 0 27).toInt = (40 : Int32).toInt then ((((-2) : Int32), σ)) else (kf_l (f_X8_turnLine_0 σ i) fun S3 => kf_l (f_X8_bits S3 (S3.1 0 25)) fun z4 => (z4, S3))) else ((((-4) : Int32), σ)))
theorem f_X8_hang_0_u (σ : kw_S) (i : Int32) : f_X8_hang_0 σ i = kf_l (f_X8_isLine_0 σ i) fun z1 => if z1.toInt = 0 then ((((-1) : Int32), σ)) else (kf_l (f_X8_has σ (σ.1 0 25) i) fun z2 => if z2.toInt = 0 then (if (σ.1 0 27).toInt = (40 : Int32).toInt then ((((-2) : Int32), σ)) else (kf_l (f_X8_turnLine_0 σ i) fun S3 => kf_l (f_X8_bits S3 (S3.1 0 25)) fun z4 => (z4, S3))) else ((((-4) : Int32), σ))) := rfl
abbrev p_X8_hang_0 (T : Int) (σ : kw_S) (i : Int32) : Option Value → kw_S → Prop := fun vv σ' => (kw_I (bM T) σ' ∧ kw_FM [15, 1025, 1027] σ σ') ∧ ∃ r : Int32, vv = some (.int r) ∧ (r, σ') = f_X8_hang_0 σ i
set_option maxRecDepth 100000 in
set_option maxHeartbeats 4000000 in
theorem c_X8_hang_0 (l : Launch) (T : Int) (hT0 : 0 ≤ T) (hT1 : T ≤ 3000) (σ : kw_S) (hI : kw_I (bM T) σ) (i : Int32) : kw_Met l 4 KM mX8_hang [.ref 0, .int i] σ (p_X8_hang_0 T σ i) := by
  have r_i := kw_rng i
  have hF0 : kw_FM [15, 1025, 1027] σ σ := kw_FM.rf
  have hF := (f_X8_hang_0_u σ i).symm
  have q_m4 : (-4 : Int32).toInt = -4 := rfl
  have q_m2 : (-2 : Int32).toInt = -2 := rfl
  have q_m1 : (-1 : Int32).toInt = -1 := rfl
  have q_40 : (40 : Int32).toInt = 40 := rfl
  refine kw_Met.of (by decide) rfl tX8_hang (Nat.le_of_ble_eq_true rfl) ?_
  show kw_AW l 4 kw_E0 KM mX8_hang (p_X8_hang_0 T σ i) 0 [(0, .ref 0), (1, .int i)] [] σ
  refine kw_aload_n (pc := 0) (i := 0) (k := 0) (n := 0) rfl rfl rfl ?_
  refine kw_iload_n (pc := 1) (i := 1) (k := 1) (n := 1) rfl rfl rfl ?_
  refine kw_callV (pc := 2) (i := 2) (Y := mX8_isLine) (a := 0) (As := [.int i]) (st := []) kw_hE rfl rfl lvX8_211 arX8_isLine (c_X8_isLine_0 l T hT0 hT1 σ hI i ) (by decide) (Nat.le_of_ble_eq_true rfl) rfl (fun v S2 p1 => ?_)
  obtain ⟨e7, z6, rfl, f3, f4, ef5⟩ := p1
  rw [e7]
  replace hF := kf_le ef5 hF
  have f4 : (z6.toInt = 0 ∨ 0 ≤ i.toInt ∧ i.toInt < (σ.1 0 10).toInt ∧ i.toInt ≤ 5) := f4
  have r_z6 := kw_rng z6
  show kw_AW l 4 kw_E0 KM mX8_hang (p_X8_hang_0 T σ i) 5 [(0, .ref 0), (1, .int i)] [.int z6] σ
  refine kw_if_ne (pc := 5) (i := 3) (tgt := 10) rfl rfl (fun c8 => ?_) (fun c8 => ?_)
  · replace hF := kf_n c8 hF
    refine kw_aload_n (pc := 10) (i := 6) (k := 0) (n := 0) rfl rfl rfl ?_
    refine kw_get (pc := 11) (i := 7) (v := .int (σ.1 0 25)) rfl rfl rfl lkX8_175 (fun _ => rfl) ?_
    have b9 : 0 ≤ (σ.1 0 25).toInt ∧ (σ.1 0 25).toInt ≤ 63 := hI 0 25
    refine kw_iload_n (pc := 14) (i := 8) (k := 1) (n := 1) rfl rfl rfl ?_
    refine kw_callS (pc := 15) (i := 9) (Y := mX8_has) (As := [.int (σ.1 0 25), .int i]) (st := []) kw_hE rfl lsX8_185 arX8_has (c_X8_has l T hT0 hT1 σ hI (σ.1 0 25) i ) (by decide) (Nat.le_of_ble_eq_true rfl) rfl (fun v S11 p10 => ?_)
    obtain ⟨e15, z14, rfl, f12, ef13⟩ := p10
    rw [e15]
    replace hF := kf_le ef13 hF
    have r_z14 := kw_rng z14
    show kw_AW l 4 kw_E0 KM mX8_hang (p_X8_hang_0 T σ i) 18 [(0, .ref 0), (1, .int i)] [.int z14] σ
    refine kw_if_eq (pc := 18) (i := 10) (tgt := 24) rfl rfl (fun c16 => ?_) (fun c16 => ?_)
    · replace hF := kf_p c16 hF
      refine kw_aload_n (pc := 24) (i := 13) (k := 0) (n := 0) rfl rfl rfl ?_
      refine kw_get (pc := 25) (i := 14) (v := .int (σ.1 0 27)) rfl rfl rfl lkX8_178 (fun _ => rfl) ?_
      have b17 : 0 ≤ (σ.1 0 27).toInt ∧ (σ.1 0 27).toInt ≤ 40 := hI 0 27
      refine kw_bipush (pc := 28) (i := 15) (v := 40) rfl rfl ?_
      refine kw_icmp_ne (pc := 30) (i := 16) (tgt := 36) rfl rfl (fun c18 => ?_) (fun c18 => ?_)
      · replace hF := kf_n c18 hF
        refine kw_aload_n (pc := 36) (i := 19) (k := 0) (n := 0) rfl rfl rfl ?_
        refine kw_iload_n (pc := 37) (i := 20) (k := 1) (n := 1) rfl rfl rfl ?_
        refine kw_callV (pc := 38) (i := 21) (Y := mX8_turnLine) (a := 0) (As := [.int i]) (st := []) kw_hE rfl rfl lvX8_214 arX8_turnLine (c_X8_turnLine_0 l T hT0 hT1 σ hI i (by first | omega | decide) (by first | omega | decide) (show (σ.1 0 27).toInt ≤ 39 from by omega)) (by decide) (Nat.le_of_ble_eq_true rfl) rfl (fun v S20 p19 => ?_)
        obtain ⟨⟨I25, F26⟩, rfl, f21, f22, f23, ef24⟩ := p19
        have F27 : kw_FM [15, 1025, 1027] σ S20 := kw_FM.tr hF0 F26 (by decide)
        replace hF := kf_le ef24 hF
        have f21 : (S20.1 0 27).toInt = (σ.1 0 27).toInt + 1 := f21
        have f22 : (S20.1 0 10).toInt = (σ.1 0 10).toInt := f22
        have f23 : (S20.1 0 22).toInt = (σ.1 0 22).toInt := f23
        show kw_AW l 4 kw_E0 KM mX8_hang (p_X8_hang_0 T σ i) 41 [(0, .ref 0), (1, .int i)] [] S20
        refine kw_aload_n (pc := 41) (i := 22) (k := 0) (n := 0) rfl rfl rfl ?_
        refine kw_get (pc := 42) (i := 23) (v := .int (S20.1 0 25)) rfl rfl rfl lkX8_175 (fun _ => rfl) ?_
        have b28 : 0 ≤ (S20.1 0 25).toInt ∧ (S20.1 0 25).toInt ≤ 63 := I25 0 25
        refine kw_callS (pc := 45) (i := 24) (Y := mX8_bits) (As := [.int (S20.1 0 25)]) (st := []) kw_hE rfl lsX8_217 arX8_bits (c_X8_bits l T hT0 hT1 S20 I25 (S20.1 0 25) ) (by decide) (Nat.le_of_ble_eq_true rfl) rfl (fun v S30 p29 => ?_)
        obtain ⟨e33, z32, rfl, ef31⟩ := p29
        rw [e33]
        replace hF := kf_le ef31 hF
        have r_z32 := kw_rng z32
        show kw_AW l 4 kw_E0 KM mX8_hang (p_X8_hang_0 T σ i) 48 [(0, .ref 0), (1, .int i)] [.int z32] S20
        exact kw_ireturn (pc := 48) (i := 25) (ty := .int) rfl rfl rfl ⟨⟨I25, F27⟩, _, rfl, hF⟩
      · replace hF := kf_p c18 hF
        refine kw_bipush (pc := 33) (i := 17) (v := (-2)) rfl rfl ?_
        exact kw_ireturn (pc := 35) (i := 18) (ty := .int) rfl rfl rfl ⟨⟨hI, hF0⟩, _, rfl, hF⟩
    · replace hF := kf_n c16 hF
      refine kw_bipush (pc := 21) (i := 11) (v := (-4)) rfl rfl ?_
      exact kw_ireturn (pc := 23) (i := 12) (ty := .int) rfl rfl rfl ⟨⟨hI, hF0⟩, _, rfl, hF⟩
  · replace hF := kf_p c8 hF
    refine kw_iconst (pc := 8) (i := 4) (v := (-1)) rfl rfl ?_
    exact kw_ireturn (pc := 9) (i := 5) (ty := .int) rfl rfl rfl ⟨⟨hI, hF0⟩, _, rfl, hF⟩
noncomputable def f_X8_take_0 (σ : kw_S) (i : Int32) : Int32 × kw_S := kf_l (f_X8_isLine_0 σ i) fun z1 => if z1.toInt = 0 then ((((-1) : Int32), σ)) else (kf_l (f_X8_has σ (σ.1 0 25) i) fun z2 => if z2.toInt = 0 then ((((-4) : Int32), σ)) else (if (σ.1 0 27).toInt = (40 : Int32).toInt then ((((-2) : Int32), σ)) else (kf_l (f_X8_turnLine_0 σ i) fun S3 => kf_l (S3.1 14 i.toNatClampNeg) fun z4 => (z4, S3))))
theorem f_X8_take_0_u (σ : kw_S) (i : Int32) : f_X8_take_0 σ i = kf_l (f_X8_isLine_0 σ i) fun z1 => if z1.toInt = 0 then ((((-1) : Int32), σ)) else (kf_l (f_X8_has σ (σ.1 0 25) i) fun z2 => if z2.toInt = 0 then ((((-4) : Int32), σ)) else (if (σ.1 0 27).toInt = (40 : Int32).toInt then ((((-2) : Int32), σ)) else (kf_l (f_X8_turnLine_0 σ i) fun S3 => kf_l (S3.1 14 i.toNatClampNeg) fun z4 => (z4, S3)))) := rfl
abbrev p_X8_take_0 (T : Int) (σ : kw_S) (i : Int32) : Option Value → kw_S → Prop := fun vv σ' => (kw_I (bM T) σ' ∧ kw_FM [15, 1025, 1027] σ σ') ∧ ∃ r : Int32, vv = some (.int r) ∧ (r, σ') = f_X8_take_0 σ i
set_option maxRecDepth 100000 in
set_option maxHeartbeats 4000000 in
theorem c_X8_take_0 (l : Launch) (T : Int) (hT0 : 0 ≤ T) (hT1 : T ≤ 3000) (σ : kw_S) (hI : kw_I (bM T) σ) (i : Int32) : kw_Met l 4 KM mX8_take [.ref 0, .int i] σ (p_X8_take_0 T σ i) := by
  have r_i := kw_rng i
  have hF0 : kw_FM [15, 1025, 1027] σ σ := kw_FM.rf
  have hF := (f_X8_take_0_u σ i).symm
  have q_m4 : (-4 : Int32).toInt = -4 := rfl
  have q_m2 : (-2 : Int32).toInt = -2 := rfl
  have q_m1 : (-1 : Int32).toInt = -1 := rfl
  have q_40 : (40 : Int32).toInt = 40 := rfl
  refine kw_Met.of (by decide) rfl tX8_take (Nat.le_of_ble_eq_true rfl) ?_
  show kw_AW l 4 kw_E0 KM mX8_take (p_X8_take_0 T σ i) 0 [(0, .ref 0), (1, .int i)] [] σ
  refine kw_aload_n (pc := 0) (i := 0) (k := 0) (n := 0) rfl rfl rfl ?_
  refine kw_iload_n (pc := 1) (i := 1) (k := 1) (n := 1) rfl rfl rfl ?_
  refine kw_callV (pc := 2) (i := 2) (Y := mX8_isLine) (a := 0) (As := [.int i]) (st := []) kw_hE rfl rfl lvX8_211 arX8_isLine (c_X8_isLine_0 l T hT0 hT1 σ hI i ) (by decide) (Nat.le_of_ble_eq_true rfl) rfl (fun v S2 p1 => ?_)
  obtain ⟨e7, z6, rfl, f3, f4, ef5⟩ := p1
  rw [e7]
  replace hF := kf_le ef5 hF
  have f4 : (z6.toInt = 0 ∨ 0 ≤ i.toInt ∧ i.toInt < (σ.1 0 10).toInt ∧ i.toInt ≤ 5) := f4
  have r_z6 := kw_rng z6
  show kw_AW l 4 kw_E0 KM mX8_take (p_X8_take_0 T σ i) 5 [(0, .ref 0), (1, .int i)] [.int z6] σ
  refine kw_if_ne (pc := 5) (i := 3) (tgt := 10) rfl rfl (fun c8 => ?_) (fun c8 => ?_)
  · replace hF := kf_n c8 hF
    refine kw_aload_n (pc := 10) (i := 6) (k := 0) (n := 0) rfl rfl rfl ?_
    refine kw_get (pc := 11) (i := 7) (v := .int (σ.1 0 25)) rfl rfl rfl lkX8_175 (fun _ => rfl) ?_
    have b9 : 0 ≤ (σ.1 0 25).toInt ∧ (σ.1 0 25).toInt ≤ 63 := hI 0 25
    refine kw_iload_n (pc := 14) (i := 8) (k := 1) (n := 1) rfl rfl rfl ?_
    refine kw_callS (pc := 15) (i := 9) (Y := mX8_has) (As := [.int (σ.1 0 25), .int i]) (st := []) kw_hE rfl lsX8_185 arX8_has (c_X8_has l T hT0 hT1 σ hI (σ.1 0 25) i ) (by decide) (Nat.le_of_ble_eq_true rfl) rfl (fun v S11 p10 => ?_)
    obtain ⟨e15, z14, rfl, f12, ef13⟩ := p10
    rw [e15]
    replace hF := kf_le ef13 hF
    have r_z14 := kw_rng z14
    show kw_AW l 4 kw_E0 KM mX8_take (p_X8_take_0 T σ i) 18 [(0, .ref 0), (1, .int i)] [.int z14] σ
    refine kw_if_ne (pc := 18) (i := 10) (tgt := 24) rfl rfl (fun c16 => ?_) (fun c16 => ?_)
    · replace hF := kf_n c16 hF
      refine kw_aload_n (pc := 24) (i := 13) (k := 0) (n := 0) rfl rfl rfl ?_
      refine kw_get (pc := 25) (i := 14) (v := .int (σ.1 0 27)) rfl rfl rfl lkX8_178 (fun _ => rfl) ?_
      have b17 : 0 ≤ (σ.1 0 27).toInt ∧ (σ.1 0 27).toInt ≤ 40 := hI 0 27
      refine kw_bipush (pc := 28) (i := 15) (v := 40) rfl rfl ?_
      refine kw_icmp_ne (pc := 30) (i := 16) (tgt := 36) rfl rfl (fun c18 => ?_) (fun c18 => ?_)
      · replace hF := kf_n c18 hF
        refine kw_aload_n (pc := 36) (i := 19) (k := 0) (n := 0) rfl rfl rfl ?_
        refine kw_iload_n (pc := 37) (i := 20) (k := 1) (n := 1) rfl rfl rfl ?_
        refine kw_callV (pc := 38) (i := 21) (Y := mX8_turnLine) (a := 0) (As := [.int i]) (st := []) kw_hE rfl rfl lvX8_214 arX8_turnLine (c_X8_turnLine_0 l T hT0 hT1 σ hI i (by first | omega | decide) (by first | omega | decide) (show (σ.1 0 27).toInt ≤ 39 from by omega)) (by decide) (Nat.le_of_ble_eq_true rfl) rfl (fun v S20 p19 => ?_)
        obtain ⟨⟨I25, F26⟩, rfl, f21, f22, f23, ef24⟩ := p19
        have F27 : kw_FM [15, 1025, 1027] σ S20 := kw_FM.tr hF0 F26 (by decide)
        replace hF := kf_le ef24 hF
        have f21 : (S20.1 0 27).toInt = (σ.1 0 27).toInt + 1 := f21
        have f22 : (S20.1 0 10).toInt = (σ.1 0 10).toInt := f22
        have f23 : (S20.1 0 22).toInt = (σ.1 0 22).toInt := f23
        show kw_AW l 4 kw_E0 KM mX8_take (p_X8_take_0 T σ i) 41 [(0, .ref 0), (1, .int i)] [] S20
        refine kw_aload_n (pc := 41) (i := 22) (k := 0) (n := 0) rfl rfl rfl ?_
        refine kw_get (pc := 42) (i := 23) (v := .ref 14) rfl rfl rfl lkX8_57 (fun _ => rfl) ?_
        refine kw_iload_n (pc := 45) (i := 24) (k := 1) (n := 1) rfl rfl rfl ?_
        refine kw_iald (pc := 46) (i := 25) (n := 6) rfl rfl (by omega) (by omega) (fun z28 e_z28 => ?_)
        replace hF := kf_le e_z28 hF
        have t_z28 := congrArg Int32.toInt e_z28
        have r_z28 := kw_rng z28
        exact kw_ireturn (pc := 47) (i := 26) (ty := .int) rfl rfl rfl ⟨⟨I25, F27⟩, _, rfl, hF⟩
      · replace hF := kf_p c18 hF
        refine kw_bipush (pc := 33) (i := 17) (v := (-2)) rfl rfl ?_
        exact kw_ireturn (pc := 35) (i := 18) (ty := .int) rfl rfl rfl ⟨⟨hI, hF0⟩, _, rfl, hF⟩
    · replace hF := kf_p c16 hF
      refine kw_bipush (pc := 21) (i := 11) (v := (-4)) rfl rfl ?_
      exact kw_ireturn (pc := 23) (i := 12) (ty := .int) rfl rfl rfl ⟨⟨hI, hF0⟩, _, rfl, hF⟩
  · replace hF := kf_p c8 hF
    refine kw_iconst (pc := 8) (i := 4) (v := (-1)) rfl rfl ?_
    exact kw_ireturn (pc := 9) (i := 5) (ty := .int) rfl rfl rfl ⟨⟨hI, hF0⟩, _, rfl, hF⟩
noncomputable def f_X8_hour_0 (σ : kw_S)  : Int32 × kw_S := if (σ.1 0 10).toInt = 0 then ((((-4) : Int32), σ)) else (if (σ.1 0 27).toInt = (40 : Int32).toInt then ((((-2) : Int32), σ)) else (kf_l (f_X8_note_0 σ) fun S1 => kf_l (f_X8_pass_0 S1 (S1.1 0 25)) fun S2 => kf_l (S2.1 0 24).toInt64 fun z3 => kf_b (f_X8_part_0 S2 z3 (1 : Int64)) fun z4 S5 => kf_b (f_X8_ask_0 S5 (S5.1 0 23) (1 : Int32)) fun z6 S7 => (z6, S7)))
theorem f_X8_hour_0_u (σ : kw_S)  : f_X8_hour_0 σ  = if (σ.1 0 10).toInt = 0 then ((((-4) : Int32), σ)) else (if (σ.1 0 27).toInt = (40 : Int32).toInt then ((((-2) : Int32), σ)) else (kf_l (f_X8_note_0 σ) fun S1 => kf_l (f_X8_pass_0 S1 (S1.1 0 25)) fun S2 => kf_l (S2.1 0 24).toInt64 fun z3 => kf_b (f_X8_part_0 S2 z3 (1 : Int64)) fun z4 S5 => kf_b (f_X8_ask_0 S5 (S5.1 0 23) (1 : Int32)) fun z6 S7 => (z6, S7))) := rfl
abbrev p_X8_hour_0 (T : Int) (σ : kw_S)  : Option Value → kw_S → Prop := fun vv σ' => (kw_I (bM (T + 1)) σ' ∧ kw_FM [14, 15, 1002, 1022, 1023, 1024, 1027, 2003, 2004] σ σ') ∧ ∃ r : Int32, vv = some (.int r) ∧ (r, σ') = f_X8_hour_0 σ
set_option maxRecDepth 100000 in
set_option maxHeartbeats 4000000 in
theorem c_X8_hour_0 (l : Launch) (T : Int) (hT0 : 0 ≤ T) (hT1 : T ≤ 3000) (σ : kw_S) (hI : kw_I (bM T) σ) (hp0 : T ≤ 2000) : kw_Met l 5 KM mX8_hour [.ref 0] σ (p_X8_hour_0 T σ) := by
  have hF0 : kw_FM [14, 15, 1002, 1022, 1023, 1024, 1027, 2003, 2004] σ σ := kw_FM.rf
  have hF := (f_X8_hour_0_u σ).symm
  have q_m4 : (-4 : Int32).toInt = -4 := rfl
  have q_m2 : (-2 : Int32).toInt = -2 := rfl
  have q_1 : (1 : Int32).toInt = 1 := rfl
  have q_40 : (40 : Int32).toInt = 40 := rfl
  refine kw_Met.of (by decide) rfl tX8_hour (Nat.le_of_ble_eq_true rfl) ?_
  show kw_AW l 5 kw_E0 KM mX8_hour (p_X8_hour_0 T σ) 0 [(0, .ref 0)] [] σ
  refine kw_aload_n (pc := 0) (i := 0) (k := 0) (n := 0) rfl rfl rfl ?_
  refine kw_get (pc := 1) (i := 1) (v := .int (σ.1 0 10)) rfl rfl rfl lkX8_163 (fun _ => rfl) ?_
  have b1 : 0 ≤ (σ.1 0 10).toInt ∧ (σ.1 0 10).toInt ≤ 6 := hI 0 10
  refine kw_if_ne (pc := 4) (i := 2) (tgt := 10) rfl rfl (fun c2 => ?_) (fun c2 => ?_)
  · replace hF := kf_n c2 hF
    refine kw_aload_n (pc := 10) (i := 5) (k := 0) (n := 0) rfl rfl rfl ?_
    refine kw_get (pc := 11) (i := 6) (v := .int (σ.1 0 27)) rfl rfl rfl lkX8_178 (fun _ => rfl) ?_
    have b3 : 0 ≤ (σ.1 0 27).toInt ∧ (σ.1 0 27).toInt ≤ 40 := hI 0 27
    refine kw_bipush (pc := 14) (i := 7) (v := 40) rfl rfl ?_
    refine kw_icmp_ne (pc := 16) (i := 8) (tgt := 22) rfl rfl (fun c4 => ?_) (fun c4 => ?_)
    · replace hF := kf_n c4 hF
      refine kw_aload_n (pc := 22) (i := 11) (k := 0) (n := 0) rfl rfl rfl ?_
      refine kw_callV (pc := 23) (i := 12) (Y := mX8_note) (a := 0) (As := []) (st := []) kw_hE rfl rfl lvX8_208 arX8_note (c_X8_note_0 l T hT0 hT1 σ hI  (show (σ.1 0 27).toInt ≤ 39 from by omega)) (by decide) (Nat.le_of_ble_eq_true rfl) rfl (fun v S6 p5 => ?_)
      obtain ⟨⟨I12, F13⟩, rfl, f7, f8, f9, f10, ef11⟩ := p5
      have F14 : kw_FM [14, 15, 1002, 1022, 1023, 1024, 1027, 2003, 2004] σ S6 := kw_FM.tr hF0 F13 (by decide)
      replace hF := kf_le ef11 hF
      have f7 : (S6.1 0 27).toInt = (σ.1 0 27).toInt + 1 := f7
      have f8 : (S6.1 0 10).toInt = (σ.1 0 10).toInt := f8
      have f9 : (S6.1 0 22).toInt = (σ.1 0 22).toInt := f9
      have f10 : (S6.1 0 25).toInt = (σ.1 0 25).toInt := f10
      show kw_AW l 5 kw_E0 KM mX8_hour (p_X8_hour_0 T σ) 26 [(0, .ref 0)] [] S6
      refine kw_aload_n (pc := 26) (i := 13) (k := 0) (n := 0) rfl rfl rfl ?_
      refine kw_aload_n (pc := 27) (i := 14) (k := 0) (n := 0) rfl rfl rfl ?_
      refine kw_get (pc := 28) (i := 15) (v := .int (S6.1 0 25)) rfl rfl rfl lkX8_175 (fun _ => rfl) ?_
      have b15 : 0 ≤ (S6.1 0 25).toInt ∧ (S6.1 0 25).toInt ≤ 63 := I12 0 25
      refine kw_callV (pc := 31) (i := 16) (Y := mX8_pass) (a := 0) (As := [.int (S6.1 0 25)]) (st := []) kw_hE rfl rfl lvX8_220 arX8_pass (c_X8_pass_0 l T hT0 hT1 S6 I12 (S6.1 0 25) ) (by decide) (Nat.le_of_ble_eq_true rfl) rfl (fun v S17 p16 => ?_)
      obtain ⟨⟨I22, F23⟩, rfl, f18, f19, f20, ef21⟩ := p16
      have F24 : kw_FM [14, 15, 1002, 1022, 1023, 1024, 1027, 2003, 2004] σ S17 := kw_FM.tr F14 F23 (by decide)
      have w_25 : (S17.1 0 27).toInt = (S6.1 0 27).toInt := congrArg Int32.toInt (kw_FM.at0 (j := 27) F23 (by decide))
      replace hF := kf_le ef21 hF
      have f18 : (S17.1 0 10).toInt = (S6.1 0 10).toInt := f18
      have f19 : (S17.1 0 25).toInt = (S6.1 0 25).toInt := f19
      have f20 : (S17.1 0 27).toInt = (S6.1 0 27).toInt := f20
      show kw_AW l 5 kw_E0 KM mX8_hour (p_X8_hour_0 T σ) 34 [(0, .ref 0)] [] S17
      refine kw_aload_n (pc := 34) (i := 17) (k := 0) (n := 0) rfl rfl rfl ?_
      refine kw_aload_n (pc := 35) (i := 18) (k := 0) (n := 0) rfl rfl rfl ?_
      refine kw_get (pc := 36) (i := 19) (v := .int (S17.1 0 24)) rfl rfl rfl lkX8_172 (fun _ => rfl) ?_
      have b26 := kw_rng (S17.1 0 24)
      refine kw_i2l (pc := 39) (i := 20) rfl (fun z27 e_z27 t_z27 => ?_)
      replace hF := kf_le e_z27 hF
      refine kw_lconst (pc := 40) (i := 21) (v := 1) rfl rfl ?_
      refine kw_callV (pc := 41) (i := 22) (Y := mX8_part) (a := 0) (As := [.long z27, .long 1]) (st := []) kw_hE rfl rfl lvX8_223 arX8_part (c_X8_part_0 l (T + 1) (by omega) (by omega) S17 I22 z27 1 (by first | omega | decide)) (by decide) (Nat.le_of_ble_eq_true rfl) rfl (fun v S29 p28 => ?_)
      obtain ⟨⟨I33, F34⟩, z32, rfl, f30, ef31⟩ := p28
      have F35 : kw_FM [14, 15, 1002, 1022, 1023, 1024, 1027, 2003, 2004] σ S29 := kw_FM.tr F24 F34 (by decide)
      have w_36 : (S29.1 0 27).toInt = (S17.1 0 27).toInt := congrArg Int32.toInt (kw_FM.at0 (j := 27) F34 (by decide))
      replace hF := kf_be ef31 hF
      have r_z32 := kw_rng z32
      show kw_AW l 5 kw_E0 KM mX8_hour (p_X8_hour_0 T σ) 44 [(0, .ref 0)] [.int z32] S29
      refine kw_pop (pc := 44) (i := 23) rfl rfl ?_
      refine kw_aload_n (pc := 45) (i := 24) (k := 0) (n := 0) rfl rfl rfl ?_
      refine kw_aload_n (pc := 46) (i := 25) (k := 0) (n := 0) rfl rfl rfl ?_
      refine kw_get (pc := 47) (i := 26) (v := .int (S29.1 0 23)) rfl rfl rfl lkX8_169 (fun _ => rfl) ?_
      have b37 := kw_rng (S29.1 0 23)
      refine kw_iconst (pc := 50) (i := 27) (v := 1) rfl rfl ?_
      refine kw_callV (pc := 51) (i := 28) (Y := mX8_ask) (a := 0) (As := [.int (S29.1 0 23), .int 1]) (st := []) kw_hE rfl rfl lvX8_119 arX8_ask (c_X8_ask_0 l (T + 1) (by omega) (by omega) S29 I33 (S29.1 0 23) 1 ) (by decide) (Nat.le_of_ble_eq_true rfl) rfl (fun v S39 p38 => ?_)
      obtain ⟨⟨I43, F44⟩, z42, rfl, f40, ef41⟩ := p38
      have F45 : kw_FM [14, 15, 1002, 1022, 1023, 1024, 1027, 2003, 2004] σ S39 := kw_FM.tr F35 F44 (by decide)
      have w_46 : (S39.1 0 27).toInt = (S29.1 0 27).toInt := congrArg Int32.toInt (kw_FM.at0 (j := 27) F44 (by decide))
      replace hF := kf_be ef41 hF
      have r_z42 := kw_rng z42
      show kw_AW l 5 kw_E0 KM mX8_hour (p_X8_hour_0 T σ) 54 [(0, .ref 0)] [.int z42] S39
      exact kw_ireturn (pc := 54) (i := 29) (ty := .int) rfl rfl rfl ⟨⟨I43, F45⟩, _, rfl, hF⟩
    · replace hF := kf_p c4 hF
      refine kw_bipush (pc := 19) (i := 9) (v := (-2)) rfl rfl ?_
      exact kw_ireturn (pc := 21) (i := 10) (ty := .int) rfl rfl rfl ⟨⟨(kw_monoM (by omega) hI), hF0⟩, _, rfl, hF⟩
  · replace hF := kf_p c2 hF
    refine kw_bipush (pc := 7) (i := 3) (v := (-4)) rfl rfl ?_
    exact kw_ireturn (pc := 9) (i := 4) (ty := .int) rfl rfl rfl ⟨⟨(kw_monoM (by omega) hI), hF0⟩, _, rfl, hF⟩
noncomputable def f_X8_undo_0 (σ : kw_S) (n : Int32) : Int32 × kw_S := kf_l (f_X8_in σ n (0 : Int32) (σ.1 0 27)) fun z1 => if z1.toInt = 0 then ((((-1) : Int32), σ)) else (kf_l ((σ.1 0 27) - n) fun z2 => if 0 < z2.toInt then (kf_l ((10 : Int32) * n) fun z3 => kf_l (f_X8_read_0_15 σ z3) fun S4 => (z2, kw_ui S4 0 27 n)) else ((z2, σ)))
theorem f_X8_undo_0_u (σ : kw_S) (n : Int32) : f_X8_undo_0 σ n = kf_l (f_X8_in σ n (0 : Int32) (σ.1 0 27)) fun z1 => if z1.toInt = 0 then ((((-1) : Int32), σ)) else (kf_l ((σ.1 0 27) - n) fun z2 => if 0 < z2.toInt then (kf_l ((10 : Int32) * n) fun z3 => kf_l (f_X8_read_0_15 σ z3) fun S4 => (z2, kw_ui S4 0 27 n)) else ((z2, σ))) := rfl
abbrev p_X8_undo_0 (T : Int) (σ : kw_S) (n : Int32) : Option Value → kw_S → Prop := fun vv σ' => (kw_I (bM T) σ' ∧ kw_FM [14, 1022, 1023, 1024, 1025, 1027] σ σ') ∧ ∃ r : Int32, vv = some (.int r) ∧ (r, σ') = f_X8_undo_0 σ n
set_option maxRecDepth 100000 in
set_option maxHeartbeats 4000000 in
theorem c_X8_undo_0 (l : Launch) (T : Int) (hT0 : 0 ≤ T) (hT1 : T ≤ 3000) (σ : kw_S) (hI : kw_I (bM T) σ) (n : Int32) : kw_Met l 2 KM mX8_undo [.ref 0, .int n] σ (p_X8_undo_0 T σ n) := by
  have r_n := kw_rng n
  have hF0 : kw_FM [14, 1022, 1023, 1024, 1025, 1027] σ σ := kw_FM.rf
  have hF := (f_X8_undo_0_u σ n).symm
  have q_m1 : (-1 : Int32).toInt = -1 := rfl
  have q_0 : (0 : Int32).toInt = 0 := rfl
  have q_10 : (10 : Int32).toInt = 10 := rfl
  refine kw_Met.of (by decide) rfl tX8_undo (Nat.le_of_ble_eq_true rfl) ?_
  show kw_AW l 2 kw_E0 KM mX8_undo (p_X8_undo_0 T σ n) 0 [(0, .ref 0), (1, .int n)] [] σ
  refine kw_iload_n (pc := 0) (i := 0) (k := 1) (n := 1) rfl rfl rfl ?_
  refine kw_iconst (pc := 1) (i := 1) (v := 0) rfl rfl ?_
  refine kw_aload_n (pc := 2) (i := 2) (k := 0) (n := 0) rfl rfl rfl ?_
  refine kw_get (pc := 3) (i := 3) (v := .int (σ.1 0 27)) rfl rfl rfl lkX8_178 (fun _ => rfl) ?_
  have b1 : 0 ≤ (σ.1 0 27).toInt ∧ (σ.1 0 27).toInt ≤ 40 := hI 0 27
  refine kw_callS (pc := 6) (i := 4) (Y := mX8_in) (As := [.int n, .int 0, .int (σ.1 0 27)]) (st := []) kw_hE rfl lsX8_93 arX8_in (c_X8_in l T hT0 hT1 σ hI n 0 (σ.1 0 27) ) (by decide) (Nat.le_of_ble_eq_true rfl) rfl (fun v S3 p2 => ?_)
  obtain ⟨e9, z8, rfl, f4, f5, f6, ef7⟩ := p2
  rw [e9]
  replace hF := kf_le ef7 hF
  have r_z8 := kw_rng z8
  show kw_AW l 2 kw_E0 KM mX8_undo (p_X8_undo_0 T σ n) 9 [(0, .ref 0), (1, .int n)] [.int z8] σ
  refine kw_if_ne (pc := 9) (i := 5) (tgt := 14) rfl rfl (fun c10 => ?_) (fun c10 => ?_)
  · replace hF := kf_n c10 hF
    refine kw_aload_n (pc := 14) (i := 8) (k := 0) (n := 0) rfl rfl rfl ?_
    refine kw_get (pc := 15) (i := 9) (v := .int (σ.1 0 27)) rfl rfl rfl lkX8_178 (fun _ => rfl) ?_
    refine kw_iload_n (pc := 18) (i := 10) (k := 1) (n := 1) rfl rfl rfl ?_
    refine kw_isub (pc := 19) (i := 11) rfl (fun z11 e_z11 t_z11 => ?_)
    replace hF := kf_le e_z11 hF
    first | (have u_z11 : z11.toInt = (σ.1 0 27).toInt - n.toInt := (by omega); clear t_z11) | skip
    refine kw_istore_n (pc := 20) (i := 12) (n := 2) (lv' := [(2, .int z11), (0, .ref 0), (1, .int n)]) rfl rfl (by decide) rfl ?_
    refine kw_iload_n (pc := 21) (i := 13) (k := 0) (n := 2) rfl rfl rfl ?_
    refine kw_if_le (pc := 22) (i := 14) (tgt := 42) rfl rfl (fun c12 => ?_) (fun c12 => ?_)
    · replace hF := kf_nl c12 hF
      refine kw_iload_n (pc := 42) (i := 25) (k := 0) (n := 2) rfl rfl rfl ?_
      exact kw_ireturn (pc := 43) (i := 26) (ty := .int) rfl rfl rfl ⟨⟨hI, hF0⟩, _, rfl, hF⟩
    · replace hF := kf_p c12 hF
      refine kw_aload_n (pc := 25) (i := 15) (k := 1) (n := 0) rfl rfl rfl ?_
      refine kw_aload_n (pc := 26) (i := 16) (k := 1) (n := 0) rfl rfl rfl ?_
      refine kw_get (pc := 27) (i := 17) (v := .ref 15) rfl rfl rfl lkX8_60 (fun _ => rfl) ?_
      refine kw_bipush (pc := 30) (i := 18) (v := 10) rfl rfl ?_
      refine kw_iload_n (pc := 32) (i := 19) (k := 2) (n := 1) rfl rfl rfl ?_
      refine kw_imul (pc := 33) (i := 20) rfl (fun z13 e_z13 t_z13 => ?_)
      replace hF := kf_le e_z13 hF
      rw [show (10 : Int32).toInt = 10 from rfl] at t_z13
      first | (have u_z13 : z13.toInt = 10 * n.toInt := (by omega); clear t_z13) | skip
      refine kw_callV (pc := 34) (i := 21) (Y := mX8_read) (a := 0) (As := [.ref 15, .int z13]) (st := []) kw_hE rfl rfl lvX8_227 arX8_read (c_X8_read_0_15 l T hT0 hT1 σ hI z13 (by first | omega | decide) (by first | omega | decide) (by first | omega | decide)) (by decide) (Nat.le_of_ble_eq_true rfl) rfl (fun v S15 p14 => ?_)
      obtain ⟨⟨I19, F20⟩, rfl, f16, f17, ef18⟩ := p14
      have F21 : kw_FM [14, 1022, 1023, 1024, 1025, 1027] σ S15 := kw_FM.tr hF0 F20 (by decide)
      have w_22 : (S15.1 0 27).toInt = (σ.1 0 27).toInt := congrArg Int32.toInt (kw_FM.at0 (j := 27) F20 (by decide))
      replace hF := kf_le ef18 hF
      have f16 : (S15.1 0 10).toInt = (σ.1 0 10).toInt := f16
      have f17 : (S15.1 0 27).toInt = (σ.1 0 27).toInt := f17
      show kw_AW l 2 kw_E0 KM mX8_undo (p_X8_undo_0 T σ n) 37 [(2, .int z11), (0, .ref 0), (1, .int n)] [] S15
      refine kw_aload_n (pc := 37) (i := 22) (k := 1) (n := 0) rfl rfl rfl ?_
      refine kw_iload_n (pc := 38) (i := 23) (k := 2) (n := 1) rfl rfl rfl ?_
      refine kw_puti (pc := 39) (i := 24) (z := 0) rfl rfl rfl lpX8_178 rfl rfl ?_
      have I23 : kw_I (bM T) (kw_ui S15 0 27 n) := kw_I_ui I19 (show 0 ≤ n.toInt by omega) (show n.toInt ≤ 40 by omega)
      have F24 : kw_FM [14, 1022, 1023, 1024, 1025, 1027] σ (kw_ui S15 0 27 n) := kw_FM_ui0 F21 (by decide)
      refine kw_iload_n (pc := 42) (i := 25) (k := 0) (n := 2) rfl rfl rfl ?_
      exact kw_ireturn (pc := 43) (i := 26) (ty := .int) rfl rfl rfl ⟨⟨I23, F24⟩, _, rfl, hF⟩
  · replace hF := kf_p c10 hF
    refine kw_iconst (pc := 12) (i := 6) (v := (-1)) rfl rfl ?_
    exact kw_ireturn (pc := 13) (i := 7) (ty := .int) rfl rfl rfl ⟨⟨hI, hF0⟩, _, rfl, hF⟩
noncomputable def l_X8_keep_0_29 (a1 : Int32) (a2 : Int32) : Nat → Int32 → kw_S → Int32 × kw_S
  | 0, _, S => (0, S)
  | n + 1, x3, S => kf_l ((10 : Int32) * (S.1 0 27)) fun z3 => if x3.toInt < z3.toInt then (kf_l (a2 + x3) fun z7 => kf_l (S.1 15 x3.toNatClampNeg) fun z8 => kf_l (x3 + Int32.ofInt 1) fun z9 => l_X8_keep_0_29 a1 a2 n z9 (kw_ui S 17 z7.toNatClampNeg z8)) else (kf_l (a2 + (400 : Int32)) fun z4 => kf_l (f_X8_write_0_17 S z4) fun S5 => kf_l (a2 + (410 : Int32)) fun z6 => ((S5.1 0 27), kw_ui (kw_ui S5 17 z6.toNatClampNeg (S5.1 0 27)) 16 a1.toNatClampNeg 1))
theorem l_X8_keep_0_29_s (a1 : Int32) (a2 : Int32) (n : Nat) (x3 : Int32) (S : kw_S) : l_X8_keep_0_29 a1 a2 (n + 1) x3 S = kf_l ((10 : Int32) * (S.1 0 27)) fun z3 => if x3.toInt < z3.toInt then (kf_l (a2 + x3) fun z7 => kf_l (S.1 15 x3.toNatClampNeg) fun z8 => kf_l (x3 + Int32.ofInt 1) fun z9 => l_X8_keep_0_29 a1 a2 n z9 (kw_ui S 17 z7.toNatClampNeg z8)) else (kf_l (a2 + (400 : Int32)) fun z4 => kf_l (f_X8_write_0_17 S z4) fun S5 => kf_l (a2 + (410 : Int32)) fun z6 => ((S5.1 0 27), kw_ui (kw_ui S5 17 z6.toNatClampNeg (S5.1 0 27)) 16 a1.toNatClampNeg 1)) := rfl
noncomputable def f_X8_keep_0 (σ : kw_S) (k : Int32) : Int32 × kw_S := kf_l (f_X8_in σ k (0 : Int32) (2 : Int32)) fun z1 => if z1.toInt = 0 then ((((-1) : Int32), σ)) else (if (σ.1 0 10).toInt = 0 then ((((-4) : Int32), σ)) else (kf_l ((411 : Int32) * k) fun z2 => l_X8_keep_0_29 k z2 ((401 - (0 : Int32).toInt).toNat + 1) (0 : Int32) σ))
theorem f_X8_keep_0_u (σ : kw_S) (k : Int32) : f_X8_keep_0 σ k = kf_l (f_X8_in σ k (0 : Int32) (2 : Int32)) fun z1 => if z1.toInt = 0 then ((((-1) : Int32), σ)) else (if (σ.1 0 10).toInt = 0 then ((((-4) : Int32), σ)) else (kf_l ((411 : Int32) * k) fun z2 => l_X8_keep_0_29 k z2 ((401 - (0 : Int32).toInt).toNat + 1) (0 : Int32) σ)) := rfl
abbrev p_X8_keep_0 (T : Int) (σ : kw_S) (k : Int32) : Option Value → kw_S → Prop := fun vv σ' => (kw_I (bM T) σ' ∧ kw_FM [16, 17] σ σ') ∧ ∃ r : Int32, vv = some (.int r) ∧ (r, σ') = f_X8_keep_0 σ k
set_option maxRecDepth 100000 in
set_option maxHeartbeats 4000000 in
theorem c_X8_keep_0 (l : Launch) (T : Int) (hT0 : 0 ≤ T) (hT1 : T ≤ 3000) (σ : kw_S) (hI : kw_I (bM T) σ) (k : Int32) : kw_Met l 2 KM mX8_keep [.ref 0, .int k] σ (p_X8_keep_0 T σ k) := by
  have r_k := kw_rng k
  have hF0 : kw_FM [16, 17] σ σ := kw_FM.rf
  have hF := (f_X8_keep_0_u σ k).symm
  have q_m4 : (-4 : Int32).toInt = -4 := rfl
  have q_m1 : (-1 : Int32).toInt = -1 := rfl
  have q_0 : (0 : Int32).toInt = 0 := rfl
  have q_1 : (1 : Int32).toInt = 1 := rfl
  have q_2 : (2 : Int32).toInt = 2 := rfl
  have q_10 : (10 : Int32).toInt = 10 := rfl
  have q_400 : (400 : Int32).toInt = 400 := rfl
  have q_410 : (410 : Int32).toInt = 410 := rfl
  have q_411 : (411 : Int32).toInt = 411 := rfl
  refine kw_Met.of (by decide) rfl tX8_keep (Nat.le_of_ble_eq_true rfl) ?_
  show kw_AW l 2 kw_E0 KM mX8_keep (p_X8_keep_0 T σ k) 0 [(0, .ref 0), (1, .int k)] [] σ
  refine kw_iload_n (pc := 0) (i := 0) (k := 1) (n := 1) rfl rfl rfl ?_
  refine kw_iconst (pc := 1) (i := 1) (v := 0) rfl rfl ?_
  refine kw_iconst (pc := 2) (i := 2) (v := 2) rfl rfl ?_
  refine kw_callS (pc := 3) (i := 3) (Y := mX8_in) (As := [.int k, .int 0, .int 2]) (st := []) kw_hE rfl lsX8_93 arX8_in (c_X8_in l T hT0 hT1 σ hI k 0 2 ) (by decide) (Nat.le_of_ble_eq_true rfl) rfl (fun v S2 p1 => ?_)
  obtain ⟨e8, z7, rfl, f3, f4, f5, ef6⟩ := p1
  rw [e8]
  replace hF := kf_le ef6 hF
  have r_z7 := kw_rng z7
  show kw_AW l 2 kw_E0 KM mX8_keep (p_X8_keep_0 T σ k) 6 [(0, .ref 0), (1, .int k)] [.int z7] σ
  refine kw_if_ne (pc := 6) (i := 4) (tgt := 11) rfl rfl (fun c9 => ?_) (fun c9 => ?_)
  · replace hF := kf_n c9 hF
    refine kw_aload_n (pc := 11) (i := 7) (k := 0) (n := 0) rfl rfl rfl ?_
    refine kw_get (pc := 12) (i := 8) (v := .int (σ.1 0 10)) rfl rfl rfl lkX8_163 (fun _ => rfl) ?_
    have b10 : 0 ≤ (σ.1 0 10).toInt ∧ (σ.1 0 10).toInt ≤ 6 := hI 0 10
    refine kw_if_ne (pc := 15) (i := 9) (tgt := 21) rfl rfl (fun c11 => ?_) (fun c11 => ?_)
    · replace hF := kf_n c11 hF
      refine kw_sipush (pc := 21) (i := 12) (v := 411) rfl rfl ?_
      refine kw_iload_n (pc := 24) (i := 13) (k := 1) (n := 1) rfl rfl rfl ?_
      refine kw_imul (pc := 25) (i := 14) rfl (fun z12 e_z12 t_z12 => ?_)
      replace hF := kf_le e_z12 hF
      rw [show (411 : Int32).toInt = 411 from rfl] at t_z12
      first | (have u_z12 : z12.toInt = 411 * k.toInt := (by omega); clear t_z12) | skip
      refine kw_istore_n (pc := 26) (i := 15) (n := 2) (lv' := [(2, .int z12), (0, .ref 0), (1, .int k)]) rfl rfl (by decide) rfl ?_
      refine kw_iconst (pc := 27) (i := 16) (v := 0) rfl rfl ?_
      refine kw_istore_n (pc := 28) (i := 17) (n := 3) (lv' := [(3, .int 0), (2, .int z12), (0, .ref 0), (1, .int k)]) rfl rfl (by decide) rfl ?_
      have L17 : ∀ (n21 : Nat) (x13 : Int32) (S14 : kw_S), kw_I (bM T) S14 → kw_FM [16, 17] σ S14 → 0 ≤ x13.toInt → l_X8_keep_0_29 k z12 n21 x13 S14 = (f_X8_keep_0 σ k) → (401 - x13.toInt).toNat < n21 → kw_AW l 2 kw_E0 KM mX8_keep (p_X8_keep_0 T σ k) 29 [(3, .int x13), (2, .int z12), (0, .ref 0), (1, .int k)] [] S14 := by
        intro n21
        induction n21 with
        | zero => intro x13 S14 I15 F16 v19 hF m20; exact absurd m20 (Nat.not_lt_zero _)
        | succ n21 ih18 =>
          intro x13 S14 I15 F16 v19 hF m20
          replace hF := kf_st (l_X8_keep_0_29_s _ _ _ _ _) hF
          have r_x13 := kw_rng x13
          refine kw_iload_n (pc := 29) (i := 18) (k := 0) (n := 3) rfl rfl rfl ?_
          refine kw_bipush (pc := 30) (i := 19) (v := 10) rfl rfl ?_
          refine kw_aload_n (pc := 32) (i := 20) (k := 2) (n := 0) rfl rfl rfl ?_
          refine kw_get (pc := 33) (i := 21) (v := .int (S14.1 0 27)) rfl rfl rfl lkX8_178 (fun _ => rfl) ?_
          have b22 : 0 ≤ (S14.1 0 27).toInt ∧ (S14.1 0 27).toInt ≤ 40 := I15 0 27
          refine kw_imul (pc := 36) (i := 22) rfl (fun z23 e_z23 t_z23 => ?_)
          replace hF := kf_le e_z23 hF
          rw [show (10 : Int32).toInt = 10 from rfl] at t_z23
          first | (have u_z23 : z23.toInt = 10 * (S14.1 0 27).toInt := (by omega); clear t_z23) | skip
          refine kw_icmp_ge (pc := 37) (i := 23) (tgt := 60) rfl rfl (fun c24 => ?_) (fun c24 => ?_)
          · replace hF := kf_nl c24 hF
            refine kw_aload_n (pc := 60) (i := 36) (k := 2) (n := 0) rfl rfl rfl ?_
            refine kw_aload_n (pc := 61) (i := 37) (k := 2) (n := 0) rfl rfl rfl ?_
            refine kw_get (pc := 62) (i := 38) (v := .ref 17) rfl rfl rfl lkX8_66 (fun _ => rfl) ?_
            refine kw_iload_n (pc := 65) (i := 39) (k := 1) (n := 2) rfl rfl rfl ?_
            refine kw_sipush (pc := 66) (i := 40) (v := 400) rfl rfl ?_
            refine kw_iadd (pc := 69) (i := 41) rfl (fun z25 e_z25 t_z25 => ?_)
            replace hF := kf_le e_z25 hF
            first | (have u_z25 : z25.toInt = z12.toInt + 400 := (by omega); clear t_z25) | skip
            refine kw_callV (pc := 70) (i := 42) (Y := mX8_write) (a := 0) (As := [.ref 17, .int z25]) (st := []) kw_hE rfl rfl lvX8_192 arX8_write (c_X8_write_0_17 l T hT0 hT1 S14 I15 z25 (by first | omega | decide) (by first | omega | decide) (by first | omega | decide)) (by decide) (Nat.le_of_ble_eq_true rfl) rfl (fun v S27 p26 => ?_)
            obtain ⟨⟨I29, F30⟩, rfl, ef28⟩ := p26
            have F31 : kw_FM [16, 17] σ S27 := kw_FM.tr F16 F30 (by decide)
            have w_32 : (S27.1 0 27).toInt = (S14.1 0 27).toInt := congrArg Int32.toInt (kw_FM.at0 (j := 27) F30 (by decide))
            replace hF := kf_le ef28 hF
            show kw_AW l 2 kw_E0 KM mX8_keep (p_X8_keep_0 T σ k) 73 [(3, .int x13), (2, .int z12), (0, .ref 0), (1, .int k)] [] S27
            refine kw_aload_n (pc := 73) (i := 43) (k := 2) (n := 0) rfl rfl rfl ?_
            refine kw_get (pc := 74) (i := 44) (v := .ref 17) rfl rfl rfl lkX8_66 (fun _ => rfl) ?_
            refine kw_iload_n (pc := 77) (i := 45) (k := 1) (n := 2) rfl rfl rfl ?_
            refine kw_sipush (pc := 78) (i := 46) (v := 410) rfl rfl ?_
            refine kw_iadd (pc := 81) (i := 47) rfl (fun z33 e_z33 t_z33 => ?_)
            replace hF := kf_le e_z33 hF
            first | (have u_z33 : z33.toInt = z12.toInt + 410 := (by omega); clear t_z33) | skip
            refine kw_aload_n (pc := 82) (i := 48) (k := 2) (n := 0) rfl rfl rfl ?_
            refine kw_get (pc := 83) (i := 49) (v := .int (S27.1 0 27)) rfl rfl rfl lkX8_178 (fun _ => rfl) ?_
            have b34 : 0 ≤ (S27.1 0 27).toInt ∧ (S27.1 0 27).toInt ≤ 40 := I29 0 27
            refine kw_iast (pc := 86) (i := 50) (n := 1233) rfl rfl (by omega) (by omega) ?_
            have I35 : kw_I (bM T) (kw_ui S27 17 z33.toNatClampNeg (S27.1 0 27)) := kw_wI I29 (x := z33) (S27.1 0 27) (by omega) (410) (by omega) (by omega) (by omega) (by omega)
            have F36 : kw_FM [16, 17] σ (kw_ui S27 17 z33.toNatClampNeg (S27.1 0 27)) := kw_FM_ui F31 (by decide) (by decide)
            refine kw_aload_n (pc := 87) (i := 51) (k := 2) (n := 0) rfl rfl rfl ?_
            refine kw_get (pc := 88) (i := 52) (v := .ref 16) rfl rfl rfl lkX8_63 (fun _ => rfl) ?_
            refine kw_iload_n (pc := 91) (i := 53) (k := 3) (n := 1) rfl rfl rfl ?_
            refine kw_iconst (pc := 92) (i := 54) (v := 1) rfl rfl ?_
            refine kw_iast (pc := 93) (i := 55) (n := 3) rfl rfl (by omega) (by omega) ?_
            have I37 : kw_I (bM T) (kw_ui (kw_ui S27 17 z33.toNatClampNeg (S27.1 0 27)) 16 k.toNatClampNeg 1) := kw_I_ui I35 (kw_rng (1 : Int32)).1 (Int.le_of_lt_add_one (kw_rng (1 : Int32)).2)
            have F38 : kw_FM [16, 17] σ (kw_ui (kw_ui S27 17 z33.toNatClampNeg (S27.1 0 27)) 16 k.toNatClampNeg 1) := kw_FM_ui F36 (by decide) (by decide)
            refine kw_aload_n (pc := 94) (i := 56) (k := 2) (n := 0) rfl rfl rfl ?_
            refine kw_get (pc := 95) (i := 57) (v := .int (S27.1 0 27)) rfl rfl rfl lkX8_178 (fun _ => rfl) ?_
            exact kw_ireturn (pc := 98) (i := 58) (ty := .int) rfl rfl rfl ⟨⟨I37, F38⟩, _, rfl, hF⟩
          · replace hF := kf_p c24 hF
            refine kw_aload_n (pc := 40) (i := 24) (k := 2) (n := 0) rfl rfl rfl ?_
            refine kw_get (pc := 41) (i := 25) (v := .ref 17) rfl rfl rfl lkX8_66 (fun _ => rfl) ?_
            refine kw_iload_n (pc := 44) (i := 26) (k := 1) (n := 2) rfl rfl rfl ?_
            refine kw_iload_n (pc := 45) (i := 27) (k := 0) (n := 3) rfl rfl rfl ?_
            refine kw_iadd (pc := 46) (i := 28) rfl (fun z39 e_z39 t_z39 => ?_)
            replace hF := kf_le e_z39 hF
            first | (have u_z39 : z39.toInt = z12.toInt + x13.toInt := (by omega); clear t_z39) | skip
            refine kw_aload_n (pc := 47) (i := 29) (k := 2) (n := 0) rfl rfl rfl ?_
            refine kw_get (pc := 48) (i := 30) (v := .ref 15) rfl rfl rfl lkX8_60 (fun _ => rfl) ?_
            refine kw_iload_n (pc := 51) (i := 31) (k := 0) (n := 3) rfl rfl rfl ?_
            refine kw_iald (pc := 52) (i := 32) (n := 400) rfl rfl (by omega) (by omega) (fun z40 e_z40 => ?_)
            replace hF := kf_le e_z40 hF
            have t_z40 := congrArg Int32.toInt e_z40
            have r_z40 := kw_rng z40
            have b_z40 := kw_rN I15 (x := x13) z40 e_z40 (by omega)
            refine kw_iast (pc := 53) (i := 33) (n := 1233) rfl rfl (by omega) (by omega) ?_
            have I41 : kw_I (bM T) (kw_ui S14 17 z39.toNatClampNeg z40) := kw_wI I15 (x := z39) z40 (by omega) (x13.toInt) (by omega) (by omega) (by omega) (by omega)
            have F42 : kw_FM [16, 17] σ (kw_ui S14 17 z39.toNatClampNeg z40) := kw_FM_ui F16 (by decide) (by decide)
            refine kw_iinc' (pc := 54) (i := 34) (k := 0) (fun z => [(3, .int z), (2, .int z12), (0, .ref 0), (1, .int k)]) rfl rfl (by decide) rfl (fun _ => rfl) (fun z43 e_z43 t_z43 => ?_)
            replace hF := kf_le e_z43 hF
            first | (have u_z43 : z43.toInt = x13.toInt + 1 := (by omega); clear t_z43) | skip
            refine kw_goto (pc := 57) (i := 35) (tgt := 29) rfl rfl ?_
            refine kw_sub (lv' := [(3, .int z43), (2, .int z12), (0, .ref 0), (1, .int k)]) [0, 1, 2, 3] rfl ?_
            exact ih18 z43 (kw_ui S14 17 z39.toNatClampNeg z40) I41 F42 (by omega) hF (by omega)
      exact L17 _ 0 σ hI hF0 (by omega) hF (Nat.lt_succ_self _)
    · replace hF := kf_p c11 hF
      refine kw_bipush (pc := 18) (i := 10) (v := (-4)) rfl rfl ?_
      exact kw_ireturn (pc := 20) (i := 11) (ty := .int) rfl rfl rfl ⟨⟨hI, hF0⟩, _, rfl, hF⟩
  · replace hF := kf_p c9 hF
    refine kw_iconst (pc := 9) (i := 5) (v := (-1)) rfl rfl ?_
    exact kw_ireturn (pc := 10) (i := 6) (ty := .int) rfl rfl rfl ⟨⟨hI, hF0⟩, _, rfl, hF⟩
noncomputable def l_X8_on_0_61 (a1 : Int32) (a2 : Int32) : Nat → Int32 → kw_S → Int32 × kw_S
  | 0, _, S => (0, S)
  | n + 1, x3, S => kf_l ((10 : Int32) * (S.1 0 27)) fun z8 => if x3.toInt < z8.toInt then (kf_l (a2 + x3) fun z9 => kf_l (S.1 17 z9.toNatClampNeg) fun z10 => kf_l (x3 + Int32.ofInt 1) fun z11 => l_X8_on_0_61 a1 a2 n z11 (kw_ui S 15 x3.toNatClampNeg z10)) else (((S.1 0 27), S))
theorem l_X8_on_0_61_s (a1 : Int32) (a2 : Int32) (n : Nat) (x3 : Int32) (S : kw_S) : l_X8_on_0_61 a1 a2 (n + 1) x3 S = kf_l ((10 : Int32) * (S.1 0 27)) fun z8 => if x3.toInt < z8.toInt then (kf_l (a2 + x3) fun z9 => kf_l (S.1 17 z9.toNatClampNeg) fun z10 => kf_l (x3 + Int32.ofInt 1) fun z11 => l_X8_on_0_61 a1 a2 n z11 (kw_ui S 15 x3.toNatClampNeg z10)) else (((S.1 0 27), S)) := rfl
noncomputable def f_X8_on_0 (σ : kw_S) (k : Int32) : Int32 × kw_S := kf_l (f_X8_in σ k (0 : Int32) (2 : Int32)) fun z1 => if z1.toInt = 0 then ((((-1) : Int32), σ)) else (kf_l (σ.1 16 k.toNatClampNeg) fun z2 => if z2.toInt = 0 then (kf_b (f_X8_meet_0 σ (1 : Int32)) fun z12 S13 => (z12, S13)) else (kf_l ((411 : Int32) * k) fun z3 => kf_l (z3 + (400 : Int32)) fun z4 => kf_l (f_X8_read_0_17 σ z4) fun S5 => kf_l (z3 + (410 : Int32)) fun z6 => kf_l (S5.1 17 z6.toNatClampNeg) fun z7 => l_X8_on_0_61 k z3 ((401 - (0 : Int32).toInt).toNat + 1) (0 : Int32) (kw_ui S5 0 27 z7)))
theorem f_X8_on_0_u (σ : kw_S) (k : Int32) : f_X8_on_0 σ k = kf_l (f_X8_in σ k (0 : Int32) (2 : Int32)) fun z1 => if z1.toInt = 0 then ((((-1) : Int32), σ)) else (kf_l (σ.1 16 k.toNatClampNeg) fun z2 => if z2.toInt = 0 then (kf_b (f_X8_meet_0 σ (1 : Int32)) fun z12 S13 => (z12, S13)) else (kf_l ((411 : Int32) * k) fun z3 => kf_l (z3 + (400 : Int32)) fun z4 => kf_l (f_X8_read_0_17 σ z4) fun S5 => kf_l (z3 + (410 : Int32)) fun z6 => kf_l (S5.1 17 z6.toNatClampNeg) fun z7 => l_X8_on_0_61 k z3 ((401 - (0 : Int32).toInt).toNat + 1) (0 : Int32) (kw_ui S5 0 27 z7))) := rfl
abbrev p_X8_on_0 (T : Int) (σ : kw_S) (k : Int32) : Option Value → kw_S → Prop := fun vv σ' => (kw_I (bM T) σ' ∧ kw_FM [1, 14, 15, 1000, 1022, 1023, 1024, 1025, 1027] σ σ') ∧ ∃ r : Int32, vv = some (.int r) ∧ (r, σ') = f_X8_on_0 σ k
set_option maxRecDepth 100000 in
set_option maxHeartbeats 4000000 in
theorem c_X8_on_0 (l : Launch) (T : Int) (hT0 : 0 ≤ T) (hT1 : T ≤ 3000) (σ : kw_S) (hI : kw_I (bM T) σ) (k : Int32) : kw_Met l 2 KM mX8_on [.ref 0, .int k] σ (p_X8_on_0 T σ k) := by
  have r_k := kw_rng k
  have hF0 : kw_FM [1, 14, 15, 1000, 1022, 1023, 1024, 1025, 1027] σ σ := kw_FM.rf
  have hF := (f_X8_on_0_u σ k).symm
  have q_m1 : (-1 : Int32).toInt = -1 := rfl
  have q_0 : (0 : Int32).toInt = 0 := rfl
  have q_1 : (1 : Int32).toInt = 1 := rfl
  have q_2 : (2 : Int32).toInt = 2 := rfl
  have q_10 : (10 : Int32).toInt = 10 := rfl
  have q_400 : (400 : Int32).toInt = 400 := rfl
  have q_410 : (410 : Int32).toInt = 410 := rfl
  have q_411 : (411 : Int32).toInt = 411 := rfl
  refine kw_Met.of (by decide) rfl tX8_on (Nat.le_of_ble_eq_true rfl) ?_
  show kw_AW l 2 kw_E0 KM mX8_on (p_X8_on_0 T σ k) 0 [(0, .ref 0), (1, .int k)] [] σ
  refine kw_iload_n (pc := 0) (i := 0) (k := 1) (n := 1) rfl rfl rfl ?_
  refine kw_iconst (pc := 1) (i := 1) (v := 0) rfl rfl ?_
  refine kw_iconst (pc := 2) (i := 2) (v := 2) rfl rfl ?_
  refine kw_callS (pc := 3) (i := 3) (Y := mX8_in) (As := [.int k, .int 0, .int 2]) (st := []) kw_hE rfl lsX8_93 arX8_in (c_X8_in l T hT0 hT1 σ hI k 0 2 ) (by decide) (Nat.le_of_ble_eq_true rfl) rfl (fun v S2 p1 => ?_)
  obtain ⟨e8, z7, rfl, f3, f4, f5, ef6⟩ := p1
  rw [e8]
  replace hF := kf_le ef6 hF
  have r_z7 := kw_rng z7
  show kw_AW l 2 kw_E0 KM mX8_on (p_X8_on_0 T σ k) 6 [(0, .ref 0), (1, .int k)] [.int z7] σ
  refine kw_if_ne (pc := 6) (i := 4) (tgt := 11) rfl rfl (fun c9 => ?_) (fun c9 => ?_)
  · replace hF := kf_n c9 hF
    refine kw_aload_n (pc := 11) (i := 7) (k := 0) (n := 0) rfl rfl rfl ?_
    refine kw_get (pc := 12) (i := 8) (v := .ref 16) rfl rfl rfl lkX8_63 (fun _ => rfl) ?_
    refine kw_iload_n (pc := 15) (i := 9) (k := 1) (n := 1) rfl rfl rfl ?_
    refine kw_iald (pc := 16) (i := 10) (n := 3) rfl rfl (by omega) (by omega) (fun z10 e_z10 => ?_)
    replace hF := kf_le e_z10 hF
    have t_z10 := congrArg Int32.toInt e_z10
    have r_z10 := kw_rng z10
    refine kw_if_ne (pc := 17) (i := 11) (tgt := 26) rfl rfl (fun c11 => ?_) (fun c11 => ?_)
    · replace hF := kf_n c11 hF
      refine kw_sipush (pc := 26) (i := 16) (v := 411) rfl rfl ?_
      refine kw_iload_n (pc := 29) (i := 17) (k := 1) (n := 1) rfl rfl rfl ?_
      refine kw_imul (pc := 30) (i := 18) rfl (fun z12 e_z12 t_z12 => ?_)
      replace hF := kf_le e_z12 hF
      rw [show (411 : Int32).toInt = 411 from rfl] at t_z12
      first | (have u_z12 : z12.toInt = 411 * k.toInt := (by omega); clear t_z12) | skip
      refine kw_istore_n (pc := 31) (i := 19) (n := 2) (lv' := [(2, .int z12), (0, .ref 0), (1, .int k)]) rfl rfl (by decide) rfl ?_
      refine kw_aload_n (pc := 32) (i := 20) (k := 1) (n := 0) rfl rfl rfl ?_
      refine kw_aload_n (pc := 33) (i := 21) (k := 1) (n := 0) rfl rfl rfl ?_
      refine kw_get (pc := 34) (i := 22) (v := .ref 17) rfl rfl rfl lkX8_66 (fun _ => rfl) ?_
      refine kw_iload_n (pc := 37) (i := 23) (k := 0) (n := 2) rfl rfl rfl ?_
      refine kw_sipush (pc := 38) (i := 24) (v := 400) rfl rfl ?_
      refine kw_iadd (pc := 41) (i := 25) rfl (fun z13 e_z13 t_z13 => ?_)
      replace hF := kf_le e_z13 hF
      first | (have u_z13 : z13.toInt = z12.toInt + 400 := (by omega); clear t_z13) | skip
      refine kw_callV (pc := 42) (i := 26) (Y := mX8_read) (a := 0) (As := [.ref 17, .int z13]) (st := []) kw_hE rfl rfl lvX8_227 arX8_read (c_X8_read_0_17 l T hT0 hT1 σ hI z13 (by first | omega | decide) (by first | omega | decide) (by first | omega | decide)) (by decide) (Nat.le_of_ble_eq_true rfl) rfl (fun v S15 p14 => ?_)
      obtain ⟨⟨I19, F20⟩, rfl, f16, f17, ef18⟩ := p14
      have F21 : kw_FM [1, 14, 15, 1000, 1022, 1023, 1024, 1025, 1027] σ S15 := kw_FM.tr hF0 F20 (by decide)
      have w_22 : (S15.1 0 27).toInt = (σ.1 0 27).toInt := congrArg Int32.toInt (kw_FM.at0 (j := 27) F20 (by decide))
      replace hF := kf_le ef18 hF
      have f16 : (S15.1 0 10).toInt = (σ.1 0 10).toInt := f16
      have f17 : (S15.1 0 27).toInt = (σ.1 0 27).toInt := f17
      show kw_AW l 2 kw_E0 KM mX8_on (p_X8_on_0 T σ k) 45 [(2, .int z12), (0, .ref 0), (1, .int k)] [] S15
      refine kw_aload_n (pc := 45) (i := 27) (k := 1) (n := 0) rfl rfl rfl ?_
      refine kw_aload_n (pc := 46) (i := 28) (k := 1) (n := 0) rfl rfl rfl ?_
      refine kw_get (pc := 47) (i := 29) (v := .ref 17) rfl rfl rfl lkX8_66 (fun _ => rfl) ?_
      refine kw_iload_n (pc := 50) (i := 30) (k := 0) (n := 2) rfl rfl rfl ?_
      refine kw_sipush (pc := 51) (i := 31) (v := 410) rfl rfl ?_
      refine kw_iadd (pc := 54) (i := 32) rfl (fun z23 e_z23 t_z23 => ?_)
      replace hF := kf_le e_z23 hF
      first | (have u_z23 : z23.toInt = z12.toInt + 410 := (by omega); clear t_z23) | skip
      refine kw_iald (pc := 55) (i := 33) (n := 1233) rfl rfl (by omega) (by omega) (fun z24 e_z24 => ?_)
      replace hF := kf_le e_z24 hF
      have t_z24 := congrArg Int32.toInt e_z24
      have r_z24 := kw_rng z24
      have b_z24 := kw_rI I19 (x := z23) z24 e_z24 (by omega) (410) (by omega)
      refine kw_puti (pc := 56) (i := 34) (z := 0) rfl rfl rfl lpX8_178 rfl rfl ?_
      have I25 : kw_I (bM T) (kw_ui S15 0 27 z24) := kw_I_ui I19 (show 0 ≤ z24.toInt by omega) (show z24.toInt ≤ 40 by omega)
      have F26 : kw_FM [1, 14, 15, 1000, 1022, 1023, 1024, 1025, 1027] σ (kw_ui S15 0 27 z24) := kw_FM_ui0 F21 (by decide)
      refine kw_iconst (pc := 59) (i := 35) (v := 0) rfl rfl ?_
      refine kw_istore_n (pc := 60) (i := 36) (n := 3) (lv' := [(3, .int 0), (2, .int z12), (0, .ref 0), (1, .int k)]) rfl rfl (by decide) rfl ?_
      have L31 : ∀ (n35 : Nat) (x27 : Int32) (S28 : kw_S), kw_I (bM T) S28 → kw_FM [1, 14, 15, 1000, 1022, 1023, 1024, 1025, 1027] σ S28 → 0 ≤ x27.toInt → l_X8_on_0_61 k z12 n35 x27 S28 = (f_X8_on_0 σ k) → (401 - x27.toInt).toNat < n35 → kw_AW l 2 kw_E0 KM mX8_on (p_X8_on_0 T σ k) 61 [(3, .int x27), (2, .int z12), (0, .ref 0), (1, .int k)] [] S28 := by
        intro n35
        induction n35 with
        | zero => intro x27 S28 I29 F30 v33 hF m34; exact absurd m34 (Nat.not_lt_zero _)
        | succ n35 ih32 =>
          intro x27 S28 I29 F30 v33 hF m34
          replace hF := kf_st (l_X8_on_0_61_s _ _ _ _ _) hF
          have r_x27 := kw_rng x27
          refine kw_iload_n (pc := 61) (i := 37) (k := 0) (n := 3) rfl rfl rfl ?_
          refine kw_bipush (pc := 62) (i := 38) (v := 10) rfl rfl ?_
          refine kw_aload_n (pc := 64) (i := 39) (k := 2) (n := 0) rfl rfl rfl ?_
          refine kw_get (pc := 65) (i := 40) (v := .int (S28.1 0 27)) rfl rfl rfl lkX8_178 (fun _ => rfl) ?_
          have b36 : 0 ≤ (S28.1 0 27).toInt ∧ (S28.1 0 27).toInt ≤ 40 := I29 0 27
          refine kw_imul (pc := 68) (i := 41) rfl (fun z37 e_z37 t_z37 => ?_)
          replace hF := kf_le e_z37 hF
          rw [show (10 : Int32).toInt = 10 from rfl] at t_z37
          first | (have u_z37 : z37.toInt = 10 * (S28.1 0 27).toInt := (by omega); clear t_z37) | skip
          refine kw_icmp_ge (pc := 69) (i := 42) (tgt := 92) rfl rfl (fun c38 => ?_) (fun c38 => ?_)
          · replace hF := kf_nl c38 hF
            refine kw_aload_n (pc := 92) (i := 55) (k := 2) (n := 0) rfl rfl rfl ?_
            refine kw_get (pc := 93) (i := 56) (v := .int (S28.1 0 27)) rfl rfl rfl lkX8_178 (fun _ => rfl) ?_
            exact kw_ireturn (pc := 96) (i := 57) (ty := .int) rfl rfl rfl ⟨⟨I29, F30⟩, _, rfl, hF⟩
          · replace hF := kf_p c38 hF
            refine kw_aload_n (pc := 72) (i := 43) (k := 2) (n := 0) rfl rfl rfl ?_
            refine kw_get (pc := 73) (i := 44) (v := .ref 15) rfl rfl rfl lkX8_60 (fun _ => rfl) ?_
            refine kw_iload_n (pc := 76) (i := 45) (k := 0) (n := 3) rfl rfl rfl ?_
            refine kw_aload_n (pc := 77) (i := 46) (k := 2) (n := 0) rfl rfl rfl ?_
            refine kw_get (pc := 78) (i := 47) (v := .ref 17) rfl rfl rfl lkX8_66 (fun _ => rfl) ?_
            refine kw_iload_n (pc := 81) (i := 48) (k := 1) (n := 2) rfl rfl rfl ?_
            refine kw_iload_n (pc := 82) (i := 49) (k := 0) (n := 3) rfl rfl rfl ?_
            refine kw_iadd (pc := 83) (i := 50) rfl (fun z39 e_z39 t_z39 => ?_)
            replace hF := kf_le e_z39 hF
            first | (have u_z39 : z39.toInt = z12.toInt + x27.toInt := (by omega); clear t_z39) | skip
            refine kw_iald (pc := 84) (i := 51) (n := 1233) rfl rfl (by omega) (by omega) (fun z40 e_z40 => ?_)
            replace hF := kf_le e_z40 hF
            have t_z40 := congrArg Int32.toInt e_z40
            have r_z40 := kw_rng z40
            have b_z40 := kw_rI I29 (x := z39) z40 e_z40 (by omega) (x27.toInt) (by omega)
            refine kw_iast (pc := 85) (i := 52) (n := 400) rfl rfl (by omega) (by omega) ?_
            have I41 : kw_I (bM T) (kw_ui S28 15 x27.toNatClampNeg z40) := kw_wN I29 (x := x27) z40 (by omega) (by omega) (by omega) trivial
            have F42 : kw_FM [1, 14, 15, 1000, 1022, 1023, 1024, 1025, 1027] σ (kw_ui S28 15 x27.toNatClampNeg z40) := kw_FM_ui F30 (by decide) (by decide)
            refine kw_iinc' (pc := 86) (i := 53) (k := 0) (fun z => [(3, .int z), (2, .int z12), (0, .ref 0), (1, .int k)]) rfl rfl (by decide) rfl (fun _ => rfl) (fun z43 e_z43 t_z43 => ?_)
            replace hF := kf_le e_z43 hF
            first | (have u_z43 : z43.toInt = x27.toInt + 1 := (by omega); clear t_z43) | skip
            refine kw_goto (pc := 89) (i := 54) (tgt := 61) rfl rfl ?_
            refine kw_sub (lv' := [(3, .int z43), (2, .int z12), (0, .ref 0), (1, .int k)]) [0, 1, 2, 3] rfl ?_
            exact ih32 z43 (kw_ui S28 15 x27.toNatClampNeg z40) I41 F42 (by omega) hF (by omega)
      exact L31 _ 0 (kw_ui S15 0 27 z24) I25 F26 (by omega) hF (Nat.lt_succ_self _)
    · replace hF := kf_p c11 hF
      refine kw_aload_n (pc := 20) (i := 12) (k := 0) (n := 0) rfl rfl rfl ?_
      refine kw_iconst (pc := 21) (i := 13) (v := 1) rfl rfl ?_
      refine kw_callV (pc := 22) (i := 14) (Y := mX8_meet) (a := 0) (As := [.int 1]) (st := []) kw_hE rfl rfl lvX8_101 arX8_meet (c_X8_meet_0 l T hT0 hT1 σ hI 1 (by first | omega | decide) (by first | omega | decide)) (by decide) (Nat.le_of_ble_eq_true rfl) rfl (fun v S45 p44 => ?_)
      obtain ⟨⟨I49, F50⟩, z48, rfl, f46, ef47⟩ := p44
      have F51 : kw_FM [1, 14, 15, 1000, 1022, 1023, 1024, 1025, 1027] σ S45 := kw_FM.tr hF0 F50 (by decide)
      have w_52 : (S45.1 0 27).toInt = (σ.1 0 27).toInt := congrArg Int32.toInt (kw_FM.at0 (j := 27) F50 (by decide))
      replace hF := kf_be ef47 hF
      have r_z48 := kw_rng z48
      show kw_AW l 2 kw_E0 KM mX8_on (p_X8_on_0 T σ k) 25 [(0, .ref 0), (1, .int k)] [.int z48] S45
      exact kw_ireturn (pc := 25) (i := 15) (ty := .int) rfl rfl rfl ⟨⟨I49, F51⟩, _, rfl, hF⟩
  · replace hF := kf_p c9 hF
    refine kw_iconst (pc := 9) (i := 5) (v := (-1)) rfl rfl ?_
    exact kw_ireturn (pc := 10) (i := 6) (ty := .int) rfl rfl rfl ⟨⟨hI, hF0⟩, _, rfl, hF⟩
