abbrev p_X8_write_0_15 (T : Int) (σ : kw_S) (p : Int32) : Option Value → kw_S → Prop := fun vv σ' => (kw_I (bM T) σ' ∧ kw_F [15] σ σ') ∧ vv = none
set_option maxRecDepth 100000 in
set_option maxHeartbeats 4000000 in
theorem c_X8_write_0_15 (l : Launch) (T : Int) (hT0 : 0 ≤ T) (hT1 : T ≤ 3000) (σ : kw_S) (hI : kw_I (bM T) σ) (p : Int32) (hp0 : 0 ≤ p.toInt) (hp1 : p.toInt ≤ 390) (hp2 : p.toInt % 10 = 0) : kw_Met l 1 KM mX8_write [.ref 0, .ref 15, .int p] σ (p_X8_write_0_15 T σ p) := by
  have r_p := kw_rng p
  have hF0 : kw_F [15] σ σ := kw_F.rf
  have q_0 : (0 : Int32).toInt = 0 := rfl
  have q_1 : (1 : Int32).toInt = 1 := rfl
  have q_2 : (2 : Int32).toInt = 2 := rfl
  have q_3 : (3 : Int32).toInt = 3 := rfl
  have q_4 : (4 : Int32).toInt = 4 := rfl
  have q_6 : (6 : Int32).toInt = 6 := rfl
  refine kw_Met.of (by decide) rfl tX8_write (Nat.le_of_ble_eq_true rfl) ?_
  show kw_AW l 1 kw_E0 KM mX8_write (p_X8_write_0_15 T σ p) 0 [(0, .ref 0), (1, .ref 15), (2, .int p)] [] σ
  refine kw_aload_n (pc := 0) (i := 0) (k := 1) (n := 1) rfl rfl rfl ?_
  refine kw_iload_n (pc := 1) (i := 1) (k := 2) (n := 2) rfl rfl rfl ?_
  refine kw_aload_n (pc := 2) (i := 2) (k := 0) (n := 0) rfl rfl rfl ?_
  refine kw_get (pc := 3) (i := 3) (v := .int (σ.1 0 22)) rfl rfl rfl lkX8_166 (fun _ => rfl) ?_
  have b1 : 0 ≤ (σ.1 0 22).toInt ∧ (σ.1 0 22).toInt ≤ T := hI 0 22
  refine kw_iast (pc := 6) (i := 4) (n := 400) rfl rfl (by omega) (by omega) ?_
  have I2 : kw_I (bM T) (kw_ui σ 15 p.toNatClampNeg (σ.1 0 22)) := kw_wN hI (x := p) (σ.1 0 22) (by omega) (by omega) (by omega) trivial
  have F3 : kw_F [15] σ (kw_ui σ 15 p.toNatClampNeg (σ.1 0 22)) := kw_F_ui hF0 (by decide)
  refine kw_aload_n (pc := 7) (i := 5) (k := 1) (n := 1) rfl rfl rfl ?_
  refine kw_iload_n (pc := 8) (i := 6) (k := 2) (n := 2) rfl rfl rfl ?_
  refine kw_iconst (pc := 9) (i := 7) (v := 1) rfl rfl ?_
  refine kw_iadd (pc := 10) (i := 8) rfl (fun z4 e_z4 t_z4 => ?_)
  first | (have u_z4 : z4.toInt = p.toInt + 1 := (by omega); clear t_z4) | skip
  refine kw_aload_n (pc := 11) (i := 9) (k := 0) (n := 0) rfl rfl rfl ?_
  refine kw_get (pc := 12) (i := 10) (v := .int (σ.1 0 23)) rfl rfl rfl lkX8_169 (fun _ => rfl) ?_
  have b5 := kw_rng (σ.1 0 23)
  refine kw_iast (pc := 15) (i := 11) (n := 400) rfl rfl (by omega) (by omega) ?_
  have I6 : kw_I (bM T) (kw_ui (kw_ui σ 15 p.toNatClampNeg (σ.1 0 22)) 15 z4.toNatClampNeg (σ.1 0 23)) := kw_wN I2 (x := z4) (σ.1 0 23) (by omega) (by omega) (by omega) trivial
  have F7 : kw_F [15] σ (kw_ui (kw_ui σ 15 p.toNatClampNeg (σ.1 0 22)) 15 z4.toNatClampNeg (σ.1 0 23)) := kw_F_ui F3 (by decide)
  refine kw_aload_n (pc := 16) (i := 12) (k := 1) (n := 1) rfl rfl rfl ?_
  refine kw_iload_n (pc := 17) (i := 13) (k := 2) (n := 2) rfl rfl rfl ?_
  refine kw_iconst (pc := 18) (i := 14) (v := 2) rfl rfl ?_
  refine kw_iadd (pc := 19) (i := 15) rfl (fun z8 e_z8 t_z8 => ?_)
  first | (have u_z8 : z8.toInt = p.toInt + 2 := (by omega); clear t_z8) | skip
  refine kw_aload_n (pc := 20) (i := 16) (k := 0) (n := 0) rfl rfl rfl ?_
  refine kw_get (pc := 21) (i := 17) (v := .int (σ.1 0 24)) rfl rfl rfl lkX8_172 (fun _ => rfl) ?_
  have b9 := kw_rng (σ.1 0 24)
  refine kw_iast (pc := 24) (i := 18) (n := 400) rfl rfl (by omega) (by omega) ?_
  have I10 : kw_I (bM T) (kw_ui (kw_ui (kw_ui σ 15 p.toNatClampNeg (σ.1 0 22)) 15 z4.toNatClampNeg (σ.1 0 23)) 15 z8.toNatClampNeg (σ.1 0 24)) := kw_wN I6 (x := z8) (σ.1 0 24) (by omega) (by omega) (by omega) trivial
  have F11 : kw_F [15] σ (kw_ui (kw_ui (kw_ui σ 15 p.toNatClampNeg (σ.1 0 22)) 15 z4.toNatClampNeg (σ.1 0 23)) 15 z8.toNatClampNeg (σ.1 0 24)) := kw_F_ui F7 (by decide)
  refine kw_aload_n (pc := 25) (i := 19) (k := 1) (n := 1) rfl rfl rfl ?_
  refine kw_iload_n (pc := 26) (i := 20) (k := 2) (n := 2) rfl rfl rfl ?_
  refine kw_iconst (pc := 27) (i := 21) (v := 3) rfl rfl ?_
  refine kw_iadd (pc := 28) (i := 22) rfl (fun z12 e_z12 t_z12 => ?_)
  first | (have u_z12 : z12.toInt = p.toInt + 3 := (by omega); clear t_z12) | skip
  refine kw_aload_n (pc := 29) (i := 23) (k := 0) (n := 0) rfl rfl rfl ?_
  refine kw_get (pc := 30) (i := 24) (v := .int (σ.1 0 25)) rfl rfl rfl lkX8_175 (fun _ => rfl) ?_
  have b13 : 0 ≤ (σ.1 0 25).toInt ∧ (σ.1 0 25).toInt ≤ 63 := hI 0 25
  refine kw_iast (pc := 33) (i := 25) (n := 400) rfl rfl (by omega) (by omega) ?_
  have I14 : kw_I (bM T) (kw_ui (kw_ui (kw_ui (kw_ui σ 15 p.toNatClampNeg (σ.1 0 22)) 15 z4.toNatClampNeg (σ.1 0 23)) 15 z8.toNatClampNeg (σ.1 0 24)) 15 z12.toNatClampNeg (σ.1 0 25)) := kw_wN I10 (x := z12) (σ.1 0 25) (by omega) (by omega) (by omega) trivial
  have F15 : kw_F [15] σ (kw_ui (kw_ui (kw_ui (kw_ui σ 15 p.toNatClampNeg (σ.1 0 22)) 15 z4.toNatClampNeg (σ.1 0 23)) 15 z8.toNatClampNeg (σ.1 0 24)) 15 z12.toNatClampNeg (σ.1 0 25)) := kw_F_ui F11 (by decide)
  refine kw_iconst (pc := 34) (i := 26) (v := 0) rfl rfl ?_
  refine kw_istore_n (pc := 35) (i := 27) (n := 3) (lv' := [(3, .int 0), (0, .ref 0), (1, .ref 15), (2, .int p)]) rfl rfl (by decide) rfl ?_
  have L20 : ∀ (n24 : Nat) (x16 : Int32) (S17 : kw_S), kw_I (bM T) S17 → kw_F [15] σ S17 → 0 ≤ x16.toInt → (7 - x16.toInt).toNat < n24 → kw_AW l 1 kw_E0 KM mX8_write (p_X8_write_0_15 T σ p) 36 [(3, .int x16), (0, .ref 0), (1, .ref 15), (2, .int p)] [] S17 := by
    intro n24
    induction n24 with
    | zero => intro x16 S17 I18 F19 v22 m23; exact absurd m23 (Nat.not_lt_zero _)
    | succ n24 ih21 =>
      intro x16 S17 I18 F19 v22 m23
      have r_x16 := kw_rng x16
      refine kw_iload_n (pc := 36) (i := 28) (k := 0) (n := 3) rfl rfl rfl ?_
      refine kw_bipush (pc := 37) (i := 29) (v := 6) rfl rfl ?_
      refine kw_icmp_ge (pc := 39) (i := 30) (tgt := 61) rfl rfl (fun c25 => ?_) (fun c25 => ?_)
      · exact kw_return (pc := 61) (i := 44) rfl rfl ⟨⟨I18, F19⟩, rfl⟩
      · refine kw_aload_n (pc := 42) (i := 31) (k := 2) (n := 1) rfl rfl rfl ?_
        refine kw_iload_n (pc := 43) (i := 32) (k := 3) (n := 2) rfl rfl rfl ?_
        refine kw_iconst (pc := 44) (i := 33) (v := 4) rfl rfl ?_
        refine kw_iadd (pc := 45) (i := 34) rfl (fun z26 e_z26 t_z26 => ?_)
        first | (have u_z26 : z26.toInt = p.toInt + 4 := (by omega); clear t_z26) | skip
        refine kw_iload_n (pc := 46) (i := 35) (k := 0) (n := 3) rfl rfl rfl ?_
        refine kw_iadd (pc := 47) (i := 36) rfl (fun z27 e_z27 t_z27 => ?_)
        first | (have u_z27 : z27.toInt = z26.toInt + x16.toInt := (by omega); clear t_z27) | skip
        refine kw_aload_n (pc := 48) (i := 37) (k := 1) (n := 0) rfl rfl rfl ?_
        refine kw_get (pc := 49) (i := 38) (v := .ref 14) rfl rfl rfl lkX8_57 (fun _ => rfl) ?_
        refine kw_iload_n (pc := 52) (i := 39) (k := 0) (n := 3) rfl rfl rfl ?_
        refine kw_iald (pc := 53) (i := 40) (n := 6) rfl rfl (by omega) (by omega) (fun z28 e_z28 => ?_)
        have t_z28 := congrArg Int32.toInt e_z28
        have r_z28 := kw_rng z28
        refine kw_iast (pc := 54) (i := 41) (n := 400) rfl rfl (by omega) (by omega) ?_
        have I29 : kw_I (bM T) (kw_ui S17 15 z27.toNatClampNeg z28) := kw_wN I18 (x := z27) z28 (by omega) (by omega) (by omega) trivial
        have F30 : kw_F [15] σ (kw_ui S17 15 z27.toNatClampNeg z28) := kw_F_ui F19 (by decide)
        refine kw_iinc' (pc := 55) (i := 42) (k := 0) (fun z => [(3, .int z), (0, .ref 0), (1, .ref 15), (2, .int p)]) rfl rfl (by decide) rfl (fun _ => rfl) (fun z31 e_z31 t_z31 => ?_)
        first | (have u_z31 : z31.toInt = x16.toInt + 1 := (by omega); clear t_z31) | skip
        refine kw_goto (pc := 58) (i := 43) (tgt := 36) rfl rfl ?_
        refine kw_sub (lv' := [(3, .int z31), (0, .ref 0), (1, .ref 15), (2, .int p)]) [0, 1, 2, 3] rfl ?_
        exact ih21 z31 (kw_ui S17 15 z27.toNatClampNeg z28) I29 F30 (by omega) (by omega)
  exact L20 _ 0 (kw_ui (kw_ui (kw_ui (kw_ui σ 15 p.toNatClampNeg (σ.1 0 22)) 15 z4.toNatClampNeg (σ.1 0 23)) 15 z8.toNatClampNeg (σ.1 0 24)) 15 z12.toNatClampNeg (σ.1 0 25)) I14 F15 (by omega) (Nat.lt_succ_self _)
abbrev p_X8_write_0_17 (T : Int) (σ : kw_S) (p : Int32) : Option Value → kw_S → Prop := fun vv σ' => (kw_I (bM T) σ' ∧ kw_F [17] σ σ') ∧ vv = none
set_option maxRecDepth 100000 in
set_option maxHeartbeats 4000000 in
theorem c_X8_write_0_17 (l : Launch) (T : Int) (hT0 : 0 ≤ T) (hT1 : T ≤ 3000) (σ : kw_S) (hI : kw_I (bM T) σ) (p : Int32) (hp0 : 0 ≤ p.toInt) (hp1 : p.toInt ≤ 1222) (hp2 : p.toInt % 411 = 400) : kw_Met l 1 KM mX8_write [.ref 0, .ref 17, .int p] σ (p_X8_write_0_17 T σ p) := by
  have r_p := kw_rng p
  have hF0 : kw_F [17] σ σ := kw_F.rf
  have q_0 : (0 : Int32).toInt = 0 := rfl
  have q_1 : (1 : Int32).toInt = 1 := rfl
  have q_2 : (2 : Int32).toInt = 2 := rfl
  have q_3 : (3 : Int32).toInt = 3 := rfl
  have q_4 : (4 : Int32).toInt = 4 := rfl
  have q_6 : (6 : Int32).toInt = 6 := rfl
  refine kw_Met.of (by decide) rfl tX8_write (Nat.le_of_ble_eq_true rfl) ?_
  show kw_AW l 1 kw_E0 KM mX8_write (p_X8_write_0_17 T σ p) 0 [(0, .ref 0), (1, .ref 17), (2, .int p)] [] σ
  refine kw_aload_n (pc := 0) (i := 0) (k := 1) (n := 1) rfl rfl rfl ?_
  refine kw_iload_n (pc := 1) (i := 1) (k := 2) (n := 2) rfl rfl rfl ?_
  refine kw_aload_n (pc := 2) (i := 2) (k := 0) (n := 0) rfl rfl rfl ?_
  refine kw_get (pc := 3) (i := 3) (v := .int (σ.1 0 22)) rfl rfl rfl lkX8_166 (fun _ => rfl) ?_
  have b1 : 0 ≤ (σ.1 0 22).toInt ∧ (σ.1 0 22).toInt ≤ T := hI 0 22
  refine kw_iast (pc := 6) (i := 4) (n := 1233) rfl rfl (by omega) (by omega) ?_
  have I2 : kw_I (bM T) (kw_ui σ 17 p.toNatClampNeg (σ.1 0 22)) := kw_wI hI (x := p) (σ.1 0 22) (by omega) (400) (by omega) (by omega) (by omega) (by omega)
  have F3 : kw_F [17] σ (kw_ui σ 17 p.toNatClampNeg (σ.1 0 22)) := kw_F_ui hF0 (by decide)
  refine kw_aload_n (pc := 7) (i := 5) (k := 1) (n := 1) rfl rfl rfl ?_
  refine kw_iload_n (pc := 8) (i := 6) (k := 2) (n := 2) rfl rfl rfl ?_
  refine kw_iconst (pc := 9) (i := 7) (v := 1) rfl rfl ?_
  refine kw_iadd (pc := 10) (i := 8) rfl (fun z4 e_z4 t_z4 => ?_)
  first | (have u_z4 : z4.toInt = p.toInt + 1 := (by omega); clear t_z4) | skip
  refine kw_aload_n (pc := 11) (i := 9) (k := 0) (n := 0) rfl rfl rfl ?_
  refine kw_get (pc := 12) (i := 10) (v := .int (σ.1 0 23)) rfl rfl rfl lkX8_169 (fun _ => rfl) ?_
  have b5 := kw_rng (σ.1 0 23)
  refine kw_iast (pc := 15) (i := 11) (n := 1233) rfl rfl (by omega) (by omega) ?_
  have I6 : kw_I (bM T) (kw_ui (kw_ui σ 17 p.toNatClampNeg (σ.1 0 22)) 17 z4.toNatClampNeg (σ.1 0 23)) := kw_wI I2 (x := z4) (σ.1 0 23) (by omega) (401) (by omega) (by omega) (by omega) (by omega)
  have F7 : kw_F [17] σ (kw_ui (kw_ui σ 17 p.toNatClampNeg (σ.1 0 22)) 17 z4.toNatClampNeg (σ.1 0 23)) := kw_F_ui F3 (by decide)
  refine kw_aload_n (pc := 16) (i := 12) (k := 1) (n := 1) rfl rfl rfl ?_
  refine kw_iload_n (pc := 17) (i := 13) (k := 2) (n := 2) rfl rfl rfl ?_
  refine kw_iconst (pc := 18) (i := 14) (v := 2) rfl rfl ?_
  refine kw_iadd (pc := 19) (i := 15) rfl (fun z8 e_z8 t_z8 => ?_)
  first | (have u_z8 : z8.toInt = p.toInt + 2 := (by omega); clear t_z8) | skip
  refine kw_aload_n (pc := 20) (i := 16) (k := 0) (n := 0) rfl rfl rfl ?_
  refine kw_get (pc := 21) (i := 17) (v := .int (σ.1 0 24)) rfl rfl rfl lkX8_172 (fun _ => rfl) ?_
  have b9 := kw_rng (σ.1 0 24)
  refine kw_iast (pc := 24) (i := 18) (n := 1233) rfl rfl (by omega) (by omega) ?_
  have I10 : kw_I (bM T) (kw_ui (kw_ui (kw_ui σ 17 p.toNatClampNeg (σ.1 0 22)) 17 z4.toNatClampNeg (σ.1 0 23)) 17 z8.toNatClampNeg (σ.1 0 24)) := kw_wI I6 (x := z8) (σ.1 0 24) (by omega) (402) (by omega) (by omega) (by omega) (by omega)
  have F11 : kw_F [17] σ (kw_ui (kw_ui (kw_ui σ 17 p.toNatClampNeg (σ.1 0 22)) 17 z4.toNatClampNeg (σ.1 0 23)) 17 z8.toNatClampNeg (σ.1 0 24)) := kw_F_ui F7 (by decide)
  refine kw_aload_n (pc := 25) (i := 19) (k := 1) (n := 1) rfl rfl rfl ?_
  refine kw_iload_n (pc := 26) (i := 20) (k := 2) (n := 2) rfl rfl rfl ?_
  refine kw_iconst (pc := 27) (i := 21) (v := 3) rfl rfl ?_
  refine kw_iadd (pc := 28) (i := 22) rfl (fun z12 e_z12 t_z12 => ?_)
  first | (have u_z12 : z12.toInt = p.toInt + 3 := (by omega); clear t_z12) | skip
  refine kw_aload_n (pc := 29) (i := 23) (k := 0) (n := 0) rfl rfl rfl ?_
  refine kw_get (pc := 30) (i := 24) (v := .int (σ.1 0 25)) rfl rfl rfl lkX8_175 (fun _ => rfl) ?_
  have b13 : 0 ≤ (σ.1 0 25).toInt ∧ (σ.1 0 25).toInt ≤ 63 := hI 0 25
  refine kw_iast (pc := 33) (i := 25) (n := 1233) rfl rfl (by omega) (by omega) ?_
  have I14 : kw_I (bM T) (kw_ui (kw_ui (kw_ui (kw_ui σ 17 p.toNatClampNeg (σ.1 0 22)) 17 z4.toNatClampNeg (σ.1 0 23)) 17 z8.toNatClampNeg (σ.1 0 24)) 17 z12.toNatClampNeg (σ.1 0 25)) := kw_wI I10 (x := z12) (σ.1 0 25) (by omega) (403) (by omega) (by omega) (by omega) (by omega)
  have F15 : kw_F [17] σ (kw_ui (kw_ui (kw_ui (kw_ui σ 17 p.toNatClampNeg (σ.1 0 22)) 17 z4.toNatClampNeg (σ.1 0 23)) 17 z8.toNatClampNeg (σ.1 0 24)) 17 z12.toNatClampNeg (σ.1 0 25)) := kw_F_ui F11 (by decide)
  refine kw_iconst (pc := 34) (i := 26) (v := 0) rfl rfl ?_
  refine kw_istore_n (pc := 35) (i := 27) (n := 3) (lv' := [(3, .int 0), (0, .ref 0), (1, .ref 17), (2, .int p)]) rfl rfl (by decide) rfl ?_
  have L20 : ∀ (n24 : Nat) (x16 : Int32) (S17 : kw_S), kw_I (bM T) S17 → kw_F [17] σ S17 → 0 ≤ x16.toInt → (7 - x16.toInt).toNat < n24 → kw_AW l 1 kw_E0 KM mX8_write (p_X8_write_0_17 T σ p) 36 [(3, .int x16), (0, .ref 0), (1, .ref 17), (2, .int p)] [] S17 := by
    intro n24
    induction n24 with
    | zero => intro x16 S17 I18 F19 v22 m23; exact absurd m23 (Nat.not_lt_zero _)
    | succ n24 ih21 =>
      intro x16 S17 I18 F19 v22 m23
      have r_x16 := kw_rng x16
      refine kw_iload_n (pc := 36) (i := 28) (k := 0) (n := 3) rfl rfl rfl ?_
      refine kw_bipush (pc := 37) (i := 29) (v := 6) rfl rfl ?_
      refine kw_icmp_ge (pc := 39) (i := 30) (tgt := 61) rfl rfl (fun c25 => ?_) (fun c25 => ?_)
      · exact kw_return (pc := 61) (i := 44) rfl rfl ⟨⟨I18, F19⟩, rfl⟩
      · refine kw_aload_n (pc := 42) (i := 31) (k := 2) (n := 1) rfl rfl rfl ?_
        refine kw_iload_n (pc := 43) (i := 32) (k := 3) (n := 2) rfl rfl rfl ?_
        refine kw_iconst (pc := 44) (i := 33) (v := 4) rfl rfl ?_
        refine kw_iadd (pc := 45) (i := 34) rfl (fun z26 e_z26 t_z26 => ?_)
        first | (have u_z26 : z26.toInt = p.toInt + 4 := (by omega); clear t_z26) | skip
        refine kw_iload_n (pc := 46) (i := 35) (k := 0) (n := 3) rfl rfl rfl ?_
        refine kw_iadd (pc := 47) (i := 36) rfl (fun z27 e_z27 t_z27 => ?_)
        first | (have u_z27 : z27.toInt = z26.toInt + x16.toInt := (by omega); clear t_z27) | skip
        refine kw_aload_n (pc := 48) (i := 37) (k := 1) (n := 0) rfl rfl rfl ?_
        refine kw_get (pc := 49) (i := 38) (v := .ref 14) rfl rfl rfl lkX8_57 (fun _ => rfl) ?_
        refine kw_iload_n (pc := 52) (i := 39) (k := 0) (n := 3) rfl rfl rfl ?_
        refine kw_iald (pc := 53) (i := 40) (n := 6) rfl rfl (by omega) (by omega) (fun z28 e_z28 => ?_)
        have t_z28 := congrArg Int32.toInt e_z28
        have r_z28 := kw_rng z28
        refine kw_iast (pc := 54) (i := 41) (n := 1233) rfl rfl (by omega) (by omega) ?_
        have I29 : kw_I (bM T) (kw_ui S17 17 z27.toNatClampNeg z28) := kw_wI I18 (x := z27) z28 (by omega) (404 + x16.toInt) (by omega) (by omega) (by omega) (by omega)
        have F30 : kw_F [17] σ (kw_ui S17 17 z27.toNatClampNeg z28) := kw_F_ui F19 (by decide)
        refine kw_iinc' (pc := 55) (i := 42) (k := 0) (fun z => [(3, .int z), (0, .ref 0), (1, .ref 17), (2, .int p)]) rfl rfl (by decide) rfl (fun _ => rfl) (fun z31 e_z31 t_z31 => ?_)
        first | (have u_z31 : z31.toInt = x16.toInt + 1 := (by omega); clear t_z31) | skip
        refine kw_goto (pc := 58) (i := 43) (tgt := 36) rfl rfl ?_
        refine kw_sub (lv' := [(3, .int z31), (0, .ref 0), (1, .ref 17), (2, .int p)]) [0, 1, 2, 3] rfl ?_
        exact ih21 z31 (kw_ui S17 17 z27.toNatClampNeg z28) I29 F30 (by omega) (by omega)
  exact L20 _ 0 (kw_ui (kw_ui (kw_ui (kw_ui σ 17 p.toNatClampNeg (σ.1 0 22)) 17 z4.toNatClampNeg (σ.1 0 23)) 17 z8.toNatClampNeg (σ.1 0 24)) 17 z12.toNatClampNeg (σ.1 0 25)) I14 F15 (by omega) (Nat.lt_succ_self _)
abbrev p_X8_read_0_15 (T : Int) (σ : kw_S) (p : Int32) : Option Value → kw_S → Prop := fun vv σ' => (kw_I (bM T) σ' ∧ kw_F [0, 14] σ σ') ∧ vv = none ∧ (σ'.1 0 10).toInt = (σ.1 0 10).toInt ∧ (σ'.1 0 27).toInt = (σ.1 0 27).toInt
set_option maxRecDepth 100000 in
set_option maxHeartbeats 4000000 in
theorem c_X8_read_0_15 (l : Launch) (T : Int) (hT0 : 0 ≤ T) (hT1 : T ≤ 3000) (σ : kw_S) (hI : kw_I (bM T) σ) (p : Int32) (hp0 : 0 ≤ p.toInt) (hp1 : p.toInt ≤ 390) (hp2 : p.toInt % 10 = 0) : kw_Met l 1 KM mX8_read [.ref 0, .ref 15, .int p] σ (p_X8_read_0_15 T σ p) := by
  have r_p := kw_rng p
  have hF0 : kw_F [0, 14] σ σ := kw_F.rf
  have q_0 : (0 : Int32).toInt = 0 := rfl
  have q_1 : (1 : Int32).toInt = 1 := rfl
  have q_2 : (2 : Int32).toInt = 2 := rfl
  have q_3 : (3 : Int32).toInt = 3 := rfl
  have q_4 : (4 : Int32).toInt = 4 := rfl
  have q_6 : (6 : Int32).toInt = 6 := rfl
  refine kw_Met.of (by decide) rfl tX8_read (Nat.le_of_ble_eq_true rfl) ?_
  show kw_AW l 1 kw_E0 KM mX8_read (p_X8_read_0_15 T σ p) 0 [(0, .ref 0), (1, .ref 15), (2, .int p)] [] σ
  refine kw_aload_n (pc := 0) (i := 0) (k := 0) (n := 0) rfl rfl rfl ?_
  refine kw_aload_n (pc := 1) (i := 1) (k := 1) (n := 1) rfl rfl rfl ?_
  refine kw_iload_n (pc := 2) (i := 2) (k := 2) (n := 2) rfl rfl rfl ?_
  refine kw_iald (pc := 3) (i := 3) (n := 400) rfl rfl (by omega) (by omega) (fun z1 e_z1 => ?_)
  have t_z1 := congrArg Int32.toInt e_z1
  have r_z1 := kw_rng z1
  have b_z1 := kw_rN hI (x := p) z1 e_z1 (by omega)
  refine kw_puti (pc := 4) (i := 4) (z := 0) rfl rfl rfl lpX8_166 rfl rfl ?_
  have I2 : kw_I (bM T) (kw_ui σ 0 22 z1) := kw_I_ui hI (show 0 ≤ z1.toInt by omega) (show z1.toInt ≤ T by omega)
  have F3 : kw_F [0, 14] σ (kw_ui σ 0 22 z1) := kw_F_ui hF0 (by decide)
  refine kw_aload_n (pc := 7) (i := 5) (k := 0) (n := 0) rfl rfl rfl ?_
  refine kw_aload_n (pc := 8) (i := 6) (k := 1) (n := 1) rfl rfl rfl ?_
  refine kw_iload_n (pc := 9) (i := 7) (k := 2) (n := 2) rfl rfl rfl ?_
  refine kw_iconst (pc := 10) (i := 8) (v := 1) rfl rfl ?_
  refine kw_iadd (pc := 11) (i := 9) rfl (fun z4 e_z4 t_z4 => ?_)
  first | (have u_z4 : z4.toInt = p.toInt + 1 := (by omega); clear t_z4) | skip
  refine kw_iald (pc := 12) (i := 10) (n := 400) rfl rfl (by omega) (by omega) (fun z5 e_z5 => ?_)
  have t_z5 := congrArg Int32.toInt e_z5
  have r_z5 := kw_rng z5
  have b_z5 := kw_rN I2 (x := z4) z5 e_z5 (by omega)
  refine kw_puti (pc := 13) (i := 11) (z := 0) rfl rfl rfl lpX8_169 rfl rfl ?_
  have I6 : kw_I (bM T) (kw_ui (kw_ui σ 0 22 z1) 0 23 z5) := kw_I_ui I2 (kw_rng z5).1 (Int.le_of_lt_add_one (kw_rng z5).2)
  have F7 : kw_F [0, 14] σ (kw_ui (kw_ui σ 0 22 z1) 0 23 z5) := kw_F_ui F3 (by decide)
  refine kw_aload_n (pc := 16) (i := 12) (k := 0) (n := 0) rfl rfl rfl ?_
  refine kw_aload_n (pc := 17) (i := 13) (k := 1) (n := 1) rfl rfl rfl ?_
  refine kw_iload_n (pc := 18) (i := 14) (k := 2) (n := 2) rfl rfl rfl ?_
  refine kw_iconst (pc := 19) (i := 15) (v := 2) rfl rfl ?_
  refine kw_iadd (pc := 20) (i := 16) rfl (fun z8 e_z8 t_z8 => ?_)
  first | (have u_z8 : z8.toInt = p.toInt + 2 := (by omega); clear t_z8) | skip
  refine kw_iald (pc := 21) (i := 17) (n := 400) rfl rfl (by omega) (by omega) (fun z9 e_z9 => ?_)
  have t_z9 := congrArg Int32.toInt e_z9
  have r_z9 := kw_rng z9
  have b_z9 := kw_rN I6 (x := z8) z9 e_z9 (by omega)
  refine kw_puti (pc := 22) (i := 18) (z := 0) rfl rfl rfl lpX8_172 rfl rfl ?_
  have I10 : kw_I (bM T) (kw_ui (kw_ui (kw_ui σ 0 22 z1) 0 23 z5) 0 24 z9) := kw_I_ui I6 (kw_rng z9).1 (Int.le_of_lt_add_one (kw_rng z9).2)
  have F11 : kw_F [0, 14] σ (kw_ui (kw_ui (kw_ui σ 0 22 z1) 0 23 z5) 0 24 z9) := kw_F_ui F7 (by decide)
  refine kw_aload_n (pc := 25) (i := 19) (k := 0) (n := 0) rfl rfl rfl ?_
  refine kw_aload_n (pc := 26) (i := 20) (k := 1) (n := 1) rfl rfl rfl ?_
  refine kw_iload_n (pc := 27) (i := 21) (k := 2) (n := 2) rfl rfl rfl ?_
  refine kw_iconst (pc := 28) (i := 22) (v := 3) rfl rfl ?_
  refine kw_iadd (pc := 29) (i := 23) rfl (fun z12 e_z12 t_z12 => ?_)
  first | (have u_z12 : z12.toInt = p.toInt + 3 := (by omega); clear t_z12) | skip
  refine kw_iald (pc := 30) (i := 24) (n := 400) rfl rfl (by omega) (by omega) (fun z13 e_z13 => ?_)
  have t_z13 := congrArg Int32.toInt e_z13
  have r_z13 := kw_rng z13
  have b_z13 := kw_rN I10 (x := z12) z13 e_z13 (by omega)
  refine kw_puti (pc := 31) (i := 25) (z := 0) rfl rfl rfl lpX8_175 rfl rfl ?_
  have I14 : kw_I (bM T) (kw_ui (kw_ui (kw_ui (kw_ui σ 0 22 z1) 0 23 z5) 0 24 z9) 0 25 z13) := kw_I_ui I10 (show 0 ≤ z13.toInt by omega) (show z13.toInt ≤ 63 by omega)
  have F15 : kw_F [0, 14] σ (kw_ui (kw_ui (kw_ui (kw_ui σ 0 22 z1) 0 23 z5) 0 24 z9) 0 25 z13) := kw_F_ui F11 (by decide)
  refine kw_iconst (pc := 34) (i := 26) (v := 0) rfl rfl ?_
  refine kw_istore_n (pc := 35) (i := 27) (n := 3) (lv' := [(3, .int 0), (0, .ref 0), (1, .ref 15), (2, .int p)]) rfl rfl (by decide) rfl ?_
  have L20 : ∀ (n26 : Nat) (x16 : Int32) (S17 : kw_S), kw_I (bM T) S17 → kw_F [0, 14] σ S17 → 0 ≤ x16.toInt → (S17.1 0 10).toInt = (σ.1 0 10).toInt → (S17.1 0 27).toInt = (σ.1 0 27).toInt → (7 - x16.toInt).toNat < n26 → kw_AW l 1 kw_E0 KM mX8_read (p_X8_read_0_15 T σ p) 36 [(3, .int x16), (0, .ref 0), (1, .ref 15), (2, .int p)] [] S17 := by
    intro n26
    induction n26 with
    | zero => intro x16 S17 I18 F19 v22 v23 v24 m25; exact absurd m25 (Nat.not_lt_zero _)
    | succ n26 ih21 =>
      intro x16 S17 I18 F19 v22 v23 v24 m25
      have r_x16 := kw_rng x16
      refine kw_iload_n (pc := 36) (i := 28) (k := 0) (n := 3) rfl rfl rfl ?_
      refine kw_bipush (pc := 37) (i := 29) (v := 6) rfl rfl ?_
      refine kw_icmp_ge (pc := 39) (i := 30) (tgt := 61) rfl rfl (fun c27 => ?_) (fun c27 => ?_)
      · exact kw_return (pc := 61) (i := 44) rfl rfl ⟨⟨I18, F19⟩, rfl, ⟨(show (S17.1 0 10).toInt = (σ.1 0 10).toInt from by omega), (show (S17.1 0 27).toInt = (σ.1 0 27).toInt from by omega)⟩⟩
      · refine kw_aload_n (pc := 42) (i := 31) (k := 1) (n := 0) rfl rfl rfl ?_
        refine kw_get (pc := 43) (i := 32) (v := .ref 14) rfl rfl rfl lkX8_57 (fun _ => rfl) ?_
        refine kw_iload_n (pc := 46) (i := 33) (k := 0) (n := 3) rfl rfl rfl ?_
        refine kw_aload_n (pc := 47) (i := 34) (k := 2) (n := 1) rfl rfl rfl ?_
        refine kw_iload_n (pc := 48) (i := 35) (k := 3) (n := 2) rfl rfl rfl ?_
        refine kw_iconst (pc := 49) (i := 36) (v := 4) rfl rfl ?_
        refine kw_iadd (pc := 50) (i := 37) rfl (fun z28 e_z28 t_z28 => ?_)
        first | (have u_z28 : z28.toInt = p.toInt + 4 := (by omega); clear t_z28) | skip
        refine kw_iload_n (pc := 51) (i := 38) (k := 0) (n := 3) rfl rfl rfl ?_
        refine kw_iadd (pc := 52) (i := 39) rfl (fun z29 e_z29 t_z29 => ?_)
        first | (have u_z29 : z29.toInt = z28.toInt + x16.toInt := (by omega); clear t_z29) | skip
        refine kw_iald (pc := 53) (i := 40) (n := 400) rfl rfl (by omega) (by omega) (fun z30 e_z30 => ?_)
        have t_z30 := congrArg Int32.toInt e_z30
        have r_z30 := kw_rng z30
        have b_z30 := kw_rN I18 (x := z29) z30 e_z30 (by omega)
        refine kw_iast (pc := 54) (i := 41) (n := 6) rfl rfl (by omega) (by omega) ?_
        have I31 : kw_I (bM T) (kw_ui S17 14 x16.toNatClampNeg z30) := kw_I_ui I18 (kw_rng z30).1 (Int.le_of_lt_add_one (kw_rng z30).2)
        have F32 : kw_F [0, 14] σ (kw_ui S17 14 x16.toNatClampNeg z30) := kw_F_ui F19 (by decide)
        refine kw_iinc' (pc := 55) (i := 42) (k := 0) (fun z => [(3, .int z), (0, .ref 0), (1, .ref 15), (2, .int p)]) rfl rfl (by decide) rfl (fun _ => rfl) (fun z33 e_z33 t_z33 => ?_)
        first | (have u_z33 : z33.toInt = x16.toInt + 1 := (by omega); clear t_z33) | skip
        refine kw_goto (pc := 58) (i := 43) (tgt := 36) rfl rfl ?_
        refine kw_sub (lv' := [(3, .int z33), (0, .ref 0), (1, .ref 15), (2, .int p)]) [0, 1, 2, 3] rfl ?_
        exact ih21 z33 (kw_ui S17 14 x16.toNatClampNeg z30) I31 F32 (by omega) (show (S17.1 0 10).toInt = (σ.1 0 10).toInt from by omega) (show (S17.1 0 27).toInt = (σ.1 0 27).toInt from by omega) (by omega)
  exact L20 _ 0 (kw_ui (kw_ui (kw_ui (kw_ui σ 0 22 z1) 0 23 z5) 0 24 z9) 0 25 z13) I14 F15 (by omega) (show (σ.1 0 10).toInt = (σ.1 0 10).toInt from by omega) (show (σ.1 0 27).toInt = (σ.1 0 27).toInt from by omega) (Nat.lt_succ_self _)
abbrev p_X8_read_0_17 (T : Int) (σ : kw_S) (p : Int32) : Option Value → kw_S → Prop := fun vv σ' => (kw_I (bM T) σ' ∧ kw_F [0, 14] σ σ') ∧ vv = none ∧ (σ'.1 0 10).toInt = (σ.1 0 10).toInt ∧ (σ'.1 0 27).toInt = (σ.1 0 27).toInt
set_option maxRecDepth 100000 in
set_option maxHeartbeats 4000000 in
theorem c_X8_read_0_17 (l : Launch) (T : Int) (hT0 : 0 ≤ T) (hT1 : T ≤ 3000) (σ : kw_S) (hI : kw_I (bM T) σ) (p : Int32) (hp0 : 0 ≤ p.toInt) (hp1 : p.toInt ≤ 1222) (hp2 : p.toInt % 411 = 400) : kw_Met l 1 KM mX8_read [.ref 0, .ref 17, .int p] σ (p_X8_read_0_17 T σ p) := by
  have r_p := kw_rng p
  have hF0 : kw_F [0, 14] σ σ := kw_F.rf
  have q_0 : (0 : Int32).toInt = 0 := rfl
  have q_1 : (1 : Int32).toInt = 1 := rfl
  have q_2 : (2 : Int32).toInt = 2 := rfl
  have q_3 : (3 : Int32).toInt = 3 := rfl
  have q_4 : (4 : Int32).toInt = 4 := rfl
  have q_6 : (6 : Int32).toInt = 6 := rfl
  refine kw_Met.of (by decide) rfl tX8_read (Nat.le_of_ble_eq_true rfl) ?_
  show kw_AW l 1 kw_E0 KM mX8_read (p_X8_read_0_17 T σ p) 0 [(0, .ref 0), (1, .ref 17), (2, .int p)] [] σ
  refine kw_aload_n (pc := 0) (i := 0) (k := 0) (n := 0) rfl rfl rfl ?_
  refine kw_aload_n (pc := 1) (i := 1) (k := 1) (n := 1) rfl rfl rfl ?_
  refine kw_iload_n (pc := 2) (i := 2) (k := 2) (n := 2) rfl rfl rfl ?_
  refine kw_iald (pc := 3) (i := 3) (n := 1233) rfl rfl (by omega) (by omega) (fun z1 e_z1 => ?_)
  have t_z1 := congrArg Int32.toInt e_z1
  have r_z1 := kw_rng z1
  have b_z1 := kw_rI hI (x := p) z1 e_z1 (by omega) (400) (by omega)
  refine kw_puti (pc := 4) (i := 4) (z := 0) rfl rfl rfl lpX8_166 rfl rfl ?_
  have I2 : kw_I (bM T) (kw_ui σ 0 22 z1) := kw_I_ui hI (show 0 ≤ z1.toInt by omega) (show z1.toInt ≤ T by omega)
  have F3 : kw_F [0, 14] σ (kw_ui σ 0 22 z1) := kw_F_ui hF0 (by decide)
  refine kw_aload_n (pc := 7) (i := 5) (k := 0) (n := 0) rfl rfl rfl ?_
  refine kw_aload_n (pc := 8) (i := 6) (k := 1) (n := 1) rfl rfl rfl ?_
  refine kw_iload_n (pc := 9) (i := 7) (k := 2) (n := 2) rfl rfl rfl ?_
  refine kw_iconst (pc := 10) (i := 8) (v := 1) rfl rfl ?_
  refine kw_iadd (pc := 11) (i := 9) rfl (fun z4 e_z4 t_z4 => ?_)
  first | (have u_z4 : z4.toInt = p.toInt + 1 := (by omega); clear t_z4) | skip
  refine kw_iald (pc := 12) (i := 10) (n := 1233) rfl rfl (by omega) (by omega) (fun z5 e_z5 => ?_)
  have t_z5 := congrArg Int32.toInt e_z5
  have r_z5 := kw_rng z5
  have b_z5 := kw_rI I2 (x := z4) z5 e_z5 (by omega) (401) (by omega)
  refine kw_puti (pc := 13) (i := 11) (z := 0) rfl rfl rfl lpX8_169 rfl rfl ?_
  have I6 : kw_I (bM T) (kw_ui (kw_ui σ 0 22 z1) 0 23 z5) := kw_I_ui I2 (kw_rng z5).1 (Int.le_of_lt_add_one (kw_rng z5).2)
  have F7 : kw_F [0, 14] σ (kw_ui (kw_ui σ 0 22 z1) 0 23 z5) := kw_F_ui F3 (by decide)
  refine kw_aload_n (pc := 16) (i := 12) (k := 0) (n := 0) rfl rfl rfl ?_
  refine kw_aload_n (pc := 17) (i := 13) (k := 1) (n := 1) rfl rfl rfl ?_
  refine kw_iload_n (pc := 18) (i := 14) (k := 2) (n := 2) rfl rfl rfl ?_
  refine kw_iconst (pc := 19) (i := 15) (v := 2) rfl rfl ?_
  refine kw_iadd (pc := 20) (i := 16) rfl (fun z8 e_z8 t_z8 => ?_)
  first | (have u_z8 : z8.toInt = p.toInt + 2 := (by omega); clear t_z8) | skip
  refine kw_iald (pc := 21) (i := 17) (n := 1233) rfl rfl (by omega) (by omega) (fun z9 e_z9 => ?_)
  have t_z9 := congrArg Int32.toInt e_z9
  have r_z9 := kw_rng z9
  have b_z9 := kw_rI I6 (x := z8) z9 e_z9 (by omega) (402) (by omega)
  refine kw_puti (pc := 22) (i := 18) (z := 0) rfl rfl rfl lpX8_172 rfl rfl ?_
  have I10 : kw_I (bM T) (kw_ui (kw_ui (kw_ui σ 0 22 z1) 0 23 z5) 0 24 z9) := kw_I_ui I6 (kw_rng z9).1 (Int.le_of_lt_add_one (kw_rng z9).2)
  have F11 : kw_F [0, 14] σ (kw_ui (kw_ui (kw_ui σ 0 22 z1) 0 23 z5) 0 24 z9) := kw_F_ui F7 (by decide)
  refine kw_aload_n (pc := 25) (i := 19) (k := 0) (n := 0) rfl rfl rfl ?_
  refine kw_aload_n (pc := 26) (i := 20) (k := 1) (n := 1) rfl rfl rfl ?_
  refine kw_iload_n (pc := 27) (i := 21) (k := 2) (n := 2) rfl rfl rfl ?_
  refine kw_iconst (pc := 28) (i := 22) (v := 3) rfl rfl ?_
  refine kw_iadd (pc := 29) (i := 23) rfl (fun z12 e_z12 t_z12 => ?_)
  first | (have u_z12 : z12.toInt = p.toInt + 3 := (by omega); clear t_z12) | skip
  refine kw_iald (pc := 30) (i := 24) (n := 1233) rfl rfl (by omega) (by omega) (fun z13 e_z13 => ?_)
  have t_z13 := congrArg Int32.toInt e_z13
  have r_z13 := kw_rng z13
  have b_z13 := kw_rI I10 (x := z12) z13 e_z13 (by omega) (403) (by omega)
  refine kw_puti (pc := 31) (i := 25) (z := 0) rfl rfl rfl lpX8_175 rfl rfl ?_
  have I14 : kw_I (bM T) (kw_ui (kw_ui (kw_ui (kw_ui σ 0 22 z1) 0 23 z5) 0 24 z9) 0 25 z13) := kw_I_ui I10 (show 0 ≤ z13.toInt by omega) (show z13.toInt ≤ 63 by omega)
  have F15 : kw_F [0, 14] σ (kw_ui (kw_ui (kw_ui (kw_ui σ 0 22 z1) 0 23 z5) 0 24 z9) 0 25 z13) := kw_F_ui F11 (by decide)
  refine kw_iconst (pc := 34) (i := 26) (v := 0) rfl rfl ?_
  refine kw_istore_n (pc := 35) (i := 27) (n := 3) (lv' := [(3, .int 0), (0, .ref 0), (1, .ref 17), (2, .int p)]) rfl rfl (by decide) rfl ?_
  have L20 : ∀ (n26 : Nat) (x16 : Int32) (S17 : kw_S), kw_I (bM T) S17 → kw_F [0, 14] σ S17 → 0 ≤ x16.toInt → (S17.1 0 10).toInt = (σ.1 0 10).toInt → (S17.1 0 27).toInt = (σ.1 0 27).toInt → (7 - x16.toInt).toNat < n26 → kw_AW l 1 kw_E0 KM mX8_read (p_X8_read_0_17 T σ p) 36 [(3, .int x16), (0, .ref 0), (1, .ref 17), (2, .int p)] [] S17 := by
    intro n26
    induction n26 with
    | zero => intro x16 S17 I18 F19 v22 v23 v24 m25; exact absurd m25 (Nat.not_lt_zero _)
    | succ n26 ih21 =>
      intro x16 S17 I18 F19 v22 v23 v24 m25
      have r_x16 := kw_rng x16
      refine kw_iload_n (pc := 36) (i := 28) (k := 0) (n := 3) rfl rfl rfl ?_
      refine kw_bipush (pc := 37) (i := 29) (v := 6) rfl rfl ?_
      refine kw_icmp_ge (pc := 39) (i := 30) (tgt := 61) rfl rfl (fun c27 => ?_) (fun c27 => ?_)
      · exact kw_return (pc := 61) (i := 44) rfl rfl ⟨⟨I18, F19⟩, rfl, ⟨(show (S17.1 0 10).toInt = (σ.1 0 10).toInt from by omega), (show (S17.1 0 27).toInt = (σ.1 0 27).toInt from by omega)⟩⟩
      · refine kw_aload_n (pc := 42) (i := 31) (k := 1) (n := 0) rfl rfl rfl ?_
        refine kw_get (pc := 43) (i := 32) (v := .ref 14) rfl rfl rfl lkX8_57 (fun _ => rfl) ?_
        refine kw_iload_n (pc := 46) (i := 33) (k := 0) (n := 3) rfl rfl rfl ?_
        refine kw_aload_n (pc := 47) (i := 34) (k := 2) (n := 1) rfl rfl rfl ?_
        refine kw_iload_n (pc := 48) (i := 35) (k := 3) (n := 2) rfl rfl rfl ?_
        refine kw_iconst (pc := 49) (i := 36) (v := 4) rfl rfl ?_
        refine kw_iadd (pc := 50) (i := 37) rfl (fun z28 e_z28 t_z28 => ?_)
        first | (have u_z28 : z28.toInt = p.toInt + 4 := (by omega); clear t_z28) | skip
        refine kw_iload_n (pc := 51) (i := 38) (k := 0) (n := 3) rfl rfl rfl ?_
        refine kw_iadd (pc := 52) (i := 39) rfl (fun z29 e_z29 t_z29 => ?_)
        first | (have u_z29 : z29.toInt = z28.toInt + x16.toInt := (by omega); clear t_z29) | skip
        refine kw_iald (pc := 53) (i := 40) (n := 1233) rfl rfl (by omega) (by omega) (fun z30 e_z30 => ?_)
        have t_z30 := congrArg Int32.toInt e_z30
        have r_z30 := kw_rng z30
        have b_z30 := kw_rI I18 (x := z29) z30 e_z30 (by omega) (404 + x16.toInt) (by omega)
        refine kw_iast (pc := 54) (i := 41) (n := 6) rfl rfl (by omega) (by omega) ?_
        have I31 : kw_I (bM T) (kw_ui S17 14 x16.toNatClampNeg z30) := kw_I_ui I18 (kw_rng z30).1 (Int.le_of_lt_add_one (kw_rng z30).2)
        have F32 : kw_F [0, 14] σ (kw_ui S17 14 x16.toNatClampNeg z30) := kw_F_ui F19 (by decide)
        refine kw_iinc' (pc := 55) (i := 42) (k := 0) (fun z => [(3, .int z), (0, .ref 0), (1, .ref 17), (2, .int p)]) rfl rfl (by decide) rfl (fun _ => rfl) (fun z33 e_z33 t_z33 => ?_)
        first | (have u_z33 : z33.toInt = x16.toInt + 1 := (by omega); clear t_z33) | skip
        refine kw_goto (pc := 58) (i := 43) (tgt := 36) rfl rfl ?_
        refine kw_sub (lv' := [(3, .int z33), (0, .ref 0), (1, .ref 17), (2, .int p)]) [0, 1, 2, 3] rfl ?_
        exact ih21 z33 (kw_ui S17 14 x16.toNatClampNeg z30) I31 F32 (by omega) (show (S17.1 0 10).toInt = (σ.1 0 10).toInt from by omega) (show (S17.1 0 27).toInt = (σ.1 0 27).toInt from by omega) (by omega)
  exact L20 _ 0 (kw_ui (kw_ui (kw_ui (kw_ui σ 0 22 z1) 0 23 z5) 0 24 z9) 0 25 z13) I14 F15 (by omega) (show (σ.1 0 10).toInt = (σ.1 0 10).toInt from by omega) (show (σ.1 0 27).toInt = (σ.1 0 27).toInt from by omega) (Nat.lt_succ_self _)
abbrev p_X8_note_0 (T : Int) (σ : kw_S)  : Option Value → kw_S → Prop := fun vv σ' => (kw_I (bM T) σ' ∧ kw_F [0, 15] σ σ') ∧ vv = none ∧ (σ'.1 0 27).toInt = (σ.1 0 27).toInt + 1 ∧ (σ'.1 0 10).toInt = (σ.1 0 10).toInt ∧ (σ'.1 0 22).toInt = (σ.1 0 22).toInt ∧ (σ'.1 0 25).toInt = (σ.1 0 25).toInt
set_option maxRecDepth 100000 in
set_option maxHeartbeats 4000000 in
theorem c_X8_note_0 (l : Launch) (T : Int) (hT0 : 0 ≤ T) (hT1 : T ≤ 3000) (σ : kw_S) (hI : kw_I (bM T) σ) (hp0 : (σ.1 0 27).toInt ≤ 39) : kw_Met l 2 KM mX8_note [.ref 0] σ (p_X8_note_0 T σ) := by
  have hF0 : kw_F [0, 15] σ σ := kw_F.rf
  have q_1 : (1 : Int32).toInt = 1 := rfl
  have q_10 : (10 : Int32).toInt = 10 := rfl
  refine kw_Met.of (by decide) rfl tX8_note (Nat.le_of_ble_eq_true rfl) ?_
  show kw_AW l 2 kw_E0 KM mX8_note (p_X8_note_0 T σ) 0 [(0, .ref 0)] [] σ
  refine kw_aload_n (pc := 0) (i := 0) (k := 0) (n := 0) rfl rfl rfl ?_
  refine kw_aload_n (pc := 1) (i := 1) (k := 0) (n := 0) rfl rfl rfl ?_
  refine kw_get (pc := 2) (i := 2) (v := .ref 15) rfl rfl rfl lkX8_60 (fun _ => rfl) ?_
  refine kw_bipush (pc := 5) (i := 3) (v := 10) rfl rfl ?_
  refine kw_aload_n (pc := 7) (i := 4) (k := 0) (n := 0) rfl rfl rfl ?_
  refine kw_get (pc := 8) (i := 5) (v := .int (σ.1 0 27)) rfl rfl rfl lkX8_178 (fun _ => rfl) ?_
  have b1 : 0 ≤ (σ.1 0 27).toInt ∧ (σ.1 0 27).toInt ≤ 40 := hI 0 27
  refine kw_imul (pc := 11) (i := 6) rfl (fun z2 e_z2 t_z2 => ?_)
  rw [show (10 : Int32).toInt = 10 from rfl] at t_z2
  first | (have u_z2 : z2.toInt = 10 * (σ.1 0 27).toInt := (by omega); clear t_z2) | skip
  refine kw_callV (pc := 12) (i := 7) (Y := mX8_write) (a := 0) (As := [.ref 15, .int z2]) (st := []) kw_hE rfl rfl lvX8_192 arX8_write (c_X8_write_0_15 l T (by omega) (by omega) σ hI z2 (by first | omega | decide) (by first | omega | decide) (by first | omega | decide)) (by decide) (Nat.le_of_ble_eq_true rfl) rfl (fun v S4 p3 => ?_)
  obtain ⟨⟨I5, F6⟩, rfl⟩ := p3
  have F7 : kw_F [0, 15] σ S4 := kw_F.tr hF0 F6 (by decide)
  have w_8 : (S4.1 0 10).toInt = (σ.1 0 10).toInt := congrArg Int32.toInt (kw_F.at (a := 0) (j := 10) F6 (by decide))
  have w_9 : (S4.1 0 22).toInt = (σ.1 0 22).toInt := congrArg Int32.toInt (kw_F.at (a := 0) (j := 22) F6 (by decide))
  have w_10 : (S4.1 0 25).toInt = (σ.1 0 25).toInt := congrArg Int32.toInt (kw_F.at (a := 0) (j := 25) F6 (by decide))
  have w_11 : (S4.1 0 27).toInt = (σ.1 0 27).toInt := congrArg Int32.toInt (kw_F.at (a := 0) (j := 27) F6 (by decide))
  show kw_AW l 2 kw_E0 KM mX8_note (p_X8_note_0 T σ) 15 [(0, .ref 0)] [] S4
  refine kw_aload_n (pc := 15) (i := 8) (k := 0) (n := 0) rfl rfl rfl ?_
  refine kw_dup (pc := 16) (i := 9) rfl rfl ?_
  refine kw_get (pc := 17) (i := 10) (v := .int (S4.1 0 27)) rfl rfl rfl lkX8_178 (fun _ => rfl) ?_
  have b12 : 0 ≤ (S4.1 0 27).toInt ∧ (S4.1 0 27).toInt ≤ 40 := I5 0 27
  refine kw_iconst (pc := 20) (i := 11) (v := 1) rfl rfl ?_
  refine kw_iadd (pc := 21) (i := 12) rfl (fun z13 e_z13 t_z13 => ?_)
  first | (have u_z13 : z13.toInt = (S4.1 0 27).toInt + 1 := (by omega); clear t_z13) | skip
  refine kw_puti (pc := 22) (i := 13) (z := 0) rfl rfl rfl lpX8_178 rfl rfl ?_
  have I14 : kw_I (bM T) (kw_ui S4 0 27 z13) := kw_I_ui I5 (show 0 ≤ z13.toInt by omega) (show z13.toInt ≤ 40 by omega)
  have F15 : kw_F [0, 15] σ (kw_ui S4 0 27 z13) := kw_F_ui F7 (by decide)
  exact kw_return (pc := 25) (i := 14) rfl rfl ⟨⟨I14, F15⟩, rfl, ⟨(show z13.toInt = (σ.1 0 27).toInt + 1 from by omega), (show (S4.1 0 10).toInt = (σ.1 0 10).toInt from by omega), (show (S4.1 0 22).toInt = (σ.1 0 22).toInt from by omega), (show (S4.1 0 25).toInt = (σ.1 0 25).toInt from by omega)⟩⟩
abbrev p_X8_wetBehind_0 (T : Int) (σ : kw_S) (x : Int32) (w : Int32) : Option Value → kw_S → Prop := fun vv σ' => σ' = σ ∧ ∃ r : Int32, vv = some (.int r)
set_option maxRecDepth 100000 in
set_option maxHeartbeats 4000000 in
theorem c_X8_wetBehind_0 (l : Launch) (T : Int) (hT0 : 0 ≤ T) (hT1 : T ≤ 3000) (σ : kw_S) (hI : kw_I (bM T) σ) (x : Int32) (w : Int32) : kw_Met l 1 KM mX8_wetBehind [.ref 0, .int x, .int w] σ (p_X8_wetBehind_0 T σ x w) := by
  have r_x := kw_rng x
  have r_w := kw_rng w
  have q_0 : (0 : Int32).toInt = 0 := rfl
  have q_1 : (1 : Int32).toInt = 1 := rfl
  have q_2 : (2 : Int32).toInt = 2 := rfl
  have q_9 : (9 : Int32).toInt = 9 := rfl
  refine kw_Met.of (by decide) rfl tX8_wetBehind (Nat.le_of_ble_eq_true rfl) ?_
  show kw_AW l 1 kw_E0 KM mX8_wetBehind (p_X8_wetBehind_0 T σ x w) 0 [(0, .ref 0), (1, .int x), (2, .int w)] [] σ
  refine kw_iload_n (pc := 0) (i := 0) (k := 2) (n := 2) rfl rfl rfl ?_
  refine kw_if_ne (pc := 1) (i := 1) (tgt := 23) rfl rfl (fun c1 => ?_) (fun c1 => ?_)
  · refine kw_iload_n (pc := 23) (i := 13) (k := 1) (n := 1) rfl rfl rfl ?_
    refine kw_if_le (pc := 24) (i := 14) (tgt := 33) rfl rfl (fun c2 => ?_) (fun c2 => ?_)
    · refine kw_iconst (pc := 33) (i := 19) (v := 0) rfl rfl ?_
      exact kw_ireturn (pc := 34) (i := 20) (ty := .int) rfl rfl rfl ⟨rfl, _, rfl⟩
    · refine kw_iload_n (pc := 27) (i := 15) (k := 1) (n := 1) rfl rfl rfl ?_
      refine kw_iconst (pc := 28) (i := 16) (v := 1) rfl rfl ?_
      refine kw_isub (pc := 29) (i := 17) rfl (fun z3 e_z3 t_z3 => ?_)
      first | (have u_z3 : z3.toInt = x.toInt - 1 := (by omega); clear t_z3) | skip
      refine kw_goto (pc := 30) (i := 18) (tgt := 34) rfl rfl ?_
      exact kw_ireturn (pc := 34) (i := 20) (ty := .int) rfl rfl rfl ⟨rfl, _, rfl⟩
  · refine kw_iload_n (pc := 4) (i := 2) (k := 1) (n := 1) rfl rfl rfl ?_
    refine kw_iconst (pc := 5) (i := 3) (v := 2) rfl rfl ?_
    refine kw_iadd (pc := 6) (i := 4) rfl (fun z4 e_z4 t_z4 => ?_)
    first | (have u_z4 : z4.toInt = x.toInt + 2 := (by omega); clear t_z4) | skip
    refine kw_bipush (pc := 7) (i := 5) (v := 9) rfl rfl ?_
    refine kw_icmp_le (pc := 9) (i := 6) (tgt := 17) rfl rfl (fun c5 => ?_) (fun c5 => ?_)
    · refine kw_iload_n (pc := 17) (i := 9) (k := 1) (n := 1) rfl rfl rfl ?_
      refine kw_iconst (pc := 18) (i := 10) (v := 2) rfl rfl ?_
      refine kw_iadd (pc := 19) (i := 11) rfl (fun z6 e_z6 t_z6 => ?_)
      first | (have u_z6 : z6.toInt = x.toInt + 2 := (by omega); clear t_z6) | skip
      refine kw_goto (pc := 20) (i := 12) (tgt := 34) rfl rfl ?_
      exact kw_ireturn (pc := 34) (i := 20) (ty := .int) rfl rfl rfl ⟨rfl, _, rfl⟩
    · refine kw_bipush (pc := 12) (i := 7) (v := 9) rfl rfl ?_
      refine kw_goto (pc := 14) (i := 8) (tgt := 34) rfl rfl ?_
      exact kw_ireturn (pc := 34) (i := 20) (ty := .int) rfl rfl rfl ⟨rfl, _, rfl⟩
abbrev p_X8_pass_0 (T : Int) (σ : kw_S) (s : Int32) : Option Value → kw_S → Prop := fun vv σ' => (kw_I (bM (T + 1)) σ' ∧ kw_F [0, 14] σ σ') ∧ vv = none ∧ (σ'.1 0 10).toInt = (σ.1 0 10).toInt ∧ (σ'.1 0 25).toInt = (σ.1 0 25).toInt ∧ (σ'.1 0 27).toInt = (σ.1 0 27).toInt
set_option maxRecDepth 100000 in
set_option maxHeartbeats 4000000 in
theorem c_X8_pass_0 (l : Launch) (T : Int) (hT0 : 0 ≤ T) (hT1 : T ≤ 3000) (σ : kw_S) (hI : kw_I (bM T) σ) (s : Int32) : kw_Met l 4 KM mX8_pass [.ref 0, .int s] σ (p_X8_pass_0 T σ s) := by
  have r_s := kw_rng s
  have hF0 : kw_F [0, 14] σ σ := kw_F.rf
  have q_0 : (0 : Int32).toInt = 0 := rfl
  have q_1 : (1 : Int32).toInt = 1 := rfl
  refine kw_Met.of (by decide) rfl tX8_pass (Nat.le_of_ble_eq_true rfl) ?_
  show kw_AW l 4 kw_E0 KM mX8_pass (p_X8_pass_0 T σ s) 0 [(0, .ref 0), (1, .int s)] [] σ
  refine kw_aload_n (pc := 0) (i := 0) (k := 0) (n := 0) rfl rfl rfl ?_
  refine kw_aload_n (pc := 1) (i := 1) (k := 0) (n := 0) rfl rfl rfl ?_
  refine kw_get (pc := 2) (i := 2) (v := .int (σ.1 0 22)) rfl rfl rfl lkX8_166 (fun _ => rfl) ?_
  have b1 : 0 ≤ (σ.1 0 22).toInt ∧ (σ.1 0 22).toInt ≤ T := hI 0 22
  refine kw_callV (pc := 5) (i := 3) (Y := mX8_windAt) (a := 0) (As := [.int (σ.1 0 22)]) (st := []) kw_hE rfl rfl lvX8_196 arX8_windAt (c_X8_windAt_0 l T (by omega) (by omega) σ hI (σ.1 0 22) (by first | omega | decide)) (by decide) (Nat.le_of_ble_eq_true rfl) rfl (fun v S3 p2 => ?_)
  obtain ⟨e5, z4, rfl⟩ := p2
  rw [e5]
  have r_z4 := kw_rng z4
  show kw_AW l 4 kw_E0 KM mX8_pass (p_X8_pass_0 T σ s) 8 [(0, .ref 0), (1, .int s)] [.int z4] σ
  refine kw_istore_n (pc := 8) (i := 4) (n := 2) (lv' := [(2, .int z4), (0, .ref 0), (1, .int s)]) rfl rfl (by decide) rfl ?_
  refine kw_aload_n (pc := 9) (i := 5) (k := 1) (n := 0) rfl rfl rfl ?_
  refine kw_dup (pc := 10) (i := 6) rfl rfl ?_
  refine kw_get (pc := 11) (i := 7) (v := .int (σ.1 0 23)) rfl rfl rfl lkX8_169 (fun _ => rfl) ?_
  have b6 := kw_rng (σ.1 0 23)
  refine kw_aload_n (pc := 14) (i := 8) (k := 1) (n := 0) rfl rfl rfl ?_
  refine kw_iload_n (pc := 15) (i := 9) (k := 2) (n := 1) rfl rfl rfl ?_
  refine kw_iload_n (pc := 16) (i := 10) (k := 0) (n := 2) rfl rfl rfl ?_
  refine kw_callV (pc := 17) (i := 11) (Y := mX8_milesBy) (a := 0) (As := [.int s, .int z4]) (st := [.int (σ.1 0 23), .ref 0]) kw_hE rfl rfl lvX8_199 arX8_milesBy (c_X8_milesBy_0 l T (by omega) (by omega) σ hI s z4 ) (by decide) (Nat.le_of_ble_eq_true rfl) rfl (fun v S8 p7 => ?_)
  obtain ⟨e10, z9, rfl⟩ := p7
  rw [e10]
  have r_z9 := kw_rng z9
  show kw_AW l 4 kw_E0 KM mX8_pass (p_X8_pass_0 T σ s) 20 [(2, .int z4), (0, .ref 0), (1, .int s)] [.int z9, .int (σ.1 0 23), .ref 0] σ
  refine kw_iadd (pc := 20) (i := 12) rfl (fun z11 e_z11 t_z11 => ?_)
  first | (have u_z11 : z11.toInt = (σ.1 0 23).toInt + z9.toInt := (by omega); clear t_z11) | skip
  refine kw_puti (pc := 21) (i := 13) (z := 0) rfl rfl rfl lpX8_169 rfl rfl ?_
  have I12 : kw_I (bM T) (kw_ui σ 0 23 z11) := kw_I_ui hI (kw_rng z11).1 (Int.le_of_lt_add_one (kw_rng z11).2)
  have F13 : kw_F [0, 14] σ (kw_ui σ 0 23 z11) := kw_F_ui hF0 (by decide)
  refine kw_aload_n (pc := 24) (i := 14) (k := 1) (n := 0) rfl rfl rfl ?_
  refine kw_dup (pc := 25) (i := 15) rfl rfl ?_
  refine kw_get (pc := 26) (i := 16) (v := .int (σ.1 0 24)) rfl rfl rfl lkX8_172 (fun _ => rfl) ?_
  have b14 := kw_rng (σ.1 0 24)
  refine kw_aload_n (pc := 29) (i := 17) (k := 1) (n := 0) rfl rfl rfl ?_
  refine kw_iload_n (pc := 30) (i := 18) (k := 2) (n := 1) rfl rfl rfl ?_
  refine kw_iload_n (pc := 31) (i := 19) (k := 0) (n := 2) rfl rfl rfl ?_
  refine kw_callV (pc := 32) (i := 20) (Y := mX8_turnBy) (a := 0) (As := [.int s, .int z4]) (st := [.int (σ.1 0 24), .ref 0]) kw_hE rfl rfl lvX8_202 arX8_turnBy (c_X8_turnBy_0 l T (by omega) (by omega) (kw_ui σ 0 23 z11) I12 s z4 ) (by decide) (Nat.le_of_ble_eq_true rfl) rfl (fun v S16 p15 => ?_)
  obtain ⟨e18, z17, rfl⟩ := p15
  rw [e18]
  have r_z17 := kw_rng z17
  show kw_AW l 4 kw_E0 KM mX8_pass (p_X8_pass_0 T σ s) 35 [(2, .int z4), (0, .ref 0), (1, .int s)] [.int z17, .int (σ.1 0 24), .ref 0] (kw_ui σ 0 23 z11)
  refine kw_iadd (pc := 35) (i := 21) rfl (fun z19 e_z19 t_z19 => ?_)
  first | (have u_z19 : z19.toInt = (σ.1 0 24).toInt + z17.toInt := (by omega); clear t_z19) | skip
  refine kw_puti (pc := 36) (i := 22) (z := 0) rfl rfl rfl lpX8_172 rfl rfl ?_
  have I20 : kw_I (bM T) (kw_ui (kw_ui σ 0 23 z11) 0 24 z19) := kw_I_ui I12 (kw_rng z19).1 (Int.le_of_lt_add_one (kw_rng z19).2)
  have F21 : kw_F [0, 14] σ (kw_ui (kw_ui σ 0 23 z11) 0 24 z19) := kw_F_ui F13 (by decide)
  refine kw_iconst (pc := 39) (i := 23) (v := 0) rfl rfl ?_
  refine kw_istore_n (pc := 40) (i := 24) (n := 3) (lv' := [(3, .int 0), (2, .int z4), (0, .ref 0), (1, .int s)]) rfl rfl (by decide) rfl ?_
  have L26 : ∀ (n34 : Nat) (x22 : Int32) (S23 : kw_S), kw_I (bM T) S23 → kw_F [0, 14] σ S23 → 0 ≤ x22.toInt → (S23.1 0 22).toInt = (σ.1 0 22).toInt → (S23.1 0 10).toInt = (σ.1 0 10).toInt → (S23.1 0 25).toInt = (σ.1 0 25).toInt → (S23.1 0 27).toInt = (σ.1 0 27).toInt → (7 - x22.toInt).toNat < n34 → kw_AW l 4 kw_E0 KM mX8_pass (p_X8_pass_0 T σ s) 41 [(3, .int x22), (2, .int z4), (0, .ref 0), (1, .int s)] [] S23 := by
    intro n34
    induction n34 with
    | zero => intro x22 S23 I24 F25 v28 v29 v30 v31 v32 m33; exact absurd m33 (Nat.not_lt_zero _)
    | succ n34 ih27 =>
      intro x22 S23 I24 F25 v28 v29 v30 v31 v32 m33
      have r_x22 := kw_rng x22
      refine kw_iload_n (pc := 41) (i := 25) (k := 0) (n := 3) rfl rfl rfl ?_
      refine kw_aload_n (pc := 42) (i := 26) (k := 2) (n := 0) rfl rfl rfl ?_
      refine kw_get (pc := 43) (i := 27) (v := .int (S23.1 0 10)) rfl rfl rfl lkX8_163 (fun _ => rfl) ?_
      have b35 : 0 ≤ (S23.1 0 10).toInt ∧ (S23.1 0 10).toInt ≤ 6 := I24 0 10
      refine kw_icmp_ge (pc := 46) (i := 28) (tgt := 89) rfl rfl (fun c36 => ?_) (fun c36 => ?_)
      · refine kw_aload_n (pc := 89) (i := 51) (k := 2) (n := 0) rfl rfl rfl ?_
        refine kw_dup (pc := 90) (i := 52) rfl rfl ?_
        refine kw_get (pc := 91) (i := 53) (v := .int (S23.1 0 22)) rfl rfl rfl lkX8_166 (fun _ => rfl) ?_
        have b37 : 0 ≤ (S23.1 0 22).toInt ∧ (S23.1 0 22).toInt ≤ T := I24 0 22
        refine kw_iconst (pc := 94) (i := 54) (v := 1) rfl rfl ?_
        refine kw_iadd (pc := 95) (i := 55) rfl (fun z38 e_z38 t_z38 => ?_)
        first | (have u_z38 : z38.toInt = (S23.1 0 22).toInt + 1 := (by omega); clear t_z38) | skip
        have I39 := kw_monoM (T := T) (T' := (T + 1)) (by omega) I24
        refine kw_puti (pc := 96) (i := 56) (z := 0) rfl rfl rfl lpX8_166 rfl rfl ?_
        have I40 : kw_I (bM (T + 1)) (kw_ui S23 0 22 z38) := kw_I_ui I39 (show 0 ≤ z38.toInt by omega) (show z38.toInt ≤ (T + 1) by omega)
        have F41 : kw_F [0, 14] σ (kw_ui S23 0 22 z38) := kw_F_ui F25 (by decide)
        exact kw_return (pc := 99) (i := 57) rfl rfl ⟨⟨I40, F41⟩, rfl, ⟨(show (S23.1 0 10).toInt = (σ.1 0 10).toInt from by omega), (show (S23.1 0 25).toInt = (σ.1 0 25).toInt from by omega), (show (S23.1 0 27).toInt = (σ.1 0 27).toInt from by omega)⟩⟩
      · refine kw_aload_n (pc := 49) (i := 29) (k := 2) (n := 0) rfl rfl rfl ?_
        refine kw_get (pc := 50) (i := 30) (v := .ref 14) rfl rfl rfl lkX8_57 (fun _ => rfl) ?_
        refine kw_iload_n (pc := 53) (i := 31) (k := 0) (n := 3) rfl rfl rfl ?_
        refine kw_iload_n (pc := 54) (i := 32) (k := 3) (n := 1) rfl rfl rfl ?_
        refine kw_iload_n (pc := 55) (i := 33) (k := 0) (n := 3) rfl rfl rfl ?_
        refine kw_callS (pc := 56) (i := 34) (Y := mX8_has) (As := [.int s, .int x22]) (st := [.int x22, .ref 14]) kw_hE rfl lsX8_185 arX8_has (c_X8_has l T (by omega) (by omega) S23 I24 s x22 ) (by decide) (Nat.le_of_ble_eq_true rfl) rfl (fun v S43 p42 => ?_)
        obtain ⟨e46, z45, rfl, f44⟩ := p42
        rw [e46]
        have r_z45 := kw_rng z45
        show kw_AW l 4 kw_E0 KM mX8_pass (p_X8_pass_0 T σ s) 59 [(3, .int x22), (2, .int z4), (0, .ref 0), (1, .int s)] [.int z45, .int x22, .ref 14] S23
        refine kw_if_eq (pc := 59) (i := 35) (tgt := 76) rfl rfl (fun c47 => ?_) (fun c47 => ?_)
        · refine kw_aload_n (pc := 76) (i := 44) (k := 2) (n := 0) rfl rfl rfl ?_
          refine kw_get (pc := 77) (i := 45) (v := .ref 14) rfl rfl rfl lkX8_57 (fun _ => rfl) ?_
          refine kw_iload_n (pc := 80) (i := 46) (k := 0) (n := 3) rfl rfl rfl ?_
          refine kw_iald (pc := 81) (i := 47) (n := 6) rfl rfl (by omega) (by omega) (fun z48 e_z48 => ?_)
          have t_z48 := congrArg Int32.toInt e_z48
          have r_z48 := kw_rng z48
          refine kw_iast (pc := 82) (i := 48) (n := 6) rfl rfl (by omega) (by omega) ?_
          have I49 : kw_I (bM T) (kw_ui S23 14 x22.toNatClampNeg z48) := kw_I_ui I24 (kw_rng z48).1 (Int.le_of_lt_add_one (kw_rng z48).2)
          have F50 : kw_F [0, 14] σ (kw_ui S23 14 x22.toNatClampNeg z48) := kw_F_ui F25 (by decide)
          refine kw_iinc' (pc := 83) (i := 49) (k := 0) (fun z => [(3, .int z), (2, .int z4), (0, .ref 0), (1, .int s)]) rfl rfl (by decide) rfl (fun _ => rfl) (fun z51 e_z51 t_z51 => ?_)
          first | (have u_z51 : z51.toInt = x22.toInt + 1 := (by omega); clear t_z51) | skip
          refine kw_goto (pc := 86) (i := 50) (tgt := 41) rfl rfl ?_
          refine kw_sub (lv' := [(3, .int z51), (2, .int z4), (0, .ref 0), (1, .int s)]) [0, 1, 2, 3] rfl ?_
          exact ih27 z51 (kw_ui S23 14 x22.toNatClampNeg z48) I49 F50 (by omega) (show (S23.1 0 22).toInt = (σ.1 0 22).toInt from by omega) (show (S23.1 0 10).toInt = (σ.1 0 10).toInt from by omega) (show (S23.1 0 25).toInt = (σ.1 0 25).toInt from by omega) (show (S23.1 0 27).toInt = (σ.1 0 27).toInt from by omega) (by omega)
        · refine kw_aload_n (pc := 62) (i := 36) (k := 2) (n := 0) rfl rfl rfl ?_
          refine kw_aload_n (pc := 63) (i := 37) (k := 2) (n := 0) rfl rfl rfl ?_
          refine kw_get (pc := 64) (i := 38) (v := .ref 14) rfl rfl rfl lkX8_57 (fun _ => rfl) ?_
          refine kw_iload_n (pc := 67) (i := 39) (k := 0) (n := 3) rfl rfl rfl ?_
          refine kw_iald (pc := 68) (i := 40) (n := 6) rfl rfl (by omega) (by omega) (fun z52 e_z52 => ?_)
          have t_z52 := congrArg Int32.toInt e_z52
          have r_z52 := kw_rng z52
          refine kw_iload_n (pc := 69) (i := 41) (k := 1) (n := 2) rfl rfl rfl ?_
          refine kw_callV (pc := 70) (i := 42) (Y := mX8_wetBehind) (a := 0) (As := [.int z52, .int z4]) (st := [.int x22, .ref 14]) kw_hE rfl rfl lvX8_205 arX8_wetBehind (c_X8_wetBehind_0 l T (by omega) (by omega) S23 I24 z52 z4 ) (by decide) (Nat.le_of_ble_eq_true rfl) rfl (fun v S54 p53 => ?_)
          obtain ⟨e56, z55, rfl⟩ := p53
          rw [e56]
          have r_z55 := kw_rng z55
          show kw_AW l 4 kw_E0 KM mX8_pass (p_X8_pass_0 T σ s) 73 [(3, .int x22), (2, .int z4), (0, .ref 0), (1, .int s)] [.int z55, .int x22, .ref 14] S23
          refine kw_goto (pc := 73) (i := 43) (tgt := 82) rfl rfl ?_
          refine kw_iast (pc := 82) (i := 48) (n := 6) rfl rfl (by omega) (by omega) ?_
          have I57 : kw_I (bM T) (kw_ui S23 14 x22.toNatClampNeg z55) := kw_I_ui I24 (kw_rng z55).1 (Int.le_of_lt_add_one (kw_rng z55).2)
          have F58 : kw_F [0, 14] σ (kw_ui S23 14 x22.toNatClampNeg z55) := kw_F_ui F25 (by decide)
          refine kw_iinc' (pc := 83) (i := 49) (k := 0) (fun z => [(3, .int z), (2, .int z4), (0, .ref 0), (1, .int s)]) rfl rfl (by decide) rfl (fun _ => rfl) (fun z59 e_z59 t_z59 => ?_)
          first | (have u_z59 : z59.toInt = x22.toInt + 1 := (by omega); clear t_z59) | skip
          refine kw_goto (pc := 86) (i := 50) (tgt := 41) rfl rfl ?_
          refine kw_sub (lv' := [(3, .int z59), (2, .int z4), (0, .ref 0), (1, .int s)]) [0, 1, 2, 3] rfl ?_
          exact ih27 z59 (kw_ui S23 14 x22.toNatClampNeg z55) I57 F58 (by omega) (show (S23.1 0 22).toInt = (σ.1 0 22).toInt from by omega) (show (S23.1 0 10).toInt = (σ.1 0 10).toInt from by omega) (show (S23.1 0 25).toInt = (σ.1 0 25).toInt from by omega) (show (S23.1 0 27).toInt = (σ.1 0 27).toInt from by omega) (by omega)
  exact L26 _ 0 (kw_ui (kw_ui σ 0 23 z11) 0 24 z19) I20 F21 (by omega) (show (σ.1 0 22).toInt = (σ.1 0 22).toInt from by omega) (show (σ.1 0 10).toInt = (σ.1 0 10).toInt from by omega) (show (σ.1 0 25).toInt = (σ.1 0 25).toInt from by omega) (show (σ.1 0 27).toInt = (σ.1 0 27).toInt from by omega) (Nat.lt_succ_self _)
abbrev p_X8_turnLine_0 (T : Int) (σ : kw_S) (i : Int32) : Option Value → kw_S → Prop := fun vv σ' => (kw_I (bM T) σ' ∧ kw_F [0, 15] σ σ') ∧ vv = none ∧ (σ'.1 0 27).toInt = (σ.1 0 27).toInt + 1 ∧ (σ'.1 0 10).toInt = (σ.1 0 10).toInt ∧ (σ'.1 0 22).toInt = (σ.1 0 22).toInt
set_option maxRecDepth 100000 in
set_option maxHeartbeats 4000000 in
theorem c_X8_turnLine_0 (l : Launch) (T : Int) (hT0 : 0 ≤ T) (hT1 : T ≤ 3000) (σ : kw_S) (hI : kw_I (bM T) σ) (i : Int32) (hp0 : 0 ≤ i.toInt) (hp1 : i.toInt ≤ 5) (hp2 : (σ.1 0 27).toInt ≤ 39) : kw_Met l 3 KM mX8_turnLine [.ref 0, .int i] σ (p_X8_turnLine_0 T σ i) := by
  have r_i := kw_rng i
  have hF0 : kw_F [0, 15] σ σ := kw_F.rf
  have q_1 : (1 : Int32).toInt = 1 := rfl
  refine kw_Met.of (by decide) rfl tX8_turnLine (Nat.le_of_ble_eq_true rfl) ?_
  show kw_AW l 3 kw_E0 KM mX8_turnLine (p_X8_turnLine_0 T σ i) 0 [(0, .ref 0), (1, .int i)] [] σ
  refine kw_aload_n (pc := 0) (i := 0) (k := 0) (n := 0) rfl rfl rfl ?_
  refine kw_callV (pc := 1) (i := 1) (Y := mX8_note) (a := 0) (As := []) (st := []) kw_hE rfl rfl lvX8_208 arX8_note (c_X8_note_0 l T (by omega) (by omega) σ hI  (show (σ.1 0 27).toInt ≤ 39 from by omega)) (by decide) (Nat.le_of_ble_eq_true rfl) rfl (fun v S2 p1 => ?_)
  obtain ⟨⟨I7, F8⟩, rfl, f3, f4, f5, f6⟩ := p1
  have F9 : kw_F [0, 15] σ S2 := kw_F.tr hF0 F8 (by decide)
  have f3 : (S2.1 0 27).toInt = (σ.1 0 27).toInt + 1 := f3
  have f4 : (S2.1 0 10).toInt = (σ.1 0 10).toInt := f4
  have f5 : (S2.1 0 22).toInt = (σ.1 0 22).toInt := f5
  have f6 : (S2.1 0 25).toInt = (σ.1 0 25).toInt := f6
  show kw_AW l 3 kw_E0 KM mX8_turnLine (p_X8_turnLine_0 T σ i) 4 [(0, .ref 0), (1, .int i)] [] S2
  refine kw_aload_n (pc := 4) (i := 2) (k := 0) (n := 0) rfl rfl rfl ?_
  refine kw_dup (pc := 5) (i := 3) rfl rfl ?_
  refine kw_get (pc := 6) (i := 4) (v := .int (S2.1 0 25)) rfl rfl rfl lkX8_175 (fun _ => rfl) ?_
  have b10 : 0 ≤ (S2.1 0 25).toInt ∧ (S2.1 0 25).toInt ≤ 63 := I7 0 25
  refine kw_iconst (pc := 9) (i := 5) (v := 1) rfl rfl ?_
  refine kw_iload_n (pc := 10) (i := 6) (k := 1) (n := 1) rfl rfl rfl ?_
  refine kw_ishl (pc := 11) (i := 7) rfl (fun z11 e_z11 => ?_)
  have r_z11 := kw_rng z11
  have t_z11 := kw_shlm i z11 e_z11
  have u_z11 := congrArg Int32.toInt e_z11
  refine kw_ixor (pc := 12) (i := 8) rfl (fun z12 e_z12 => ?_)
  have r_z12 := kw_rng z12
  have t_z12 := kw_xor63 (S2.1 0 25) z11 z12 e_z12
  refine kw_puti (pc := 13) (i := 9) (z := 0) rfl rfl rfl lpX8_175 rfl rfl ?_
  have I13 : kw_I (bM T) (kw_ui S2 0 25 z12) := kw_I_ui I7 (show 0 ≤ z12.toInt by omega) (show z12.toInt ≤ 63 by omega)
  have F14 : kw_F [0, 15] σ (kw_ui S2 0 25 z12) := kw_F_ui F9 (by decide)
  exact kw_return (pc := 16) (i := 10) rfl rfl ⟨⟨I13, F14⟩, rfl, ⟨(show (S2.1 0 27).toInt = (σ.1 0 27).toInt + 1 from by omega), (show (S2.1 0 10).toInt = (σ.1 0 10).toInt from by omega), (show (S2.1 0 22).toInt = (σ.1 0 22).toInt from by omega)⟩⟩
abbrev p_X8_hang_0 (T : Int) (σ : kw_S) (i : Int32) : Option Value → kw_S → Prop := fun vv σ' => (kw_I (bM T) σ' ∧ kw_F [0, 15] σ σ') ∧ ∃ r : Int32, vv = some (.int r)
set_option maxRecDepth 100000 in
set_option maxHeartbeats 4000000 in
theorem c_X8_hang_0 (l : Launch) (T : Int) (hT0 : 0 ≤ T) (hT1 : T ≤ 3000) (σ : kw_S) (hI : kw_I (bM T) σ) (i : Int32) : kw_Met l 4 KM mX8_hang [.ref 0, .int i] σ (p_X8_hang_0 T σ i) := by
  have r_i := kw_rng i
  have hF0 : kw_F [0, 15] σ σ := kw_F.rf
  have q_m4 : (-4 : Int32).toInt = -4 := rfl
  have q_m2 : (-2 : Int32).toInt = -2 := rfl
  have q_m1 : (-1 : Int32).toInt = -1 := rfl
  have q_40 : (40 : Int32).toInt = 40 := rfl
  refine kw_Met.of (by decide) rfl tX8_hang (Nat.le_of_ble_eq_true rfl) ?_
  show kw_AW l 4 kw_E0 KM mX8_hang (p_X8_hang_0 T σ i) 0 [(0, .ref 0), (1, .int i)] [] σ
  refine kw_aload_n (pc := 0) (i := 0) (k := 0) (n := 0) rfl rfl rfl ?_
  refine kw_iload_n (pc := 1) (i := 1) (k := 1) (n := 1) rfl rfl rfl ?_
  refine kw_callV (pc := 2) (i := 2) (Y := mX8_isLine) (a := 0) (As := [.int i]) (st := []) kw_hE rfl rfl lvX8_211 arX8_isLine (c_X8_isLine_0 l T (by omega) (by omega) σ hI i ) (by decide) (Nat.le_of_ble_eq_true rfl) rfl (fun v S2 p1 => ?_)
  obtain ⟨e6, z5, rfl, f3, f4⟩ := p1
  rw [e6]
  have f4 : (z5.toInt = 0 ∨ 0 ≤ i.toInt ∧ i.toInt < (σ.1 0 10).toInt ∧ i.toInt ≤ 5) := f4
  have r_z5 := kw_rng z5
  show kw_AW l 4 kw_E0 KM mX8_hang (p_X8_hang_0 T σ i) 5 [(0, .ref 0), (1, .int i)] [.int z5] σ
  refine kw_if_ne (pc := 5) (i := 3) (tgt := 10) rfl rfl (fun c7 => ?_) (fun c7 => ?_)
  · refine kw_aload_n (pc := 10) (i := 6) (k := 0) (n := 0) rfl rfl rfl ?_
    refine kw_get (pc := 11) (i := 7) (v := .int (σ.1 0 25)) rfl rfl rfl lkX8_175 (fun _ => rfl) ?_
    have b8 : 0 ≤ (σ.1 0 25).toInt ∧ (σ.1 0 25).toInt ≤ 63 := hI 0 25
    refine kw_iload_n (pc := 14) (i := 8) (k := 1) (n := 1) rfl rfl rfl ?_
    refine kw_callS (pc := 15) (i := 9) (Y := mX8_has) (As := [.int (σ.1 0 25), .int i]) (st := []) kw_hE rfl lsX8_185 arX8_has (c_X8_has l T (by omega) (by omega) σ hI (σ.1 0 25) i ) (by decide) (Nat.le_of_ble_eq_true rfl) rfl (fun v S10 p9 => ?_)
    obtain ⟨e13, z12, rfl, f11⟩ := p9
    rw [e13]
    have r_z12 := kw_rng z12
    show kw_AW l 4 kw_E0 KM mX8_hang (p_X8_hang_0 T σ i) 18 [(0, .ref 0), (1, .int i)] [.int z12] σ
    refine kw_if_eq (pc := 18) (i := 10) (tgt := 24) rfl rfl (fun c14 => ?_) (fun c14 => ?_)
    · refine kw_aload_n (pc := 24) (i := 13) (k := 0) (n := 0) rfl rfl rfl ?_
      refine kw_get (pc := 25) (i := 14) (v := .int (σ.1 0 27)) rfl rfl rfl lkX8_178 (fun _ => rfl) ?_
      have b15 : 0 ≤ (σ.1 0 27).toInt ∧ (σ.1 0 27).toInt ≤ 40 := hI 0 27
      refine kw_bipush (pc := 28) (i := 15) (v := 40) rfl rfl ?_
      refine kw_icmp_ne (pc := 30) (i := 16) (tgt := 36) rfl rfl (fun c16 => ?_) (fun c16 => ?_)
      · refine kw_aload_n (pc := 36) (i := 19) (k := 0) (n := 0) rfl rfl rfl ?_
        refine kw_iload_n (pc := 37) (i := 20) (k := 1) (n := 1) rfl rfl rfl ?_
        refine kw_callV (pc := 38) (i := 21) (Y := mX8_turnLine) (a := 0) (As := [.int i]) (st := []) kw_hE rfl rfl lvX8_214 arX8_turnLine (c_X8_turnLine_0 l T (by omega) (by omega) σ hI i (by first | omega | decide) (by first | omega | decide) (show (σ.1 0 27).toInt ≤ 39 from by omega)) (by decide) (Nat.le_of_ble_eq_true rfl) rfl (fun v S18 p17 => ?_)
        obtain ⟨⟨I22, F23⟩, rfl, f19, f20, f21⟩ := p17
        have F24 : kw_F [0, 15] σ S18 := kw_F.tr hF0 F23 (by decide)
        have f19 : (S18.1 0 27).toInt = (σ.1 0 27).toInt + 1 := f19
        have f20 : (S18.1 0 10).toInt = (σ.1 0 10).toInt := f20
        have f21 : (S18.1 0 22).toInt = (σ.1 0 22).toInt := f21
        show kw_AW l 4 kw_E0 KM mX8_hang (p_X8_hang_0 T σ i) 41 [(0, .ref 0), (1, .int i)] [] S18
        refine kw_aload_n (pc := 41) (i := 22) (k := 0) (n := 0) rfl rfl rfl ?_
        refine kw_get (pc := 42) (i := 23) (v := .int (S18.1 0 25)) rfl rfl rfl lkX8_175 (fun _ => rfl) ?_
        have b25 : 0 ≤ (S18.1 0 25).toInt ∧ (S18.1 0 25).toInt ≤ 63 := I22 0 25
        refine kw_callS (pc := 45) (i := 24) (Y := mX8_bits) (As := [.int (S18.1 0 25)]) (st := []) kw_hE rfl lsX8_217 arX8_bits (c_X8_bits l T (by omega) (by omega) S18 I22 (S18.1 0 25) ) (by decide) (Nat.le_of_ble_eq_true rfl) rfl (fun v S27 p26 => ?_)
        obtain ⟨e29, z28, rfl⟩ := p26
        rw [e29]
        have r_z28 := kw_rng z28
        show kw_AW l 4 kw_E0 KM mX8_hang (p_X8_hang_0 T σ i) 48 [(0, .ref 0), (1, .int i)] [.int z28] S18
        exact kw_ireturn (pc := 48) (i := 25) (ty := .int) rfl rfl rfl ⟨⟨I22, F24⟩, _, rfl⟩
      · refine kw_bipush (pc := 33) (i := 17) (v := (-2)) rfl rfl ?_
        exact kw_ireturn (pc := 35) (i := 18) (ty := .int) rfl rfl rfl ⟨⟨hI, hF0⟩, _, rfl⟩
    · refine kw_bipush (pc := 21) (i := 11) (v := (-4)) rfl rfl ?_
      exact kw_ireturn (pc := 23) (i := 12) (ty := .int) rfl rfl rfl ⟨⟨hI, hF0⟩, _, rfl⟩
  · refine kw_iconst (pc := 8) (i := 4) (v := (-1)) rfl rfl ?_
    exact kw_ireturn (pc := 9) (i := 5) (ty := .int) rfl rfl rfl ⟨⟨hI, hF0⟩, _, rfl⟩
abbrev p_X8_take_0 (T : Int) (σ : kw_S) (i : Int32) : Option Value → kw_S → Prop := fun vv σ' => (kw_I (bM T) σ' ∧ kw_F [0, 15] σ σ') ∧ ∃ r : Int32, vv = some (.int r)
set_option maxRecDepth 100000 in
set_option maxHeartbeats 4000000 in
theorem c_X8_take_0 (l : Launch) (T : Int) (hT0 : 0 ≤ T) (hT1 : T ≤ 3000) (σ : kw_S) (hI : kw_I (bM T) σ) (i : Int32) : kw_Met l 4 KM mX8_take [.ref 0, .int i] σ (p_X8_take_0 T σ i) := by
  have r_i := kw_rng i
  have hF0 : kw_F [0, 15] σ σ := kw_F.rf
  have q_m4 : (-4 : Int32).toInt = -4 := rfl
  have q_m2 : (-2 : Int32).toInt = -2 := rfl
  have q_m1 : (-1 : Int32).toInt = -1 := rfl
  have q_40 : (40 : Int32).toInt = 40 := rfl
  refine kw_Met.of (by decide) rfl tX8_take (Nat.le_of_ble_eq_true rfl) ?_
  show kw_AW l 4 kw_E0 KM mX8_take (p_X8_take_0 T σ i) 0 [(0, .ref 0), (1, .int i)] [] σ
  refine kw_aload_n (pc := 0) (i := 0) (k := 0) (n := 0) rfl rfl rfl ?_
  refine kw_iload_n (pc := 1) (i := 1) (k := 1) (n := 1) rfl rfl rfl ?_
  refine kw_callV (pc := 2) (i := 2) (Y := mX8_isLine) (a := 0) (As := [.int i]) (st := []) kw_hE rfl rfl lvX8_211 arX8_isLine (c_X8_isLine_0 l T (by omega) (by omega) σ hI i ) (by decide) (Nat.le_of_ble_eq_true rfl) rfl (fun v S2 p1 => ?_)
  obtain ⟨e6, z5, rfl, f3, f4⟩ := p1
  rw [e6]
  have f4 : (z5.toInt = 0 ∨ 0 ≤ i.toInt ∧ i.toInt < (σ.1 0 10).toInt ∧ i.toInt ≤ 5) := f4
  have r_z5 := kw_rng z5
  show kw_AW l 4 kw_E0 KM mX8_take (p_X8_take_0 T σ i) 5 [(0, .ref 0), (1, .int i)] [.int z5] σ
  refine kw_if_ne (pc := 5) (i := 3) (tgt := 10) rfl rfl (fun c7 => ?_) (fun c7 => ?_)
  · refine kw_aload_n (pc := 10) (i := 6) (k := 0) (n := 0) rfl rfl rfl ?_
    refine kw_get (pc := 11) (i := 7) (v := .int (σ.1 0 25)) rfl rfl rfl lkX8_175 (fun _ => rfl) ?_
    have b8 : 0 ≤ (σ.1 0 25).toInt ∧ (σ.1 0 25).toInt ≤ 63 := hI 0 25
    refine kw_iload_n (pc := 14) (i := 8) (k := 1) (n := 1) rfl rfl rfl ?_
    refine kw_callS (pc := 15) (i := 9) (Y := mX8_has) (As := [.int (σ.1 0 25), .int i]) (st := []) kw_hE rfl lsX8_185 arX8_has (c_X8_has l T (by omega) (by omega) σ hI (σ.1 0 25) i ) (by decide) (Nat.le_of_ble_eq_true rfl) rfl (fun v S10 p9 => ?_)
    obtain ⟨e13, z12, rfl, f11⟩ := p9
    rw [e13]
    have r_z12 := kw_rng z12
    show kw_AW l 4 kw_E0 KM mX8_take (p_X8_take_0 T σ i) 18 [(0, .ref 0), (1, .int i)] [.int z12] σ
    refine kw_if_ne (pc := 18) (i := 10) (tgt := 24) rfl rfl (fun c14 => ?_) (fun c14 => ?_)
    · refine kw_aload_n (pc := 24) (i := 13) (k := 0) (n := 0) rfl rfl rfl ?_
      refine kw_get (pc := 25) (i := 14) (v := .int (σ.1 0 27)) rfl rfl rfl lkX8_178 (fun _ => rfl) ?_
      have b15 : 0 ≤ (σ.1 0 27).toInt ∧ (σ.1 0 27).toInt ≤ 40 := hI 0 27
      refine kw_bipush (pc := 28) (i := 15) (v := 40) rfl rfl ?_
      refine kw_icmp_ne (pc := 30) (i := 16) (tgt := 36) rfl rfl (fun c16 => ?_) (fun c16 => ?_)
      · refine kw_aload_n (pc := 36) (i := 19) (k := 0) (n := 0) rfl rfl rfl ?_
        refine kw_iload_n (pc := 37) (i := 20) (k := 1) (n := 1) rfl rfl rfl ?_
        refine kw_callV (pc := 38) (i := 21) (Y := mX8_turnLine) (a := 0) (As := [.int i]) (st := []) kw_hE rfl rfl lvX8_214 arX8_turnLine (c_X8_turnLine_0 l T (by omega) (by omega) σ hI i (by first | omega | decide) (by first | omega | decide) (show (σ.1 0 27).toInt ≤ 39 from by omega)) (by decide) (Nat.le_of_ble_eq_true rfl) rfl (fun v S18 p17 => ?_)
        obtain ⟨⟨I22, F23⟩, rfl, f19, f20, f21⟩ := p17
        have F24 : kw_F [0, 15] σ S18 := kw_F.tr hF0 F23 (by decide)
        have f19 : (S18.1 0 27).toInt = (σ.1 0 27).toInt + 1 := f19
        have f20 : (S18.1 0 10).toInt = (σ.1 0 10).toInt := f20
        have f21 : (S18.1 0 22).toInt = (σ.1 0 22).toInt := f21
        show kw_AW l 4 kw_E0 KM mX8_take (p_X8_take_0 T σ i) 41 [(0, .ref 0), (1, .int i)] [] S18
        refine kw_aload_n (pc := 41) (i := 22) (k := 0) (n := 0) rfl rfl rfl ?_
        refine kw_get (pc := 42) (i := 23) (v := .ref 14) rfl rfl rfl lkX8_57 (fun _ => rfl) ?_
        refine kw_iload_n (pc := 45) (i := 24) (k := 1) (n := 1) rfl rfl rfl ?_
        refine kw_iald (pc := 46) (i := 25) (n := 6) rfl rfl (by omega) (by omega) (fun z25 e_z25 => ?_)
        have t_z25 := congrArg Int32.toInt e_z25
        have r_z25 := kw_rng z25
        exact kw_ireturn (pc := 47) (i := 26) (ty := .int) rfl rfl rfl ⟨⟨I22, F24⟩, _, rfl⟩
      · refine kw_bipush (pc := 33) (i := 17) (v := (-2)) rfl rfl ?_
        exact kw_ireturn (pc := 35) (i := 18) (ty := .int) rfl rfl rfl ⟨⟨hI, hF0⟩, _, rfl⟩
    · refine kw_bipush (pc := 21) (i := 11) (v := (-4)) rfl rfl ?_
      exact kw_ireturn (pc := 23) (i := 12) (ty := .int) rfl rfl rfl ⟨⟨hI, hF0⟩, _, rfl⟩
  · refine kw_iconst (pc := 8) (i := 4) (v := (-1)) rfl rfl ?_
    exact kw_ireturn (pc := 9) (i := 5) (ty := .int) rfl rfl rfl ⟨⟨hI, hF0⟩, _, rfl⟩
abbrev p_X8_hour_0 (T : Int) (σ : kw_S)  : Option Value → kw_S → Prop := fun vv σ' => (kw_I (bM (T + 1)) σ' ∧ kw_F [0, 14, 15] σ σ') ∧ ∃ r : Int32, vv = some (.int r)
set_option maxRecDepth 100000 in
set_option maxHeartbeats 4000000 in
theorem c_X8_hour_0 (l : Launch) (T : Int) (hT0 : 0 ≤ T) (hT1 : T ≤ 3000) (σ : kw_S) (hI : kw_I (bM T) σ) (hp0 : T ≤ 2000) : kw_Met l 5 KM mX8_hour [.ref 0] σ (p_X8_hour_0 T σ) := by
  have hF0 : kw_F [0, 14, 15] σ σ := kw_F.rf
  have q_m4 : (-4 : Int32).toInt = -4 := rfl
  have q_m2 : (-2 : Int32).toInt = -2 := rfl
  have q_1 : (1 : Int32).toInt = 1 := rfl
  have q_40 : (40 : Int32).toInt = 40 := rfl
  refine kw_Met.of (by decide) rfl tX8_hour (Nat.le_of_ble_eq_true rfl) ?_
  show kw_AW l 5 kw_E0 KM mX8_hour (p_X8_hour_0 T σ) 0 [(0, .ref 0)] [] σ
  refine kw_aload_n (pc := 0) (i := 0) (k := 0) (n := 0) rfl rfl rfl ?_
  refine kw_get (pc := 1) (i := 1) (v := .int (σ.1 0 10)) rfl rfl rfl lkX8_163 (fun _ => rfl) ?_
  have b1 : 0 ≤ (σ.1 0 10).toInt ∧ (σ.1 0 10).toInt ≤ 6 := hI 0 10
  refine kw_if_ne (pc := 4) (i := 2) (tgt := 10) rfl rfl (fun c2 => ?_) (fun c2 => ?_)
  · refine kw_aload_n (pc := 10) (i := 5) (k := 0) (n := 0) rfl rfl rfl ?_
    refine kw_get (pc := 11) (i := 6) (v := .int (σ.1 0 27)) rfl rfl rfl lkX8_178 (fun _ => rfl) ?_
    have b3 : 0 ≤ (σ.1 0 27).toInt ∧ (σ.1 0 27).toInt ≤ 40 := hI 0 27
    refine kw_bipush (pc := 14) (i := 7) (v := 40) rfl rfl ?_
    refine kw_icmp_ne (pc := 16) (i := 8) (tgt := 22) rfl rfl (fun c4 => ?_) (fun c4 => ?_)
    · refine kw_aload_n (pc := 22) (i := 11) (k := 0) (n := 0) rfl rfl rfl ?_
      refine kw_callV (pc := 23) (i := 12) (Y := mX8_note) (a := 0) (As := []) (st := []) kw_hE rfl rfl lvX8_208 arX8_note (c_X8_note_0 l T (by omega) (by omega) σ hI  (show (σ.1 0 27).toInt ≤ 39 from by omega)) (by decide) (Nat.le_of_ble_eq_true rfl) rfl (fun v S6 p5 => ?_)
      obtain ⟨⟨I11, F12⟩, rfl, f7, f8, f9, f10⟩ := p5
      have F13 : kw_F [0, 14, 15] σ S6 := kw_F.tr hF0 F12 (by decide)
      have f7 : (S6.1 0 27).toInt = (σ.1 0 27).toInt + 1 := f7
      have f8 : (S6.1 0 10).toInt = (σ.1 0 10).toInt := f8
      have f9 : (S6.1 0 22).toInt = (σ.1 0 22).toInt := f9
      have f10 : (S6.1 0 25).toInt = (σ.1 0 25).toInt := f10
      show kw_AW l 5 kw_E0 KM mX8_hour (p_X8_hour_0 T σ) 26 [(0, .ref 0)] [] S6
      refine kw_aload_n (pc := 26) (i := 13) (k := 0) (n := 0) rfl rfl rfl ?_
      refine kw_aload_n (pc := 27) (i := 14) (k := 0) (n := 0) rfl rfl rfl ?_
      refine kw_get (pc := 28) (i := 15) (v := .int (S6.1 0 25)) rfl rfl rfl lkX8_175 (fun _ => rfl) ?_
      have b14 : 0 ≤ (S6.1 0 25).toInt ∧ (S6.1 0 25).toInt ≤ 63 := I11 0 25
      refine kw_callV (pc := 31) (i := 16) (Y := mX8_pass) (a := 0) (As := [.int (S6.1 0 25)]) (st := []) kw_hE rfl rfl lvX8_220 arX8_pass (c_X8_pass_0 l T (by omega) (by omega) S6 I11 (S6.1 0 25) ) (by decide) (Nat.le_of_ble_eq_true rfl) rfl (fun v S16 p15 => ?_)
      obtain ⟨⟨I20, F21⟩, rfl, f17, f18, f19⟩ := p15
      have F22 : kw_F [0, 14, 15] σ S16 := kw_F.tr F13 F21 (by decide)
      have f17 : (S16.1 0 10).toInt = (S6.1 0 10).toInt := f17
      have f18 : (S16.1 0 25).toInt = (S6.1 0 25).toInt := f18
      have f19 : (S16.1 0 27).toInt = (S6.1 0 27).toInt := f19
      show kw_AW l 5 kw_E0 KM mX8_hour (p_X8_hour_0 T σ) 34 [(0, .ref 0)] [] S16
      refine kw_aload_n (pc := 34) (i := 17) (k := 0) (n := 0) rfl rfl rfl ?_
      refine kw_aload_n (pc := 35) (i := 18) (k := 0) (n := 0) rfl rfl rfl ?_
      refine kw_get (pc := 36) (i := 19) (v := .int (S16.1 0 24)) rfl rfl rfl lkX8_172 (fun _ => rfl) ?_
      have b23 := kw_rng (S16.1 0 24)
      refine kw_i2l (pc := 39) (i := 20) rfl (fun z24 e_z24 t_z24 => ?_)
      refine kw_lconst (pc := 40) (i := 21) (v := 1) rfl rfl ?_
      refine kw_callV (pc := 41) (i := 22) (Y := mX8_part) (a := 0) (As := [.long z24, .long 1]) (st := []) kw_hE rfl rfl lvX8_223 arX8_part (c_X8_part_0 l (T + 1) (by omega) (by omega) S16 I20 z24 1 (by first | omega | decide)) (by decide) (Nat.le_of_ble_eq_true rfl) rfl (fun v S26 p25 => ?_)
      obtain ⟨⟨I29, F30⟩, z28, rfl, f27⟩ := p25
      have F31 : kw_F [0, 14, 15] σ S26 := kw_F.tr F22 F30 (by decide)
      have r_z28 := kw_rng z28
      show kw_AW l 5 kw_E0 KM mX8_hour (p_X8_hour_0 T σ) 44 [(0, .ref 0)] [.int z28] S26
      refine kw_pop (pc := 44) (i := 23) rfl rfl ?_
      refine kw_aload_n (pc := 45) (i := 24) (k := 0) (n := 0) rfl rfl rfl ?_
      refine kw_aload_n (pc := 46) (i := 25) (k := 0) (n := 0) rfl rfl rfl ?_
      refine kw_get (pc := 47) (i := 26) (v := .int (S26.1 0 23)) rfl rfl rfl lkX8_169 (fun _ => rfl) ?_
      have b32 := kw_rng (S26.1 0 23)
      refine kw_iconst (pc := 50) (i := 27) (v := 1) rfl rfl ?_
      refine kw_callV (pc := 51) (i := 28) (Y := mX8_ask) (a := 0) (As := [.int (S26.1 0 23), .int 1]) (st := []) kw_hE rfl rfl lvX8_119 arX8_ask (c_X8_ask_0 l (T + 1) (by omega) (by omega) S26 I29 (S26.1 0 23) 1 ) (by decide) (Nat.le_of_ble_eq_true rfl) rfl (fun v S34 p33 => ?_)
      obtain ⟨⟨I37, F38⟩, z36, rfl, f35⟩ := p33
      have F39 : kw_F [0, 14, 15] σ S34 := kw_F.tr F31 F38 (by decide)
      have r_z36 := kw_rng z36
      show kw_AW l 5 kw_E0 KM mX8_hour (p_X8_hour_0 T σ) 54 [(0, .ref 0)] [.int z36] S34
      exact kw_ireturn (pc := 54) (i := 29) (ty := .int) rfl rfl rfl ⟨⟨I37, F39⟩, _, rfl⟩
    · refine kw_bipush (pc := 19) (i := 9) (v := (-2)) rfl rfl ?_
      exact kw_ireturn (pc := 21) (i := 10) (ty := .int) rfl rfl rfl ⟨⟨(kw_monoM (by omega) hI), hF0⟩, _, rfl⟩
  · refine kw_bipush (pc := 7) (i := 3) (v := (-4)) rfl rfl ?_
    exact kw_ireturn (pc := 9) (i := 4) (ty := .int) rfl rfl rfl ⟨⟨(kw_monoM (by omega) hI), hF0⟩, _, rfl⟩
abbrev p_X8_undo_0 (T : Int) (σ : kw_S) (n : Int32) : Option Value → kw_S → Prop := fun vv σ' => (kw_I (bM T) σ' ∧ kw_F [0, 14] σ σ') ∧ ∃ r : Int32, vv = some (.int r)
set_option maxRecDepth 100000 in
set_option maxHeartbeats 4000000 in
theorem c_X8_undo_0 (l : Launch) (T : Int) (hT0 : 0 ≤ T) (hT1 : T ≤ 3000) (σ : kw_S) (hI : kw_I (bM T) σ) (n : Int32) : kw_Met l 2 KM mX8_undo [.ref 0, .int n] σ (p_X8_undo_0 T σ n) := by
  have r_n := kw_rng n
  have hF0 : kw_F [0, 14] σ σ := kw_F.rf
  have q_m1 : (-1 : Int32).toInt = -1 := rfl
  have q_0 : (0 : Int32).toInt = 0 := rfl
  have q_10 : (10 : Int32).toInt = 10 := rfl
  refine kw_Met.of (by decide) rfl tX8_undo (Nat.le_of_ble_eq_true rfl) ?_
  show kw_AW l 2 kw_E0 KM mX8_undo (p_X8_undo_0 T σ n) 0 [(0, .ref 0), (1, .int n)] [] σ
  refine kw_iload_n (pc := 0) (i := 0) (k := 1) (n := 1) rfl rfl rfl ?_
  refine kw_iconst (pc := 1) (i := 1) (v := 0) rfl rfl ?_
  refine kw_aload_n (pc := 2) (i := 2) (k := 0) (n := 0) rfl rfl rfl ?_
  refine kw_get (pc := 3) (i := 3) (v := .int (σ.1 0 27)) rfl rfl rfl lkX8_178 (fun _ => rfl) ?_
  have b1 : 0 ≤ (σ.1 0 27).toInt ∧ (σ.1 0 27).toInt ≤ 40 := hI 0 27
  refine kw_callS (pc := 6) (i := 4) (Y := mX8_in) (As := [.int n, .int 0, .int (σ.1 0 27)]) (st := []) kw_hE rfl lsX8_93 arX8_in (c_X8_in l T (by omega) (by omega) σ hI n 0 (σ.1 0 27) ) (by decide) (Nat.le_of_ble_eq_true rfl) rfl (fun v S3 p2 => ?_)
  obtain ⟨e8, z7, rfl, f4, f5, f6⟩ := p2
  rw [e8]
  have r_z7 := kw_rng z7
  show kw_AW l 2 kw_E0 KM mX8_undo (p_X8_undo_0 T σ n) 9 [(0, .ref 0), (1, .int n)] [.int z7] σ
  refine kw_if_ne (pc := 9) (i := 5) (tgt := 14) rfl rfl (fun c9 => ?_) (fun c9 => ?_)
  · refine kw_aload_n (pc := 14) (i := 8) (k := 0) (n := 0) rfl rfl rfl ?_
    refine kw_get (pc := 15) (i := 9) (v := .int (σ.1 0 27)) rfl rfl rfl lkX8_178 (fun _ => rfl) ?_
    refine kw_iload_n (pc := 18) (i := 10) (k := 1) (n := 1) rfl rfl rfl ?_
    refine kw_isub (pc := 19) (i := 11) rfl (fun z10 e_z10 t_z10 => ?_)
    first | (have u_z10 : z10.toInt = (σ.1 0 27).toInt - n.toInt := (by omega); clear t_z10) | skip
    refine kw_istore_n (pc := 20) (i := 12) (n := 2) (lv' := [(2, .int z10), (0, .ref 0), (1, .int n)]) rfl rfl (by decide) rfl ?_
    refine kw_iload_n (pc := 21) (i := 13) (k := 0) (n := 2) rfl rfl rfl ?_
    refine kw_if_le (pc := 22) (i := 14) (tgt := 42) rfl rfl (fun c11 => ?_) (fun c11 => ?_)
    · refine kw_iload_n (pc := 42) (i := 25) (k := 0) (n := 2) rfl rfl rfl ?_
      exact kw_ireturn (pc := 43) (i := 26) (ty := .int) rfl rfl rfl ⟨⟨hI, hF0⟩, _, rfl⟩
    · refine kw_aload_n (pc := 25) (i := 15) (k := 1) (n := 0) rfl rfl rfl ?_
      refine kw_aload_n (pc := 26) (i := 16) (k := 1) (n := 0) rfl rfl rfl ?_
      refine kw_get (pc := 27) (i := 17) (v := .ref 15) rfl rfl rfl lkX8_60 (fun _ => rfl) ?_
      refine kw_bipush (pc := 30) (i := 18) (v := 10) rfl rfl ?_
      refine kw_iload_n (pc := 32) (i := 19) (k := 2) (n := 1) rfl rfl rfl ?_
      refine kw_imul (pc := 33) (i := 20) rfl (fun z12 e_z12 t_z12 => ?_)
      rw [show (10 : Int32).toInt = 10 from rfl] at t_z12
      first | (have u_z12 : z12.toInt = 10 * n.toInt := (by omega); clear t_z12) | skip
      refine kw_callV (pc := 34) (i := 21) (Y := mX8_read) (a := 0) (As := [.ref 15, .int z12]) (st := []) kw_hE rfl rfl lvX8_227 arX8_read (c_X8_read_0_15 l T (by omega) (by omega) σ hI z12 (by first | omega | decide) (by first | omega | decide) (by first | omega | decide)) (by decide) (Nat.le_of_ble_eq_true rfl) rfl (fun v S14 p13 => ?_)
      obtain ⟨⟨I17, F18⟩, rfl, f15, f16⟩ := p13
      have F19 : kw_F [0, 14] σ S14 := kw_F.tr hF0 F18 (by decide)
      have f15 : (S14.1 0 10).toInt = (σ.1 0 10).toInt := f15
      have f16 : (S14.1 0 27).toInt = (σ.1 0 27).toInt := f16
      show kw_AW l 2 kw_E0 KM mX8_undo (p_X8_undo_0 T σ n) 37 [(2, .int z10), (0, .ref 0), (1, .int n)] [] S14
      refine kw_aload_n (pc := 37) (i := 22) (k := 1) (n := 0) rfl rfl rfl ?_
      refine kw_iload_n (pc := 38) (i := 23) (k := 2) (n := 1) rfl rfl rfl ?_
      refine kw_puti (pc := 39) (i := 24) (z := 0) rfl rfl rfl lpX8_178 rfl rfl ?_
      have I20 : kw_I (bM T) (kw_ui S14 0 27 n) := kw_I_ui I17 (show 0 ≤ n.toInt by omega) (show n.toInt ≤ 40 by omega)
      have F21 : kw_F [0, 14] σ (kw_ui S14 0 27 n) := kw_F_ui F19 (by decide)
      refine kw_iload_n (pc := 42) (i := 25) (k := 0) (n := 2) rfl rfl rfl ?_
      exact kw_ireturn (pc := 43) (i := 26) (ty := .int) rfl rfl rfl ⟨⟨I20, F21⟩, _, rfl⟩
  · refine kw_iconst (pc := 12) (i := 6) (v := (-1)) rfl rfl ?_
    exact kw_ireturn (pc := 13) (i := 7) (ty := .int) rfl rfl rfl ⟨⟨hI, hF0⟩, _, rfl⟩
abbrev p_X8_keep_0 (T : Int) (σ : kw_S) (k : Int32) : Option Value → kw_S → Prop := fun vv σ' => (kw_I (bM T) σ' ∧ kw_F [16, 17] σ σ') ∧ ∃ r : Int32, vv = some (.int r)
set_option maxRecDepth 100000 in
set_option maxHeartbeats 4000000 in
theorem c_X8_keep_0 (l : Launch) (T : Int) (hT0 : 0 ≤ T) (hT1 : T ≤ 3000) (σ : kw_S) (hI : kw_I (bM T) σ) (k : Int32) : kw_Met l 2 KM mX8_keep [.ref 0, .int k] σ (p_X8_keep_0 T σ k) := by
  have r_k := kw_rng k
  have hF0 : kw_F [16, 17] σ σ := kw_F.rf
  have q_m4 : (-4 : Int32).toInt = -4 := rfl
  have q_m1 : (-1 : Int32).toInt = -1 := rfl
  have q_0 : (0 : Int32).toInt = 0 := rfl
  have q_1 : (1 : Int32).toInt = 1 := rfl
  have q_2 : (2 : Int32).toInt = 2 := rfl
  have q_10 : (10 : Int32).toInt = 10 := rfl
  have q_400 : (400 : Int32).toInt = 400 := rfl
  have q_410 : (410 : Int32).toInt = 410 := rfl
  have q_411 : (411 : Int32).toInt = 411 := rfl
  refine kw_Met.of (by decide) rfl tX8_keep (Nat.le_of_ble_eq_true rfl) ?_
  show kw_AW l 2 kw_E0 KM mX8_keep (p_X8_keep_0 T σ k) 0 [(0, .ref 0), (1, .int k)] [] σ
  refine kw_iload_n (pc := 0) (i := 0) (k := 1) (n := 1) rfl rfl rfl ?_
  refine kw_iconst (pc := 1) (i := 1) (v := 0) rfl rfl ?_
  refine kw_iconst (pc := 2) (i := 2) (v := 2) rfl rfl ?_
  refine kw_callS (pc := 3) (i := 3) (Y := mX8_in) (As := [.int k, .int 0, .int 2]) (st := []) kw_hE rfl lsX8_93 arX8_in (c_X8_in l T (by omega) (by omega) σ hI k 0 2 ) (by decide) (Nat.le_of_ble_eq_true rfl) rfl (fun v S2 p1 => ?_)
  obtain ⟨e7, z6, rfl, f3, f4, f5⟩ := p1
  rw [e7]
  have r_z6 := kw_rng z6
  show kw_AW l 2 kw_E0 KM mX8_keep (p_X8_keep_0 T σ k) 6 [(0, .ref 0), (1, .int k)] [.int z6] σ
  refine kw_if_ne (pc := 6) (i := 4) (tgt := 11) rfl rfl (fun c8 => ?_) (fun c8 => ?_)
  · refine kw_aload_n (pc := 11) (i := 7) (k := 0) (n := 0) rfl rfl rfl ?_
    refine kw_get (pc := 12) (i := 8) (v := .int (σ.1 0 10)) rfl rfl rfl lkX8_163 (fun _ => rfl) ?_
    have b9 : 0 ≤ (σ.1 0 10).toInt ∧ (σ.1 0 10).toInt ≤ 6 := hI 0 10
    refine kw_if_ne (pc := 15) (i := 9) (tgt := 21) rfl rfl (fun c10 => ?_) (fun c10 => ?_)
    · refine kw_sipush (pc := 21) (i := 12) (v := 411) rfl rfl ?_
      refine kw_iload_n (pc := 24) (i := 13) (k := 1) (n := 1) rfl rfl rfl ?_
      refine kw_imul (pc := 25) (i := 14) rfl (fun z11 e_z11 t_z11 => ?_)
      rw [show (411 : Int32).toInt = 411 from rfl] at t_z11
      first | (have u_z11 : z11.toInt = 411 * k.toInt := (by omega); clear t_z11) | skip
      refine kw_istore_n (pc := 26) (i := 15) (n := 2) (lv' := [(2, .int z11), (0, .ref 0), (1, .int k)]) rfl rfl (by decide) rfl ?_
      refine kw_iconst (pc := 27) (i := 16) (v := 0) rfl rfl ?_
      refine kw_istore_n (pc := 28) (i := 17) (n := 3) (lv' := [(3, .int 0), (2, .int z11), (0, .ref 0), (1, .int k)]) rfl rfl (by decide) rfl ?_
      have L16 : ∀ (n20 : Nat) (x12 : Int32) (S13 : kw_S), kw_I (bM T) S13 → kw_F [16, 17] σ S13 → 0 ≤ x12.toInt → (401 - x12.toInt).toNat < n20 → kw_AW l 2 kw_E0 KM mX8_keep (p_X8_keep_0 T σ k) 29 [(3, .int x12), (2, .int z11), (0, .ref 0), (1, .int k)] [] S13 := by
        intro n20
        induction n20 with
        | zero => intro x12 S13 I14 F15 v18 m19; exact absurd m19 (Nat.not_lt_zero _)
        | succ n20 ih17 =>
          intro x12 S13 I14 F15 v18 m19
          have r_x12 := kw_rng x12
          refine kw_iload_n (pc := 29) (i := 18) (k := 0) (n := 3) rfl rfl rfl ?_
          refine kw_bipush (pc := 30) (i := 19) (v := 10) rfl rfl ?_
          refine kw_aload_n (pc := 32) (i := 20) (k := 2) (n := 0) rfl rfl rfl ?_
          refine kw_get (pc := 33) (i := 21) (v := .int (S13.1 0 27)) rfl rfl rfl lkX8_178 (fun _ => rfl) ?_
          have b21 : 0 ≤ (S13.1 0 27).toInt ∧ (S13.1 0 27).toInt ≤ 40 := I14 0 27
          refine kw_imul (pc := 36) (i := 22) rfl (fun z22 e_z22 t_z22 => ?_)
          rw [show (10 : Int32).toInt = 10 from rfl] at t_z22
          first | (have u_z22 : z22.toInt = 10 * (S13.1 0 27).toInt := (by omega); clear t_z22) | skip
          refine kw_icmp_ge (pc := 37) (i := 23) (tgt := 60) rfl rfl (fun c23 => ?_) (fun c23 => ?_)
          · refine kw_aload_n (pc := 60) (i := 36) (k := 2) (n := 0) rfl rfl rfl ?_
            refine kw_aload_n (pc := 61) (i := 37) (k := 2) (n := 0) rfl rfl rfl ?_
            refine kw_get (pc := 62) (i := 38) (v := .ref 17) rfl rfl rfl lkX8_66 (fun _ => rfl) ?_
            refine kw_iload_n (pc := 65) (i := 39) (k := 1) (n := 2) rfl rfl rfl ?_
            refine kw_sipush (pc := 66) (i := 40) (v := 400) rfl rfl ?_
            refine kw_iadd (pc := 69) (i := 41) rfl (fun z24 e_z24 t_z24 => ?_)
            first | (have u_z24 : z24.toInt = z11.toInt + 400 := (by omega); clear t_z24) | skip
            refine kw_callV (pc := 70) (i := 42) (Y := mX8_write) (a := 0) (As := [.ref 17, .int z24]) (st := []) kw_hE rfl rfl lvX8_192 arX8_write (c_X8_write_0_17 l T (by omega) (by omega) S13 I14 z24 (by first | omega | decide) (by first | omega | decide) (by first | omega | decide)) (by decide) (Nat.le_of_ble_eq_true rfl) rfl (fun v S26 p25 => ?_)
            obtain ⟨⟨I27, F28⟩, rfl⟩ := p25
            have F29 : kw_F [16, 17] σ S26 := kw_F.tr F15 F28 (by decide)
            have w_30 : (S26.1 0 27).toInt = (S13.1 0 27).toInt := congrArg Int32.toInt (kw_F.at (a := 0) (j := 27) F28 (by decide))
            show kw_AW l 2 kw_E0 KM mX8_keep (p_X8_keep_0 T σ k) 73 [(3, .int x12), (2, .int z11), (0, .ref 0), (1, .int k)] [] S26
            refine kw_aload_n (pc := 73) (i := 43) (k := 2) (n := 0) rfl rfl rfl ?_
            refine kw_get (pc := 74) (i := 44) (v := .ref 17) rfl rfl rfl lkX8_66 (fun _ => rfl) ?_
            refine kw_iload_n (pc := 77) (i := 45) (k := 1) (n := 2) rfl rfl rfl ?_
            refine kw_sipush (pc := 78) (i := 46) (v := 410) rfl rfl ?_
            refine kw_iadd (pc := 81) (i := 47) rfl (fun z31 e_z31 t_z31 => ?_)
            first | (have u_z31 : z31.toInt = z11.toInt + 410 := (by omega); clear t_z31) | skip
            refine kw_aload_n (pc := 82) (i := 48) (k := 2) (n := 0) rfl rfl rfl ?_
            refine kw_get (pc := 83) (i := 49) (v := .int (S26.1 0 27)) rfl rfl rfl lkX8_178 (fun _ => rfl) ?_
            have b32 : 0 ≤ (S26.1 0 27).toInt ∧ (S26.1 0 27).toInt ≤ 40 := I27 0 27
            refine kw_iast (pc := 86) (i := 50) (n := 1233) rfl rfl (by omega) (by omega) ?_
            have I33 : kw_I (bM T) (kw_ui S26 17 z31.toNatClampNeg (S26.1 0 27)) := kw_wI I27 (x := z31) (S26.1 0 27) (by omega) (410) (by omega) (by omega) (by omega) (by omega)
            have F34 : kw_F [16, 17] σ (kw_ui S26 17 z31.toNatClampNeg (S26.1 0 27)) := kw_F_ui F29 (by decide)
            refine kw_aload_n (pc := 87) (i := 51) (k := 2) (n := 0) rfl rfl rfl ?_
            refine kw_get (pc := 88) (i := 52) (v := .ref 16) rfl rfl rfl lkX8_63 (fun _ => rfl) ?_
            refine kw_iload_n (pc := 91) (i := 53) (k := 3) (n := 1) rfl rfl rfl ?_
            refine kw_iconst (pc := 92) (i := 54) (v := 1) rfl rfl ?_
            refine kw_iast (pc := 93) (i := 55) (n := 3) rfl rfl (by omega) (by omega) ?_
            have I35 : kw_I (bM T) (kw_ui (kw_ui S26 17 z31.toNatClampNeg (S26.1 0 27)) 16 k.toNatClampNeg 1) := kw_I_ui I33 (kw_rng (1 : Int32)).1 (Int.le_of_lt_add_one (kw_rng (1 : Int32)).2)
            have F36 : kw_F [16, 17] σ (kw_ui (kw_ui S26 17 z31.toNatClampNeg (S26.1 0 27)) 16 k.toNatClampNeg 1) := kw_F_ui F34 (by decide)
            refine kw_aload_n (pc := 94) (i := 56) (k := 2) (n := 0) rfl rfl rfl ?_
            refine kw_get (pc := 95) (i := 57) (v := .int (S26.1 0 27)) rfl rfl rfl lkX8_178 (fun _ => rfl) ?_
            exact kw_ireturn (pc := 98) (i := 58) (ty := .int) rfl rfl rfl ⟨⟨I35, F36⟩, _, rfl⟩
          · refine kw_aload_n (pc := 40) (i := 24) (k := 2) (n := 0) rfl rfl rfl ?_
            refine kw_get (pc := 41) (i := 25) (v := .ref 17) rfl rfl rfl lkX8_66 (fun _ => rfl) ?_
            refine kw_iload_n (pc := 44) (i := 26) (k := 1) (n := 2) rfl rfl rfl ?_
            refine kw_iload_n (pc := 45) (i := 27) (k := 0) (n := 3) rfl rfl rfl ?_
            refine kw_iadd (pc := 46) (i := 28) rfl (fun z37 e_z37 t_z37 => ?_)
            first | (have u_z37 : z37.toInt = z11.toInt + x12.toInt := (by omega); clear t_z37) | skip
            refine kw_aload_n (pc := 47) (i := 29) (k := 2) (n := 0) rfl rfl rfl ?_
            refine kw_get (pc := 48) (i := 30) (v := .ref 15) rfl rfl rfl lkX8_60 (fun _ => rfl) ?_
            refine kw_iload_n (pc := 51) (i := 31) (k := 0) (n := 3) rfl rfl rfl ?_
            refine kw_iald (pc := 52) (i := 32) (n := 400) rfl rfl (by omega) (by omega) (fun z38 e_z38 => ?_)
            have t_z38 := congrArg Int32.toInt e_z38
            have r_z38 := kw_rng z38
            have b_z38 := kw_rN I14 (x := x12) z38 e_z38 (by omega)
            refine kw_iast (pc := 53) (i := 33) (n := 1233) rfl rfl (by omega) (by omega) ?_
            have I39 : kw_I (bM T) (kw_ui S13 17 z37.toNatClampNeg z38) := kw_wI I14 (x := z37) z38 (by omega) (x12.toInt) (by omega) (by omega) (by omega) (by omega)
            have F40 : kw_F [16, 17] σ (kw_ui S13 17 z37.toNatClampNeg z38) := kw_F_ui F15 (by decide)
            refine kw_iinc' (pc := 54) (i := 34) (k := 0) (fun z => [(3, .int z), (2, .int z11), (0, .ref 0), (1, .int k)]) rfl rfl (by decide) rfl (fun _ => rfl) (fun z41 e_z41 t_z41 => ?_)
            first | (have u_z41 : z41.toInt = x12.toInt + 1 := (by omega); clear t_z41) | skip
            refine kw_goto (pc := 57) (i := 35) (tgt := 29) rfl rfl ?_
            refine kw_sub (lv' := [(3, .int z41), (2, .int z11), (0, .ref 0), (1, .int k)]) [0, 1, 2, 3] rfl ?_
            exact ih17 z41 (kw_ui S13 17 z37.toNatClampNeg z38) I39 F40 (by omega) (by omega)
      exact L16 _ 0 σ hI hF0 (by omega) (Nat.lt_succ_self _)
    · refine kw_bipush (pc := 18) (i := 10) (v := (-4)) rfl rfl ?_
      exact kw_ireturn (pc := 20) (i := 11) (ty := .int) rfl rfl rfl ⟨⟨hI, hF0⟩, _, rfl⟩
  · refine kw_iconst (pc := 9) (i := 5) (v := (-1)) rfl rfl ?_
    exact kw_ireturn (pc := 10) (i := 6) (ty := .int) rfl rfl rfl ⟨⟨hI, hF0⟩, _, rfl⟩
abbrev p_X8_on_0 (T : Int) (σ : kw_S) (k : Int32) : Option Value → kw_S → Prop := fun vv σ' => (kw_I (bM T) σ' ∧ kw_F [0, 1, 14, 15] σ σ') ∧ ∃ r : Int32, vv = some (.int r)
set_option maxRecDepth 100000 in
set_option maxHeartbeats 4000000 in
theorem c_X8_on_0 (l : Launch) (T : Int) (hT0 : 0 ≤ T) (hT1 : T ≤ 3000) (σ : kw_S) (hI : kw_I (bM T) σ) (k : Int32) : kw_Met l 2 KM mX8_on [.ref 0, .int k] σ (p_X8_on_0 T σ k) := by
  have r_k := kw_rng k
  have hF0 : kw_F [0, 1, 14, 15] σ σ := kw_F.rf
  have q_m1 : (-1 : Int32).toInt = -1 := rfl
  have q_0 : (0 : Int32).toInt = 0 := rfl
  have q_1 : (1 : Int32).toInt = 1 := rfl
  have q_2 : (2 : Int32).toInt = 2 := rfl
  have q_10 : (10 : Int32).toInt = 10 := rfl
  have q_400 : (400 : Int32).toInt = 400 := rfl
  have q_410 : (410 : Int32).toInt = 410 := rfl
  have q_411 : (411 : Int32).toInt = 411 := rfl
  refine kw_Met.of (by decide) rfl tX8_on (Nat.le_of_ble_eq_true rfl) ?_
  show kw_AW l 2 kw_E0 KM mX8_on (p_X8_on_0 T σ k) 0 [(0, .ref 0), (1, .int k)] [] σ
  refine kw_iload_n (pc := 0) (i := 0) (k := 1) (n := 1) rfl rfl rfl ?_
  refine kw_iconst (pc := 1) (i := 1) (v := 0) rfl rfl ?_
  refine kw_iconst (pc := 2) (i := 2) (v := 2) rfl rfl ?_
  refine kw_callS (pc := 3) (i := 3) (Y := mX8_in) (As := [.int k, .int 0, .int 2]) (st := []) kw_hE rfl lsX8_93 arX8_in (c_X8_in l T (by omega) (by omega) σ hI k 0 2 ) (by decide) (Nat.le_of_ble_eq_true rfl) rfl (fun v S2 p1 => ?_)
  obtain ⟨e7, z6, rfl, f3, f4, f5⟩ := p1
  rw [e7]
  have r_z6 := kw_rng z6
  show kw_AW l 2 kw_E0 KM mX8_on (p_X8_on_0 T σ k) 6 [(0, .ref 0), (1, .int k)] [.int z6] σ
  refine kw_if_ne (pc := 6) (i := 4) (tgt := 11) rfl rfl (fun c8 => ?_) (fun c8 => ?_)
  · refine kw_aload_n (pc := 11) (i := 7) (k := 0) (n := 0) rfl rfl rfl ?_
    refine kw_get (pc := 12) (i := 8) (v := .ref 16) rfl rfl rfl lkX8_63 (fun _ => rfl) ?_
    refine kw_iload_n (pc := 15) (i := 9) (k := 1) (n := 1) rfl rfl rfl ?_
    refine kw_iald (pc := 16) (i := 10) (n := 3) rfl rfl (by omega) (by omega) (fun z9 e_z9 => ?_)
    have t_z9 := congrArg Int32.toInt e_z9
    have r_z9 := kw_rng z9
    refine kw_if_ne (pc := 17) (i := 11) (tgt := 26) rfl rfl (fun c10 => ?_) (fun c10 => ?_)
    · refine kw_sipush (pc := 26) (i := 16) (v := 411) rfl rfl ?_
      refine kw_iload_n (pc := 29) (i := 17) (k := 1) (n := 1) rfl rfl rfl ?_
      refine kw_imul (pc := 30) (i := 18) rfl (fun z11 e_z11 t_z11 => ?_)
      rw [show (411 : Int32).toInt = 411 from rfl] at t_z11
      first | (have u_z11 : z11.toInt = 411 * k.toInt := (by omega); clear t_z11) | skip
      refine kw_istore_n (pc := 31) (i := 19) (n := 2) (lv' := [(2, .int z11), (0, .ref 0), (1, .int k)]) rfl rfl (by decide) rfl ?_
      refine kw_aload_n (pc := 32) (i := 20) (k := 1) (n := 0) rfl rfl rfl ?_
      refine kw_aload_n (pc := 33) (i := 21) (k := 1) (n := 0) rfl rfl rfl ?_
      refine kw_get (pc := 34) (i := 22) (v := .ref 17) rfl rfl rfl lkX8_66 (fun _ => rfl) ?_
      refine kw_iload_n (pc := 37) (i := 23) (k := 0) (n := 2) rfl rfl rfl ?_
      refine kw_sipush (pc := 38) (i := 24) (v := 400) rfl rfl ?_
      refine kw_iadd (pc := 41) (i := 25) rfl (fun z12 e_z12 t_z12 => ?_)
      first | (have u_z12 : z12.toInt = z11.toInt + 400 := (by omega); clear t_z12) | skip
      refine kw_callV (pc := 42) (i := 26) (Y := mX8_read) (a := 0) (As := [.ref 17, .int z12]) (st := []) kw_hE rfl rfl lvX8_227 arX8_read (c_X8_read_0_17 l T (by omega) (by omega) σ hI z12 (by first | omega | decide) (by first | omega | decide) (by first | omega | decide)) (by decide) (Nat.le_of_ble_eq_true rfl) rfl (fun v S14 p13 => ?_)
      obtain ⟨⟨I17, F18⟩, rfl, f15, f16⟩ := p13
      have F19 : kw_F [0, 1, 14, 15] σ S14 := kw_F.tr hF0 F18 (by decide)
      have f15 : (S14.1 0 10).toInt = (σ.1 0 10).toInt := f15
      have f16 : (S14.1 0 27).toInt = (σ.1 0 27).toInt := f16
      show kw_AW l 2 kw_E0 KM mX8_on (p_X8_on_0 T σ k) 45 [(2, .int z11), (0, .ref 0), (1, .int k)] [] S14
      refine kw_aload_n (pc := 45) (i := 27) (k := 1) (n := 0) rfl rfl rfl ?_
      refine kw_aload_n (pc := 46) (i := 28) (k := 1) (n := 0) rfl rfl rfl ?_
      refine kw_get (pc := 47) (i := 29) (v := .ref 17) rfl rfl rfl lkX8_66 (fun _ => rfl) ?_
      refine kw_iload_n (pc := 50) (i := 30) (k := 0) (n := 2) rfl rfl rfl ?_
      refine kw_sipush (pc := 51) (i := 31) (v := 410) rfl rfl ?_
      refine kw_iadd (pc := 54) (i := 32) rfl (fun z20 e_z20 t_z20 => ?_)
      first | (have u_z20 : z20.toInt = z11.toInt + 410 := (by omega); clear t_z20) | skip
      refine kw_iald (pc := 55) (i := 33) (n := 1233) rfl rfl (by omega) (by omega) (fun z21 e_z21 => ?_)
      have t_z21 := congrArg Int32.toInt e_z21
      have r_z21 := kw_rng z21
      have b_z21 := kw_rI I17 (x := z20) z21 e_z21 (by omega) (410) (by omega)
      refine kw_puti (pc := 56) (i := 34) (z := 0) rfl rfl rfl lpX8_178 rfl rfl ?_
      have I22 : kw_I (bM T) (kw_ui S14 0 27 z21) := kw_I_ui I17 (show 0 ≤ z21.toInt by omega) (show z21.toInt ≤ 40 by omega)
      have F23 : kw_F [0, 1, 14, 15] σ (kw_ui S14 0 27 z21) := kw_F_ui F19 (by decide)
      refine kw_iconst (pc := 59) (i := 35) (v := 0) rfl rfl ?_
      refine kw_istore_n (pc := 60) (i := 36) (n := 3) (lv' := [(3, .int 0), (2, .int z11), (0, .ref 0), (1, .int k)]) rfl rfl (by decide) rfl ?_
      have L28 : ∀ (n32 : Nat) (x24 : Int32) (S25 : kw_S), kw_I (bM T) S25 → kw_F [0, 1, 14, 15] σ S25 → 0 ≤ x24.toInt → (401 - x24.toInt).toNat < n32 → kw_AW l 2 kw_E0 KM mX8_on (p_X8_on_0 T σ k) 61 [(3, .int x24), (2, .int z11), (0, .ref 0), (1, .int k)] [] S25 := by
        intro n32
        induction n32 with
        | zero => intro x24 S25 I26 F27 v30 m31; exact absurd m31 (Nat.not_lt_zero _)
        | succ n32 ih29 =>
          intro x24 S25 I26 F27 v30 m31
          have r_x24 := kw_rng x24
          refine kw_iload_n (pc := 61) (i := 37) (k := 0) (n := 3) rfl rfl rfl ?_
          refine kw_bipush (pc := 62) (i := 38) (v := 10) rfl rfl ?_
          refine kw_aload_n (pc := 64) (i := 39) (k := 2) (n := 0) rfl rfl rfl ?_
          refine kw_get (pc := 65) (i := 40) (v := .int (S25.1 0 27)) rfl rfl rfl lkX8_178 (fun _ => rfl) ?_
          have b33 : 0 ≤ (S25.1 0 27).toInt ∧ (S25.1 0 27).toInt ≤ 40 := I26 0 27
          refine kw_imul (pc := 68) (i := 41) rfl (fun z34 e_z34 t_z34 => ?_)
          rw [show (10 : Int32).toInt = 10 from rfl] at t_z34
          first | (have u_z34 : z34.toInt = 10 * (S25.1 0 27).toInt := (by omega); clear t_z34) | skip
          refine kw_icmp_ge (pc := 69) (i := 42) (tgt := 92) rfl rfl (fun c35 => ?_) (fun c35 => ?_)
          · refine kw_aload_n (pc := 92) (i := 55) (k := 2) (n := 0) rfl rfl rfl ?_
            refine kw_get (pc := 93) (i := 56) (v := .int (S25.1 0 27)) rfl rfl rfl lkX8_178 (fun _ => rfl) ?_
            exact kw_ireturn (pc := 96) (i := 57) (ty := .int) rfl rfl rfl ⟨⟨I26, F27⟩, _, rfl⟩
          · refine kw_aload_n (pc := 72) (i := 43) (k := 2) (n := 0) rfl rfl rfl ?_
            refine kw_get (pc := 73) (i := 44) (v := .ref 15) rfl rfl rfl lkX8_60 (fun _ => rfl) ?_
            refine kw_iload_n (pc := 76) (i := 45) (k := 0) (n := 3) rfl rfl rfl ?_
            refine kw_aload_n (pc := 77) (i := 46) (k := 2) (n := 0) rfl rfl rfl ?_
            refine kw_get (pc := 78) (i := 47) (v := .ref 17) rfl rfl rfl lkX8_66 (fun _ => rfl) ?_
            refine kw_iload_n (pc := 81) (i := 48) (k := 1) (n := 2) rfl rfl rfl ?_
            refine kw_iload_n (pc := 82) (i := 49) (k := 0) (n := 3) rfl rfl rfl ?_
            refine kw_iadd (pc := 83) (i := 50) rfl (fun z36 e_z36 t_z36 => ?_)
            first | (have u_z36 : z36.toInt = z11.toInt + x24.toInt := (by omega); clear t_z36) | skip
            refine kw_iald (pc := 84) (i := 51) (n := 1233) rfl rfl (by omega) (by omega) (fun z37 e_z37 => ?_)
            have t_z37 := congrArg Int32.toInt e_z37
            have r_z37 := kw_rng z37
            have b_z37 := kw_rI I26 (x := z36) z37 e_z37 (by omega) (x24.toInt) (by omega)
            refine kw_iast (pc := 85) (i := 52) (n := 400) rfl rfl (by omega) (by omega) ?_
            have I38 : kw_I (bM T) (kw_ui S25 15 x24.toNatClampNeg z37) := kw_wN I26 (x := x24) z37 (by omega) (by omega) (by omega) trivial
            have F39 : kw_F [0, 1, 14, 15] σ (kw_ui S25 15 x24.toNatClampNeg z37) := kw_F_ui F27 (by decide)
            refine kw_iinc' (pc := 86) (i := 53) (k := 0) (fun z => [(3, .int z), (2, .int z11), (0, .ref 0), (1, .int k)]) rfl rfl (by decide) rfl (fun _ => rfl) (fun z40 e_z40 t_z40 => ?_)
            first | (have u_z40 : z40.toInt = x24.toInt + 1 := (by omega); clear t_z40) | skip
            refine kw_goto (pc := 89) (i := 54) (tgt := 61) rfl rfl ?_
            refine kw_sub (lv' := [(3, .int z40), (2, .int z11), (0, .ref 0), (1, .int k)]) [0, 1, 2, 3] rfl ?_
            exact ih29 z40 (kw_ui S25 15 x24.toNatClampNeg z37) I38 F39 (by omega) (by omega)
      exact L28 _ 0 (kw_ui S14 0 27 z21) I22 F23 (by omega) (Nat.lt_succ_self _)
    · refine kw_aload_n (pc := 20) (i := 12) (k := 0) (n := 0) rfl rfl rfl ?_
      refine kw_iconst (pc := 21) (i := 13) (v := 1) rfl rfl ?_
      refine kw_callV (pc := 22) (i := 14) (Y := mX8_meet) (a := 0) (As := [.int 1]) (st := []) kw_hE rfl rfl lvX8_101 arX8_meet (c_X8_meet_0 l T (by omega) (by omega) σ hI 1 (by first | omega | decide) (by first | omega | decide)) (by decide) (Nat.le_of_ble_eq_true rfl) rfl (fun v S42 p41 => ?_)
      obtain ⟨⟨I45, F46⟩, z44, rfl, f43⟩ := p41
      have F47 : kw_F [0, 1, 14, 15] σ S42 := kw_F.tr hF0 F46 (by decide)
      have r_z44 := kw_rng z44
      show kw_AW l 2 kw_E0 KM mX8_on (p_X8_on_0 T σ k) 25 [(0, .ref 0), (1, .int k)] [.int z44] S42
      exact kw_ireturn (pc := 25) (i := 15) (ty := .int) rfl rfl rfl ⟨⟨I45, F47⟩, _, rfl⟩
  · refine kw_iconst (pc := 9) (i := 5) (v := (-1)) rfl rfl ?_
    exact kw_ireturn (pc := 10) (i := 6) (ty := .int) rfl rfl rfl ⟨⟨hI, hF0⟩, _, rfl⟩
