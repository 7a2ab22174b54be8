abbrev p_X0_draw_6_17 (σ : kw_S) (w : Int32) : Option Value → kw_S → Prop := fun v σ' => (kw_I bX σ' ∧ kw_F [6, 22, 23] σ σ') ∧ v = none
set_option maxRecDepth 100000 in
set_option maxHeartbeats 4000000 in
theorem c_X0_draw_6_17 (l : Launch) (σ : kw_S) (hI : kw_I bX σ) (w : Int32) : kw_Met l 3 KX mX0_draw [.ref 6, .ref 17, .int w] σ (p_X0_draw_6_17 σ w) := by
  have r_w := kw_rng w
  have hF0 : kw_F [6, 22, 23] σ σ := kw_F.rf
  have q_0 : (0 : Int32).toInt = 0 := rfl
  have q_1 : (1 : Int32).toInt = 1 := rfl
  have q_64 : (64 : Int32).toInt = 64 := rfl
  refine kw_Met.of (by decide) rfl tX0_draw (Nat.le_of_ble_eq_true rfl) ?_
  show kw_AW l 3 kw_E0 KX mX0_draw (p_X0_draw_6_17 σ w) 0 [(0, .ref 6), (1, .ref 17), (2, .int w)] [] σ
  refine kw_aload_n (pc := 0) (i := 0) (k := 0) (n := 0) rfl rfl rfl ?_
  refine kw_aload_n (pc := 1) (i := 1) (k := 1) (n := 1) rfl rfl rfl ?_
  refine kw_get (pc := 2) (i := 2) (v := .int (σ.1 17 5)) rfl rfl rfl lkX0_18 (fun _ => rfl) ?_
  have b1 : 0 ≤ (σ.1 17 5).toInt ∧ (σ.1 17 5).toInt ≤ 6 := hI 17 5
  refine kw_puti (pc := 5) (i := 3) (z := 0) rfl rfl rfl lpX0_24 rfl rfl ?_
  have I2 : kw_I bX (kw_ui σ 6 2 (σ.1 17 5)) := kw_I_ui hI (show 0 ≤ (σ.1 17 5).toInt by omega) (show (σ.1 17 5).toInt ≤ 6 by omega)
  have F3 : kw_F [6, 22, 23] σ (kw_ui σ 6 2 (σ.1 17 5)) := kw_F_ui hF0 (by decide)
  refine kw_aload_n (pc := 8) (i := 4) (k := 0) (n := 0) rfl rfl rfl ?_
  refine kw_iconst (pc := 9) (i := 5) (v := 1) rfl rfl ?_
  refine kw_puti (pc := 10) (i := 6) (z := 0) rfl rfl rfl lpX0_25 rfl rfl ?_
  have I4 : kw_I bX (kw_ui (kw_ui σ 6 2 (σ.1 17 5)) 6 3 1) := kw_I_ui I2 (kw_rng (1 : Int32)).1 (Int.le_of_lt_add_one (kw_rng (1 : Int32)).2)
  have F5 : kw_F [6, 22, 23] σ (kw_ui (kw_ui σ 6 2 (σ.1 17 5)) 6 3 1) := kw_F_ui F3 (by decide)
  refine kw_aload_n (pc := 13) (i := 7) (k := 0) (n := 0) rfl rfl rfl ?_
  refine kw_get (pc := 14) (i := 8) (v := .ref 22) rfl rfl rfl lkX0_9 (fun _ => rfl) ?_
  refine kw_iconst (pc := 17) (i := 9) (v := 0) rfl rfl ?_
  refine kw_iconst (pc := 18) (i := 10) (v := 0) rfl rfl ?_
  refine kw_iast (pc := 19) (i := 11) (n := 64) rfl rfl (by omega) (by omega) ?_
  have I6 : kw_I bX (kw_ui (kw_ui (kw_ui σ 6 2 (σ.1 17 5)) 6 3 1) 22 ((0 : Int32).toNatClampNeg) 0) := kw_I_ui I4 (kw_rng (0 : Int32)).1 (Int.le_of_lt_add_one (kw_rng (0 : Int32)).2)
  have F7 : kw_F [6, 22, 23] σ (kw_ui (kw_ui (kw_ui σ 6 2 (σ.1 17 5)) 6 3 1) 22 ((0 : Int32).toNatClampNeg) 0) := kw_F_ui F5 (by decide)
  refine kw_aload_n (pc := 20) (i := 12) (k := 0) (n := 0) rfl rfl rfl ?_
  refine kw_get (pc := 21) (i := 13) (v := .ref 23) rfl rfl rfl lkX0_15 (fun _ => rfl) ?_
  refine kw_iconst (pc := 24) (i := 14) (v := 0) rfl rfl ?_
  refine kw_iconst (pc := 25) (i := 15) (v := 0) rfl rfl ?_
  refine kw_iast (pc := 26) (i := 16) (n := 64) rfl rfl (by omega) (by omega) ?_
  have I8 : kw_I bX (kw_ui (kw_ui (kw_ui (kw_ui σ 6 2 (σ.1 17 5)) 6 3 1) 22 ((0 : Int32).toNatClampNeg) 0) 23 ((0 : Int32).toNatClampNeg) 0) := kw_I_ui I6 (kw_rng (0 : Int32)).1 (Int.le_of_lt_add_one (kw_rng (0 : Int32)).2)
  have F9 : kw_F [6, 22, 23] σ (kw_ui (kw_ui (kw_ui (kw_ui σ 6 2 (σ.1 17 5)) 6 3 1) 22 ((0 : Int32).toNatClampNeg) 0) 23 ((0 : Int32).toNatClampNeg) 0) := kw_F_ui F7 (by decide)
  refine kw_iconst (pc := 27) (i := 17) (v := 0) rfl rfl ?_
  refine kw_istore_n (pc := 28) (i := 18) (n := 3) (lv' := [(3, .int 0), (0, .ref 6), (1, .ref 17), (2, .int w)]) rfl rfl (by decide) rfl ?_
  have L14 : ∀ (n20 : Nat) (x10 : Int32) (S11 : kw_S), kw_I bX S11 → kw_F [6, 22, 23] σ S11 → 0 ≤ x10.toInt → x10.toInt ≤ 6 → kw_pw x10.toInt (S11.1 6 3).toInt → (7 - x10.toInt).toNat < n20 → kw_AW l 3 kw_E0 KX mX0_draw (p_X0_draw_6_17 σ w) 29 [(3, .int x10), (0, .ref 6), (1, .ref 17), (2, .int w)] [] S11 := by
    intro n20
    induction n20 with
    | zero => intro x10 S11 I12 F13 v16 v17 v18 m19; exact absurd m19 (Nat.not_lt_zero _)
    | succ n20 ih15 =>
      intro x10 S11 I12 F13 v16 v17 v18 m19
      have r_x10 := kw_rng x10
      have w_0 := kw_pwB v18 (by omega) (by omega)
      refine kw_iload_n (pc := 29) (i := 19) (k := 0) (n := 3) rfl rfl rfl ?_
      refine kw_aload_n (pc := 30) (i := 20) (k := 1) (n := 0) rfl rfl rfl ?_
      refine kw_get (pc := 31) (i := 21) (v := .int (S11.1 6 2)) rfl rfl rfl lkX0_24 (fun _ => rfl) ?_
      have b21 : 0 ≤ (S11.1 6 2).toInt ∧ (S11.1 6 2).toInt ≤ 6 := I12 6 2
      refine kw_icmp_ge (pc := 34) (i := 22) (tgt := 146) rfl rfl (fun c22 => ?_) (fun c22 => ?_)
      · exact kw_return (pc := 146) (i := 83) rfl rfl ⟨⟨I12, F13⟩, rfl⟩
      · refine kw_aload_n (pc := 37) (i := 23) (k := 2) (n := 1) rfl rfl rfl ?_
        refine kw_iload_n (pc := 38) (i := 24) (k := 0) (n := 3) rfl rfl rfl ?_
        refine kw_iload_n (pc := 39) (i := 25) (k := 3) (n := 2) rfl rfl rfl ?_
        refine kw_callV (pc := 40) (i := 26) (Y := mX1_pullOf) (a := 17) (As := [.int x10, .int w]) (st := []) kw_hE rfl rfl lvX0_28 arX1_pullOf (c_X1_pullOf_17 l S11 I12 x10 w ) (by decide) (Nat.le_of_ble_eq_true rfl) rfl (fun v S24 p23 => ?_)
        obtain ⟨e26, z25, rfl⟩ := p23
        rw [e26]
        have r_z25 := kw_rng z25
        show kw_AW l 3 kw_E0 KX mX0_draw (p_X0_draw_6_17 σ w) 43 [(3, .int x10), (0, .ref 6), (1, .ref 17), (2, .int w)] [.int z25] S11
        refine kw_istore (pc := 43) (i := 27) (n := 4) (lv' := [(4, .int z25), (3, .int x10), (0, .ref 6), (1, .ref 17), (2, .int w)]) rfl (by decide) rfl ?_
        refine kw_iload (pc := 45) (i := 28) (k := 0) (n := 4) rfl rfl ?_
        refine kw_aload_n (pc := 47) (i := 29) (k := 3) (n := 1) rfl rfl rfl ?_
        refine kw_get (pc := 48) (i := 30) (v := .ref 45) rfl rfl rfl lkX0_32 (fun _ => rfl) ?_
        refine kw_iload_n (pc := 51) (i := 31) (k := 1) (n := 3) rfl rfl rfl ?_
        refine kw_iald (pc := 52) (i := 32) (n := 6) rfl rfl (by omega) (by omega) (fun z27 e_z27 => ?_)
        have t_z27 := congrArg Int32.toInt e_z27
        have r_z27 := kw_rng z27
        refine kw_imul (pc := 53) (i := 33) rfl (fun z28 e_z28 t_z28 => ?_)
        refine kw_istore (pc := 54) (i := 34) (n := 5) (lv' := [(5, .int z28), (4, .int z25), (3, .int x10), (0, .ref 6), (1, .ref 17), (2, .int w)]) rfl (by decide) rfl ?_
        refine kw_iconst (pc := 56) (i := 35) (v := 0) rfl rfl ?_
        refine kw_istore (pc := 57) (i := 36) (n := 6) (lv' := [(6, .int 0), (5, .int z28), (4, .int z25), (3, .int x10), (0, .ref 6), (1, .ref 17), (2, .int w)]) rfl (by decide) rfl ?_
        have L33 : ∀ (n38 : Nat) (x29 : Int32) (S30 : kw_S), kw_I bX S30 → kw_F [6, 22, 23] σ S30 → 0 ≤ x29.toInt → kw_pw x10.toInt (S30.1 6 3).toInt → (65 - x29.toInt).toNat < n38 → kw_AW l 3 kw_E0 KX mX0_draw (p_X0_draw_6_17 σ w) 59 [(6, .int x29), (5, .int z28), (4, .int z25), (3, .int x10), (0, .ref 6), (1, .ref 17), (2, .int w)] [] S30 := by
          intro n38
          induction n38 with
          | zero => intro x29 S30 I31 F32 v35 v36 m37; exact absurd m37 (Nat.not_lt_zero _)
          | succ n38 ih34 =>
            intro x29 S30 I31 F32 v35 v36 m37
            have r_x29 := kw_rng x29
            have w_1 := kw_pwB v36 (by omega) (by omega)
            refine kw_iload (pc := 59) (i := 37) (k := 0) (n := 6) rfl rfl ?_
            refine kw_aload_n (pc := 61) (i := 38) (k := 4) (n := 0) rfl rfl rfl ?_
            refine kw_get (pc := 62) (i := 39) (v := .int (S30.1 6 3)) rfl rfl rfl lkX0_25 (fun _ => rfl) ?_
            have b39 := kw_rng (S30.1 6 3)
            refine kw_icmp_ge (pc := 65) (i := 40) (tgt := 130) rfl rfl (fun c40 => ?_) (fun c40 => ?_)
            · refine kw_aload_n (pc := 130) (i := 75) (k := 4) (n := 0) rfl rfl rfl ?_
              refine kw_dup (pc := 131) (i := 76) rfl rfl ?_
              refine kw_get (pc := 132) (i := 77) (v := .int (S30.1 6 3)) rfl rfl rfl lkX0_25 (fun _ => rfl) ?_
              refine kw_iconst (pc := 135) (i := 78) (v := 1) rfl rfl ?_
              refine kw_ishl (pc := 136) (i := 79) rfl (fun z41 e_z41 => ?_)
              have r_z41 := kw_rng z41
              have t_z41 := kw_shl1 z41 (S30.1 6 3) e_z41
              refine kw_puti (pc := 137) (i := 80) (z := 0) rfl rfl rfl lpX0_25 rfl rfl ?_
              have I42 : kw_I bX (kw_ui S30 6 3 z41) := kw_I_ui I31 (kw_rng z41).1 (Int.le_of_lt_add_one (kw_rng z41).2)
              have F43 : kw_F [6, 22, 23] σ (kw_ui S30 6 3 z41) := kw_F_ui F32 (by decide)
              refine kw_iinc' (pc := 140) (i := 81) (k := 3) (fun z => [(3, .int z), (6, .int x29), (5, .int z28), (4, .int z25), (0, .ref 6), (1, .ref 17), (2, .int w)]) rfl rfl (by decide) rfl (fun _ => rfl) (fun z44 e_z44 t_z44 => ?_)
              refine kw_goto (pc := 143) (i := 82) (tgt := 29) rfl rfl ?_
              refine kw_sub (lv' := [(3, .int z44), (0, .ref 6), (1, .ref 17), (2, .int w)]) [0, 4, 5, 6] rfl ?_
              exact ih15 z44 (kw_ui S30 6 3 z41) I42 F43 (by omega) (by omega) (show kw_pw z44.toInt z41.toInt from by exact kw_pwS v36 (by omega) (by omega) (by omega)) (by omega)
            · refine kw_aload_n (pc := 68) (i := 41) (k := 4) (n := 0) rfl rfl rfl ?_
              refine kw_get (pc := 69) (i := 42) (v := .int (S30.1 6 3)) rfl rfl rfl lkX0_25 (fun _ => rfl) ?_
              refine kw_iload (pc := 72) (i := 43) (k := 0) (n := 6) rfl rfl ?_
              refine kw_iadd (pc := 74) (i := 44) rfl (fun z45 e_z45 t_z45 => ?_)
              refine kw_bipush (pc := 75) (i := 45) (v := 64) rfl rfl ?_
              refine kw_icmp_ge (pc := 77) (i := 46) (tgt := 130) rfl rfl (fun c46 => ?_) (fun c46 => ?_)
              · refine kw_aload_n (pc := 130) (i := 75) (k := 4) (n := 0) rfl rfl rfl ?_
                refine kw_dup (pc := 131) (i := 76) rfl rfl ?_
                refine kw_get (pc := 132) (i := 77) (v := .int (S30.1 6 3)) rfl rfl rfl lkX0_25 (fun _ => rfl) ?_
                refine kw_iconst (pc := 135) (i := 78) (v := 1) rfl rfl ?_
                refine kw_ishl (pc := 136) (i := 79) rfl (fun z47 e_z47 => ?_)
                have r_z47 := kw_rng z47
                have t_z47 := kw_shl1 z47 (S30.1 6 3) e_z47
                refine kw_puti (pc := 137) (i := 80) (z := 0) rfl rfl rfl lpX0_25 rfl rfl ?_
                have I48 : kw_I bX (kw_ui S30 6 3 z47) := kw_I_ui I31 (kw_rng z47).1 (Int.le_of_lt_add_one (kw_rng z47).2)
                have F49 : kw_F [6, 22, 23] σ (kw_ui S30 6 3 z47) := kw_F_ui F32 (by decide)
                refine kw_iinc' (pc := 140) (i := 81) (k := 3) (fun z => [(3, .int z), (6, .int x29), (5, .int z28), (4, .int z25), (0, .ref 6), (1, .ref 17), (2, .int w)]) rfl rfl (by decide) rfl (fun _ => rfl) (fun z50 e_z50 t_z50 => ?_)
                refine kw_goto (pc := 143) (i := 82) (tgt := 29) rfl rfl ?_
                refine kw_sub (lv' := [(3, .int z50), (0, .ref 6), (1, .ref 17), (2, .int w)]) [0, 4, 5, 6] rfl ?_
                exact ih15 z50 (kw_ui S30 6 3 z47) I48 F49 (by omega) (by omega) (show kw_pw z50.toInt z47.toInt from by exact kw_pwS v36 (by omega) (by omega) (by omega)) (by omega)
              · refine kw_aload_n (pc := 80) (i := 47) (k := 4) (n := 0) rfl rfl rfl ?_
                refine kw_get (pc := 81) (i := 48) (v := .ref 22) rfl rfl rfl lkX0_9 (fun _ => rfl) ?_
                refine kw_aload_n (pc := 84) (i := 49) (k := 4) (n := 0) rfl rfl rfl ?_
                refine kw_get (pc := 85) (i := 50) (v := .int (S30.1 6 3)) rfl rfl rfl lkX0_25 (fun _ => rfl) ?_
                refine kw_iload (pc := 88) (i := 51) (k := 0) (n := 6) rfl rfl ?_
                refine kw_iadd (pc := 90) (i := 52) rfl (fun z51 e_z51 t_z51 => ?_)
                refine kw_aload_n (pc := 91) (i := 53) (k := 4) (n := 0) rfl rfl rfl ?_
                refine kw_get (pc := 92) (i := 54) (v := .ref 22) rfl rfl rfl lkX0_9 (fun _ => rfl) ?_
                refine kw_iload (pc := 95) (i := 55) (k := 0) (n := 6) rfl rfl ?_
                refine kw_iald (pc := 97) (i := 56) (n := 64) rfl rfl (by omega) (by omega) (fun z52 e_z52 => ?_)
                have t_z52 := congrArg Int32.toInt e_z52
                have r_z52 := kw_rng z52
                refine kw_iload (pc := 98) (i := 57) (k := 2) (n := 4) rfl rfl ?_
                refine kw_iadd (pc := 100) (i := 58) rfl (fun z53 e_z53 t_z53 => ?_)
                refine kw_iast (pc := 101) (i := 59) (n := 64) rfl rfl (by omega) (by omega) ?_
                have I54 : kw_I bX (kw_ui S30 22 z51.toNatClampNeg z53) := kw_I_ui I31 (kw_rng z53).1 (Int.le_of_lt_add_one (kw_rng z53).2)
                have F55 : kw_F [6, 22, 23] σ (kw_ui S30 22 z51.toNatClampNeg z53) := kw_F_ui F32 (by decide)
                refine kw_aload_n (pc := 102) (i := 60) (k := 4) (n := 0) rfl rfl rfl ?_
                refine kw_get (pc := 103) (i := 61) (v := .ref 23) rfl rfl rfl lkX0_15 (fun _ => rfl) ?_
                refine kw_aload_n (pc := 106) (i := 62) (k := 4) (n := 0) rfl rfl rfl ?_
                refine kw_get (pc := 107) (i := 63) (v := .int (S30.1 6 3)) rfl rfl rfl lkX0_25 (fun _ => rfl) ?_
                refine kw_iload (pc := 110) (i := 64) (k := 0) (n := 6) rfl rfl ?_
                refine kw_iadd (pc := 112) (i := 65) rfl (fun z56 e_z56 t_z56 => ?_)
                refine kw_aload_n (pc := 113) (i := 66) (k := 4) (n := 0) rfl rfl rfl ?_
                refine kw_get (pc := 114) (i := 67) (v := .ref 23) rfl rfl rfl lkX0_15 (fun _ => rfl) ?_
                refine kw_iload (pc := 117) (i := 68) (k := 0) (n := 6) rfl rfl ?_
                refine kw_iald (pc := 119) (i := 69) (n := 64) rfl rfl (by omega) (by omega) (fun z57 e_z57 => ?_)
                have t_z57 := congrArg Int32.toInt e_z57
                have r_z57 := kw_rng z57
                refine kw_iload (pc := 120) (i := 70) (k := 1) (n := 5) rfl rfl ?_
                refine kw_iadd (pc := 122) (i := 71) rfl (fun z58 e_z58 t_z58 => ?_)
                refine kw_iast (pc := 123) (i := 72) (n := 64) rfl rfl (by omega) (by omega) ?_
                have I59 : kw_I bX (kw_ui (kw_ui S30 22 z51.toNatClampNeg z53) 23 z56.toNatClampNeg z58) := kw_I_ui I54 (kw_rng z58).1 (Int.le_of_lt_add_one (kw_rng z58).2)
                have F60 : kw_F [6, 22, 23] σ (kw_ui (kw_ui S30 22 z51.toNatClampNeg z53) 23 z56.toNatClampNeg z58) := kw_F_ui F55 (by decide)
                refine kw_iinc' (pc := 124) (i := 73) (k := 0) (fun z => [(6, .int z), (5, .int z28), (4, .int z25), (3, .int x10), (0, .ref 6), (1, .ref 17), (2, .int w)]) rfl rfl (by decide) rfl (fun _ => rfl) (fun z61 e_z61 t_z61 => ?_)
                refine kw_goto (pc := 127) (i := 74) (tgt := 59) rfl rfl ?_
                refine kw_sub (lv' := [(6, .int z61), (5, .int z28), (4, .int z25), (3, .int x10), (0, .ref 6), (1, .ref 17), (2, .int w)]) [0, 1, 2, 3, 4, 5, 6] rfl ?_
                exact ih34 z61 (kw_ui (kw_ui S30 22 z51.toNatClampNeg z53) 23 z56.toNatClampNeg z58) I59 F60 (by omega) (show kw_pw x10.toInt (S30.1 6 3).toInt from by exact v36) (by omega)
        exact L33 _ 0 S11 I12 F13 (by omega) (show kw_pw x10.toInt (S11.1 6 3).toInt from by exact v18) (Nat.lt_succ_self _)
  exact L14 _ 0 (kw_ui (kw_ui (kw_ui (kw_ui σ 6 2 (σ.1 17 5)) 6 3 1) 22 ((0 : Int32).toNatClampNeg) 0) 23 ((0 : Int32).toNatClampNeg) 0) I8 F9 (by omega) (by omega) (show kw_pw (0 : Int32).toInt (1 : Int32).toInt from by exact kw_pw0) (Nat.lt_succ_self _)
abbrev p_X0_milesOf_6 (σ : kw_S) (s : Int32) : Option Value → kw_S → Prop := fun v σ' => σ' = σ ∧ ∃ r : Int32, v = some (.int r)
set_option maxRecDepth 100000 in
set_option maxHeartbeats 4000000 in
theorem c_X0_milesOf_6 (l : Launch) (σ : kw_S) (hI : kw_I bX σ) (s : Int32) : kw_Met l 1 KX mX0_milesOf [.ref 6, .int s] σ (p_X0_milesOf_6 σ s) := by
  have r_s := kw_rng s
  have q_0 : (0 : Int32).toInt = 0 := rfl
  have q_4 : (4 : Int32).toInt = 4 := rfl
  have q_64 : (64 : Int32).toInt = 64 := rfl
  refine kw_Met.of (by decide) rfl tX0_milesOf (Nat.le_of_ble_eq_true rfl) ?_
  show kw_AW l 1 kw_E0 KX mX0_milesOf (p_X0_milesOf_6 σ s) 0 [(0, .ref 6), (1, .int s)] [] σ
  refine kw_iload_n (pc := 0) (i := 0) (k := 1) (n := 1) rfl rfl rfl ?_
  refine kw_if_lt (pc := 1) (i := 1) (tgt := 21) rfl rfl (fun c1 => ?_) (fun c1 => ?_)
  · refine kw_iconst (pc := 21) (i := 12) (v := 0) rfl rfl ?_
    exact kw_ireturn (pc := 22) (i := 13) (ty := .int) rfl rfl rfl ⟨rfl, _, rfl⟩
  · refine kw_iload_n (pc := 4) (i := 2) (k := 1) (n := 1) rfl rfl rfl ?_
    refine kw_bipush (pc := 5) (i := 3) (v := 64) rfl rfl ?_
    refine kw_icmp_ge (pc := 7) (i := 4) (tgt := 21) rfl rfl (fun c2 => ?_) (fun c2 => ?_)
    · refine kw_iconst (pc := 21) (i := 12) (v := 0) rfl rfl ?_
      exact kw_ireturn (pc := 22) (i := 13) (ty := .int) rfl rfl rfl ⟨rfl, _, rfl⟩
    · refine kw_aload_n (pc := 10) (i := 5) (k := 0) (n := 0) rfl rfl rfl ?_
      refine kw_get (pc := 11) (i := 6) (v := .ref 22) rfl rfl rfl lkX0_9 (fun _ => rfl) ?_
      refine kw_iload_n (pc := 14) (i := 7) (k := 1) (n := 1) rfl rfl rfl ?_
      refine kw_iald (pc := 15) (i := 8) (n := 64) rfl rfl (by omega) (by omega) (fun z3 e_z3 => ?_)
      have t_z3 := congrArg Int32.toInt e_z3
      have r_z3 := kw_rng z3
      refine kw_iconst (pc := 16) (i := 9) (v := 4) rfl rfl ?_
      refine kw_idiv (pc := 17) (i := 10) rfl (by omega) (fun z4 e_z4 => ?_)
      have r_z4 := kw_rng z4
      refine kw_goto (pc := 18) (i := 11) (tgt := 22) rfl rfl ?_
      exact kw_ireturn (pc := 22) (i := 13) (ty := .int) rfl rfl rfl ⟨rfl, _, rfl⟩
abbrev p_X0_turnBy_6 (σ : kw_S) (s : Int32) : Option Value → kw_S → Prop := fun v σ' => σ' = σ ∧ ∃ r : Int32, v = some (.int r)
set_option maxRecDepth 100000 in
set_option maxHeartbeats 4000000 in
theorem c_X0_turnBy_6 (l : Launch) (σ : kw_S) (hI : kw_I bX σ) (s : Int32) : kw_Met l 1 KX mX0_turnBy [.ref 6, .int s] σ (p_X0_turnBy_6 σ s) := by
  have r_s := kw_rng s
  have q_0 : (0 : Int32).toInt = 0 := rfl
  have q_64 : (64 : Int32).toInt = 64 := rfl
  refine kw_Met.of (by decide) rfl tX0_turnBy (Nat.le_of_ble_eq_true rfl) ?_
  show kw_AW l 1 kw_E0 KX mX0_turnBy (p_X0_turnBy_6 σ s) 0 [(0, .ref 6), (1, .int s)] [] σ
  refine kw_iload_n (pc := 0) (i := 0) (k := 1) (n := 1) rfl rfl rfl ?_
  refine kw_if_lt (pc := 1) (i := 1) (tgt := 19) rfl rfl (fun c1 => ?_) (fun c1 => ?_)
  · refine kw_iconst (pc := 19) (i := 10) (v := 0) rfl rfl ?_
    exact kw_ireturn (pc := 20) (i := 11) (ty := .int) rfl rfl rfl ⟨rfl, _, rfl⟩
  · refine kw_iload_n (pc := 4) (i := 2) (k := 1) (n := 1) rfl rfl rfl ?_
    refine kw_bipush (pc := 5) (i := 3) (v := 64) rfl rfl ?_
    refine kw_icmp_ge (pc := 7) (i := 4) (tgt := 19) rfl rfl (fun c2 => ?_) (fun c2 => ?_)
    · refine kw_iconst (pc := 19) (i := 10) (v := 0) rfl rfl ?_
      exact kw_ireturn (pc := 20) (i := 11) (ty := .int) rfl rfl rfl ⟨rfl, _, rfl⟩
    · refine kw_aload_n (pc := 10) (i := 5) (k := 0) (n := 0) rfl rfl rfl ?_
      refine kw_get (pc := 11) (i := 6) (v := .ref 23) rfl rfl rfl lkX0_15 (fun _ => rfl) ?_
      refine kw_iload_n (pc := 14) (i := 7) (k := 1) (n := 1) rfl rfl rfl ?_
      refine kw_iald (pc := 15) (i := 8) (n := 64) rfl rfl (by omega) (by omega) (fun z3 e_z3 => ?_)
      have t_z3 := congrArg Int32.toInt e_z3
      have r_z3 := kw_rng z3
      refine kw_goto (pc := 16) (i := 9) (tgt := 20) rfl rfl ?_
      exact kw_ireturn (pc := 20) (i := 11) (ty := .int) rfl rfl rfl ⟨rfl, _, rfl⟩
abbrev p_X0_draw_52_17 (σ : kw_S) (w : Int32) : Option Value → kw_S → Prop := fun v σ' => (kw_I bX σ' ∧ kw_F [52, 55, 56] σ σ') ∧ v = none
set_option maxRecDepth 100000 in
set_option maxHeartbeats 4000000 in
theorem c_X0_draw_52_17 (l : Launch) (σ : kw_S) (hI : kw_I bX σ) (w : Int32) : kw_Met l 3 KX mX0_draw [.ref 52, .ref 17, .int w] σ (p_X0_draw_52_17 σ w) := by
  have r_w := kw_rng w
  have hF0 : kw_F [52, 55, 56] σ σ := kw_F.rf
  have q_0 : (0 : Int32).toInt = 0 := rfl
  have q_1 : (1 : Int32).toInt = 1 := rfl
  have q_64 : (64 : Int32).toInt = 64 := rfl
  refine kw_Met.of (by decide) rfl tX0_draw (Nat.le_of_ble_eq_true rfl) ?_
  show kw_AW l 3 kw_E0 KX mX0_draw (p_X0_draw_52_17 σ w) 0 [(0, .ref 52), (1, .ref 17), (2, .int w)] [] σ
  refine kw_aload_n (pc := 0) (i := 0) (k := 0) (n := 0) rfl rfl rfl ?_
  refine kw_aload_n (pc := 1) (i := 1) (k := 1) (n := 1) rfl rfl rfl ?_
  refine kw_get (pc := 2) (i := 2) (v := .int (σ.1 17 5)) rfl rfl rfl lkX0_18 (fun _ => rfl) ?_
  have b1 : 0 ≤ (σ.1 17 5).toInt ∧ (σ.1 17 5).toInt ≤ 6 := hI 17 5
  refine kw_puti (pc := 5) (i := 3) (z := 0) rfl rfl rfl lpX0_24 rfl rfl ?_
  have I2 : kw_I bX (kw_ui σ 52 2 (σ.1 17 5)) := kw_I_ui hI (show 0 ≤ (σ.1 17 5).toInt by omega) (show (σ.1 17 5).toInt ≤ 6 by omega)
  have F3 : kw_F [52, 55, 56] σ (kw_ui σ 52 2 (σ.1 17 5)) := kw_F_ui hF0 (by decide)
  refine kw_aload_n (pc := 8) (i := 4) (k := 0) (n := 0) rfl rfl rfl ?_
  refine kw_iconst (pc := 9) (i := 5) (v := 1) rfl rfl ?_
  refine kw_puti (pc := 10) (i := 6) (z := 0) rfl rfl rfl lpX0_25 rfl rfl ?_
  have I4 : kw_I bX (kw_ui (kw_ui σ 52 2 (σ.1 17 5)) 52 3 1) := kw_I_ui I2 (kw_rng (1 : Int32)).1 (Int.le_of_lt_add_one (kw_rng (1 : Int32)).2)
  have F5 : kw_F [52, 55, 56] σ (kw_ui (kw_ui σ 52 2 (σ.1 17 5)) 52 3 1) := kw_F_ui F3 (by decide)
  refine kw_aload_n (pc := 13) (i := 7) (k := 0) (n := 0) rfl rfl rfl ?_
  refine kw_get (pc := 14) (i := 8) (v := .ref 55) rfl rfl rfl lkX0_9 (fun _ => rfl) ?_
  refine kw_iconst (pc := 17) (i := 9) (v := 0) rfl rfl ?_
  refine kw_iconst (pc := 18) (i := 10) (v := 0) rfl rfl ?_
  refine kw_iast (pc := 19) (i := 11) (n := 64) rfl rfl (by omega) (by omega) ?_
  have I6 : kw_I bX (kw_ui (kw_ui (kw_ui σ 52 2 (σ.1 17 5)) 52 3 1) 55 ((0 : Int32).toNatClampNeg) 0) := kw_I_ui I4 (kw_rng (0 : Int32)).1 (Int.le_of_lt_add_one (kw_rng (0 : Int32)).2)
  have F7 : kw_F [52, 55, 56] σ (kw_ui (kw_ui (kw_ui σ 52 2 (σ.1 17 5)) 52 3 1) 55 ((0 : Int32).toNatClampNeg) 0) := kw_F_ui F5 (by decide)
  refine kw_aload_n (pc := 20) (i := 12) (k := 0) (n := 0) rfl rfl rfl ?_
  refine kw_get (pc := 21) (i := 13) (v := .ref 56) rfl rfl rfl lkX0_15 (fun _ => rfl) ?_
  refine kw_iconst (pc := 24) (i := 14) (v := 0) rfl rfl ?_
  refine kw_iconst (pc := 25) (i := 15) (v := 0) rfl rfl ?_
  refine kw_iast (pc := 26) (i := 16) (n := 64) rfl rfl (by omega) (by omega) ?_
  have I8 : kw_I bX (kw_ui (kw_ui (kw_ui (kw_ui σ 52 2 (σ.1 17 5)) 52 3 1) 55 ((0 : Int32).toNatClampNeg) 0) 56 ((0 : Int32).toNatClampNeg) 0) := kw_I_ui I6 (kw_rng (0 : Int32)).1 (Int.le_of_lt_add_one (kw_rng (0 : Int32)).2)
  have F9 : kw_F [52, 55, 56] σ (kw_ui (kw_ui (kw_ui (kw_ui σ 52 2 (σ.1 17 5)) 52 3 1) 55 ((0 : Int32).toNatClampNeg) 0) 56 ((0 : Int32).toNatClampNeg) 0) := kw_F_ui F7 (by decide)
  refine kw_iconst (pc := 27) (i := 17) (v := 0) rfl rfl ?_
  refine kw_istore_n (pc := 28) (i := 18) (n := 3) (lv' := [(3, .int 0), (0, .ref 52), (1, .ref 17), (2, .int w)]) rfl rfl (by decide) rfl ?_
  have L14 : ∀ (n20 : Nat) (x10 : Int32) (S11 : kw_S), kw_I bX S11 → kw_F [52, 55, 56] σ S11 → 0 ≤ x10.toInt → x10.toInt ≤ 6 → kw_pw x10.toInt (S11.1 52 3).toInt → (7 - x10.toInt).toNat < n20 → kw_AW l 3 kw_E0 KX mX0_draw (p_X0_draw_52_17 σ w) 29 [(3, .int x10), (0, .ref 52), (1, .ref 17), (2, .int w)] [] S11 := by
    intro n20
    induction n20 with
    | zero => intro x10 S11 I12 F13 v16 v17 v18 m19; exact absurd m19 (Nat.not_lt_zero _)
    | succ n20 ih15 =>
      intro x10 S11 I12 F13 v16 v17 v18 m19
      have r_x10 := kw_rng x10
      have w_0 := kw_pwB v18 (by omega) (by omega)
      refine kw_iload_n (pc := 29) (i := 19) (k := 0) (n := 3) rfl rfl rfl ?_
      refine kw_aload_n (pc := 30) (i := 20) (k := 1) (n := 0) rfl rfl rfl ?_
      refine kw_get (pc := 31) (i := 21) (v := .int (S11.1 52 2)) rfl rfl rfl lkX0_24 (fun _ => rfl) ?_
      have b21 : 0 ≤ (S11.1 52 2).toInt ∧ (S11.1 52 2).toInt ≤ 6 := I12 52 2
      refine kw_icmp_ge (pc := 34) (i := 22) (tgt := 146) rfl rfl (fun c22 => ?_) (fun c22 => ?_)
      · exact kw_return (pc := 146) (i := 83) rfl rfl ⟨⟨I12, F13⟩, rfl⟩
      · refine kw_aload_n (pc := 37) (i := 23) (k := 2) (n := 1) rfl rfl rfl ?_
        refine kw_iload_n (pc := 38) (i := 24) (k := 0) (n := 3) rfl rfl rfl ?_
        refine kw_iload_n (pc := 39) (i := 25) (k := 3) (n := 2) rfl rfl rfl ?_
        refine kw_callV (pc := 40) (i := 26) (Y := mX1_pullOf) (a := 17) (As := [.int x10, .int w]) (st := []) kw_hE rfl rfl lvX0_28 arX1_pullOf (c_X1_pullOf_17 l S11 I12 x10 w ) (by decide) (Nat.le_of_ble_eq_true rfl) rfl (fun v S24 p23 => ?_)
        obtain ⟨e26, z25, rfl⟩ := p23
        rw [e26]
        have r_z25 := kw_rng z25
        show kw_AW l 3 kw_E0 KX mX0_draw (p_X0_draw_52_17 σ w) 43 [(3, .int x10), (0, .ref 52), (1, .ref 17), (2, .int w)] [.int z25] S11
        refine kw_istore (pc := 43) (i := 27) (n := 4) (lv' := [(4, .int z25), (3, .int x10), (0, .ref 52), (1, .ref 17), (2, .int w)]) rfl (by decide) rfl ?_
        refine kw_iload (pc := 45) (i := 28) (k := 0) (n := 4) rfl rfl ?_
        refine kw_aload_n (pc := 47) (i := 29) (k := 3) (n := 1) rfl rfl rfl ?_
        refine kw_get (pc := 48) (i := 30) (v := .ref 45) rfl rfl rfl lkX0_32 (fun _ => rfl) ?_
        refine kw_iload_n (pc := 51) (i := 31) (k := 1) (n := 3) rfl rfl rfl ?_
        refine kw_iald (pc := 52) (i := 32) (n := 6) rfl rfl (by omega) (by omega) (fun z27 e_z27 => ?_)
        have t_z27 := congrArg Int32.toInt e_z27
        have r_z27 := kw_rng z27
        refine kw_imul (pc := 53) (i := 33) rfl (fun z28 e_z28 t_z28 => ?_)
        refine kw_istore (pc := 54) (i := 34) (n := 5) (lv' := [(5, .int z28), (4, .int z25), (3, .int x10), (0, .ref 52), (1, .ref 17), (2, .int w)]) rfl (by decide) rfl ?_
        refine kw_iconst (pc := 56) (i := 35) (v := 0) rfl rfl ?_
        refine kw_istore (pc := 57) (i := 36) (n := 6) (lv' := [(6, .int 0), (5, .int z28), (4, .int z25), (3, .int x10), (0, .ref 52), (1, .ref 17), (2, .int w)]) rfl (by decide) rfl ?_
        have L33 : ∀ (n38 : Nat) (x29 : Int32) (S30 : kw_S), kw_I bX S30 → kw_F [52, 55, 56] σ S30 → 0 ≤ x29.toInt → kw_pw x10.toInt (S30.1 52 3).toInt → (65 - x29.toInt).toNat < n38 → kw_AW l 3 kw_E0 KX mX0_draw (p_X0_draw_52_17 σ w) 59 [(6, .int x29), (5, .int z28), (4, .int z25), (3, .int x10), (0, .ref 52), (1, .ref 17), (2, .int w)] [] S30 := by
          intro n38
          induction n38 with
          | zero => intro x29 S30 I31 F32 v35 v36 m37; exact absurd m37 (Nat.not_lt_zero _)
          | succ n38 ih34 =>
            intro x29 S30 I31 F32 v35 v36 m37
            have r_x29 := kw_rng x29
            have w_1 := kw_pwB v36 (by omega) (by omega)
            refine kw_iload (pc := 59) (i := 37) (k := 0) (n := 6) rfl rfl ?_
            refine kw_aload_n (pc := 61) (i := 38) (k := 4) (n := 0) rfl rfl rfl ?_
            refine kw_get (pc := 62) (i := 39) (v := .int (S30.1 52 3)) rfl rfl rfl lkX0_25 (fun _ => rfl) ?_
            have b39 := kw_rng (S30.1 52 3)
            refine kw_icmp_ge (pc := 65) (i := 40) (tgt := 130) rfl rfl (fun c40 => ?_) (fun c40 => ?_)
            · refine kw_aload_n (pc := 130) (i := 75) (k := 4) (n := 0) rfl rfl rfl ?_
              refine kw_dup (pc := 131) (i := 76) rfl rfl ?_
              refine kw_get (pc := 132) (i := 77) (v := .int (S30.1 52 3)) rfl rfl rfl lkX0_25 (fun _ => rfl) ?_
              refine kw_iconst (pc := 135) (i := 78) (v := 1) rfl rfl ?_
              refine kw_ishl (pc := 136) (i := 79) rfl (fun z41 e_z41 => ?_)
              have r_z41 := kw_rng z41
              have t_z41 := kw_shl1 z41 (S30.1 52 3) e_z41
              refine kw_puti (pc := 137) (i := 80) (z := 0) rfl rfl rfl lpX0_25 rfl rfl ?_
              have I42 : kw_I bX (kw_ui S30 52 3 z41) := kw_I_ui I31 (kw_rng z41).1 (Int.le_of_lt_add_one (kw_rng z41).2)
              have F43 : kw_F [52, 55, 56] σ (kw_ui S30 52 3 z41) := kw_F_ui F32 (by decide)
              refine kw_iinc' (pc := 140) (i := 81) (k := 3) (fun z => [(3, .int z), (6, .int x29), (5, .int z28), (4, .int z25), (0, .ref 52), (1, .ref 17), (2, .int w)]) rfl rfl (by decide) rfl (fun _ => rfl) (fun z44 e_z44 t_z44 => ?_)
              refine kw_goto (pc := 143) (i := 82) (tgt := 29) rfl rfl ?_
              refine kw_sub (lv' := [(3, .int z44), (0, .ref 52), (1, .ref 17), (2, .int w)]) [0, 4, 5, 6] rfl ?_
              exact ih15 z44 (kw_ui S30 52 3 z41) I42 F43 (by omega) (by omega) (show kw_pw z44.toInt z41.toInt from by exact kw_pwS v36 (by omega) (by omega) (by omega)) (by omega)
            · refine kw_aload_n (pc := 68) (i := 41) (k := 4) (n := 0) rfl rfl rfl ?_
              refine kw_get (pc := 69) (i := 42) (v := .int (S30.1 52 3)) rfl rfl rfl lkX0_25 (fun _ => rfl) ?_
              refine kw_iload (pc := 72) (i := 43) (k := 0) (n := 6) rfl rfl ?_
              refine kw_iadd (pc := 74) (i := 44) rfl (fun z45 e_z45 t_z45 => ?_)
              refine kw_bipush (pc := 75) (i := 45) (v := 64) rfl rfl ?_
              refine kw_icmp_ge (pc := 77) (i := 46) (tgt := 130) rfl rfl (fun c46 => ?_) (fun c46 => ?_)
              · refine kw_aload_n (pc := 130) (i := 75) (k := 4) (n := 0) rfl rfl rfl ?_
                refine kw_dup (pc := 131) (i := 76) rfl rfl ?_
                refine kw_get (pc := 132) (i := 77) (v := .int (S30.1 52 3)) rfl rfl rfl lkX0_25 (fun _ => rfl) ?_
                refine kw_iconst (pc := 135) (i := 78) (v := 1) rfl rfl ?_
                refine kw_ishl (pc := 136) (i := 79) rfl (fun z47 e_z47 => ?_)
                have r_z47 := kw_rng z47
                have t_z47 := kw_shl1 z47 (S30.1 52 3) e_z47
                refine kw_puti (pc := 137) (i := 80) (z := 0) rfl rfl rfl lpX0_25 rfl rfl ?_
                have I48 : kw_I bX (kw_ui S30 52 3 z47) := kw_I_ui I31 (kw_rng z47).1 (Int.le_of_lt_add_one (kw_rng z47).2)
                have F49 : kw_F [52, 55, 56] σ (kw_ui S30 52 3 z47) := kw_F_ui F32 (by decide)
                refine kw_iinc' (pc := 140) (i := 81) (k := 3) (fun z => [(3, .int z), (6, .int x29), (5, .int z28), (4, .int z25), (0, .ref 52), (1, .ref 17), (2, .int w)]) rfl rfl (by decide) rfl (fun _ => rfl) (fun z50 e_z50 t_z50 => ?_)
                refine kw_goto (pc := 143) (i := 82) (tgt := 29) rfl rfl ?_
                refine kw_sub (lv' := [(3, .int z50), (0, .ref 52), (1, .ref 17), (2, .int w)]) [0, 4, 5, 6] rfl ?_
                exact ih15 z50 (kw_ui S30 52 3 z47) I48 F49 (by omega) (by omega) (show kw_pw z50.toInt z47.toInt from by exact kw_pwS v36 (by omega) (by omega) (by omega)) (by omega)
              · refine kw_aload_n (pc := 80) (i := 47) (k := 4) (n := 0) rfl rfl rfl ?_
                refine kw_get (pc := 81) (i := 48) (v := .ref 55) rfl rfl rfl lkX0_9 (fun _ => rfl) ?_
                refine kw_aload_n (pc := 84) (i := 49) (k := 4) (n := 0) rfl rfl rfl ?_
                refine kw_get (pc := 85) (i := 50) (v := .int (S30.1 52 3)) rfl rfl rfl lkX0_25 (fun _ => rfl) ?_
                refine kw_iload (pc := 88) (i := 51) (k := 0) (n := 6) rfl rfl ?_
                refine kw_iadd (pc := 90) (i := 52) rfl (fun z51 e_z51 t_z51 => ?_)
                refine kw_aload_n (pc := 91) (i := 53) (k := 4) (n := 0) rfl rfl rfl ?_
                refine kw_get (pc := 92) (i := 54) (v := .ref 55) rfl rfl rfl lkX0_9 (fun _ => rfl) ?_
                refine kw_iload (pc := 95) (i := 55) (k := 0) (n := 6) rfl rfl ?_
                refine kw_iald (pc := 97) (i := 56) (n := 64) rfl rfl (by omega) (by omega) (fun z52 e_z52 => ?_)
                have t_z52 := congrArg Int32.toInt e_z52
                have r_z52 := kw_rng z52
                refine kw_iload (pc := 98) (i := 57) (k := 2) (n := 4) rfl rfl ?_
                refine kw_iadd (pc := 100) (i := 58) rfl (fun z53 e_z53 t_z53 => ?_)
                refine kw_iast (pc := 101) (i := 59) (n := 64) rfl rfl (by omega) (by omega) ?_
                have I54 : kw_I bX (kw_ui S30 55 z51.toNatClampNeg z53) := kw_I_ui I31 (kw_rng z53).1 (Int.le_of_lt_add_one (kw_rng z53).2)
                have F55 : kw_F [52, 55, 56] σ (kw_ui S30 55 z51.toNatClampNeg z53) := kw_F_ui F32 (by decide)
                refine kw_aload_n (pc := 102) (i := 60) (k := 4) (n := 0) rfl rfl rfl ?_
                refine kw_get (pc := 103) (i := 61) (v := .ref 56) rfl rfl rfl lkX0_15 (fun _ => rfl) ?_
                refine kw_aload_n (pc := 106) (i := 62) (k := 4) (n := 0) rfl rfl rfl ?_
                refine kw_get (pc := 107) (i := 63) (v := .int (S30.1 52 3)) rfl rfl rfl lkX0_25 (fun _ => rfl) ?_
                refine kw_iload (pc := 110) (i := 64) (k := 0) (n := 6) rfl rfl ?_
                refine kw_iadd (pc := 112) (i := 65) rfl (fun z56 e_z56 t_z56 => ?_)
                refine kw_aload_n (pc := 113) (i := 66) (k := 4) (n := 0) rfl rfl rfl ?_
                refine kw_get (pc := 114) (i := 67) (v := .ref 56) rfl rfl rfl lkX0_15 (fun _ => rfl) ?_
                refine kw_iload (pc := 117) (i := 68) (k := 0) (n := 6) rfl rfl ?_
                refine kw_iald (pc := 119) (i := 69) (n := 64) rfl rfl (by omega) (by omega) (fun z57 e_z57 => ?_)
                have t_z57 := congrArg Int32.toInt e_z57
                have r_z57 := kw_rng z57
                refine kw_iload (pc := 120) (i := 70) (k := 1) (n := 5) rfl rfl ?_
                refine kw_iadd (pc := 122) (i := 71) rfl (fun z58 e_z58 t_z58 => ?_)
                refine kw_iast (pc := 123) (i := 72) (n := 64) rfl rfl (by omega) (by omega) ?_
                have I59 : kw_I bX (kw_ui (kw_ui S30 55 z51.toNatClampNeg z53) 56 z56.toNatClampNeg z58) := kw_I_ui I54 (kw_rng z58).1 (Int.le_of_lt_add_one (kw_rng z58).2)
                have F60 : kw_F [52, 55, 56] σ (kw_ui (kw_ui S30 55 z51.toNatClampNeg z53) 56 z56.toNatClampNeg z58) := kw_F_ui F55 (by decide)
                refine kw_iinc' (pc := 124) (i := 73) (k := 0) (fun z => [(6, .int z), (5, .int z28), (4, .int z25), (3, .int x10), (0, .ref 52), (1, .ref 17), (2, .int w)]) rfl rfl (by decide) rfl (fun _ => rfl) (fun z61 e_z61 t_z61 => ?_)
                refine kw_goto (pc := 127) (i := 74) (tgt := 59) rfl rfl ?_
                refine kw_sub (lv' := [(6, .int z61), (5, .int z28), (4, .int z25), (3, .int x10), (0, .ref 52), (1, .ref 17), (2, .int w)]) [0, 1, 2, 3, 4, 5, 6] rfl ?_
                exact ih34 z61 (kw_ui (kw_ui S30 55 z51.toNatClampNeg z53) 56 z56.toNatClampNeg z58) I59 F60 (by omega) (show kw_pw x10.toInt (S30.1 52 3).toInt from by exact v36) (by omega)
        exact L33 _ 0 S11 I12 F13 (by omega) (show kw_pw x10.toInt (S11.1 52 3).toInt from by exact v18) (Nat.lt_succ_self _)
  exact L14 _ 0 (kw_ui (kw_ui (kw_ui (kw_ui σ 52 2 (σ.1 17 5)) 52 3 1) 55 ((0 : Int32).toNatClampNeg) 0) 56 ((0 : Int32).toNatClampNeg) 0) I8 F9 (by omega) (by omega) (show kw_pw (0 : Int32).toInt (1 : Int32).toInt from by exact kw_pw0) (Nat.lt_succ_self _)
abbrev p_X0_milesOf_52 (σ : kw_S) (s : Int32) : Option Value → kw_S → Prop := fun v σ' => σ' = σ ∧ ∃ r : Int32, v = some (.int r)
set_option maxRecDepth 100000 in
set_option maxHeartbeats 4000000 in
theorem c_X0_milesOf_52 (l : Launch) (σ : kw_S) (hI : kw_I bX σ) (s : Int32) : kw_Met l 1 KX mX0_milesOf [.ref 52, .int s] σ (p_X0_milesOf_52 σ s) := by
  have r_s := kw_rng s
  have q_0 : (0 : Int32).toInt = 0 := rfl
  have q_4 : (4 : Int32).toInt = 4 := rfl
  have q_64 : (64 : Int32).toInt = 64 := rfl
  refine kw_Met.of (by decide) rfl tX0_milesOf (Nat.le_of_ble_eq_true rfl) ?_
  show kw_AW l 1 kw_E0 KX mX0_milesOf (p_X0_milesOf_52 σ s) 0 [(0, .ref 52), (1, .int s)] [] σ
  refine kw_iload_n (pc := 0) (i := 0) (k := 1) (n := 1) rfl rfl rfl ?_
  refine kw_if_lt (pc := 1) (i := 1) (tgt := 21) rfl rfl (fun c1 => ?_) (fun c1 => ?_)
  · refine kw_iconst (pc := 21) (i := 12) (v := 0) rfl rfl ?_
    exact kw_ireturn (pc := 22) (i := 13) (ty := .int) rfl rfl rfl ⟨rfl, _, rfl⟩
  · refine kw_iload_n (pc := 4) (i := 2) (k := 1) (n := 1) rfl rfl rfl ?_
    refine kw_bipush (pc := 5) (i := 3) (v := 64) rfl rfl ?_
    refine kw_icmp_ge (pc := 7) (i := 4) (tgt := 21) rfl rfl (fun c2 => ?_) (fun c2 => ?_)
    · refine kw_iconst (pc := 21) (i := 12) (v := 0) rfl rfl ?_
      exact kw_ireturn (pc := 22) (i := 13) (ty := .int) rfl rfl rfl ⟨rfl, _, rfl⟩
    · refine kw_aload_n (pc := 10) (i := 5) (k := 0) (n := 0) rfl rfl rfl ?_
      refine kw_get (pc := 11) (i := 6) (v := .ref 55) rfl rfl rfl lkX0_9 (fun _ => rfl) ?_
      refine kw_iload_n (pc := 14) (i := 7) (k := 1) (n := 1) rfl rfl rfl ?_
      refine kw_iald (pc := 15) (i := 8) (n := 64) rfl rfl (by omega) (by omega) (fun z3 e_z3 => ?_)
      have t_z3 := congrArg Int32.toInt e_z3
      have r_z3 := kw_rng z3
      refine kw_iconst (pc := 16) (i := 9) (v := 4) rfl rfl ?_
      refine kw_idiv (pc := 17) (i := 10) rfl (by omega) (fun z4 e_z4 => ?_)
      have r_z4 := kw_rng z4
      refine kw_goto (pc := 18) (i := 11) (tgt := 22) rfl rfl ?_
      exact kw_ireturn (pc := 22) (i := 13) (ty := .int) rfl rfl rfl ⟨rfl, _, rfl⟩
abbrev p_X0_turnBy_52 (σ : kw_S) (s : Int32) : Option Value → kw_S → Prop := fun v σ' => σ' = σ ∧ ∃ r : Int32, v = some (.int r)
set_option maxRecDepth 100000 in
set_option maxHeartbeats 4000000 in
theorem c_X0_turnBy_52 (l : Launch) (σ : kw_S) (hI : kw_I bX σ) (s : Int32) : kw_Met l 1 KX mX0_turnBy [.ref 52, .int s] σ (p_X0_turnBy_52 σ s) := by
  have r_s := kw_rng s
  have q_0 : (0 : Int32).toInt = 0 := rfl
  have q_64 : (64 : Int32).toInt = 64 := rfl
  refine kw_Met.of (by decide) rfl tX0_turnBy (Nat.le_of_ble_eq_true rfl) ?_
  show kw_AW l 1 kw_E0 KX mX0_turnBy (p_X0_turnBy_52 σ s) 0 [(0, .ref 52), (1, .int s)] [] σ
  refine kw_iload_n (pc := 0) (i := 0) (k := 1) (n := 1) rfl rfl rfl ?_
  refine kw_if_lt (pc := 1) (i := 1) (tgt := 19) rfl rfl (fun c1 => ?_) (fun c1 => ?_)
  · refine kw_iconst (pc := 19) (i := 10) (v := 0) rfl rfl ?_
    exact kw_ireturn (pc := 20) (i := 11) (ty := .int) rfl rfl rfl ⟨rfl, _, rfl⟩
  · refine kw_iload_n (pc := 4) (i := 2) (k := 1) (n := 1) rfl rfl rfl ?_
    refine kw_bipush (pc := 5) (i := 3) (v := 64) rfl rfl ?_
    refine kw_icmp_ge (pc := 7) (i := 4) (tgt := 19) rfl rfl (fun c2 => ?_) (fun c2 => ?_)
    · refine kw_iconst (pc := 19) (i := 10) (v := 0) rfl rfl ?_
      exact kw_ireturn (pc := 20) (i := 11) (ty := .int) rfl rfl rfl ⟨rfl, _, rfl⟩
    · refine kw_aload_n (pc := 10) (i := 5) (k := 0) (n := 0) rfl rfl rfl ?_
      refine kw_get (pc := 11) (i := 6) (v := .ref 56) rfl rfl rfl lkX0_15 (fun _ => rfl) ?_
      refine kw_iload_n (pc := 14) (i := 7) (k := 1) (n := 1) rfl rfl rfl ?_
      refine kw_iald (pc := 15) (i := 8) (n := 64) rfl rfl (by omega) (by omega) (fun z3 e_z3 => ?_)
      have t_z3 := congrArg Int32.toInt e_z3
      have r_z3 := kw_rng z3
      refine kw_goto (pc := 16) (i := 9) (tgt := 20) rfl rfl ?_
      exact kw_ireturn (pc := 20) (i := 11) (ty := .int) rfl rfl rfl ⟨rfl, _, rfl⟩
abbrev p_X0_draw_53_17 (σ : kw_S) (w : Int32) : Option Value → kw_S → Prop := fun v σ' => (kw_I bX σ' ∧ kw_F [53, 57, 58] σ σ') ∧ v = none
set_option maxRecDepth 100000 in
set_option maxHeartbeats 4000000 in
theorem c_X0_draw_53_17 (l : Launch) (σ : kw_S) (hI : kw_I bX σ) (w : Int32) : kw_Met l 3 KX mX0_draw [.ref 53, .ref 17, .int w] σ (p_X0_draw_53_17 σ w) := by
  have r_w := kw_rng w
  have hF0 : kw_F [53, 57, 58] σ σ := kw_F.rf
  have q_0 : (0 : Int32).toInt = 0 := rfl
  have q_1 : (1 : Int32).toInt = 1 := rfl
  have q_64 : (64 : Int32).toInt = 64 := rfl
  refine kw_Met.of (by decide) rfl tX0_draw (Nat.le_of_ble_eq_true rfl) ?_
  show kw_AW l 3 kw_E0 KX mX0_draw (p_X0_draw_53_17 σ w) 0 [(0, .ref 53), (1, .ref 17), (2, .int w)] [] σ
  refine kw_aload_n (pc := 0) (i := 0) (k := 0) (n := 0) rfl rfl rfl ?_
  refine kw_aload_n (pc := 1) (i := 1) (k := 1) (n := 1) rfl rfl rfl ?_
  refine kw_get (pc := 2) (i := 2) (v := .int (σ.1 17 5)) rfl rfl rfl lkX0_18 (fun _ => rfl) ?_
  have b1 : 0 ≤ (σ.1 17 5).toInt ∧ (σ.1 17 5).toInt ≤ 6 := hI 17 5
  refine kw_puti (pc := 5) (i := 3) (z := 0) rfl rfl rfl lpX0_24 rfl rfl ?_
  have I2 : kw_I bX (kw_ui σ 53 2 (σ.1 17 5)) := kw_I_ui hI (show 0 ≤ (σ.1 17 5).toInt by omega) (show (σ.1 17 5).toInt ≤ 6 by omega)
  have F3 : kw_F [53, 57, 58] σ (kw_ui σ 53 2 (σ.1 17 5)) := kw_F_ui hF0 (by decide)
  refine kw_aload_n (pc := 8) (i := 4) (k := 0) (n := 0) rfl rfl rfl ?_
  refine kw_iconst (pc := 9) (i := 5) (v := 1) rfl rfl ?_
  refine kw_puti (pc := 10) (i := 6) (z := 0) rfl rfl rfl lpX0_25 rfl rfl ?_
  have I4 : kw_I bX (kw_ui (kw_ui σ 53 2 (σ.1 17 5)) 53 3 1) := kw_I_ui I2 (kw_rng (1 : Int32)).1 (Int.le_of_lt_add_one (kw_rng (1 : Int32)).2)
  have F5 : kw_F [53, 57, 58] σ (kw_ui (kw_ui σ 53 2 (σ.1 17 5)) 53 3 1) := kw_F_ui F3 (by decide)
  refine kw_aload_n (pc := 13) (i := 7) (k := 0) (n := 0) rfl rfl rfl ?_
  refine kw_get (pc := 14) (i := 8) (v := .ref 57) rfl rfl rfl lkX0_9 (fun _ => rfl) ?_
  refine kw_iconst (pc := 17) (i := 9) (v := 0) rfl rfl ?_
  refine kw_iconst (pc := 18) (i := 10) (v := 0) rfl rfl ?_
  refine kw_iast (pc := 19) (i := 11) (n := 64) rfl rfl (by omega) (by omega) ?_
  have I6 : kw_I bX (kw_ui (kw_ui (kw_ui σ 53 2 (σ.1 17 5)) 53 3 1) 57 ((0 : Int32).toNatClampNeg) 0) := kw_I_ui I4 (kw_rng (0 : Int32)).1 (Int.le_of_lt_add_one (kw_rng (0 : Int32)).2)
  have F7 : kw_F [53, 57, 58] σ (kw_ui (kw_ui (kw_ui σ 53 2 (σ.1 17 5)) 53 3 1) 57 ((0 : Int32).toNatClampNeg) 0) := kw_F_ui F5 (by decide)
  refine kw_aload_n (pc := 20) (i := 12) (k := 0) (n := 0) rfl rfl rfl ?_
  refine kw_get (pc := 21) (i := 13) (v := .ref 58) rfl rfl rfl lkX0_15 (fun _ => rfl) ?_
  refine kw_iconst (pc := 24) (i := 14) (v := 0) rfl rfl ?_
  refine kw_iconst (pc := 25) (i := 15) (v := 0) rfl rfl ?_
  refine kw_iast (pc := 26) (i := 16) (n := 64) rfl rfl (by omega) (by omega) ?_
  have I8 : kw_I bX (kw_ui (kw_ui (kw_ui (kw_ui σ 53 2 (σ.1 17 5)) 53 3 1) 57 ((0 : Int32).toNatClampNeg) 0) 58 ((0 : Int32).toNatClampNeg) 0) := kw_I_ui I6 (kw_rng (0 : Int32)).1 (Int.le_of_lt_add_one (kw_rng (0 : Int32)).2)
  have F9 : kw_F [53, 57, 58] σ (kw_ui (kw_ui (kw_ui (kw_ui σ 53 2 (σ.1 17 5)) 53 3 1) 57 ((0 : Int32).toNatClampNeg) 0) 58 ((0 : Int32).toNatClampNeg) 0) := kw_F_ui F7 (by decide)
  refine kw_iconst (pc := 27) (i := 17) (v := 0) rfl rfl ?_
  refine kw_istore_n (pc := 28) (i := 18) (n := 3) (lv' := [(3, .int 0), (0, .ref 53), (1, .ref 17), (2, .int w)]) rfl rfl (by decide) rfl ?_
  have L14 : ∀ (n20 : Nat) (x10 : Int32) (S11 : kw_S), kw_I bX S11 → kw_F [53, 57, 58] σ S11 → 0 ≤ x10.toInt → x10.toInt ≤ 6 → kw_pw x10.toInt (S11.1 53 3).toInt → (7 - x10.toInt).toNat < n20 → kw_AW l 3 kw_E0 KX mX0_draw (p_X0_draw_53_17 σ w) 29 [(3, .int x10), (0, .ref 53), (1, .ref 17), (2, .int w)] [] S11 := by
    intro n20
    induction n20 with
    | zero => intro x10 S11 I12 F13 v16 v17 v18 m19; exact absurd m19 (Nat.not_lt_zero _)
    | succ n20 ih15 =>
      intro x10 S11 I12 F13 v16 v17 v18 m19
      have r_x10 := kw_rng x10
      have w_0 := kw_pwB v18 (by omega) (by omega)
      refine kw_iload_n (pc := 29) (i := 19) (k := 0) (n := 3) rfl rfl rfl ?_
      refine kw_aload_n (pc := 30) (i := 20) (k := 1) (n := 0) rfl rfl rfl ?_
      refine kw_get (pc := 31) (i := 21) (v := .int (S11.1 53 2)) rfl rfl rfl lkX0_24 (fun _ => rfl) ?_
      have b21 : 0 ≤ (S11.1 53 2).toInt ∧ (S11.1 53 2).toInt ≤ 6 := I12 53 2
      refine kw_icmp_ge (pc := 34) (i := 22) (tgt := 146) rfl rfl (fun c22 => ?_) (fun c22 => ?_)
      · exact kw_return (pc := 146) (i := 83) rfl rfl ⟨⟨I12, F13⟩, rfl⟩
      · refine kw_aload_n (pc := 37) (i := 23) (k := 2) (n := 1) rfl rfl rfl ?_
        refine kw_iload_n (pc := 38) (i := 24) (k := 0) (n := 3) rfl rfl rfl ?_
        refine kw_iload_n (pc := 39) (i := 25) (k := 3) (n := 2) rfl rfl rfl ?_
        refine kw_callV (pc := 40) (i := 26) (Y := mX1_pullOf) (a := 17) (As := [.int x10, .int w]) (st := []) kw_hE rfl rfl lvX0_28 arX1_pullOf (c_X1_pullOf_17 l S11 I12 x10 w ) (by decide) (Nat.le_of_ble_eq_true rfl) rfl (fun v S24 p23 => ?_)
        obtain ⟨e26, z25, rfl⟩ := p23
        rw [e26]
        have r_z25 := kw_rng z25
        show kw_AW l 3 kw_E0 KX mX0_draw (p_X0_draw_53_17 σ w) 43 [(3, .int x10), (0, .ref 53), (1, .ref 17), (2, .int w)] [.int z25] S11
        refine kw_istore (pc := 43) (i := 27) (n := 4) (lv' := [(4, .int z25), (3, .int x10), (0, .ref 53), (1, .ref 17), (2, .int w)]) rfl (by decide) rfl ?_
        refine kw_iload (pc := 45) (i := 28) (k := 0) (n := 4) rfl rfl ?_
        refine kw_aload_n (pc := 47) (i := 29) (k := 3) (n := 1) rfl rfl rfl ?_
        refine kw_get (pc := 48) (i := 30) (v := .ref 45) rfl rfl rfl lkX0_32 (fun _ => rfl) ?_
        refine kw_iload_n (pc := 51) (i := 31) (k := 1) (n := 3) rfl rfl rfl ?_
        refine kw_iald (pc := 52) (i := 32) (n := 6) rfl rfl (by omega) (by omega) (fun z27 e_z27 => ?_)
        have t_z27 := congrArg Int32.toInt e_z27
        have r_z27 := kw_rng z27
        refine kw_imul (pc := 53) (i := 33) rfl (fun z28 e_z28 t_z28 => ?_)
        refine kw_istore (pc := 54) (i := 34) (n := 5) (lv' := [(5, .int z28), (4, .int z25), (3, .int x10), (0, .ref 53), (1, .ref 17), (2, .int w)]) rfl (by decide) rfl ?_
        refine kw_iconst (pc := 56) (i := 35) (v := 0) rfl rfl ?_
        refine kw_istore (pc := 57) (i := 36) (n := 6) (lv' := [(6, .int 0), (5, .int z28), (4, .int z25), (3, .int x10), (0, .ref 53), (1, .ref 17), (2, .int w)]) rfl (by decide) rfl ?_
        have L33 : ∀ (n38 : Nat) (x29 : Int32) (S30 : kw_S), kw_I bX S30 → kw_F [53, 57, 58] σ S30 → 0 ≤ x29.toInt → kw_pw x10.toInt (S30.1 53 3).toInt → (65 - x29.toInt).toNat < n38 → kw_AW l 3 kw_E0 KX mX0_draw (p_X0_draw_53_17 σ w) 59 [(6, .int x29), (5, .int z28), (4, .int z25), (3, .int x10), (0, .ref 53), (1, .ref 17), (2, .int w)] [] S30 := by
          intro n38
          induction n38 with
          | zero => intro x29 S30 I31 F32 v35 v36 m37; exact absurd m37 (Nat.not_lt_zero _)
          | succ n38 ih34 =>
            intro x29 S30 I31 F32 v35 v36 m37
            have r_x29 := kw_rng x29
            have w_1 := kw_pwB v36 (by omega) (by omega)
            refine kw_iload (pc := 59) (i := 37) (k := 0) (n := 6) rfl rfl ?_
            refine kw_aload_n (pc := 61) (i := 38) (k := 4) (n := 0) rfl rfl rfl ?_
            refine kw_get (pc := 62) (i := 39) (v := .int (S30.1 53 3)) rfl rfl rfl lkX0_25 (fun _ => rfl) ?_
            have b39 := kw_rng (S30.1 53 3)
            refine kw_icmp_ge (pc := 65) (i := 40) (tgt := 130) rfl rfl (fun c40 => ?_) (fun c40 => ?_)
            · refine kw_aload_n (pc := 130) (i := 75) (k := 4) (n := 0) rfl rfl rfl ?_
              refine kw_dup (pc := 131) (i := 76) rfl rfl ?_
              refine kw_get (pc := 132) (i := 77) (v := .int (S30.1 53 3)) rfl rfl rfl lkX0_25 (fun _ => rfl) ?_
              refine kw_iconst (pc := 135) (i := 78) (v := 1) rfl rfl ?_
              refine kw_ishl (pc := 136) (i := 79) rfl (fun z41 e_z41 => ?_)
              have r_z41 := kw_rng z41
              have t_z41 := kw_shl1 z41 (S30.1 53 3) e_z41
              refine kw_puti (pc := 137) (i := 80) (z := 0) rfl rfl rfl lpX0_25 rfl rfl ?_
              have I42 : kw_I bX (kw_ui S30 53 3 z41) := kw_I_ui I31 (kw_rng z41).1 (Int.le_of_lt_add_one (kw_rng z41).2)
              have F43 : kw_F [53, 57, 58] σ (kw_ui S30 53 3 z41) := kw_F_ui F32 (by decide)
              refine kw_iinc' (pc := 140) (i := 81) (k := 3) (fun z => [(3, .int z), (6, .int x29), (5, .int z28), (4, .int z25), (0, .ref 53), (1, .ref 17), (2, .int w)]) rfl rfl (by decide) rfl (fun _ => rfl) (fun z44 e_z44 t_z44 => ?_)
              refine kw_goto (pc := 143) (i := 82) (tgt := 29) rfl rfl ?_
              refine kw_sub (lv' := [(3, .int z44), (0, .ref 53), (1, .ref 17), (2, .int w)]) [0, 4, 5, 6] rfl ?_
              exact ih15 z44 (kw_ui S30 53 3 z41) I42 F43 (by omega) (by omega) (show kw_pw z44.toInt z41.toInt from by exact kw_pwS v36 (by omega) (by omega) (by omega)) (by omega)
            · refine kw_aload_n (pc := 68) (i := 41) (k := 4) (n := 0) rfl rfl rfl ?_
              refine kw_get (pc := 69) (i := 42) (v := .int (S30.1 53 3)) rfl rfl rfl lkX0_25 (fun _ => rfl) ?_
              refine kw_iload (pc := 72) (i := 43) (k := 0) (n := 6) rfl rfl ?_
              refine kw_iadd (pc := 74) (i := 44) rfl (fun z45 e_z45 t_z45 => ?_)
              refine kw_bipush (pc := 75) (i := 45) (v := 64) rfl rfl ?_
              refine kw_icmp_ge (pc := 77) (i := 46) (tgt := 130) rfl rfl (fun c46 => ?_) (fun c46 => ?_)
              · refine kw_aload_n (pc := 130) (i := 75) (k := 4) (n := 0) rfl rfl rfl ?_
                refine kw_dup (pc := 131) (i := 76) rfl rfl ?_
                refine kw_get (pc := 132) (i := 77) (v := .int (S30.1 53 3)) rfl rfl rfl lkX0_25 (fun _ => rfl) ?_
                refine kw_iconst (pc := 135) (i := 78) (v := 1) rfl rfl ?_
                refine kw_ishl (pc := 136) (i := 79) rfl (fun z47 e_z47 => ?_)
                have r_z47 := kw_rng z47
                have t_z47 := kw_shl1 z47 (S30.1 53 3) e_z47
                refine kw_puti (pc := 137) (i := 80) (z := 0) rfl rfl rfl lpX0_25 rfl rfl ?_
                have I48 : kw_I bX (kw_ui S30 53 3 z47) := kw_I_ui I31 (kw_rng z47).1 (Int.le_of_lt_add_one (kw_rng z47).2)
                have F49 : kw_F [53, 57, 58] σ (kw_ui S30 53 3 z47) := kw_F_ui F32 (by decide)
                refine kw_iinc' (pc := 140) (i := 81) (k := 3) (fun z => [(3, .int z), (6, .int x29), (5, .int z28), (4, .int z25), (0, .ref 53), (1, .ref 17), (2, .int w)]) rfl rfl (by decide) rfl (fun _ => rfl) (fun z50 e_z50 t_z50 => ?_)
                refine kw_goto (pc := 143) (i := 82) (tgt := 29) rfl rfl ?_
                refine kw_sub (lv' := [(3, .int z50), (0, .ref 53), (1, .ref 17), (2, .int w)]) [0, 4, 5, 6] rfl ?_
                exact ih15 z50 (kw_ui S30 53 3 z47) I48 F49 (by omega) (by omega) (show kw_pw z50.toInt z47.toInt from by exact kw_pwS v36 (by omega) (by omega) (by omega)) (by omega)
              · refine kw_aload_n (pc := 80) (i := 47) (k := 4) (n := 0) rfl rfl rfl ?_
                refine kw_get (pc := 81) (i := 48) (v := .ref 57) rfl rfl rfl lkX0_9 (fun _ => rfl) ?_
                refine kw_aload_n (pc := 84) (i := 49) (k := 4) (n := 0) rfl rfl rfl ?_
                refine kw_get (pc := 85) (i := 50) (v := .int (S30.1 53 3)) rfl rfl rfl lkX0_25 (fun _ => rfl) ?_
                refine kw_iload (pc := 88) (i := 51) (k := 0) (n := 6) rfl rfl ?_
                refine kw_iadd (pc := 90) (i := 52) rfl (fun z51 e_z51 t_z51 => ?_)
                refine kw_aload_n (pc := 91) (i := 53) (k := 4) (n := 0) rfl rfl rfl ?_
                refine kw_get (pc := 92) (i := 54) (v := .ref 57) rfl rfl rfl lkX0_9 (fun _ => rfl) ?_
                refine kw_iload (pc := 95) (i := 55) (k := 0) (n := 6) rfl rfl ?_
                refine kw_iald (pc := 97) (i := 56) (n := 64) rfl rfl (by omega) (by omega) (fun z52 e_z52 => ?_)
                have t_z52 := congrArg Int32.toInt e_z52
                have r_z52 := kw_rng z52
                refine kw_iload (pc := 98) (i := 57) (k := 2) (n := 4) rfl rfl ?_
                refine kw_iadd (pc := 100) (i := 58) rfl (fun z53 e_z53 t_z53 => ?_)
                refine kw_iast (pc := 101) (i := 59) (n := 64) rfl rfl (by omega) (by omega) ?_
                have I54 : kw_I bX (kw_ui S30 57 z51.toNatClampNeg z53) := kw_I_ui I31 (kw_rng z53).1 (Int.le_of_lt_add_one (kw_rng z53).2)
                have F55 : kw_F [53, 57, 58] σ (kw_ui S30 57 z51.toNatClampNeg z53) := kw_F_ui F32 (by decide)
                refine kw_aload_n (pc := 102) (i := 60) (k := 4) (n := 0) rfl rfl rfl ?_
                refine kw_get (pc := 103) (i := 61) (v := .ref 58) rfl rfl rfl lkX0_15 (fun _ => rfl) ?_
                refine kw_aload_n (pc := 106) (i := 62) (k := 4) (n := 0) rfl rfl rfl ?_
                refine kw_get (pc := 107) (i := 63) (v := .int (S30.1 53 3)) rfl rfl rfl lkX0_25 (fun _ => rfl) ?_
                refine kw_iload (pc := 110) (i := 64) (k := 0) (n := 6) rfl rfl ?_
                refine kw_iadd (pc := 112) (i := 65) rfl (fun z56 e_z56 t_z56 => ?_)
                refine kw_aload_n (pc := 113) (i := 66) (k := 4) (n := 0) rfl rfl rfl ?_
                refine kw_get (pc := 114) (i := 67) (v := .ref 58) rfl rfl rfl lkX0_15 (fun _ => rfl) ?_
                refine kw_iload (pc := 117) (i := 68) (k := 0) (n := 6) rfl rfl ?_
                refine kw_iald (pc := 119) (i := 69) (n := 64) rfl rfl (by omega) (by omega) (fun z57 e_z57 => ?_)
                have t_z57 := congrArg Int32.toInt e_z57
                have r_z57 := kw_rng z57
                refine kw_iload (pc := 120) (i := 70) (k := 1) (n := 5) rfl rfl ?_
                refine kw_iadd (pc := 122) (i := 71) rfl (fun z58 e_z58 t_z58 => ?_)
                refine kw_iast (pc := 123) (i := 72) (n := 64) rfl rfl (by omega) (by omega) ?_
                have I59 : kw_I bX (kw_ui (kw_ui S30 57 z51.toNatClampNeg z53) 58 z56.toNatClampNeg z58) := kw_I_ui I54 (kw_rng z58).1 (Int.le_of_lt_add_one (kw_rng z58).2)
                have F60 : kw_F [53, 57, 58] σ (kw_ui (kw_ui S30 57 z51.toNatClampNeg z53) 58 z56.toNatClampNeg z58) := kw_F_ui F55 (by decide)
                refine kw_iinc' (pc := 124) (i := 73) (k := 0) (fun z => [(6, .int z), (5, .int z28), (4, .int z25), (3, .int x10), (0, .ref 53), (1, .ref 17), (2, .int w)]) rfl rfl (by decide) rfl (fun _ => rfl) (fun z61 e_z61 t_z61 => ?_)
                refine kw_goto (pc := 127) (i := 74) (tgt := 59) rfl rfl ?_
                refine kw_sub (lv' := [(6, .int z61), (5, .int z28), (4, .int z25), (3, .int x10), (0, .ref 53), (1, .ref 17), (2, .int w)]) [0, 1, 2, 3, 4, 5, 6] rfl ?_
                exact ih34 z61 (kw_ui (kw_ui S30 57 z51.toNatClampNeg z53) 58 z56.toNatClampNeg z58) I59 F60 (by omega) (show kw_pw x10.toInt (S30.1 53 3).toInt from by exact v36) (by omega)
        exact L33 _ 0 S11 I12 F13 (by omega) (show kw_pw x10.toInt (S11.1 53 3).toInt from by exact v18) (Nat.lt_succ_self _)
  exact L14 _ 0 (kw_ui (kw_ui (kw_ui (kw_ui σ 53 2 (σ.1 17 5)) 53 3 1) 57 ((0 : Int32).toNatClampNeg) 0) 58 ((0 : Int32).toNatClampNeg) 0) I8 F9 (by omega) (by omega) (show kw_pw (0 : Int32).toInt (1 : Int32).toInt from by exact kw_pw0) (Nat.lt_succ_self _)
abbrev p_X0_milesOf_53 (σ : kw_S) (s : Int32) : Option Value → kw_S → Prop := fun v σ' => σ' = σ ∧ ∃ r : Int32, v = some (.int r)
set_option maxRecDepth 100000 in
set_option maxHeartbeats 4000000 in
theorem c_X0_milesOf_53 (l : Launch) (σ : kw_S) (hI : kw_I bX σ) (s : Int32) : kw_Met l 1 KX mX0_milesOf [.ref 53, .int s] σ (p_X0_milesOf_53 σ s) := by
  have r_s := kw_rng s
  have q_0 : (0 : Int32).toInt = 0 := rfl
  have q_4 : (4 : Int32).toInt = 4 := rfl
  have q_64 : (64 : Int32).toInt = 64 := rfl
  refine kw_Met.of (by decide) rfl tX0_milesOf (Nat.le_of_ble_eq_true rfl) ?_
  show kw_AW l 1 kw_E0 KX mX0_milesOf (p_X0_milesOf_53 σ s) 0 [(0, .ref 53), (1, .int s)] [] σ
  refine kw_iload_n (pc := 0) (i := 0) (k := 1) (n := 1) rfl rfl rfl ?_
  refine kw_if_lt (pc := 1) (i := 1) (tgt := 21) rfl rfl (fun c1 => ?_) (fun c1 => ?_)
  · refine kw_iconst (pc := 21) (i := 12) (v := 0) rfl rfl ?_
    exact kw_ireturn (pc := 22) (i := 13) (ty := .int) rfl rfl rfl ⟨rfl, _, rfl⟩
  · refine kw_iload_n (pc := 4) (i := 2) (k := 1) (n := 1) rfl rfl rfl ?_
    refine kw_bipush (pc := 5) (i := 3) (v := 64) rfl rfl ?_
    refine kw_icmp_ge (pc := 7) (i := 4) (tgt := 21) rfl rfl (fun c2 => ?_) (fun c2 => ?_)
    · refine kw_iconst (pc := 21) (i := 12) (v := 0) rfl rfl ?_
      exact kw_ireturn (pc := 22) (i := 13) (ty := .int) rfl rfl rfl ⟨rfl, _, rfl⟩
    · refine kw_aload_n (pc := 10) (i := 5) (k := 0) (n := 0) rfl rfl rfl ?_
      refine kw_get (pc := 11) (i := 6) (v := .ref 57) rfl rfl rfl lkX0_9 (fun _ => rfl) ?_
      refine kw_iload_n (pc := 14) (i := 7) (k := 1) (n := 1) rfl rfl rfl ?_
      refine kw_iald (pc := 15) (i := 8) (n := 64) rfl rfl (by omega) (by omega) (fun z3 e_z3 => ?_)
      have t_z3 := congrArg Int32.toInt e_z3
      have r_z3 := kw_rng z3
      refine kw_iconst (pc := 16) (i := 9) (v := 4) rfl rfl ?_
      refine kw_idiv (pc := 17) (i := 10) rfl (by omega) (fun z4 e_z4 => ?_)
      have r_z4 := kw_rng z4
      refine kw_goto (pc := 18) (i := 11) (tgt := 22) rfl rfl ?_
      exact kw_ireturn (pc := 22) (i := 13) (ty := .int) rfl rfl rfl ⟨rfl, _, rfl⟩
abbrev p_X0_turnBy_53 (σ : kw_S) (s : Int32) : Option Value → kw_S → Prop := fun v σ' => σ' = σ ∧ ∃ r : Int32, v = some (.int r)
set_option maxRecDepth 100000 in
set_option maxHeartbeats 4000000 in
theorem c_X0_turnBy_53 (l : Launch) (σ : kw_S) (hI : kw_I bX σ) (s : Int32) : kw_Met l 1 KX mX0_turnBy [.ref 53, .int s] σ (p_X0_turnBy_53 σ s) := by
  have r_s := kw_rng s
  have q_0 : (0 : Int32).toInt = 0 := rfl
  have q_64 : (64 : Int32).toInt = 64 := rfl
  refine kw_Met.of (by decide) rfl tX0_turnBy (Nat.le_of_ble_eq_true rfl) ?_
  show kw_AW l 1 kw_E0 KX mX0_turnBy (p_X0_turnBy_53 σ s) 0 [(0, .ref 53), (1, .int s)] [] σ
  refine kw_iload_n (pc := 0) (i := 0) (k := 1) (n := 1) rfl rfl rfl ?_
  refine kw_if_lt (pc := 1) (i := 1) (tgt := 19) rfl rfl (fun c1 => ?_) (fun c1 => ?_)
  · refine kw_iconst (pc := 19) (i := 10) (v := 0) rfl rfl ?_
    exact kw_ireturn (pc := 20) (i := 11) (ty := .int) rfl rfl rfl ⟨rfl, _, rfl⟩
  · refine kw_iload_n (pc := 4) (i := 2) (k := 1) (n := 1) rfl rfl rfl ?_
    refine kw_bipush (pc := 5) (i := 3) (v := 64) rfl rfl ?_
    refine kw_icmp_ge (pc := 7) (i := 4) (tgt := 19) rfl rfl (fun c2 => ?_) (fun c2 => ?_)
    · refine kw_iconst (pc := 19) (i := 10) (v := 0) rfl rfl ?_
      exact kw_ireturn (pc := 20) (i := 11) (ty := .int) rfl rfl rfl ⟨rfl, _, rfl⟩
    · refine kw_aload_n (pc := 10) (i := 5) (k := 0) (n := 0) rfl rfl rfl ?_
      refine kw_get (pc := 11) (i := 6) (v := .ref 58) rfl rfl rfl lkX0_15 (fun _ => rfl) ?_
      refine kw_iload_n (pc := 14) (i := 7) (k := 1) (n := 1) rfl rfl rfl ?_
      refine kw_iald (pc := 15) (i := 8) (n := 64) rfl rfl (by omega) (by omega) (fun z3 e_z3 => ?_)
      have t_z3 := congrArg Int32.toInt e_z3
      have r_z3 := kw_rng z3
      refine kw_goto (pc := 16) (i := 9) (tgt := 20) rfl rfl ?_
      exact kw_ireturn (pc := 20) (i := 11) (ty := .int) rfl rfl rfl ⟨rfl, _, rfl⟩
abbrev p_X0_draw_54_17 (σ : kw_S) (w : Int32) : Option Value → kw_S → Prop := fun v σ' => (kw_I bX σ' ∧ kw_F [54, 59, 60] σ σ') ∧ v = none
set_option maxRecDepth 100000 in
set_option maxHeartbeats 4000000 in
theorem c_X0_draw_54_17 (l : Launch) (σ : kw_S) (hI : kw_I bX σ) (w : Int32) : kw_Met l 3 KX mX0_draw [.ref 54, .ref 17, .int w] σ (p_X0_draw_54_17 σ w) := by
  have r_w := kw_rng w
  have hF0 : kw_F [54, 59, 60] σ σ := kw_F.rf
  have q_0 : (0 : Int32).toInt = 0 := rfl
  have q_1 : (1 : Int32).toInt = 1 := rfl
  have q_64 : (64 : Int32).toInt = 64 := rfl
  refine kw_Met.of (by decide) rfl tX0_draw (Nat.le_of_ble_eq_true rfl) ?_
  show kw_AW l 3 kw_E0 KX mX0_draw (p_X0_draw_54_17 σ w) 0 [(0, .ref 54), (1, .ref 17), (2, .int w)] [] σ
  refine kw_aload_n (pc := 0) (i := 0) (k := 0) (n := 0) rfl rfl rfl ?_
  refine kw_aload_n (pc := 1) (i := 1) (k := 1) (n := 1) rfl rfl rfl ?_
  refine kw_get (pc := 2) (i := 2) (v := .int (σ.1 17 5)) rfl rfl rfl lkX0_18 (fun _ => rfl) ?_
  have b1 : 0 ≤ (σ.1 17 5).toInt ∧ (σ.1 17 5).toInt ≤ 6 := hI 17 5
  refine kw_puti (pc := 5) (i := 3) (z := 0) rfl rfl rfl lpX0_24 rfl rfl ?_
  have I2 : kw_I bX (kw_ui σ 54 2 (σ.1 17 5)) := kw_I_ui hI (show 0 ≤ (σ.1 17 5).toInt by omega) (show (σ.1 17 5).toInt ≤ 6 by omega)
  have F3 : kw_F [54, 59, 60] σ (kw_ui σ 54 2 (σ.1 17 5)) := kw_F_ui hF0 (by decide)
  refine kw_aload_n (pc := 8) (i := 4) (k := 0) (n := 0) rfl rfl rfl ?_
  refine kw_iconst (pc := 9) (i := 5) (v := 1) rfl rfl ?_
  refine kw_puti (pc := 10) (i := 6) (z := 0) rfl rfl rfl lpX0_25 rfl rfl ?_
  have I4 : kw_I bX (kw_ui (kw_ui σ 54 2 (σ.1 17 5)) 54 3 1) := kw_I_ui I2 (kw_rng (1 : Int32)).1 (Int.le_of_lt_add_one (kw_rng (1 : Int32)).2)
  have F5 : kw_F [54, 59, 60] σ (kw_ui (kw_ui σ 54 2 (σ.1 17 5)) 54 3 1) := kw_F_ui F3 (by decide)
  refine kw_aload_n (pc := 13) (i := 7) (k := 0) (n := 0) rfl rfl rfl ?_
  refine kw_get (pc := 14) (i := 8) (v := .ref 59) rfl rfl rfl lkX0_9 (fun _ => rfl) ?_
  refine kw_iconst (pc := 17) (i := 9) (v := 0) rfl rfl ?_
  refine kw_iconst (pc := 18) (i := 10) (v := 0) rfl rfl ?_
  refine kw_iast (pc := 19) (i := 11) (n := 64) rfl rfl (by omega) (by omega) ?_
  have I6 : kw_I bX (kw_ui (kw_ui (kw_ui σ 54 2 (σ.1 17 5)) 54 3 1) 59 ((0 : Int32).toNatClampNeg) 0) := kw_I_ui I4 (kw_rng (0 : Int32)).1 (Int.le_of_lt_add_one (kw_rng (0 : Int32)).2)
  have F7 : kw_F [54, 59, 60] σ (kw_ui (kw_ui (kw_ui σ 54 2 (σ.1 17 5)) 54 3 1) 59 ((0 : Int32).toNatClampNeg) 0) := kw_F_ui F5 (by decide)
  refine kw_aload_n (pc := 20) (i := 12) (k := 0) (n := 0) rfl rfl rfl ?_
  refine kw_get (pc := 21) (i := 13) (v := .ref 60) rfl rfl rfl lkX0_15 (fun _ => rfl) ?_
  refine kw_iconst (pc := 24) (i := 14) (v := 0) rfl rfl ?_
  refine kw_iconst (pc := 25) (i := 15) (v := 0) rfl rfl ?_
  refine kw_iast (pc := 26) (i := 16) (n := 64) rfl rfl (by omega) (by omega) ?_
  have I8 : kw_I bX (kw_ui (kw_ui (kw_ui (kw_ui σ 54 2 (σ.1 17 5)) 54 3 1) 59 ((0 : Int32).toNatClampNeg) 0) 60 ((0 : Int32).toNatClampNeg) 0) := kw_I_ui I6 (kw_rng (0 : Int32)).1 (Int.le_of_lt_add_one (kw_rng (0 : Int32)).2)
  have F9 : kw_F [54, 59, 60] σ (kw_ui (kw_ui (kw_ui (kw_ui σ 54 2 (σ.1 17 5)) 54 3 1) 59 ((0 : Int32).toNatClampNeg) 0) 60 ((0 : Int32).toNatClampNeg) 0) := kw_F_ui F7 (by decide)
  refine kw_iconst (pc := 27) (i := 17) (v := 0) rfl rfl ?_
  refine kw_istore_n (pc := 28) (i := 18) (n := 3) (lv' := [(3, .int 0), (0, .ref 54), (1, .ref 17), (2, .int w)]) rfl rfl (by decide) rfl ?_
  have L14 : ∀ (n20 : Nat) (x10 : Int32) (S11 : kw_S), kw_I bX S11 → kw_F [54, 59, 60] σ S11 → 0 ≤ x10.toInt → x10.toInt ≤ 6 → kw_pw x10.toInt (S11.1 54 3).toInt → (7 - x10.toInt).toNat < n20 → kw_AW l 3 kw_E0 KX mX0_draw (p_X0_draw_54_17 σ w) 29 [(3, .int x10), (0, .ref 54), (1, .ref 17), (2, .int w)] [] S11 := by
    intro n20
    induction n20 with
    | zero => intro x10 S11 I12 F13 v16 v17 v18 m19; exact absurd m19 (Nat.not_lt_zero _)
    | succ n20 ih15 =>
      intro x10 S11 I12 F13 v16 v17 v18 m19
      have r_x10 := kw_rng x10
      have w_0 := kw_pwB v18 (by omega) (by omega)
      refine kw_iload_n (pc := 29) (i := 19) (k := 0) (n := 3) rfl rfl rfl ?_
      refine kw_aload_n (pc := 30) (i := 20) (k := 1) (n := 0) rfl rfl rfl ?_
      refine kw_get (pc := 31) (i := 21) (v := .int (S11.1 54 2)) rfl rfl rfl lkX0_24 (fun _ => rfl) ?_
      have b21 : 0 ≤ (S11.1 54 2).toInt ∧ (S11.1 54 2).toInt ≤ 6 := I12 54 2
      refine kw_icmp_ge (pc := 34) (i := 22) (tgt := 146) rfl rfl (fun c22 => ?_) (fun c22 => ?_)
      · exact kw_return (pc := 146) (i := 83) rfl rfl ⟨⟨I12, F13⟩, rfl⟩
      · refine kw_aload_n (pc := 37) (i := 23) (k := 2) (n := 1) rfl rfl rfl ?_
        refine kw_iload_n (pc := 38) (i := 24) (k := 0) (n := 3) rfl rfl rfl ?_
        refine kw_iload_n (pc := 39) (i := 25) (k := 3) (n := 2) rfl rfl rfl ?_
        refine kw_callV (pc := 40) (i := 26) (Y := mX1_pullOf) (a := 17) (As := [.int x10, .int w]) (st := []) kw_hE rfl rfl lvX0_28 arX1_pullOf (c_X1_pullOf_17 l S11 I12 x10 w ) (by decide) (Nat.le_of_ble_eq_true rfl) rfl (fun v S24 p23 => ?_)
        obtain ⟨e26, z25, rfl⟩ := p23
        rw [e26]
        have r_z25 := kw_rng z25
        show kw_AW l 3 kw_E0 KX mX0_draw (p_X0_draw_54_17 σ w) 43 [(3, .int x10), (0, .ref 54), (1, .ref 17), (2, .int w)] [.int z25] S11
        refine kw_istore (pc := 43) (i := 27) (n := 4) (lv' := [(4, .int z25), (3, .int x10), (0, .ref 54), (1, .ref 17), (2, .int w)]) rfl (by decide) rfl ?_
        refine kw_iload (pc := 45) (i := 28) (k := 0) (n := 4) rfl rfl ?_
        refine kw_aload_n (pc := 47) (i := 29) (k := 3) (n := 1) rfl rfl rfl ?_
        refine kw_get (pc := 48) (i := 30) (v := .ref 45) rfl rfl rfl lkX0_32 (fun _ => rfl) ?_
        refine kw_iload_n (pc := 51) (i := 31) (k := 1) (n := 3) rfl rfl rfl ?_
        refine kw_iald (pc := 52) (i := 32) (n := 6) rfl rfl (by omega) (by omega) (fun z27 e_z27 => ?_)
        have t_z27 := congrArg Int32.toInt e_z27
        have r_z27 := kw_rng z27
        refine kw_imul (pc := 53) (i := 33) rfl (fun z28 e_z28 t_z28 => ?_)
        refine kw_istore (pc := 54) (i := 34) (n := 5) (lv' := [(5, .int z28), (4, .int z25), (3, .int x10), (0, .ref 54), (1, .ref 17), (2, .int w)]) rfl (by decide) rfl ?_
        refine kw_iconst (pc := 56) (i := 35) (v := 0) rfl rfl ?_
        refine kw_istore (pc := 57) (i := 36) (n := 6) (lv' := [(6, .int 0), (5, .int z28), (4, .int z25), (3, .int x10), (0, .ref 54), (1, .ref 17), (2, .int w)]) rfl (by decide) rfl ?_
        have L33 : ∀ (n38 : Nat) (x29 : Int32) (S30 : kw_S), kw_I bX S30 → kw_F [54, 59, 60] σ S30 → 0 ≤ x29.toInt → kw_pw x10.toInt (S30.1 54 3).toInt → (65 - x29.toInt).toNat < n38 → kw_AW l 3 kw_E0 KX mX0_draw (p_X0_draw_54_17 σ w) 59 [(6, .int x29), (5, .int z28), (4, .int z25), (3, .int x10), (0, .ref 54), (1, .ref 17), (2, .int w)] [] S30 := by
          intro n38
          induction n38 with
          | zero => intro x29 S30 I31 F32 v35 v36 m37; exact absurd m37 (Nat.not_lt_zero _)
          | succ n38 ih34 =>
            intro x29 S30 I31 F32 v35 v36 m37
            have r_x29 := kw_rng x29
            have w_1 := kw_pwB v36 (by omega) (by omega)
            refine kw_iload (pc := 59) (i := 37) (k := 0) (n := 6) rfl rfl ?_
            refine kw_aload_n (pc := 61) (i := 38) (k := 4) (n := 0) rfl rfl rfl ?_
            refine kw_get (pc := 62) (i := 39) (v := .int (S30.1 54 3)) rfl rfl rfl lkX0_25 (fun _ => rfl) ?_
            have b39 := kw_rng (S30.1 54 3)
            refine kw_icmp_ge (pc := 65) (i := 40) (tgt := 130) rfl rfl (fun c40 => ?_) (fun c40 => ?_)
            · refine kw_aload_n (pc := 130) (i := 75) (k := 4) (n := 0) rfl rfl rfl ?_
              refine kw_dup (pc := 131) (i := 76) rfl rfl ?_
              refine kw_get (pc := 132) (i := 77) (v := .int (S30.1 54 3)) rfl rfl rfl lkX0_25 (fun _ => rfl) ?_
              refine kw_iconst (pc := 135) (i := 78) (v := 1) rfl rfl ?_
              refine kw_ishl (pc := 136) (i := 79) rfl (fun z41 e_z41 => ?_)
              have r_z41 := kw_rng z41
              have t_z41 := kw_shl1 z41 (S30.1 54 3) e_z41
              refine kw_puti (pc := 137) (i := 80) (z := 0) rfl rfl rfl lpX0_25 rfl rfl ?_
              have I42 : kw_I bX (kw_ui S30 54 3 z41) := kw_I_ui I31 (kw_rng z41).1 (Int.le_of_lt_add_one (kw_rng z41).2)
              have F43 : kw_F [54, 59, 60] σ (kw_ui S30 54 3 z41) := kw_F_ui F32 (by decide)
              refine kw_iinc' (pc := 140) (i := 81) (k := 3) (fun z => [(3, .int z), (6, .int x29), (5, .int z28), (4, .int z25), (0, .ref 54), (1, .ref 17), (2, .int w)]) rfl rfl (by decide) rfl (fun _ => rfl) (fun z44 e_z44 t_z44 => ?_)
              refine kw_goto (pc := 143) (i := 82) (tgt := 29) rfl rfl ?_
              refine kw_sub (lv' := [(3, .int z44), (0, .ref 54), (1, .ref 17), (2, .int w)]) [0, 4, 5, 6] rfl ?_
              exact ih15 z44 (kw_ui S30 54 3 z41) I42 F43 (by omega) (by omega) (show kw_pw z44.toInt z41.toInt from by exact kw_pwS v36 (by omega) (by omega) (by omega)) (by omega)
            · refine kw_aload_n (pc := 68) (i := 41) (k := 4) (n := 0) rfl rfl rfl ?_
              refine kw_get (pc := 69) (i := 42) (v := .int (S30.1 54 3)) rfl rfl rfl lkX0_25 (fun _ => rfl) ?_
              refine kw_iload (pc := 72) (i := 43) (k := 0) (n := 6) rfl rfl ?_
              refine kw_iadd (pc := 74) (i := 44) rfl (fun z45 e_z45 t_z45 => ?_)
              refine kw_bipush (pc := 75) (i := 45) (v := 64) rfl rfl ?_
              refine kw_icmp_ge (pc := 77) (i := 46) (tgt := 130) rfl rfl (fun c46 => ?_) (fun c46 => ?_)
              · refine kw_aload_n (pc := 130) (i := 75) (k := 4) (n := 0) rfl rfl rfl ?_
                refine kw_dup (pc := 131) (i := 76) rfl rfl ?_
                refine kw_get (pc := 132) (i := 77) (v := .int (S30.1 54 3)) rfl rfl rfl lkX0_25 (fun _ => rfl) ?_
                refine kw_iconst (pc := 135) (i := 78) (v := 1) rfl rfl ?_
                refine kw_ishl (pc := 136) (i := 79) rfl (fun z47 e_z47 => ?_)
                have r_z47 := kw_rng z47
                have t_z47 := kw_shl1 z47 (S30.1 54 3) e_z47
                refine kw_puti (pc := 137) (i := 80) (z := 0) rfl rfl rfl lpX0_25 rfl rfl ?_
                have I48 : kw_I bX (kw_ui S30 54 3 z47) := kw_I_ui I31 (kw_rng z47).1 (Int.le_of_lt_add_one (kw_rng z47).2)
                have F49 : kw_F [54, 59, 60] σ (kw_ui S30 54 3 z47) := kw_F_ui F32 (by decide)
                refine kw_iinc' (pc := 140) (i := 81) (k := 3) (fun z => [(3, .int z), (6, .int x29), (5, .int z28), (4, .int z25), (0, .ref 54), (1, .ref 17), (2, .int w)]) rfl rfl (by decide) rfl (fun _ => rfl) (fun z50 e_z50 t_z50 => ?_)
                refine kw_goto (pc := 143) (i := 82) (tgt := 29) rfl rfl ?_
                refine kw_sub (lv' := [(3, .int z50), (0, .ref 54), (1, .ref 17), (2, .int w)]) [0, 4, 5, 6] rfl ?_
                exact ih15 z50 (kw_ui S30 54 3 z47) I48 F49 (by omega) (by omega) (show kw_pw z50.toInt z47.toInt from by exact kw_pwS v36 (by omega) (by omega) (by omega)) (by omega)
              · refine kw_aload_n (pc := 80) (i := 47) (k := 4) (n := 0) rfl rfl rfl ?_
                refine kw_get (pc := 81) (i := 48) (v := .ref 59) rfl rfl rfl lkX0_9 (fun _ => rfl) ?_
                refine kw_aload_n (pc := 84) (i := 49) (k := 4) (n := 0) rfl rfl rfl ?_
                refine kw_get (pc := 85) (i := 50) (v := .int (S30.1 54 3)) rfl rfl rfl lkX0_25 (fun _ => rfl) ?_
                refine kw_iload (pc := 88) (i := 51) (k := 0) (n := 6) rfl rfl ?_
                refine kw_iadd (pc := 90) (i := 52) rfl (fun z51 e_z51 t_z51 => ?_)
                refine kw_aload_n (pc := 91) (i := 53) (k := 4) (n := 0) rfl rfl rfl ?_
                refine kw_get (pc := 92) (i := 54) (v := .ref 59) rfl rfl rfl lkX0_9 (fun _ => rfl) ?_
                refine kw_iload (pc := 95) (i := 55) (k := 0) (n := 6) rfl rfl ?_
                refine kw_iald (pc := 97) (i := 56) (n := 64) rfl rfl (by omega) (by omega) (fun z52 e_z52 => ?_)
                have t_z52 := congrArg Int32.toInt e_z52
                have r_z52 := kw_rng z52
                refine kw_iload (pc := 98) (i := 57) (k := 2) (n := 4) rfl rfl ?_
                refine kw_iadd (pc := 100) (i := 58) rfl (fun z53 e_z53 t_z53 => ?_)
                refine kw_iast (pc := 101) (i := 59) (n := 64) rfl rfl (by omega) (by omega) ?_
                have I54 : kw_I bX (kw_ui S30 59 z51.toNatClampNeg z53) := kw_I_ui I31 (kw_rng z53).1 (Int.le_of_lt_add_one (kw_rng z53).2)
                have F55 : kw_F [54, 59, 60] σ (kw_ui S30 59 z51.toNatClampNeg z53) := kw_F_ui F32 (by decide)
                refine kw_aload_n (pc := 102) (i := 60) (k := 4) (n := 0) rfl rfl rfl ?_
                refine kw_get (pc := 103) (i := 61) (v := .ref 60) rfl rfl rfl lkX0_15 (fun _ => rfl) ?_
                refine kw_aload_n (pc := 106) (i := 62) (k := 4) (n := 0) rfl rfl rfl ?_
                refine kw_get (pc := 107) (i := 63) (v := .int (S30.1 54 3)) rfl rfl rfl lkX0_25 (fun _ => rfl) ?_
                refine kw_iload (pc := 110) (i := 64) (k := 0) (n := 6) rfl rfl ?_
                refine kw_iadd (pc := 112) (i := 65) rfl (fun z56 e_z56 t_z56 => ?_)
                refine kw_aload_n (pc := 113) (i := 66) (k := 4) (n := 0) rfl rfl rfl ?_
                refine kw_get (pc := 114) (i := 67) (v := .ref 60) rfl rfl rfl lkX0_15 (fun _ => rfl) ?_
                refine kw_iload (pc := 117) (i := 68) (k := 0) (n := 6) rfl rfl ?_
                refine kw_iald (pc := 119) (i := 69) (n := 64) rfl rfl (by omega) (by omega) (fun z57 e_z57 => ?_)
                have t_z57 := congrArg Int32.toInt e_z57
                have r_z57 := kw_rng z57
                refine kw_iload (pc := 120) (i := 70) (k := 1) (n := 5) rfl rfl ?_
                refine kw_iadd (pc := 122) (i := 71) rfl (fun z58 e_z58 t_z58 => ?_)
                refine kw_iast (pc := 123) (i := 72) (n := 64) rfl rfl (by omega) (by omega) ?_
                have I59 : kw_I bX (kw_ui (kw_ui S30 59 z51.toNatClampNeg z53) 60 z56.toNatClampNeg z58) := kw_I_ui I54 (kw_rng z58).1 (Int.le_of_lt_add_one (kw_rng z58).2)
                have F60 : kw_F [54, 59, 60] σ (kw_ui (kw_ui S30 59 z51.toNatClampNeg z53) 60 z56.toNatClampNeg z58) := kw_F_ui F55 (by decide)
                refine kw_iinc' (pc := 124) (i := 73) (k := 0) (fun z => [(6, .int z), (5, .int z28), (4, .int z25), (3, .int x10), (0, .ref 54), (1, .ref 17), (2, .int w)]) rfl rfl (by decide) rfl (fun _ => rfl) (fun z61 e_z61 t_z61 => ?_)
                refine kw_goto (pc := 127) (i := 74) (tgt := 59) rfl rfl ?_
                refine kw_sub (lv' := [(6, .int z61), (5, .int z28), (4, .int z25), (3, .int x10), (0, .ref 54), (1, .ref 17), (2, .int w)]) [0, 1, 2, 3, 4, 5, 6] rfl ?_
                exact ih34 z61 (kw_ui (kw_ui S30 59 z51.toNatClampNeg z53) 60 z56.toNatClampNeg z58) I59 F60 (by omega) (show kw_pw x10.toInt (S30.1 54 3).toInt from by exact v36) (by omega)
        exact L33 _ 0 S11 I12 F13 (by omega) (show kw_pw x10.toInt (S11.1 54 3).toInt from by exact v18) (Nat.lt_succ_self _)
  exact L14 _ 0 (kw_ui (kw_ui (kw_ui (kw_ui σ 54 2 (σ.1 17 5)) 54 3 1) 59 ((0 : Int32).toNatClampNeg) 0) 60 ((0 : Int32).toNatClampNeg) 0) I8 F9 (by omega) (by omega) (show kw_pw (0 : Int32).toInt (1 : Int32).toInt from by exact kw_pw0) (Nat.lt_succ_self _)
abbrev p_X0_milesOf_54 (σ : kw_S) (s : Int32) : Option Value → kw_S → Prop := fun v σ' => σ' = σ ∧ ∃ r : Int32, v = some (.int r)
set_option maxRecDepth 100000 in
set_option maxHeartbeats 4000000 in
theorem c_X0_milesOf_54 (l : Launch) (σ : kw_S) (hI : kw_I bX σ) (s : Int32) : kw_Met l 1 KX mX0_milesOf [.ref 54, .int s] σ (p_X0_milesOf_54 σ s) := by
  have r_s := kw_rng s
  have q_0 : (0 : Int32).toInt = 0 := rfl
  have q_4 : (4 : Int32).toInt = 4 := rfl
  have q_64 : (64 : Int32).toInt = 64 := rfl
  refine kw_Met.of (by decide) rfl tX0_milesOf (Nat.le_of_ble_eq_true rfl) ?_
  show kw_AW l 1 kw_E0 KX mX0_milesOf (p_X0_milesOf_54 σ s) 0 [(0, .ref 54), (1, .int s)] [] σ
  refine kw_iload_n (pc := 0) (i := 0) (k := 1) (n := 1) rfl rfl rfl ?_
  refine kw_if_lt (pc := 1) (i := 1) (tgt := 21) rfl rfl (fun c1 => ?_) (fun c1 => ?_)
  · refine kw_iconst (pc := 21) (i := 12) (v := 0) rfl rfl ?_
    exact kw_ireturn (pc := 22) (i := 13) (ty := .int) rfl rfl rfl ⟨rfl, _, rfl⟩
  · refine kw_iload_n (pc := 4) (i := 2) (k := 1) (n := 1) rfl rfl rfl ?_
    refine kw_bipush (pc := 5) (i := 3) (v := 64) rfl rfl ?_
    refine kw_icmp_ge (pc := 7) (i := 4) (tgt := 21) rfl rfl (fun c2 => ?_) (fun c2 => ?_)
    · refine kw_iconst (pc := 21) (i := 12) (v := 0) rfl rfl ?_
      exact kw_ireturn (pc := 22) (i := 13) (ty := .int) rfl rfl rfl ⟨rfl, _, rfl⟩
    · refine kw_aload_n (pc := 10) (i := 5) (k := 0) (n := 0) rfl rfl rfl ?_
      refine kw_get (pc := 11) (i := 6) (v := .ref 59) rfl rfl rfl lkX0_9 (fun _ => rfl) ?_
      refine kw_iload_n (pc := 14) (i := 7) (k := 1) (n := 1) rfl rfl rfl ?_
      refine kw_iald (pc := 15) (i := 8) (n := 64) rfl rfl (by omega) (by omega) (fun z3 e_z3 => ?_)
      have t_z3 := congrArg Int32.toInt e_z3
      have r_z3 := kw_rng z3
      refine kw_iconst (pc := 16) (i := 9) (v := 4) rfl rfl ?_
      refine kw_idiv (pc := 17) (i := 10) rfl (by omega) (fun z4 e_z4 => ?_)
      have r_z4 := kw_rng z4
      refine kw_goto (pc := 18) (i := 11) (tgt := 22) rfl rfl ?_
      exact kw_ireturn (pc := 22) (i := 13) (ty := .int) rfl rfl rfl ⟨rfl, _, rfl⟩
abbrev p_X0_turnBy_54 (σ : kw_S) (s : Int32) : Option Value → kw_S → Prop := fun v σ' => σ' = σ ∧ ∃ r : Int32, v = some (.int r)
set_option maxRecDepth 100000 in
set_option maxHeartbeats 4000000 in
theorem c_X0_turnBy_54 (l : Launch) (σ : kw_S) (hI : kw_I bX σ) (s : Int32) : kw_Met l 1 KX mX0_turnBy [.ref 54, .int s] σ (p_X0_turnBy_54 σ s) := by
  have r_s := kw_rng s
  have q_0 : (0 : Int32).toInt = 0 := rfl
  have q_64 : (64 : Int32).toInt = 64 := rfl
  refine kw_Met.of (by decide) rfl tX0_turnBy (Nat.le_of_ble_eq_true rfl) ?_
  show kw_AW l 1 kw_E0 KX mX0_turnBy (p_X0_turnBy_54 σ s) 0 [(0, .ref 54), (1, .int s)] [] σ
  refine kw_iload_n (pc := 0) (i := 0) (k := 1) (n := 1) rfl rfl rfl ?_
  refine kw_if_lt (pc := 1) (i := 1) (tgt := 19) rfl rfl (fun c1 => ?_) (fun c1 => ?_)
  · refine kw_iconst (pc := 19) (i := 10) (v := 0) rfl rfl ?_
    exact kw_ireturn (pc := 20) (i := 11) (ty := .int) rfl rfl rfl ⟨rfl, _, rfl⟩
  · refine kw_iload_n (pc := 4) (i := 2) (k := 1) (n := 1) rfl rfl rfl ?_
    refine kw_bipush (pc := 5) (i := 3) (v := 64) rfl rfl ?_
    refine kw_icmp_ge (pc := 7) (i := 4) (tgt := 19) rfl rfl (fun c2 => ?_) (fun c2 => ?_)
    · refine kw_iconst (pc := 19) (i := 10) (v := 0) rfl rfl ?_
      exact kw_ireturn (pc := 20) (i := 11) (ty := .int) rfl rfl rfl ⟨rfl, _, rfl⟩
    · refine kw_aload_n (pc := 10) (i := 5) (k := 0) (n := 0) rfl rfl rfl ?_
      refine kw_get (pc := 11) (i := 6) (v := .ref 60) rfl rfl rfl lkX0_15 (fun _ => rfl) ?_
      refine kw_iload_n (pc := 14) (i := 7) (k := 1) (n := 1) rfl rfl rfl ?_
      refine kw_iald (pc := 15) (i := 8) (n := 64) rfl rfl (by omega) (by omega) (fun z3 e_z3 => ?_)
      have t_z3 := congrArg Int32.toInt e_z3
      have r_z3 := kw_rng z3
      refine kw_goto (pc := 16) (i := 9) (tgt := 20) rfl rfl ?_
      exact kw_ireturn (pc := 20) (i := 11) (ty := .int) rfl rfl rfl ⟨rfl, _, rfl⟩
abbrev p_X0_fits_6 (σ : kw_S) (s : Int32) (m : Int32) (t : Int32) : Option Value → kw_S → Prop := fun v σ' => σ' = σ ∧ ∃ r : Int32, v = some (.int r) ∧ (r.toInt = 0 ∨ r.toInt = 1)
set_option maxRecDepth 100000 in
set_option maxHeartbeats 4000000 in
theorem c_X0_fits_6 (l : Launch) (σ : kw_S) (hI : kw_I bX σ) (s : Int32) (m : Int32) (t : Int32) : kw_Met l 2 KX mX0_fits [.ref 6, .int s, .int m, .int t] σ (p_X0_fits_6 σ s m t) := by
  have r_s := kw_rng s
  have r_m := kw_rng m
  have r_t := kw_rng t
  have q_0 : (0 : Int32).toInt = 0 := rfl
  have q_1 : (1 : Int32).toInt = 1 := rfl
  refine kw_Met.of (by decide) rfl tX0_fits (Nat.le_of_ble_eq_true rfl) ?_
  show kw_AW l 2 kw_E0 KX mX0_fits (p_X0_fits_6 σ s m t) 0 [(0, .ref 6), (1, .int s), (2, .int m), (3, .int t)] [] σ
  refine kw_aload_n (pc := 0) (i := 0) (k := 0) (n := 0) rfl rfl rfl ?_
  refine kw_iload_n (pc := 1) (i := 1) (k := 1) (n := 1) rfl rfl rfl ?_
  refine kw_callV (pc := 2) (i := 2) (Y := mX0_milesOf) (a := 6) (As := [.int s]) (st := []) kw_hE rfl rfl lvX0_35 arX0_milesOf (c_X0_milesOf_6 l σ hI s ) (by decide) (Nat.le_of_ble_eq_true rfl) rfl (fun v S2 p1 => ?_)
  obtain ⟨e4, z3, rfl⟩ := p1
  rw [e4]
  have r_z3 := kw_rng z3
  show kw_AW l 2 kw_E0 KX mX0_fits (p_X0_fits_6 σ s m t) 5 [(0, .ref 6), (1, .int s), (2, .int m), (3, .int t)] [.int z3] σ
  refine kw_iload_n (pc := 5) (i := 3) (k := 2) (n := 2) rfl rfl rfl ?_
  refine kw_icmp_ne (pc := 6) (i := 4) (tgt := 22) rfl rfl (fun c5 => ?_) (fun c5 => ?_)
  · refine kw_iconst (pc := 22) (i := 12) (v := 0) rfl rfl ?_
    exact kw_ireturn (pc := 23) (i := 13) (ty := .boolean) rfl rfl rfl ⟨rfl, _, rfl, by omega⟩
  · refine kw_aload_n (pc := 9) (i := 5) (k := 0) (n := 0) rfl rfl rfl ?_
    refine kw_iload_n (pc := 10) (i := 6) (k := 1) (n := 1) rfl rfl rfl ?_
    refine kw_callV (pc := 11) (i := 7) (Y := mX0_turnBy) (a := 6) (As := [.int s]) (st := []) kw_hE rfl rfl lvX0_39 arX0_turnBy (c_X0_turnBy_6 l σ hI s ) (by decide) (Nat.le_of_ble_eq_true rfl) rfl (fun v S7 p6 => ?_)
    obtain ⟨e9, z8, rfl⟩ := p6
    rw [e9]
    have r_z8 := kw_rng z8
    show kw_AW l 2 kw_E0 KX mX0_fits (p_X0_fits_6 σ s m t) 14 [(0, .ref 6), (1, .int s), (2, .int m), (3, .int t)] [.int z8] σ
    refine kw_iload_n (pc := 14) (i := 8) (k := 3) (n := 3) rfl rfl rfl ?_
    refine kw_icmp_ne (pc := 15) (i := 9) (tgt := 22) rfl rfl (fun c10 => ?_) (fun c10 => ?_)
    · refine kw_iconst (pc := 22) (i := 12) (v := 0) rfl rfl ?_
      exact kw_ireturn (pc := 23) (i := 13) (ty := .boolean) rfl rfl rfl ⟨rfl, _, rfl, by omega⟩
    · refine kw_iconst (pc := 18) (i := 10) (v := 1) rfl rfl ?_
      refine kw_goto (pc := 19) (i := 11) (tgt := 23) rfl rfl ?_
      exact kw_ireturn (pc := 23) (i := 13) (ty := .boolean) rfl rfl rfl ⟨rfl, _, rfl, by omega⟩
