noncomputable def l_X0_draw_6_17_59 (k29 : Int32 → kw_S → kw_S) (a2 : Int32) (a3 : Int32) (a4 : Int32) (a5 : Int32) : Nat → Int32 → kw_S → kw_S
  | 0, _, S => S
  | n + 1, x6, S => if x6.toInt < (S.1 6 3).toInt then (kf_l ((S.1 6 3) + x6) fun z6 => if z6.toInt < (64 : Int32).toInt then (kf_l ((S.1 6 3) + x6) fun z9 => kf_l (S.1 22 x6.toNatClampNeg) fun z10 => kf_l (z10 + a4) fun z11 => kf_l ((S.1 6 3) + x6) fun z12 => kf_l ((kw_ui S 22 z9.toNatClampNeg z11).1 23 x6.toNatClampNeg) fun z13 => kf_l (z13 + a5) fun z14 => kf_l (x6 + Int32.ofInt 1) fun z15 => l_X0_draw_6_17_59 k29 a2 a3 a4 a5 n z15 (kw_ui (kw_ui S 22 z9.toNatClampNeg z11) 23 z12.toNatClampNeg z14)) else (kf_l ((S.1 6 3) <<< ((1 : Int32) &&& 31)) fun z7 => kf_l (a3 + Int32.ofInt 1) fun z8 => k29 z8 (kw_ui S 6 3 z7))) else (kf_l ((S.1 6 3) <<< ((1 : Int32) &&& 31)) fun z4 => kf_l (a3 + Int32.ofInt 1) fun z5 => k29 z5 (kw_ui S 6 3 z4))
theorem l_X0_draw_6_17_59_s (k29 : Int32 → kw_S → kw_S) (a2 : Int32) (a3 : Int32) (a4 : Int32) (a5 : Int32) (n : Nat) (x6 : Int32) (S : kw_S) : l_X0_draw_6_17_59 k29 a2 a3 a4 a5 (n + 1) x6 S = if x6.toInt < (S.1 6 3).toInt then (kf_l ((S.1 6 3) + x6) fun z6 => if z6.toInt < (64 : Int32).toInt then (kf_l ((S.1 6 3) + x6) fun z9 => kf_l (S.1 22 x6.toNatClampNeg) fun z10 => kf_l (z10 + a4) fun z11 => kf_l ((S.1 6 3) + x6) fun z12 => kf_l ((kw_ui S 22 z9.toNatClampNeg z11).1 23 x6.toNatClampNeg) fun z13 => kf_l (z13 + a5) fun z14 => kf_l (x6 + Int32.ofInt 1) fun z15 => l_X0_draw_6_17_59 k29 a2 a3 a4 a5 n z15 (kw_ui (kw_ui S 22 z9.toNatClampNeg z11) 23 z12.toNatClampNeg z14)) else (kf_l ((S.1 6 3) <<< ((1 : Int32) &&& 31)) fun z7 => kf_l (a3 + Int32.ofInt 1) fun z8 => k29 z8 (kw_ui S 6 3 z7))) else (kf_l ((S.1 6 3) <<< ((1 : Int32) &&& 31)) fun z4 => kf_l (a3 + Int32.ofInt 1) fun z5 => k29 z5 (kw_ui S 6 3 z4)) := rfl
noncomputable def l_X0_draw_6_17_29 (a2 : Int32) : Nat → Int32 → kw_S → kw_S
  | 0, _, S => S
  | n + 1, x3, S => if x3.toInt < (S.1 6 2).toInt then (kf_l (f_X1_pullOf_17 S x3 a2) fun z1 => kf_l (S.1 45 x3.toNatClampNeg) fun z2 => kf_l (z1 * z2) fun z3 => l_X0_draw_6_17_59 (l_X0_draw_6_17_29 a2 n) a2 x3 z1 z3 ((65 - (0 : Int32).toInt).toNat + 1) (0 : Int32) S) else (S)
theorem l_X0_draw_6_17_29_s (a2 : Int32) (n : Nat) (x3 : Int32) (S : kw_S) : l_X0_draw_6_17_29 a2 (n + 1) x3 S = if x3.toInt < (S.1 6 2).toInt then (kf_l (f_X1_pullOf_17 S x3 a2) fun z1 => kf_l (S.1 45 x3.toNatClampNeg) fun z2 => kf_l (z1 * z2) fun z3 => l_X0_draw_6_17_59 (l_X0_draw_6_17_29 a2 n) a2 x3 z1 z3 ((65 - (0 : Int32).toInt).toNat + 1) (0 : Int32) S) else (S) := rfl
noncomputable def f_X0_draw_6_17 (σ : kw_S) (w : Int32) : kw_S := l_X0_draw_6_17_29 w ((7 - (0 : Int32).toInt).toNat + 1) (0 : Int32) (kw_ui (kw_ui (kw_ui (kw_ui σ 6 2 (σ.1 17 5)) 6 3 1) 22 ((0 : Int32).toNatClampNeg) 0) 23 ((0 : Int32).toNatClampNeg) 0)
theorem f_X0_draw_6_17_u (σ : kw_S) (w : Int32) : f_X0_draw_6_17 σ w = l_X0_draw_6_17_29 w ((7 - (0 : Int32).toInt).toNat + 1) (0 : Int32) (kw_ui (kw_ui (kw_ui (kw_ui σ 6 2 (σ.1 17 5)) 6 3 1) 22 ((0 : Int32).toNatClampNeg) 0) 23 ((0 : Int32).toNatClampNeg) 0) := rfl
abbrev p_X0_draw_6_17 (σ : kw_S) (w : Int32) : Option Value → kw_S → Prop := fun vv σ' => (kw_I bX σ' ∧ kw_F [6, 22, 23] σ σ') ∧ vv = none ∧ σ' = f_X0_draw_6_17 σ w
set_option maxRecDepth 100000 in
set_option maxHeartbeats 4000000 in
theorem c_X0_draw_6_17 (l : Launch) (σ : kw_S) (hI : kw_I bX σ) (w : Int32) : kw_Met l 3 KX mX0_draw [.ref 6, .ref 17, .int w] σ (p_X0_draw_6_17 σ w) := by
  have r_w := kw_rng w
  have hF0 : kw_F [6, 22, 23] σ σ := kw_F.rf
  have hF := (f_X0_draw_6_17_u σ w).symm
  have q_0 : (0 : Int32).toInt = 0 := rfl
  have q_1 : (1 : Int32).toInt = 1 := rfl
  have q_64 : (64 : Int32).toInt = 64 := rfl
  refine kw_Met.of (by decide) rfl tX0_draw (Nat.le_of_ble_eq_true rfl) ?_
  show kw_AW l 3 kw_E0 KX mX0_draw (p_X0_draw_6_17 σ w) 0 [(0, .ref 6), (1, .ref 17), (2, .int w)] [] σ
  refine kw_aload_n (pc := 0) (i := 0) (k := 0) (n := 0) rfl rfl rfl ?_
  refine kw_aload_n (pc := 1) (i := 1) (k := 1) (n := 1) rfl rfl rfl ?_
  refine kw_get (pc := 2) (i := 2) (v := .int (σ.1 17 5)) rfl rfl rfl lkX0_18 (fun _ => rfl) ?_
  have b1 : 0 ≤ (σ.1 17 5).toInt ∧ (σ.1 17 5).toInt ≤ 6 := hI 17 5
  refine kw_puti (pc := 5) (i := 3) (z := 0) rfl rfl rfl lpX0_24 rfl rfl ?_
  have I2 : kw_I bX (kw_ui σ 6 2 (σ.1 17 5)) := kw_I_ui hI (show 0 ≤ (σ.1 17 5).toInt by omega) (show (σ.1 17 5).toInt ≤ 6 by omega)
  have F3 : kw_F [6, 22, 23] σ (kw_ui σ 6 2 (σ.1 17 5)) := kw_F_ui hF0 (by decide)
  refine kw_aload_n (pc := 8) (i := 4) (k := 0) (n := 0) rfl rfl rfl ?_
  refine kw_iconst (pc := 9) (i := 5) (v := 1) rfl rfl ?_
  refine kw_puti (pc := 10) (i := 6) (z := 0) rfl rfl rfl lpX0_25 rfl rfl ?_
  have I4 : kw_I bX (kw_ui (kw_ui σ 6 2 (σ.1 17 5)) 6 3 1) := kw_I_ui I2 (kw_rng (1 : Int32)).1 (Int.le_of_lt_add_one (kw_rng (1 : Int32)).2)
  have F5 : kw_F [6, 22, 23] σ (kw_ui (kw_ui σ 6 2 (σ.1 17 5)) 6 3 1) := kw_F_ui F3 (by decide)
  refine kw_aload_n (pc := 13) (i := 7) (k := 0) (n := 0) rfl rfl rfl ?_
  refine kw_get (pc := 14) (i := 8) (v := .ref 22) rfl rfl rfl lkX0_9 (fun _ => rfl) ?_
  refine kw_iconst (pc := 17) (i := 9) (v := 0) rfl rfl ?_
  refine kw_iconst (pc := 18) (i := 10) (v := 0) rfl rfl ?_
  refine kw_iast (pc := 19) (i := 11) (n := 64) rfl rfl (by omega) (by omega) ?_
  have I6 : kw_I bX (kw_ui (kw_ui (kw_ui σ 6 2 (σ.1 17 5)) 6 3 1) 22 ((0 : Int32).toNatClampNeg) 0) := kw_I_ui I4 (kw_rng (0 : Int32)).1 (Int.le_of_lt_add_one (kw_rng (0 : Int32)).2)
  have F7 : kw_F [6, 22, 23] σ (kw_ui (kw_ui (kw_ui σ 6 2 (σ.1 17 5)) 6 3 1) 22 ((0 : Int32).toNatClampNeg) 0) := kw_F_ui F5 (by decide)
  refine kw_aload_n (pc := 20) (i := 12) (k := 0) (n := 0) rfl rfl rfl ?_
  refine kw_get (pc := 21) (i := 13) (v := .ref 23) rfl rfl rfl lkX0_15 (fun _ => rfl) ?_
  refine kw_iconst (pc := 24) (i := 14) (v := 0) rfl rfl ?_
  refine kw_iconst (pc := 25) (i := 15) (v := 0) rfl rfl ?_
  refine kw_iast (pc := 26) (i := 16) (n := 64) rfl rfl (by omega) (by omega) ?_
  have I8 : kw_I bX (kw_ui (kw_ui (kw_ui (kw_ui σ 6 2 (σ.1 17 5)) 6 3 1) 22 ((0 : Int32).toNatClampNeg) 0) 23 ((0 : Int32).toNatClampNeg) 0) := kw_I_ui I6 (kw_rng (0 : Int32)).1 (Int.le_of_lt_add_one (kw_rng (0 : Int32)).2)
  have F9 : kw_F [6, 22, 23] σ (kw_ui (kw_ui (kw_ui (kw_ui σ 6 2 (σ.1 17 5)) 6 3 1) 22 ((0 : Int32).toNatClampNeg) 0) 23 ((0 : Int32).toNatClampNeg) 0) := kw_F_ui F7 (by decide)
  refine kw_iconst (pc := 27) (i := 17) (v := 0) rfl rfl ?_
  refine kw_istore_n (pc := 28) (i := 18) (n := 3) (lv' := [(3, .int 0), (0, .ref 6), (1, .ref 17), (2, .int w)]) rfl rfl (by decide) rfl ?_
  have L14 : ∀ (n20 : Nat) (x10 : Int32) (S11 : kw_S), kw_I bX S11 → kw_F [6, 22, 23] σ S11 → 0 ≤ x10.toInt → x10.toInt ≤ 6 → kw_pw x10.toInt (S11.1 6 3).toInt → l_X0_draw_6_17_29 w n20 x10 S11 = (f_X0_draw_6_17 σ w) → (7 - x10.toInt).toNat < n20 → kw_AW l 3 kw_E0 KX mX0_draw (p_X0_draw_6_17 σ w) 29 [(3, .int x10), (0, .ref 6), (1, .ref 17), (2, .int w)] [] S11 := by
    intro n20
    induction n20 with
    | zero => intro x10 S11 I12 F13 v16 v17 v18 hF m19; exact absurd m19 (Nat.not_lt_zero _)
    | succ n20 ih15 =>
      intro x10 S11 I12 F13 v16 v17 v18 hF m19
      replace hF := kf_st (l_X0_draw_6_17_29_s _ _ _ _) hF
      have r_x10 := kw_rng x10
      have w_0 := kw_pwB v18 (by omega) (by omega)
      refine kw_iload_n (pc := 29) (i := 19) (k := 0) (n := 3) rfl rfl rfl ?_
      refine kw_aload_n (pc := 30) (i := 20) (k := 1) (n := 0) rfl rfl rfl ?_
      refine kw_get (pc := 31) (i := 21) (v := .int (S11.1 6 2)) rfl rfl rfl lkX0_24 (fun _ => rfl) ?_
      have b21 : 0 ≤ (S11.1 6 2).toInt ∧ (S11.1 6 2).toInt ≤ 6 := I12 6 2
      refine kw_icmp_ge (pc := 34) (i := 22) (tgt := 146) rfl rfl (fun c22 => ?_) (fun c22 => ?_)
      · replace hF := kf_nl c22 hF
        exact kw_return (pc := 146) (i := 83) rfl rfl ⟨⟨I12, F13⟩, rfl, hF⟩
      · replace hF := kf_p c22 hF
        refine kw_aload_n (pc := 37) (i := 23) (k := 2) (n := 1) rfl rfl rfl ?_
        refine kw_iload_n (pc := 38) (i := 24) (k := 0) (n := 3) rfl rfl rfl ?_
        refine kw_iload_n (pc := 39) (i := 25) (k := 3) (n := 2) rfl rfl rfl ?_
        refine kw_callV (pc := 40) (i := 26) (Y := mX1_pullOf) (a := 17) (As := [.int x10, .int w]) (st := []) kw_hE rfl rfl lvX0_28 arX1_pullOf (c_X1_pullOf_17 l S11 I12 x10 w ) (by decide) (Nat.le_of_ble_eq_true rfl) rfl (fun v S24 p23 => ?_)
        obtain ⟨e27, z26, rfl, ef25⟩ := p23
        rw [e27]
        replace hF := kf_le ef25 hF
        have r_z26 := kw_rng z26
        show kw_AW l 3 kw_E0 KX mX0_draw (p_X0_draw_6_17 σ w) 43 [(3, .int x10), (0, .ref 6), (1, .ref 17), (2, .int w)] [.int z26] S11
        refine kw_istore (pc := 43) (i := 27) (n := 4) (lv' := [(4, .int z26), (3, .int x10), (0, .ref 6), (1, .ref 17), (2, .int w)]) rfl (by decide) rfl ?_
        refine kw_iload (pc := 45) (i := 28) (k := 0) (n := 4) rfl rfl ?_
        refine kw_aload_n (pc := 47) (i := 29) (k := 3) (n := 1) rfl rfl rfl ?_
        refine kw_get (pc := 48) (i := 30) (v := .ref 45) rfl rfl rfl lkX0_32 (fun _ => rfl) ?_
        refine kw_iload_n (pc := 51) (i := 31) (k := 1) (n := 3) rfl rfl rfl ?_
        refine kw_iald (pc := 52) (i := 32) (n := 6) rfl rfl (by omega) (by omega) (fun z28 e_z28 => ?_)
        replace hF := kf_le e_z28 hF
        have t_z28 := congrArg Int32.toInt e_z28
        have r_z28 := kw_rng z28
        refine kw_imul (pc := 53) (i := 33) rfl (fun z29 e_z29 t_z29 => ?_)
        replace hF := kf_le e_z29 hF
        refine kw_istore (pc := 54) (i := 34) (n := 5) (lv' := [(5, .int z29), (4, .int z26), (3, .int x10), (0, .ref 6), (1, .ref 17), (2, .int w)]) rfl (by decide) rfl ?_
        refine kw_iconst (pc := 56) (i := 35) (v := 0) rfl rfl ?_
        refine kw_istore (pc := 57) (i := 36) (n := 6) (lv' := [(6, .int 0), (5, .int z29), (4, .int z26), (3, .int x10), (0, .ref 6), (1, .ref 17), (2, .int w)]) rfl (by decide) rfl ?_
        have L34 : ∀ (n39 : Nat) (x30 : Int32) (S31 : kw_S), kw_I bX S31 → kw_F [6, 22, 23] σ S31 → 0 ≤ x30.toInt → kw_pw x10.toInt (S31.1 6 3).toInt → l_X0_draw_6_17_59 (l_X0_draw_6_17_29 w n20) w x10 z26 z29 n39 x30 S31 = (f_X0_draw_6_17 σ w) → (65 - x30.toInt).toNat < n39 → kw_AW l 3 kw_E0 KX mX0_draw (p_X0_draw_6_17 σ w) 59 [(6, .int x30), (5, .int z29), (4, .int z26), (3, .int x10), (0, .ref 6), (1, .ref 17), (2, .int w)] [] S31 := by
          intro n39
          induction n39 with
          | zero => intro x30 S31 I32 F33 v36 v37 hF m38; exact absurd m38 (Nat.not_lt_zero _)
          | succ n39 ih35 =>
            intro x30 S31 I32 F33 v36 v37 hF m38
            replace hF := kf_st (l_X0_draw_6_17_59_s _ _ _ _ _ _ _ _) hF
            have r_x30 := kw_rng x30
            have w_1 := kw_pwB v37 (by omega) (by omega)
            refine kw_iload (pc := 59) (i := 37) (k := 0) (n := 6) rfl rfl ?_
            refine kw_aload_n (pc := 61) (i := 38) (k := 4) (n := 0) rfl rfl rfl ?_
            refine kw_get (pc := 62) (i := 39) (v := .int (S31.1 6 3)) rfl rfl rfl lkX0_25 (fun _ => rfl) ?_
            have b40 := kw_rng (S31.1 6 3)
            refine kw_icmp_ge (pc := 65) (i := 40) (tgt := 130) rfl rfl (fun c41 => ?_) (fun c41 => ?_)
            · replace hF := kf_nl c41 hF
              refine kw_aload_n (pc := 130) (i := 75) (k := 4) (n := 0) rfl rfl rfl ?_
              refine kw_dup (pc := 131) (i := 76) rfl rfl ?_
              refine kw_get (pc := 132) (i := 77) (v := .int (S31.1 6 3)) rfl rfl rfl lkX0_25 (fun _ => rfl) ?_
              refine kw_iconst (pc := 135) (i := 78) (v := 1) rfl rfl ?_
              refine kw_ishl (pc := 136) (i := 79) rfl (fun z42 e_z42 => ?_)
              have r_z42 := kw_rng z42
              replace hF := kf_le e_z42 hF
              have t_z42 := kw_shl1 z42 (S31.1 6 3) e_z42
              refine kw_puti (pc := 137) (i := 80) (z := 0) rfl rfl rfl lpX0_25 rfl rfl ?_
              have I43 : kw_I bX (kw_ui S31 6 3 z42) := kw_I_ui I32 (kw_rng z42).1 (Int.le_of_lt_add_one (kw_rng z42).2)
              have F44 : kw_F [6, 22, 23] σ (kw_ui S31 6 3 z42) := kw_F_ui F33 (by decide)
              refine kw_iinc' (pc := 140) (i := 81) (k := 3) (fun z => [(3, .int z), (6, .int x30), (5, .int z29), (4, .int z26), (0, .ref 6), (1, .ref 17), (2, .int w)]) rfl rfl (by decide) rfl (fun _ => rfl) (fun z45 e_z45 t_z45 => ?_)
              replace hF := kf_le e_z45 hF
              refine kw_goto (pc := 143) (i := 82) (tgt := 29) rfl rfl ?_
              refine kw_sub (lv' := [(3, .int z45), (0, .ref 6), (1, .ref 17), (2, .int w)]) [0, 4, 5, 6] rfl ?_
              exact ih15 z45 (kw_ui S31 6 3 z42) I43 F44 (by omega) (by omega) (show kw_pw z45.toInt z42.toInt from by exact kw_pwS v37 (by omega) (by omega) (by omega)) hF (by omega)
            · replace hF := kf_p c41 hF
              refine kw_aload_n (pc := 68) (i := 41) (k := 4) (n := 0) rfl rfl rfl ?_
              refine kw_get (pc := 69) (i := 42) (v := .int (S31.1 6 3)) rfl rfl rfl lkX0_25 (fun _ => rfl) ?_
              refine kw_iload (pc := 72) (i := 43) (k := 0) (n := 6) rfl rfl ?_
              refine kw_iadd (pc := 74) (i := 44) rfl (fun z46 e_z46 t_z46 => ?_)
              replace hF := kf_le e_z46 hF
              refine kw_bipush (pc := 75) (i := 45) (v := 64) rfl rfl ?_
              refine kw_icmp_ge (pc := 77) (i := 46) (tgt := 130) rfl rfl (fun c47 => ?_) (fun c47 => ?_)
              · replace hF := kf_nl c47 hF
                refine kw_aload_n (pc := 130) (i := 75) (k := 4) (n := 0) rfl rfl rfl ?_
                refine kw_dup (pc := 131) (i := 76) rfl rfl ?_
                refine kw_get (pc := 132) (i := 77) (v := .int (S31.1 6 3)) rfl rfl rfl lkX0_25 (fun _ => rfl) ?_
                refine kw_iconst (pc := 135) (i := 78) (v := 1) rfl rfl ?_
                refine kw_ishl (pc := 136) (i := 79) rfl (fun z48 e_z48 => ?_)
                have r_z48 := kw_rng z48
                replace hF := kf_le e_z48 hF
                have t_z48 := kw_shl1 z48 (S31.1 6 3) e_z48
                refine kw_puti (pc := 137) (i := 80) (z := 0) rfl rfl rfl lpX0_25 rfl rfl ?_
                have I49 : kw_I bX (kw_ui S31 6 3 z48) := kw_I_ui I32 (kw_rng z48).1 (Int.le_of_lt_add_one (kw_rng z48).2)
                have F50 : kw_F [6, 22, 23] σ (kw_ui S31 6 3 z48) := kw_F_ui F33 (by decide)
                refine kw_iinc' (pc := 140) (i := 81) (k := 3) (fun z => [(3, .int z), (6, .int x30), (5, .int z29), (4, .int z26), (0, .ref 6), (1, .ref 17), (2, .int w)]) rfl rfl (by decide) rfl (fun _ => rfl) (fun z51 e_z51 t_z51 => ?_)
                replace hF := kf_le e_z51 hF
                refine kw_goto (pc := 143) (i := 82) (tgt := 29) rfl rfl ?_
                refine kw_sub (lv' := [(3, .int z51), (0, .ref 6), (1, .ref 17), (2, .int w)]) [0, 4, 5, 6] rfl ?_
                exact ih15 z51 (kw_ui S31 6 3 z48) I49 F50 (by omega) (by omega) (show kw_pw z51.toInt z48.toInt from by exact kw_pwS v37 (by omega) (by omega) (by omega)) hF (by omega)
              · replace hF := kf_p c47 hF
                refine kw_aload_n (pc := 80) (i := 47) (k := 4) (n := 0) rfl rfl rfl ?_
                refine kw_get (pc := 81) (i := 48) (v := .ref 22) rfl rfl rfl lkX0_9 (fun _ => rfl) ?_
                refine kw_aload_n (pc := 84) (i := 49) (k := 4) (n := 0) rfl rfl rfl ?_
                refine kw_get (pc := 85) (i := 50) (v := .int (S31.1 6 3)) rfl rfl rfl lkX0_25 (fun _ => rfl) ?_
                refine kw_iload (pc := 88) (i := 51) (k := 0) (n := 6) rfl rfl ?_
                refine kw_iadd (pc := 90) (i := 52) rfl (fun z52 e_z52 t_z52 => ?_)
                replace hF := kf_le e_z52 hF
                refine kw_aload_n (pc := 91) (i := 53) (k := 4) (n := 0) rfl rfl rfl ?_
                refine kw_get (pc := 92) (i := 54) (v := .ref 22) rfl rfl rfl lkX0_9 (fun _ => rfl) ?_
                refine kw_iload (pc := 95) (i := 55) (k := 0) (n := 6) rfl rfl ?_
                refine kw_iald (pc := 97) (i := 56) (n := 64) rfl rfl (by omega) (by omega) (fun z53 e_z53 => ?_)
                replace hF := kf_le e_z53 hF
                have t_z53 := congrArg Int32.toInt e_z53
                have r_z53 := kw_rng z53
                refine kw_iload (pc := 98) (i := 57) (k := 2) (n := 4) rfl rfl ?_
                refine kw_iadd (pc := 100) (i := 58) rfl (fun z54 e_z54 t_z54 => ?_)
                replace hF := kf_le e_z54 hF
                refine kw_iast (pc := 101) (i := 59) (n := 64) rfl rfl (by omega) (by omega) ?_
                have I55 : kw_I bX (kw_ui S31 22 z52.toNatClampNeg z54) := kw_I_ui I32 (kw_rng z54).1 (Int.le_of_lt_add_one (kw_rng z54).2)
                have F56 : kw_F [6, 22, 23] σ (kw_ui S31 22 z52.toNatClampNeg z54) := kw_F_ui F33 (by decide)
                refine kw_aload_n (pc := 102) (i := 60) (k := 4) (n := 0) rfl rfl rfl ?_
                refine kw_get (pc := 103) (i := 61) (v := .ref 23) rfl rfl rfl lkX0_15 (fun _ => rfl) ?_
                refine kw_aload_n (pc := 106) (i := 62) (k := 4) (n := 0) rfl rfl rfl ?_
                refine kw_get (pc := 107) (i := 63) (v := .int (S31.1 6 3)) rfl rfl rfl lkX0_25 (fun _ => rfl) ?_
                refine kw_iload (pc := 110) (i := 64) (k := 0) (n := 6) rfl rfl ?_
                refine kw_iadd (pc := 112) (i := 65) rfl (fun z57 e_z57 t_z57 => ?_)
                replace hF := kf_le e_z57 hF
                refine kw_aload_n (pc := 113) (i := 66) (k := 4) (n := 0) rfl rfl rfl ?_
                refine kw_get (pc := 114) (i := 67) (v := .ref 23) rfl rfl rfl lkX0_15 (fun _ => rfl) ?_
                refine kw_iload (pc := 117) (i := 68) (k := 0) (n := 6) rfl rfl ?_
                refine kw_iald (pc := 119) (i := 69) (n := 64) rfl rfl (by omega) (by omega) (fun z58 e_z58 => ?_)
                replace hF := kf_le e_z58 hF
                have t_z58 := congrArg Int32.toInt e_z58
                have r_z58 := kw_rng z58
                refine kw_iload (pc := 120) (i := 70) (k := 1) (n := 5) rfl rfl ?_
                refine kw_iadd (pc := 122) (i := 71) rfl (fun z59 e_z59 t_z59 => ?_)
                replace hF := kf_le e_z59 hF
                refine kw_iast (pc := 123) (i := 72) (n := 64) rfl rfl (by omega) (by omega) ?_
                have I60 : kw_I bX (kw_ui (kw_ui S31 22 z52.toNatClampNeg z54) 23 z57.toNatClampNeg z59) := kw_I_ui I55 (kw_rng z59).1 (Int.le_of_lt_add_one (kw_rng z59).2)
                have F61 : kw_F [6, 22, 23] σ (kw_ui (kw_ui S31 22 z52.toNatClampNeg z54) 23 z57.toNatClampNeg z59) := kw_F_ui F56 (by decide)
                refine kw_iinc' (pc := 124) (i := 73) (k := 0) (fun z => [(6, .int z), (5, .int z29), (4, .int z26), (3, .int x10), (0, .ref 6), (1, .ref 17), (2, .int w)]) rfl rfl (by decide) rfl (fun _ => rfl) (fun z62 e_z62 t_z62 => ?_)
                replace hF := kf_le e_z62 hF
                refine kw_goto (pc := 127) (i := 74) (tgt := 59) rfl rfl ?_
                refine kw_sub (lv' := [(6, .int z62), (5, .int z29), (4, .int z26), (3, .int x10), (0, .ref 6), (1, .ref 17), (2, .int w)]) [0, 1, 2, 3, 4, 5, 6] rfl ?_
                exact ih35 z62 (kw_ui (kw_ui S31 22 z52.toNatClampNeg z54) 23 z57.toNatClampNeg z59) I60 F61 (by omega) (show kw_pw x10.toInt (S31.1 6 3).toInt from by exact v37) hF (by omega)
        exact L34 _ 0 S11 I12 F13 (by omega) (show kw_pw x10.toInt (S11.1 6 3).toInt from by exact v18) hF (Nat.lt_succ_self _)
  exact L14 _ 0 (kw_ui (kw_ui (kw_ui (kw_ui σ 6 2 (σ.1 17 5)) 6 3 1) 22 ((0 : Int32).toNatClampNeg) 0) 23 ((0 : Int32).toNatClampNeg) 0) I8 F9 (by omega) (by omega) (show kw_pw (0 : Int32).toInt (1 : Int32).toInt from by exact kw_pw0) hF (Nat.lt_succ_self _)
noncomputable def f_X0_milesOf_6 (σ : kw_S) (s : Int32) : Int32 := if s.toInt < 0 then ((0 : Int32)) else (if s.toInt < (64 : Int32).toInt then (kf_l (σ.1 22 s.toNatClampNeg) fun z1 => kf_l (z1 / (4 : Int32)) fun z2 => z2) else ((0 : Int32)))
theorem f_X0_milesOf_6_u (σ : kw_S) (s : Int32) : f_X0_milesOf_6 σ s = if s.toInt < 0 then ((0 : Int32)) else (if s.toInt < (64 : Int32).toInt then (kf_l (σ.1 22 s.toNatClampNeg) fun z1 => kf_l (z1 / (4 : Int32)) fun z2 => z2) else ((0 : Int32))) := rfl
abbrev p_X0_milesOf_6 (σ : kw_S) (s : Int32) : Option Value → kw_S → Prop := fun vv σ' => σ' = σ ∧ ∃ r : Int32, vv = some (.int r) ∧ r = f_X0_milesOf_6 σ s
set_option maxRecDepth 100000 in
set_option maxHeartbeats 4000000 in
theorem c_X0_milesOf_6 (l : Launch) (σ : kw_S) (hI : kw_I bX σ) (s : Int32) : kw_Met l 1 KX mX0_milesOf [.ref 6, .int s] σ (p_X0_milesOf_6 σ s) := by
  have r_s := kw_rng s
  have hF := (f_X0_milesOf_6_u σ s).symm
  have q_0 : (0 : Int32).toInt = 0 := rfl
  have q_4 : (4 : Int32).toInt = 4 := rfl
  have q_64 : (64 : Int32).toInt = 64 := rfl
  refine kw_Met.of (by decide) rfl tX0_milesOf (Nat.le_of_ble_eq_true rfl) ?_
  show kw_AW l 1 kw_E0 KX mX0_milesOf (p_X0_milesOf_6 σ s) 0 [(0, .ref 6), (1, .int s)] [] σ
  refine kw_iload_n (pc := 0) (i := 0) (k := 1) (n := 1) rfl rfl rfl ?_
  refine kw_if_lt (pc := 1) (i := 1) (tgt := 21) rfl rfl (fun c1 => ?_) (fun c1 => ?_)
  · replace hF := kf_p c1 hF
    refine kw_iconst (pc := 21) (i := 12) (v := 0) rfl rfl ?_
    exact kw_ireturn (pc := 22) (i := 13) (ty := .int) rfl rfl rfl ⟨rfl, _, rfl, hF⟩
  · replace hF := kf_nl c1 hF
    refine kw_iload_n (pc := 4) (i := 2) (k := 1) (n := 1) rfl rfl rfl ?_
    refine kw_bipush (pc := 5) (i := 3) (v := 64) rfl rfl ?_
    refine kw_icmp_ge (pc := 7) (i := 4) (tgt := 21) rfl rfl (fun c2 => ?_) (fun c2 => ?_)
    · replace hF := kf_nl c2 hF
      refine kw_iconst (pc := 21) (i := 12) (v := 0) rfl rfl ?_
      exact kw_ireturn (pc := 22) (i := 13) (ty := .int) rfl rfl rfl ⟨rfl, _, rfl, hF⟩
    · replace hF := kf_p c2 hF
      refine kw_aload_n (pc := 10) (i := 5) (k := 0) (n := 0) rfl rfl rfl ?_
      refine kw_get (pc := 11) (i := 6) (v := .ref 22) rfl rfl rfl lkX0_9 (fun _ => rfl) ?_
      refine kw_iload_n (pc := 14) (i := 7) (k := 1) (n := 1) rfl rfl rfl ?_
      refine kw_iald (pc := 15) (i := 8) (n := 64) rfl rfl (by omega) (by omega) (fun z3 e_z3 => ?_)
      replace hF := kf_le e_z3 hF
      have t_z3 := congrArg Int32.toInt e_z3
      have r_z3 := kw_rng z3
      refine kw_iconst (pc := 16) (i := 9) (v := 4) rfl rfl ?_
      refine kw_idiv (pc := 17) (i := 10) rfl (by omega) (fun z4 e_z4 => ?_)
      have r_z4 := kw_rng z4
      replace hF := kf_le e_z4 hF
      refine kw_goto (pc := 18) (i := 11) (tgt := 22) rfl rfl ?_
      exact kw_ireturn (pc := 22) (i := 13) (ty := .int) rfl rfl rfl ⟨rfl, _, rfl, hF⟩
noncomputable def f_X0_turnBy_6 (σ : kw_S) (s : Int32) : Int32 := if s.toInt < 0 then ((0 : Int32)) else (if s.toInt < (64 : Int32).toInt then (kf_l (σ.1 23 s.toNatClampNeg) fun z1 => z1) else ((0 : Int32)))
theorem f_X0_turnBy_6_u (σ : kw_S) (s : Int32) : f_X0_turnBy_6 σ s = if s.toInt < 0 then ((0 : Int32)) else (if s.toInt < (64 : Int32).toInt then (kf_l (σ.1 23 s.toNatClampNeg) fun z1 => z1) else ((0 : Int32))) := rfl
abbrev p_X0_turnBy_6 (σ : kw_S) (s : Int32) : Option Value → kw_S → Prop := fun vv σ' => σ' = σ ∧ ∃ r : Int32, vv = some (.int r) ∧ r = f_X0_turnBy_6 σ s
set_option maxRecDepth 100000 in
set_option maxHeartbeats 4000000 in
theorem c_X0_turnBy_6 (l : Launch) (σ : kw_S) (hI : kw_I bX σ) (s : Int32) : kw_Met l 1 KX mX0_turnBy [.ref 6, .int s] σ (p_X0_turnBy_6 σ s) := by
  have r_s := kw_rng s
  have hF := (f_X0_turnBy_6_u σ s).symm
  have q_0 : (0 : Int32).toInt = 0 := rfl
  have q_64 : (64 : Int32).toInt = 64 := rfl
  refine kw_Met.of (by decide) rfl tX0_turnBy (Nat.le_of_ble_eq_true rfl) ?_
  show kw_AW l 1 kw_E0 KX mX0_turnBy (p_X0_turnBy_6 σ s) 0 [(0, .ref 6), (1, .int s)] [] σ
  refine kw_iload_n (pc := 0) (i := 0) (k := 1) (n := 1) rfl rfl rfl ?_
  refine kw_if_lt (pc := 1) (i := 1) (tgt := 19) rfl rfl (fun c1 => ?_) (fun c1 => ?_)
  · replace hF := kf_p c1 hF
    refine kw_iconst (pc := 19) (i := 10) (v := 0) rfl rfl ?_
    exact kw_ireturn (pc := 20) (i := 11) (ty := .int) rfl rfl rfl ⟨rfl, _, rfl, hF⟩
  · replace hF := kf_nl c1 hF
    refine kw_iload_n (pc := 4) (i := 2) (k := 1) (n := 1) rfl rfl rfl ?_
    refine kw_bipush (pc := 5) (i := 3) (v := 64) rfl rfl ?_
    refine kw_icmp_ge (pc := 7) (i := 4) (tgt := 19) rfl rfl (fun c2 => ?_) (fun c2 => ?_)
    · replace hF := kf_nl c2 hF
      refine kw_iconst (pc := 19) (i := 10) (v := 0) rfl rfl ?_
      exact kw_ireturn (pc := 20) (i := 11) (ty := .int) rfl rfl rfl ⟨rfl, _, rfl, hF⟩
    · replace hF := kf_p c2 hF
      refine kw_aload_n (pc := 10) (i := 5) (k := 0) (n := 0) rfl rfl rfl ?_
      refine kw_get (pc := 11) (i := 6) (v := .ref 23) rfl rfl rfl lkX0_15 (fun _ => rfl) ?_
      refine kw_iload_n (pc := 14) (i := 7) (k := 1) (n := 1) rfl rfl rfl ?_
      refine kw_iald (pc := 15) (i := 8) (n := 64) rfl rfl (by omega) (by omega) (fun z3 e_z3 => ?_)
      replace hF := kf_le e_z3 hF
      have t_z3 := congrArg Int32.toInt e_z3
      have r_z3 := kw_rng z3
      refine kw_goto (pc := 16) (i := 9) (tgt := 20) rfl rfl ?_
      exact kw_ireturn (pc := 20) (i := 11) (ty := .int) rfl rfl rfl ⟨rfl, _, rfl, hF⟩
noncomputable def l_X0_draw_52_17_59 (k29 : Int32 → kw_S → kw_S) (a2 : Int32) (a3 : Int32) (a4 : Int32) (a5 : Int32) : Nat → Int32 → kw_S → kw_S
  | 0, _, S => S
  | n + 1, x6, S => if x6.toInt < (S.1 52 3).toInt then (kf_l ((S.1 52 3) + x6) fun z6 => if z6.toInt < (64 : Int32).toInt then (kf_l ((S.1 52 3) + x6) fun z9 => kf_l (S.1 55 x6.toNatClampNeg) fun z10 => kf_l (z10 + a4) fun z11 => kf_l ((S.1 52 3) + x6) fun z12 => kf_l ((kw_ui S 55 z9.toNatClampNeg z11).1 56 x6.toNatClampNeg) fun z13 => kf_l (z13 + a5) fun z14 => kf_l (x6 + Int32.ofInt 1) fun z15 => l_X0_draw_52_17_59 k29 a2 a3 a4 a5 n z15 (kw_ui (kw_ui S 55 z9.toNatClampNeg z11) 56 z12.toNatClampNeg z14)) else (kf_l ((S.1 52 3) <<< ((1 : Int32) &&& 31)) fun z7 => kf_l (a3 + Int32.ofInt 1) fun z8 => k29 z8 (kw_ui S 52 3 z7))) else (kf_l ((S.1 52 3) <<< ((1 : Int32) &&& 31)) fun z4 => kf_l (a3 + Int32.ofInt 1) fun z5 => k29 z5 (kw_ui S 52 3 z4))
theorem l_X0_draw_52_17_59_s (k29 : Int32 → kw_S → kw_S) (a2 : Int32) (a3 : Int32) (a4 : Int32) (a5 : Int32) (n : Nat) (x6 : Int32) (S : kw_S) : l_X0_draw_52_17_59 k29 a2 a3 a4 a5 (n + 1) x6 S = if x6.toInt < (S.1 52 3).toInt then (kf_l ((S.1 52 3) + x6) fun z6 => if z6.toInt < (64 : Int32).toInt then (kf_l ((S.1 52 3) + x6) fun z9 => kf_l (S.1 55 x6.toNatClampNeg) fun z10 => kf_l (z10 + a4) fun z11 => kf_l ((S.1 52 3) + x6) fun z12 => kf_l ((kw_ui S 55 z9.toNatClampNeg z11).1 56 x6.toNatClampNeg) fun z13 => kf_l (z13 + a5) fun z14 => kf_l (x6 + Int32.ofInt 1) fun z15 => l_X0_draw_52_17_59 k29 a2 a3 a4 a5 n z15 (kw_ui (kw_ui S 55 z9.toNatClampNeg z11) 56 z12.toNatClampNeg z14)) else (kf_l ((S.1 52 3) <<< ((1 : Int32) &&& 31)) fun z7 => kf_l (a3 + Int32.ofInt 1) fun z8 => k29 z8 (kw_ui S 52 3 z7))) else (kf_l ((S.1 52 3) <<< ((1 : Int32) &&& 31)) fun z4 => kf_l (a3 + Int32.ofInt 1) fun z5 => k29 z5 (kw_ui S 52 3 z4)) := rfl
noncomputable def l_X0_draw_52_17_29 (a2 : Int32) : Nat → Int32 → kw_S → kw_S
  | 0, _, S => S
  | n + 1, x3, S => if x3.toInt < (S.1 52 2).toInt then (kf_l (f_X1_pullOf_17 S x3 a2) fun z1 => kf_l (S.1 45 x3.toNatClampNeg) fun z2 => kf_l (z1 * z2) fun z3 => l_X0_draw_52_17_59 (l_X0_draw_52_17_29 a2 n) a2 x3 z1 z3 ((65 - (0 : Int32).toInt).toNat + 1) (0 : Int32) S) else (S)
theorem l_X0_draw_52_17_29_s (a2 : Int32) (n : Nat) (x3 : Int32) (S : kw_S) : l_X0_draw_52_17_29 a2 (n + 1) x3 S = if x3.toInt < (S.1 52 2).toInt then (kf_l (f_X1_pullOf_17 S x3 a2) fun z1 => kf_l (S.1 45 x3.toNatClampNeg) fun z2 => kf_l (z1 * z2) fun z3 => l_X0_draw_52_17_59 (l_X0_draw_52_17_29 a2 n) a2 x3 z1 z3 ((65 - (0 : Int32).toInt).toNat + 1) (0 : Int32) S) else (S) := rfl
noncomputable def f_X0_draw_52_17 (σ : kw_S) (w : Int32) : kw_S := l_X0_draw_52_17_29 w ((7 - (0 : Int32).toInt).toNat + 1) (0 : Int32) (kw_ui (kw_ui (kw_ui (kw_ui σ 52 2 (σ.1 17 5)) 52 3 1) 55 ((0 : Int32).toNatClampNeg) 0) 56 ((0 : Int32).toNatClampNeg) 0)
theorem f_X0_draw_52_17_u (σ : kw_S) (w : Int32) : f_X0_draw_52_17 σ w = l_X0_draw_52_17_29 w ((7 - (0 : Int32).toInt).toNat + 1) (0 : Int32) (kw_ui (kw_ui (kw_ui (kw_ui σ 52 2 (σ.1 17 5)) 52 3 1) 55 ((0 : Int32).toNatClampNeg) 0) 56 ((0 : Int32).toNatClampNeg) 0) := rfl
abbrev p_X0_draw_52_17 (σ : kw_S) (w : Int32) : Option Value → kw_S → Prop := fun vv σ' => (kw_I bX σ' ∧ kw_F [52, 55, 56] σ σ') ∧ vv = none ∧ σ' = f_X0_draw_52_17 σ w
set_option maxRecDepth 100000 in
set_option maxHeartbeats 4000000 in
theorem c_X0_draw_52_17 (l : Launch) (σ : kw_S) (hI : kw_I bX σ) (w : Int32) : kw_Met l 3 KX mX0_draw [.ref 52, .ref 17, .int w] σ (p_X0_draw_52_17 σ w) := by
  have r_w := kw_rng w
  have hF0 : kw_F [52, 55, 56] σ σ := kw_F.rf
  have hF := (f_X0_draw_52_17_u σ w).symm
  have q_0 : (0 : Int32).toInt = 0 := rfl
  have q_1 : (1 : Int32).toInt = 1 := rfl
  have q_64 : (64 : Int32).toInt = 64 := rfl
  refine kw_Met.of (by decide) rfl tX0_draw (Nat.le_of_ble_eq_true rfl) ?_
  show kw_AW l 3 kw_E0 KX mX0_draw (p_X0_draw_52_17 σ w) 0 [(0, .ref 52), (1, .ref 17), (2, .int w)] [] σ
  refine kw_aload_n (pc := 0) (i := 0) (k := 0) (n := 0) rfl rfl rfl ?_
  refine kw_aload_n (pc := 1) (i := 1) (k := 1) (n := 1) rfl rfl rfl ?_
  refine kw_get (pc := 2) (i := 2) (v := .int (σ.1 17 5)) rfl rfl rfl lkX0_18 (fun _ => rfl) ?_
  have b1 : 0 ≤ (σ.1 17 5).toInt ∧ (σ.1 17 5).toInt ≤ 6 := hI 17 5
  refine kw_puti (pc := 5) (i := 3) (z := 0) rfl rfl rfl lpX0_24 rfl rfl ?_
  have I2 : kw_I bX (kw_ui σ 52 2 (σ.1 17 5)) := kw_I_ui hI (show 0 ≤ (σ.1 17 5).toInt by omega) (show (σ.1 17 5).toInt ≤ 6 by omega)
  have F3 : kw_F [52, 55, 56] σ (kw_ui σ 52 2 (σ.1 17 5)) := kw_F_ui hF0 (by decide)
  refine kw_aload_n (pc := 8) (i := 4) (k := 0) (n := 0) rfl rfl rfl ?_
  refine kw_iconst (pc := 9) (i := 5) (v := 1) rfl rfl ?_
  refine kw_puti (pc := 10) (i := 6) (z := 0) rfl rfl rfl lpX0_25 rfl rfl ?_
  have I4 : kw_I bX (kw_ui (kw_ui σ 52 2 (σ.1 17 5)) 52 3 1) := kw_I_ui I2 (kw_rng (1 : Int32)).1 (Int.le_of_lt_add_one (kw_rng (1 : Int32)).2)
  have F5 : kw_F [52, 55, 56] σ (kw_ui (kw_ui σ 52 2 (σ.1 17 5)) 52 3 1) := kw_F_ui F3 (by decide)
  refine kw_aload_n (pc := 13) (i := 7) (k := 0) (n := 0) rfl rfl rfl ?_
  refine kw_get (pc := 14) (i := 8) (v := .ref 55) rfl rfl rfl lkX0_9 (fun _ => rfl) ?_
  refine kw_iconst (pc := 17) (i := 9) (v := 0) rfl rfl ?_
  refine kw_iconst (pc := 18) (i := 10) (v := 0) rfl rfl ?_
  refine kw_iast (pc := 19) (i := 11) (n := 64) rfl rfl (by omega) (by omega) ?_
  have I6 : kw_I bX (kw_ui (kw_ui (kw_ui σ 52 2 (σ.1 17 5)) 52 3 1) 55 ((0 : Int32).toNatClampNeg) 0) := kw_I_ui I4 (kw_rng (0 : Int32)).1 (Int.le_of_lt_add_one (kw_rng (0 : Int32)).2)
  have F7 : kw_F [52, 55, 56] σ (kw_ui (kw_ui (kw_ui σ 52 2 (σ.1 17 5)) 52 3 1) 55 ((0 : Int32).toNatClampNeg) 0) := kw_F_ui F5 (by decide)
  refine kw_aload_n (pc := 20) (i := 12) (k := 0) (n := 0) rfl rfl rfl ?_
  refine kw_get (pc := 21) (i := 13) (v := .ref 56) rfl rfl rfl lkX0_15 (fun _ => rfl) ?_
  refine kw_iconst (pc := 24) (i := 14) (v := 0) rfl rfl ?_
  refine kw_iconst (pc := 25) (i := 15) (v := 0) rfl rfl ?_
  refine kw_iast (pc := 26) (i := 16) (n := 64) rfl rfl (by omega) (by omega) ?_
  have I8 : kw_I bX (kw_ui (kw_ui (kw_ui (kw_ui σ 52 2 (σ.1 17 5)) 52 3 1) 55 ((0 : Int32).toNatClampNeg) 0) 56 ((0 : Int32).toNatClampNeg) 0) := kw_I_ui I6 (kw_rng (0 : Int32)).1 (Int.le_of_lt_add_one (kw_rng (0 : Int32)).2)
  have F9 : kw_F [52, 55, 56] σ (kw_ui (kw_ui (kw_ui (kw_ui σ 52 2 (σ.1 17 5)) 52 3 1) 55 ((0 : Int32).toNatClampNeg) 0) 56 ((0 : Int32).toNatClampNeg) 0) := kw_F_ui F7 (by decide)
  refine kw_iconst (pc := 27) (i := 17) (v := 0) rfl rfl ?_
  refine kw_istore_n (pc := 28) (i := 18) (n := 3) (lv' := [(3, .int 0), (0, .ref 52), (1, .ref 17), (2, .int w)]) rfl rfl (by decide) rfl ?_
  have L14 : ∀ (n20 : Nat) (x10 : Int32) (S11 : kw_S), kw_I bX S11 → kw_F [52, 55, 56] σ S11 → 0 ≤ x10.toInt → x10.toInt ≤ 6 → kw_pw x10.toInt (S11.1 52 3).toInt → l_X0_draw_52_17_29 w n20 x10 S11 = (f_X0_draw_52_17 σ w) → (7 - x10.toInt).toNat < n20 → kw_AW l 3 kw_E0 KX mX0_draw (p_X0_draw_52_17 σ w) 29 [(3, .int x10), (0, .ref 52), (1, .ref 17), (2, .int w)] [] S11 := by
    intro n20
    induction n20 with
    | zero => intro x10 S11 I12 F13 v16 v17 v18 hF m19; exact absurd m19 (Nat.not_lt_zero _)
    | succ n20 ih15 =>
      intro x10 S11 I12 F13 v16 v17 v18 hF m19
      replace hF := kf_st (l_X0_draw_52_17_29_s _ _ _ _) hF
      have r_x10 := kw_rng x10
      have w_0 := kw_pwB v18 (by omega) (by omega)
      refine kw_iload_n (pc := 29) (i := 19) (k := 0) (n := 3) rfl rfl rfl ?_
      refine kw_aload_n (pc := 30) (i := 20) (k := 1) (n := 0) rfl rfl rfl ?_
      refine kw_get (pc := 31) (i := 21) (v := .int (S11.1 52 2)) rfl rfl rfl lkX0_24 (fun _ => rfl) ?_
      have b21 : 0 ≤ (S11.1 52 2).toInt ∧ (S11.1 52 2).toInt ≤ 6 := I12 52 2
      refine kw_icmp_ge (pc := 34) (i := 22) (tgt := 146) rfl rfl (fun c22 => ?_) (fun c22 => ?_)
      · replace hF := kf_nl c22 hF
        exact kw_return (pc := 146) (i := 83) rfl rfl ⟨⟨I12, F13⟩, rfl, hF⟩
      · replace hF := kf_p c22 hF
        refine kw_aload_n (pc := 37) (i := 23) (k := 2) (n := 1) rfl rfl rfl ?_
        refine kw_iload_n (pc := 38) (i := 24) (k := 0) (n := 3) rfl rfl rfl ?_
        refine kw_iload_n (pc := 39) (i := 25) (k := 3) (n := 2) rfl rfl rfl ?_
        refine kw_callV (pc := 40) (i := 26) (Y := mX1_pullOf) (a := 17) (As := [.int x10, .int w]) (st := []) kw_hE rfl rfl lvX0_28 arX1_pullOf (c_X1_pullOf_17 l S11 I12 x10 w ) (by decide) (Nat.le_of_ble_eq_true rfl) rfl (fun v S24 p23 => ?_)
        obtain ⟨e27, z26, rfl, ef25⟩ := p23
        rw [e27]
        replace hF := kf_le ef25 hF
        have r_z26 := kw_rng z26
        show kw_AW l 3 kw_E0 KX mX0_draw (p_X0_draw_52_17 σ w) 43 [(3, .int x10), (0, .ref 52), (1, .ref 17), (2, .int w)] [.int z26] S11
        refine kw_istore (pc := 43) (i := 27) (n := 4) (lv' := [(4, .int z26), (3, .int x10), (0, .ref 52), (1, .ref 17), (2, .int w)]) rfl (by decide) rfl ?_
        refine kw_iload (pc := 45) (i := 28) (k := 0) (n := 4) rfl rfl ?_
        refine kw_aload_n (pc := 47) (i := 29) (k := 3) (n := 1) rfl rfl rfl ?_
        refine kw_get (pc := 48) (i := 30) (v := .ref 45) rfl rfl rfl lkX0_32 (fun _ => rfl) ?_
        refine kw_iload_n (pc := 51) (i := 31) (k := 1) (n := 3) rfl rfl rfl ?_
        refine kw_iald (pc := 52) (i := 32) (n := 6) rfl rfl (by omega) (by omega) (fun z28 e_z28 => ?_)
        replace hF := kf_le e_z28 hF
        have t_z28 := congrArg Int32.toInt e_z28
        have r_z28 := kw_rng z28
        refine kw_imul (pc := 53) (i := 33) rfl (fun z29 e_z29 t_z29 => ?_)
        replace hF := kf_le e_z29 hF
        refine kw_istore (pc := 54) (i := 34) (n := 5) (lv' := [(5, .int z29), (4, .int z26), (3, .int x10), (0, .ref 52), (1, .ref 17), (2, .int w)]) rfl (by decide) rfl ?_
        refine kw_iconst (pc := 56) (i := 35) (v := 0) rfl rfl ?_
        refine kw_istore (pc := 57) (i := 36) (n := 6) (lv' := [(6, .int 0), (5, .int z29), (4, .int z26), (3, .int x10), (0, .ref 52), (1, .ref 17), (2, .int w)]) rfl (by decide) rfl ?_
        have L34 : ∀ (n39 : Nat) (x30 : Int32) (S31 : kw_S), kw_I bX S31 → kw_F [52, 55, 56] σ S31 → 0 ≤ x30.toInt → kw_pw x10.toInt (S31.1 52 3).toInt → l_X0_draw_52_17_59 (l_X0_draw_52_17_29 w n20) w x10 z26 z29 n39 x30 S31 = (f_X0_draw_52_17 σ w) → (65 - x30.toInt).toNat < n39 → kw_AW l 3 kw_E0 KX mX0_draw (p_X0_draw_52_17 σ w) 59 [(6, .int x30), (5, .int z29), (4, .int z26), (3, .int x10), (0, .ref 52), (1, .ref 17), (2, .int w)] [] S31 := by
          intro n39
          induction n39 with
          | zero => intro x30 S31 I32 F33 v36 v37 hF m38; exact absurd m38 (Nat.not_lt_zero _)
          | succ n39 ih35 =>
            intro x30 S31 I32 F33 v36 v37 hF m38
            replace hF := kf_st (l_X0_draw_52_17_59_s _ _ _ _ _ _ _ _) hF
            have r_x30 := kw_rng x30
            have w_1 := kw_pwB v37 (by omega) (by omega)
            refine kw_iload (pc := 59) (i := 37) (k := 0) (n := 6) rfl rfl ?_
            refine kw_aload_n (pc := 61) (i := 38) (k := 4) (n := 0) rfl rfl rfl ?_
            refine kw_get (pc := 62) (i := 39) (v := .int (S31.1 52 3)) rfl rfl rfl lkX0_25 (fun _ => rfl) ?_
            have b40 := kw_rng (S31.1 52 3)
            refine kw_icmp_ge (pc := 65) (i := 40) (tgt := 130) rfl rfl (fun c41 => ?_) (fun c41 => ?_)
            · replace hF := kf_nl c41 hF
              refine kw_aload_n (pc := 130) (i := 75) (k := 4) (n := 0) rfl rfl rfl ?_
              refine kw_dup (pc := 131) (i := 76) rfl rfl ?_
              refine kw_get (pc := 132) (i := 77) (v := .int (S31.1 52 3)) rfl rfl rfl lkX0_25 (fun _ => rfl) ?_
              refine kw_iconst (pc := 135) (i := 78) (v := 1) rfl rfl ?_
              refine kw_ishl (pc := 136) (i := 79) rfl (fun z42 e_z42 => ?_)
              have r_z42 := kw_rng z42
              replace hF := kf_le e_z42 hF
              have t_z42 := kw_shl1 z42 (S31.1 52 3) e_z42
              refine kw_puti (pc := 137) (i := 80) (z := 0) rfl rfl rfl lpX0_25 rfl rfl ?_
              have I43 : kw_I bX (kw_ui S31 52 3 z42) := kw_I_ui I32 (kw_rng z42).1 (Int.le_of_lt_add_one (kw_rng z42).2)
              have F44 : kw_F [52, 55, 56] σ (kw_ui S31 52 3 z42) := kw_F_ui F33 (by decide)
              refine kw_iinc' (pc := 140) (i := 81) (k := 3) (fun z => [(3, .int z), (6, .int x30), (5, .int z29), (4, .int z26), (0, .ref 52), (1, .ref 17), (2, .int w)]) rfl rfl (by decide) rfl (fun _ => rfl) (fun z45 e_z45 t_z45 => ?_)
              replace hF := kf_le e_z45 hF
              refine kw_goto (pc := 143) (i := 82) (tgt := 29) rfl rfl ?_
              refine kw_sub (lv' := [(3, .int z45), (0, .ref 52), (1, .ref 17), (2, .int w)]) [0, 4, 5, 6] rfl ?_
              exact ih15 z45 (kw_ui S31 52 3 z42) I43 F44 (by omega) (by omega) (show kw_pw z45.toInt z42.toInt from by exact kw_pwS v37 (by omega) (by omega) (by omega)) hF (by omega)
            · replace hF := kf_p c41 hF
              refine kw_aload_n (pc := 68) (i := 41) (k := 4) (n := 0) rfl rfl rfl ?_
              refine kw_get (pc := 69) (i := 42) (v := .int (S31.1 52 3)) rfl rfl rfl lkX0_25 (fun _ => rfl) ?_
              refine kw_iload (pc := 72) (i := 43) (k := 0) (n := 6) rfl rfl ?_
              refine kw_iadd (pc := 74) (i := 44) rfl (fun z46 e_z46 t_z46 => ?_)
              replace hF := kf_le e_z46 hF
              refine kw_bipush (pc := 75) (i := 45) (v := 64) rfl rfl ?_
              refine kw_icmp_ge (pc := 77) (i := 46) (tgt := 130) rfl rfl (fun c47 => ?_) (fun c47 => ?_)
              · replace hF := kf_nl c47 hF
                refine kw_aload_n (pc := 130) (i := 75) (k := 4) (n := 0) rfl rfl rfl ?_
                refine kw_dup (pc := 131) (i := 76) rfl rfl ?_
                refine kw_get (pc := 132) (i := 77) (v := .int (S31.1 52 3)) rfl rfl rfl lkX0_25 (fun _ => rfl) ?_
                refine kw_iconst (pc := 135) (i := 78) (v := 1) rfl rfl ?_
                refine kw_ishl (pc := 136) (i := 79) rfl (fun z48 e_z48 => ?_)
                have r_z48 := kw_rng z48
                replace hF := kf_le e_z48 hF
                have t_z48 := kw_shl1 z48 (S31.1 52 3) e_z48
                refine kw_puti (pc := 137) (i := 80) (z := 0) rfl rfl rfl lpX0_25 rfl rfl ?_
                have I49 : kw_I bX (kw_ui S31 52 3 z48) := kw_I_ui I32 (kw_rng z48).1 (Int.le_of_lt_add_one (kw_rng z48).2)
                have F50 : kw_F [52, 55, 56] σ (kw_ui S31 52 3 z48) := kw_F_ui F33 (by decide)
                refine kw_iinc' (pc := 140) (i := 81) (k := 3) (fun z => [(3, .int z), (6, .int x30), (5, .int z29), (4, .int z26), (0, .ref 52), (1, .ref 17), (2, .int w)]) rfl rfl (by decide) rfl (fun _ => rfl) (fun z51 e_z51 t_z51 => ?_)
                replace hF := kf_le e_z51 hF
                refine kw_goto (pc := 143) (i := 82) (tgt := 29) rfl rfl ?_
                refine kw_sub (lv' := [(3, .int z51), (0, .ref 52), (1, .ref 17), (2, .int w)]) [0, 4, 5, 6] rfl ?_
                exact ih15 z51 (kw_ui S31 52 3 z48) I49 F50 (by omega) (by omega) (show kw_pw z51.toInt z48.toInt from by exact kw_pwS v37 (by omega) (by omega) (by omega)) hF (by omega)
              · replace hF := kf_p c47 hF
                refine kw_aload_n (pc := 80) (i := 47) (k := 4) (n := 0) rfl rfl rfl ?_
                refine kw_get (pc := 81) (i := 48) (v := .ref 55) rfl rfl rfl lkX0_9 (fun _ => rfl) ?_
                refine kw_aload_n (pc := 84) (i := 49) (k := 4) (n := 0) rfl rfl rfl ?_
                refine kw_get (pc := 85) (i := 50) (v := .int (S31.1 52 3)) rfl rfl rfl lkX0_25 (fun _ => rfl) ?_
                refine kw_iload (pc := 88) (i := 51) (k := 0) (n := 6) rfl rfl ?_
                refine kw_iadd (pc := 90) (i := 52) rfl (fun z52 e_z52 t_z52 => ?_)
                replace hF := kf_le e_z52 hF
                refine kw_aload_n (pc := 91) (i := 53) (k := 4) (n := 0) rfl rfl rfl ?_
                refine kw_get (pc := 92) (i := 54) (v := .ref 55) rfl rfl rfl lkX0_9 (fun _ => rfl) ?_
                refine kw_iload (pc := 95) (i := 55) (k := 0) (n := 6) rfl rfl ?_
                refine kw_iald (pc := 97) (i := 56) (n := 64) rfl rfl (by omega) (by omega) (fun z53 e_z53 => ?_)
                replace hF := kf_le e_z53 hF
                have t_z53 := congrArg Int32.toInt e_z53
                have r_z53 := kw_rng z53
                refine kw_iload (pc := 98) (i := 57) (k := 2) (n := 4) rfl rfl ?_
                refine kw_iadd (pc := 100) (i := 58) rfl (fun z54 e_z54 t_z54 => ?_)
                replace hF := kf_le e_z54 hF
                refine kw_iast (pc := 101) (i := 59) (n := 64) rfl rfl (by omega) (by omega) ?_
                have I55 : kw_I bX (kw_ui S31 55 z52.toNatClampNeg z54) := kw_I_ui I32 (kw_rng z54).1 (Int.le_of_lt_add_one (kw_rng z54).2)
                have F56 : kw_F [52, 55, 56] σ (kw_ui S31 55 z52.toNatClampNeg z54) := kw_F_ui F33 (by decide)
                refine kw_aload_n (pc := 102) (i := 60) (k := 4) (n := 0) rfl rfl rfl ?_
                refine kw_get (pc := 103) (i := 61) (v := .ref 56) rfl rfl rfl lkX0_15 (fun _ => rfl) ?_
                refine kw_aload_n (pc := 106) (i := 62) (k := 4) (n := 0) rfl rfl rfl ?_
                refine kw_get (pc := 107) (i := 63) (v := .int (S31.1 52 3)) rfl rfl rfl lkX0_25 (fun _ => rfl) ?_
                refine kw_iload (pc := 110) (i := 64) (k := 0) (n := 6) rfl rfl ?_
                refine kw_iadd (pc := 112) (i := 65) rfl (fun z57 e_z57 t_z57 => ?_)
                replace hF := kf_le e_z57 hF
                refine kw_aload_n (pc := 113) (i := 66) (k := 4) (n := 0) rfl rfl rfl ?_
                refine kw_get (pc := 114) (i := 67) (v := .ref 56) rfl rfl rfl lkX0_15 (fun _ => rfl) ?_
                refine kw_iload (pc := 117) (i := 68) (k := 0) (n := 6) rfl rfl ?_
                refine kw_iald (pc := 119) (i := 69) (n := 64) rfl rfl (by omega) (by omega) (fun z58 e_z58 => ?_)
                replace hF := kf_le e_z58 hF
                have t_z58 := congrArg Int32.toInt e_z58
                have r_z58 := kw_rng z58
                refine kw_iload (pc := 120) (i := 70) (k := 1) (n := 5) rfl rfl ?_
                refine kw_iadd (pc := 122) (i := 71) rfl (fun z59 e_z59 t_z59 => ?_)
                replace hF := kf_le e_z59 hF
                refine kw_iast (pc := 123) (i := 72) (n := 64) rfl rfl (by omega) (by omega) ?_
                have I60 : kw_I bX (kw_ui (kw_ui S31 55 z52.toNatClampNeg z54) 56 z57.toNatClampNeg z59) := kw_I_ui I55 (kw_rng z59).1 (Int.le_of_lt_add_one (kw_rng z59).2)
                have F61 : kw_F [52, 55, 56] σ (kw_ui (kw_ui S31 55 z52.toNatClampNeg z54) 56 z57.toNatClampNeg z59) := kw_F_ui F56 (by decide)
                refine kw_iinc' (pc := 124) (i := 73) (k := 0) (fun z => [(6, .int z), (5, .int z29), (4, .int z26), (3, .int x10), (0, .ref 52), (1, .ref 17), (2, .int w)]) rfl rfl (by decide) rfl (fun _ => rfl) (fun z62 e_z62 t_z62 => ?_)
                replace hF := kf_le e_z62 hF
                refine kw_goto (pc := 127) (i := 74) (tgt := 59) rfl rfl ?_
                refine kw_sub (lv' := [(6, .int z62), (5, .int z29), (4, .int z26), (3, .int x10), (0, .ref 52), (1, .ref 17), (2, .int w)]) [0, 1, 2, 3, 4, 5, 6] rfl ?_
                exact ih35 z62 (kw_ui (kw_ui S31 55 z52.toNatClampNeg z54) 56 z57.toNatClampNeg z59) I60 F61 (by omega) (show kw_pw x10.toInt (S31.1 52 3).toInt from by exact v37) hF (by omega)
        exact L34 _ 0 S11 I12 F13 (by omega) (show kw_pw x10.toInt (S11.1 52 3).toInt from by exact v18) hF (Nat.lt_succ_self _)
  exact L14 _ 0 (kw_ui (kw_ui (kw_ui (kw_ui σ 52 2 (σ.1 17 5)) 52 3 1) 55 ((0 : Int32).toNatClampNeg) 0) 56 ((0 : Int32).toNatClampNeg) 0) I8 F9 (by omega) (by omega) (show kw_pw (0 : Int32).toInt (1 : Int32).toInt from by exact kw_pw0) hF (Nat.lt_succ_self _)
noncomputable def f_X0_milesOf_52 (σ : kw_S) (s : Int32) : Int32 := if s.toInt < 0 then ((0 : Int32)) else (if s.toInt < (64 : Int32).toInt then (kf_l (σ.1 55 s.toNatClampNeg) fun z1 => kf_l (z1 / (4 : Int32)) fun z2 => z2) else ((0 : Int32)))
theorem f_X0_milesOf_52_u (σ : kw_S) (s : Int32) : f_X0_milesOf_52 σ s = if s.toInt < 0 then ((0 : Int32)) else (if s.toInt < (64 : Int32).toInt then (kf_l (σ.1 55 s.toNatClampNeg) fun z1 => kf_l (z1 / (4 : Int32)) fun z2 => z2) else ((0 : Int32))) := rfl
abbrev p_X0_milesOf_52 (σ : kw_S) (s : Int32) : Option Value → kw_S → Prop := fun vv σ' => σ' = σ ∧ ∃ r : Int32, vv = some (.int r) ∧ r = f_X0_milesOf_52 σ s
set_option maxRecDepth 100000 in
set_option maxHeartbeats 4000000 in
theorem c_X0_milesOf_52 (l : Launch) (σ : kw_S) (hI : kw_I bX σ) (s : Int32) : kw_Met l 1 KX mX0_milesOf [.ref 52, .int s] σ (p_X0_milesOf_52 σ s) := by
  have r_s := kw_rng s
  have hF := (f_X0_milesOf_52_u σ s).symm
  have q_0 : (0 : Int32).toInt = 0 := rfl
  have q_4 : (4 : Int32).toInt = 4 := rfl
  have q_64 : (64 : Int32).toInt = 64 := rfl
  refine kw_Met.of (by decide) rfl tX0_milesOf (Nat.le_of_ble_eq_true rfl) ?_
  show kw_AW l 1 kw_E0 KX mX0_milesOf (p_X0_milesOf_52 σ s) 0 [(0, .ref 52), (1, .int s)] [] σ
  refine kw_iload_n (pc := 0) (i := 0) (k := 1) (n := 1) rfl rfl rfl ?_
  refine kw_if_lt (pc := 1) (i := 1) (tgt := 21) rfl rfl (fun c1 => ?_) (fun c1 => ?_)
  · replace hF := kf_p c1 hF
    refine kw_iconst (pc := 21) (i := 12) (v := 0) rfl rfl ?_
    exact kw_ireturn (pc := 22) (i := 13) (ty := .int) rfl rfl rfl ⟨rfl, _, rfl, hF⟩
  · replace hF := kf_nl c1 hF
    refine kw_iload_n (pc := 4) (i := 2) (k := 1) (n := 1) rfl rfl rfl ?_
    refine kw_bipush (pc := 5) (i := 3) (v := 64) rfl rfl ?_
    refine kw_icmp_ge (pc := 7) (i := 4) (tgt := 21) rfl rfl (fun c2 => ?_) (fun c2 => ?_)
    · replace hF := kf_nl c2 hF
      refine kw_iconst (pc := 21) (i := 12) (v := 0) rfl rfl ?_
      exact kw_ireturn (pc := 22) (i := 13) (ty := .int) rfl rfl rfl ⟨rfl, _, rfl, hF⟩
    · replace hF := kf_p c2 hF
      refine kw_aload_n (pc := 10) (i := 5) (k := 0) (n := 0) rfl rfl rfl ?_
      refine kw_get (pc := 11) (i := 6) (v := .ref 55) rfl rfl rfl lkX0_9 (fun _ => rfl) ?_
      refine kw_iload_n (pc := 14) (i := 7) (k := 1) (n := 1) rfl rfl rfl ?_
      refine kw_iald (pc := 15) (i := 8) (n := 64) rfl rfl (by omega) (by omega) (fun z3 e_z3 => ?_)
      replace hF := kf_le e_z3 hF
      have t_z3 := congrArg Int32.toInt e_z3
      have r_z3 := kw_rng z3
      refine kw_iconst (pc := 16) (i := 9) (v := 4) rfl rfl ?_
      refine kw_idiv (pc := 17) (i := 10) rfl (by omega) (fun z4 e_z4 => ?_)
      have r_z4 := kw_rng z4
      replace hF := kf_le e_z4 hF
      refine kw_goto (pc := 18) (i := 11) (tgt := 22) rfl rfl ?_
      exact kw_ireturn (pc := 22) (i := 13) (ty := .int) rfl rfl rfl ⟨rfl, _, rfl, hF⟩
noncomputable def f_X0_turnBy_52 (σ : kw_S) (s : Int32) : Int32 := if s.toInt < 0 then ((0 : Int32)) else (if s.toInt < (64 : Int32).toInt then (kf_l (σ.1 56 s.toNatClampNeg) fun z1 => z1) else ((0 : Int32)))
theorem f_X0_turnBy_52_u (σ : kw_S) (s : Int32) : f_X0_turnBy_52 σ s = if s.toInt < 0 then ((0 : Int32)) else (if s.toInt < (64 : Int32).toInt then (kf_l (σ.1 56 s.toNatClampNeg) fun z1 => z1) else ((0 : Int32))) := rfl
abbrev p_X0_turnBy_52 (σ : kw_S) (s : Int32) : Option Value → kw_S → Prop := fun vv σ' => σ' = σ ∧ ∃ r : Int32, vv = some (.int r) ∧ r = f_X0_turnBy_52 σ s
set_option maxRecDepth 100000 in
set_option maxHeartbeats 4000000 in
theorem c_X0_turnBy_52 (l : Launch) (σ : kw_S) (hI : kw_I bX σ) (s : Int32) : kw_Met l 1 KX mX0_turnBy [.ref 52, .int s] σ (p_X0_turnBy_52 σ s) := by
  have r_s := kw_rng s
  have hF := (f_X0_turnBy_52_u σ s).symm
  have q_0 : (0 : Int32).toInt = 0 := rfl
  have q_64 : (64 : Int32).toInt = 64 := rfl
  refine kw_Met.of (by decide) rfl tX0_turnBy (Nat.le_of_ble_eq_true rfl) ?_
  show kw_AW l 1 kw_E0 KX mX0_turnBy (p_X0_turnBy_52 σ s) 0 [(0, .ref 52), (1, .int s)] [] σ
  refine kw_iload_n (pc := 0) (i := 0) (k := 1) (n := 1) rfl rfl rfl ?_
  refine kw_if_lt (pc := 1) (i := 1) (tgt := 19) rfl rfl (fun c1 => ?_) (fun c1 => ?_)
  · replace hF := kf_p c1 hF
    refine kw_iconst (pc := 19) (i := 10) (v := 0) rfl rfl ?_
    exact kw_ireturn (pc := 20) (i := 11) (ty := .int) rfl rfl rfl ⟨rfl, _, rfl, hF⟩
  · replace hF := kf_nl c1 hF
    refine kw_iload_n (pc := 4) (i := 2) (k := 1) (n := 1) rfl rfl rfl ?_
    refine kw_bipush (pc := 5) (i := 3) (v := 64) rfl rfl ?_
    refine kw_icmp_ge (pc := 7) (i := 4) (tgt := 19) rfl rfl (fun c2 => ?_) (fun c2 => ?_)
    · replace hF := kf_nl c2 hF
      refine kw_iconst (pc := 19) (i := 10) (v := 0) rfl rfl ?_
      exact kw_ireturn (pc := 20) (i := 11) (ty := .int) rfl rfl rfl ⟨rfl, _, rfl, hF⟩
    · replace hF := kf_p c2 hF
      refine kw_aload_n (pc := 10) (i := 5) (k := 0) (n := 0) rfl rfl rfl ?_
      refine kw_get (pc := 11) (i := 6) (v := .ref 56) rfl rfl rfl lkX0_15 (fun _ => rfl) ?_
      refine kw_iload_n (pc := 14) (i := 7) (k := 1) (n := 1) rfl rfl rfl ?_
      refine kw_iald (pc := 15) (i := 8) (n := 64) rfl rfl (by omega) (by omega) (fun z3 e_z3 => ?_)
      replace hF := kf_le e_z3 hF
      have t_z3 := congrArg Int32.toInt e_z3
      have r_z3 := kw_rng z3
      refine kw_goto (pc := 16) (i := 9) (tgt := 20) rfl rfl ?_
      exact kw_ireturn (pc := 20) (i := 11) (ty := .int) rfl rfl rfl ⟨rfl, _, rfl, hF⟩
noncomputable def l_X0_draw_53_17_59 (k29 : Int32 → kw_S → kw_S) (a2 : Int32) (a3 : Int32) (a4 : Int32) (a5 : Int32) : Nat → Int32 → kw_S → kw_S
  | 0, _, S => S
  | n + 1, x6, S => if x6.toInt < (S.1 53 3).toInt then (kf_l ((S.1 53 3) + x6) fun z6 => if z6.toInt < (64 : Int32).toInt then (kf_l ((S.1 53 3) + x6) fun z9 => kf_l (S.1 57 x6.toNatClampNeg) fun z10 => kf_l (z10 + a4) fun z11 => kf_l ((S.1 53 3) + x6) fun z12 => kf_l ((kw_ui S 57 z9.toNatClampNeg z11).1 58 x6.toNatClampNeg) fun z13 => kf_l (z13 + a5) fun z14 => kf_l (x6 + Int32.ofInt 1) fun z15 => l_X0_draw_53_17_59 k29 a2 a3 a4 a5 n z15 (kw_ui (kw_ui S 57 z9.toNatClampNeg z11) 58 z12.toNatClampNeg z14)) else (kf_l ((S.1 53 3) <<< ((1 : Int32) &&& 31)) fun z7 => kf_l (a3 + Int32.ofInt 1) fun z8 => k29 z8 (kw_ui S 53 3 z7))) else (kf_l ((S.1 53 3) <<< ((1 : Int32) &&& 31)) fun z4 => kf_l (a3 + Int32.ofInt 1) fun z5 => k29 z5 (kw_ui S 53 3 z4))
theorem l_X0_draw_53_17_59_s (k29 : Int32 → kw_S → kw_S) (a2 : Int32) (a3 : Int32) (a4 : Int32) (a5 : Int32) (n : Nat) (x6 : Int32) (S : kw_S) : l_X0_draw_53_17_59 k29 a2 a3 a4 a5 (n + 1) x6 S = if x6.toInt < (S.1 53 3).toInt then (kf_l ((S.1 53 3) + x6) fun z6 => if z6.toInt < (64 : Int32).toInt then (kf_l ((S.1 53 3) + x6) fun z9 => kf_l (S.1 57 x6.toNatClampNeg) fun z10 => kf_l (z10 + a4) fun z11 => kf_l ((S.1 53 3) + x6) fun z12 => kf_l ((kw_ui S 57 z9.toNatClampNeg z11).1 58 x6.toNatClampNeg) fun z13 => kf_l (z13 + a5) fun z14 => kf_l (x6 + Int32.ofInt 1) fun z15 => l_X0_draw_53_17_59 k29 a2 a3 a4 a5 n z15 (kw_ui (kw_ui S 57 z9.toNatClampNeg z11) 58 z12.toNatClampNeg z14)) else (kf_l ((S.1 53 3) <<< ((1 : Int32) &&& 31)) fun z7 => kf_l (a3 + Int32.ofInt 1) fun z8 => k29 z8 (kw_ui S 53 3 z7))) else (kf_l ((S.1 53 3) <<< ((1 : Int32) &&& 31)) fun z4 => kf_l (a3 + Int32.ofInt 1) fun z5 => k29 z5 (kw_ui S 53 3 z4)) := rfl
noncomputable def l_X0_draw_53_17_29 (a2 : Int32) : Nat → Int32 → kw_S → kw_S
  | 0, _, S => S
  | n + 1, x3, S => if x3.toInt < (S.1 53 2).toInt then (kf_l (f_X1_pullOf_17 S x3 a2) fun z1 => kf_l (S.1 45 x3.toNatClampNeg) fun z2 => kf_l (z1 * z2) fun z3 => l_X0_draw_53_17_59 (l_X0_draw_53_17_29 a2 n) a2 x3 z1 z3 ((65 - (0 : Int32).toInt).toNat + 1) (0 : Int32) S) else (S)
theorem l_X0_draw_53_17_29_s (a2 : Int32) (n : Nat) (x3 : Int32) (S : kw_S) : l_X0_draw_53_17_29 a2 (n + 1) x3 S = if x3.toInt < (S.1 53 2).toInt then (kf_l (f_X1_pullOf_17 S x3 a2) fun z1 => kf_l (S.1 45 x3.toNatClampNeg) fun z2 => kf_l (z1 * z2) fun z3 => l_X0_draw_53_17_59 (l_X0_draw_53_17_29 a2 n) a2 x3 z1 z3 ((65 - (0 : Int32).toInt).toNat + 1) (0 : Int32) S) else (S) := rfl
noncomputable def f_X0_draw_53_17 (σ : kw_S) (w : Int32) : kw_S := l_X0_draw_53_17_29 w ((7 - (0 : Int32).toInt).toNat + 1) (0 : Int32) (kw_ui (kw_ui (kw_ui (kw_ui σ 53 2 (σ.1 17 5)) 53 3 1) 57 ((0 : Int32).toNatClampNeg) 0) 58 ((0 : Int32).toNatClampNeg) 0)
theorem f_X0_draw_53_17_u (σ : kw_S) (w : Int32) : f_X0_draw_53_17 σ w = l_X0_draw_53_17_29 w ((7 - (0 : Int32).toInt).toNat + 1) (0 : Int32) (kw_ui (kw_ui (kw_ui (kw_ui σ 53 2 (σ.1 17 5)) 53 3 1) 57 ((0 : Int32).toNatClampNeg) 0) 58 ((0 : Int32).toNatClampNeg) 0) := rfl
abbrev p_X0_draw_53_17 (σ : kw_S) (w : Int32) : Option Value → kw_S → Prop := fun vv σ' => (kw_I bX σ' ∧ kw_F [53, 57, 58] σ σ') ∧ vv = none ∧ σ' = f_X0_draw_53_17 σ w
set_option maxRecDepth 100000 in
set_option maxHeartbeats 4000000 in
theorem c_X0_draw_53_17 (l : Launch) (σ : kw_S) (hI : kw_I bX σ) (w : Int32) : kw_Met l 3 KX mX0_draw [.ref 53, .ref 17, .int w] σ (p_X0_draw_53_17 σ w) := by
  have r_w := kw_rng w
  have hF0 : kw_F [53, 57, 58] σ σ := kw_F.rf
  have hF := (f_X0_draw_53_17_u σ w).symm
  have q_0 : (0 : Int32).toInt = 0 := rfl
  have q_1 : (1 : Int32).toInt = 1 := rfl
  have q_64 : (64 : Int32).toInt = 64 := rfl
  refine kw_Met.of (by decide) rfl tX0_draw (Nat.le_of_ble_eq_true rfl) ?_
  show kw_AW l 3 kw_E0 KX mX0_draw (p_X0_draw_53_17 σ w) 0 [(0, .ref 53), (1, .ref 17), (2, .int w)] [] σ
  refine kw_aload_n (pc := 0) (i := 0) (k := 0) (n := 0) rfl rfl rfl ?_
  refine kw_aload_n (pc := 1) (i := 1) (k := 1) (n := 1) rfl rfl rfl ?_
  refine kw_get (pc := 2) (i := 2) (v := .int (σ.1 17 5)) rfl rfl rfl lkX0_18 (fun _ => rfl) ?_
  have b1 : 0 ≤ (σ.1 17 5).toInt ∧ (σ.1 17 5).toInt ≤ 6 := hI 17 5
  refine kw_puti (pc := 5) (i := 3) (z := 0) rfl rfl rfl lpX0_24 rfl rfl ?_
  have I2 : kw_I bX (kw_ui σ 53 2 (σ.1 17 5)) := kw_I_ui hI (show 0 ≤ (σ.1 17 5).toInt by omega) (show (σ.1 17 5).toInt ≤ 6 by omega)
  have F3 : kw_F [53, 57, 58] σ (kw_ui σ 53 2 (σ.1 17 5)) := kw_F_ui hF0 (by decide)
  refine kw_aload_n (pc := 8) (i := 4) (k := 0) (n := 0) rfl rfl rfl ?_
  refine kw_iconst (pc := 9) (i := 5) (v := 1) rfl rfl ?_
  refine kw_puti (pc := 10) (i := 6) (z := 0) rfl rfl rfl lpX0_25 rfl rfl ?_
  have I4 : kw_I bX (kw_ui (kw_ui σ 53 2 (σ.1 17 5)) 53 3 1) := kw_I_ui I2 (kw_rng (1 : Int32)).1 (Int.le_of_lt_add_one (kw_rng (1 : Int32)).2)
  have F5 : kw_F [53, 57, 58] σ (kw_ui (kw_ui σ 53 2 (σ.1 17 5)) 53 3 1) := kw_F_ui F3 (by decide)
  refine kw_aload_n (pc := 13) (i := 7) (k := 0) (n := 0) rfl rfl rfl ?_
  refine kw_get (pc := 14) (i := 8) (v := .ref 57) rfl rfl rfl lkX0_9 (fun _ => rfl) ?_
  refine kw_iconst (pc := 17) (i := 9) (v := 0) rfl rfl ?_
  refine kw_iconst (pc := 18) (i := 10) (v := 0) rfl rfl ?_
  refine kw_iast (pc := 19) (i := 11) (n := 64) rfl rfl (by omega) (by omega) ?_
  have I6 : kw_I bX (kw_ui (kw_ui (kw_ui σ 53 2 (σ.1 17 5)) 53 3 1) 57 ((0 : Int32).toNatClampNeg) 0) := kw_I_ui I4 (kw_rng (0 : Int32)).1 (Int.le_of_lt_add_one (kw_rng (0 : Int32)).2)
  have F7 : kw_F [53, 57, 58] σ (kw_ui (kw_ui (kw_ui σ 53 2 (σ.1 17 5)) 53 3 1) 57 ((0 : Int32).toNatClampNeg) 0) := kw_F_ui F5 (by decide)
  refine kw_aload_n (pc := 20) (i := 12) (k := 0) (n := 0) rfl rfl rfl ?_
  refine kw_get (pc := 21) (i := 13) (v := .ref 58) rfl rfl rfl lkX0_15 (fun _ => rfl) ?_
  refine kw_iconst (pc := 24) (i := 14) (v := 0) rfl rfl ?_
  refine kw_iconst (pc := 25) (i := 15) (v := 0) rfl rfl ?_
  refine kw_iast (pc := 26) (i := 16) (n := 64) rfl rfl (by omega) (by omega) ?_
  have I8 : kw_I bX (kw_ui (kw_ui (kw_ui (kw_ui σ 53 2 (σ.1 17 5)) 53 3 1) 57 ((0 : Int32).toNatClampNeg) 0) 58 ((0 : Int32).toNatClampNeg) 0) := kw_I_ui I6 (kw_rng (0 : Int32)).1 (Int.le_of_lt_add_one (kw_rng (0 : Int32)).2)
  have F9 : kw_F [53, 57, 58] σ (kw_ui (kw_ui (kw_ui (kw_ui σ 53 2 (σ.1 17 5)) 53 3 1) 57 ((0 : Int32).toNatClampNeg) 0) 58 ((0 : Int32).toNatClampNeg) 0) := kw_F_ui F7 (by decide)
  refine kw_iconst (pc := 27) (i := 17) (v := 0) rfl rfl ?_
  refine kw_istore_n (pc := 28) (i := 18) (n := 3) (lv' := [(3, .int 0), (0, .ref 53), (1, .ref 17), (2, .int w)]) rfl rfl (by decide) rfl ?_
  have L14 : ∀ (n20 : Nat) (x10 : Int32) (S11 : kw_S), kw_I bX S11 → kw_F [53, 57, 58] σ S11 → 0 ≤ x10.toInt → x10.toInt ≤ 6 → kw_pw x10.toInt (S11.1 53 3).toInt → l_X0_draw_53_17_29 w n20 x10 S11 = (f_X0_draw_53_17 σ w) → (7 - x10.toInt).toNat < n20 → kw_AW l 3 kw_E0 KX mX0_draw (p_X0_draw_53_17 σ w) 29 [(3, .int x10), (0, .ref 53), (1, .ref 17), (2, .int w)] [] S11 := by
    intro n20
    induction n20 with
    | zero => intro x10 S11 I12 F13 v16 v17 v18 hF m19; exact absurd m19 (Nat.not_lt_zero _)
    | succ n20 ih15 =>
      intro x10 S11 I12 F13 v16 v17 v18 hF m19
      replace hF := kf_st (l_X0_draw_53_17_29_s _ _ _ _) hF
      have r_x10 := kw_rng x10
      have w_0 := kw_pwB v18 (by omega) (by omega)
      refine kw_iload_n (pc := 29) (i := 19) (k := 0) (n := 3) rfl rfl rfl ?_
      refine kw_aload_n (pc := 30) (i := 20) (k := 1) (n := 0) rfl rfl rfl ?_
      refine kw_get (pc := 31) (i := 21) (v := .int (S11.1 53 2)) rfl rfl rfl lkX0_24 (fun _ => rfl) ?_
      have b21 : 0 ≤ (S11.1 53 2).toInt ∧ (S11.1 53 2).toInt ≤ 6 := I12 53 2
      refine kw_icmp_ge (pc := 34) (i := 22) (tgt := 146) rfl rfl (fun c22 => ?_) (fun c22 => ?_)
      · replace hF := kf_nl c22 hF
        exact kw_return (pc := 146) (i := 83) rfl rfl ⟨⟨I12, F13⟩, rfl, hF⟩
      · replace hF := kf_p c22 hF
        refine kw_aload_n (pc := 37) (i := 23) (k := 2) (n := 1) rfl rfl rfl ?_
        refine kw_iload_n (pc := 38) (i := 24) (k := 0) (n := 3) rfl rfl rfl ?_
        refine kw_iload_n (pc := 39) (i := 25) (k := 3) (n := 2) rfl rfl rfl ?_
        refine kw_callV (pc := 40) (i := 26) (Y := mX1_pullOf) (a := 17) (As := [.int x10, .int w]) (st := []) kw_hE rfl rfl lvX0_28 arX1_pullOf (c_X1_pullOf_17 l S11 I12 x10 w ) (by decide) (Nat.le_of_ble_eq_true rfl) rfl (fun v S24 p23 => ?_)
        obtain ⟨e27, z26, rfl, ef25⟩ := p23
        rw [e27]
        replace hF := kf_le ef25 hF
        have r_z26 := kw_rng z26
        show kw_AW l 3 kw_E0 KX mX0_draw (p_X0_draw_53_17 σ w) 43 [(3, .int x10), (0, .ref 53), (1, .ref 17), (2, .int w)] [.int z26] S11
        refine kw_istore (pc := 43) (i := 27) (n := 4) (lv' := [(4, .int z26), (3, .int x10), (0, .ref 53), (1, .ref 17), (2, .int w)]) rfl (by decide) rfl ?_
        refine kw_iload (pc := 45) (i := 28) (k := 0) (n := 4) rfl rfl ?_
        refine kw_aload_n (pc := 47) (i := 29) (k := 3) (n := 1) rfl rfl rfl ?_
        refine kw_get (pc := 48) (i := 30) (v := .ref 45) rfl rfl rfl lkX0_32 (fun _ => rfl) ?_
        refine kw_iload_n (pc := 51) (i := 31) (k := 1) (n := 3) rfl rfl rfl ?_
        refine kw_iald (pc := 52) (i := 32) (n := 6) rfl rfl (by omega) (by omega) (fun z28 e_z28 => ?_)
        replace hF := kf_le e_z28 hF
        have t_z28 := congrArg Int32.toInt e_z28
        have r_z28 := kw_rng z28
        refine kw_imul (pc := 53) (i := 33) rfl (fun z29 e_z29 t_z29 => ?_)
        replace hF := kf_le e_z29 hF
        refine kw_istore (pc := 54) (i := 34) (n := 5) (lv' := [(5, .int z29), (4, .int z26), (3, .int x10), (0, .ref 53), (1, .ref 17), (2, .int w)]) rfl (by decide) rfl ?_
        refine kw_iconst (pc := 56) (i := 35) (v := 0) rfl rfl ?_
        refine kw_istore (pc := 57) (i := 36) (n := 6) (lv' := [(6, .int 0), (5, .int z29), (4, .int z26), (3, .int x10), (0, .ref 53), (1, .ref 17), (2, .int w)]) rfl (by decide) rfl ?_
        have L34 : ∀ (n39 : Nat) (x30 : Int32) (S31 : kw_S), kw_I bX S31 → kw_F [53, 57, 58] σ S31 → 0 ≤ x30.toInt → kw_pw x10.toInt (S31.1 53 3).toInt → l_X0_draw_53_17_59 (l_X0_draw_53_17_29 w n20) w x10 z26 z29 n39 x30 S31 = (f_X0_draw_53_17 σ w) → (65 - x30.toInt).toNat < n39 → kw_AW l 3 kw_E0 KX mX0_draw (p_X0_draw_53_17 σ w) 59 [(6, .int x30), (5, .int z29), (4, .int z26), (3, .int x10), (0, .ref 53), (1, .ref 17), (2, .int w)] [] S31 := by
          intro n39
          induction n39 with
          | zero => intro x30 S31 I32 F33 v36 v37 hF m38; exact absurd m38 (Nat.not_lt_zero _)
          | succ n39 ih35 =>
            intro x30 S31 I32 F33 v36 v37 hF m38
            replace hF := kf_st (l_X0_draw_53_17_59_s _ _ _ _ _ _ _ _) hF
            have r_x30 := kw_rng x30
            have w_1 := kw_pwB v37 (by omega) (by omega)
            refine kw_iload (pc := 59) (i := 37) (k := 0) (n := 6) rfl rfl ?_
            refine kw_aload_n (pc := 61) (i := 38) (k := 4) (n := 0) rfl rfl rfl ?_
            refine kw_get (pc := 62) (i := 39) (v := .int (S31.1 53 3)) rfl rfl rfl lkX0_25 (fun _ => rfl) ?_
            have b40 := kw_rng (S31.1 53 3)
            refine kw_icmp_ge (pc := 65) (i := 40) (tgt := 130) rfl rfl (fun c41 => ?_) (fun c41 => ?_)
            · replace hF := kf_nl c41 hF
              refine kw_aload_n (pc := 130) (i := 75) (k := 4) (n := 0) rfl rfl rfl ?_
              refine kw_dup (pc := 131) (i := 76) rfl rfl ?_
              refine kw_get (pc := 132) (i := 77) (v := .int (S31.1 53 3)) rfl rfl rfl lkX0_25 (fun _ => rfl) ?_
              refine kw_iconst (pc := 135) (i := 78) (v := 1) rfl rfl ?_
              refine kw_ishl (pc := 136) (i := 79) rfl (fun z42 e_z42 => ?_)
              have r_z42 := kw_rng z42
              replace hF := kf_le e_z42 hF
              have t_z42 := kw_shl1 z42 (S31.1 53 3) e_z42
              refine kw_puti (pc := 137) (i := 80) (z := 0) rfl rfl rfl lpX0_25 rfl rfl ?_
              have I43 : kw_I bX (kw_ui S31 53 3 z42) := kw_I_ui I32 (kw_rng z42).1 (Int.le_of_lt_add_one (kw_rng z42).2)
              have F44 : kw_F [53, 57, 58] σ (kw_ui S31 53 3 z42) := kw_F_ui F33 (by decide)
              refine kw_iinc' (pc := 140) (i := 81) (k := 3) (fun z => [(3, .int z), (6, .int x30), (5, .int z29), (4, .int z26), (0, .ref 53), (1, .ref 17), (2, .int w)]) rfl rfl (by decide) rfl (fun _ => rfl) (fun z45 e_z45 t_z45 => ?_)
              replace hF := kf_le e_z45 hF
              refine kw_goto (pc := 143) (i := 82) (tgt := 29) rfl rfl ?_
              refine kw_sub (lv' := [(3, .int z45), (0, .ref 53), (1, .ref 17), (2, .int w)]) [0, 4, 5, 6] rfl ?_
              exact ih15 z45 (kw_ui S31 53 3 z42) I43 F44 (by omega) (by omega) (show kw_pw z45.toInt z42.toInt from by exact kw_pwS v37 (by omega) (by omega) (by omega)) hF (by omega)
            · replace hF := kf_p c41 hF
              refine kw_aload_n (pc := 68) (i := 41) (k := 4) (n := 0) rfl rfl rfl ?_
              refine kw_get (pc := 69) (i := 42) (v := .int (S31.1 53 3)) rfl rfl rfl lkX0_25 (fun _ => rfl) ?_
              refine kw_iload (pc := 72) (i := 43) (k := 0) (n := 6) rfl rfl ?_
              refine kw_iadd (pc := 74) (i := 44) rfl (fun z46 e_z46 t_z46 => ?_)
              replace hF := kf_le e_z46 hF
              refine kw_bipush (pc := 75) (i := 45) (v := 64) rfl rfl ?_
              refine kw_icmp_ge (pc := 77) (i := 46) (tgt := 130) rfl rfl (fun c47 => ?_) (fun c47 => ?_)
              · replace hF := kf_nl c47 hF
                refine kw_aload_n (pc := 130) (i := 75) (k := 4) (n := 0) rfl rfl rfl ?_
                refine kw_dup (pc := 131) (i := 76) rfl rfl ?_
                refine kw_get (pc := 132) (i := 77) (v := .int (S31.1 53 3)) rfl rfl rfl lkX0_25 (fun _ => rfl) ?_
                refine kw_iconst (pc := 135) (i := 78) (v := 1) rfl rfl ?_
                refine kw_ishl (pc := 136) (i := 79) rfl (fun z48 e_z48 => ?_)
                have r_z48 := kw_rng z48
                replace hF := kf_le e_z48 hF
                have t_z48 := kw_shl1 z48 (S31.1 53 3) e_z48
                refine kw_puti (pc := 137) (i := 80) (z := 0) rfl rfl rfl lpX0_25 rfl rfl ?_
                have I49 : kw_I bX (kw_ui S31 53 3 z48) := kw_I_ui I32 (kw_rng z48).1 (Int.le_of_lt_add_one (kw_rng z48).2)
                have F50 : kw_F [53, 57, 58] σ (kw_ui S31 53 3 z48) := kw_F_ui F33 (by decide)
                refine kw_iinc' (pc := 140) (i := 81) (k := 3) (fun z => [(3, .int z), (6, .int x30), (5, .int z29), (4, .int z26), (0, .ref 53), (1, .ref 17), (2, .int w)]) rfl rfl (by decide) rfl (fun _ => rfl) (fun z51 e_z51 t_z51 => ?_)
                replace hF := kf_le e_z51 hF
                refine kw_goto (pc := 143) (i := 82) (tgt := 29) rfl rfl ?_
                refine kw_sub (lv' := [(3, .int z51), (0, .ref 53), (1, .ref 17), (2, .int w)]) [0, 4, 5, 6] rfl ?_
                exact ih15 z51 (kw_ui S31 53 3 z48) I49 F50 (by omega) (by omega) (show kw_pw z51.toInt z48.toInt from by exact kw_pwS v37 (by omega) (by omega) (by omega)) hF (by omega)
              · replace hF := kf_p c47 hF
                refine kw_aload_n (pc := 80) (i := 47) (k := 4) (n := 0) rfl rfl rfl ?_
                refine kw_get (pc := 81) (i := 48) (v := .ref 57) rfl rfl rfl lkX0_9 (fun _ => rfl) ?_
                refine kw_aload_n (pc := 84) (i := 49) (k := 4) (n := 0) rfl rfl rfl ?_
                refine kw_get (pc := 85) (i := 50) (v := .int (S31.1 53 3)) rfl rfl rfl lkX0_25 (fun _ => rfl) ?_
                refine kw_iload (pc := 88) (i := 51) (k := 0) (n := 6) rfl rfl ?_
                refine kw_iadd (pc := 90) (i := 52) rfl (fun z52 e_z52 t_z52 => ?_)
                replace hF := kf_le e_z52 hF
                refine kw_aload_n (pc := 91) (i := 53) (k := 4) (n := 0) rfl rfl rfl ?_
                refine kw_get (pc := 92) (i := 54) (v := .ref 57) rfl rfl rfl lkX0_9 (fun _ => rfl) ?_
                refine kw_iload (pc := 95) (i := 55) (k := 0) (n := 6) rfl rfl ?_
                refine kw_iald (pc := 97) (i := 56) (n := 64) rfl rfl (by omega) (by omega) (fun z53 e_z53 => ?_)
                replace hF := kf_le e_z53 hF
                have t_z53 := congrArg Int32.toInt e_z53
                have r_z53 := kw_rng z53
                refine kw_iload (pc := 98) (i := 57) (k := 2) (n := 4) rfl rfl ?_
                refine kw_iadd (pc := 100) (i := 58) rfl (fun z54 e_z54 t_z54 => ?_)
                replace hF := kf_le e_z54 hF
                refine kw_iast (pc := 101) (i := 59) (n := 64) rfl rfl (by omega) (by omega) ?_
                have I55 : kw_I bX (kw_ui S31 57 z52.toNatClampNeg z54) := kw_I_ui I32 (kw_rng z54).1 (Int.le_of_lt_add_one (kw_rng z54).2)
                have F56 : kw_F [53, 57, 58] σ (kw_ui S31 57 z52.toNatClampNeg z54) := kw_F_ui F33 (by decide)
                refine kw_aload_n (pc := 102) (i := 60) (k := 4) (n := 0) rfl rfl rfl ?_
                refine kw_get (pc := 103) (i := 61) (v := .ref 58) rfl rfl rfl lkX0_15 (fun _ => rfl) ?_
                refine kw_aload_n (pc := 106) (i := 62) (k := 4) (n := 0) rfl rfl rfl ?_
                refine kw_get (pc := 107) (i := 63) (v := .int (S31.1 53 3)) rfl rfl rfl lkX0_25 (fun _ => rfl) ?_
                refine kw_iload (pc := 110) (i := 64) (k := 0) (n := 6) rfl rfl ?_
                refine kw_iadd (pc := 112) (i := 65) rfl (fun z57 e_z57 t_z57 => ?_)
                replace hF := kf_le e_z57 hF
                refine kw_aload_n (pc := 113) (i := 66) (k := 4) (n := 0) rfl rfl rfl ?_
                refine kw_get (pc := 114) (i := 67) (v := .ref 58) rfl rfl rfl lkX0_15 (fun _ => rfl) ?_
                refine kw_iload (pc := 117) (i := 68) (k := 0) (n := 6) rfl rfl ?_
                refine kw_iald (pc := 119) (i := 69) (n := 64) rfl rfl (by omega) (by omega) (fun z58 e_z58 => ?_)
                replace hF := kf_le e_z58 hF
                have t_z58 := congrArg Int32.toInt e_z58
                have r_z58 := kw_rng z58
                refine kw_iload (pc := 120) (i := 70) (k := 1) (n := 5) rfl rfl ?_
                refine kw_iadd (pc := 122) (i := 71) rfl (fun z59 e_z59 t_z59 => ?_)
                replace hF := kf_le e_z59 hF
                refine kw_iast (pc := 123) (i := 72) (n := 64) rfl rfl (by omega) (by omega) ?_
                have I60 : kw_I bX (kw_ui (kw_ui S31 57 z52.toNatClampNeg z54) 58 z57.toNatClampNeg z59) := kw_I_ui I55 (kw_rng z59).1 (Int.le_of_lt_add_one (kw_rng z59).2)
                have F61 : kw_F [53, 57, 58] σ (kw_ui (kw_ui S31 57 z52.toNatClampNeg z54) 58 z57.toNatClampNeg z59) := kw_F_ui F56 (by decide)
                refine kw_iinc' (pc := 124) (i := 73) (k := 0) (fun z => [(6, .int z), (5, .int z29), (4, .int z26), (3, .int x10), (0, .ref 53), (1, .ref 17), (2, .int w)]) rfl rfl (by decide) rfl (fun _ => rfl) (fun z62 e_z62 t_z62 => ?_)
                replace hF := kf_le e_z62 hF
                refine kw_goto (pc := 127) (i := 74) (tgt := 59) rfl rfl ?_
                refine kw_sub (lv' := [(6, .int z62), (5, .int z29), (4, .int z26), (3, .int x10), (0, .ref 53), (1, .ref 17), (2, .int w)]) [0, 1, 2, 3, 4, 5, 6] rfl ?_
                exact ih35 z62 (kw_ui (kw_ui S31 57 z52.toNatClampNeg z54) 58 z57.toNatClampNeg z59) I60 F61 (by omega) (show kw_pw x10.toInt (S31.1 53 3).toInt from by exact v37) hF (by omega)
        exact L34 _ 0 S11 I12 F13 (by omega) (show kw_pw x10.toInt (S11.1 53 3).toInt from by exact v18) hF (Nat.lt_succ_self _)
  exact L14 _ 0 (kw_ui (kw_ui (kw_ui (kw_ui σ 53 2 (σ.1 17 5)) 53 3 1) 57 ((0 : Int32).toNatClampNeg) 0) 58 ((0 : Int32).toNatClampNeg) 0) I8 F9 (by omega) (by omega) (show kw_pw (0 : Int32).toInt (1 : Int32).toInt from by exact kw_pw0) hF (Nat.lt_succ_self _)
noncomputable def f_X0_milesOf_53 (σ : kw_S) (s : Int32) : Int32 := if s.toInt < 0 then ((0 : Int32)) else (if s.toInt < (64 : Int32).toInt then (kf_l (σ.1 57 s.toNatClampNeg) fun z1 => kf_l (z1 / (4 : Int32)) fun z2 => z2) else ((0 : Int32)))
theorem f_X0_milesOf_53_u (σ : kw_S) (s : Int32) : f_X0_milesOf_53 σ s = if s.toInt < 0 then ((0 : Int32)) else (if s.toInt < (64 : Int32).toInt then (kf_l (σ.1 57 s.toNatClampNeg) fun z1 => kf_l (z1 / (4 : Int32)) fun z2 => z2) else ((0 : Int32))) := rfl
abbrev p_X0_milesOf_53 (σ : kw_S) (s : Int32) : Option Value → kw_S → Prop := fun vv σ' => σ' = σ ∧ ∃ r : Int32, vv = some (.int r) ∧ r = f_X0_milesOf_53 σ s
set_option maxRecDepth 100000 in
set_option maxHeartbeats 4000000 in
theorem c_X0_milesOf_53 (l : Launch) (σ : kw_S) (hI : kw_I bX σ) (s : Int32) : kw_Met l 1 KX mX0_milesOf [.ref 53, .int s] σ (p_X0_milesOf_53 σ s) := by
  have r_s := kw_rng s
  have hF := (f_X0_milesOf_53_u σ s).symm
  have q_0 : (0 : Int32).toInt = 0 := rfl
  have q_4 : (4 : Int32).toInt = 4 := rfl
  have q_64 : (64 : Int32).toInt = 64 := rfl
  refine kw_Met.of (by decide) rfl tX0_milesOf (Nat.le_of_ble_eq_true rfl) ?_
  show kw_AW l 1 kw_E0 KX mX0_milesOf (p_X0_milesOf_53 σ s) 0 [(0, .ref 53), (1, .int s)] [] σ
  refine kw_iload_n (pc := 0) (i := 0) (k := 1) (n := 1) rfl rfl rfl ?_
  refine kw_if_lt (pc := 1) (i := 1) (tgt := 21) rfl rfl (fun c1 => ?_) (fun c1 => ?_)
  · replace hF := kf_p c1 hF
    refine kw_iconst (pc := 21) (i := 12) (v := 0) rfl rfl ?_
    exact kw_ireturn (pc := 22) (i := 13) (ty := .int) rfl rfl rfl ⟨rfl, _, rfl, hF⟩
  · replace hF := kf_nl c1 hF
    refine kw_iload_n (pc := 4) (i := 2) (k := 1) (n := 1) rfl rfl rfl ?_
    refine kw_bipush (pc := 5) (i := 3) (v := 64) rfl rfl ?_
    refine kw_icmp_ge (pc := 7) (i := 4) (tgt := 21) rfl rfl (fun c2 => ?_) (fun c2 => ?_)
    · replace hF := kf_nl c2 hF
      refine kw_iconst (pc := 21) (i := 12) (v := 0) rfl rfl ?_
      exact kw_ireturn (pc := 22) (i := 13) (ty := .int) rfl rfl rfl ⟨rfl, _, rfl, hF⟩
    · replace hF := kf_p c2 hF
      refine kw_aload_n (pc := 10) (i := 5) (k := 0) (n := 0) rfl rfl rfl ?_
      refine kw_get (pc := 11) (i := 6) (v := .ref 57) rfl rfl rfl lkX0_9 (fun _ => rfl) ?_
      refine kw_iload_n (pc := 14) (i := 7) (k := 1) (n := 1) rfl rfl rfl ?_
      refine kw_iald (pc := 15) (i := 8) (n := 64) rfl rfl (by omega) (by omega) (fun z3 e_z3 => ?_)
      replace hF := kf_le e_z3 hF
      have t_z3 := congrArg Int32.toInt e_z3
      have r_z3 := kw_rng z3
      refine kw_iconst (pc := 16) (i := 9) (v := 4) rfl rfl ?_
      refine kw_idiv (pc := 17) (i := 10) rfl (by omega) (fun z4 e_z4 => ?_)
      have r_z4 := kw_rng z4
      replace hF := kf_le e_z4 hF
      refine kw_goto (pc := 18) (i := 11) (tgt := 22) rfl rfl ?_
      exact kw_ireturn (pc := 22) (i := 13) (ty := .int) rfl rfl rfl ⟨rfl, _, rfl, hF⟩
noncomputable def f_X0_turnBy_53 (σ : kw_S) (s : Int32) : Int32 := if s.toInt < 0 then ((0 : Int32)) else (if s.toInt < (64 : Int32).toInt then (kf_l (σ.1 58 s.toNatClampNeg) fun z1 => z1) else ((0 : Int32)))
theorem f_X0_turnBy_53_u (σ : kw_S) (s : Int32) : f_X0_turnBy_53 σ s = if s.toInt < 0 then ((0 : Int32)) else (if s.toInt < (64 : Int32).toInt then (kf_l (σ.1 58 s.toNatClampNeg) fun z1 => z1) else ((0 : Int32))) := rfl
abbrev p_X0_turnBy_53 (σ : kw_S) (s : Int32) : Option Value → kw_S → Prop := fun vv σ' => σ' = σ ∧ ∃ r : Int32, vv = some (.int r) ∧ r = f_X0_turnBy_53 σ s
set_option maxRecDepth 100000 in
set_option maxHeartbeats 4000000 in
theorem c_X0_turnBy_53 (l : Launch) (σ : kw_S) (hI : kw_I bX σ) (s : Int32) : kw_Met l 1 KX mX0_turnBy [.ref 53, .int s] σ (p_X0_turnBy_53 σ s) := by
  have r_s := kw_rng s
  have hF := (f_X0_turnBy_53_u σ s).symm
  have q_0 : (0 : Int32).toInt = 0 := rfl
  have q_64 : (64 : Int32).toInt = 64 := rfl
  refine kw_Met.of (by decide) rfl tX0_turnBy (Nat.le_of_ble_eq_true rfl) ?_
  show kw_AW l 1 kw_E0 KX mX0_turnBy (p_X0_turnBy_53 σ s) 0 [(0, .ref 53), (1, .int s)] [] σ
  refine kw_iload_n (pc := 0) (i := 0) (k := 1) (n := 1) rfl rfl rfl ?_
  refine kw_if_lt (pc := 1) (i := 1) (tgt := 19) rfl rfl (fun c1 => ?_) (fun c1 => ?_)
  · replace hF := kf_p c1 hF
    refine kw_iconst (pc := 19) (i := 10) (v := 0) rfl rfl ?_
    exact kw_ireturn (pc := 20) (i := 11) (ty := .int) rfl rfl rfl ⟨rfl, _, rfl, hF⟩
  · replace hF := kf_nl c1 hF
    refine kw_iload_n (pc := 4) (i := 2) (k := 1) (n := 1) rfl rfl rfl ?_
    refine kw_bipush (pc := 5) (i := 3) (v := 64) rfl rfl ?_
    refine kw_icmp_ge (pc := 7) (i := 4) (tgt := 19) rfl rfl (fun c2 => ?_) (fun c2 => ?_)
    · replace hF := kf_nl c2 hF
      refine kw_iconst (pc := 19) (i := 10) (v := 0) rfl rfl ?_
      exact kw_ireturn (pc := 20) (i := 11) (ty := .int) rfl rfl rfl ⟨rfl, _, rfl, hF⟩
    · replace hF := kf_p c2 hF
      refine kw_aload_n (pc := 10) (i := 5) (k := 0) (n := 0) rfl rfl rfl ?_
      refine kw_get (pc := 11) (i := 6) (v := .ref 58) rfl rfl rfl lkX0_15 (fun _ => rfl) ?_
      refine kw_iload_n (pc := 14) (i := 7) (k := 1) (n := 1) rfl rfl rfl ?_
      refine kw_iald (pc := 15) (i := 8) (n := 64) rfl rfl (by omega) (by omega) (fun z3 e_z3 => ?_)
      replace hF := kf_le e_z3 hF
      have t_z3 := congrArg Int32.toInt e_z3
      have r_z3 := kw_rng z3
      refine kw_goto (pc := 16) (i := 9) (tgt := 20) rfl rfl ?_
      exact kw_ireturn (pc := 20) (i := 11) (ty := .int) rfl rfl rfl ⟨rfl, _, rfl, hF⟩
noncomputable def l_X0_draw_54_17_59 (k29 : Int32 → kw_S → kw_S) (a2 : Int32) (a3 : Int32) (a4 : Int32) (a5 : Int32) : Nat → Int32 → kw_S → kw_S
  | 0, _, S => S
  | n + 1, x6, S => if x6.toInt < (S.1 54 3).toInt then (kf_l ((S.1 54 3) + x6) fun z6 => if z6.toInt < (64 : Int32).toInt then (kf_l ((S.1 54 3) + x6) fun z9 => kf_l (S.1 59 x6.toNatClampNeg) fun z10 => kf_l (z10 + a4) fun z11 => kf_l ((S.1 54 3) + x6) fun z12 => kf_l ((kw_ui S 59 z9.toNatClampNeg z11).1 60 x6.toNatClampNeg) fun z13 => kf_l (z13 + a5) fun z14 => kf_l (x6 + Int32.ofInt 1) fun z15 => l_X0_draw_54_17_59 k29 a2 a3 a4 a5 n z15 (kw_ui (kw_ui S 59 z9.toNatClampNeg z11) 60 z12.toNatClampNeg z14)) else (kf_l ((S.1 54 3) <<< ((1 : Int32) &&& 31)) fun z7 => kf_l (a3 + Int32.ofInt 1) fun z8 => k29 z8 (kw_ui S 54 3 z7))) else (kf_l ((S.1 54 3) <<< ((1 : Int32) &&& 31)) fun z4 => kf_l (a3 + Int32.ofInt 1) fun z5 => k29 z5 (kw_ui S 54 3 z4))
theorem l_X0_draw_54_17_59_s (k29 : Int32 → kw_S → kw_S) (a2 : Int32) (a3 : Int32) (a4 : Int32) (a5 : Int32) (n : Nat) (x6 : Int32) (S : kw_S) : l_X0_draw_54_17_59 k29 a2 a3 a4 a5 (n + 1) x6 S = if x6.toInt < (S.1 54 3).toInt then (kf_l ((S.1 54 3) + x6) fun z6 => if z6.toInt < (64 : Int32).toInt then (kf_l ((S.1 54 3) + x6) fun z9 => kf_l (S.1 59 x6.toNatClampNeg) fun z10 => kf_l (z10 + a4) fun z11 => kf_l ((S.1 54 3) + x6) fun z12 => kf_l ((kw_ui S 59 z9.toNatClampNeg z11).1 60 x6.toNatClampNeg) fun z13 => kf_l (z13 + a5) fun z14 => kf_l (x6 + Int32.ofInt 1) fun z15 => l_X0_draw_54_17_59 k29 a2 a3 a4 a5 n z15 (kw_ui (kw_ui S 59 z9.toNatClampNeg z11) 60 z12.toNatClampNeg z14)) else (kf_l ((S.1 54 3) <<< ((1 : Int32) &&& 31)) fun z7 => kf_l (a3 + Int32.ofInt 1) fun z8 => k29 z8 (kw_ui S 54 3 z7))) else (kf_l ((S.1 54 3) <<< ((1 : Int32) &&& 31)) fun z4 => kf_l (a3 + Int32.ofInt 1) fun z5 => k29 z5 (kw_ui S 54 3 z4)) := rfl
noncomputable def l_X0_draw_54_17_29 (a2 : Int32) : Nat → Int32 → kw_S → kw_S
  | 0, _, S => S
  | n + 1, x3, S => if x3.toInt < (S.1 54 2).toInt then (kf_l (f_X1_pullOf_17 S x3 a2) fun z1 => kf_l (S.1 45 x3.toNatClampNeg) fun z2 => kf_l (z1 * z2) fun z3 => l_X0_draw_54_17_59 (l_X0_draw_54_17_29 a2 n) a2 x3 z1 z3 ((65 - (0 : Int32).toInt).toNat + 1) (0 : Int32) S) else (S)
theorem l_X0_draw_54_17_29_s (a2 : Int32) (n : Nat) (x3 : Int32) (S : kw_S) : l_X0_draw_54_17_29 a2 (n + 1) x3 S = if x3.toInt < (S.1 54 2).toInt then (kf_l (f_X1_pullOf_17 S x3 a2) fun z1 => kf_l (S.1 45 x3.toNatClampNeg) fun z2 => kf_l (z1 * z2) fun z3 => l_X0_draw_54_17_59 (l_X0_draw_54_17_29 a2 n) a2 x3 z1 z3 ((65 - (0 : Int32).toInt).toNat + 1) (0 : Int32) S) else (S) := rfl
noncomputable def f_X0_draw_54_17 (σ : kw_S) (w : Int32) : kw_S := l_X0_draw_54_17_29 w ((7 - (0 : Int32).toInt).toNat + 1) (0 : Int32) (kw_ui (kw_ui (kw_ui (kw_ui σ 54 2 (σ.1 17 5)) 54 3 1) 59 ((0 : Int32).toNatClampNeg) 0) 60 ((0 : Int32).toNatClampNeg) 0)
theorem f_X0_draw_54_17_u (σ : kw_S) (w : Int32) : f_X0_draw_54_17 σ w = l_X0_draw_54_17_29 w ((7 - (0 : Int32).toInt).toNat + 1) (0 : Int32) (kw_ui (kw_ui (kw_ui (kw_ui σ 54 2 (σ.1 17 5)) 54 3 1) 59 ((0 : Int32).toNatClampNeg) 0) 60 ((0 : Int32).toNatClampNeg) 0) := rfl
abbrev p_X0_draw_54_17 (σ : kw_S) (w : Int32) : Option Value → kw_S → Prop := fun vv σ' => (kw_I bX σ' ∧ kw_F [54, 59, 60] σ σ') ∧ vv = none ∧ σ' = f_X0_draw_54_17 σ w
set_option maxRecDepth 100000 in
set_option maxHeartbeats 4000000 in
theorem c_X0_draw_54_17 (l : Launch) (σ : kw_S) (hI : kw_I bX σ) (w : Int32) : kw_Met l 3 KX mX0_draw [.ref 54, .ref 17, .int w] σ (p_X0_draw_54_17 σ w) := by
  have r_w := kw_rng w
  have hF0 : kw_F [54, 59, 60] σ σ := kw_F.rf
  have hF := (f_X0_draw_54_17_u σ w).symm
  have q_0 : (0 : Int32).toInt = 0 := rfl
  have q_1 : (1 : Int32).toInt = 1 := rfl
  have q_64 : (64 : Int32).toInt = 64 := rfl
  refine kw_Met.of (by decide) rfl tX0_draw (Nat.le_of_ble_eq_true rfl) ?_
  show kw_AW l 3 kw_E0 KX mX0_draw (p_X0_draw_54_17 σ w) 0 [(0, .ref 54), (1, .ref 17), (2, .int w)] [] σ
  refine kw_aload_n (pc := 0) (i := 0) (k := 0) (n := 0) rfl rfl rfl ?_
  refine kw_aload_n (pc := 1) (i := 1) (k := 1) (n := 1) rfl rfl rfl ?_
  refine kw_get (pc := 2) (i := 2) (v := .int (σ.1 17 5)) rfl rfl rfl lkX0_18 (fun _ => rfl) ?_
  have b1 : 0 ≤ (σ.1 17 5).toInt ∧ (σ.1 17 5).toInt ≤ 6 := hI 17 5
  refine kw_puti (pc := 5) (i := 3) (z := 0) rfl rfl rfl lpX0_24 rfl rfl ?_
  have I2 : kw_I bX (kw_ui σ 54 2 (σ.1 17 5)) := kw_I_ui hI (show 0 ≤ (σ.1 17 5).toInt by omega) (show (σ.1 17 5).toInt ≤ 6 by omega)
  have F3 : kw_F [54, 59, 60] σ (kw_ui σ 54 2 (σ.1 17 5)) := kw_F_ui hF0 (by decide)
  refine kw_aload_n (pc := 8) (i := 4) (k := 0) (n := 0) rfl rfl rfl ?_
  refine kw_iconst (pc := 9) (i := 5) (v := 1) rfl rfl ?_
  refine kw_puti (pc := 10) (i := 6) (z := 0) rfl rfl rfl lpX0_25 rfl rfl ?_
  have I4 : kw_I bX (kw_ui (kw_ui σ 54 2 (σ.1 17 5)) 54 3 1) := kw_I_ui I2 (kw_rng (1 : Int32)).1 (Int.le_of_lt_add_one (kw_rng (1 : Int32)).2)
  have F5 : kw_F [54, 59, 60] σ (kw_ui (kw_ui σ 54 2 (σ.1 17 5)) 54 3 1) := kw_F_ui F3 (by decide)
  refine kw_aload_n (pc := 13) (i := 7) (k := 0) (n := 0) rfl rfl rfl ?_
  refine kw_get (pc := 14) (i := 8) (v := .ref 59) rfl rfl rfl lkX0_9 (fun _ => rfl) ?_
  refine kw_iconst (pc := 17) (i := 9) (v := 0) rfl rfl ?_
  refine kw_iconst (pc := 18) (i := 10) (v := 0) rfl rfl ?_
  refine kw_iast (pc := 19) (i := 11) (n := 64) rfl rfl (by omega) (by omega) ?_
  have I6 : kw_I bX (kw_ui (kw_ui (kw_ui σ 54 2 (σ.1 17 5)) 54 3 1) 59 ((0 : Int32).toNatClampNeg) 0) := kw_I_ui I4 (kw_rng (0 : Int32)).1 (Int.le_of_lt_add_one (kw_rng (0 : Int32)).2)
  have F7 : kw_F [54, 59, 60] σ (kw_ui (kw_ui (kw_ui σ 54 2 (σ.1 17 5)) 54 3 1) 59 ((0 : Int32).toNatClampNeg) 0) := kw_F_ui F5 (by decide)
  refine kw_aload_n (pc := 20) (i := 12) (k := 0) (n := 0) rfl rfl rfl ?_
  refine kw_get (pc := 21) (i := 13) (v := .ref 60) rfl rfl rfl lkX0_15 (fun _ => rfl) ?_
  refine kw_iconst (pc := 24) (i := 14) (v := 0) rfl rfl ?_
  refine kw_iconst (pc := 25) (i := 15) (v := 0) rfl rfl ?_
  refine kw_iast (pc := 26) (i := 16) (n := 64) rfl rfl (by omega) (by omega) ?_
  have I8 : kw_I bX (kw_ui (kw_ui (kw_ui (kw_ui σ 54 2 (σ.1 17 5)) 54 3 1) 59 ((0 : Int32).toNatClampNeg) 0) 60 ((0 : Int32).toNatClampNeg) 0) := kw_I_ui I6 (kw_rng (0 : Int32)).1 (Int.le_of_lt_add_one (kw_rng (0 : Int32)).2)
  have F9 : kw_F [54, 59, 60] σ (kw_ui (kw_ui (kw_ui (kw_ui σ 54 2 (σ.1 17 5)) 54 3 1) 59 ((0 : Int32).toNatClampNeg) 0) 60 ((0 : Int32).toNatClampNeg) 0) := kw_F_ui F7 (by decide)
  refine kw_iconst (pc := 27) (i := 17) (v := 0) rfl rfl ?_
  refine kw_istore_n (pc := 28) (i := 18) (n := 3) (lv' := [(3, .int 0), (0, .ref 54), (1, .ref 17), (2, .int w)]) rfl rfl (by decide) rfl ?_
  have L14 : ∀ (n20 : Nat) (x10 : Int32) (S11 : kw_S), kw_I bX S11 → kw_F [54, 59, 60] σ S11 → 0 ≤ x10.toInt → x10.toInt ≤ 6 → kw_pw x10.toInt (S11.1 54 3).toInt → l_X0_draw_54_17_29 w n20 x10 S11 = (f_X0_draw_54_17 σ w) → (7 - x10.toInt).toNat < n20 → kw_AW l 3 kw_E0 KX mX0_draw (p_X0_draw_54_17 σ w) 29 [(3, .int x10), (0, .ref 54), (1, .ref 17), (2, .int w)] [] S11 := by
    intro n20
    induction n20 with
    | zero => intro x10 S11 I12 F13 v16 v17 v18 hF m19; exact absurd m19 (Nat.not_lt_zero _)
    | succ n20 ih15 =>
      intro x10 S11 I12 F13 v16 v17 v18 hF m19
      replace hF := kf_st (l_X0_draw_54_17_29_s _ _ _ _) hF
      have r_x10 := kw_rng x10
      have w_0 := kw_pwB v18 (by omega) (by omega)
      refine kw_iload_n (pc := 29) (i := 19) (k := 0) (n := 3) rfl rfl rfl ?_
      refine kw_aload_n (pc := 30) (i := 20) (k := 1) (n := 0) rfl rfl rfl ?_
      refine kw_get (pc := 31) (i := 21) (v := .int (S11.1 54 2)) rfl rfl rfl lkX0_24 (fun _ => rfl) ?_
      have b21 : 0 ≤ (S11.1 54 2).toInt ∧ (S11.1 54 2).toInt ≤ 6 := I12 54 2
      refine kw_icmp_ge (pc := 34) (i := 22) (tgt := 146) rfl rfl (fun c22 => ?_) (fun c22 => ?_)
      · replace hF := kf_nl c22 hF
        exact kw_return (pc := 146) (i := 83) rfl rfl ⟨⟨I12, F13⟩, rfl, hF⟩
      · replace hF := kf_p c22 hF
        refine kw_aload_n (pc := 37) (i := 23) (k := 2) (n := 1) rfl rfl rfl ?_
        refine kw_iload_n (pc := 38) (i := 24) (k := 0) (n := 3) rfl rfl rfl ?_
        refine kw_iload_n (pc := 39) (i := 25) (k := 3) (n := 2) rfl rfl rfl ?_
        refine kw_callV (pc := 40) (i := 26) (Y := mX1_pullOf) (a := 17) (As := [.int x10, .int w]) (st := []) kw_hE rfl rfl lvX0_28 arX1_pullOf (c_X1_pullOf_17 l S11 I12 x10 w ) (by decide) (Nat.le_of_ble_eq_true rfl) rfl (fun v S24 p23 => ?_)
        obtain ⟨e27, z26, rfl, ef25⟩ := p23
        rw [e27]
        replace hF := kf_le ef25 hF
        have r_z26 := kw_rng z26
        show kw_AW l 3 kw_E0 KX mX0_draw (p_X0_draw_54_17 σ w) 43 [(3, .int x10), (0, .ref 54), (1, .ref 17), (2, .int w)] [.int z26] S11
        refine kw_istore (pc := 43) (i := 27) (n := 4) (lv' := [(4, .int z26), (3, .int x10), (0, .ref 54), (1, .ref 17), (2, .int w)]) rfl (by decide) rfl ?_
        refine kw_iload (pc := 45) (i := 28) (k := 0) (n := 4) rfl rfl ?_
        refine kw_aload_n (pc := 47) (i := 29) (k := 3) (n := 1) rfl rfl rfl ?_
        refine kw_get (pc := 48) (i := 30) (v := .ref 45) rfl rfl rfl lkX0_32 (fun _ => rfl) ?_
        refine kw_iload_n (pc := 51) (i := 31) (k := 1) (n := 3) rfl rfl rfl ?_
        refine kw_iald (pc := 52) (i := 32) (n := 6) rfl rfl (by omega) (by omega) (fun z28 e_z28 => ?_)
        replace hF := kf_le e_z28 hF
        have t_z28 := congrArg Int32.toInt e_z28
        have r_z28 := kw_rng z28
        refine kw_imul (pc := 53) (i := 33) rfl (fun z29 e_z29 t_z29 => ?_)
        replace hF := kf_le e_z29 hF
        refine kw_istore (pc := 54) (i := 34) (n := 5) (lv' := [(5, .int z29), (4, .int z26), (3, .int x10), (0, .ref 54), (1, .ref 17), (2, .int w)]) rfl (by decide) rfl ?_
        refine kw_iconst (pc := 56) (i := 35) (v := 0) rfl rfl ?_
        refine kw_istore (pc := 57) (i := 36) (n := 6) (lv' := [(6, .int 0), (5, .int z29), (4, .int z26), (3, .int x10), (0, .ref 54), (1, .ref 17), (2, .int w)]) rfl (by decide) rfl ?_
        have L34 : ∀ (n39 : Nat) (x30 : Int32) (S31 : kw_S), kw_I bX S31 → kw_F [54, 59, 60] σ S31 → 0 ≤ x30.toInt → kw_pw x10.toInt (S31.1 54 3).toInt → l_X0_draw_54_17_59 (l_X0_draw_54_17_29 w n20) w x10 z26 z29 n39 x30 S31 = (f_X0_draw_54_17 σ w) → (65 - x30.toInt).toNat < n39 → kw_AW l 3 kw_E0 KX mX0_draw (p_X0_draw_54_17 σ w) 59 [(6, .int x30), (5, .int z29), (4, .int z26), (3, .int x10), (0, .ref 54), (1, .ref 17), (2, .int w)] [] S31 := by
          intro n39
          induction n39 with
          | zero => intro x30 S31 I32 F33 v36 v37 hF m38; exact absurd m38 (Nat.not_lt_zero _)
          | succ n39 ih35 =>
            intro x30 S31 I32 F33 v36 v37 hF m38
            replace hF := kf_st (l_X0_draw_54_17_59_s _ _ _ _ _ _ _ _) hF
            have r_x30 := kw_rng x30
            have w_1 := kw_pwB v37 (by omega) (by omega)
            refine kw_iload (pc := 59) (i := 37) (k := 0) (n := 6) rfl rfl ?_
            refine kw_aload_n (pc := 61) (i := 38) (k := 4) (n := 0) rfl rfl rfl ?_
            refine kw_get (pc := 62) (i := 39) (v := .int (S31.1 54 3)) rfl rfl rfl lkX0_25 (fun _ => rfl) ?_
            have b40 := kw_rng (S31.1 54 3)
            refine kw_icmp_ge (pc := 65) (i := 40) (tgt := 130) rfl rfl (fun c41 => ?_) (fun c41 => ?_)
            · replace hF := kf_nl c41 hF
              refine kw_aload_n (pc := 130) (i := 75) (k := 4) (n := 0) rfl rfl rfl ?_
              refine kw_dup (pc := 131) (i := 76) rfl rfl ?_
              refine kw_get (pc := 132) (i := 77) (v := .int (S31.1 54 3)) rfl rfl rfl lkX0_25 (fun _ => rfl) ?_
              refine kw_iconst (pc := 135) (i := 78) (v := 1) rfl rfl ?_
              refine kw_ishl (pc := 136) (i := 79) rfl (fun z42 e_z42 => ?_)
              have r_z42 := kw_rng z42
              replace hF := kf_le e_z42 hF
              have t_z42 := kw_shl1 z42 (S31.1 54 3) e_z42
              refine kw_puti (pc := 137) (i := 80) (z := 0) rfl rfl rfl lpX0_25 rfl rfl ?_
              have I43 : kw_I bX (kw_ui S31 54 3 z42) := kw_I_ui I32 (kw_rng z42).1 (Int.le_of_lt_add_one (kw_rng z42).2)
              have F44 : kw_F [54, 59, 60] σ (kw_ui S31 54 3 z42) := kw_F_ui F33 (by decide)
              refine kw_iinc' (pc := 140) (i := 81) (k := 3) (fun z => [(3, .int z), (6, .int x30), (5, .int z29), (4, .int z26), (0, .ref 54), (1, .ref 17), (2, .int w)]) rfl rfl (by decide) rfl (fun _ => rfl) (fun z45 e_z45 t_z45 => ?_)
              replace hF := kf_le e_z45 hF
              refine kw_goto (pc := 143) (i := 82) (tgt := 29) rfl rfl ?_
              refine kw_sub (lv' := [(3, .int z45), (0, .ref 54), (1, .ref 17), (2, .int w)]) [0, 4, 5, 6] rfl ?_
              exact ih15 z45 (kw_ui S31 54 3 z42) I43 F44 (by omega) (by omega) (show kw_pw z45.toInt z42.toInt from by exact kw_pwS v37 (by omega) (by omega) (by omega)) hF (by omega)
            · replace hF := kf_p c41 hF
              refine kw_aload_n (pc := 68) (i := 41) (k := 4) (n := 0) rfl rfl rfl ?_
              refine kw_get (pc := 69) (i := 42) (v := .int (S31.1 54 3)) rfl rfl rfl lkX0_25 (fun _ => rfl) ?_
              refine kw_iload (pc := 72) (i := 43) (k := 0) (n := 6) rfl rfl ?_
              refine kw_iadd (pc := 74) (i := 44) rfl (fun z46 e_z46 t_z46 => ?_)
              replace hF := kf_le e_z46 hF
              refine kw_bipush (pc := 75) (i := 45) (v := 64) rfl rfl ?_
              refine kw_icmp_ge (pc := 77) (i := 46) (tgt := 130) rfl rfl (fun c47 => ?_) (fun c47 => ?_)
              · replace hF := kf_nl c47 hF
                refine kw_aload_n (pc := 130) (i := 75) (k := 4) (n := 0) rfl rfl rfl ?_
                refine kw_dup (pc := 131) (i := 76) rfl rfl ?_
                refine kw_get (pc := 132) (i := 77) (v := .int (S31.1 54 3)) rfl rfl rfl lkX0_25 (fun _ => rfl) ?_
                refine kw_iconst (pc := 135) (i := 78) (v := 1) rfl rfl ?_
                refine kw_ishl (pc := 136) (i := 79) rfl (fun z48 e_z48 => ?_)
                have r_z48 := kw_rng z48
                replace hF := kf_le e_z48 hF
                have t_z48 := kw_shl1 z48 (S31.1 54 3) e_z48
                refine kw_puti (pc := 137) (i := 80) (z := 0) rfl rfl rfl lpX0_25 rfl rfl ?_
                have I49 : kw_I bX (kw_ui S31 54 3 z48) := kw_I_ui I32 (kw_rng z48).1 (Int.le_of_lt_add_one (kw_rng z48).2)
                have F50 : kw_F [54, 59, 60] σ (kw_ui S31 54 3 z48) := kw_F_ui F33 (by decide)
                refine kw_iinc' (pc := 140) (i := 81) (k := 3) (fun z => [(3, .int z), (6, .int x30), (5, .int z29), (4, .int z26), (0, .ref 54), (1, .ref 17), (2, .int w)]) rfl rfl (by decide) rfl (fun _ => rfl) (fun z51 e_z51 t_z51 => ?_)
                replace hF := kf_le e_z51 hF
                refine kw_goto (pc := 143) (i := 82) (tgt := 29) rfl rfl ?_
                refine kw_sub (lv' := [(3, .int z51), (0, .ref 54), (1, .ref 17), (2, .int w)]) [0, 4, 5, 6] rfl ?_
                exact ih15 z51 (kw_ui S31 54 3 z48) I49 F50 (by omega) (by omega) (show kw_pw z51.toInt z48.toInt from by exact kw_pwS v37 (by omega) (by omega) (by omega)) hF (by omega)
              · replace hF := kf_p c47 hF
                refine kw_aload_n (pc := 80) (i := 47) (k := 4) (n := 0) rfl rfl rfl ?_
                refine kw_get (pc := 81) (i := 48) (v := .ref 59) rfl rfl rfl lkX0_9 (fun _ => rfl) ?_
                refine kw_aload_n (pc := 84) (i := 49) (k := 4) (n := 0) rfl rfl rfl ?_
                refine kw_get (pc := 85) (i := 50) (v := .int (S31.1 54 3)) rfl rfl rfl lkX0_25 (fun _ => rfl) ?_
                refine kw_iload (pc := 88) (i := 51) (k := 0) (n := 6) rfl rfl ?_
                refine kw_iadd (pc := 90) (i := 52) rfl (fun z52 e_z52 t_z52 => ?_)
                replace hF := kf_le e_z52 hF
                refine kw_aload_n (pc := 91) (i := 53) (k := 4) (n := 0) rfl rfl rfl ?_
                refine kw_get (pc := 92) (i := 54) (v := .ref 59) rfl rfl rfl lkX0_9 (fun _ => rfl) ?_
                refine kw_iload (pc := 95) (i := 55) (k := 0) (n := 6) rfl rfl ?_
                refine kw_iald (pc := 97) (i := 56) (n := 64) rfl rfl (by omega) (by omega) (fun z53 e_z53 => ?_)
                replace hF := kf_le e_z53 hF
                have t_z53 := congrArg Int32.toInt e_z53
                have r_z53 := kw_rng z53
                refine kw_iload (pc := 98) (i := 57) (k := 2) (n := 4) rfl rfl ?_
                refine kw_iadd (pc := 100) (i := 58) rfl (fun z54 e_z54 t_z54 => ?_)
                replace hF := kf_le e_z54 hF
                refine kw_iast (pc := 101) (i := 59) (n := 64) rfl rfl (by omega) (by omega) ?_
                have I55 : kw_I bX (kw_ui S31 59 z52.toNatClampNeg z54) := kw_I_ui I32 (kw_rng z54).1 (Int.le_of_lt_add_one (kw_rng z54).2)
                have F56 : kw_F [54, 59, 60] σ (kw_ui S31 59 z52.toNatClampNeg z54) := kw_F_ui F33 (by decide)
                refine kw_aload_n (pc := 102) (i := 60) (k := 4) (n := 0) rfl rfl rfl ?_
                refine kw_get (pc := 103) (i := 61) (v := .ref 60) rfl rfl rfl lkX0_15 (fun _ => rfl) ?_
                refine kw_aload_n (pc := 106) (i := 62) (k := 4) (n := 0) rfl rfl rfl ?_
                refine kw_get (pc := 107) (i := 63) (v := .int (S31.1 54 3)) rfl rfl rfl lkX0_25 (fun _ => rfl) ?_
                refine kw_iload (pc := 110) (i := 64) (k := 0) (n := 6) rfl rfl ?_
                refine kw_iadd (pc := 112) (i := 65) rfl (fun z57 e_z57 t_z57 => ?_)
                replace hF := kf_le e_z57 hF
                refine kw_aload_n (pc := 113) (i := 66) (k := 4) (n := 0) rfl rfl rfl ?_
                refine kw_get (pc := 114) (i := 67) (v := .ref 60) rfl rfl rfl lkX0_15 (fun _ => rfl) ?_
                refine kw_iload (pc := 117) (i := 68) (k := 0) (n := 6) rfl rfl ?_
                refine kw_iald (pc := 119) (i := 69) (n := 64) rfl rfl (by omega) (by omega) (fun z58 e_z58 => ?_)
                replace hF := kf_le e_z58 hF
                have t_z58 := congrArg Int32.toInt e_z58
                have r_z58 := kw_rng z58
                refine kw_iload (pc := 120) (i := 70) (k := 1) (n := 5) rfl rfl ?_
                refine kw_iadd (pc := 122) (i := 71) rfl (fun z59 e_z59 t_z59 => ?_)
                replace hF := kf_le e_z59 hF
                refine kw_iast (pc := 123) (i := 72) (n := 64) rfl rfl (by omega) (by omega) ?_
                have I60 : kw_I bX (kw_ui (kw_ui S31 59 z52.toNatClampNeg z54) 60 z57.toNatClampNeg z59) := kw_I_ui I55 (kw_rng z59).1 (Int.le_of_lt_add_one (kw_rng z59).2)
                have F61 : kw_F [54, 59, 60] σ (kw_ui (kw_ui S31 59 z52.toNatClampNeg z54) 60 z57.toNatClampNeg z59) := kw_F_ui F56 (by decide)
                refine kw_iinc' (pc := 124) (i := 73) (k := 0) (fun z => [(6, .int z), (5, .int z29), (4, .int z26), (3, .int x10), (0, .ref 54), (1, .ref 17), (2, .int w)]) rfl rfl (by decide) rfl (fun _ => rfl) (fun z62 e_z62 t_z62 => ?_)
                replace hF := kf_le e_z62 hF
                refine kw_goto (pc := 127) (i := 74) (tgt := 59) rfl rfl ?_
                refine kw_sub (lv' := [(6, .int z62), (5, .int z29), (4, .int z26), (3, .int x10), (0, .ref 54), (1, .ref 17), (2, .int w)]) [0, 1, 2, 3, 4, 5, 6] rfl ?_
                exact ih35 z62 (kw_ui (kw_ui S31 59 z52.toNatClampNeg z54) 60 z57.toNatClampNeg z59) I60 F61 (by omega) (show kw_pw x10.toInt (S31.1 54 3).toInt from by exact v37) hF (by omega)
        exact L34 _ 0 S11 I12 F13 (by omega) (show kw_pw x10.toInt (S11.1 54 3).toInt from by exact v18) hF (Nat.lt_succ_self _)
  exact L14 _ 0 (kw_ui (kw_ui (kw_ui (kw_ui σ 54 2 (σ.1 17 5)) 54 3 1) 59 ((0 : Int32).toNatClampNeg) 0) 60 ((0 : Int32).toNatClampNeg) 0) I8 F9 (by omega) (by omega) (show kw_pw (0 : Int32).toInt (1 : Int32).toInt from by exact kw_pw0) hF (Nat.lt_succ_self _)
noncomputable def f_X0_milesOf_54 (σ : kw_S) (s : Int32) : Int32 := if s.toInt < 0 then ((0 : Int32)) else (if s.toInt < (64 : Int32).toInt then (kf_l (σ.1 59 s.toNatClampNeg) fun z1 => kf_l (z1 / (4 : Int32)) fun z2 => z2) else ((0 : Int32)))
theorem f_X0_milesOf_54_u (σ : kw_S) (s : Int32) : f_X0_milesOf_54 σ s = if s.toInt < 0 then ((0 : Int32)) else (if s.toInt < (64 : Int32).toInt then (kf_l (σ.1 59 s.toNatClampNeg) fun z1 => kf_l (z1 / (4 : Int32)) fun z2 => z2) else ((0 : Int32))) := rfl
abbrev p_X0_milesOf_54 (σ : kw_S) (s : Int32) : Option Value → kw_S → Prop := fun vv σ' => σ' = σ ∧ ∃ r : Int32, vv = some (.int r) ∧ r = f_X0_milesOf_54 σ s
set_option maxRecDepth 100000 in
set_option maxHeartbeats 4000000 in
theorem c_X0_milesOf_54 (l : Launch) (σ : kw_S) (hI : kw_I bX σ) (s : Int32) : kw_Met l 1 KX mX0_milesOf [.ref 54, .int s] σ (p_X0_milesOf_54 σ s) := by
  have r_s := kw_rng s
  have hF := (f_X0_milesOf_54_u σ s).symm
  have q_0 : (0 : Int32).toInt = 0 := rfl
  have q_4 : (4 : Int32).toInt = 4 := rfl
  have q_64 : (64 : Int32).toInt = 64 := rfl
  refine kw_Met.of (by decide) rfl tX0_milesOf (Nat.le_of_ble_eq_true rfl) ?_
  show kw_AW l 1 kw_E0 KX mX0_milesOf (p_X0_milesOf_54 σ s) 0 [(0, .ref 54), (1, .int s)] [] σ
  refine kw_iload_n (pc := 0) (i := 0) (k := 1) (n := 1) rfl rfl rfl ?_
  refine kw_if_lt (pc := 1) (i := 1) (tgt := 21) rfl rfl (fun c1 => ?_) (fun c1 => ?_)
  · replace hF := kf_p c1 hF
    refine kw_iconst (pc := 21) (i := 12) (v := 0) rfl rfl ?_
    exact kw_ireturn (pc := 22) (i := 13) (ty := .int) rfl rfl rfl ⟨rfl, _, rfl, hF⟩
  · replace hF := kf_nl c1 hF
    refine kw_iload_n (pc := 4) (i := 2) (k := 1) (n := 1) rfl rfl rfl ?_
    refine kw_bipush (pc := 5) (i := 3) (v := 64) rfl rfl ?_
    refine kw_icmp_ge (pc := 7) (i := 4) (tgt := 21) rfl rfl (fun c2 => ?_) (fun c2 => ?_)
    · replace hF := kf_nl c2 hF
      refine kw_iconst (pc := 21) (i := 12) (v := 0) rfl rfl ?_
      exact kw_ireturn (pc := 22) (i := 13) (ty := .int) rfl rfl rfl ⟨rfl, _, rfl, hF⟩
    · replace hF := kf_p c2 hF
      refine kw_aload_n (pc := 10) (i := 5) (k := 0) (n := 0) rfl rfl rfl ?_
      refine kw_get (pc := 11) (i := 6) (v := .ref 59) rfl rfl rfl lkX0_9 (fun _ => rfl) ?_
      refine kw_iload_n (pc := 14) (i := 7) (k := 1) (n := 1) rfl rfl rfl ?_
      refine kw_iald (pc := 15) (i := 8) (n := 64) rfl rfl (by omega) (by omega) (fun z3 e_z3 => ?_)
      replace hF := kf_le e_z3 hF
      have t_z3 := congrArg Int32.toInt e_z3
      have r_z3 := kw_rng z3
      refine kw_iconst (pc := 16) (i := 9) (v := 4) rfl rfl ?_
      refine kw_idiv (pc := 17) (i := 10) rfl (by omega) (fun z4 e_z4 => ?_)
      have r_z4 := kw_rng z4
      replace hF := kf_le e_z4 hF
      refine kw_goto (pc := 18) (i := 11) (tgt := 22) rfl rfl ?_
      exact kw_ireturn (pc := 22) (i := 13) (ty := .int) rfl rfl rfl ⟨rfl, _, rfl, hF⟩
noncomputable def f_X0_turnBy_54 (σ : kw_S) (s : Int32) : Int32 := if s.toInt < 0 then ((0 : Int32)) else (if s.toInt < (64 : Int32).toInt then (kf_l (σ.1 60 s.toNatClampNeg) fun z1 => z1) else ((0 : Int32)))
theorem f_X0_turnBy_54_u (σ : kw_S) (s : Int32) : f_X0_turnBy_54 σ s = if s.toInt < 0 then ((0 : Int32)) else (if s.toInt < (64 : Int32).toInt then (kf_l (σ.1 60 s.toNatClampNeg) fun z1 => z1) else ((0 : Int32))) := rfl
abbrev p_X0_turnBy_54 (σ : kw_S) (s : Int32) : Option Value → kw_S → Prop := fun vv σ' => σ' = σ ∧ ∃ r : Int32, vv = some (.int r) ∧ r = f_X0_turnBy_54 σ s
set_option maxRecDepth 100000 in
set_option maxHeartbeats 4000000 in
theorem c_X0_turnBy_54 (l : Launch) (σ : kw_S) (hI : kw_I bX σ) (s : Int32) : kw_Met l 1 KX mX0_turnBy [.ref 54, .int s] σ (p_X0_turnBy_54 σ s) := by
  have r_s := kw_rng s
  have hF := (f_X0_turnBy_54_u σ s).symm
  have q_0 : (0 : Int32).toInt = 0 := rfl
  have q_64 : (64 : Int32).toInt = 64 := rfl
  refine kw_Met.of (by decide) rfl tX0_turnBy (Nat.le_of_ble_eq_true rfl) ?_
  show kw_AW l 1 kw_E0 KX mX0_turnBy (p_X0_turnBy_54 σ s) 0 [(0, .ref 54), (1, .int s)] [] σ
  refine kw_iload_n (pc := 0) (i := 0) (k := 1) (n := 1) rfl rfl rfl ?_
  refine kw_if_lt (pc := 1) (i := 1) (tgt := 19) rfl rfl (fun c1 => ?_) (fun c1 => ?_)
  · replace hF := kf_p c1 hF
    refine kw_iconst (pc := 19) (i := 10) (v := 0) rfl rfl ?_
    exact kw_ireturn (pc := 20) (i := 11) (ty := .int) rfl rfl rfl ⟨rfl, _, rfl, hF⟩
  · replace hF := kf_nl c1 hF
    refine kw_iload_n (pc := 4) (i := 2) (k := 1) (n := 1) rfl rfl rfl ?_
    refine kw_bipush (pc := 5) (i := 3) (v := 64) rfl rfl ?_
    refine kw_icmp_ge (pc := 7) (i := 4) (tgt := 19) rfl rfl (fun c2 => ?_) (fun c2 => ?_)
    · replace hF := kf_nl c2 hF
      refine kw_iconst (pc := 19) (i := 10) (v := 0) rfl rfl ?_
      exact kw_ireturn (pc := 20) (i := 11) (ty := .int) rfl rfl rfl ⟨rfl, _, rfl, hF⟩
    · replace hF := kf_p c2 hF
      refine kw_aload_n (pc := 10) (i := 5) (k := 0) (n := 0) rfl rfl rfl ?_
      refine kw_get (pc := 11) (i := 6) (v := .ref 60) rfl rfl rfl lkX0_15 (fun _ => rfl) ?_
      refine kw_iload_n (pc := 14) (i := 7) (k := 1) (n := 1) rfl rfl rfl ?_
      refine kw_iald (pc := 15) (i := 8) (n := 64) rfl rfl (by omega) (by omega) (fun z3 e_z3 => ?_)
      replace hF := kf_le e_z3 hF
      have t_z3 := congrArg Int32.toInt e_z3
      have r_z3 := kw_rng z3
      refine kw_goto (pc := 16) (i := 9) (tgt := 20) rfl rfl ?_
      exact kw_ireturn (pc := 20) (i := 11) (ty := .int) rfl rfl rfl ⟨rfl, _, rfl, hF⟩
noncomputable def f_X0_fits_6 (σ : kw_S) (s : Int32) (m : Int32) (t : Int32) : Int32 := kf_l (f_X0_milesOf_6 σ s) fun z1 => if z1.toInt = m.toInt then (kf_l (f_X0_turnBy_6 σ s) fun z2 => if z2.toInt = t.toInt then ((1 : Int32)) else ((0 : Int32))) else ((0 : Int32))
theorem f_X0_fits_6_u (σ : kw_S) (s : Int32) (m : Int32) (t : Int32) : f_X0_fits_6 σ s m t = kf_l (f_X0_milesOf_6 σ s) fun z1 => if z1.toInt = m.toInt then (kf_l (f_X0_turnBy_6 σ s) fun z2 => if z2.toInt = t.toInt then ((1 : Int32)) else ((0 : Int32))) else ((0 : Int32)) := rfl
abbrev p_X0_fits_6 (σ : kw_S) (s : Int32) (m : Int32) (t : Int32) : Option Value → kw_S → Prop := fun vv σ' => σ' = σ ∧ ∃ r : Int32, vv = some (.int r) ∧ (r.toInt = 0 ∨ r.toInt = 1) ∧ r = f_X0_fits_6 σ s m t
set_option maxRecDepth 100000 in
set_option maxHeartbeats 4000000 in
theorem c_X0_fits_6 (l : Launch) (σ : kw_S) (hI : kw_I bX σ) (s : Int32) (m : Int32) (t : Int32) : kw_Met l 2 KX mX0_fits [.ref 6, .int s, .int m, .int t] σ (p_X0_fits_6 σ s m t) := by
  have r_s := kw_rng s
  have r_m := kw_rng m
  have r_t := kw_rng t
  have hF := (f_X0_fits_6_u σ s m t).symm
  have q_0 : (0 : Int32).toInt = 0 := rfl
  have q_1 : (1 : Int32).toInt = 1 := rfl
  refine kw_Met.of (by decide) rfl tX0_fits (Nat.le_of_ble_eq_true rfl) ?_
  show kw_AW l 2 kw_E0 KX mX0_fits (p_X0_fits_6 σ s m t) 0 [(0, .ref 6), (1, .int s), (2, .int m), (3, .int t)] [] σ
  refine kw_aload_n (pc := 0) (i := 0) (k := 0) (n := 0) rfl rfl rfl ?_
  refine kw_iload_n (pc := 1) (i := 1) (k := 1) (n := 1) rfl rfl rfl ?_
  refine kw_callV (pc := 2) (i := 2) (Y := mX0_milesOf) (a := 6) (As := [.int s]) (st := []) kw_hE rfl rfl lvX0_35 arX0_milesOf (c_X0_milesOf_6 l σ hI s ) (by decide) (Nat.le_of_ble_eq_true rfl) rfl (fun v S2 p1 => ?_)
  obtain ⟨e5, z4, rfl, ef3⟩ := p1
  rw [e5]
  replace hF := kf_le ef3 hF
  have r_z4 := kw_rng z4
  show kw_AW l 2 kw_E0 KX mX0_fits (p_X0_fits_6 σ s m t) 5 [(0, .ref 6), (1, .int s), (2, .int m), (3, .int t)] [.int z4] σ
  refine kw_iload_n (pc := 5) (i := 3) (k := 2) (n := 2) rfl rfl rfl ?_
  refine kw_icmp_ne (pc := 6) (i := 4) (tgt := 22) rfl rfl (fun c6 => ?_) (fun c6 => ?_)
  · replace hF := kf_n c6 hF
    refine kw_iconst (pc := 22) (i := 12) (v := 0) rfl rfl ?_
    exact kw_ireturn (pc := 23) (i := 13) (ty := .boolean) rfl rfl rfl ⟨rfl, _, rfl, by omega, hF⟩
  · replace hF := kf_p c6 hF
    refine kw_aload_n (pc := 9) (i := 5) (k := 0) (n := 0) rfl rfl rfl ?_
    refine kw_iload_n (pc := 10) (i := 6) (k := 1) (n := 1) rfl rfl rfl ?_
    refine kw_callV (pc := 11) (i := 7) (Y := mX0_turnBy) (a := 6) (As := [.int s]) (st := []) kw_hE rfl rfl lvX0_39 arX0_turnBy (c_X0_turnBy_6 l σ hI s ) (by decide) (Nat.le_of_ble_eq_true rfl) rfl (fun v S8 p7 => ?_)
    obtain ⟨e11, z10, rfl, ef9⟩ := p7
    rw [e11]
    replace hF := kf_le ef9 hF
    have r_z10 := kw_rng z10
    show kw_AW l 2 kw_E0 KX mX0_fits (p_X0_fits_6 σ s m t) 14 [(0, .ref 6), (1, .int s), (2, .int m), (3, .int t)] [.int z10] σ
    refine kw_iload_n (pc := 14) (i := 8) (k := 3) (n := 3) rfl rfl rfl ?_
    refine kw_icmp_ne (pc := 15) (i := 9) (tgt := 22) rfl rfl (fun c12 => ?_) (fun c12 => ?_)
    · replace hF := kf_n c12 hF
      refine kw_iconst (pc := 22) (i := 12) (v := 0) rfl rfl ?_
      exact kw_ireturn (pc := 23) (i := 13) (ty := .boolean) rfl rfl rfl ⟨rfl, _, rfl, by omega, hF⟩
    · replace hF := kf_p c12 hF
      refine kw_iconst (pc := 18) (i := 10) (v := 1) rfl rfl ?_
      refine kw_goto (pc := 19) (i := 11) (tgt := 23) rfl rfl ?_
      exact kw_ireturn (pc := 23) (i := 13) (ty := .boolean) rfl rfl rfl ⟨rfl, _, rfl, by omega, hF⟩
