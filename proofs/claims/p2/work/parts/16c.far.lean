abbrev p_X8_far_0 (T : Int) (σ : kw_S) (n : Int32) (t : Int32) (a : Int32) : Option Value → kw_S → Prop := fun vv σ' => (kw_I (bM T) σ' ∧ kw_F [0, 2, 3, 18, 19, 20] σ σ') ∧ ∃ r : Int32, vv = some (.int r)
set_option maxRecDepth 100000 in
set_option maxHeartbeats 4000000 in
theorem c_X8_far_0 (l : Launch) (T : Int) (hT0 : 0 ≤ T) (hT1 : T ≤ 3000) (σ : kw_S) (hI : kw_I (bM T) σ) (n : Int32) (t : Int32) (a : Int32) : kw_Met l 5 KM mX8_far [.ref 0, .int n, .int t, .int a] σ (p_X8_far_0 T σ n t a) := by
  have r_n := kw_rng n
  have r_t := kw_rng t
  have r_a := kw_rng a
  have hF0 : kw_F [0, 2, 3, 18, 19, 20] σ σ := kw_F.rf
  have q_m1048576 : (-1048576 : Int32).toInt = -1048576 := rfl
  have q_m9 : (-9 : Int32).toInt = -9 := rfl
  have q_m4 : (-4 : Int32).toInt = -4 := rfl
  have q_m1 : (-1 : Int32).toInt = -1 := rfl
  have q_0 : (0 : Int32).toInt = 0 := rfl
  have q_1 : (1 : Int32).toInt = 1 := rfl
  have q_3 : (3 : Int32).toInt = 3 := rfl
  have q_40 : (40 : Int32).toInt = 40 := rfl
  have q_999 : (999 : Int32).toInt = 999 := rfl
  refine kw_Met.of (by decide) rfl tX8_far (Nat.le_of_ble_eq_true rfl) ?_
  show kw_AW l 5 kw_E0 KM mX8_far (p_X8_far_0 T σ n t a) 0 [(0, .ref 0), (1, .int n), (2, .int t), (3, .int a)] [] σ
  refine kw_iload_n (pc := 0) (i := 0) (k := 1) (n := 1) rfl rfl rfl ?_
  refine kw_iconst (pc := 1) (i := 1) (v := 0) rfl rfl ?_
  refine kw_iconst (pc := 2) (i := 2) (v := 3) rfl rfl ?_
  refine kw_callS (pc := 3) (i := 3) (Y := mX8_in) (As := [.int n, .int 0, .int 3]) (st := []) kw_hE rfl lsX8_93 arX8_in (c_X8_in l T (by omega) (by omega) σ hI n 0 3 ) (by decide) (Nat.le_of_ble_eq_true rfl) rfl (fun v S2 p1 => ?_)
  obtain ⟨e7, z6, rfl, f3, f4, f5⟩ := p1
  rw [e7]
  have r_z6 := kw_rng z6
  show kw_AW l 5 kw_E0 KM mX8_far (p_X8_far_0 T σ n t a) 6 [(0, .ref 0), (1, .int n), (2, .int t), (3, .int a)] [.int z6] σ
  refine kw_if_eq (pc := 6) (i := 4) (tgt := 27) rfl rfl (fun c8 => ?_) (fun c8 => ?_)
  · refine kw_iconst (pc := 27) (i := 13) (v := (-1)) rfl rfl ?_
    exact kw_ireturn (pc := 28) (i := 14) (ty := .int) rfl rfl rfl ⟨⟨hI, hF0⟩, _, rfl⟩
  · refine kw_iload_n (pc := 9) (i := 5) (k := 2) (n := 2) rfl rfl rfl ?_
    refine kw_iconst (pc := 10) (i := 6) (v := 0) rfl rfl ?_
    refine kw_sipush (pc := 11) (i := 7) (v := 999) rfl rfl ?_
    refine kw_callS (pc := 14) (i := 8) (Y := mX8_in) (As := [.int t, .int 0, .int 999]) (st := []) kw_hE rfl lsX8_93 arX8_in (c_X8_in l T (by omega) (by omega) σ hI t 0 999 ) (by decide) (Nat.le_of_ble_eq_true rfl) rfl (fun v S10 p9 => ?_)
    obtain ⟨e15, z14, rfl, f11, f12, f13⟩ := p9
    rw [e15]
    have r_z14 := kw_rng z14
    show kw_AW l 5 kw_E0 KM mX8_far (p_X8_far_0 T σ n t a) 17 [(0, .ref 0), (1, .int n), (2, .int t), (3, .int a)] [.int z14] σ
    refine kw_if_eq (pc := 17) (i := 9) (tgt := 27) rfl rfl (fun c16 => ?_) (fun c16 => ?_)
    · refine kw_iconst (pc := 27) (i := 13) (v := (-1)) rfl rfl ?_
      exact kw_ireturn (pc := 28) (i := 14) (ty := .int) rfl rfl rfl ⟨⟨hI, hF0⟩, _, rfl⟩
    · refine kw_iload_n (pc := 20) (i := 10) (k := 3) (n := 3) rfl rfl rfl ?_
      refine kw_callS (pc := 21) (i := 11) (Y := mX8_isRow) (As := [.int a]) (st := []) kw_hE rfl lsX8_97 arX8_isRow (c_X8_isRow l T (by omega) (by omega) σ hI a ) (by decide) (Nat.le_of_ble_eq_true rfl) rfl (fun v S18 p17 => ?_)
      obtain ⟨e23, z22, rfl, f19, f20, f21⟩ := p17
      rw [e23]
      have r_z22 := kw_rng z22
      show kw_AW l 5 kw_E0 KM mX8_far (p_X8_far_0 T σ n t a) 24 [(0, .ref 0), (1, .int n), (2, .int t), (3, .int a)] [.int z22] σ
      refine kw_if_ne (pc := 24) (i := 12) (tgt := 29) rfl rfl (fun c24 => ?_) (fun c24 => ?_)
      · refine kw_aload_n (pc := 29) (i := 15) (k := 0) (n := 0) rfl rfl rfl ?_
        refine kw_get (pc := 30) (i := 16) (v := .int (σ.1 0 10)) rfl rfl rfl lkX8_163 (fun _ => rfl) ?_
        have b25 : 0 ≤ (σ.1 0 10).toInt ∧ (σ.1 0 10).toInt ≤ 6 := hI 0 10
        refine kw_if_ne (pc := 33) (i := 17) (tgt := 39) rfl rfl (fun c26 => ?_) (fun c26 => ?_)
        · refine kw_aload_n (pc := 39) (i := 20) (k := 0) (n := 0) rfl rfl rfl ?_
          refine kw_callV (pc := 40) (i := 21) (Y := mX8_setHours) (a := 0) (As := []) (st := []) kw_hE rfl rfl lvX8_259 arX8_setHours (c_X8_setHours_0 l T (by omega) (by omega) σ hI  ) (by decide) (Nat.le_of_ble_eq_true rfl) rfl (fun v S28 p27 => ?_)
          obtain ⟨⟨I29, F30⟩, rfl⟩ := p27
          have F31 : kw_F [0, 2, 3, 18, 19, 20] σ S28 := kw_F.tr hF0 F30 (by decide)
          have w_32 : (S28.1 0 27).toInt = (σ.1 0 27).toInt := congrArg Int32.toInt (kw_F.at (a := 0) (j := 27) F30 (by decide))
          show kw_AW l 5 kw_E0 KM mX8_far (p_X8_far_0 T σ n t a) 43 [(0, .ref 0), (1, .int n), (2, .int t), (3, .int a)] [] S28
          refine kw_aload_n (pc := 43) (i := 22) (k := 0) (n := 0) rfl rfl rfl ?_
          refine kw_iload_n (pc := 44) (i := 23) (k := 1) (n := 1) rfl rfl rfl ?_
          refine kw_iload_n (pc := 45) (i := 24) (k := 2) (n := 2) rfl rfl rfl ?_
          refine kw_callV (pc := 46) (i := 25) (Y := mX8_farBy) (a := 0) (As := [.int n, .int t]) (st := []) kw_hE rfl rfl lvX8_262 arX8_farBy (c_X8_farBy_0 l T (by omega) (by omega) S28 I29 n t (by first | omega | decide) (by first | omega | decide)) (by decide) (Nat.le_of_ble_eq_true rfl) rfl (fun v S34 p33 => ?_)
          obtain ⟨⟨I36, F37⟩, z35, rfl⟩ := p33
          have F38 : kw_F [0, 2, 3, 18, 19, 20] σ S34 := kw_F.tr F31 F37 (by decide)
          have w_39 : (S34.1 0 27).toInt = (S28.1 0 27).toInt := congrArg Int32.toInt (kw_F.at (a := 0) (j := 27) F37 (by decide))
          have r_z35 := kw_rng z35
          show kw_AW l 5 kw_E0 KM mX8_far (p_X8_far_0 T σ n t a) 49 [(0, .ref 0), (1, .int n), (2, .int t), (3, .int a)] [.int z35] S34
          refine kw_istore (pc := 49) (i := 26) (n := 4) (lv' := [(4, .int z35), (0, .ref 0), (1, .int n), (2, .int t), (3, .int a)]) rfl (by decide) rfl ?_
          refine kw_iload (pc := 51) (i := 27) (k := 0) (n := 4) rfl rfl ?_
          refine kw_ldc (pc := 53) (i := 28) (v := (-1048576)) rfl ckX8_255 ?_
          refine kw_icmp_ne (pc := 55) (i := 29) (tgt := 61) rfl rfl (fun c40 => ?_) (fun c40 => ?_)
          · refine kw_aload_n (pc := 61) (i := 32) (k := 1) (n := 0) rfl rfl rfl ?_
            refine kw_get (pc := 62) (i := 33) (v := .ref 2) rfl rfl rfl lkX8_17 (fun _ => rfl) ?_
            refine kw_iload_n (pc := 65) (i := 34) (k := 4) (n := 3) rfl rfl rfl ?_
            refine kw_iload_n (pc := 66) (i := 35) (k := 2) (n := 1) rfl rfl rfl ?_
            refine kw_iast (pc := 67) (i := 36) (n := 6) rfl rfl (by omega) (by omega) ?_
            have I41 : kw_I (bM T) (kw_ui S34 2 a.toNatClampNeg n) := kw_I_ui I36 (show -9 ≤ n.toInt by omega) (show n.toInt ≤ 40 by omega)
            have F42 : kw_F [0, 2, 3, 18, 19, 20] σ (kw_ui S34 2 a.toNatClampNeg n) := kw_F_ui F38 (by decide)
            refine kw_iconst (pc := 68) (i := 37) (v := 0) rfl rfl ?_
            refine kw_istore (pc := 69) (i := 38) (n := 5) (lv' := [(5, .int 0), (4, .int z35), (0, .ref 0), (1, .int n), (2, .int t), (3, .int a)]) rfl (by decide) rfl ?_
            have L47 : ∀ (n51 : Nat) (x43 : Int32) (S44 : kw_S), kw_I (bM T) S44 → kw_F [0, 2, 3, 18, 19, 20] σ S44 → 0 ≤ x43.toInt → (41 - x43.toInt).toNat < n51 → kw_AW l 5 kw_E0 KM mX8_far (p_X8_far_0 T σ n t a) 71 [(5, .int x43), (4, .int z35), (0, .ref 0), (1, .int n), (2, .int t), (3, .int a)] [] S44 := by
              intro n51
              induction n51 with
              | zero => intro x43 S44 I45 F46 v49 m50; exact absurd m50 (Nat.not_lt_zero _)
              | succ n51 ih48 =>
                intro x43 S44 I45 F46 v49 m50
                have r_x43 := kw_rng x43
                refine kw_iload (pc := 71) (i := 39) (k := 0) (n := 5) rfl rfl ?_
                refine kw_bipush (pc := 73) (i := 40) (v := 40) rfl rfl ?_
                refine kw_icmp_ge (pc := 75) (i := 41) (tgt := 108) rfl rfl (fun c52 => ?_) (fun c52 => ?_)
                · refine kw_aload_n (pc := 108) (i := 57) (k := 2) (n := 0) rfl rfl rfl ?_
                  refine kw_iload (pc := 109) (i := 58) (k := 1) (n := 4) rfl rfl ?_
                  refine kw_iconst (pc := 111) (i := 59) (v := 1) rfl rfl ?_
                  refine kw_callV (pc := 112) (i := 60) (Y := mX8_ask) (a := 0) (As := [.int z35, .int 1]) (st := []) kw_hE rfl rfl lvX8_119 arX8_ask (c_X8_ask_0 l T (by omega) (by omega) S44 I45 z35 1 ) (by decide) (Nat.le_of_ble_eq_true rfl) rfl (fun v S54 p53 => ?_)
                  obtain ⟨⟨I57, F58⟩, z56, rfl, f55⟩ := p53
                  have F59 : kw_F [0, 2, 3, 18, 19, 20] σ S54 := kw_F.tr F46 F58 (by decide)
                  have r_z56 := kw_rng z56
                  show kw_AW l 5 kw_E0 KM mX8_far (p_X8_far_0 T σ n t a) 115 [(5, .int x43), (4, .int z35), (0, .ref 0), (1, .int n), (2, .int t), (3, .int a)] [.int z56] S54
                  exact kw_ireturn (pc := 115) (i := 61) (ty := .int) rfl rfl rfl ⟨⟨I57, F59⟩, _, rfl⟩
                · refine kw_aload_n (pc := 78) (i := 42) (k := 2) (n := 0) rfl rfl rfl ?_
                  refine kw_iload_n (pc := 79) (i := 43) (k := 5) (n := 3) rfl rfl rfl ?_
                  refine kw_iload (pc := 80) (i := 44) (k := 0) (n := 5) rfl rfl ?_
                  refine kw_iload (pc := 82) (i := 45) (k := 0) (n := 5) rfl rfl ?_
                  refine kw_iload_n (pc := 84) (i := 46) (k := 3) (n := 1) rfl rfl rfl ?_
                  refine kw_icmp_ge (pc := 85) (i := 47) (tgt := 98) rfl rfl (fun c60 => ?_) (fun c60 => ?_)
                  · refine kw_iconst (pc := 98) (i := 53) (v := 0) rfl rfl ?_
                    refine kw_callV (pc := 99) (i := 54) (Y := mX8_setRow) (a := 0) (As := [.int a, .int x43, .int 0]) (st := []) kw_hE rfl rfl lvX8_108 arX8_setRow (c_X8_setRow_0 l T (by omega) (by omega) S44 I45 a x43 0 (by first | omega | decide) (by first | omega | decide) (by first | omega | decide) (by first | omega | decide)) (by decide) (Nat.le_of_ble_eq_true rfl) rfl (fun v S62 p61 => ?_)
                    obtain ⟨⟨I63, F64⟩, rfl⟩ := p61
                    have F65 : kw_F [0, 2, 3, 18, 19, 20] σ S62 := kw_F.tr F46 F64 (by decide)
                    have w_66 : (S62.1 0 27).toInt = (S44.1 0 27).toInt := congrArg Int32.toInt (kw_F.at (a := 0) (j := 27) F64 (by decide))
                    show kw_AW l 5 kw_E0 KM mX8_far (p_X8_far_0 T σ n t a) 102 [(5, .int x43), (4, .int z35), (0, .ref 0), (1, .int n), (2, .int t), (3, .int a)] [] S62
                    refine kw_iinc' (pc := 102) (i := 55) (k := 0) (fun z => [(5, .int z), (4, .int z35), (0, .ref 0), (1, .int n), (2, .int t), (3, .int a)]) rfl rfl (by decide) rfl (fun _ => rfl) (fun z67 e_z67 t_z67 => ?_)
                    first | (have u_z67 : z67.toInt = x43.toInt + 1 := (by omega); clear t_z67) | skip
                    refine kw_goto (pc := 105) (i := 56) (tgt := 71) rfl rfl ?_
                    refine kw_sub (lv' := [(5, .int z67), (4, .int z35), (0, .ref 0), (1, .int n), (2, .int t), (3, .int a)]) [0, 1, 2, 3, 4, 5] rfl ?_
                    exact ih48 z67 S62 I63 F65 (by omega) (by omega)
                  · refine kw_aload_n (pc := 88) (i := 48) (k := 2) (n := 0) rfl rfl rfl ?_
                    refine kw_get (pc := 89) (i := 49) (v := .ref 20) rfl rfl rfl lkX8_75 (fun _ => rfl) ?_
                    refine kw_iload (pc := 92) (i := 50) (k := 0) (n := 5) rfl rfl ?_
                    refine kw_iald (pc := 94) (i := 51) (n := 3) rfl rfl (by omega) (by omega) (fun z68 e_z68 => ?_)
                    have t_z68 := congrArg Int32.toInt e_z68
                    have r_z68 := kw_rng z68
                    refine kw_goto (pc := 95) (i := 52) (tgt := 99) rfl rfl ?_
                    refine kw_callV (pc := 99) (i := 54) (Y := mX8_setRow) (a := 0) (As := [.int a, .int x43, .int z68]) (st := []) kw_hE rfl rfl lvX8_108 arX8_setRow (c_X8_setRow_0 l T (by omega) (by omega) S44 I45 a x43 z68 (by first | omega | decide) (by first | omega | decide) (by first | omega | decide) (by first | omega | decide)) (by decide) (Nat.le_of_ble_eq_true rfl) rfl (fun v S70 p69 => ?_)
                    obtain ⟨⟨I71, F72⟩, rfl⟩ := p69
                    have F73 : kw_F [0, 2, 3, 18, 19, 20] σ S70 := kw_F.tr F46 F72 (by decide)
                    have w_74 : (S70.1 0 27).toInt = (S44.1 0 27).toInt := congrArg Int32.toInt (kw_F.at (a := 0) (j := 27) F72 (by decide))
                    show kw_AW l 5 kw_E0 KM mX8_far (p_X8_far_0 T σ n t a) 102 [(5, .int x43), (4, .int z35), (0, .ref 0), (1, .int n), (2, .int t), (3, .int a)] [] S70
                    refine kw_iinc' (pc := 102) (i := 55) (k := 0) (fun z => [(5, .int z), (4, .int z35), (0, .ref 0), (1, .int n), (2, .int t), (3, .int a)]) rfl rfl (by decide) rfl (fun _ => rfl) (fun z75 e_z75 t_z75 => ?_)
                    first | (have u_z75 : z75.toInt = x43.toInt + 1 := (by omega); clear t_z75) | skip
                    refine kw_goto (pc := 105) (i := 56) (tgt := 71) rfl rfl ?_
                    refine kw_sub (lv' := [(5, .int z75), (4, .int z35), (0, .ref 0), (1, .int n), (2, .int t), (3, .int a)]) [0, 1, 2, 3, 4, 5] rfl ?_
                    exact ih48 z75 S70 I71 F73 (by omega) (by omega)
            exact L47 _ 0 (kw_ui S34 2 a.toNatClampNeg n) I41 F42 (by omega) (Nat.lt_succ_self _)
          · refine kw_bipush (pc := 58) (i := 30) (v := (-9)) rfl rfl ?_
            exact kw_ireturn (pc := 60) (i := 31) (ty := .int) rfl rfl rfl ⟨⟨I36, F38⟩, _, rfl⟩
        · refine kw_bipush (pc := 36) (i := 18) (v := (-4)) rfl rfl ?_
          exact kw_ireturn (pc := 38) (i := 19) (ty := .int) rfl rfl rfl ⟨⟨hI, hF0⟩, _, rfl⟩
      · refine kw_iconst (pc := 27) (i := 13) (v := (-1)) rfl rfl ?_
        exact kw_ireturn (pc := 28) (i := 14) (ty := .int) rfl rfl rfl ⟨⟨hI, hF0⟩, _, rfl⟩
abbrev p_X8_rival_0 (T : Int) (σ : kw_S) (n : Int32) : Option Value → kw_S → Prop := fun vv σ' => (kw_I (bM T) σ' ∧ kw_F [0, 21, 22] σ σ') ∧ ∃ r : Int32, vv = some (.int r)
set_option maxRecDepth 100000 in
set_option maxHeartbeats 4000000 in
theorem c_X8_rival_0 (l : Launch) (T : Int) (hT0 : 0 ≤ T) (hT1 : T ≤ 3000) (σ : kw_S) (hI : kw_I (bM T) σ) (n : Int32) : kw_Met l 4 KM mX8_rival [.ref 0, .int n] σ (p_X8_rival_0 T σ n) := by
  have r_n := kw_rng n
  have hF0 : kw_F [0, 21, 22] σ σ := kw_F.rf
  have q_m4 : (-4 : Int32).toInt = -4 := rfl
  have q_m1 : (-1 : Int32).toInt = -1 := rfl
  have q_0 : (0 : Int32).toInt = 0 := rfl
  have q_1 : (1 : Int32).toInt = 1 := rfl
  have q_2 : (2 : Int32).toInt = 2 := rfl
  refine kw_Met.of (by decide) rfl tX8_rival (Nat.le_of_ble_eq_true rfl) ?_
  show kw_AW l 4 kw_E0 KM mX8_rival (p_X8_rival_0 T σ n) 0 [(0, .ref 0), (1, .int n)] [] σ
  refine kw_iload_n (pc := 0) (i := 0) (k := 1) (n := 1) rfl rfl rfl ?_
  refine kw_iconst (pc := 1) (i := 1) (v := 0) rfl rfl ?_
  refine kw_iconst (pc := 2) (i := 2) (v := 2) rfl rfl ?_
  refine kw_callS (pc := 3) (i := 3) (Y := mX8_in) (As := [.int n, .int 0, .int 2]) (st := []) kw_hE rfl lsX8_93 arX8_in (c_X8_in l T (by omega) (by omega) σ hI n 0 2 ) (by decide) (Nat.le_of_ble_eq_true rfl) rfl (fun v S2 p1 => ?_)
  obtain ⟨e7, z6, rfl, f3, f4, f5⟩ := p1
  rw [e7]
  have r_z6 := kw_rng z6
  show kw_AW l 4 kw_E0 KM mX8_rival (p_X8_rival_0 T σ n) 6 [(0, .ref 0), (1, .int n)] [.int z6] σ
  refine kw_if_ne (pc := 6) (i := 4) (tgt := 11) rfl rfl (fun c8 => ?_) (fun c8 => ?_)
  · refine kw_aload_n (pc := 11) (i := 7) (k := 0) (n := 0) rfl rfl rfl ?_
    refine kw_get (pc := 12) (i := 8) (v := .int (σ.1 0 10)) rfl rfl rfl lkX8_163 (fun _ => rfl) ?_
    have b9 : 0 ≤ (σ.1 0 10).toInt ∧ (σ.1 0 10).toInt ≤ 6 := hI 0 10
    refine kw_if_ne (pc := 15) (i := 9) (tgt := 21) rfl rfl (fun c10 => ?_) (fun c10 => ?_)
    · refine kw_aload_n (pc := 21) (i := 12) (k := 0) (n := 0) rfl rfl rfl ?_
      refine kw_aload_n (pc := 22) (i := 13) (k := 0) (n := 0) rfl rfl rfl ?_
      refine kw_get (pc := 23) (i := 14) (v := .int (σ.1 0 22)) rfl rfl rfl lkX8_166 (fun _ => rfl) ?_
      have b11 : 0 ≤ (σ.1 0 22).toInt ∧ (σ.1 0 22).toInt ≤ T := hI 0 22
      refine kw_callV (pc := 26) (i := 15) (Y := mX8_windAt) (a := 0) (As := [.int (σ.1 0 22)]) (st := []) kw_hE rfl rfl lvX8_196 arX8_windAt (c_X8_windAt_0 l T (by omega) (by omega) σ hI (σ.1 0 22) (by first | omega | decide)) (by decide) (Nat.le_of_ble_eq_true rfl) rfl (fun v S13 p12 => ?_)
      obtain ⟨e15, z14, rfl⟩ := p12
      rw [e15]
      have r_z14 := kw_rng z14
      show kw_AW l 4 kw_E0 KM mX8_rival (p_X8_rival_0 T σ n) 29 [(0, .ref 0), (1, .int n)] [.int z14] σ
      refine kw_istore_n (pc := 29) (i := 16) (n := 2) (lv' := [(2, .int z14), (0, .ref 0), (1, .int n)]) rfl rfl (by decide) rfl ?_
      refine kw_iconst (pc := 30) (i := 17) (v := 0) rfl rfl ?_
      refine kw_istore_n (pc := 31) (i := 18) (n := 3) (lv' := [(3, .int 0), (2, .int z14), (0, .ref 0), (1, .int n)]) rfl rfl (by decide) rfl ?_
      have L20 : ∀ (n24 : Nat) (x16 : Int32) (S17 : kw_S), kw_I (bM T) S17 → kw_F [0, 21, 22] σ S17 → 0 ≤ x16.toInt → (65 - x16.toInt).toNat < n24 → kw_AW l 4 kw_E0 KM mX8_rival (p_X8_rival_0 T σ n) 32 [(3, .int x16), (2, .int z14), (0, .ref 0), (1, .int n)] [] S17 := by
        intro n24
        induction n24 with
        | zero => intro x16 S17 I18 F19 v22 m23; exact absurd m23 (Nat.not_lt_zero _)
        | succ n24 ih21 =>
          intro x16 S17 I18 F19 v22 m23
          have r_x16 := kw_rng x16
          refine kw_iload_n (pc := 32) (i := 19) (k := 0) (n := 3) rfl rfl rfl ?_
          refine kw_iconst (pc := 33) (i := 20) (v := 1) rfl rfl ?_
          refine kw_aload_n (pc := 34) (i := 21) (k := 2) (n := 0) rfl rfl rfl ?_
          refine kw_get (pc := 35) (i := 22) (v := .int (S17.1 0 10)) rfl rfl rfl lkX8_163 (fun _ => rfl) ?_
          have b25 : 0 ≤ (S17.1 0 10).toInt ∧ (S17.1 0 10).toInt ≤ 6 := I18 0 10
          refine kw_ishl (pc := 38) (i := 23) rfl (fun z26 e_z26 => ?_)
          have r_z26 := kw_rng z26
          have t_z26 := kw_shlm (S17.1 0 10) z26 e_z26
          have u_z26 := congrArg Int32.toInt e_z26
          refine kw_icmp_ge (pc := 39) (i := 24) (tgt := 60) rfl rfl (fun c27 => ?_) (fun c27 => ?_)
          · refine kw_iconst (pc := 60) (i := 35) (v := 2) rfl rfl ?_
            refine kw_iload_n (pc := 61) (i := 36) (k := 3) (n := 1) rfl rfl rfl ?_
            refine kw_imul (pc := 62) (i := 37) rfl (fun z28 e_z28 t_z28 => ?_)
            rw [show (2 : Int32).toInt = 2 from rfl] at t_z28
            first | (have u_z28 : z28.toInt = 2 * n.toInt := (by omega); clear t_z28) | skip
            refine kw_iconst (pc := 63) (i := 38) (v := 1) rfl rfl ?_
            refine kw_isub (pc := 64) (i := 39) rfl (fun z29 e_z29 t_z29 => ?_)
            first | (have u_z29 : z29.toInt = z28.toInt - 1 := (by omega); clear t_z29) | skip
            refine kw_istore_n (pc := 65) (i := 40) (n := 3) (lv' := [(3, .int z29), (2, .int z14), (0, .ref 0), (1, .int n)]) rfl rfl (by decide) rfl ?_
            have L34 : ∀ (n39 : Nat) (x30 : Int32) (S31 : kw_S), kw_I (bM T) S31 → kw_F [0, 21, 22] σ S31 → -1 ≤ x30.toInt → x30.toInt ≤ 3 → (x30.toInt + 2).toNat < n39 → kw_AW l 4 kw_E0 KM mX8_rival (p_X8_rival_0 T σ n) 66 [(3, .int x30), (2, .int z14), (0, .ref 0), (1, .int n)] [] S31 := by
              intro n39
              induction n39 with
              | zero => intro x30 S31 I32 F33 v36 v37 m38; exact absurd m38 (Nat.not_lt_zero _)
              | succ n39 ih35 =>
                intro x30 S31 I32 F33 v36 v37 m38
                have r_x30 := kw_rng x30
                refine kw_iload_n (pc := 66) (i := 41) (k := 0) (n := 3) rfl rfl rfl ?_
                refine kw_if_lt (pc := 67) (i := 42) (tgt := 236) rfl rfl (fun c40 => ?_) (fun c40 => ?_)
                · refine kw_aload_n (pc := 236) (i := 126) (k := 2) (n := 0) rfl rfl rfl ?_
                  refine kw_aload_n (pc := 237) (i := 127) (k := 2) (n := 0) rfl rfl rfl ?_
                  refine kw_get (pc := 238) (i := 128) (v := .ref 21) rfl rfl rfl lkX8_78 (fun _ => rfl) ?_
                  refine kw_aload_n (pc := 241) (i := 129) (k := 2) (n := 0) rfl rfl rfl ?_
                  refine kw_get (pc := 242) (i := 130) (v := .int (S31.1 0 25)) rfl rfl rfl lkX8_175 (fun _ => rfl) ?_
                  have b41 : 0 ≤ (S31.1 0 25).toInt ∧ (S31.1 0 25).toInt ≤ 63 := I32 0 25
                  refine kw_iald (pc := 245) (i := 131) (n := 64) rfl rfl (by omega) (by omega) (fun z42 e_z42 => ?_)
                  have t_z42 := congrArg Int32.toInt e_z42
                  have r_z42 := kw_rng z42
                  refine kw_iconst (pc := 246) (i := 132) (v := 1) rfl rfl ?_
                  refine kw_callV (pc := 247) (i := 133) (Y := mX8_ask) (a := 0) (As := [.int z42, .int 1]) (st := []) kw_hE rfl rfl lvX8_119 arX8_ask (c_X8_ask_0 l T (by omega) (by omega) S31 I32 z42 1 ) (by decide) (Nat.le_of_ble_eq_true rfl) rfl (fun v S44 p43 => ?_)
                  obtain ⟨⟨I47, F48⟩, z46, rfl, f45⟩ := p43
                  have F49 : kw_F [0, 21, 22] σ S44 := kw_F.tr F33 F48 (by decide)
                  have r_z46 := kw_rng z46
                  show kw_AW l 4 kw_E0 KM mX8_rival (p_X8_rival_0 T σ n) 250 [(3, .int x30), (2, .int z14), (0, .ref 0), (1, .int n)] [.int z46] S44
                  exact kw_ireturn (pc := 250) (i := 134) (ty := .int) rfl rfl rfl ⟨⟨I47, F49⟩, _, rfl⟩
                · refine kw_iload_n (pc := 70) (i := 43) (k := 0) (n := 3) rfl rfl rfl ?_
                  refine kw_iconst (pc := 71) (i := 44) (v := 2) rfl rfl ?_
                  refine kw_irem (pc := 72) (i := 45) rfl (by omega) (fun z50 e_z50 => ?_)
                  have r_z50 := kw_rng z50
                  have t_z50 := kw_remI x30 2 z50 e_z50
                  refine kw_if_ne (pc := 73) (i := 46) (tgt := 80) rfl rfl (fun c51 => ?_) (fun c51 => ?_)
                  · refine kw_iconst (pc := 80) (i := 49) (v := 0) rfl rfl ?_
                    refine kw_istore (pc := 81) (i := 50) (n := 4) (lv' := [(4, .int 0), (3, .int x30), (2, .int z14), (0, .ref 0), (1, .int n)]) rfl (by decide) rfl ?_
                    refine kw_iconst (pc := 83) (i := 51) (v := 0) rfl rfl ?_
                    refine kw_istore (pc := 84) (i := 52) (n := 5) (lv' := [(5, .int 0), (4, .int 0), (3, .int x30), (2, .int z14), (0, .ref 0), (1, .int n)]) rfl (by decide) rfl ?_
                    have L56 : ∀ (n60 : Nat) (x52 : Int32) (S53 : kw_S), kw_I (bM T) S53 → kw_F [0, 21, 22] σ S53 → 0 ≤ x52.toInt → (65 - x52.toInt).toNat < n60 → kw_AW l 4 kw_E0 KM mX8_rival (p_X8_rival_0 T σ n) 86 [(5, .int x52), (4, .int 0), (3, .int x30), (2, .int z14), (0, .ref 0), (1, .int n)] [] S53 := by
                      intro n60
                      induction n60 with
                      | zero => intro x52 S53 I54 F55 v58 m59; exact absurd m59 (Nat.not_lt_zero _)
                      | succ n60 ih57 =>
                        intro x52 S53 I54 F55 v58 m59
                        have r_x52 := kw_rng x52
                        refine kw_iload (pc := 86) (i := 53) (k := 0) (n := 5) rfl rfl ?_
                        refine kw_iconst (pc := 88) (i := 54) (v := 1) rfl rfl ?_
                        refine kw_aload_n (pc := 89) (i := 55) (k := 4) (n := 0) rfl rfl rfl ?_
                        refine kw_get (pc := 90) (i := 56) (v := .int (S53.1 0 10)) rfl rfl rfl lkX8_163 (fun _ => rfl) ?_
                        have b61 : 0 ≤ (S53.1 0 10).toInt ∧ (S53.1 0 10).toInt ≤ 6 := I54 0 10
                        refine kw_ishl (pc := 93) (i := 57) rfl (fun z62 e_z62 => ?_)
                        have r_z62 := kw_rng z62
                        have t_z62 := kw_shlm (S53.1 0 10) z62 e_z62
                        have u_z62 := congrArg Int32.toInt e_z62
                        refine kw_icmp_ge (pc := 94) (i := 58) (tgt := 196) rfl rfl (fun c63 => ?_) (fun c63 => ?_)
                        · refine kw_iconst (pc := 196) (i := 106) (v := 0) rfl rfl ?_
                          refine kw_istore (pc := 197) (i := 107) (n := 5) (lv' := [(5, .int 0), (4, .int 0), (3, .int x30), (2, .int z14), (0, .ref 0), (1, .int n)]) rfl (by decide) rfl ?_
                          have L68 : ∀ (n72 : Nat) (x64 : Int32) (S65 : kw_S), kw_I (bM T) S65 → kw_F [0, 21, 22] σ S65 → 0 ≤ x64.toInt → (65 - x64.toInt).toNat < n72 → kw_AW l 4 kw_E0 KM mX8_rival (p_X8_rival_0 T σ n) 199 [(5, .int x64), (4, .int 0), (3, .int x30), (2, .int z14), (0, .ref 0), (1, .int n)] [] S65 := by
                            intro n72
                            induction n72 with
                            | zero => intro x64 S65 I66 F67 v70 m71; exact absurd m71 (Nat.not_lt_zero _)
                            | succ n72 ih69 =>
                              intro x64 S65 I66 F67 v70 m71
                              have r_x64 := kw_rng x64
                              refine kw_iload (pc := 199) (i := 108) (k := 0) (n := 5) rfl rfl ?_
                              refine kw_iconst (pc := 201) (i := 109) (v := 1) rfl rfl ?_
                              refine kw_aload_n (pc := 202) (i := 110) (k := 4) (n := 0) rfl rfl rfl ?_
                              refine kw_get (pc := 203) (i := 111) (v := .int (S65.1 0 10)) rfl rfl rfl lkX8_163 (fun _ => rfl) ?_
                              have b73 : 0 ≤ (S65.1 0 10).toInt ∧ (S65.1 0 10).toInt ≤ 6 := I66 0 10
                              refine kw_ishl (pc := 206) (i := 112) rfl (fun z74 e_z74 => ?_)
                              have r_z74 := kw_rng z74
                              have t_z74 := kw_shlm (S65.1 0 10) z74 e_z74
                              have u_z74 := congrArg Int32.toInt e_z74
                              refine kw_icmp_ge (pc := 207) (i := 113) (tgt := 230) rfl rfl (fun c75 => ?_) (fun c75 => ?_)
                              · refine kw_iinc' (pc := 230) (i := 124) (k := 2) (fun z => [(3, .int z), (5, .int x64), (4, .int 0), (2, .int z14), (0, .ref 0), (1, .int n)]) rfl rfl (by decide) rfl (fun _ => rfl) (fun z76 e_z76 t_z76 => ?_)
                                first | (have u_z76 : z76.toInt = x30.toInt + (-1) := (by omega); clear t_z76) | skip
                                refine kw_goto (pc := 233) (i := 125) (tgt := 66) rfl rfl ?_
                                refine kw_sub (lv' := [(3, .int z76), (2, .int z14), (0, .ref 0), (1, .int n)]) [0, 3, 4, 5] rfl ?_
                                exact ih35 z76 S65 I66 F67 (by omega) (by omega) (by omega)
                              · refine kw_aload_n (pc := 210) (i := 114) (k := 4) (n := 0) rfl rfl rfl ?_
                                refine kw_get (pc := 211) (i := 115) (v := .ref 21) rfl rfl rfl lkX8_78 (fun _ => rfl) ?_
                                refine kw_iload (pc := 214) (i := 116) (k := 0) (n := 5) rfl rfl ?_
                                refine kw_aload_n (pc := 216) (i := 117) (k := 4) (n := 0) rfl rfl rfl ?_
                                refine kw_get (pc := 217) (i := 118) (v := .ref 22) rfl rfl rfl lkX8_81 (fun _ => rfl) ?_
                                refine kw_iload (pc := 220) (i := 119) (k := 0) (n := 5) rfl rfl ?_
                                refine kw_iald (pc := 222) (i := 120) (n := 64) rfl rfl (by omega) (by omega) (fun z77 e_z77 => ?_)
                                have t_z77 := congrArg Int32.toInt e_z77
                                have r_z77 := kw_rng z77
                                refine kw_iast (pc := 223) (i := 121) (n := 64) rfl rfl (by omega) (by omega) ?_
                                have I78 : kw_I (bM T) (kw_ui S65 21 x64.toNatClampNeg z77) := kw_I_ui I66 (kw_rng z77).1 (Int.le_of_lt_add_one (kw_rng z77).2)
                                have F79 : kw_F [0, 21, 22] σ (kw_ui S65 21 x64.toNatClampNeg z77) := kw_F_ui F67 (by decide)
                                refine kw_iinc' (pc := 224) (i := 122) (k := 0) (fun z => [(5, .int z), (4, .int 0), (3, .int x30), (2, .int z14), (0, .ref 0), (1, .int n)]) rfl rfl (by decide) rfl (fun _ => rfl) (fun z80 e_z80 t_z80 => ?_)
                                first | (have u_z80 : z80.toInt = x64.toInt + 1 := (by omega); clear t_z80) | skip
                                refine kw_goto (pc := 227) (i := 123) (tgt := 199) rfl rfl ?_
                                refine kw_sub (lv' := [(5, .int z80), (4, .int 0), (3, .int x30), (2, .int z14), (0, .ref 0), (1, .int n)]) [0, 1, 2, 3, 4, 5] rfl ?_
                                exact ih69 z80 (kw_ui S65 21 x64.toNatClampNeg z77) I78 F79 (by omega) (by omega)
                          exact L68 _ 0 S53 I54 F55 (by omega) (Nat.lt_succ_self _)
                        · refine kw_aload_n (pc := 97) (i := 59) (k := 4) (n := 0) rfl rfl rfl ?_
                          refine kw_get (pc := 98) (i := 60) (v := .ref 21) rfl rfl rfl lkX8_78 (fun _ => rfl) ?_
                          refine kw_iload (pc := 101) (i := 61) (k := 0) (n := 5) rfl rfl ?_
                          refine kw_iald (pc := 103) (i := 62) (n := 64) rfl rfl (by omega) (by omega) (fun z81 e_z81 => ?_)
                          have t_z81 := congrArg Int32.toInt e_z81
                          have r_z81 := kw_rng z81
                          refine kw_istore (pc := 104) (i := 63) (n := 6) (lv' := [(6, .int z81), (5, .int x52), (4, .int 0), (3, .int x30), (2, .int z14), (0, .ref 0), (1, .int n)]) rfl (by decide) rfl ?_
                          refine kw_iconst (pc := 106) (i := 64) (v := 0) rfl rfl ?_
                          refine kw_istore (pc := 107) (i := 65) (n := 7) (lv' := [(7, .int 0), (6, .int z81), (5, .int x52), (4, .int 0), (3, .int x30), (2, .int z14), (0, .ref 0), (1, .int n)]) rfl (by decide) rfl ?_
                          have L84 : ∀ (n88 : Nat) (x82 : Int32) (x83 : Int32), 0 ≤ x82.toInt → (7 - x82.toInt).toNat < n88 → kw_AW l 4 kw_E0 KM mX8_rival (p_X8_rival_0 T σ n) 109 [(7, .int x82), (6, .int x83), (5, .int x52), (4, .int 0), (3, .int x30), (2, .int z14), (0, .ref 0), (1, .int n)] [] S53 := by
                            intro n88
                            induction n88 with
                            | zero => intro x82 x83 v86 m87; exact absurd m87 (Nat.not_lt_zero _)
                            | succ n88 ih85 =>
                              intro x82 x83 v86 m87
                              have r_x82 := kw_rng x82
                              have r_x83 := kw_rng x83
                              refine kw_iload (pc := 109) (i := 66) (k := 0) (n := 7) rfl rfl ?_
                              refine kw_aload_n (pc := 111) (i := 67) (k := 6) (n := 0) rfl rfl rfl ?_
                              refine kw_get (pc := 112) (i := 68) (v := .int (S53.1 0 10)) rfl rfl rfl lkX8_163 (fun _ => rfl) ?_
                              refine kw_icmp_ge (pc := 115) (i := 69) (tgt := 181) rfl rfl (fun c89 => ?_) (fun c89 => ?_)
                              · refine kw_aload_n (pc := 181) (i := 99) (k := 6) (n := 0) rfl rfl rfl ?_
                                refine kw_get (pc := 182) (i := 100) (v := .ref 22) rfl rfl rfl lkX8_81 (fun _ => rfl) ?_
                                refine kw_iload (pc := 185) (i := 101) (k := 2) (n := 5) rfl rfl ?_
                                refine kw_iload (pc := 187) (i := 102) (k := 1) (n := 6) rfl rfl ?_
                                refine kw_iast (pc := 189) (i := 103) (n := 64) rfl rfl (by omega) (by omega) ?_
                                have I90 : kw_I (bM T) (kw_ui S53 22 x52.toNatClampNeg x83) := kw_I_ui I54 (kw_rng x83).1 (Int.le_of_lt_add_one (kw_rng x83).2)
                                have F91 : kw_F [0, 21, 22] σ (kw_ui S53 22 x52.toNatClampNeg x83) := kw_F_ui F55 (by decide)
                                refine kw_iinc' (pc := 190) (i := 104) (k := 2) (fun z => [(5, .int z), (7, .int x82), (6, .int x83), (4, .int 0), (3, .int x30), (2, .int z14), (0, .ref 0), (1, .int n)]) rfl rfl (by decide) rfl (fun _ => rfl) (fun z92 e_z92 t_z92 => ?_)
                                first | (have u_z92 : z92.toInt = x52.toInt + 1 := (by omega); clear t_z92) | skip
                                refine kw_goto (pc := 193) (i := 105) (tgt := 86) rfl rfl ?_
                                refine kw_sub (lv' := [(5, .int z92), (4, .int 0), (3, .int x30), (2, .int z14), (0, .ref 0), (1, .int n)]) [0, 3, 4, 5, 6, 7] rfl ?_
                                exact ih57 z92 (kw_ui S53 22 x52.toNatClampNeg x83) I90 F91 (by omega) (by omega)
                              · refine kw_iload (pc := 118) (i := 70) (k := 2) (n := 5) rfl rfl ?_
                                refine kw_iload (pc := 120) (i := 71) (k := 0) (n := 7) rfl rfl ?_
                                refine kw_callS (pc := 122) (i := 72) (Y := mX8_has) (As := [.int x52, .int x82]) (st := []) kw_hE rfl lsX8_185 arX8_has (c_X8_has l T (by omega) (by omega) S53 I54 x52 x82 ) (by decide) (Nat.le_of_ble_eq_true rfl) rfl (fun v S94 p93 => ?_)
                                obtain ⟨e97, z96, rfl, f95⟩ := p93
                                rw [e97]
                                have r_z96 := kw_rng z96
                                show kw_AW l 4 kw_E0 KM mX8_rival (p_X8_rival_0 T σ n) 125 [(7, .int x82), (6, .int x83), (5, .int x52), (4, .int 0), (3, .int x30), (2, .int z14), (0, .ref 0), (1, .int n)] [.int z96] S53
                                refine kw_iload (pc := 125) (i := 73) (k := 3) (n := 4) rfl rfl ?_
                                refine kw_icmp_eq (pc := 127) (i := 74) (tgt := 175) rfl rfl (fun c98 => ?_) (fun c98 => ?_)
                                · refine kw_iinc' (pc := 175) (i := 97) (k := 0) (fun z => [(7, .int z), (6, .int x83), (5, .int x52), (4, .int 0), (3, .int x30), (2, .int z14), (0, .ref 0), (1, .int n)]) rfl rfl (by decide) rfl (fun _ => rfl) (fun z99 e_z99 t_z99 => ?_)
                                  first | (have u_z99 : z99.toInt = x82.toInt + 1 := (by omega); clear t_z99) | skip
                                  refine kw_goto (pc := 178) (i := 98) (tgt := 109) rfl rfl ?_
                                  refine kw_sub (lv' := [(7, .int z99), (6, .int x83), (5, .int x52), (4, .int 0), (3, .int x30), (2, .int z14), (0, .ref 0), (1, .int n)]) [0, 1, 2, 3, 4, 5, 6, 7] rfl ?_
                                  exact ih85 z99 x83 (by omega) (by omega)
                                · refine kw_aload_n (pc := 130) (i := 75) (k := 6) (n := 0) rfl rfl rfl ?_
                                  refine kw_get (pc := 131) (i := 76) (v := .ref 21) rfl rfl rfl lkX8_78 (fun _ => rfl) ?_
                                  refine kw_iload (pc := 134) (i := 77) (k := 2) (n := 5) rfl rfl ?_
                                  refine kw_iconst (pc := 136) (i := 78) (v := 1) rfl rfl ?_
                                  refine kw_iload (pc := 137) (i := 79) (k := 0) (n := 7) rfl rfl ?_
                                  refine kw_ishl (pc := 139) (i := 80) rfl (fun z100 e_z100 => ?_)
                                  have r_z100 := kw_rng z100
                                  have t_z100 := kw_shlm x82 z100 e_z100
                                  have u_z100 := congrArg Int32.toInt e_z100
                                  refine kw_ixor (pc := 140) (i := 81) rfl (fun z101 e_z101 => ?_)
                                  have r_z101 := kw_rng z101
                                  have t_z101 := kw_xor63 x52 z100 z101 e_z101
                                  refine kw_iald (pc := 141) (i := 82) (n := 64) rfl rfl (by omega) (by omega) (fun z102 e_z102 => ?_)
                                  have t_z102 := congrArg Int32.toInt e_z102
                                  have r_z102 := kw_rng z102
                                  refine kw_istore (pc := 142) (i := 83) (n := 8) (lv' := [(8, .int z102), (7, .int x82), (6, .int x83), (5, .int x52), (4, .int 0), (3, .int x30), (2, .int z14), (0, .ref 0), (1, .int n)]) rfl (by decide) rfl ?_
                                  refine kw_iload (pc := 144) (i := 84) (k := 4) (n := 4) rfl rfl ?_
                                  refine kw_if_eq (pc := 146) (i := 85) (tgt := 159) rfl rfl (fun c103 => ?_) (fun c103 => ?_)
                                  · refine kw_iload (pc := 159) (i := 90) (k := 0) (n := 8) rfl rfl ?_
                                    refine kw_iload (pc := 161) (i := 91) (k := 2) (n := 6) rfl rfl ?_
                                    refine kw_icmp_ge (pc := 163) (i := 92) (tgt := 171) rfl rfl (fun c104 => ?_) (fun c104 => ?_)
                                    · refine kw_iload (pc := 171) (i := 95) (k := 2) (n := 6) rfl rfl ?_
                                      refine kw_istore (pc := 173) (i := 96) (n := 6) (lv' := [(6, .int x83), (8, .int z102), (7, .int x82), (5, .int x52), (4, .int 0), (3, .int x30), (2, .int z14), (0, .ref 0), (1, .int n)]) rfl (by decide) rfl ?_
                                      refine kw_iinc' (pc := 175) (i := 97) (k := 2) (fun z => [(7, .int z), (6, .int x83), (8, .int z102), (5, .int x52), (4, .int 0), (3, .int x30), (2, .int z14), (0, .ref 0), (1, .int n)]) rfl rfl (by decide) rfl (fun _ => rfl) (fun z105 e_z105 t_z105 => ?_)
                                      first | (have u_z105 : z105.toInt = x82.toInt + 1 := (by omega); clear t_z105) | skip
                                      refine kw_goto (pc := 178) (i := 98) (tgt := 109) rfl rfl ?_
                                      refine kw_sub (lv' := [(7, .int z105), (6, .int x83), (5, .int x52), (4, .int 0), (3, .int x30), (2, .int z14), (0, .ref 0), (1, .int n)]) [0, 1, 3, 4, 5, 6, 7, 8] rfl ?_
                                      exact ih85 z105 x83 (by omega) (by omega)
                                    · refine kw_iload (pc := 166) (i := 93) (k := 0) (n := 8) rfl rfl ?_
                                      refine kw_goto (pc := 168) (i := 94) (tgt := 173) rfl rfl ?_
                                      refine kw_istore (pc := 173) (i := 96) (n := 6) (lv' := [(6, .int z102), (8, .int z102), (7, .int x82), (5, .int x52), (4, .int 0), (3, .int x30), (2, .int z14), (0, .ref 0), (1, .int n)]) rfl (by decide) rfl ?_
                                      refine kw_iinc' (pc := 175) (i := 97) (k := 2) (fun z => [(7, .int z), (6, .int z102), (8, .int z102), (5, .int x52), (4, .int 0), (3, .int x30), (2, .int z14), (0, .ref 0), (1, .int n)]) rfl rfl (by decide) rfl (fun _ => rfl) (fun z106 e_z106 t_z106 => ?_)
                                      first | (have u_z106 : z106.toInt = x82.toInt + 1 := (by omega); clear t_z106) | skip
                                      refine kw_goto (pc := 178) (i := 98) (tgt := 109) rfl rfl ?_
                                      refine kw_sub (lv' := [(7, .int z106), (6, .int z102), (5, .int x52), (4, .int 0), (3, .int x30), (2, .int z14), (0, .ref 0), (1, .int n)]) [0, 1, 3, 4, 5, 6, 7, 8] rfl ?_
                                      exact ih85 z106 z102 (by omega) (by omega)
                                  · exfalso; omega
                          exact L84 _ 0 z81 (by omega) (Nat.lt_succ_self _)
                    exact L56 _ 0 S31 I32 F33 (by omega) (Nat.lt_succ_self _)
                  · refine kw_iconst (pc := 76) (i := 47) (v := 1) rfl rfl ?_
                    refine kw_goto (pc := 77) (i := 48) (tgt := 81) rfl rfl ?_
                    refine kw_istore (pc := 81) (i := 50) (n := 4) (lv' := [(4, .int 1), (3, .int x30), (2, .int z14), (0, .ref 0), (1, .int n)]) rfl (by decide) rfl ?_
                    refine kw_iconst (pc := 83) (i := 51) (v := 0) rfl rfl ?_
                    refine kw_istore (pc := 84) (i := 52) (n := 5) (lv' := [(5, .int 0), (4, .int 1), (3, .int x30), (2, .int z14), (0, .ref 0), (1, .int n)]) rfl (by decide) rfl ?_
                    have L111 : ∀ (n115 : Nat) (x107 : Int32) (S108 : kw_S), kw_I (bM T) S108 → kw_F [0, 21, 22] σ S108 → 0 ≤ x107.toInt → (65 - x107.toInt).toNat < n115 → kw_AW l 4 kw_E0 KM mX8_rival (p_X8_rival_0 T σ n) 86 [(5, .int x107), (4, .int 1), (3, .int x30), (2, .int z14), (0, .ref 0), (1, .int n)] [] S108 := by
                      intro n115
                      induction n115 with
                      | zero => intro x107 S108 I109 F110 v113 m114; exact absurd m114 (Nat.not_lt_zero _)
                      | succ n115 ih112 =>
                        intro x107 S108 I109 F110 v113 m114
                        have r_x107 := kw_rng x107
                        refine kw_iload (pc := 86) (i := 53) (k := 0) (n := 5) rfl rfl ?_
                        refine kw_iconst (pc := 88) (i := 54) (v := 1) rfl rfl ?_
                        refine kw_aload_n (pc := 89) (i := 55) (k := 4) (n := 0) rfl rfl rfl ?_
                        refine kw_get (pc := 90) (i := 56) (v := .int (S108.1 0 10)) rfl rfl rfl lkX8_163 (fun _ => rfl) ?_
                        have b116 : 0 ≤ (S108.1 0 10).toInt ∧ (S108.1 0 10).toInt ≤ 6 := I109 0 10
                        refine kw_ishl (pc := 93) (i := 57) rfl (fun z117 e_z117 => ?_)
                        have r_z117 := kw_rng z117
                        have t_z117 := kw_shlm (S108.1 0 10) z117 e_z117
                        have u_z117 := congrArg Int32.toInt e_z117
                        refine kw_icmp_ge (pc := 94) (i := 58) (tgt := 196) rfl rfl (fun c118 => ?_) (fun c118 => ?_)
                        · refine kw_iconst (pc := 196) (i := 106) (v := 0) rfl rfl ?_
                          refine kw_istore (pc := 197) (i := 107) (n := 5) (lv' := [(5, .int 0), (4, .int 1), (3, .int x30), (2, .int z14), (0, .ref 0), (1, .int n)]) rfl (by decide) rfl ?_
                          have L123 : ∀ (n127 : Nat) (x119 : Int32) (S120 : kw_S), kw_I (bM T) S120 → kw_F [0, 21, 22] σ S120 → 0 ≤ x119.toInt → (65 - x119.toInt).toNat < n127 → kw_AW l 4 kw_E0 KM mX8_rival (p_X8_rival_0 T σ n) 199 [(5, .int x119), (4, .int 1), (3, .int x30), (2, .int z14), (0, .ref 0), (1, .int n)] [] S120 := by
                            intro n127
                            induction n127 with
                            | zero => intro x119 S120 I121 F122 v125 m126; exact absurd m126 (Nat.not_lt_zero _)
                            | succ n127 ih124 =>
                              intro x119 S120 I121 F122 v125 m126
                              have r_x119 := kw_rng x119
                              refine kw_iload (pc := 199) (i := 108) (k := 0) (n := 5) rfl rfl ?_
                              refine kw_iconst (pc := 201) (i := 109) (v := 1) rfl rfl ?_
                              refine kw_aload_n (pc := 202) (i := 110) (k := 4) (n := 0) rfl rfl rfl ?_
                              refine kw_get (pc := 203) (i := 111) (v := .int (S120.1 0 10)) rfl rfl rfl lkX8_163 (fun _ => rfl) ?_
                              have b128 : 0 ≤ (S120.1 0 10).toInt ∧ (S120.1 0 10).toInt ≤ 6 := I121 0 10
                              refine kw_ishl (pc := 206) (i := 112) rfl (fun z129 e_z129 => ?_)
                              have r_z129 := kw_rng z129
                              have t_z129 := kw_shlm (S120.1 0 10) z129 e_z129
                              have u_z129 := congrArg Int32.toInt e_z129
                              refine kw_icmp_ge (pc := 207) (i := 113) (tgt := 230) rfl rfl (fun c130 => ?_) (fun c130 => ?_)
                              · refine kw_iinc' (pc := 230) (i := 124) (k := 2) (fun z => [(3, .int z), (5, .int x119), (4, .int 1), (2, .int z14), (0, .ref 0), (1, .int n)]) rfl rfl (by decide) rfl (fun _ => rfl) (fun z131 e_z131 t_z131 => ?_)
                                first | (have u_z131 : z131.toInt = x30.toInt + (-1) := (by omega); clear t_z131) | skip
                                refine kw_goto (pc := 233) (i := 125) (tgt := 66) rfl rfl ?_
                                refine kw_sub (lv' := [(3, .int z131), (2, .int z14), (0, .ref 0), (1, .int n)]) [0, 3, 4, 5] rfl ?_
                                exact ih35 z131 S120 I121 F122 (by omega) (by omega) (by omega)
                              · refine kw_aload_n (pc := 210) (i := 114) (k := 4) (n := 0) rfl rfl rfl ?_
                                refine kw_get (pc := 211) (i := 115) (v := .ref 21) rfl rfl rfl lkX8_78 (fun _ => rfl) ?_
                                refine kw_iload (pc := 214) (i := 116) (k := 0) (n := 5) rfl rfl ?_
                                refine kw_aload_n (pc := 216) (i := 117) (k := 4) (n := 0) rfl rfl rfl ?_
                                refine kw_get (pc := 217) (i := 118) (v := .ref 22) rfl rfl rfl lkX8_81 (fun _ => rfl) ?_
                                refine kw_iload (pc := 220) (i := 119) (k := 0) (n := 5) rfl rfl ?_
                                refine kw_iald (pc := 222) (i := 120) (n := 64) rfl rfl (by omega) (by omega) (fun z132 e_z132 => ?_)
                                have t_z132 := congrArg Int32.toInt e_z132
                                have r_z132 := kw_rng z132
                                refine kw_iast (pc := 223) (i := 121) (n := 64) rfl rfl (by omega) (by omega) ?_
                                have I133 : kw_I (bM T) (kw_ui S120 21 x119.toNatClampNeg z132) := kw_I_ui I121 (kw_rng z132).1 (Int.le_of_lt_add_one (kw_rng z132).2)
                                have F134 : kw_F [0, 21, 22] σ (kw_ui S120 21 x119.toNatClampNeg z132) := kw_F_ui F122 (by decide)
                                refine kw_iinc' (pc := 224) (i := 122) (k := 0) (fun z => [(5, .int z), (4, .int 1), (3, .int x30), (2, .int z14), (0, .ref 0), (1, .int n)]) rfl rfl (by decide) rfl (fun _ => rfl) (fun z135 e_z135 t_z135 => ?_)
                                first | (have u_z135 : z135.toInt = x119.toInt + 1 := (by omega); clear t_z135) | skip
                                refine kw_goto (pc := 227) (i := 123) (tgt := 199) rfl rfl ?_
                                refine kw_sub (lv' := [(5, .int z135), (4, .int 1), (3, .int x30), (2, .int z14), (0, .ref 0), (1, .int n)]) [0, 1, 2, 3, 4, 5] rfl ?_
                                exact ih124 z135 (kw_ui S120 21 x119.toNatClampNeg z132) I133 F134 (by omega) (by omega)
                          exact L123 _ 0 S108 I109 F110 (by omega) (Nat.lt_succ_self _)
                        · refine kw_aload_n (pc := 97) (i := 59) (k := 4) (n := 0) rfl rfl rfl ?_
                          refine kw_get (pc := 98) (i := 60) (v := .ref 21) rfl rfl rfl lkX8_78 (fun _ => rfl) ?_
                          refine kw_iload (pc := 101) (i := 61) (k := 0) (n := 5) rfl rfl ?_
                          refine kw_iald (pc := 103) (i := 62) (n := 64) rfl rfl (by omega) (by omega) (fun z136 e_z136 => ?_)
                          have t_z136 := congrArg Int32.toInt e_z136
                          have r_z136 := kw_rng z136
                          refine kw_istore (pc := 104) (i := 63) (n := 6) (lv' := [(6, .int z136), (5, .int x107), (4, .int 1), (3, .int x30), (2, .int z14), (0, .ref 0), (1, .int n)]) rfl (by decide) rfl ?_
                          refine kw_iconst (pc := 106) (i := 64) (v := 0) rfl rfl ?_
                          refine kw_istore (pc := 107) (i := 65) (n := 7) (lv' := [(7, .int 0), (6, .int z136), (5, .int x107), (4, .int 1), (3, .int x30), (2, .int z14), (0, .ref 0), (1, .int n)]) rfl (by decide) rfl ?_
                          have L139 : ∀ (n143 : Nat) (x137 : Int32) (x138 : Int32), 0 ≤ x137.toInt → (7 - x137.toInt).toNat < n143 → kw_AW l 4 kw_E0 KM mX8_rival (p_X8_rival_0 T σ n) 109 [(7, .int x137), (6, .int x138), (5, .int x107), (4, .int 1), (3, .int x30), (2, .int z14), (0, .ref 0), (1, .int n)] [] S108 := by
                            intro n143
                            induction n143 with
                            | zero => intro x137 x138 v141 m142; exact absurd m142 (Nat.not_lt_zero _)
                            | succ n143 ih140 =>
                              intro x137 x138 v141 m142
                              have r_x137 := kw_rng x137
                              have r_x138 := kw_rng x138
                              refine kw_iload (pc := 109) (i := 66) (k := 0) (n := 7) rfl rfl ?_
                              refine kw_aload_n (pc := 111) (i := 67) (k := 6) (n := 0) rfl rfl rfl ?_
                              refine kw_get (pc := 112) (i := 68) (v := .int (S108.1 0 10)) rfl rfl rfl lkX8_163 (fun _ => rfl) ?_
                              refine kw_icmp_ge (pc := 115) (i := 69) (tgt := 181) rfl rfl (fun c144 => ?_) (fun c144 => ?_)
                              · refine kw_aload_n (pc := 181) (i := 99) (k := 6) (n := 0) rfl rfl rfl ?_
                                refine kw_get (pc := 182) (i := 100) (v := .ref 22) rfl rfl rfl lkX8_81 (fun _ => rfl) ?_
                                refine kw_iload (pc := 185) (i := 101) (k := 2) (n := 5) rfl rfl ?_
                                refine kw_iload (pc := 187) (i := 102) (k := 1) (n := 6) rfl rfl ?_
                                refine kw_iast (pc := 189) (i := 103) (n := 64) rfl rfl (by omega) (by omega) ?_
                                have I145 : kw_I (bM T) (kw_ui S108 22 x107.toNatClampNeg x138) := kw_I_ui I109 (kw_rng x138).1 (Int.le_of_lt_add_one (kw_rng x138).2)
                                have F146 : kw_F [0, 21, 22] σ (kw_ui S108 22 x107.toNatClampNeg x138) := kw_F_ui F110 (by decide)
                                refine kw_iinc' (pc := 190) (i := 104) (k := 2) (fun z => [(5, .int z), (7, .int x137), (6, .int x138), (4, .int 1), (3, .int x30), (2, .int z14), (0, .ref 0), (1, .int n)]) rfl rfl (by decide) rfl (fun _ => rfl) (fun z147 e_z147 t_z147 => ?_)
                                first | (have u_z147 : z147.toInt = x107.toInt + 1 := (by omega); clear t_z147) | skip
                                refine kw_goto (pc := 193) (i := 105) (tgt := 86) rfl rfl ?_
                                refine kw_sub (lv' := [(5, .int z147), (4, .int 1), (3, .int x30), (2, .int z14), (0, .ref 0), (1, .int n)]) [0, 3, 4, 5, 6, 7] rfl ?_
                                exact ih112 z147 (kw_ui S108 22 x107.toNatClampNeg x138) I145 F146 (by omega) (by omega)
                              · refine kw_iload (pc := 118) (i := 70) (k := 2) (n := 5) rfl rfl ?_
                                refine kw_iload (pc := 120) (i := 71) (k := 0) (n := 7) rfl rfl ?_
                                refine kw_callS (pc := 122) (i := 72) (Y := mX8_has) (As := [.int x107, .int x137]) (st := []) kw_hE rfl lsX8_185 arX8_has (c_X8_has l T (by omega) (by omega) S108 I109 x107 x137 ) (by decide) (Nat.le_of_ble_eq_true rfl) rfl (fun v S149 p148 => ?_)
                                obtain ⟨e152, z151, rfl, f150⟩ := p148
                                rw [e152]
                                have r_z151 := kw_rng z151
                                show kw_AW l 4 kw_E0 KM mX8_rival (p_X8_rival_0 T σ n) 125 [(7, .int x137), (6, .int x138), (5, .int x107), (4, .int 1), (3, .int x30), (2, .int z14), (0, .ref 0), (1, .int n)] [.int z151] S108
                                refine kw_iload (pc := 125) (i := 73) (k := 3) (n := 4) rfl rfl ?_
                                refine kw_icmp_eq (pc := 127) (i := 74) (tgt := 175) rfl rfl (fun c153 => ?_) (fun c153 => ?_)
                                · refine kw_iinc' (pc := 175) (i := 97) (k := 0) (fun z => [(7, .int z), (6, .int x138), (5, .int x107), (4, .int 1), (3, .int x30), (2, .int z14), (0, .ref 0), (1, .int n)]) rfl rfl (by decide) rfl (fun _ => rfl) (fun z154 e_z154 t_z154 => ?_)
                                  first | (have u_z154 : z154.toInt = x137.toInt + 1 := (by omega); clear t_z154) | skip
                                  refine kw_goto (pc := 178) (i := 98) (tgt := 109) rfl rfl ?_
                                  refine kw_sub (lv' := [(7, .int z154), (6, .int x138), (5, .int x107), (4, .int 1), (3, .int x30), (2, .int z14), (0, .ref 0), (1, .int n)]) [0, 1, 2, 3, 4, 5, 6, 7] rfl ?_
                                  exact ih140 z154 x138 (by omega) (by omega)
                                · refine kw_aload_n (pc := 130) (i := 75) (k := 6) (n := 0) rfl rfl rfl ?_
                                  refine kw_get (pc := 131) (i := 76) (v := .ref 21) rfl rfl rfl lkX8_78 (fun _ => rfl) ?_
                                  refine kw_iload (pc := 134) (i := 77) (k := 2) (n := 5) rfl rfl ?_
                                  refine kw_iconst (pc := 136) (i := 78) (v := 1) rfl rfl ?_
                                  refine kw_iload (pc := 137) (i := 79) (k := 0) (n := 7) rfl rfl ?_
                                  refine kw_ishl (pc := 139) (i := 80) rfl (fun z155 e_z155 => ?_)
                                  have r_z155 := kw_rng z155
                                  have t_z155 := kw_shlm x137 z155 e_z155
                                  have u_z155 := congrArg Int32.toInt e_z155
                                  refine kw_ixor (pc := 140) (i := 81) rfl (fun z156 e_z156 => ?_)
                                  have r_z156 := kw_rng z156
                                  have t_z156 := kw_xor63 x107 z155 z156 e_z156
                                  refine kw_iald (pc := 141) (i := 82) (n := 64) rfl rfl (by omega) (by omega) (fun z157 e_z157 => ?_)
                                  have t_z157 := congrArg Int32.toInt e_z157
                                  have r_z157 := kw_rng z157
                                  refine kw_istore (pc := 142) (i := 83) (n := 8) (lv' := [(8, .int z157), (7, .int x137), (6, .int x138), (5, .int x107), (4, .int 1), (3, .int x30), (2, .int z14), (0, .ref 0), (1, .int n)]) rfl (by decide) rfl ?_
                                  refine kw_iload (pc := 144) (i := 84) (k := 4) (n := 4) rfl rfl ?_
                                  refine kw_if_eq (pc := 146) (i := 85) (tgt := 159) rfl rfl (fun c158 => ?_) (fun c158 => ?_)
                                  · exfalso; omega
                                  · refine kw_iload (pc := 149) (i := 86) (k := 2) (n := 6) rfl rfl ?_
                                    refine kw_iload (pc := 151) (i := 87) (k := 0) (n := 8) rfl rfl ?_
                                    refine kw_callS (pc := 153) (i := 88) (Y := mX8_greater) (As := [.int x138, .int z157]) (st := []) kw_hE rfl lsX8_265 arX8_greater (c_X8_greater l T (by omega) (by omega) S108 I109 x138 z157 ) (by decide) (Nat.le_of_ble_eq_true rfl) rfl (fun v S160 p159 => ?_)
                                    obtain ⟨e162, z161, rfl⟩ := p159
                                    rw [e162]
                                    have r_z161 := kw_rng z161
                                    show kw_AW l 4 kw_E0 KM mX8_rival (p_X8_rival_0 T σ n) 156 [(8, .int z157), (7, .int x137), (6, .int x138), (5, .int x107), (4, .int 1), (3, .int x30), (2, .int z14), (0, .ref 0), (1, .int n)] [.int z161] S108
                                    refine kw_goto (pc := 156) (i := 89) (tgt := 173) rfl rfl ?_
                                    refine kw_istore (pc := 173) (i := 96) (n := 6) (lv' := [(6, .int z161), (8, .int z157), (7, .int x137), (5, .int x107), (4, .int 1), (3, .int x30), (2, .int z14), (0, .ref 0), (1, .int n)]) rfl (by decide) rfl ?_
                                    refine kw_iinc' (pc := 175) (i := 97) (k := 2) (fun z => [(7, .int z), (6, .int z161), (8, .int z157), (5, .int x107), (4, .int 1), (3, .int x30), (2, .int z14), (0, .ref 0), (1, .int n)]) rfl rfl (by decide) rfl (fun _ => rfl) (fun z163 e_z163 t_z163 => ?_)
                                    first | (have u_z163 : z163.toInt = x137.toInt + 1 := (by omega); clear t_z163) | skip
                                    refine kw_goto (pc := 178) (i := 98) (tgt := 109) rfl rfl ?_
                                    refine kw_sub (lv' := [(7, .int z163), (6, .int z161), (5, .int x107), (4, .int 1), (3, .int x30), (2, .int z14), (0, .ref 0), (1, .int n)]) [0, 1, 3, 4, 5, 6, 7, 8] rfl ?_
                                    exact ih140 z163 z161 (by omega) (by omega)
                          exact L139 _ 0 z136 (by omega) (Nat.lt_succ_self _)
                    exact L111 _ 0 S31 I32 F33 (by omega) (Nat.lt_succ_self _)
            exact L34 _ z29 S17 I18 F19 (by omega) (by omega) (Nat.lt_succ_self _)
          · refine kw_aload_n (pc := 42) (i := 25) (k := 2) (n := 0) rfl rfl rfl ?_
            refine kw_get (pc := 43) (i := 26) (v := .ref 21) rfl rfl rfl lkX8_78 (fun _ => rfl) ?_
            refine kw_iload_n (pc := 46) (i := 27) (k := 0) (n := 3) rfl rfl rfl ?_
            refine kw_aload_n (pc := 47) (i := 28) (k := 2) (n := 0) rfl rfl rfl ?_
            refine kw_iload_n (pc := 48) (i := 29) (k := 0) (n := 3) rfl rfl rfl ?_
            refine kw_iload_n (pc := 49) (i := 30) (k := 1) (n := 2) rfl rfl rfl ?_
            refine kw_callV (pc := 50) (i := 31) (Y := mX8_milesBy) (a := 0) (As := [.int x16, .int z14]) (st := [.int x16, .ref 21]) kw_hE rfl rfl lvX8_199 arX8_milesBy (c_X8_milesBy_0 l T (by omega) (by omega) S17 I18 x16 z14 ) (by decide) (Nat.le_of_ble_eq_true rfl) rfl (fun v S165 p164 => ?_)
            obtain ⟨e167, z166, rfl⟩ := p164
            rw [e167]
            have r_z166 := kw_rng z166
            show kw_AW l 4 kw_E0 KM mX8_rival (p_X8_rival_0 T σ n) 53 [(3, .int x16), (2, .int z14), (0, .ref 0), (1, .int n)] [.int z166, .int x16, .ref 21] S17
            refine kw_iast (pc := 53) (i := 32) (n := 64) rfl rfl (by omega) (by omega) ?_
            have I168 : kw_I (bM T) (kw_ui S17 21 x16.toNatClampNeg z166) := kw_I_ui I18 (kw_rng z166).1 (Int.le_of_lt_add_one (kw_rng z166).2)
            have F169 : kw_F [0, 21, 22] σ (kw_ui S17 21 x16.toNatClampNeg z166) := kw_F_ui F19 (by decide)
            refine kw_iinc' (pc := 54) (i := 33) (k := 0) (fun z => [(3, .int z), (2, .int z14), (0, .ref 0), (1, .int n)]) rfl rfl (by decide) rfl (fun _ => rfl) (fun z170 e_z170 t_z170 => ?_)
            first | (have u_z170 : z170.toInt = x16.toInt + 1 := (by omega); clear t_z170) | skip
            refine kw_goto (pc := 57) (i := 34) (tgt := 32) rfl rfl ?_
            refine kw_sub (lv' := [(3, .int z170), (2, .int z14), (0, .ref 0), (1, .int n)]) [0, 1, 2, 3] rfl ?_
            exact ih21 z170 (kw_ui S17 21 x16.toNatClampNeg z166) I168 F169 (by omega) (by omega)
      exact L20 _ 0 σ hI hF0 (by omega) (Nat.lt_succ_self _)
    · refine kw_bipush (pc := 18) (i := 10) (v := (-4)) rfl rfl ?_
      exact kw_ireturn (pc := 20) (i := 11) (ty := .int) rfl rfl rfl ⟨⟨hI, hF0⟩, _, rfl⟩
  · refine kw_iconst (pc := 9) (i := 5) (v := (-1)) rfl rfl ?_
    exact kw_ireturn (pc := 10) (i := 6) (ty := .int) rfl rfl rfl ⟨⟨hI, hF0⟩, _, rfl⟩
