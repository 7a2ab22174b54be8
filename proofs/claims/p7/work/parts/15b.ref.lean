noncomputable def l_X8_readsTown_0_25 (a1 : Int32) : Nat → kw_S → Int32 × kw_S
  | 0, S => (0, S)
  | n + 1, S => kf_l (S.1 5 a1.toNatClampNeg) fun z4 => if (S.1 0 17).toInt < z4.toInt then (kf_b (f_X8_readsLine_0 S a1) fun z5 S6 => if z5.toInt = 0 then (((0 : Int32), S6)) else (kf_l (f_X8_skip_0 S6 a1) fun S7 => l_X8_readsTown_0_25 a1 n S7)) else (if 0 < (S.1 0 19).toInt then (((1 : Int32), S)) else (((0 : Int32), S)))
theorem l_X8_readsTown_0_25_s (a1 : Int32) (n : Nat) (S : kw_S) : l_X8_readsTown_0_25 a1 (n + 1) S = kf_l (S.1 5 a1.toNatClampNeg) fun z4 => if (S.1 0 17).toInt < z4.toInt then (kf_b (f_X8_readsLine_0 S a1) fun z5 S6 => if z5.toInt = 0 then (((0 : Int32), S6)) else (kf_l (f_X8_skip_0 S6 a1) fun S7 => l_X8_readsTown_0_25 a1 n S7)) else (if 0 < (S.1 0 19).toInt then (((1 : Int32), S)) else (((0 : Int32), S))) := rfl
noncomputable def f_X8_readsTown_0 (σ : kw_S) (a : Int32) : Int32 × kw_S := kf_b (f_X8_readsWinds_0 (kw_ui (kw_ui σ 0 17 0) 0 19 0) a) fun z1 S2 => if z1.toInt = 0 then (((0 : Int32), S2)) else (kf_l (f_X8_skip_0 S2 a) fun S3 => l_X8_readsTown_0_25 a ((61 - (S3.1 0 17).toInt).toNat + 1) S3)
theorem f_X8_readsTown_0_u (σ : kw_S) (a : Int32) : f_X8_readsTown_0 σ a = kf_b (f_X8_readsWinds_0 (kw_ui (kw_ui σ 0 17 0) 0 19 0) a) fun z1 S2 => if z1.toInt = 0 then (((0 : Int32), S2)) else (kf_l (f_X8_skip_0 S2 a) fun S3 => l_X8_readsTown_0_25 a ((61 - (S3.1 0 17).toInt).toNat + 1) S3) := rfl
abbrev p_X8_readsTown_0 (T : Int) (σ : kw_S) (a : Int32) : Option Value → kw_S → Prop := fun vv σ' => (kw_I (bM T) σ' ∧ kw_FM [12, 13, 1017, 1018, 1019] σ σ') ∧ ∃ r : Int32, vv = some (.int r) ∧ (r.toInt = 0 ∨ r.toInt = 1) ∧ (r.toInt = 0 ∨ 1 ≤ (σ'.1 0 18).toInt) ∧ (r, σ') = f_X8_readsTown_0 σ a
set_option maxRecDepth 100000 in
set_option maxHeartbeats 4000000 in
theorem c_X8_readsTown_0 (l : Launch) (T : Int) (hT0 : 0 ≤ T) (hT1 : T ≤ 3000) (σ : kw_S) (hI : kw_I (bM T) σ) (a : Int32) (hp0 : 0 ≤ a.toInt) (hp1 : a.toInt ≤ 3) : kw_Met l 4 KM mX8_readsTown [.ref 0, .int a] σ (p_X8_readsTown_0 T σ a) := by
  have r_a := kw_rng a
  have hF0 : kw_FM [12, 13, 1017, 1018, 1019] σ σ := kw_FM.rf
  have hF := (f_X8_readsTown_0_u σ a).symm
  have q_0 : (0 : Int32).toInt = 0 := rfl
  have q_1 : (1 : Int32).toInt = 1 := rfl
  refine kw_Met.of (by decide) rfl tX8_readsTown (Nat.le_of_ble_eq_true rfl) ?_
  show kw_AW l 4 kw_E0 KM mX8_readsTown (p_X8_readsTown_0 T σ a) 0 [(0, .ref 0), (1, .int a)] [] σ
  refine kw_aload_n (pc := 0) (i := 0) (k := 0) (n := 0) rfl rfl rfl ?_
  refine kw_iconst (pc := 1) (i := 1) (v := 0) rfl rfl ?_
  refine kw_puti (pc := 2) (i := 2) (z := 0) rfl rfl rfl lpX8_128 rfl rfl ?_
  have I1 : kw_I (bM T) (kw_ui σ 0 17 0) := kw_I_ui hI (show 0 ≤ (0 : Int32).toInt by omega) (show (0 : Int32).toInt ≤ 60 by omega)
  have F2 : kw_FM [12, 13, 1017, 1018, 1019] σ (kw_ui σ 0 17 0) := kw_FM_ui0 hF0 (by decide)
  refine kw_aload_n (pc := 5) (i := 3) (k := 0) (n := 0) rfl rfl rfl ?_
  refine kw_iconst (pc := 6) (i := 4) (v := 0) rfl rfl ?_
  refine kw_puti (pc := 7) (i := 5) (z := 0) rfl rfl rfl lpX8_144 rfl rfl ?_
  have I3 : kw_I (bM T) (kw_ui (kw_ui σ 0 17 0) 0 19 0) := kw_I_ui I1 (show 0 ≤ (0 : Int32).toInt by omega) (show (0 : Int32).toInt ≤ 6 by omega)
  have F4 : kw_FM [12, 13, 1017, 1018, 1019] σ (kw_ui (kw_ui σ 0 17 0) 0 19 0) := kw_FM_ui0 F2 (by decide)
  refine kw_aload_n (pc := 10) (i := 6) (k := 0) (n := 0) rfl rfl rfl ?_
  refine kw_iload_n (pc := 11) (i := 7) (k := 1) (n := 1) rfl rfl rfl ?_
  refine kw_callV (pc := 12) (i := 8) (Y := mX8_readsWinds) (a := 0) (As := [.int a]) (st := []) kw_hE rfl rfl lvX8_151 arX8_readsWinds (c_X8_readsWinds_0 l T hT0 hT1 (kw_ui (kw_ui σ 0 17 0) 0 19 0) I3 a (by first | omega | decide) (by first | omega | decide)) (by decide) (Nat.le_of_ble_eq_true rfl) rfl (fun v S6 p5 => ?_)
  obtain ⟨⟨I12, F13⟩, z11, rfl, f7, f8, f9, ef10⟩ := p5
  have F14 : kw_FM [12, 13, 1017, 1018, 1019] σ S6 := kw_FM.tr F4 F13 (by decide)
  have w_15 : (S6.1 0 27).toInt = (σ.1 0 27).toInt := congrArg Int32.toInt (kw_FM.at0 (j := 27) F13 (by decide))
  replace hF := kf_be ef10 hF
  have f8 : (z11.toInt = 0 ∨ 1 ≤ (S6.1 0 18).toInt) := f8
  have f9 : (S6.1 0 19).toInt = (0 : Int32).toInt := f9
  have r_z11 := kw_rng z11
  show kw_AW l 4 kw_E0 KM mX8_readsTown (p_X8_readsTown_0 T σ a) 15 [(0, .ref 0), (1, .int a)] [.int z11] S6
  refine kw_if_ne (pc := 15) (i := 9) (tgt := 20) rfl rfl (fun c16 => ?_) (fun c16 => ?_)
  · replace hF := kf_n c16 hF
    refine kw_aload_n (pc := 20) (i := 12) (k := 0) (n := 0) rfl rfl rfl ?_
    refine kw_iload_n (pc := 21) (i := 13) (k := 1) (n := 1) rfl rfl rfl ?_
    refine kw_callV (pc := 22) (i := 14) (Y := mX8_skip) (a := 0) (As := [.int a]) (st := []) kw_hE rfl rfl lvX8_134 arX8_skip (c_X8_skip_0 l T hT0 hT1 S6 I12 a (by first | omega | decide) (by first | omega | decide)) (by decide) (Nat.le_of_ble_eq_true rfl) rfl (fun v S18 p17 => ?_)
    obtain ⟨⟨I23, F24⟩, rfl, f19, f20, f21, ef22⟩ := p17
    have F25 : kw_FM [12, 13, 1017, 1018, 1019] σ S18 := kw_FM.tr F14 F24 (by decide)
    have w_26 : (S18.1 0 27).toInt = (S6.1 0 27).toInt := congrArg Int32.toInt (kw_FM.at0 (j := 27) F24 (by decide))
    replace hF := kf_le ef22 hF
    have f19 : (S6.1 0 17).toInt ≤ (S18.1 0 17).toInt := f19
    have f20 : (S18.1 0 18).toInt = (S6.1 0 18).toInt := f20
    have f21 : (S18.1 0 19).toInt = (S6.1 0 19).toInt := f21
    show kw_AW l 4 kw_E0 KM mX8_readsTown (p_X8_readsTown_0 T σ a) 25 [(0, .ref 0), (1, .int a)] [] S18
    have L30 : ∀ (n34 : Nat)  (S27 : kw_S), kw_I (bM T) S27 → kw_FM [12, 13, 1017, 1018, 1019] σ S27 → 1 ≤ (S27.1 0 18).toInt → l_X8_readsTown_0_25 a n34 S27 = (f_X8_readsTown_0 σ a) → (61 - (S27.1 0 17).toInt).toNat < n34 → kw_AW l 4 kw_E0 KM mX8_readsTown (p_X8_readsTown_0 T σ a) 25 [(0, .ref 0), (1, .int a)] [] S27 := by
      intro n34
      induction n34 with
      | zero => intro S27 I28 F29 v32 hF m33; exact absurd m33 (Nat.not_lt_zero _)
      | succ n34 ih31 =>
        intro S27 I28 F29 v32 hF m33
        replace hF := kf_st (l_X8_readsTown_0_25_s _ _ _) hF
        refine kw_aload_n (pc := 25) (i := 15) (k := 0) (n := 0) rfl rfl rfl ?_
        refine kw_get (pc := 26) (i := 16) (v := .int (S27.1 0 17)) rfl rfl rfl lkX8_128 (fun _ => rfl) ?_
        have b35 : 0 ≤ (S27.1 0 17).toInt ∧ (S27.1 0 17).toInt ≤ 60 := I28 0 17
        refine kw_aload_n (pc := 29) (i := 17) (k := 0) (n := 0) rfl rfl rfl ?_
        refine kw_get (pc := 30) (i := 18) (v := .ref 5) rfl rfl rfl lkX8_26 (fun _ => rfl) ?_
        refine kw_iload_n (pc := 33) (i := 19) (k := 1) (n := 1) rfl rfl rfl ?_
        refine kw_iald (pc := 34) (i := 20) (n := 4) rfl rfl (by omega) (by omega) (fun z36 e_z36 => ?_)
        replace hF := kf_le e_z36 hF
        have t_z36 := congrArg Int32.toInt e_z36
        have b_z36 : -9 ≤ z36.toInt ∧ z36.toInt ≤ 60 := by rw [e_z36]; exact I28 5 _
        refine kw_icmp_ge (pc := 35) (i := 21) (tgt := 56) rfl rfl (fun c37 => ?_) (fun c37 => ?_)
        · replace hF := kf_nl c37 hF
          refine kw_aload_n (pc := 56) (i := 32) (k := 0) (n := 0) rfl rfl rfl ?_
          refine kw_get (pc := 57) (i := 33) (v := .int (S27.1 0 19)) rfl rfl rfl lkX8_144 (fun _ => rfl) ?_
          have b38 : 0 ≤ (S27.1 0 19).toInt ∧ (S27.1 0 19).toInt ≤ 6 := I28 0 19
          refine kw_if_le (pc := 60) (i := 34) (tgt := 67) rfl rfl (fun c39 => ?_) (fun c39 => ?_)
          · replace hF := kf_nl c39 hF
            refine kw_iconst (pc := 67) (i := 37) (v := 0) rfl rfl ?_
            exact kw_ireturn (pc := 68) (i := 38) (ty := .boolean) rfl rfl rfl ⟨⟨I28, F29⟩, _, rfl, by omega, (show ((0 : Int32).toInt = 0 ∨ 1 ≤ (S27.1 0 18).toInt) from by omega), hF⟩
          · replace hF := kf_p c39 hF
            refine kw_iconst (pc := 63) (i := 35) (v := 1) rfl rfl ?_
            refine kw_goto (pc := 64) (i := 36) (tgt := 68) rfl rfl ?_
            exact kw_ireturn (pc := 68) (i := 38) (ty := .boolean) rfl rfl rfl ⟨⟨I28, F29⟩, _, rfl, by omega, (show ((1 : Int32).toInt = 0 ∨ 1 ≤ (S27.1 0 18).toInt) from by omega), hF⟩
        · replace hF := kf_p c37 hF
          refine kw_aload_n (pc := 38) (i := 22) (k := 0) (n := 0) rfl rfl rfl ?_
          refine kw_iload_n (pc := 39) (i := 23) (k := 1) (n := 1) rfl rfl rfl ?_
          refine kw_callV (pc := 40) (i := 24) (Y := mX8_readsLine) (a := 0) (As := [.int a]) (st := []) kw_hE rfl rfl lvX8_154 arX8_readsLine (c_X8_readsLine_0 l T hT0 hT1 S27 I28 a (by first | omega | decide) (by first | omega | decide)) (by decide) (Nat.le_of_ble_eq_true rfl) rfl (fun v S41 p40 => ?_)
          obtain ⟨⟨I47, F48⟩, z46, rfl, f42, f43, f44, ef45⟩ := p40
          have F49 : kw_FM [12, 13, 1017, 1018, 1019] σ S41 := kw_FM.tr F29 F48 (by decide)
          have w_50 : (S41.1 0 27).toInt = (S27.1 0 27).toInt := congrArg Int32.toInt (kw_FM.at0 (j := 27) F48 (by decide))
          replace hF := kf_be ef45 hF
          have f43 : (z46.toInt = 0 ∨ (S27.1 0 17).toInt < (S41.1 0 17).toInt) := f43
          have f44 : (S41.1 0 18).toInt = (S27.1 0 18).toInt := f44
          have r_z46 := kw_rng z46
          show kw_AW l 4 kw_E0 KM mX8_readsTown (p_X8_readsTown_0 T σ a) 43 [(0, .ref 0), (1, .int a)] [.int z46] S41
          refine kw_if_ne (pc := 43) (i := 25) (tgt := 48) rfl rfl (fun c51 => ?_) (fun c51 => ?_)
          · replace hF := kf_n c51 hF
            refine kw_aload_n (pc := 48) (i := 28) (k := 0) (n := 0) rfl rfl rfl ?_
            refine kw_iload_n (pc := 49) (i := 29) (k := 1) (n := 1) rfl rfl rfl ?_
            refine kw_callV (pc := 50) (i := 30) (Y := mX8_skip) (a := 0) (As := [.int a]) (st := []) kw_hE rfl rfl lvX8_134 arX8_skip (c_X8_skip_0 l T hT0 hT1 S41 I47 a (by first | omega | decide) (by first | omega | decide)) (by decide) (Nat.le_of_ble_eq_true rfl) rfl (fun v S53 p52 => ?_)
            obtain ⟨⟨I58, F59⟩, rfl, f54, f55, f56, ef57⟩ := p52
            have F60 : kw_FM [12, 13, 1017, 1018, 1019] σ S53 := kw_FM.tr F49 F59 (by decide)
            have w_61 : (S53.1 0 27).toInt = (S41.1 0 27).toInt := congrArg Int32.toInt (kw_FM.at0 (j := 27) F59 (by decide))
            replace hF := kf_le ef57 hF
            have f54 : (S41.1 0 17).toInt ≤ (S53.1 0 17).toInt := f54
            have f55 : (S53.1 0 18).toInt = (S41.1 0 18).toInt := f55
            have f56 : (S53.1 0 19).toInt = (S41.1 0 19).toInt := f56
            show kw_AW l 4 kw_E0 KM mX8_readsTown (p_X8_readsTown_0 T σ a) 53 [(0, .ref 0), (1, .int a)] [] S53
            refine kw_goto (pc := 53) (i := 31) (tgt := 25) rfl rfl ?_
            refine kw_sub (lv' := [(0, .ref 0), (1, .int a)]) [0, 1] rfl ?_
            exact ih31 S53 I58 F60 (show 1 ≤ (S53.1 0 18).toInt from by omega) hF (show (61 - (S53.1 0 17).toInt).toNat < n34 from by omega)
          · replace hF := kf_p c51 hF
            refine kw_iconst (pc := 46) (i := 26) (v := 0) rfl rfl ?_
            exact kw_ireturn (pc := 47) (i := 27) (ty := .boolean) rfl rfl rfl ⟨⟨I47, F49⟩, _, rfl, by omega, (show ((0 : Int32).toInt = 0 ∨ 1 ≤ (S41.1 0 18).toInt) from by omega), hF⟩
    exact L30 _ S18 I23 F25 (show 1 ≤ (S18.1 0 18).toInt from by omega) hF (Nat.lt_succ_self _)
  · replace hF := kf_p c16 hF
    refine kw_iconst (pc := 18) (i := 10) (v := 0) rfl rfl ?_
    exact kw_ireturn (pc := 19) (i := 11) (ty := .boolean) rfl rfl rfl ⟨⟨I12, F14⟩, _, rfl, by omega, (show ((0 : Int32).toInt = 0 ∨ 1 ≤ (S6.1 0 18).toInt) from by omega), hF⟩
noncomputable def f_X8_goesOn_0 (σ : kw_S) (a : Int32) : Int32 × kw_S := kf_b (f_X8_readsTown_0 σ a) fun z1 S2 => if z1.toInt = 0 then (((S2.1 0 17), S2)) else ((((-9) : Int32), S2))
theorem f_X8_goesOn_0_u (σ : kw_S) (a : Int32) : f_X8_goesOn_0 σ a = kf_b (f_X8_readsTown_0 σ a) fun z1 S2 => if z1.toInt = 0 then (((S2.1 0 17), S2)) else ((((-9) : Int32), S2)) := rfl
abbrev p_X8_goesOn_0 (T : Int) (σ : kw_S) (a : Int32) : Option Value → kw_S → Prop := fun vv σ' => (kw_I (bM T) σ' ∧ kw_FM [12, 13, 1017, 1018, 1019] σ σ') ∧ ∃ r : Int32, vv = some (.int r) ∧ (r.toInt ≠ -9 ∨ 1 ≤ (σ'.1 0 18).toInt) ∧ (r, σ') = f_X8_goesOn_0 σ a
set_option maxRecDepth 100000 in
set_option maxHeartbeats 4000000 in
theorem c_X8_goesOn_0 (l : Launch) (T : Int) (hT0 : 0 ≤ T) (hT1 : T ≤ 3000) (σ : kw_S) (hI : kw_I (bM T) σ) (a : Int32) (hp0 : 0 ≤ a.toInt) (hp1 : a.toInt ≤ 3) : kw_Met l 5 KM mX8_goesOn [.ref 0, .int a] σ (p_X8_goesOn_0 T σ a) := by
  have r_a := kw_rng a
  have hF0 : kw_FM [12, 13, 1017, 1018, 1019] σ σ := kw_FM.rf
  have hF := (f_X8_goesOn_0_u σ a).symm
  have q_m9 : (-9 : Int32).toInt = -9 := rfl
  refine kw_Met.of (by decide) rfl tX8_goesOn (Nat.le_of_ble_eq_true rfl) ?_
  show kw_AW l 5 kw_E0 KM mX8_goesOn (p_X8_goesOn_0 T σ a) 0 [(0, .ref 0), (1, .int a)] [] σ
  refine kw_aload_n (pc := 0) (i := 0) (k := 0) (n := 0) rfl rfl rfl ?_
  refine kw_iload_n (pc := 1) (i := 1) (k := 1) (n := 1) rfl rfl rfl ?_
  refine kw_callV (pc := 2) (i := 2) (Y := mX8_readsTown) (a := 0) (As := [.int a]) (st := []) kw_hE rfl rfl lvX8_157 arX8_readsTown (c_X8_readsTown_0 l T hT0 hT1 σ hI a (by first | omega | decide) (by first | omega | decide)) (by decide) (Nat.le_of_ble_eq_true rfl) rfl (fun v S2 p1 => ?_)
  obtain ⟨⟨I7, F8⟩, z6, rfl, f3, f4, ef5⟩ := p1
  have F9 : kw_FM [12, 13, 1017, 1018, 1019] σ S2 := kw_FM.tr hF0 F8 (by decide)
  have w_10 : (S2.1 0 27).toInt = (σ.1 0 27).toInt := congrArg Int32.toInt (kw_FM.at0 (j := 27) F8 (by decide))
  replace hF := kf_be ef5 hF
  have f4 : (z6.toInt = 0 ∨ 1 ≤ (S2.1 0 18).toInt) := f4
  have r_z6 := kw_rng z6
  show kw_AW l 5 kw_E0 KM mX8_goesOn (p_X8_goesOn_0 T σ a) 5 [(0, .ref 0), (1, .int a)] [.int z6] S2
  refine kw_if_eq (pc := 5) (i := 3) (tgt := 13) rfl rfl (fun c11 => ?_) (fun c11 => ?_)
  · replace hF := kf_p c11 hF
    refine kw_aload_n (pc := 13) (i := 6) (k := 0) (n := 0) rfl rfl rfl ?_
    refine kw_get (pc := 14) (i := 7) (v := .int (S2.1 0 17)) rfl rfl rfl lkX8_128 (fun _ => rfl) ?_
    have b12 : 0 ≤ (S2.1 0 17).toInt ∧ (S2.1 0 17).toInt ≤ 60 := I7 0 17
    exact kw_ireturn (pc := 17) (i := 8) (ty := .int) rfl rfl rfl ⟨⟨I7, F9⟩, _, rfl, (show ((S2.1 0 17).toInt ≠ -9 ∨ 1 ≤ (S2.1 0 18).toInt) from by omega), hF⟩
  · replace hF := kf_n c11 hF
    refine kw_bipush (pc := 8) (i := 4) (v := (-9)) rfl rfl ?_
    refine kw_goto (pc := 10) (i := 5) (tgt := 17) rfl rfl ?_
    exact kw_ireturn (pc := 17) (i := 8) (ty := .int) rfl rfl rfl ⟨⟨I7, F9⟩, _, rfl, (show (((-9) : Int32).toInt ≠ -9 ∨ 1 ≤ (S2.1 0 18).toInt) from by omega), hF⟩
noncomputable def f_X8_fault_0 (σ : kw_S) (a : Int32) : Int32 × kw_S := kf_b (f_X8_askedText_0 σ a) fun z1 S2 => if z1.toInt < 0 then ((z1, S2)) else (kf_b (f_X8_goesOn_0 S2 a) fun z3 S4 => (z3, S4))
theorem f_X8_fault_0_u (σ : kw_S) (a : Int32) : f_X8_fault_0 σ a = kf_b (f_X8_askedText_0 σ a) fun z1 S2 => if z1.toInt < 0 then ((z1, S2)) else (kf_b (f_X8_goesOn_0 S2 a) fun z3 S4 => (z3, S4)) := rfl
abbrev p_X8_fault_0 (T : Int) (σ : kw_S) (a : Int32) : Option Value → kw_S → Prop := fun vv σ' => (kw_I (bM T) σ' ∧ kw_FM [1, 12, 13, 1000, 1017, 1018, 1019] σ σ') ∧ ∃ r : Int32, vv = some (.int r) ∧ (r, σ') = f_X8_fault_0 σ a
set_option maxRecDepth 100000 in
set_option maxHeartbeats 4000000 in
theorem c_X8_fault_0 (l : Launch) (T : Int) (hT0 : 0 ≤ T) (hT1 : T ≤ 3000) (σ : kw_S) (hI : kw_I (bM T) σ) (a : Int32) : kw_Met l 6 KM mX8_fault [.ref 0, .int a] σ (p_X8_fault_0 T σ a) := by
  have r_a := kw_rng a
  have hF0 : kw_FM [1, 12, 13, 1000, 1017, 1018, 1019] σ σ := kw_FM.rf
  have hF := (f_X8_fault_0_u σ a).symm
  refine kw_Met.of (by decide) rfl tX8_fault (Nat.le_of_ble_eq_true rfl) ?_
  show kw_AW l 6 kw_E0 KM mX8_fault (p_X8_fault_0 T σ a) 0 [(0, .ref 0), (1, .int a)] [] σ
  refine kw_aload_n (pc := 0) (i := 0) (k := 0) (n := 0) rfl rfl rfl ?_
  refine kw_iload_n (pc := 1) (i := 1) (k := 1) (n := 1) rfl rfl rfl ?_
  refine kw_callV (pc := 2) (i := 2) (Y := mX8_askedText) (a := 0) (As := [.int a]) (st := []) kw_hE rfl rfl lvX8_125 arX8_askedText (c_X8_askedText_0 l T hT0 hT1 σ hI a ) (by decide) (Nat.le_of_ble_eq_true rfl) rfl (fun v S2 p1 => ?_)
  obtain ⟨⟨I6, F7⟩, z5, rfl, f3, ef4⟩ := p1
  have F8 : kw_FM [1, 12, 13, 1000, 1017, 1018, 1019] σ S2 := kw_FM.tr hF0 F7 (by decide)
  have w_9 : (S2.1 0 27).toInt = (σ.1 0 27).toInt := congrArg Int32.toInt (kw_FM.at0 (j := 27) F7 (by decide))
  replace hF := kf_be ef4 hF
  have r_z5 := kw_rng z5
  show kw_AW l 6 kw_E0 KM mX8_fault (p_X8_fault_0 T σ a) 5 [(0, .ref 0), (1, .int a)] [.int z5] S2
  refine kw_istore_n (pc := 5) (i := 3) (n := 2) (lv' := [(2, .int z5), (0, .ref 0), (1, .int a)]) rfl rfl (by decide) rfl ?_
  refine kw_iload_n (pc := 6) (i := 4) (k := 0) (n := 2) rfl rfl rfl ?_
  refine kw_if_ge (pc := 7) (i := 5) (tgt := 14) rfl rfl (fun c10 => ?_) (fun c10 => ?_)
  · replace hF := kf_nl c10 hF
    refine kw_aload_n (pc := 14) (i := 8) (k := 1) (n := 0) rfl rfl rfl ?_
    refine kw_iload_n (pc := 15) (i := 9) (k := 2) (n := 1) rfl rfl rfl ?_
    refine kw_callV (pc := 16) (i := 10) (Y := mX8_goesOn) (a := 0) (As := [.int a]) (st := []) kw_hE rfl rfl lvX8_160 arX8_goesOn (c_X8_goesOn_0 l T hT0 hT1 S2 I6 a (by first | omega | decide) (by first | omega | decide)) (by decide) (Nat.le_of_ble_eq_true rfl) rfl (fun v S12 p11 => ?_)
    obtain ⟨⟨I16, F17⟩, z15, rfl, f13, ef14⟩ := p11
    have F18 : kw_FM [1, 12, 13, 1000, 1017, 1018, 1019] σ S12 := kw_FM.tr F8 F17 (by decide)
    have w_19 : (S12.1 0 27).toInt = (S2.1 0 27).toInt := congrArg Int32.toInt (kw_FM.at0 (j := 27) F17 (by decide))
    replace hF := kf_be ef14 hF
    have f13 : (z15.toInt ≠ -9 ∨ 1 ≤ (S12.1 0 18).toInt) := f13
    have r_z15 := kw_rng z15
    show kw_AW l 6 kw_E0 KM mX8_fault (p_X8_fault_0 T σ a) 19 [(2, .int z5), (0, .ref 0), (1, .int a)] [.int z15] S12
    exact kw_ireturn (pc := 19) (i := 11) (ty := .int) rfl rfl rfl ⟨⟨I16, F18⟩, _, rfl, hF⟩
  · replace hF := kf_p c10 hF
    refine kw_iload_n (pc := 10) (i := 6) (k := 0) (n := 2) rfl rfl rfl ?_
    refine kw_goto (pc := 11) (i := 7) (tgt := 19) rfl rfl ?_
    exact kw_ireturn (pc := 19) (i := 11) (ty := .int) rfl rfl rfl ⟨⟨I6, F8⟩, _, rfl, hF⟩
noncomputable def l_X8_town_0_183 (a1 : Int32) (a2 : Int32) : Nat → Int32 → kw_S → Int32 × kw_S
  | 0, _, S => (0, S)
  | n + 1, x3, S => if x3.toInt < (3 : Int32).toInt then (kf_l (x3 + Int32.ofInt 1) fun z5 => l_X8_town_0_183 a1 a2 n z5 (kw_ui S 16 x3.toNatClampNeg 0)) else (((S.1 0 10), S))
theorem l_X8_town_0_183_s (a1 : Int32) (a2 : Int32) (n : Nat) (x3 : Int32) (S : kw_S) : l_X8_town_0_183 a1 a2 (n + 1) x3 S = if x3.toInt < (3 : Int32).toInt then (kf_l (x3 + Int32.ofInt 1) fun z5 => l_X8_town_0_183 a1 a2 n z5 (kw_ui S 16 x3.toNatClampNeg 0)) else (((S.1 0 10), S)) := rfl
noncomputable def l_X8_town_0_71 (a1 : Int32) (a2 : Int32) : Nat → Int32 → kw_S → Int32 × kw_S
  | 0, _, S => (0, S)
  | n + 1, x3, S => if x3.toInt < (S.1 0 10).toInt then (kf_l ((4 : Int32) * x3) fun z6 => kf_l (S.1 13 z6.toNatClampNeg) fun z7 => kf_l ((4 : Int32) * x3) fun z8 => kf_l (z8 + (1 : Int32)) fun z9 => kf_l ((kw_ui S 8 x3.toNatClampNeg z7).1 13 z9.toNatClampNeg) fun z10 => kf_l (z10 - (4 : Int32)) fun z11 => kf_l ((4 : Int32) * x3) fun z12 => kf_l (z12 + (2 : Int32)) fun z13 => kf_l ((kw_ui (kw_ui S 8 x3.toNatClampNeg z7) 9 x3.toNatClampNeg z11).1 13 z13.toNatClampNeg) fun z14 => kf_l ((4 : Int32) * x3) fun z15 => kf_l (z15 + (3 : Int32)) fun z16 => kf_l ((kw_ui (kw_ui (kw_ui S 8 x3.toNatClampNeg z7) 9 x3.toNatClampNeg z11) 10 x3.toNatClampNeg z14).1 13 z16.toNatClampNeg) fun z17 => kf_l (x3 + Int32.ofInt 1) fun z18 => l_X8_town_0_71 a1 a2 n z18 (kw_ui (kw_ui (kw_ui (kw_ui (kw_ui S 8 x3.toNatClampNeg z7) 9 x3.toNatClampNeg z11) 10 x3.toNatClampNeg z14) 11 x3.toNatClampNeg z17) 14 x3.toNatClampNeg 0)) else (l_X8_town_0_183 a1 a2 ((4 - (0 : Int32).toInt).toNat + 1) (0 : Int32) (kw_ui (kw_ui (kw_ui (kw_ui (kw_ui S 0 22 0) 0 23 0) 0 24 0) 0 25 0) 0 27 0))
theorem l_X8_town_0_71_s (a1 : Int32) (a2 : Int32) (n : Nat) (x3 : Int32) (S : kw_S) : l_X8_town_0_71 a1 a2 (n + 1) x3 S = if x3.toInt < (S.1 0 10).toInt then (kf_l ((4 : Int32) * x3) fun z6 => kf_l (S.1 13 z6.toNatClampNeg) fun z7 => kf_l ((4 : Int32) * x3) fun z8 => kf_l (z8 + (1 : Int32)) fun z9 => kf_l ((kw_ui S 8 x3.toNatClampNeg z7).1 13 z9.toNatClampNeg) fun z10 => kf_l (z10 - (4 : Int32)) fun z11 => kf_l ((4 : Int32) * x3) fun z12 => kf_l (z12 + (2 : Int32)) fun z13 => kf_l ((kw_ui (kw_ui S 8 x3.toNatClampNeg z7) 9 x3.toNatClampNeg z11).1 13 z13.toNatClampNeg) fun z14 => kf_l ((4 : Int32) * x3) fun z15 => kf_l (z15 + (3 : Int32)) fun z16 => kf_l ((kw_ui (kw_ui (kw_ui S 8 x3.toNatClampNeg z7) 9 x3.toNatClampNeg z11) 10 x3.toNatClampNeg z14).1 13 z16.toNatClampNeg) fun z17 => kf_l (x3 + Int32.ofInt 1) fun z18 => l_X8_town_0_71 a1 a2 n z18 (kw_ui (kw_ui (kw_ui (kw_ui (kw_ui S 8 x3.toNatClampNeg z7) 9 x3.toNatClampNeg z11) 10 x3.toNatClampNeg z14) 11 x3.toNatClampNeg z17) 14 x3.toNatClampNeg 0)) else (l_X8_town_0_183 a1 a2 ((4 - (0 : Int32).toInt).toNat + 1) (0 : Int32) (kw_ui (kw_ui (kw_ui (kw_ui (kw_ui S 0 22 0) 0 23 0) 0 24 0) 0 25 0) 0 27 0)) := rfl
noncomputable def l_X8_town_0_43 (a1 : Int32) (a2 : Int32) : Nat → Int32 → kw_S → Int32 × kw_S
  | 0, _, S => (0, S)
  | n + 1, x3, S => if x3.toInt < (S.1 0 11).toInt then (kf_l (S.1 12 x3.toNatClampNeg) fun z19 => kf_l (x3 + Int32.ofInt 1) fun z20 => l_X8_town_0_43 a1 a2 n z20 (kw_ui S 7 x3.toNatClampNeg z19)) else (l_X8_town_0_71 a1 a2 ((7 - (0 : Int32).toInt).toNat + 1) (0 : Int32) S)
theorem l_X8_town_0_43_s (a1 : Int32) (a2 : Int32) (n : Nat) (x3 : Int32) (S : kw_S) : l_X8_town_0_43 a1 a2 (n + 1) x3 S = if x3.toInt < (S.1 0 11).toInt then (kf_l (S.1 12 x3.toNatClampNeg) fun z19 => kf_l (x3 + Int32.ofInt 1) fun z20 => l_X8_town_0_43 a1 a2 n z20 (kw_ui S 7 x3.toNatClampNeg z19)) else (l_X8_town_0_71 a1 a2 ((7 - (0 : Int32).toInt).toNat + 1) (0 : Int32) S) := rfl
noncomputable def f_X8_town_0 (σ : kw_S) (a : Int32) : Int32 × kw_S := kf_b (f_X8_askedText_0 σ a) fun z1 S2 => if z1.toInt < 0 then ((z1, S2)) else (kf_b (f_X8_goesOn_0 S2 a) fun z3 S4 => if z3.toInt = ((-9) : Int32).toInt then (l_X8_town_0_43 a z1 ((9 - (0 : Int32).toInt).toNat + 1) (0 : Int32) (kw_ui (kw_ui S4 0 10 (S4.1 0 19)) 0 11 (S4.1 0 18))) else ((((-4) : Int32), S4)))
theorem f_X8_town_0_u (σ : kw_S) (a : Int32) : f_X8_town_0 σ a = kf_b (f_X8_askedText_0 σ a) fun z1 S2 => if z1.toInt < 0 then ((z1, S2)) else (kf_b (f_X8_goesOn_0 S2 a) fun z3 S4 => if z3.toInt = ((-9) : Int32).toInt then (l_X8_town_0_43 a z1 ((9 - (0 : Int32).toInt).toNat + 1) (0 : Int32) (kw_ui (kw_ui S4 0 10 (S4.1 0 19)) 0 11 (S4.1 0 18))) else ((((-4) : Int32), S4))) := rfl
abbrev p_X8_town_0 (T : Int) (σ : kw_S) (a : Int32) : Option Value → kw_S → Prop := fun vv σ' => (kw_I (bM T) σ' ∧ kw_FM [1, 7, 8, 9, 10, 11, 12, 13, 14, 16, 1000, 1010, 1011, 1017, 1018, 1019, 1022, 1023, 1024, 1025, 1027] σ σ') ∧ ∃ r : Int32, vv = some (.int r) ∧ (r, σ') = f_X8_town_0 σ a
set_option maxRecDepth 100000 in
set_option maxHeartbeats 4000000 in
theorem c_X8_town_0 (l : Launch) (T : Int) (hT0 : 0 ≤ T) (hT1 : T ≤ 3000) (σ : kw_S) (hI : kw_I (bM T) σ) (a : Int32) : kw_Met l 6 KM mX8_town [.ref 0, .int a] σ (p_X8_town_0 T σ a) := by
  have r_a := kw_rng a
  have hF0 : kw_FM [1, 7, 8, 9, 10, 11, 12, 13, 14, 16, 1000, 1010, 1011, 1017, 1018, 1019, 1022, 1023, 1024, 1025, 1027] σ σ := kw_FM.rf
  have hF := (f_X8_town_0_u σ a).symm
  have q_m9 : (-9 : Int32).toInt = -9 := rfl
  have q_m4 : (-4 : Int32).toInt = -4 := rfl
  have q_0 : (0 : Int32).toInt = 0 := rfl
  have q_1 : (1 : Int32).toInt = 1 := rfl
  have q_2 : (2 : Int32).toInt = 2 := rfl
  have q_3 : (3 : Int32).toInt = 3 := rfl
  have q_4 : (4 : Int32).toInt = 4 := rfl
  refine kw_Met.of (by decide) rfl tX8_town (Nat.le_of_ble_eq_true rfl) ?_
  show kw_AW l 6 kw_E0 KM mX8_town (p_X8_town_0 T σ a) 0 [(0, .ref 0), (1, .int a)] [] σ
  refine kw_aload_n (pc := 0) (i := 0) (k := 0) (n := 0) rfl rfl rfl ?_
  refine kw_iload_n (pc := 1) (i := 1) (k := 1) (n := 1) rfl rfl rfl ?_
  refine kw_callV (pc := 2) (i := 2) (Y := mX8_askedText) (a := 0) (As := [.int a]) (st := []) kw_hE rfl rfl lvX8_125 arX8_askedText (c_X8_askedText_0 l T hT0 hT1 σ hI a ) (by decide) (Nat.le_of_ble_eq_true rfl) rfl (fun v S2 p1 => ?_)
  obtain ⟨⟨I6, F7⟩, z5, rfl, f3, ef4⟩ := p1
  have F8 : kw_FM [1, 7, 8, 9, 10, 11, 12, 13, 14, 16, 1000, 1010, 1011, 1017, 1018, 1019, 1022, 1023, 1024, 1025, 1027] σ S2 := kw_FM.tr hF0 F7 (by decide)
  have w_9 : (S2.1 0 27).toInt = (σ.1 0 27).toInt := congrArg Int32.toInt (kw_FM.at0 (j := 27) F7 (by decide))
  replace hF := kf_be ef4 hF
  have r_z5 := kw_rng z5
  show kw_AW l 6 kw_E0 KM mX8_town (p_X8_town_0 T σ a) 5 [(0, .ref 0), (1, .int a)] [.int z5] S2
  refine kw_istore_n (pc := 5) (i := 3) (n := 2) (lv' := [(2, .int z5), (0, .ref 0), (1, .int a)]) rfl rfl (by decide) rfl ?_
  refine kw_iload_n (pc := 6) (i := 4) (k := 0) (n := 2) rfl rfl rfl ?_
  refine kw_if_ge (pc := 7) (i := 5) (tgt := 12) rfl rfl (fun c10 => ?_) (fun c10 => ?_)
  · replace hF := kf_nl c10 hF
    refine kw_aload_n (pc := 12) (i := 8) (k := 1) (n := 0) rfl rfl rfl ?_
    refine kw_iload_n (pc := 13) (i := 9) (k := 2) (n := 1) rfl rfl rfl ?_
    refine kw_callV (pc := 14) (i := 10) (Y := mX8_goesOn) (a := 0) (As := [.int a]) (st := []) kw_hE rfl rfl lvX8_160 arX8_goesOn (c_X8_goesOn_0 l T hT0 hT1 S2 I6 a (by first | omega | decide) (by first | omega | decide)) (by decide) (Nat.le_of_ble_eq_true rfl) rfl (fun v S12 p11 => ?_)
    obtain ⟨⟨I16, F17⟩, z15, rfl, f13, ef14⟩ := p11
    have F18 : kw_FM [1, 7, 8, 9, 10, 11, 12, 13, 14, 16, 1000, 1010, 1011, 1017, 1018, 1019, 1022, 1023, 1024, 1025, 1027] σ S12 := kw_FM.tr F8 F17 (by decide)
    have w_19 : (S12.1 0 27).toInt = (S2.1 0 27).toInt := congrArg Int32.toInt (kw_FM.at0 (j := 27) F17 (by decide))
    replace hF := kf_be ef14 hF
    have f13 : (z15.toInt ≠ -9 ∨ 1 ≤ (S12.1 0 18).toInt) := f13
    have r_z15 := kw_rng z15
    show kw_AW l 6 kw_E0 KM mX8_town (p_X8_town_0 T σ a) 17 [(2, .int z5), (0, .ref 0), (1, .int a)] [.int z15] S12
    refine kw_bipush (pc := 17) (i := 11) (v := (-9)) rfl rfl ?_
    refine kw_icmp_eq (pc := 19) (i := 12) (tgt := 25) rfl rfl (fun c20 => ?_) (fun c20 => ?_)
    · replace hF := kf_p c20 hF
      refine kw_aload_n (pc := 25) (i := 15) (k := 1) (n := 0) rfl rfl rfl ?_
      refine kw_aload_n (pc := 26) (i := 16) (k := 1) (n := 0) rfl rfl rfl ?_
      refine kw_get (pc := 27) (i := 17) (v := .int (S12.1 0 19)) rfl rfl rfl lkX8_144 (fun _ => rfl) ?_
      have b21 : 0 ≤ (S12.1 0 19).toInt ∧ (S12.1 0 19).toInt ≤ 6 := I16 0 19
      refine kw_puti (pc := 30) (i := 18) (z := 0) rfl rfl rfl lpX8_163 rfl rfl ?_
      have I22 : kw_I (bM T) (kw_ui S12 0 10 (S12.1 0 19)) := kw_I_ui I16 (show 0 ≤ (S12.1 0 19).toInt by omega) (show (S12.1 0 19).toInt ≤ 6 by omega)
      have F23 : kw_FM [1, 7, 8, 9, 10, 11, 12, 13, 14, 16, 1000, 1010, 1011, 1017, 1018, 1019, 1022, 1023, 1024, 1025, 1027] σ (kw_ui S12 0 10 (S12.1 0 19)) := kw_FM_ui0 F18 (by decide)
      refine kw_aload_n (pc := 33) (i := 19) (k := 1) (n := 0) rfl rfl rfl ?_
      refine kw_aload_n (pc := 34) (i := 20) (k := 1) (n := 0) rfl rfl rfl ?_
      refine kw_get (pc := 35) (i := 21) (v := .int (S12.1 0 18)) rfl rfl rfl lkX8_138 (fun _ => rfl) ?_
      have b24 : 0 ≤ (S12.1 0 18).toInt ∧ (S12.1 0 18).toInt ≤ 8 := I16 0 18
      refine kw_puti (pc := 38) (i := 22) (z := 0) rfl rfl rfl lpX8_32 rfl rfl ?_
      have I25 : kw_I (bM T) (kw_ui (kw_ui S12 0 10 (S12.1 0 19)) 0 11 (S12.1 0 18)) := kw_I_ui I22 (show 1 ≤ (S12.1 0 18).toInt by omega) (show (S12.1 0 18).toInt ≤ 8 by omega)
      have F26 : kw_FM [1, 7, 8, 9, 10, 11, 12, 13, 14, 16, 1000, 1010, 1011, 1017, 1018, 1019, 1022, 1023, 1024, 1025, 1027] σ (kw_ui (kw_ui S12 0 10 (S12.1 0 19)) 0 11 (S12.1 0 18)) := kw_FM_ui0 F23 (by decide)
      refine kw_iconst (pc := 41) (i := 23) (v := 0) rfl rfl ?_
      refine kw_istore_n (pc := 42) (i := 24) (n := 3) (lv' := [(3, .int 0), (2, .int z5), (0, .ref 0), (1, .int a)]) rfl rfl (by decide) rfl ?_
      have L31 : ∀ (n35 : Nat) (x27 : Int32) (S28 : kw_S), kw_I (bM T) S28 → kw_FM [1, 7, 8, 9, 10, 11, 12, 13, 14, 16, 1000, 1010, 1011, 1017, 1018, 1019, 1022, 1023, 1024, 1025, 1027] σ S28 → 0 ≤ x27.toInt → l_X8_town_0_43 a z5 n35 x27 S28 = (f_X8_town_0 σ a) → (9 - x27.toInt).toNat < n35 → kw_AW l 6 kw_E0 KM mX8_town (p_X8_town_0 T σ a) 43 [(3, .int x27), (2, .int z5), (0, .ref 0), (1, .int a)] [] S28 := by
        intro n35
        induction n35 with
        | zero => intro x27 S28 I29 F30 v33 hF m34; exact absurd m34 (Nat.not_lt_zero _)
        | succ n35 ih32 =>
          intro x27 S28 I29 F30 v33 hF m34
          replace hF := kf_st (l_X8_town_0_43_s _ _ _ _ _) hF
          have r_x27 := kw_rng x27
          refine kw_iload_n (pc := 43) (i := 25) (k := 0) (n := 3) rfl rfl rfl ?_
          refine kw_aload_n (pc := 44) (i := 26) (k := 2) (n := 0) rfl rfl rfl ?_
          refine kw_get (pc := 45) (i := 27) (v := .int (S28.1 0 11)) rfl rfl rfl lkX8_32 (fun _ => rfl) ?_
          have b36 : 1 ≤ (S28.1 0 11).toInt ∧ (S28.1 0 11).toInt ≤ 8 := I29 0 11
          refine kw_icmp_ge (pc := 48) (i := 28) (tgt := 69) rfl rfl (fun c37 => ?_) (fun c37 => ?_)
          · replace hF := kf_nl c37 hF
            refine kw_iconst (pc := 69) (i := 39) (v := 0) rfl rfl ?_
            refine kw_istore_n (pc := 70) (i := 40) (n := 3) (lv' := [(3, .int 0), (2, .int z5), (0, .ref 0), (1, .int a)]) rfl rfl (by decide) rfl ?_
            have L42 : ∀ (n46 : Nat) (x38 : Int32) (S39 : kw_S), kw_I (bM T) S39 → kw_FM [1, 7, 8, 9, 10, 11, 12, 13, 14, 16, 1000, 1010, 1011, 1017, 1018, 1019, 1022, 1023, 1024, 1025, 1027] σ S39 → 0 ≤ x38.toInt → l_X8_town_0_71 a z5 n46 x38 S39 = (f_X8_town_0 σ a) → (7 - x38.toInt).toNat < n46 → kw_AW l 6 kw_E0 KM mX8_town (p_X8_town_0 T σ a) 71 [(3, .int x38), (2, .int z5), (0, .ref 0), (1, .int a)] [] S39 := by
              intro n46
              induction n46 with
              | zero => intro x38 S39 I40 F41 v44 hF m45; exact absurd m45 (Nat.not_lt_zero _)
              | succ n46 ih43 =>
                intro x38 S39 I40 F41 v44 hF m45
                replace hF := kf_st (l_X8_town_0_71_s _ _ _ _ _) hF
                have r_x38 := kw_rng x38
                refine kw_iload_n (pc := 71) (i := 41) (k := 0) (n := 3) rfl rfl rfl ?_
                refine kw_aload_n (pc := 72) (i := 42) (k := 2) (n := 0) rfl rfl rfl ?_
                refine kw_get (pc := 73) (i := 43) (v := .int (S39.1 0 10)) rfl rfl rfl lkX8_163 (fun _ => rfl) ?_
                have b47 : 0 ≤ (S39.1 0 10).toInt ∧ (S39.1 0 10).toInt ≤ 6 := I40 0 10
                refine kw_icmp_ge (pc := 76) (i := 44) (tgt := 156) rfl rfl (fun c48 => ?_) (fun c48 => ?_)
                · replace hF := kf_nl c48 hF
                  refine kw_aload_n (pc := 156) (i := 100) (k := 2) (n := 0) rfl rfl rfl ?_
                  refine kw_iconst (pc := 157) (i := 101) (v := 0) rfl rfl ?_
                  refine kw_puti (pc := 158) (i := 102) (z := 0) rfl rfl rfl lpX8_166 rfl rfl ?_
                  have I49 : kw_I (bM T) (kw_ui S39 0 22 0) := kw_I_ui I40 (show 0 ≤ (0 : Int32).toInt by omega) (show (0 : Int32).toInt ≤ T by omega)
                  have F50 : kw_FM [1, 7, 8, 9, 10, 11, 12, 13, 14, 16, 1000, 1010, 1011, 1017, 1018, 1019, 1022, 1023, 1024, 1025, 1027] σ (kw_ui S39 0 22 0) := kw_FM_ui0 F41 (by decide)
                  refine kw_aload_n (pc := 161) (i := 103) (k := 2) (n := 0) rfl rfl rfl ?_
                  refine kw_iconst (pc := 162) (i := 104) (v := 0) rfl rfl ?_
                  refine kw_puti (pc := 163) (i := 105) (z := 0) rfl rfl rfl lpX8_169 rfl rfl ?_
                  have I51 : kw_I (bM T) (kw_ui (kw_ui S39 0 22 0) 0 23 0) := kw_I_ui I49 (kw_rng (0 : Int32)).1 (Int.le_of_lt_add_one (kw_rng (0 : Int32)).2)
                  have F52 : kw_FM [1, 7, 8, 9, 10, 11, 12, 13, 14, 16, 1000, 1010, 1011, 1017, 1018, 1019, 1022, 1023, 1024, 1025, 1027] σ (kw_ui (kw_ui S39 0 22 0) 0 23 0) := kw_FM_ui0 F50 (by decide)
                  refine kw_aload_n (pc := 166) (i := 106) (k := 2) (n := 0) rfl rfl rfl ?_
                  refine kw_iconst (pc := 167) (i := 107) (v := 0) rfl rfl ?_
                  refine kw_puti (pc := 168) (i := 108) (z := 0) rfl rfl rfl lpX8_172 rfl rfl ?_
                  have I53 : kw_I (bM T) (kw_ui (kw_ui (kw_ui S39 0 22 0) 0 23 0) 0 24 0) := kw_I_ui I51 (kw_rng (0 : Int32)).1 (Int.le_of_lt_add_one (kw_rng (0 : Int32)).2)
                  have F54 : kw_FM [1, 7, 8, 9, 10, 11, 12, 13, 14, 16, 1000, 1010, 1011, 1017, 1018, 1019, 1022, 1023, 1024, 1025, 1027] σ (kw_ui (kw_ui (kw_ui S39 0 22 0) 0 23 0) 0 24 0) := kw_FM_ui0 F52 (by decide)
                  refine kw_aload_n (pc := 171) (i := 109) (k := 2) (n := 0) rfl rfl rfl ?_
                  refine kw_iconst (pc := 172) (i := 110) (v := 0) rfl rfl ?_
                  refine kw_puti (pc := 173) (i := 111) (z := 0) rfl rfl rfl lpX8_175 rfl rfl ?_
                  have I55 : kw_I (bM T) (kw_ui (kw_ui (kw_ui (kw_ui S39 0 22 0) 0 23 0) 0 24 0) 0 25 0) := kw_I_ui I53 (show 0 ≤ (0 : Int32).toInt by omega) (show (0 : Int32).toInt ≤ 63 by omega)
                  have F56 : kw_FM [1, 7, 8, 9, 10, 11, 12, 13, 14, 16, 1000, 1010, 1011, 1017, 1018, 1019, 1022, 1023, 1024, 1025, 1027] σ (kw_ui (kw_ui (kw_ui (kw_ui S39 0 22 0) 0 23 0) 0 24 0) 0 25 0) := kw_FM_ui0 F54 (by decide)
                  refine kw_aload_n (pc := 176) (i := 112) (k := 2) (n := 0) rfl rfl rfl ?_
                  refine kw_iconst (pc := 177) (i := 113) (v := 0) rfl rfl ?_
                  refine kw_puti (pc := 178) (i := 114) (z := 0) rfl rfl rfl lpX8_178 rfl rfl ?_
                  have I57 : kw_I (bM T) (kw_ui (kw_ui (kw_ui (kw_ui (kw_ui S39 0 22 0) 0 23 0) 0 24 0) 0 25 0) 0 27 0) := kw_I_ui I55 (show 0 ≤ (0 : Int32).toInt by omega) (show (0 : Int32).toInt ≤ 40 by omega)
                  have F58 : kw_FM [1, 7, 8, 9, 10, 11, 12, 13, 14, 16, 1000, 1010, 1011, 1017, 1018, 1019, 1022, 1023, 1024, 1025, 1027] σ (kw_ui (kw_ui (kw_ui (kw_ui (kw_ui S39 0 22 0) 0 23 0) 0 24 0) 0 25 0) 0 27 0) := kw_FM_ui0 F56 (by decide)
                  refine kw_iconst (pc := 181) (i := 115) (v := 0) rfl rfl ?_
                  refine kw_istore_n (pc := 182) (i := 116) (n := 3) (lv' := [(3, .int 0), (2, .int z5), (0, .ref 0), (1, .int a)]) rfl rfl (by decide) rfl ?_
                  have L63 : ∀ (n67 : Nat) (x59 : Int32) (S60 : kw_S), kw_I (bM T) S60 → kw_FM [1, 7, 8, 9, 10, 11, 12, 13, 14, 16, 1000, 1010, 1011, 1017, 1018, 1019, 1022, 1023, 1024, 1025, 1027] σ S60 → 0 ≤ x59.toInt → l_X8_town_0_183 a z5 n67 x59 S60 = (f_X8_town_0 σ a) → (4 - x59.toInt).toNat < n67 → kw_AW l 6 kw_E0 KM mX8_town (p_X8_town_0 T σ a) 183 [(3, .int x59), (2, .int z5), (0, .ref 0), (1, .int a)] [] S60 := by
                    intro n67
                    induction n67 with
                    | zero => intro x59 S60 I61 F62 v65 hF m66; exact absurd m66 (Nat.not_lt_zero _)
                    | succ n67 ih64 =>
                      intro x59 S60 I61 F62 v65 hF m66
                      replace hF := kf_st (l_X8_town_0_183_s _ _ _ _ _) hF
                      have r_x59 := kw_rng x59
                      refine kw_iload_n (pc := 183) (i := 117) (k := 0) (n := 3) rfl rfl rfl ?_
                      refine kw_iconst (pc := 184) (i := 118) (v := 3) rfl rfl ?_
                      refine kw_icmp_ge (pc := 185) (i := 119) (tgt := 201) rfl rfl (fun c68 => ?_) (fun c68 => ?_)
                      · replace hF := kf_nl c68 hF
                        refine kw_aload_n (pc := 201) (i := 127) (k := 2) (n := 0) rfl rfl rfl ?_
                        refine kw_get (pc := 202) (i := 128) (v := .int (S60.1 0 10)) rfl rfl rfl lkX8_163 (fun _ => rfl) ?_
                        have b69 : 0 ≤ (S60.1 0 10).toInt ∧ (S60.1 0 10).toInt ≤ 6 := I61 0 10
                        exact kw_ireturn (pc := 205) (i := 129) (ty := .int) rfl rfl rfl ⟨⟨I61, F62⟩, _, rfl, hF⟩
                      · replace hF := kf_p c68 hF
                        refine kw_aload_n (pc := 188) (i := 120) (k := 2) (n := 0) rfl rfl rfl ?_
                        refine kw_get (pc := 189) (i := 121) (v := .ref 16) rfl rfl rfl lkX8_63 (fun _ => rfl) ?_
                        refine kw_iload_n (pc := 192) (i := 122) (k := 0) (n := 3) rfl rfl rfl ?_
                        refine kw_iconst (pc := 193) (i := 123) (v := 0) rfl rfl ?_
                        refine kw_iast (pc := 194) (i := 124) (n := 3) rfl rfl (by omega) (by omega) ?_
                        have I70 : kw_I (bM T) (kw_ui S60 16 x59.toNatClampNeg 0) := kw_I_ui I61 (kw_rng (0 : Int32)).1 (Int.le_of_lt_add_one (kw_rng (0 : Int32)).2)
                        have F71 : kw_FM [1, 7, 8, 9, 10, 11, 12, 13, 14, 16, 1000, 1010, 1011, 1017, 1018, 1019, 1022, 1023, 1024, 1025, 1027] σ (kw_ui S60 16 x59.toNatClampNeg 0) := kw_FM_ui F62 (by decide) (by decide)
                        refine kw_iinc' (pc := 195) (i := 125) (k := 0) (fun z => [(3, .int z), (2, .int z5), (0, .ref 0), (1, .int a)]) rfl rfl (by decide) rfl (fun _ => rfl) (fun z72 e_z72 t_z72 => ?_)
                        replace hF := kf_le e_z72 hF
                        first | (have u_z72 : z72.toInt = x59.toInt + 1 := (by omega); clear t_z72) | skip
                        refine kw_goto (pc := 198) (i := 126) (tgt := 183) rfl rfl ?_
                        refine kw_sub (lv' := [(3, .int z72), (2, .int z5), (0, .ref 0), (1, .int a)]) [0, 1, 2, 3] rfl ?_
                        exact ih64 z72 (kw_ui S60 16 x59.toNatClampNeg 0) I70 F71 (by omega) hF (by omega)
                  exact L63 _ 0 (kw_ui (kw_ui (kw_ui (kw_ui (kw_ui S39 0 22 0) 0 23 0) 0 24 0) 0 25 0) 0 27 0) I57 F58 (by omega) hF (Nat.lt_succ_self _)
                · replace hF := kf_p c48 hF
                  refine kw_aload_n (pc := 79) (i := 45) (k := 2) (n := 0) rfl rfl rfl ?_
                  refine kw_get (pc := 80) (i := 46) (v := .ref 8) rfl rfl rfl lkX8_39 (fun _ => rfl) ?_
                  refine kw_iload_n (pc := 83) (i := 47) (k := 0) (n := 3) rfl rfl rfl ?_
                  refine kw_aload_n (pc := 84) (i := 48) (k := 2) (n := 0) rfl rfl rfl ?_
                  refine kw_get (pc := 85) (i := 49) (v := .ref 13) rfl rfl rfl lkX8_54 (fun _ => rfl) ?_
                  refine kw_iconst (pc := 88) (i := 50) (v := 4) rfl rfl ?_
                  refine kw_iload_n (pc := 89) (i := 51) (k := 0) (n := 3) rfl rfl rfl ?_
                  refine kw_imul (pc := 90) (i := 52) rfl (fun z73 e_z73 t_z73 => ?_)
                  replace hF := kf_le e_z73 hF
                  rw [show (4 : Int32).toInt = 4 from rfl] at t_z73
                  first | (have u_z73 : z73.toInt = 4 * x38.toInt := (by omega); clear t_z73) | skip
                  refine kw_iald (pc := 91) (i := 53) (n := 24) rfl rfl (by omega) (by omega) (fun z74 e_z74 => ?_)
                  replace hF := kf_le e_z74 hF
                  have t_z74 := congrArg Int32.toInt e_z74
                  have r_z74 := kw_rng z74
                  refine kw_iast (pc := 92) (i := 54) (n := 6) rfl rfl (by omega) (by omega) ?_
                  have I75 : kw_I (bM T) (kw_ui S39 8 x38.toNatClampNeg z74) := kw_I_ui I40 (kw_rng z74).1 (Int.le_of_lt_add_one (kw_rng z74).2)
                  have F76 : kw_FM [1, 7, 8, 9, 10, 11, 12, 13, 14, 16, 1000, 1010, 1011, 1017, 1018, 1019, 1022, 1023, 1024, 1025, 1027] σ (kw_ui S39 8 x38.toNatClampNeg z74) := kw_FM_ui F41 (by decide) (by decide)
                  refine kw_aload_n (pc := 93) (i := 55) (k := 2) (n := 0) rfl rfl rfl ?_
                  refine kw_get (pc := 94) (i := 56) (v := .ref 9) rfl rfl rfl lkX8_42 (fun _ => rfl) ?_
                  refine kw_iload_n (pc := 97) (i := 57) (k := 0) (n := 3) rfl rfl rfl ?_
                  refine kw_aload_n (pc := 98) (i := 58) (k := 2) (n := 0) rfl rfl rfl ?_
                  refine kw_get (pc := 99) (i := 59) (v := .ref 13) rfl rfl rfl lkX8_54 (fun _ => rfl) ?_
                  refine kw_iconst (pc := 102) (i := 60) (v := 4) rfl rfl ?_
                  refine kw_iload_n (pc := 103) (i := 61) (k := 0) (n := 3) rfl rfl rfl ?_
                  refine kw_imul (pc := 104) (i := 62) rfl (fun z77 e_z77 t_z77 => ?_)
                  replace hF := kf_le e_z77 hF
                  rw [show (4 : Int32).toInt = 4 from rfl] at t_z77
                  first | (have u_z77 : z77.toInt = 4 * x38.toInt := (by omega); clear t_z77) | skip
                  refine kw_iconst (pc := 105) (i := 63) (v := 1) rfl rfl ?_
                  refine kw_iadd (pc := 106) (i := 64) rfl (fun z78 e_z78 t_z78 => ?_)
                  replace hF := kf_le e_z78 hF
                  first | (have u_z78 : z78.toInt = z77.toInt + 1 := (by omega); clear t_z78) | skip
                  refine kw_iald (pc := 107) (i := 65) (n := 24) rfl rfl (by omega) (by omega) (fun z79 e_z79 => ?_)
                  replace hF := kf_le e_z79 hF
                  have t_z79 := congrArg Int32.toInt e_z79
                  have r_z79 := kw_rng z79
                  refine kw_iconst (pc := 108) (i := 66) (v := 4) rfl rfl ?_
                  refine kw_isub (pc := 109) (i := 67) rfl (fun z80 e_z80 t_z80 => ?_)
                  replace hF := kf_le e_z80 hF
                  first | (have u_z80 : z80.toInt = z79.toInt - 4 := (by omega); clear t_z80) | skip
                  refine kw_iast (pc := 110) (i := 68) (n := 6) rfl rfl (by omega) (by omega) ?_
                  have I81 : kw_I (bM T) (kw_ui (kw_ui S39 8 x38.toNatClampNeg z74) 9 x38.toNatClampNeg z80) := kw_I_ui I75 (kw_rng z80).1 (Int.le_of_lt_add_one (kw_rng z80).2)
                  have F82 : kw_FM [1, 7, 8, 9, 10, 11, 12, 13, 14, 16, 1000, 1010, 1011, 1017, 1018, 1019, 1022, 1023, 1024, 1025, 1027] σ (kw_ui (kw_ui S39 8 x38.toNatClampNeg z74) 9 x38.toNatClampNeg z80) := kw_FM_ui F76 (by decide) (by decide)
                  refine kw_aload_n (pc := 111) (i := 69) (k := 2) (n := 0) rfl rfl rfl ?_
                  refine kw_get (pc := 112) (i := 70) (v := .ref 10) rfl rfl rfl lkX8_45 (fun _ => rfl) ?_
                  refine kw_iload_n (pc := 115) (i := 71) (k := 0) (n := 3) rfl rfl rfl ?_
                  refine kw_aload_n (pc := 116) (i := 72) (k := 2) (n := 0) rfl rfl rfl ?_
                  refine kw_get (pc := 117) (i := 73) (v := .ref 13) rfl rfl rfl lkX8_54 (fun _ => rfl) ?_
                  refine kw_iconst (pc := 120) (i := 74) (v := 4) rfl rfl ?_
                  refine kw_iload_n (pc := 121) (i := 75) (k := 0) (n := 3) rfl rfl rfl ?_
                  refine kw_imul (pc := 122) (i := 76) rfl (fun z83 e_z83 t_z83 => ?_)
                  replace hF := kf_le e_z83 hF
                  rw [show (4 : Int32).toInt = 4 from rfl] at t_z83
                  first | (have u_z83 : z83.toInt = 4 * x38.toInt := (by omega); clear t_z83) | skip
                  refine kw_iconst (pc := 123) (i := 77) (v := 2) rfl rfl ?_
                  refine kw_iadd (pc := 124) (i := 78) rfl (fun z84 e_z84 t_z84 => ?_)
                  replace hF := kf_le e_z84 hF
                  first | (have u_z84 : z84.toInt = z83.toInt + 2 := (by omega); clear t_z84) | skip
                  refine kw_iald (pc := 125) (i := 79) (n := 24) rfl rfl (by omega) (by omega) (fun z85 e_z85 => ?_)
                  replace hF := kf_le e_z85 hF
                  have t_z85 := congrArg Int32.toInt e_z85
                  have r_z85 := kw_rng z85
                  refine kw_iast (pc := 126) (i := 80) (n := 6) rfl rfl (by omega) (by omega) ?_
                  have I86 : kw_I (bM T) (kw_ui (kw_ui (kw_ui S39 8 x38.toNatClampNeg z74) 9 x38.toNatClampNeg z80) 10 x38.toNatClampNeg z85) := kw_I_ui I81 (kw_rng z85).1 (Int.le_of_lt_add_one (kw_rng z85).2)
                  have F87 : kw_FM [1, 7, 8, 9, 10, 11, 12, 13, 14, 16, 1000, 1010, 1011, 1017, 1018, 1019, 1022, 1023, 1024, 1025, 1027] σ (kw_ui (kw_ui (kw_ui S39 8 x38.toNatClampNeg z74) 9 x38.toNatClampNeg z80) 10 x38.toNatClampNeg z85) := kw_FM_ui F82 (by decide) (by decide)
                  refine kw_aload_n (pc := 127) (i := 81) (k := 2) (n := 0) rfl rfl rfl ?_
                  refine kw_get (pc := 128) (i := 82) (v := .ref 11) rfl rfl rfl lkX8_48 (fun _ => rfl) ?_
                  refine kw_iload_n (pc := 131) (i := 83) (k := 0) (n := 3) rfl rfl rfl ?_
                  refine kw_aload_n (pc := 132) (i := 84) (k := 2) (n := 0) rfl rfl rfl ?_
                  refine kw_get (pc := 133) (i := 85) (v := .ref 13) rfl rfl rfl lkX8_54 (fun _ => rfl) ?_
                  refine kw_iconst (pc := 136) (i := 86) (v := 4) rfl rfl ?_
                  refine kw_iload_n (pc := 137) (i := 87) (k := 0) (n := 3) rfl rfl rfl ?_
                  refine kw_imul (pc := 138) (i := 88) rfl (fun z88 e_z88 t_z88 => ?_)
                  replace hF := kf_le e_z88 hF
                  rw [show (4 : Int32).toInt = 4 from rfl] at t_z88
                  first | (have u_z88 : z88.toInt = 4 * x38.toInt := (by omega); clear t_z88) | skip
                  refine kw_iconst (pc := 139) (i := 89) (v := 3) rfl rfl ?_
                  refine kw_iadd (pc := 140) (i := 90) rfl (fun z89 e_z89 t_z89 => ?_)
                  replace hF := kf_le e_z89 hF
                  first | (have u_z89 : z89.toInt = z88.toInt + 3 := (by omega); clear t_z89) | skip
                  refine kw_iald (pc := 141) (i := 91) (n := 24) rfl rfl (by omega) (by omega) (fun z90 e_z90 => ?_)
                  replace hF := kf_le e_z90 hF
                  have t_z90 := congrArg Int32.toInt e_z90
                  have r_z90 := kw_rng z90
                  refine kw_iast (pc := 142) (i := 92) (n := 6) rfl rfl (by omega) (by omega) ?_
                  have I91 : kw_I (bM T) (kw_ui (kw_ui (kw_ui (kw_ui S39 8 x38.toNatClampNeg z74) 9 x38.toNatClampNeg z80) 10 x38.toNatClampNeg z85) 11 x38.toNatClampNeg z90) := kw_I_ui I86 (kw_rng z90).1 (Int.le_of_lt_add_one (kw_rng z90).2)
                  have F92 : kw_FM [1, 7, 8, 9, 10, 11, 12, 13, 14, 16, 1000, 1010, 1011, 1017, 1018, 1019, 1022, 1023, 1024, 1025, 1027] σ (kw_ui (kw_ui (kw_ui (kw_ui S39 8 x38.toNatClampNeg z74) 9 x38.toNatClampNeg z80) 10 x38.toNatClampNeg z85) 11 x38.toNatClampNeg z90) := kw_FM_ui F87 (by decide) (by decide)
                  refine kw_aload_n (pc := 143) (i := 93) (k := 2) (n := 0) rfl rfl rfl ?_
                  refine kw_get (pc := 144) (i := 94) (v := .ref 14) rfl rfl rfl lkX8_57 (fun _ => rfl) ?_
                  refine kw_iload_n (pc := 147) (i := 95) (k := 0) (n := 3) rfl rfl rfl ?_
                  refine kw_iconst (pc := 148) (i := 96) (v := 0) rfl rfl ?_
                  refine kw_iast (pc := 149) (i := 97) (n := 6) rfl rfl (by omega) (by omega) ?_
                  have I93 : kw_I (bM T) (kw_ui (kw_ui (kw_ui (kw_ui (kw_ui S39 8 x38.toNatClampNeg z74) 9 x38.toNatClampNeg z80) 10 x38.toNatClampNeg z85) 11 x38.toNatClampNeg z90) 14 x38.toNatClampNeg 0) := kw_I_ui I91 (kw_rng (0 : Int32)).1 (Int.le_of_lt_add_one (kw_rng (0 : Int32)).2)
                  have F94 : kw_FM [1, 7, 8, 9, 10, 11, 12, 13, 14, 16, 1000, 1010, 1011, 1017, 1018, 1019, 1022, 1023, 1024, 1025, 1027] σ (kw_ui (kw_ui (kw_ui (kw_ui (kw_ui S39 8 x38.toNatClampNeg z74) 9 x38.toNatClampNeg z80) 10 x38.toNatClampNeg z85) 11 x38.toNatClampNeg z90) 14 x38.toNatClampNeg 0) := kw_FM_ui F92 (by decide) (by decide)
                  refine kw_iinc' (pc := 150) (i := 98) (k := 0) (fun z => [(3, .int z), (2, .int z5), (0, .ref 0), (1, .int a)]) rfl rfl (by decide) rfl (fun _ => rfl) (fun z95 e_z95 t_z95 => ?_)
                  replace hF := kf_le e_z95 hF
                  first | (have u_z95 : z95.toInt = x38.toInt + 1 := (by omega); clear t_z95) | skip
                  refine kw_goto (pc := 153) (i := 99) (tgt := 71) rfl rfl ?_
                  refine kw_sub (lv' := [(3, .int z95), (2, .int z5), (0, .ref 0), (1, .int a)]) [0, 1, 2, 3] rfl ?_
                  exact ih43 z95 (kw_ui (kw_ui (kw_ui (kw_ui (kw_ui S39 8 x38.toNatClampNeg z74) 9 x38.toNatClampNeg z80) 10 x38.toNatClampNeg z85) 11 x38.toNatClampNeg z90) 14 x38.toNatClampNeg 0) I93 F94 (by omega) hF (by omega)
            exact L42 _ 0 S28 I29 F30 (by omega) hF (Nat.lt_succ_self _)
          · replace hF := kf_p c37 hF
            refine kw_aload_n (pc := 51) (i := 29) (k := 2) (n := 0) rfl rfl rfl ?_
            refine kw_get (pc := 52) (i := 30) (v := .ref 7) rfl rfl rfl lkX8_36 (fun _ => rfl) ?_
            refine kw_iload_n (pc := 55) (i := 31) (k := 0) (n := 3) rfl rfl rfl ?_
            refine kw_aload_n (pc := 56) (i := 32) (k := 2) (n := 0) rfl rfl rfl ?_
            refine kw_get (pc := 57) (i := 33) (v := .ref 12) rfl rfl rfl lkX8_51 (fun _ => rfl) ?_
            refine kw_iload_n (pc := 60) (i := 34) (k := 0) (n := 3) rfl rfl rfl ?_
            refine kw_iald (pc := 61) (i := 35) (n := 8) rfl rfl (by omega) (by omega) (fun z96 e_z96 => ?_)
            replace hF := kf_le e_z96 hF
            have t_z96 := congrArg Int32.toInt e_z96
            have r_z96 := kw_rng z96
            refine kw_iast (pc := 62) (i := 36) (n := 8) rfl rfl (by omega) (by omega) ?_
            have I97 : kw_I (bM T) (kw_ui S28 7 x27.toNatClampNeg z96) := kw_I_ui I29 (kw_rng z96).1 (Int.le_of_lt_add_one (kw_rng z96).2)
            have F98 : kw_FM [1, 7, 8, 9, 10, 11, 12, 13, 14, 16, 1000, 1010, 1011, 1017, 1018, 1019, 1022, 1023, 1024, 1025, 1027] σ (kw_ui S28 7 x27.toNatClampNeg z96) := kw_FM_ui F30 (by decide) (by decide)
            refine kw_iinc' (pc := 63) (i := 37) (k := 0) (fun z => [(3, .int z), (2, .int z5), (0, .ref 0), (1, .int a)]) rfl rfl (by decide) rfl (fun _ => rfl) (fun z99 e_z99 t_z99 => ?_)
            replace hF := kf_le e_z99 hF
            first | (have u_z99 : z99.toInt = x27.toInt + 1 := (by omega); clear t_z99) | skip
            refine kw_goto (pc := 66) (i := 38) (tgt := 43) rfl rfl ?_
            refine kw_sub (lv' := [(3, .int z99), (2, .int z5), (0, .ref 0), (1, .int a)]) [0, 1, 2, 3] rfl ?_
            exact ih32 z99 (kw_ui S28 7 x27.toNatClampNeg z96) I97 F98 (by omega) hF (by omega)
      exact L31 _ 0 (kw_ui (kw_ui S12 0 10 (S12.1 0 19)) 0 11 (S12.1 0 18)) I25 F26 (by omega) hF (Nat.lt_succ_self _)
    · replace hF := kf_n c20 hF
      refine kw_bipush (pc := 22) (i := 13) (v := (-4)) rfl rfl ?_
      exact kw_ireturn (pc := 24) (i := 14) (ty := .int) rfl rfl rfl ⟨⟨I16, F18⟩, _, rfl, hF⟩
  · replace hF := kf_p c10 hF
    refine kw_iload_n (pc := 10) (i := 6) (k := 0) (n := 2) rfl rfl rfl ?_
    exact kw_ireturn (pc := 11) (i := 7) (ty := .int) rfl rfl rfl ⟨⟨I6, F8⟩, _, rfl, hF⟩
noncomputable def f_X8_isLine_0 (σ : kw_S) (i : Int32) : Int32 := kf_l ((σ.1 0 10) - (1 : Int32)) fun z1 => kf_l (f_X8_in σ i (0 : Int32) z1) fun z2 => z2
theorem f_X8_isLine_0_u (σ : kw_S) (i : Int32) : f_X8_isLine_0 σ i = kf_l ((σ.1 0 10) - (1 : Int32)) fun z1 => kf_l (f_X8_in σ i (0 : Int32) z1) fun z2 => z2 := rfl
abbrev p_X8_isLine_0 (T : Int) (σ : kw_S) (i : Int32) : Option Value → kw_S → Prop := fun vv σ' => σ' = σ ∧ ∃ r : Int32, vv = some (.int r) ∧ (r.toInt = 0 ∨ r.toInt = 1) ∧ (r.toInt = 0 ∨ 0 ≤ i.toInt ∧ i.toInt < (σ.1 0 10).toInt ∧ i.toInt ≤ 5) ∧ r = f_X8_isLine_0 σ i
set_option maxRecDepth 100000 in
set_option maxHeartbeats 4000000 in
theorem c_X8_isLine_0 (l : Launch) (T : Int) (hT0 : 0 ≤ T) (hT1 : T ≤ 3000) (σ : kw_S) (hI : kw_I (bM T) σ) (i : Int32) : kw_Met l 2 KM mX8_isLine [.ref 0, .int i] σ (p_X8_isLine_0 T σ i) := by
  have r_i := kw_rng i
  have hF := (f_X8_isLine_0_u σ i).symm
  have q_0 : (0 : Int32).toInt = 0 := rfl
  have q_1 : (1 : Int32).toInt = 1 := rfl
  refine kw_Met.of (by decide) rfl tX8_isLine (Nat.le_of_ble_eq_true rfl) ?_
  show kw_AW l 2 kw_E0 KM mX8_isLine (p_X8_isLine_0 T σ i) 0 [(0, .ref 0), (1, .int i)] [] σ
  refine kw_iload_n (pc := 0) (i := 0) (k := 1) (n := 1) rfl rfl rfl ?_
  refine kw_iconst (pc := 1) (i := 1) (v := 0) rfl rfl ?_
  refine kw_aload_n (pc := 2) (i := 2) (k := 0) (n := 0) rfl rfl rfl ?_
  refine kw_get (pc := 3) (i := 3) (v := .int (σ.1 0 10)) rfl rfl rfl lkX8_163 (fun _ => rfl) ?_
  have b1 : 0 ≤ (σ.1 0 10).toInt ∧ (σ.1 0 10).toInt ≤ 6 := hI 0 10
  refine kw_iconst (pc := 6) (i := 4) (v := 1) rfl rfl ?_
  refine kw_isub (pc := 7) (i := 5) rfl (fun z2 e_z2 t_z2 => ?_)
  replace hF := kf_le e_z2 hF
  first | (have u_z2 : z2.toInt = (σ.1 0 10).toInt - 1 := (by omega); clear t_z2) | skip
  refine kw_callS (pc := 8) (i := 6) (Y := mX8_in) (As := [.int i, .int 0, .int z2]) (st := []) kw_hE rfl lsX8_93 arX8_in (c_X8_in l T hT0 hT1 σ hI i 0 z2 ) (by decide) (Nat.le_of_ble_eq_true rfl) rfl (fun v S4 p3 => ?_)
  obtain ⟨e10, z9, rfl, f5, f6, f7, ef8⟩ := p3
  rw [e10]
  replace hF := kf_le ef8 hF
  have r_z9 := kw_rng z9
  show kw_AW l 2 kw_E0 KM mX8_isLine (p_X8_isLine_0 T σ i) 11 [(0, .ref 0), (1, .int i)] [.int z9] σ
  exact kw_ireturn (pc := 11) (i := 7) (ty := .boolean) rfl rfl (kw_nb (by omega)) ⟨rfl, _, rfl, by omega, by omega, hF⟩
noncomputable def f_X8_isSet_0 (σ : kw_S) (s : Int32) : Int32 := kf_l ((1 : Int32) <<< ((σ.1 0 10) &&& 31)) fun z1 => kf_l (z1 - (1 : Int32)) fun z2 => kf_l (f_X8_in σ s (0 : Int32) z2) fun z3 => z3
theorem f_X8_isSet_0_u (σ : kw_S) (s : Int32) : f_X8_isSet_0 σ s = kf_l ((1 : Int32) <<< ((σ.1 0 10) &&& 31)) fun z1 => kf_l (z1 - (1 : Int32)) fun z2 => kf_l (f_X8_in σ s (0 : Int32) z2) fun z3 => z3 := rfl
abbrev p_X8_isSet_0 (T : Int) (σ : kw_S) (s : Int32) : Option Value → kw_S → Prop := fun vv σ' => σ' = σ ∧ ∃ r : Int32, vv = some (.int r) ∧ (r.toInt = 0 ∨ r.toInt = 1) ∧ r = f_X8_isSet_0 σ s
set_option maxRecDepth 100000 in
set_option maxHeartbeats 4000000 in
theorem c_X8_isSet_0 (l : Launch) (T : Int) (hT0 : 0 ≤ T) (hT1 : T ≤ 3000) (σ : kw_S) (hI : kw_I (bM T) σ) (s : Int32) : kw_Met l 2 KM mX8_isSet [.ref 0, .int s] σ (p_X8_isSet_0 T σ s) := by
  have r_s := kw_rng s
  have hF := (f_X8_isSet_0_u σ s).symm
  have q_0 : (0 : Int32).toInt = 0 := rfl
  have q_1 : (1 : Int32).toInt = 1 := rfl
  refine kw_Met.of (by decide) rfl tX8_isSet (Nat.le_of_ble_eq_true rfl) ?_
  show kw_AW l 2 kw_E0 KM mX8_isSet (p_X8_isSet_0 T σ s) 0 [(0, .ref 0), (1, .int s)] [] σ
  refine kw_iload_n (pc := 0) (i := 0) (k := 1) (n := 1) rfl rfl rfl ?_
  refine kw_iconst (pc := 1) (i := 1) (v := 0) rfl rfl ?_
  refine kw_iconst (pc := 2) (i := 2) (v := 1) rfl rfl ?_
  refine kw_aload_n (pc := 3) (i := 3) (k := 0) (n := 0) rfl rfl rfl ?_
  refine kw_get (pc := 4) (i := 4) (v := .int (σ.1 0 10)) rfl rfl rfl lkX8_163 (fun _ => rfl) ?_
  have b1 : 0 ≤ (σ.1 0 10).toInt ∧ (σ.1 0 10).toInt ≤ 6 := hI 0 10
  refine kw_ishl (pc := 7) (i := 5) rfl (fun z2 e_z2 => ?_)
  have r_z2 := kw_rng z2
  replace hF := kf_le e_z2 hF
  have t_z2 := kw_shlm (σ.1 0 10) z2 e_z2
  first | (replace t_z2 := And.intro (t_z2.1 (by omega) (by omega)) (t_z2.2 (by omega) (by omega))) | (replace t_z2 := t_z2.1 (by omega) (by omega)) | skip
  have u_z2 := congrArg Int32.toInt e_z2
  refine kw_iconst (pc := 8) (i := 6) (v := 1) rfl rfl ?_
  refine kw_isub (pc := 9) (i := 7) rfl (fun z3 e_z3 t_z3 => ?_)
  replace hF := kf_le e_z3 hF
  first | (have u_z3 : z3.toInt = z2.toInt - 1 := (by omega); clear t_z3) | skip
  refine kw_callS (pc := 10) (i := 8) (Y := mX8_in) (As := [.int s, .int 0, .int z3]) (st := []) kw_hE rfl lsX8_93 arX8_in (c_X8_in l T hT0 hT1 σ hI s 0 z3 ) (by decide) (Nat.le_of_ble_eq_true rfl) rfl (fun v S5 p4 => ?_)
  obtain ⟨e11, z10, rfl, f6, f7, f8, ef9⟩ := p4
  rw [e11]
  replace hF := kf_le ef9 hF
  have r_z10 := kw_rng z10
  show kw_AW l 2 kw_E0 KM mX8_isSet (p_X8_isSet_0 T σ s) 13 [(0, .ref 0), (1, .int s)] [.int z10] σ
  exact kw_ireturn (pc := 13) (i := 9) (ty := .boolean) rfl rfl (kw_nb (by omega)) ⟨rfl, _, rfl, by omega, hF⟩
noncomputable def f_X8_windAt_0 (σ : kw_S) (h : Int32) : Int32 := kf_l (h - h / (σ.1 0 11) * (σ.1 0 11)) fun z1 => kf_l (σ.1 7 z1.toNatClampNeg) fun z2 => z2
theorem f_X8_windAt_0_u (σ : kw_S) (h : Int32) : f_X8_windAt_0 σ h = kf_l (h - h / (σ.1 0 11) * (σ.1 0 11)) fun z1 => kf_l (σ.1 7 z1.toNatClampNeg) fun z2 => z2 := rfl
abbrev p_X8_windAt_0 (T : Int) (σ : kw_S) (h : Int32) : Option Value → kw_S → Prop := fun vv σ' => σ' = σ ∧ ∃ r : Int32, vv = some (.int r) ∧ r = f_X8_windAt_0 σ h
set_option maxRecDepth 100000 in
set_option maxHeartbeats 4000000 in
theorem c_X8_windAt_0 (l : Launch) (T : Int) (hT0 : 0 ≤ T) (hT1 : T ≤ 3000) (σ : kw_S) (hI : kw_I (bM T) σ) (h : Int32) (hp0 : 0 ≤ h.toInt) : kw_Met l 1 KM mX8_windAt [.ref 0, .int h] σ (p_X8_windAt_0 T σ h) := by
  have r_h := kw_rng h
  have hF := (f_X8_windAt_0_u σ h).symm
  refine kw_Met.of (by decide) rfl tX8_windAt (Nat.le_of_ble_eq_true rfl) ?_
  show kw_AW l 1 kw_E0 KM mX8_windAt (p_X8_windAt_0 T σ h) 0 [(0, .ref 0), (1, .int h)] [] σ
  refine kw_aload_n (pc := 0) (i := 0) (k := 0) (n := 0) rfl rfl rfl ?_
  refine kw_get (pc := 1) (i := 1) (v := .ref 7) rfl rfl rfl lkX8_36 (fun _ => rfl) ?_
  refine kw_iload_n (pc := 4) (i := 2) (k := 1) (n := 1) rfl rfl rfl ?_
  refine kw_aload_n (pc := 5) (i := 3) (k := 0) (n := 0) rfl rfl rfl ?_
  refine kw_get (pc := 6) (i := 4) (v := .int (σ.1 0 11)) rfl rfl rfl lkX8_32 (fun _ => rfl) ?_
  have b1 : 1 ≤ (σ.1 0 11).toInt ∧ (σ.1 0 11).toInt ≤ 8 := hI 0 11
  refine kw_irem (pc := 9) (i := 5) rfl (by omega) (fun z2 e_z2 => ?_)
  have r_z2 := kw_rng z2
  replace hF := kf_le e_z2 hF
  have t_z2 := kw_remI h (σ.1 0 11) z2 e_z2
  refine kw_iald (pc := 10) (i := 6) (n := 8) rfl rfl (by omega) (by omega) (fun z3 e_z3 => ?_)
  replace hF := kf_le e_z3 hF
  have t_z3 := congrArg Int32.toInt e_z3
  have r_z3 := kw_rng z3
  exact kw_ireturn (pc := 11) (i := 7) (ty := .int) rfl rfl rfl ⟨rfl, _, rfl, hF⟩
noncomputable def f_X8_pullBy (σ : kw_S) (kind : Int32) (area : Int32) (w : Int32) : Int32 := kf_l (area * w) fun z1 => kf_l (z1 + w) fun z2 => if kind.toInt = 1 then (z2) else if kind.toInt = 2 then (if w.toInt < (3 : Int32).toInt then ((0 : Int32)) else (kf_l (area * w) fun z3 => z3)) else if kind.toInt = 3 then (kf_l (-area) fun z4 => kf_l (z4 * w) fun z5 => z5) else if kind.toInt = 4 then (kf_l ((2 : Int32) * z2) fun z6 => z6) else if kind.toInt = 5 then (kf_l ((2 : Int32) * z2) fun z7 => kf_l (z7 / (3 : Int32)) fun z8 => z8) else (kf_l (area * w) fun z9 => z9)
theorem f_X8_pullBy_u (σ : kw_S) (kind : Int32) (area : Int32) (w : Int32) : f_X8_pullBy σ kind area w = kf_l (area * w) fun z1 => kf_l (z1 + w) fun z2 => if kind.toInt = 1 then (z2) else if kind.toInt = 2 then (if w.toInt < (3 : Int32).toInt then ((0 : Int32)) else (kf_l (area * w) fun z3 => z3)) else if kind.toInt = 3 then (kf_l (-area) fun z4 => kf_l (z4 * w) fun z5 => z5) else if kind.toInt = 4 then (kf_l ((2 : Int32) * z2) fun z6 => z6) else if kind.toInt = 5 then (kf_l ((2 : Int32) * z2) fun z7 => kf_l (z7 / (3 : Int32)) fun z8 => z8) else (kf_l (area * w) fun z9 => z9) := rfl
abbrev p_X8_pullBy (T : Int) (σ : kw_S) (kind : Int32) (area : Int32) (w : Int32) : Option Value → kw_S → Prop := fun vv σ' => σ' = σ ∧ ∃ r : Int32, vv = some (.int r) ∧ r = f_X8_pullBy σ kind area w
set_option maxRecDepth 100000 in
set_option maxHeartbeats 4000000 in
theorem c_X8_pullBy (l : Launch) (T : Int) (hT0 : 0 ≤ T) (hT1 : T ≤ 3000) (σ : kw_S) (hI : kw_I (bM T) σ) (kind : Int32) (area : Int32) (w : Int32) : kw_Met l 1 KM mX8_pullBy [.int kind, .int area, .int w] σ (p_X8_pullBy T σ kind area w) := by
  have r_kind := kw_rng kind
  have r_area := kw_rng area
  have r_w := kw_rng w
  have hF := (f_X8_pullBy_u σ kind area w).symm
  have q_0 : (0 : Int32).toInt = 0 := rfl
  have q_2 : (2 : Int32).toInt = 2 := rfl
  have q_3 : (3 : Int32).toInt = 3 := rfl
  refine kw_Met.of (by decide) rfl tX8_pullBy (Nat.le_of_ble_eq_true rfl) ?_
  show kw_AW l 1 kw_E0 KM mX8_pullBy (p_X8_pullBy T σ kind area w) 0 [(0, .int kind), (1, .int area), (2, .int w)] [] σ
  refine kw_iload_n (pc := 0) (i := 0) (k := 1) (n := 1) rfl rfl rfl ?_
  refine kw_iload_n (pc := 1) (i := 1) (k := 2) (n := 2) rfl rfl rfl ?_
  refine kw_imul (pc := 2) (i := 2) rfl (fun z1 e_z1 t_z1 => ?_)
  replace hF := kf_le e_z1 hF
  refine kw_iload_n (pc := 3) (i := 3) (k := 2) (n := 2) rfl rfl rfl ?_
  refine kw_iadd (pc := 4) (i := 4) rfl (fun z2 e_z2 t_z2 => ?_)
  replace hF := kf_le e_z2 hF
  first | (have u_z2 : z2.toInt = z1.toInt + w.toInt := (by omega); clear t_z2) | skip
  refine kw_istore_n (pc := 5) (i := 5) (n := 3) (lv' := [(3, .int z2), (0, .int kind), (1, .int area), (2, .int w)]) rfl rfl (by decide) rfl ?_
  refine kw_iload_n (pc := 6) (i := 6) (k := 1) (n := 0) rfl rfl rfl ?_
  by_cases c3 : kind.toInt = 1
  · refine kw_tableIn (pc := 7) (i := 7) (k := 0) (tgt := 40) rfl (by omega) (by decide) rfl rfl ?_
    replace hF := kf_p c3 hF
    refine kw_iload_n (pc := 40) (i := 8) (k := 0) (n := 3) rfl rfl rfl ?_
    exact kw_ireturn (pc := 41) (i := 9) (ty := .int) rfl rfl rfl ⟨rfl, _, rfl, hF⟩
  replace hF := kf_n c3 hF
  by_cases c4 : kind.toInt = 2
  · refine kw_tableIn (pc := 7) (i := 7) (k := 1) (tgt := 42) rfl (by omega) (by decide) rfl rfl ?_
    replace hF := kf_p c4 hF
    refine kw_iload_n (pc := 42) (i := 10) (k := 3) (n := 2) rfl rfl rfl ?_
    refine kw_iconst (pc := 43) (i := 11) (v := 3) rfl rfl ?_
    refine kw_icmp_ge (pc := 44) (i := 12) (tgt := 51) rfl rfl (fun c5 => ?_) (fun c5 => ?_)
    · replace hF := kf_nl c5 hF
      refine kw_iload_n (pc := 51) (i := 15) (k := 2) (n := 1) rfl rfl rfl ?_
      refine kw_iload_n (pc := 52) (i := 16) (k := 3) (n := 2) rfl rfl rfl ?_
      refine kw_imul (pc := 53) (i := 17) rfl (fun z6 e_z6 t_z6 => ?_)
      replace hF := kf_le e_z6 hF
      exact kw_ireturn (pc := 54) (i := 18) (ty := .int) rfl rfl rfl ⟨rfl, _, rfl, hF⟩
    · replace hF := kf_p c5 hF
      refine kw_iconst (pc := 47) (i := 13) (v := 0) rfl rfl ?_
      refine kw_goto (pc := 48) (i := 14) (tgt := 54) rfl rfl ?_
      exact kw_ireturn (pc := 54) (i := 18) (ty := .int) rfl rfl rfl ⟨rfl, _, rfl, hF⟩
  replace hF := kf_n c4 hF
  by_cases c7 : kind.toInt = 3
  · refine kw_tableIn (pc := 7) (i := 7) (k := 2) (tgt := 55) rfl (by omega) (by decide) rfl rfl ?_
    replace hF := kf_p c7 hF
    refine kw_iload_n (pc := 55) (i := 19) (k := 2) (n := 1) rfl rfl rfl ?_
    refine kw_ineg (pc := 56) (i := 20) rfl (fun z8 e_z8 t_z8 => ?_)
    replace hF := kf_le e_z8 hF
    refine kw_iload_n (pc := 57) (i := 21) (k := 3) (n := 2) rfl rfl rfl ?_
    refine kw_imul (pc := 58) (i := 22) rfl (fun z9 e_z9 t_z9 => ?_)
    replace hF := kf_le e_z9 hF
    exact kw_ireturn (pc := 59) (i := 23) (ty := .int) rfl rfl rfl ⟨rfl, _, rfl, hF⟩
  replace hF := kf_n c7 hF
  by_cases c10 : kind.toInt = 4
  · refine kw_tableIn (pc := 7) (i := 7) (k := 3) (tgt := 60) rfl (by omega) (by decide) rfl rfl ?_
    replace hF := kf_p c10 hF
    refine kw_iconst (pc := 60) (i := 24) (v := 2) rfl rfl ?_
    refine kw_iload_n (pc := 61) (i := 25) (k := 0) (n := 3) rfl rfl rfl ?_
    refine kw_imul (pc := 62) (i := 26) rfl (fun z11 e_z11 t_z11 => ?_)
    replace hF := kf_le e_z11 hF
    rw [show (2 : Int32).toInt = 2 from rfl] at t_z11
    first | (have u_z11 : z11.toInt = 2 * z2.toInt := (by omega); clear t_z11) | skip
    exact kw_ireturn (pc := 63) (i := 27) (ty := .int) rfl rfl rfl ⟨rfl, _, rfl, hF⟩
  replace hF := kf_n c10 hF
  by_cases c12 : kind.toInt = 5
  · refine kw_tableIn (pc := 7) (i := 7) (k := 4) (tgt := 64) rfl (by omega) (by decide) rfl rfl ?_
    replace hF := kf_p c12 hF
    refine kw_iconst (pc := 64) (i := 28) (v := 2) rfl rfl ?_
    refine kw_iload_n (pc := 65) (i := 29) (k := 0) (n := 3) rfl rfl rfl ?_
    refine kw_imul (pc := 66) (i := 30) rfl (fun z13 e_z13 t_z13 => ?_)
    replace hF := kf_le e_z13 hF
    rw [show (2 : Int32).toInt = 2 from rfl] at t_z13
    first | (have u_z13 : z13.toInt = 2 * z2.toInt := (by omega); clear t_z13) | skip
    refine kw_iconst (pc := 67) (i := 31) (v := 3) rfl rfl ?_
    refine kw_idiv (pc := 68) (i := 32) rfl (by omega) (fun z14 e_z14 => ?_)
    have r_z14 := kw_rng z14
    replace hF := kf_le e_z14 hF
    exact kw_ireturn (pc := 69) (i := 33) (ty := .int) rfl rfl rfl ⟨rfl, _, rfl, hF⟩
  replace hF := kf_n c12 hF
  refine kw_tableOut (pc := 7) (i := 7) (tgt := 70) rfl (by omega) rfl ?_
  refine kw_iload_n (pc := 70) (i := 34) (k := 2) (n := 1) rfl rfl rfl ?_
  refine kw_iload_n (pc := 71) (i := 35) (k := 3) (n := 2) rfl rfl rfl ?_
  refine kw_imul (pc := 72) (i := 36) rfl (fun z15 e_z15 t_z15 => ?_)
  replace hF := kf_le e_z15 hF
  exact kw_ireturn (pc := 73) (i := 37) (ty := .int) rfl rfl rfl ⟨rfl, _, rfl, hF⟩
noncomputable def f_X8_pullOf_0 (σ : kw_S) (i : Int32) (w : Int32) : Int32 := kf_l (σ.1 8 i.toNatClampNeg) fun z1 => kf_l (σ.1 10 i.toNatClampNeg) fun z2 => kf_l (f_X8_pullBy σ z1 z2 w) fun z3 => z3
theorem f_X8_pullOf_0_u (σ : kw_S) (i : Int32) (w : Int32) : f_X8_pullOf_0 σ i w = kf_l (σ.1 8 i.toNatClampNeg) fun z1 => kf_l (σ.1 10 i.toNatClampNeg) fun z2 => kf_l (f_X8_pullBy σ z1 z2 w) fun z3 => z3 := rfl
abbrev p_X8_pullOf_0 (T : Int) (σ : kw_S) (i : Int32) (w : Int32) : Option Value → kw_S → Prop := fun vv σ' => σ' = σ ∧ ∃ r : Int32, vv = some (.int r) ∧ r = f_X8_pullOf_0 σ i w
set_option maxRecDepth 100000 in
set_option maxHeartbeats 4000000 in
theorem c_X8_pullOf_0 (l : Launch) (T : Int) (hT0 : 0 ≤ T) (hT1 : T ≤ 3000) (σ : kw_S) (hI : kw_I (bM T) σ) (i : Int32) (w : Int32) (hp0 : 0 ≤ i.toInt) (hp1 : i.toInt ≤ 5) : kw_Met l 2 KM mX8_pullOf [.ref 0, .int i, .int w] σ (p_X8_pullOf_0 T σ i w) := by
  have r_i := kw_rng i
  have r_w := kw_rng w
  have hF := (f_X8_pullOf_0_u σ i w).symm
  refine kw_Met.of (by decide) rfl tX8_pullOf (Nat.le_of_ble_eq_true rfl) ?_
  show kw_AW l 2 kw_E0 KM mX8_pullOf (p_X8_pullOf_0 T σ i w) 0 [(0, .ref 0), (1, .int i), (2, .int w)] [] σ
  refine kw_aload_n (pc := 0) (i := 0) (k := 0) (n := 0) rfl rfl rfl ?_
  refine kw_get (pc := 1) (i := 1) (v := .ref 8) rfl rfl rfl lkX8_39 (fun _ => rfl) ?_
  refine kw_iload_n (pc := 4) (i := 2) (k := 1) (n := 1) rfl rfl rfl ?_
  refine kw_iald (pc := 5) (i := 3) (n := 6) rfl rfl (by omega) (by omega) (fun z1 e_z1 => ?_)
  replace hF := kf_le e_z1 hF
  have t_z1 := congrArg Int32.toInt e_z1
  have r_z1 := kw_rng z1
  refine kw_aload_n (pc := 6) (i := 4) (k := 0) (n := 0) rfl rfl rfl ?_
  refine kw_get (pc := 7) (i := 5) (v := .ref 10) rfl rfl rfl lkX8_45 (fun _ => rfl) ?_
  refine kw_iload_n (pc := 10) (i := 6) (k := 1) (n := 1) rfl rfl rfl ?_
  refine kw_iald (pc := 11) (i := 7) (n := 6) rfl rfl (by omega) (by omega) (fun z2 e_z2 => ?_)
  replace hF := kf_le e_z2 hF
  have t_z2 := congrArg Int32.toInt e_z2
  have r_z2 := kw_rng z2
  refine kw_iload_n (pc := 12) (i := 8) (k := 2) (n := 2) rfl rfl rfl ?_
  refine kw_callS (pc := 13) (i := 9) (Y := mX8_pullBy) (As := [.int z1, .int z2, .int w]) (st := []) kw_hE rfl lsX8_181 arX8_pullBy (c_X8_pullBy l T hT0 hT1 σ hI z1 z2 w ) (by decide) (Nat.le_of_ble_eq_true rfl) rfl (fun v S4 p3 => ?_)
  obtain ⟨e7, z6, rfl, ef5⟩ := p3
  rw [e7]
  replace hF := kf_le ef5 hF
  have r_z6 := kw_rng z6
  show kw_AW l 2 kw_E0 KM mX8_pullOf (p_X8_pullOf_0 T σ i w) 16 [(0, .ref 0), (1, .int i), (2, .int w)] [.int z6] σ
  exact kw_ireturn (pc := 16) (i := 10) (ty := .int) rfl rfl rfl ⟨rfl, _, rfl, hF⟩
noncomputable def l_X8_milesBy_0_5 (a1 : Int32) (a2 : Int32) (S : kw_S) : Nat → Int32 → Int32 → Int32
  | 0, _, _ => 0
  | n + 1, x3, x4 => if x4.toInt < (S.1 0 10).toInt then (kf_l (f_X8_has S a1 x4) fun z2 => if z2.toInt = 0 then (kf_l (x3 + (0 : Int32)) fun z3 => kf_l (x4 + Int32.ofInt 1) fun z4 => l_X8_milesBy_0_5 a1 a2 S n z3 z4) else (kf_l (f_X8_pullOf_0 S x4 a2) fun z5 => kf_l (x3 + z5) fun z6 => kf_l (x4 + Int32.ofInt 1) fun z7 => l_X8_milesBy_0_5 a1 a2 S n z6 z7)) else (kf_l (x3 / (4 : Int32)) fun z1 => z1)
theorem l_X8_milesBy_0_5_s (a1 : Int32) (a2 : Int32) (S : kw_S) (n : Nat) (x3 : Int32) (x4 : Int32) : l_X8_milesBy_0_5 a1 a2 S (n + 1) x3 x4 = if x4.toInt < (S.1 0 10).toInt then (kf_l (f_X8_has S a1 x4) fun z2 => if z2.toInt = 0 then (kf_l (x3 + (0 : Int32)) fun z3 => kf_l (x4 + Int32.ofInt 1) fun z4 => l_X8_milesBy_0_5 a1 a2 S n z3 z4) else (kf_l (f_X8_pullOf_0 S x4 a2) fun z5 => kf_l (x3 + z5) fun z6 => kf_l (x4 + Int32.ofInt 1) fun z7 => l_X8_milesBy_0_5 a1 a2 S n z6 z7)) else (kf_l (x3 / (4 : Int32)) fun z1 => z1) := rfl
noncomputable def f_X8_milesBy_0 (σ : kw_S) (s : Int32) (w : Int32) : Int32 := l_X8_milesBy_0_5 s w σ ((7 - (0 : Int32).toInt).toNat + 1) (0 : Int32) (0 : Int32)
theorem f_X8_milesBy_0_u (σ : kw_S) (s : Int32) (w : Int32) : f_X8_milesBy_0 σ s w = l_X8_milesBy_0_5 s w σ ((7 - (0 : Int32).toInt).toNat + 1) (0 : Int32) (0 : Int32) := rfl
abbrev p_X8_milesBy_0 (T : Int) (σ : kw_S) (s : Int32) (w : Int32) : Option Value → kw_S → Prop := fun vv σ' => σ' = σ ∧ ∃ r : Int32, vv = some (.int r) ∧ r = f_X8_milesBy_0 σ s w
set_option maxRecDepth 100000 in
set_option maxHeartbeats 4000000 in
theorem c_X8_milesBy_0 (l : Launch) (T : Int) (hT0 : 0 ≤ T) (hT1 : T ≤ 3000) (σ : kw_S) (hI : kw_I (bM T) σ) (s : Int32) (w : Int32) : kw_Met l 3 KM mX8_milesBy [.ref 0, .int s, .int w] σ (p_X8_milesBy_0 T σ s w) := by
  have r_s := kw_rng s
  have r_w := kw_rng w
  have hF := (f_X8_milesBy_0_u σ s w).symm
  have q_0 : (0 : Int32).toInt = 0 := rfl
  have q_4 : (4 : Int32).toInt = 4 := rfl
  refine kw_Met.of (by decide) rfl tX8_milesBy (Nat.le_of_ble_eq_true rfl) ?_
  show kw_AW l 3 kw_E0 KM mX8_milesBy (p_X8_milesBy_0 T σ s w) 0 [(0, .ref 0), (1, .int s), (2, .int w)] [] σ
  refine kw_iconst (pc := 0) (i := 0) (v := 0) rfl rfl ?_
  refine kw_istore_n (pc := 1) (i := 1) (n := 3) (lv' := [(3, .int 0), (0, .ref 0), (1, .int s), (2, .int w)]) rfl rfl (by decide) rfl ?_
  refine kw_iconst (pc := 2) (i := 2) (v := 0) rfl rfl ?_
  refine kw_istore (pc := 3) (i := 3) (n := 4) (lv' := [(4, .int 0), (3, .int 0), (0, .ref 0), (1, .int s), (2, .int w)]) rfl (by decide) rfl ?_
  have L3 : ∀ (n7 : Nat) (x1 : Int32) (x2 : Int32), 0 ≤ x1.toInt → l_X8_milesBy_0_5 s w σ n7 x2 x1 = (f_X8_milesBy_0 σ s w) → (7 - x1.toInt).toNat < n7 → kw_AW l 3 kw_E0 KM mX8_milesBy (p_X8_milesBy_0 T σ s w) 5 [(4, .int x1), (3, .int x2), (0, .ref 0), (1, .int s), (2, .int w)] [] σ := by
    intro n7
    induction n7 with
    | zero => intro x1 x2 v5 hF m6; exact absurd m6 (Nat.not_lt_zero _)
    | succ n7 ih4 =>
      intro x1 x2 v5 hF m6
      replace hF := kf_st (l_X8_milesBy_0_5_s _ _ _ _ _ _) hF
      have r_x1 := kw_rng x1
      have r_x2 := kw_rng x2
      refine kw_iload (pc := 5) (i := 4) (k := 0) (n := 4) rfl rfl ?_
      refine kw_aload_n (pc := 7) (i := 5) (k := 2) (n := 0) rfl rfl rfl ?_
      refine kw_get (pc := 8) (i := 6) (v := .int (σ.1 0 10)) rfl rfl rfl lkX8_163 (fun _ => rfl) ?_
      have b8 : 0 ≤ (σ.1 0 10).toInt ∧ (σ.1 0 10).toInt ≤ 6 := hI 0 10
      refine kw_icmp_ge (pc := 11) (i := 7) (tgt := 43) rfl rfl (fun c9 => ?_) (fun c9 => ?_)
      · replace hF := kf_nl c9 hF
        refine kw_iload_n (pc := 43) (i := 23) (k := 1) (n := 3) rfl rfl rfl ?_
        refine kw_iconst (pc := 44) (i := 24) (v := 4) rfl rfl ?_
        refine kw_idiv (pc := 45) (i := 25) rfl (by omega) (fun z10 e_z10 => ?_)
        have r_z10 := kw_rng z10
        replace hF := kf_le e_z10 hF
        exact kw_ireturn (pc := 46) (i := 26) (ty := .int) rfl rfl rfl ⟨rfl, _, rfl, hF⟩
      · replace hF := kf_p c9 hF
        refine kw_iload_n (pc := 14) (i := 8) (k := 1) (n := 3) rfl rfl rfl ?_
        refine kw_iload_n (pc := 15) (i := 9) (k := 3) (n := 1) rfl rfl rfl ?_
        refine kw_iload (pc := 16) (i := 10) (k := 0) (n := 4) rfl rfl ?_
        refine kw_callS (pc := 18) (i := 11) (Y := mX8_has) (As := [.int s, .int x1]) (st := [.int x2]) kw_hE rfl lsX8_185 arX8_has (c_X8_has l T hT0 hT1 σ hI s x1 ) (by decide) (Nat.le_of_ble_eq_true rfl) rfl (fun v S12 p11 => ?_)
        obtain ⟨e16, z15, rfl, f13, ef14⟩ := p11
        rw [e16]
        replace hF := kf_le ef14 hF
        have r_z15 := kw_rng z15
        show kw_AW l 3 kw_E0 KM mX8_milesBy (p_X8_milesBy_0 T σ s w) 21 [(4, .int x1), (3, .int x2), (0, .ref 0), (1, .int s), (2, .int w)] [.int z15, .int x2] σ
        refine kw_if_eq (pc := 21) (i := 12) (tgt := 34) rfl rfl (fun c17 => ?_) (fun c17 => ?_)
        · replace hF := kf_p c17 hF
          refine kw_iconst (pc := 34) (i := 18) (v := 0) rfl rfl ?_
          refine kw_iadd (pc := 35) (i := 19) rfl (fun z18 e_z18 t_z18 => ?_)
          replace hF := kf_le e_z18 hF
          first | (have u_z18 : z18.toInt = x2.toInt + 0 := (by omega); clear t_z18) | skip
          refine kw_istore_n (pc := 36) (i := 20) (n := 3) (lv' := [(3, .int z18), (4, .int x1), (0, .ref 0), (1, .int s), (2, .int w)]) rfl rfl (by decide) rfl ?_
          refine kw_iinc' (pc := 37) (i := 21) (k := 1) (fun z => [(4, .int z), (3, .int z18), (0, .ref 0), (1, .int s), (2, .int w)]) rfl rfl (by decide) rfl (fun _ => rfl) (fun z19 e_z19 t_z19 => ?_)
          replace hF := kf_le e_z19 hF
          first | (have u_z19 : z19.toInt = x1.toInt + 1 := (by omega); clear t_z19) | skip
          refine kw_goto (pc := 40) (i := 22) (tgt := 5) rfl rfl ?_
          refine kw_sub (lv' := [(4, .int z19), (3, .int z18), (0, .ref 0), (1, .int s), (2, .int w)]) [0, 1, 2, 3, 4] rfl ?_
          exact ih4 z19 z18 (by omega) hF (by omega)
        · replace hF := kf_n c17 hF
          refine kw_aload_n (pc := 24) (i := 13) (k := 2) (n := 0) rfl rfl rfl ?_
          refine kw_iload (pc := 25) (i := 14) (k := 0) (n := 4) rfl rfl ?_
          refine kw_iload_n (pc := 27) (i := 15) (k := 4) (n := 2) rfl rfl rfl ?_
          refine kw_callV (pc := 28) (i := 16) (Y := mX8_pullOf) (a := 0) (As := [.int x1, .int w]) (st := [.int x2]) kw_hE rfl rfl lvX8_189 arX8_pullOf (c_X8_pullOf_0 l T hT0 hT1 σ hI x1 w (by first | omega | decide) (by first | omega | decide)) (by decide) (Nat.le_of_ble_eq_true rfl) rfl (fun v S21 p20 => ?_)
          obtain ⟨e24, z23, rfl, ef22⟩ := p20
          rw [e24]
          replace hF := kf_le ef22 hF
          have r_z23 := kw_rng z23
          show kw_AW l 3 kw_E0 KM mX8_milesBy (p_X8_milesBy_0 T σ s w) 31 [(4, .int x1), (3, .int x2), (0, .ref 0), (1, .int s), (2, .int w)] [.int z23, .int x2] σ
          refine kw_goto (pc := 31) (i := 17) (tgt := 35) rfl rfl ?_
          refine kw_iadd (pc := 35) (i := 19) rfl (fun z25 e_z25 t_z25 => ?_)
          replace hF := kf_le e_z25 hF
          first | (have u_z25 : z25.toInt = x2.toInt + z23.toInt := (by omega); clear t_z25) | skip
          refine kw_istore_n (pc := 36) (i := 20) (n := 3) (lv' := [(3, .int z25), (4, .int x1), (0, .ref 0), (1, .int s), (2, .int w)]) rfl rfl (by decide) rfl ?_
          refine kw_iinc' (pc := 37) (i := 21) (k := 1) (fun z => [(4, .int z), (3, .int z25), (0, .ref 0), (1, .int s), (2, .int w)]) rfl rfl (by decide) rfl (fun _ => rfl) (fun z26 e_z26 t_z26 => ?_)
          replace hF := kf_le e_z26 hF
          first | (have u_z26 : z26.toInt = x1.toInt + 1 := (by omega); clear t_z26) | skip
          refine kw_goto (pc := 40) (i := 22) (tgt := 5) rfl rfl ?_
          refine kw_sub (lv' := [(4, .int z26), (3, .int z25), (0, .ref 0), (1, .int s), (2, .int w)]) [0, 1, 2, 3, 4] rfl ?_
          exact ih4 z26 z25 (by omega) hF (by omega)
  exact L3 _ 0 0 (by omega) hF (Nat.lt_succ_self _)
noncomputable def l_X8_turnBy_0_5 (a1 : Int32) (a2 : Int32) (S : kw_S) : Nat → Int32 → Int32 → Int32
  | 0, _, _ => 0
  | n + 1, x3, x4 => if x4.toInt < (S.1 0 10).toInt then (kf_l (f_X8_has S a1 x4) fun z1 => if z1.toInt = 0 then (kf_l (x3 + (0 : Int32)) fun z2 => kf_l (x4 + Int32.ofInt 1) fun z3 => l_X8_turnBy_0_5 a1 a2 S n z2 z3) else (kf_l (f_X8_pullOf_0 S x4 a2) fun z4 => kf_l (S.1 9 x4.toNatClampNeg) fun z5 => kf_l (z4 * z5) fun z6 => kf_l (x3 + z6) fun z7 => kf_l (x4 + Int32.ofInt 1) fun z8 => l_X8_turnBy_0_5 a1 a2 S n z7 z8)) else (x3)
theorem l_X8_turnBy_0_5_s (a1 : Int32) (a2 : Int32) (S : kw_S) (n : Nat) (x3 : Int32) (x4 : Int32) : l_X8_turnBy_0_5 a1 a2 S (n + 1) x3 x4 = if x4.toInt < (S.1 0 10).toInt then (kf_l (f_X8_has S a1 x4) fun z1 => if z1.toInt = 0 then (kf_l (x3 + (0 : Int32)) fun z2 => kf_l (x4 + Int32.ofInt 1) fun z3 => l_X8_turnBy_0_5 a1 a2 S n z2 z3) else (kf_l (f_X8_pullOf_0 S x4 a2) fun z4 => kf_l (S.1 9 x4.toNatClampNeg) fun z5 => kf_l (z4 * z5) fun z6 => kf_l (x3 + z6) fun z7 => kf_l (x4 + Int32.ofInt 1) fun z8 => l_X8_turnBy_0_5 a1 a2 S n z7 z8)) else (x3) := rfl
noncomputable def f_X8_turnBy_0 (σ : kw_S) (s : Int32) (w : Int32) : Int32 := l_X8_turnBy_0_5 s w σ ((7 - (0 : Int32).toInt).toNat + 1) (0 : Int32) (0 : Int32)
theorem f_X8_turnBy_0_u (σ : kw_S) (s : Int32) (w : Int32) : f_X8_turnBy_0 σ s w = l_X8_turnBy_0_5 s w σ ((7 - (0 : Int32).toInt).toNat + 1) (0 : Int32) (0 : Int32) := rfl
abbrev p_X8_turnBy_0 (T : Int) (σ : kw_S) (s : Int32) (w : Int32) : Option Value → kw_S → Prop := fun vv σ' => σ' = σ ∧ ∃ r : Int32, vv = some (.int r) ∧ r = f_X8_turnBy_0 σ s w
set_option maxRecDepth 100000 in
set_option maxHeartbeats 4000000 in
theorem c_X8_turnBy_0 (l : Launch) (T : Int) (hT0 : 0 ≤ T) (hT1 : T ≤ 3000) (σ : kw_S) (hI : kw_I (bM T) σ) (s : Int32) (w : Int32) : kw_Met l 3 KM mX8_turnBy [.ref 0, .int s, .int w] σ (p_X8_turnBy_0 T σ s w) := by
  have r_s := kw_rng s
  have r_w := kw_rng w
  have hF := (f_X8_turnBy_0_u σ s w).symm
  have q_0 : (0 : Int32).toInt = 0 := rfl
  refine kw_Met.of (by decide) rfl tX8_turnBy (Nat.le_of_ble_eq_true rfl) ?_
  show kw_AW l 3 kw_E0 KM mX8_turnBy (p_X8_turnBy_0 T σ s w) 0 [(0, .ref 0), (1, .int s), (2, .int w)] [] σ
  refine kw_iconst (pc := 0) (i := 0) (v := 0) rfl rfl ?_
  refine kw_istore_n (pc := 1) (i := 1) (n := 3) (lv' := [(3, .int 0), (0, .ref 0), (1, .int s), (2, .int w)]) rfl rfl (by decide) rfl ?_
  refine kw_iconst (pc := 2) (i := 2) (v := 0) rfl rfl ?_
  refine kw_istore (pc := 3) (i := 3) (n := 4) (lv' := [(4, .int 0), (3, .int 0), (0, .ref 0), (1, .int s), (2, .int w)]) rfl (by decide) rfl ?_
  have L3 : ∀ (n7 : Nat) (x1 : Int32) (x2 : Int32), 0 ≤ x1.toInt → l_X8_turnBy_0_5 s w σ n7 x2 x1 = (f_X8_turnBy_0 σ s w) → (7 - x1.toInt).toNat < n7 → kw_AW l 3 kw_E0 KM mX8_turnBy (p_X8_turnBy_0 T σ s w) 5 [(4, .int x1), (3, .int x2), (0, .ref 0), (1, .int s), (2, .int w)] [] σ := by
    intro n7
    induction n7 with
    | zero => intro x1 x2 v5 hF m6; exact absurd m6 (Nat.not_lt_zero _)
    | succ n7 ih4 =>
      intro x1 x2 v5 hF m6
      replace hF := kf_st (l_X8_turnBy_0_5_s _ _ _ _ _ _) hF
      have r_x1 := kw_rng x1
      have r_x2 := kw_rng x2
      refine kw_iload (pc := 5) (i := 4) (k := 0) (n := 4) rfl rfl ?_
      refine kw_aload_n (pc := 7) (i := 5) (k := 2) (n := 0) rfl rfl rfl ?_
      refine kw_get (pc := 8) (i := 6) (v := .int (σ.1 0 10)) rfl rfl rfl lkX8_163 (fun _ => rfl) ?_
      have b8 : 0 ≤ (σ.1 0 10).toInt ∧ (σ.1 0 10).toInt ≤ 6 := hI 0 10
      refine kw_icmp_ge (pc := 11) (i := 7) (tgt := 51) rfl rfl (fun c9 => ?_) (fun c9 => ?_)
      · replace hF := kf_nl c9 hF
        refine kw_iload_n (pc := 51) (i := 28) (k := 1) (n := 3) rfl rfl rfl ?_
        exact kw_ireturn (pc := 52) (i := 29) (ty := .int) rfl rfl rfl ⟨rfl, _, rfl, hF⟩
      · replace hF := kf_p c9 hF
        refine kw_iload_n (pc := 14) (i := 8) (k := 1) (n := 3) rfl rfl rfl ?_
        refine kw_iload_n (pc := 15) (i := 9) (k := 3) (n := 1) rfl rfl rfl ?_
        refine kw_iload (pc := 16) (i := 10) (k := 0) (n := 4) rfl rfl ?_
        refine kw_callS (pc := 18) (i := 11) (Y := mX8_has) (As := [.int s, .int x1]) (st := [.int x2]) kw_hE rfl lsX8_185 arX8_has (c_X8_has l T hT0 hT1 σ hI s x1 ) (by decide) (Nat.le_of_ble_eq_true rfl) rfl (fun v S11 p10 => ?_)
        obtain ⟨e15, z14, rfl, f12, ef13⟩ := p10
        rw [e15]
        replace hF := kf_le ef13 hF
        have r_z14 := kw_rng z14
        show kw_AW l 3 kw_E0 KM mX8_turnBy (p_X8_turnBy_0 T σ s w) 21 [(4, .int x1), (3, .int x2), (0, .ref 0), (1, .int s), (2, .int w)] [.int z14, .int x2] σ
        refine kw_if_eq (pc := 21) (i := 12) (tgt := 42) rfl rfl (fun c16 => ?_) (fun c16 => ?_)
        · replace hF := kf_p c16 hF
          refine kw_iconst (pc := 42) (i := 23) (v := 0) rfl rfl ?_
          refine kw_iadd (pc := 43) (i := 24) rfl (fun z17 e_z17 t_z17 => ?_)
          replace hF := kf_le e_z17 hF
          first | (have u_z17 : z17.toInt = x2.toInt + 0 := (by omega); clear t_z17) | skip
          refine kw_istore_n (pc := 44) (i := 25) (n := 3) (lv' := [(3, .int z17), (4, .int x1), (0, .ref 0), (1, .int s), (2, .int w)]) rfl rfl (by decide) rfl ?_
          refine kw_iinc' (pc := 45) (i := 26) (k := 1) (fun z => [(4, .int z), (3, .int z17), (0, .ref 0), (1, .int s), (2, .int w)]) rfl rfl (by decide) rfl (fun _ => rfl) (fun z18 e_z18 t_z18 => ?_)
          replace hF := kf_le e_z18 hF
          first | (have u_z18 : z18.toInt = x1.toInt + 1 := (by omega); clear t_z18) | skip
          refine kw_goto (pc := 48) (i := 27) (tgt := 5) rfl rfl ?_
          refine kw_sub (lv' := [(4, .int z18), (3, .int z17), (0, .ref 0), (1, .int s), (2, .int w)]) [0, 1, 2, 3, 4] rfl ?_
          exact ih4 z18 z17 (by omega) hF (by omega)
        · replace hF := kf_n c16 hF
          refine kw_aload_n (pc := 24) (i := 13) (k := 2) (n := 0) rfl rfl rfl ?_
          refine kw_iload (pc := 25) (i := 14) (k := 0) (n := 4) rfl rfl ?_
          refine kw_iload_n (pc := 27) (i := 15) (k := 4) (n := 2) rfl rfl rfl ?_
          refine kw_callV (pc := 28) (i := 16) (Y := mX8_pullOf) (a := 0) (As := [.int x1, .int w]) (st := [.int x2]) kw_hE rfl rfl lvX8_189 arX8_pullOf (c_X8_pullOf_0 l T hT0 hT1 σ hI x1 w (by first | omega | decide) (by first | omega | decide)) (by decide) (Nat.le_of_ble_eq_true rfl) rfl (fun v S20 p19 => ?_)
          obtain ⟨e23, z22, rfl, ef21⟩ := p19
          rw [e23]
          replace hF := kf_le ef21 hF
          have r_z22 := kw_rng z22
          show kw_AW l 3 kw_E0 KM mX8_turnBy (p_X8_turnBy_0 T σ s w) 31 [(4, .int x1), (3, .int x2), (0, .ref 0), (1, .int s), (2, .int w)] [.int z22, .int x2] σ
          refine kw_aload_n (pc := 31) (i := 17) (k := 2) (n := 0) rfl rfl rfl ?_
          refine kw_get (pc := 32) (i := 18) (v := .ref 9) rfl rfl rfl lkX8_42 (fun _ => rfl) ?_
          refine kw_iload (pc := 35) (i := 19) (k := 0) (n := 4) rfl rfl ?_
          refine kw_iald (pc := 37) (i := 20) (n := 6) rfl rfl (by omega) (by omega) (fun z24 e_z24 => ?_)
          replace hF := kf_le e_z24 hF
          have t_z24 := congrArg Int32.toInt e_z24
          have r_z24 := kw_rng z24
          refine kw_imul (pc := 38) (i := 21) rfl (fun z25 e_z25 t_z25 => ?_)
          replace hF := kf_le e_z25 hF
          refine kw_goto (pc := 39) (i := 22) (tgt := 43) rfl rfl ?_
          refine kw_iadd (pc := 43) (i := 24) rfl (fun z26 e_z26 t_z26 => ?_)
          replace hF := kf_le e_z26 hF
          first | (have u_z26 : z26.toInt = x2.toInt + z25.toInt := (by omega); clear t_z26) | skip
          refine kw_istore_n (pc := 44) (i := 25) (n := 3) (lv' := [(3, .int z26), (4, .int x1), (0, .ref 0), (1, .int s), (2, .int w)]) rfl rfl (by decide) rfl ?_
          refine kw_iinc' (pc := 45) (i := 26) (k := 1) (fun z => [(4, .int z), (3, .int z26), (0, .ref 0), (1, .int s), (2, .int w)]) rfl rfl (by decide) rfl (fun _ => rfl) (fun z27 e_z27 t_z27 => ?_)
          replace hF := kf_le e_z27 hF
          first | (have u_z27 : z27.toInt = x1.toInt + 1 := (by omega); clear t_z27) | skip
          refine kw_goto (pc := 48) (i := 27) (tgt := 5) rfl rfl ?_
          refine kw_sub (lv' := [(4, .int z27), (3, .int z26), (0, .ref 0), (1, .int s), (2, .int w)]) [0, 1, 2, 3, 4] rfl ?_
          exact ih4 z27 z26 (by omega) hF (by omega)
  exact L3 _ 0 0 (by omega) hF (Nat.lt_succ_self _)
noncomputable def l_X8_linenOf_0_4 (a1 : Int32) (S : kw_S) : Nat → Int32 → Int32 → Int32
  | 0, _, _ => 0
  | n + 1, x2, x3 => if x3.toInt < (S.1 0 10).toInt then (kf_l (f_X8_has S a1 x3) fun z1 => if z1.toInt = 0 then (kf_l (x2 + (0 : Int32)) fun z2 => kf_l (x3 + Int32.ofInt 1) fun z3 => l_X8_linenOf_0_4 a1 S n z2 z3) else (kf_l (S.1 11 x3.toNatClampNeg) fun z4 => kf_l (x2 + z4) fun z5 => kf_l (x3 + Int32.ofInt 1) fun z6 => l_X8_linenOf_0_4 a1 S n z5 z6)) else (x2)
theorem l_X8_linenOf_0_4_s (a1 : Int32) (S : kw_S) (n : Nat) (x2 : Int32) (x3 : Int32) : l_X8_linenOf_0_4 a1 S (n + 1) x2 x3 = if x3.toInt < (S.1 0 10).toInt then (kf_l (f_X8_has S a1 x3) fun z1 => if z1.toInt = 0 then (kf_l (x2 + (0 : Int32)) fun z2 => kf_l (x3 + Int32.ofInt 1) fun z3 => l_X8_linenOf_0_4 a1 S n z2 z3) else (kf_l (S.1 11 x3.toNatClampNeg) fun z4 => kf_l (x2 + z4) fun z5 => kf_l (x3 + Int32.ofInt 1) fun z6 => l_X8_linenOf_0_4 a1 S n z5 z6)) else (x2) := rfl
noncomputable def f_X8_linenOf_0 (σ : kw_S) (s : Int32) : Int32 := l_X8_linenOf_0_4 s σ ((7 - (0 : Int32).toInt).toNat + 1) (0 : Int32) (0 : Int32)
theorem f_X8_linenOf_0_u (σ : kw_S) (s : Int32) : f_X8_linenOf_0 σ s = l_X8_linenOf_0_4 s σ ((7 - (0 : Int32).toInt).toNat + 1) (0 : Int32) (0 : Int32) := rfl
abbrev p_X8_linenOf_0 (T : Int) (σ : kw_S) (s : Int32) : Option Value → kw_S → Prop := fun vv σ' => σ' = σ ∧ ∃ r : Int32, vv = some (.int r) ∧ r = f_X8_linenOf_0 σ s
set_option maxRecDepth 100000 in
set_option maxHeartbeats 4000000 in
theorem c_X8_linenOf_0 (l : Launch) (T : Int) (hT0 : 0 ≤ T) (hT1 : T ≤ 3000) (σ : kw_S) (hI : kw_I (bM T) σ) (s : Int32) : kw_Met l 2 KM mX8_linenOf [.ref 0, .int s] σ (p_X8_linenOf_0 T σ s) := by
  have r_s := kw_rng s
  have hF := (f_X8_linenOf_0_u σ s).symm
  have q_0 : (0 : Int32).toInt = 0 := rfl
  refine kw_Met.of (by decide) rfl tX8_linenOf (Nat.le_of_ble_eq_true rfl) ?_
  show kw_AW l 2 kw_E0 KM mX8_linenOf (p_X8_linenOf_0 T σ s) 0 [(0, .ref 0), (1, .int s)] [] σ
  refine kw_iconst (pc := 0) (i := 0) (v := 0) rfl rfl ?_
  refine kw_istore_n (pc := 1) (i := 1) (n := 2) (lv' := [(2, .int 0), (0, .ref 0), (1, .int s)]) rfl rfl (by decide) rfl ?_
  refine kw_iconst (pc := 2) (i := 2) (v := 0) rfl rfl ?_
  refine kw_istore_n (pc := 3) (i := 3) (n := 3) (lv' := [(3, .int 0), (2, .int 0), (0, .ref 0), (1, .int s)]) rfl rfl (by decide) rfl ?_
  have L3 : ∀ (n7 : Nat) (x1 : Int32) (x2 : Int32), 0 ≤ x1.toInt → l_X8_linenOf_0_4 s σ n7 x2 x1 = (f_X8_linenOf_0 σ s) → (7 - x1.toInt).toNat < n7 → kw_AW l 2 kw_E0 KM mX8_linenOf (p_X8_linenOf_0 T σ s) 4 [(3, .int x1), (2, .int x2), (0, .ref 0), (1, .int s)] [] σ := by
    intro n7
    induction n7 with
    | zero => intro x1 x2 v5 hF m6; exact absurd m6 (Nat.not_lt_zero _)
    | succ n7 ih4 =>
      intro x1 x2 v5 hF m6
      replace hF := kf_st (l_X8_linenOf_0_4_s _ _ _ _ _) hF
      have r_x1 := kw_rng x1
      have r_x2 := kw_rng x2
      refine kw_iload_n (pc := 4) (i := 4) (k := 0) (n := 3) rfl rfl rfl ?_
      refine kw_aload_n (pc := 5) (i := 5) (k := 2) (n := 0) rfl rfl rfl ?_
      refine kw_get (pc := 6) (i := 6) (v := .int (σ.1 0 10)) rfl rfl rfl lkX8_163 (fun _ => rfl) ?_
      have b8 : 0 ≤ (σ.1 0 10).toInt ∧ (σ.1 0 10).toInt ≤ 6 := hI 0 10
      refine kw_icmp_ge (pc := 9) (i := 7) (tgt := 39) rfl rfl (fun c9 => ?_) (fun c9 => ?_)
      · replace hF := kf_nl c9 hF
        refine kw_iload_n (pc := 39) (i := 23) (k := 1) (n := 2) rfl rfl rfl ?_
        exact kw_ireturn (pc := 40) (i := 24) (ty := .int) rfl rfl rfl ⟨rfl, _, rfl, hF⟩
      · replace hF := kf_p c9 hF
        refine kw_iload_n (pc := 12) (i := 8) (k := 1) (n := 2) rfl rfl rfl ?_
        refine kw_iload_n (pc := 13) (i := 9) (k := 3) (n := 1) rfl rfl rfl ?_
        refine kw_iload_n (pc := 14) (i := 10) (k := 0) (n := 3) rfl rfl rfl ?_
        refine kw_callS (pc := 15) (i := 11) (Y := mX8_has) (As := [.int s, .int x1]) (st := [.int x2]) kw_hE rfl lsX8_185 arX8_has (c_X8_has l T hT0 hT1 σ hI s x1 ) (by decide) (Nat.le_of_ble_eq_true rfl) rfl (fun v S11 p10 => ?_)
        obtain ⟨e15, z14, rfl, f12, ef13⟩ := p10
        rw [e15]
        replace hF := kf_le ef13 hF
        have r_z14 := kw_rng z14
        show kw_AW l 2 kw_E0 KM mX8_linenOf (p_X8_linenOf_0 T σ s) 18 [(3, .int x1), (2, .int x2), (0, .ref 0), (1, .int s)] [.int z14, .int x2] σ
        refine kw_if_eq (pc := 18) (i := 12) (tgt := 30) rfl rfl (fun c16 => ?_) (fun c16 => ?_)
        · replace hF := kf_p c16 hF
          refine kw_iconst (pc := 30) (i := 18) (v := 0) rfl rfl ?_
          refine kw_iadd (pc := 31) (i := 19) rfl (fun z17 e_z17 t_z17 => ?_)
          replace hF := kf_le e_z17 hF
          first | (have u_z17 : z17.toInt = x2.toInt + 0 := (by omega); clear t_z17) | skip
          refine kw_istore_n (pc := 32) (i := 20) (n := 2) (lv' := [(2, .int z17), (3, .int x1), (0, .ref 0), (1, .int s)]) rfl rfl (by decide) rfl ?_
          refine kw_iinc' (pc := 33) (i := 21) (k := 1) (fun z => [(3, .int z), (2, .int z17), (0, .ref 0), (1, .int s)]) rfl rfl (by decide) rfl (fun _ => rfl) (fun z18 e_z18 t_z18 => ?_)
          replace hF := kf_le e_z18 hF
          first | (have u_z18 : z18.toInt = x1.toInt + 1 := (by omega); clear t_z18) | skip
          refine kw_goto (pc := 36) (i := 22) (tgt := 4) rfl rfl ?_
          refine kw_sub (lv' := [(3, .int z18), (2, .int z17), (0, .ref 0), (1, .int s)]) [0, 1, 2, 3] rfl ?_
          exact ih4 z18 z17 (by omega) hF (by omega)
        · replace hF := kf_n c16 hF
          refine kw_aload_n (pc := 21) (i := 13) (k := 2) (n := 0) rfl rfl rfl ?_
          refine kw_get (pc := 22) (i := 14) (v := .ref 11) rfl rfl rfl lkX8_48 (fun _ => rfl) ?_
          refine kw_iload_n (pc := 25) (i := 15) (k := 0) (n := 3) rfl rfl rfl ?_
          refine kw_iald (pc := 26) (i := 16) (n := 6) rfl rfl (by omega) (by omega) (fun z19 e_z19 => ?_)
          replace hF := kf_le e_z19 hF
          have t_z19 := congrArg Int32.toInt e_z19
          have r_z19 := kw_rng z19
          refine kw_goto (pc := 27) (i := 17) (tgt := 31) rfl rfl ?_
          refine kw_iadd (pc := 31) (i := 19) rfl (fun z20 e_z20 t_z20 => ?_)
          replace hF := kf_le e_z20 hF
          first | (have u_z20 : z20.toInt = x2.toInt + z19.toInt := (by omega); clear t_z20) | skip
          refine kw_istore_n (pc := 32) (i := 20) (n := 2) (lv' := [(2, .int z20), (3, .int x1), (0, .ref 0), (1, .int s)]) rfl rfl (by decide) rfl ?_
          refine kw_iinc' (pc := 33) (i := 21) (k := 1) (fun z => [(3, .int z), (2, .int z20), (0, .ref 0), (1, .int s)]) rfl rfl (by decide) rfl (fun _ => rfl) (fun z21 e_z21 t_z21 => ?_)
          replace hF := kf_le e_z21 hF
          first | (have u_z21 : z21.toInt = x1.toInt + 1 := (by omega); clear t_z21) | skip
          refine kw_goto (pc := 36) (i := 22) (tgt := 4) rfl rfl ?_
          refine kw_sub (lv' := [(3, .int z21), (2, .int z20), (0, .ref 0), (1, .int s)]) [0, 1, 2, 3] rfl ?_
          exact ih4 z21 z20 (by omega) hF (by omega)
  exact L3 _ 0 0 (by omega) hF (Nat.lt_succ_self _)
noncomputable def l_X8_bits_4 (a0 : Int32) (S : kw_S) : Nat → Int32 → Int32 → Int32
  | 0, _, _ => 0
  | n + 1, x1, x2 => if x2.toInt < (6 : Int32).toInt then (kf_l (a0 >>> (x2 &&& 31)) fun z1 => kf_l (z1 &&& (1 : Int32)) fun z2 => kf_l (x1 + z2) fun z3 => kf_l (x2 + Int32.ofInt 1) fun z4 => l_X8_bits_4 a0 S n z3 z4) else (x1)
theorem l_X8_bits_4_s (a0 : Int32) (S : kw_S) (n : Nat) (x1 : Int32) (x2 : Int32) : l_X8_bits_4 a0 S (n + 1) x1 x2 = if x2.toInt < (6 : Int32).toInt then (kf_l (a0 >>> (x2 &&& 31)) fun z1 => kf_l (z1 &&& (1 : Int32)) fun z2 => kf_l (x1 + z2) fun z3 => kf_l (x2 + Int32.ofInt 1) fun z4 => l_X8_bits_4 a0 S n z3 z4) else (x1) := rfl
noncomputable def f_X8_bits (σ : kw_S) (s : Int32) : Int32 := l_X8_bits_4 s σ ((7 - (0 : Int32).toInt).toNat + 1) (0 : Int32) (0 : Int32)
theorem f_X8_bits_u (σ : kw_S) (s : Int32) : f_X8_bits σ s = l_X8_bits_4 s σ ((7 - (0 : Int32).toInt).toNat + 1) (0 : Int32) (0 : Int32) := rfl
abbrev p_X8_bits (T : Int) (σ : kw_S) (s : Int32) : Option Value → kw_S → Prop := fun vv σ' => σ' = σ ∧ ∃ r : Int32, vv = some (.int r) ∧ r = f_X8_bits σ s
set_option maxRecDepth 100000 in
set_option maxHeartbeats 4000000 in
theorem c_X8_bits (l : Launch) (T : Int) (hT0 : 0 ≤ T) (hT1 : T ≤ 3000) (σ : kw_S) (hI : kw_I (bM T) σ) (s : Int32) : kw_Met l 1 KM mX8_bits [.int s] σ (p_X8_bits T σ s) := by
  have r_s := kw_rng s
  have hF := (f_X8_bits_u σ s).symm
  have q_0 : (0 : Int32).toInt = 0 := rfl
  have q_1 : (1 : Int32).toInt = 1 := rfl
  have q_6 : (6 : Int32).toInt = 6 := rfl
  refine kw_Met.of (by decide) rfl tX8_bits (Nat.le_of_ble_eq_true rfl) ?_
  show kw_AW l 1 kw_E0 KM mX8_bits (p_X8_bits T σ s) 0 [(0, .int s)] [] σ
  refine kw_iconst (pc := 0) (i := 0) (v := 0) rfl rfl ?_
  refine kw_istore_n (pc := 1) (i := 1) (n := 1) (lv' := [(1, .int 0), (0, .int s)]) rfl rfl (by decide) rfl ?_
  refine kw_iconst (pc := 2) (i := 2) (v := 0) rfl rfl ?_
  refine kw_istore_n (pc := 3) (i := 3) (n := 2) (lv' := [(2, .int 0), (1, .int 0), (0, .int s)]) rfl rfl (by decide) rfl ?_
  have L3 : ∀ (n7 : Nat) (x1 : Int32) (x2 : Int32), 0 ≤ x1.toInt → l_X8_bits_4 s σ n7 x2 x1 = (f_X8_bits σ s) → (7 - x1.toInt).toNat < n7 → kw_AW l 1 kw_E0 KM mX8_bits (p_X8_bits T σ s) 4 [(2, .int x1), (1, .int x2), (0, .int s)] [] σ := by
    intro n7
    induction n7 with
    | zero => intro x1 x2 v5 hF m6; exact absurd m6 (Nat.not_lt_zero _)
    | succ n7 ih4 =>
      intro x1 x2 v5 hF m6
      replace hF := kf_st (l_X8_bits_4_s _ _ _ _ _) hF
      have r_x1 := kw_rng x1
      have r_x2 := kw_rng x2
      refine kw_iload_n (pc := 4) (i := 4) (k := 0) (n := 2) rfl rfl rfl ?_
      refine kw_bipush (pc := 5) (i := 5) (v := 6) rfl rfl ?_
      refine kw_icmp_ge (pc := 7) (i := 6) (tgt := 24) rfl rfl (fun c8 => ?_) (fun c8 => ?_)
      · replace hF := kf_nl c8 hF
        refine kw_iload_n (pc := 24) (i := 17) (k := 1) (n := 1) rfl rfl rfl ?_
        exact kw_ireturn (pc := 25) (i := 18) (ty := .int) rfl rfl rfl ⟨rfl, _, rfl, hF⟩
      · replace hF := kf_p c8 hF
        refine kw_iload_n (pc := 10) (i := 7) (k := 1) (n := 1) rfl rfl rfl ?_
        refine kw_iload_n (pc := 11) (i := 8) (k := 2) (n := 0) rfl rfl rfl ?_
        refine kw_iload_n (pc := 12) (i := 9) (k := 0) (n := 2) rfl rfl rfl ?_
        refine kw_ishr (pc := 13) (i := 10) rfl (fun z9 e_z9 => ?_)
        have r_z9 := kw_rng z9
        replace hF := kf_le e_z9 hF
        refine kw_iconst (pc := 14) (i := 11) (v := 1) rfl rfl ?_
        refine kw_iand (pc := 15) (i := 12) rfl (fun z10 e_z10 => ?_)
        have r_z10 := kw_rng z10
        replace hF := kf_le e_z10 hF
        have t_z10 := kw_andI z9 (1 : Int32) z10 e_z10
        first | (replace t_z10 := t_z10 (by omega) (by omega)) | skip
        refine kw_iadd (pc := 16) (i := 13) rfl (fun z11 e_z11 t_z11 => ?_)
        replace hF := kf_le e_z11 hF
        first | (have u_z11 : z11.toInt = x2.toInt + z10.toInt := (by omega); clear t_z11) | skip
        refine kw_istore_n (pc := 17) (i := 14) (n := 1) (lv' := [(1, .int z11), (2, .int x1), (0, .int s)]) rfl rfl (by decide) rfl ?_
        refine kw_iinc' (pc := 18) (i := 15) (k := 1) (fun z => [(2, .int z), (1, .int z11), (0, .int s)]) rfl rfl (by decide) rfl (fun _ => rfl) (fun z12 e_z12 t_z12 => ?_)
        replace hF := kf_le e_z12 hF
        first | (have u_z12 : z12.toInt = x1.toInt + 1 := (by omega); clear t_z12) | skip
        refine kw_goto (pc := 21) (i := 16) (tgt := 4) rfl rfl ?_
        refine kw_sub (lv' := [(2, .int z12), (1, .int z11), (0, .int s)]) [0, 1, 2] rfl ?_
        exact ih4 z12 z11 (by omega) hF (by omega)
  exact L3 _ 0 0 (by omega) hF (Nat.lt_succ_self _)
