noncomputable def l_X8_askedPulls_0_55 (a1 : Int32) (a2 : Int32) (a3 : Int32) (S : kw_S) : Nat → Int32 → Int32 × kw_S
  | 0, _ => (0, S)
  | n + 1, x4 => kf_l (S.1 2 a2.toNatClampNeg) fun z9 => if x4.toInt < z9.toInt then (kf_l (f_X8_rowAt_0 S a2 x4) fun z10 => kf_l (f_X8_in S z10 (0 : Int32) (6 : Int32)) fun z11 => if z11.toInt = 0 then (kf_b (f_X8_meet_0 S (3 : Int32)) fun z13 S14 => (z13, S14)) else (kf_l (x4 + Int32.ofInt 2) fun z12 => l_X8_askedPulls_0_55 a1 a2 a3 S n z12)) else (((0 : Int32), S))
theorem l_X8_askedPulls_0_55_s (a1 : Int32) (a2 : Int32) (a3 : Int32) (S : kw_S) (n : Nat) (x4 : Int32) : l_X8_askedPulls_0_55 a1 a2 a3 S (n + 1) x4 = kf_l (S.1 2 a2.toNatClampNeg) fun z9 => if x4.toInt < z9.toInt then (kf_l (f_X8_rowAt_0 S a2 x4) fun z10 => kf_l (f_X8_in S z10 (0 : Int32) (6 : Int32)) fun z11 => if z11.toInt = 0 then (kf_b (f_X8_meet_0 S (3 : Int32)) fun z13 S14 => (z13, S14)) else (kf_l (x4 + Int32.ofInt 2) fun z12 => l_X8_askedPulls_0_55 a1 a2 a3 S n z12)) else (((0 : Int32), S)) := rfl
noncomputable def f_X8_askedPulls_0 (σ : kw_S) (i : Int32) (a : Int32) : Int32 × kw_S := kf_l (f_X8_isLine_0 σ i) fun z1 => if z1.toInt = 0 then (if ((-1) : Int32).toInt < 0 then ((((-1) : Int32), σ)) else ((0, σ))) else (kf_b (f_X8_askedRow_0 σ a) fun z2 S3 => if z2.toInt < 0 then ((z2, S3)) else (kf_l (S3.1 2 a.toNatClampNeg) fun z4 => kf_l (z4 - z4 / (2 : Int32) * (2 : Int32)) fun z5 => if z5.toInt = 0 then (kf_l (S3.1 2 a.toNatClampNeg) fun z8 => if (20 : Int32).toInt < z8.toInt then (kf_b (f_X8_meet_0 S3 (5 : Int32)) fun z15 S16 => (z15, S16)) else (l_X8_askedPulls_0_55 i a z2 S3 ((41 - (0 : Int32).toInt).toNat + 1) (0 : Int32))) else (kf_b (f_X8_meet_0 S3 (5 : Int32)) fun z6 S7 => (z6, S7))))
theorem f_X8_askedPulls_0_u (σ : kw_S) (i : Int32) (a : Int32) : f_X8_askedPulls_0 σ i a = kf_l (f_X8_isLine_0 σ i) fun z1 => if z1.toInt = 0 then (if ((-1) : Int32).toInt < 0 then ((((-1) : Int32), σ)) else ((0, σ))) else (kf_b (f_X8_askedRow_0 σ a) fun z2 S3 => if z2.toInt < 0 then ((z2, S3)) else (kf_l (S3.1 2 a.toNatClampNeg) fun z4 => kf_l (z4 - z4 / (2 : Int32) * (2 : Int32)) fun z5 => if z5.toInt = 0 then (kf_l (S3.1 2 a.toNatClampNeg) fun z8 => if (20 : Int32).toInt < z8.toInt then (kf_b (f_X8_meet_0 S3 (5 : Int32)) fun z15 S16 => (z15, S16)) else (l_X8_askedPulls_0_55 i a z2 S3 ((41 - (0 : Int32).toInt).toNat + 1) (0 : Int32))) else (kf_b (f_X8_meet_0 S3 (5 : Int32)) fun z6 S7 => (z6, S7)))) := rfl
abbrev p_X8_askedPulls_0 (T : Int) (σ : kw_S) (i : Int32) (a : Int32) : Option Value → kw_S → Prop := fun vv σ' => (kw_I (bM T) σ' ∧ kw_FM [1, 1000] σ σ') ∧ ∃ r : Int32, vv = some (.int r) ∧ (r.toInt < 0 ∨ 0 ≤ i.toInt ∧ i.toInt ≤ 5 ∧ 0 ≤ a.toInt ∧ a.toInt ≤ 5 ∧ (σ'.1 2 a.toNatClampNeg).toInt ≤ 20) ∧ (r, σ') = f_X8_askedPulls_0 σ i a
set_option maxRecDepth 100000 in
set_option maxHeartbeats 4000000 in
theorem c_X8_askedPulls_0 (l : Launch) (T : Int) (hT0 : 0 ≤ T) (hT1 : T ≤ 3000) (σ : kw_S) (hI : kw_I (bM T) σ) (i : Int32) (a : Int32) : kw_Met l 4 KM mX8_askedPulls [.ref 0, .int i, .int a] σ (p_X8_askedPulls_0 T σ i a) := by
  have r_i := kw_rng i
  have r_a := kw_rng a
  have hF0 : kw_FM [1, 1000] σ σ := kw_FM.rf
  have hF := (f_X8_askedPulls_0_u σ i a).symm
  have q_m1 : (-1 : Int32).toInt = -1 := rfl
  have q_0 : (0 : Int32).toInt = 0 := rfl
  have q_2 : (2 : Int32).toInt = 2 := rfl
  have q_3 : (3 : Int32).toInt = 3 := rfl
  have q_5 : (5 : Int32).toInt = 5 := rfl
  have q_6 : (6 : Int32).toInt = 6 := rfl
  have q_20 : (20 : Int32).toInt = 20 := rfl
  refine kw_Met.of (by decide) rfl tX8_askedPulls (Nat.le_of_ble_eq_true rfl) ?_
  show kw_AW l 4 kw_E0 KM mX8_askedPulls (p_X8_askedPulls_0 T σ i a) 0 [(0, .ref 0), (1, .int i), (2, .int a)] [] σ
  refine kw_aload_n (pc := 0) (i := 0) (k := 0) (n := 0) rfl rfl rfl ?_
  refine kw_iload_n (pc := 1) (i := 1) (k := 1) (n := 1) rfl rfl rfl ?_
  refine kw_callV (pc := 2) (i := 2) (Y := mX8_isLine) (a := 0) (As := [.int i]) (st := []) kw_hE rfl rfl lvX8_211 arX8_isLine (c_X8_isLine_0 l T hT0 hT1 σ hI i ) (by decide) (Nat.le_of_ble_eq_true rfl) rfl (fun v S2 p1 => ?_)
  obtain ⟨e7, z6, rfl, f3, f4, ef5⟩ := p1
  rw [e7]
  replace hF := kf_le ef5 hF
  have f4 : (z6.toInt = 0 ∨ 0 ≤ i.toInt ∧ i.toInt < (σ.1 0 10).toInt ∧ i.toInt ≤ 5) := f4
  have r_z6 := kw_rng z6
  show kw_AW l 4 kw_E0 KM mX8_askedPulls (p_X8_askedPulls_0 T σ i a) 5 [(0, .ref 0), (1, .int i), (2, .int a)] [.int z6] σ
  refine kw_if_ne (pc := 5) (i := 3) (tgt := 12) rfl rfl (fun c8 => ?_) (fun c8 => ?_)
  · replace hF := kf_n c8 hF
    refine kw_aload_n (pc := 12) (i := 6) (k := 0) (n := 0) rfl rfl rfl ?_
    refine kw_iload_n (pc := 13) (i := 7) (k := 2) (n := 2) rfl rfl rfl ?_
    refine kw_callV (pc := 14) (i := 8) (Y := mX8_askedRow) (a := 0) (As := [.int a]) (st := []) kw_hE rfl rfl lvX8_112 arX8_askedRow (c_X8_askedRow_0 l T hT0 hT1 σ hI a ) (by decide) (Nat.le_of_ble_eq_true rfl) rfl (fun v S10 p9 => ?_)
    obtain ⟨⟨I14, F15⟩, z13, rfl, f11, ef12⟩ := p9
    have F16 : kw_FM [1, 1000] σ S10 := kw_FM.tr hF0 F15 (by decide)
    have w_17 : (S10.1 0 27).toInt = (σ.1 0 27).toInt := congrArg Int32.toInt (kw_FM.at0 (j := 27) F15 (by decide))
    replace hF := kf_be ef12 hF
    have r_z13 := kw_rng z13
    show kw_AW l 4 kw_E0 KM mX8_askedPulls (p_X8_askedPulls_0 T σ i a) 17 [(0, .ref 0), (1, .int i), (2, .int a)] [.int z13] S10
    refine kw_istore_n (pc := 17) (i := 9) (n := 3) (lv' := [(3, .int z13), (0, .ref 0), (1, .int i), (2, .int a)]) rfl rfl (by decide) rfl ?_
    refine kw_iload_n (pc := 18) (i := 10) (k := 0) (n := 3) rfl rfl rfl ?_
    refine kw_if_ge (pc := 19) (i := 11) (tgt := 24) rfl rfl (fun c18 => ?_) (fun c18 => ?_)
    · replace hF := kf_nl c18 hF
      refine kw_aload_n (pc := 24) (i := 14) (k := 1) (n := 0) rfl rfl rfl ?_
      refine kw_get (pc := 25) (i := 15) (v := .ref 2) rfl rfl rfl lkX8_17 (fun _ => rfl) ?_
      refine kw_iload_n (pc := 28) (i := 16) (k := 3) (n := 2) rfl rfl rfl ?_
      refine kw_iald (pc := 29) (i := 17) (n := 6) rfl rfl (by omega) (by omega) (fun z19 e_z19 => ?_)
      replace hF := kf_le e_z19 hF
      have t_z19 := congrArg Int32.toInt e_z19
      have b_z19 : -9 ≤ z19.toInt ∧ z19.toInt ≤ 40 := by rw [e_z19]; exact I14 2 _
      refine kw_iconst (pc := 30) (i := 18) (v := 2) rfl rfl ?_
      refine kw_irem (pc := 31) (i := 19) rfl (by omega) (fun z20 e_z20 => ?_)
      have r_z20 := kw_rng z20
      replace hF := kf_le e_z20 hF
      have t_z20 := kw_remI z19 2 z20 e_z20
      refine kw_if_ne (pc := 32) (i := 20) (tgt := 46) rfl rfl (fun c21 => ?_) (fun c21 => ?_)
      · replace hF := kf_n c21 hF
        refine kw_aload_n (pc := 46) (i := 27) (k := 1) (n := 0) rfl rfl rfl ?_
        refine kw_iconst (pc := 47) (i := 28) (v := 5) rfl rfl ?_
        refine kw_callV (pc := 48) (i := 29) (Y := mX8_meet) (a := 0) (As := [.int 5]) (st := []) kw_hE rfl rfl lvX8_101 arX8_meet (c_X8_meet_0 l T hT0 hT1 S10 I14 5 (by first | omega | decide) (by first | omega | decide)) (by decide) (Nat.le_of_ble_eq_true rfl) rfl (fun v S23 p22 => ?_)
        obtain ⟨⟨I27, F28⟩, z26, rfl, f24, ef25⟩ := p22
        have F29 : kw_FM [1, 1000] σ S23 := kw_FM.tr F16 F28 (by decide)
        have w_30 : (S23.1 0 27).toInt = (S10.1 0 27).toInt := congrArg Int32.toInt (kw_FM.at0 (j := 27) F28 (by decide))
        replace hF := kf_be ef25 hF
        have r_z26 := kw_rng z26
        show kw_AW l 4 kw_E0 KM mX8_askedPulls (p_X8_askedPulls_0 T σ i a) 51 [(3, .int z13), (0, .ref 0), (1, .int i), (2, .int a)] [.int z26] S23
        exact kw_ireturn (pc := 51) (i := 30) (ty := .int) rfl rfl rfl ⟨⟨I27, F29⟩, _, rfl, by omega, hF⟩
      · replace hF := kf_p c21 hF
        refine kw_aload_n (pc := 35) (i := 21) (k := 1) (n := 0) rfl rfl rfl ?_
        refine kw_get (pc := 36) (i := 22) (v := .ref 2) rfl rfl rfl lkX8_17 (fun _ => rfl) ?_
        refine kw_iload_n (pc := 39) (i := 23) (k := 3) (n := 2) rfl rfl rfl ?_
        refine kw_iald (pc := 40) (i := 24) (n := 6) rfl rfl (by omega) (by omega) (fun z31 e_z31 => ?_)
        replace hF := kf_le e_z31 hF
        have t_z31 := congrArg Int32.toInt e_z31
        have b_z31 : -9 ≤ z31.toInt ∧ z31.toInt ≤ 40 := by rw [e_z31]; exact I14 2 _
        refine kw_bipush (pc := 41) (i := 25) (v := 20) rfl rfl ?_
        refine kw_icmp_le (pc := 43) (i := 26) (tgt := 52) rfl rfl (fun c32 => ?_) (fun c32 => ?_)
        · replace hF := kf_nl c32 hF
          refine kw_iconst (pc := 52) (i := 31) (v := 0) rfl rfl ?_
          refine kw_istore (pc := 53) (i := 32) (n := 4) (lv' := [(4, .int 0), (3, .int z13), (0, .ref 0), (1, .int i), (2, .int a)]) rfl (by decide) rfl ?_
          have L34 : ∀ (n38 : Nat) (x33 : Int32), 0 ≤ x33.toInt → l_X8_askedPulls_0_55 i a z13 S10 n38 x33 = (f_X8_askedPulls_0 σ i a) → (41 - x33.toInt).toNat < n38 → kw_AW l 4 kw_E0 KM mX8_askedPulls (p_X8_askedPulls_0 T σ i a) 55 [(4, .int x33), (3, .int z13), (0, .ref 0), (1, .int i), (2, .int a)] [] S10 := by
            intro n38
            induction n38 with
            | zero => intro x33 v36 hF m37; exact absurd m37 (Nat.not_lt_zero _)
            | succ n38 ih35 =>
              intro x33 v36 hF m37
              replace hF := kf_st (l_X8_askedPulls_0_55_s _ _ _ _ _ _) hF
              have r_x33 := kw_rng x33
              refine kw_iload (pc := 55) (i := 33) (k := 0) (n := 4) rfl rfl ?_
              refine kw_aload_n (pc := 57) (i := 34) (k := 2) (n := 0) rfl rfl rfl ?_
              refine kw_get (pc := 58) (i := 35) (v := .ref 2) rfl rfl rfl lkX8_17 (fun _ => rfl) ?_
              refine kw_iload_n (pc := 61) (i := 36) (k := 4) (n := 2) rfl rfl rfl ?_
              refine kw_iald (pc := 62) (i := 37) (n := 6) rfl rfl (by omega) (by omega) (fun z39 e_z39 => ?_)
              replace hF := kf_le e_z39 hF
              have t_z39 := congrArg Int32.toInt e_z39
              have b_z39 : -9 ≤ z39.toInt ∧ z39.toInt ≤ 40 := by rw [e_z39]; exact I14 2 _
              refine kw_icmp_ge (pc := 63) (i := 38) (tgt := 94) rfl rfl (fun c40 => ?_) (fun c40 => ?_)
              · replace hF := kf_nl c40 hF
                refine kw_iconst (pc := 94) (i := 53) (v := 0) rfl rfl ?_
                exact kw_ireturn (pc := 95) (i := 54) (ty := .int) rfl rfl rfl ⟨⟨I14, F16⟩, _, rfl, by omega, hF⟩
              · replace hF := kf_p c40 hF
                refine kw_aload_n (pc := 66) (i := 39) (k := 2) (n := 0) rfl rfl rfl ?_
                refine kw_iload_n (pc := 67) (i := 40) (k := 4) (n := 2) rfl rfl rfl ?_
                refine kw_iload (pc := 68) (i := 41) (k := 0) (n := 4) rfl rfl ?_
                refine kw_callV (pc := 70) (i := 42) (Y := mX8_rowAt) (a := 0) (As := [.int a, .int x33]) (st := []) kw_hE rfl rfl lvX8_115 arX8_rowAt (c_X8_rowAt_0 l T hT0 hT1 S10 I14 a x33 (by first | omega | decide) (by first | omega | decide) (by first | omega | decide) (by first | omega | decide)) (by decide) (Nat.le_of_ble_eq_true rfl) rfl (fun v S42 p41 => ?_)
                obtain ⟨e45, z44, rfl, ef43⟩ := p41
                rw [e45]
                replace hF := kf_le ef43 hF
                have r_z44 := kw_rng z44
                show kw_AW l 4 kw_E0 KM mX8_askedPulls (p_X8_askedPulls_0 T σ i a) 73 [(4, .int x33), (3, .int z13), (0, .ref 0), (1, .int i), (2, .int a)] [.int z44] S10
                refine kw_iconst (pc := 73) (i := 43) (v := 0) rfl rfl ?_
                refine kw_bipush (pc := 74) (i := 44) (v := 6) rfl rfl ?_
                refine kw_callS (pc := 76) (i := 45) (Y := mX8_in) (As := [.int z44, .int 0, .int 6]) (st := []) kw_hE rfl lsX8_93 arX8_in (c_X8_in l T hT0 hT1 S10 I14 z44 0 6 ) (by decide) (Nat.le_of_ble_eq_true rfl) rfl (fun v S47 p46 => ?_)
                obtain ⟨e53, z52, rfl, f48, f49, f50, ef51⟩ := p46
                rw [e53]
                replace hF := kf_le ef51 hF
                have r_z52 := kw_rng z52
                show kw_AW l 4 kw_E0 KM mX8_askedPulls (p_X8_askedPulls_0 T σ i a) 79 [(4, .int x33), (3, .int z13), (0, .ref 0), (1, .int i), (2, .int a)] [.int z52] S10
                refine kw_if_ne (pc := 79) (i := 46) (tgt := 88) rfl rfl (fun c54 => ?_) (fun c54 => ?_)
                · replace hF := kf_n c54 hF
                  refine kw_iinc' (pc := 88) (i := 51) (k := 0) (fun z => [(4, .int z), (3, .int z13), (0, .ref 0), (1, .int i), (2, .int a)]) rfl rfl (by decide) rfl (fun _ => rfl) (fun z55 e_z55 t_z55 => ?_)
                  replace hF := kf_le e_z55 hF
                  first | (have u_z55 : z55.toInt = x33.toInt + 2 := (by omega); clear t_z55) | skip
                  refine kw_goto (pc := 91) (i := 52) (tgt := 55) rfl rfl ?_
                  refine kw_sub (lv' := [(4, .int z55), (3, .int z13), (0, .ref 0), (1, .int i), (2, .int a)]) [0, 1, 2, 3, 4] rfl ?_
                  exact ih35 z55 (by omega) hF (by omega)
                · replace hF := kf_p c54 hF
                  refine kw_aload_n (pc := 82) (i := 47) (k := 2) (n := 0) rfl rfl rfl ?_
                  refine kw_iconst (pc := 83) (i := 48) (v := 3) rfl rfl ?_
                  refine kw_callV (pc := 84) (i := 49) (Y := mX8_meet) (a := 0) (As := [.int 3]) (st := []) kw_hE rfl rfl lvX8_101 arX8_meet (c_X8_meet_0 l T hT0 hT1 S10 I14 3 (by first | omega | decide) (by first | omega | decide)) (by decide) (Nat.le_of_ble_eq_true rfl) rfl (fun v S57 p56 => ?_)
                  obtain ⟨⟨I61, F62⟩, z60, rfl, f58, ef59⟩ := p56
                  have F63 : kw_FM [1, 1000] σ S57 := kw_FM.tr F16 F62 (by decide)
                  have w_64 : (S57.1 0 27).toInt = (S10.1 0 27).toInt := congrArg Int32.toInt (kw_FM.at0 (j := 27) F62 (by decide))
                  replace hF := kf_be ef59 hF
                  have r_z60 := kw_rng z60
                  show kw_AW l 4 kw_E0 KM mX8_askedPulls (p_X8_askedPulls_0 T σ i a) 87 [(4, .int x33), (3, .int z13), (0, .ref 0), (1, .int i), (2, .int a)] [.int z60] S57
                  exact kw_ireturn (pc := 87) (i := 50) (ty := .int) rfl rfl rfl ⟨⟨I61, F63⟩, _, rfl, by omega, hF⟩
          exact L34 _ 0 (by omega) hF (Nat.lt_succ_self _)
        · replace hF := kf_p c32 hF
          refine kw_aload_n (pc := 46) (i := 27) (k := 1) (n := 0) rfl rfl rfl ?_
          refine kw_iconst (pc := 47) (i := 28) (v := 5) rfl rfl ?_
          refine kw_callV (pc := 48) (i := 29) (Y := mX8_meet) (a := 0) (As := [.int 5]) (st := []) kw_hE rfl rfl lvX8_101 arX8_meet (c_X8_meet_0 l T hT0 hT1 S10 I14 5 (by first | omega | decide) (by first | omega | decide)) (by decide) (Nat.le_of_ble_eq_true rfl) rfl (fun v S66 p65 => ?_)
          obtain ⟨⟨I70, F71⟩, z69, rfl, f67, ef68⟩ := p65
          have F72 : kw_FM [1, 1000] σ S66 := kw_FM.tr F16 F71 (by decide)
          have w_73 : (S66.1 0 27).toInt = (S10.1 0 27).toInt := congrArg Int32.toInt (kw_FM.at0 (j := 27) F71 (by decide))
          replace hF := kf_be ef68 hF
          have r_z69 := kw_rng z69
          show kw_AW l 4 kw_E0 KM mX8_askedPulls (p_X8_askedPulls_0 T σ i a) 51 [(3, .int z13), (0, .ref 0), (1, .int i), (2, .int a)] [.int z69] S66
          exact kw_ireturn (pc := 51) (i := 30) (ty := .int) rfl rfl rfl ⟨⟨I70, F72⟩, _, rfl, by omega, hF⟩
    · replace hF := kf_p c18 hF
      refine kw_iload_n (pc := 22) (i := 12) (k := 0) (n := 3) rfl rfl rfl ?_
      exact kw_ireturn (pc := 23) (i := 13) (ty := .int) rfl rfl rfl ⟨⟨I14, F16⟩, _, rfl, by omega, hF⟩
  · replace hF := kf_p c8 hF
    refine kw_iconst (pc := 8) (i := 4) (v := (-1)) rfl rfl ?_
    refine kw_goto (pc := 9) (i := 5) (tgt := 17) rfl rfl ?_
    refine kw_istore_n (pc := 17) (i := 9) (n := 3) (lv' := [(3, .int (-1)), (0, .ref 0), (1, .int i), (2, .int a)]) rfl rfl (by decide) rfl ?_
    refine kw_iload_n (pc := 18) (i := 10) (k := 0) (n := 3) rfl rfl rfl ?_
    refine kw_if_ge (pc := 19) (i := 11) (tgt := 24) rfl rfl (fun c74 => ?_) (fun c74 => ?_)
    · exfalso; omega
    · replace hF := kf_p c74 hF
      refine kw_iload_n (pc := 22) (i := 12) (k := 0) (n := 3) rfl rfl rfl ?_
      exact kw_ireturn (pc := 23) (i := 13) (ty := .int) rfl rfl rfl ⟨⟨hI, hF0⟩, _, rfl, by omega, hF⟩
noncomputable def l_X8_pullsSo_0_6 (a1 : Int32) (a2 : Int32) (a3 : Int32) (S : kw_S) : Nat → Int32 → Int32 → Int32
  | 0, _, _ => 0
  | n + 1, x4, x5 => kf_l (S.1 2 a3.toNatClampNeg) fun z1 => if x5.toInt < z1.toInt then (if x4.toInt = 0 then (kf_l (x5 + Int32.ofInt 2) fun z2 => l_X8_pullsSo_0_6 a1 a2 a3 S n (0 : Int32) z2) else (kf_l (f_X8_rowAt_0 S a3 x5) fun z3 => kf_l (f_X8_pullBy S a1 a2 z3) fun z4 => kf_l (x5 + (1 : Int32)) fun z5 => kf_l (f_X8_rowAt_0 S a3 z5) fun z6 => if z4.toInt = z6.toInt then (kf_l (x5 + Int32.ofInt 2) fun z8 => l_X8_pullsSo_0_6 a1 a2 a3 S n (1 : Int32) z8) else (kf_l (x5 + Int32.ofInt 2) fun z7 => l_X8_pullsSo_0_6 a1 a2 a3 S n (0 : Int32) z7))) else (x4)
theorem l_X8_pullsSo_0_6_s (a1 : Int32) (a2 : Int32) (a3 : Int32) (S : kw_S) (n : Nat) (x4 : Int32) (x5 : Int32) : l_X8_pullsSo_0_6 a1 a2 a3 S (n + 1) x4 x5 = kf_l (S.1 2 a3.toNatClampNeg) fun z1 => if x5.toInt < z1.toInt then (if x4.toInt = 0 then (kf_l (x5 + Int32.ofInt 2) fun z2 => l_X8_pullsSo_0_6 a1 a2 a3 S n (0 : Int32) z2) else (kf_l (f_X8_rowAt_0 S a3 x5) fun z3 => kf_l (f_X8_pullBy S a1 a2 z3) fun z4 => kf_l (x5 + (1 : Int32)) fun z5 => kf_l (f_X8_rowAt_0 S a3 z5) fun z6 => if z4.toInt = z6.toInt then (kf_l (x5 + Int32.ofInt 2) fun z8 => l_X8_pullsSo_0_6 a1 a2 a3 S n (1 : Int32) z8) else (kf_l (x5 + Int32.ofInt 2) fun z7 => l_X8_pullsSo_0_6 a1 a2 a3 S n (0 : Int32) z7))) else (x4) := rfl
noncomputable def f_X8_pullsSo_0 (σ : kw_S) (kind : Int32) (area : Int32) (a : Int32) : Int32 := l_X8_pullsSo_0_6 kind area a σ ((41 - (0 : Int32).toInt).toNat + 1) (1 : Int32) (0 : Int32)
theorem f_X8_pullsSo_0_u (σ : kw_S) (kind : Int32) (area : Int32) (a : Int32) : f_X8_pullsSo_0 σ kind area a = l_X8_pullsSo_0_6 kind area a σ ((41 - (0 : Int32).toInt).toNat + 1) (1 : Int32) (0 : Int32) := rfl
abbrev p_X8_pullsSo_0 (T : Int) (σ : kw_S) (kind : Int32) (area : Int32) (a : Int32) : Option Value → kw_S → Prop := fun vv σ' => σ' = σ ∧ ∃ r : Int32, vv = some (.int r) ∧ (r.toInt = 0 ∨ r.toInt = 1) ∧ r = f_X8_pullsSo_0 σ kind area a
set_option maxRecDepth 100000 in
set_option maxHeartbeats 4000000 in
theorem c_X8_pullsSo_0 (l : Launch) (T : Int) (hT0 : 0 ≤ T) (hT1 : T ≤ 3000) (σ : kw_S) (hI : kw_I (bM T) σ) (kind : Int32) (area : Int32) (a : Int32) (hp0 : 0 ≤ a.toInt) (hp1 : a.toInt ≤ 5) (hp2 : (σ.1 2 a.toNatClampNeg).toInt ≤ 20) : kw_Met l 2 KM mX8_pullsSo [.ref 0, .int kind, .int area, .int a] σ (p_X8_pullsSo_0 T σ kind area a) := by
  have r_kind := kw_rng kind
  have r_area := kw_rng area
  have r_a := kw_rng a
  have hF := (f_X8_pullsSo_0_u σ kind area a).symm
  have q_0 : (0 : Int32).toInt = 0 := rfl
  have q_1 : (1 : Int32).toInt = 1 := rfl
  refine kw_Met.of (by decide) rfl tX8_pullsSo (Nat.le_of_ble_eq_true rfl) ?_
  show kw_AW l 2 kw_E0 KM mX8_pullsSo (p_X8_pullsSo_0 T σ kind area a) 0 [(0, .ref 0), (1, .int kind), (2, .int area), (3, .int a)] [] σ
  refine kw_iconst (pc := 0) (i := 0) (v := 1) rfl rfl ?_
  refine kw_istore (pc := 1) (i := 1) (n := 4) (lv' := [(4, .int 1), (0, .ref 0), (1, .int kind), (2, .int area), (3, .int a)]) rfl (by decide) rfl ?_
  refine kw_iconst (pc := 3) (i := 2) (v := 0) rfl rfl ?_
  refine kw_istore (pc := 4) (i := 3) (n := 5) (lv' := [(5, .int 0), (4, .int 1), (0, .ref 0), (1, .int kind), (2, .int area), (3, .int a)]) rfl (by decide) rfl ?_
  have L3 : ∀ (n8 : Nat) (x1 : Int32) (x2 : Int32), (x2.toInt = 0 ∨ x2.toInt = 1) → 0 ≤ x1.toInt → l_X8_pullsSo_0_6 kind area a σ n8 x2 x1 = (f_X8_pullsSo_0 σ kind area a) → (41 - x1.toInt).toNat < n8 → kw_AW l 2 kw_E0 KM mX8_pullsSo (p_X8_pullsSo_0 T σ kind area a) 6 [(5, .int x1), (4, .int x2), (0, .ref 0), (1, .int kind), (2, .int area), (3, .int a)] [] σ := by
    intro n8
    induction n8 with
    | zero => intro x1 x2 v5 v6 hF m7; exact absurd m7 (Nat.not_lt_zero _)
    | succ n8 ih4 =>
      intro x1 x2 v5 v6 hF m7
      replace hF := kf_st (l_X8_pullsSo_0_6_s _ _ _ _ _ _ _) hF
      have r_x1 := kw_rng x1
      have r_x2 := kw_rng x2
      refine kw_iload (pc := 6) (i := 4) (k := 0) (n := 5) rfl rfl ?_
      refine kw_aload_n (pc := 8) (i := 5) (k := 2) (n := 0) rfl rfl rfl ?_
      refine kw_get (pc := 9) (i := 6) (v := .ref 2) rfl rfl rfl lkX8_17 (fun _ => rfl) ?_
      refine kw_iload_n (pc := 12) (i := 7) (k := 5) (n := 3) rfl rfl rfl ?_
      refine kw_iald (pc := 13) (i := 8) (n := 6) rfl rfl (by omega) (by omega) (fun z9 e_z9 => ?_)
      replace hF := kf_le e_z9 hF
      have t_z9 := congrArg Int32.toInt e_z9
      have b_z9 : -9 ≤ z9.toInt ∧ z9.toInt ≤ 40 := by rw [e_z9]; exact hI 2 _
      refine kw_icmp_ge (pc := 14) (i := 9) (tgt := 59) rfl rfl (fun c10 => ?_) (fun c10 => ?_)
      · replace hF := kf_nl c10 hF
        refine kw_iload (pc := 59) (i := 32) (k := 1) (n := 4) rfl rfl ?_
        exact kw_ireturn (pc := 61) (i := 33) (ty := .boolean) rfl rfl (kw_nb (by omega)) ⟨rfl, _, rfl, by omega, hF⟩
      · replace hF := kf_p c10 hF
        refine kw_iload (pc := 17) (i := 10) (k := 1) (n := 4) rfl rfl ?_
        refine kw_if_eq (pc := 19) (i := 11) (tgt := 50) rfl rfl (fun c11 => ?_) (fun c11 => ?_)
        · replace hF := kf_p c11 hF
          refine kw_iconst (pc := 50) (i := 28) (v := 0) rfl rfl ?_
          refine kw_istore (pc := 51) (i := 29) (n := 4) (lv' := [(4, .int 0), (5, .int x1), (0, .ref 0), (1, .int kind), (2, .int area), (3, .int a)]) rfl (by decide) rfl ?_
          refine kw_iinc' (pc := 53) (i := 30) (k := 1) (fun z => [(5, .int z), (4, .int 0), (0, .ref 0), (1, .int kind), (2, .int area), (3, .int a)]) rfl rfl (by decide) rfl (fun _ => rfl) (fun z12 e_z12 t_z12 => ?_)
          replace hF := kf_le e_z12 hF
          first | (have u_z12 : z12.toInt = x1.toInt + 2 := (by omega); clear t_z12) | skip
          refine kw_goto (pc := 56) (i := 31) (tgt := 6) rfl rfl ?_
          refine kw_sub (lv' := [(5, .int z12), (4, .int 0), (0, .ref 0), (1, .int kind), (2, .int area), (3, .int a)]) [0, 1, 2, 3, 4, 5] rfl ?_
          exact ih4 z12 0 (by omega) (by omega) hF (by omega)
        · replace hF := kf_n c11 hF
          refine kw_iload_n (pc := 22) (i := 12) (k := 3) (n := 1) rfl rfl rfl ?_
          refine kw_iload_n (pc := 23) (i := 13) (k := 4) (n := 2) rfl rfl rfl ?_
          refine kw_aload_n (pc := 24) (i := 14) (k := 2) (n := 0) rfl rfl rfl ?_
          refine kw_iload_n (pc := 25) (i := 15) (k := 5) (n := 3) rfl rfl rfl ?_
          refine kw_iload (pc := 26) (i := 16) (k := 0) (n := 5) rfl rfl ?_
          refine kw_callV (pc := 28) (i := 17) (Y := mX8_rowAt) (a := 0) (As := [.int a, .int x1]) (st := [.int area, .int kind]) kw_hE rfl rfl lvX8_115 arX8_rowAt (c_X8_rowAt_0 l T hT0 hT1 σ hI a x1 (by first | omega | decide) (by first | omega | decide) (by first | omega | decide) (by first | omega | decide)) (by decide) (Nat.le_of_ble_eq_true rfl) rfl (fun v S14 p13 => ?_)
          obtain ⟨e17, z16, rfl, ef15⟩ := p13
          rw [e17]
          replace hF := kf_le ef15 hF
          have r_z16 := kw_rng z16
          show kw_AW l 2 kw_E0 KM mX8_pullsSo (p_X8_pullsSo_0 T σ kind area a) 31 [(5, .int x1), (4, .int x2), (0, .ref 0), (1, .int kind), (2, .int area), (3, .int a)] [.int z16, .int area, .int kind] σ
          refine kw_callS (pc := 31) (i := 18) (Y := mX8_pullBy) (As := [.int kind, .int area, .int z16]) (st := []) kw_hE rfl lsX8_181 arX8_pullBy (c_X8_pullBy l T hT0 hT1 σ hI kind area z16 ) (by decide) (Nat.le_of_ble_eq_true rfl) rfl (fun v S19 p18 => ?_)
          obtain ⟨e22, z21, rfl, ef20⟩ := p18
          rw [e22]
          replace hF := kf_le ef20 hF
          have r_z21 := kw_rng z21
          show kw_AW l 2 kw_E0 KM mX8_pullsSo (p_X8_pullsSo_0 T σ kind area a) 34 [(5, .int x1), (4, .int x2), (0, .ref 0), (1, .int kind), (2, .int area), (3, .int a)] [.int z21] σ
          refine kw_aload_n (pc := 34) (i := 19) (k := 2) (n := 0) rfl rfl rfl ?_
          refine kw_iload_n (pc := 35) (i := 20) (k := 5) (n := 3) rfl rfl rfl ?_
          refine kw_iload (pc := 36) (i := 21) (k := 0) (n := 5) rfl rfl ?_
          refine kw_iconst (pc := 38) (i := 22) (v := 1) rfl rfl ?_
          refine kw_iadd (pc := 39) (i := 23) rfl (fun z23 e_z23 t_z23 => ?_)
          replace hF := kf_le e_z23 hF
          first | (have u_z23 : z23.toInt = x1.toInt + 1 := (by omega); clear t_z23) | skip
          refine kw_callV (pc := 40) (i := 24) (Y := mX8_rowAt) (a := 0) (As := [.int a, .int z23]) (st := [.int z21]) kw_hE rfl rfl lvX8_115 arX8_rowAt (c_X8_rowAt_0 l T hT0 hT1 σ hI a z23 (by first | omega | decide) (by first | omega | decide) (by first | omega | decide) (by first | omega | decide)) (by decide) (Nat.le_of_ble_eq_true rfl) rfl (fun v S25 p24 => ?_)
          obtain ⟨e28, z27, rfl, ef26⟩ := p24
          rw [e28]
          replace hF := kf_le ef26 hF
          have r_z27 := kw_rng z27
          show kw_AW l 2 kw_E0 KM mX8_pullsSo (p_X8_pullsSo_0 T σ kind area a) 43 [(5, .int x1), (4, .int x2), (0, .ref 0), (1, .int kind), (2, .int area), (3, .int a)] [.int z27, .int z21] σ
          refine kw_icmp_ne (pc := 43) (i := 25) (tgt := 50) rfl rfl (fun c29 => ?_) (fun c29 => ?_)
          · replace hF := kf_n c29 hF
            refine kw_iconst (pc := 50) (i := 28) (v := 0) rfl rfl ?_
            refine kw_istore (pc := 51) (i := 29) (n := 4) (lv' := [(4, .int 0), (5, .int x1), (0, .ref 0), (1, .int kind), (2, .int area), (3, .int a)]) rfl (by decide) rfl ?_
            refine kw_iinc' (pc := 53) (i := 30) (k := 1) (fun z => [(5, .int z), (4, .int 0), (0, .ref 0), (1, .int kind), (2, .int area), (3, .int a)]) rfl rfl (by decide) rfl (fun _ => rfl) (fun z30 e_z30 t_z30 => ?_)
            replace hF := kf_le e_z30 hF
            first | (have u_z30 : z30.toInt = x1.toInt + 2 := (by omega); clear t_z30) | skip
            refine kw_goto (pc := 56) (i := 31) (tgt := 6) rfl rfl ?_
            refine kw_sub (lv' := [(5, .int z30), (4, .int 0), (0, .ref 0), (1, .int kind), (2, .int area), (3, .int a)]) [0, 1, 2, 3, 4, 5] rfl ?_
            exact ih4 z30 0 (by omega) (by omega) hF (by omega)
          · replace hF := kf_p c29 hF
            refine kw_iconst (pc := 46) (i := 26) (v := 1) rfl rfl ?_
            refine kw_goto (pc := 47) (i := 27) (tgt := 51) rfl rfl ?_
            refine kw_istore (pc := 51) (i := 29) (n := 4) (lv' := [(4, .int 1), (5, .int x1), (0, .ref 0), (1, .int kind), (2, .int area), (3, .int a)]) rfl (by decide) rfl ?_
            refine kw_iinc' (pc := 53) (i := 30) (k := 1) (fun z => [(5, .int z), (4, .int 1), (0, .ref 0), (1, .int kind), (2, .int area), (3, .int a)]) rfl rfl (by decide) rfl (fun _ => rfl) (fun z31 e_z31 t_z31 => ?_)
            replace hF := kf_le e_z31 hF
            first | (have u_z31 : z31.toInt = x1.toInt + 2 := (by omega); clear t_z31) | skip
            refine kw_goto (pc := 56) (i := 31) (tgt := 6) rfl rfl ?_
            refine kw_sub (lv' := [(5, .int z31), (4, .int 1), (0, .ref 0), (1, .int kind), (2, .int area), (3, .int a)]) [0, 1, 2, 3, 4, 5] rfl ?_
            exact ih4 z31 1 (by omega) (by omega) hF (by omega)
  exact L3 _ 0 1 (by omega) (by omega) hF (Nat.lt_succ_self _)
noncomputable def l_X8_kinds_0_19 (a1 : Int32) (a2 : Int32) (a3 : Int32) (S : kw_S) : Nat → Int32 → Int32 → Int32 × kw_S
  | 0, _, _ => (0, S)
  | n + 1, x4, x5 => if (5 : Int32).toInt < x5.toInt then ((x4, S)) else (kf_l (S.1 10 a1.toNatClampNeg) fun z3 => kf_l (f_X8_pullsSo_0 S x5 z3 a2) fun z4 => if z4.toInt = 0 then (kf_l (x4 ||| (0 : Int32)) fun z5 => kf_l (x5 + Int32.ofInt 1) fun z6 => l_X8_kinds_0_19 a1 a2 a3 S n z5 z6) else (kf_l ((1 : Int32) <<< (x5 &&& 31)) fun z7 => kf_l (x4 ||| z7) fun z8 => kf_l (x5 + Int32.ofInt 1) fun z9 => l_X8_kinds_0_19 a1 a2 a3 S n z8 z9))
theorem l_X8_kinds_0_19_s (a1 : Int32) (a2 : Int32) (a3 : Int32) (S : kw_S) (n : Nat) (x4 : Int32) (x5 : Int32) : l_X8_kinds_0_19 a1 a2 a3 S (n + 1) x4 x5 = if (5 : Int32).toInt < x5.toInt then ((x4, S)) else (kf_l (S.1 10 a1.toNatClampNeg) fun z3 => kf_l (f_X8_pullsSo_0 S x5 z3 a2) fun z4 => if z4.toInt = 0 then (kf_l (x4 ||| (0 : Int32)) fun z5 => kf_l (x5 + Int32.ofInt 1) fun z6 => l_X8_kinds_0_19 a1 a2 a3 S n z5 z6) else (kf_l ((1 : Int32) <<< (x5 &&& 31)) fun z7 => kf_l (x4 ||| z7) fun z8 => kf_l (x5 + Int32.ofInt 1) fun z9 => l_X8_kinds_0_19 a1 a2 a3 S n z8 z9)) := rfl
noncomputable def f_X8_kinds_0 (σ : kw_S) (i : Int32) (a : Int32) : Int32 × kw_S := kf_b (f_X8_askedPulls_0 σ i a) fun z1 S2 => if z1.toInt < 0 then ((z1, S2)) else (l_X8_kinds_0_19 i a z1 S2 ((7 - (0 : Int32).toInt).toNat + 1) (0 : Int32) (0 : Int32))
theorem f_X8_kinds_0_u (σ : kw_S) (i : Int32) (a : Int32) : f_X8_kinds_0 σ i a = kf_b (f_X8_askedPulls_0 σ i a) fun z1 S2 => if z1.toInt < 0 then ((z1, S2)) else (l_X8_kinds_0_19 i a z1 S2 ((7 - (0 : Int32).toInt).toNat + 1) (0 : Int32) (0 : Int32)) := rfl
abbrev p_X8_kinds_0 (T : Int) (σ : kw_S) (i : Int32) (a : Int32) : Option Value → kw_S → Prop := fun vv σ' => (kw_I (bM T) σ' ∧ kw_FM [1, 1000] σ σ') ∧ ∃ r : Int32, vv = some (.int r) ∧ (r, σ') = f_X8_kinds_0 σ i a
set_option maxRecDepth 100000 in
set_option maxHeartbeats 4000000 in
theorem c_X8_kinds_0 (l : Launch) (T : Int) (hT0 : 0 ≤ T) (hT1 : T ≤ 3000) (σ : kw_S) (hI : kw_I (bM T) σ) (i : Int32) (a : Int32) : kw_Met l 5 KM mX8_kinds [.ref 0, .int i, .int a] σ (p_X8_kinds_0 T σ i a) := by
  have r_i := kw_rng i
  have r_a := kw_rng a
  have hF0 : kw_FM [1, 1000] σ σ := kw_FM.rf
  have hF := (f_X8_kinds_0_u σ i a).symm
  have q_0 : (0 : Int32).toInt = 0 := rfl
  have q_1 : (1 : Int32).toInt = 1 := rfl
  have q_5 : (5 : Int32).toInt = 5 := rfl
  refine kw_Met.of (by decide) rfl tX8_kinds (Nat.le_of_ble_eq_true rfl) ?_
  show kw_AW l 5 kw_E0 KM mX8_kinds (p_X8_kinds_0 T σ i a) 0 [(0, .ref 0), (1, .int i), (2, .int a)] [] σ
  refine kw_aload_n (pc := 0) (i := 0) (k := 0) (n := 0) rfl rfl rfl ?_
  refine kw_iload_n (pc := 1) (i := 1) (k := 1) (n := 1) rfl rfl rfl ?_
  refine kw_iload_n (pc := 2) (i := 2) (k := 2) (n := 2) rfl rfl rfl ?_
  refine kw_callV (pc := 3) (i := 3) (Y := mX8_askedPulls) (a := 0) (As := [.int i, .int a]) (st := []) kw_hE rfl rfl lvX8_271 arX8_askedPulls (c_X8_askedPulls_0 l T hT0 hT1 σ hI i a ) (by decide) (Nat.le_of_ble_eq_true rfl) rfl (fun v S2 p1 => ?_)
  obtain ⟨⟨I6, F7⟩, z5, rfl, f3, ef4⟩ := p1
  have F8 : kw_FM [1, 1000] σ S2 := kw_FM.tr hF0 F7 (by decide)
  have w_9 : (S2.1 0 27).toInt = (σ.1 0 27).toInt := congrArg Int32.toInt (kw_FM.at0 (j := 27) F7 (by decide))
  replace hF := kf_be ef4 hF
  have r_z5 := kw_rng z5
  show kw_AW l 5 kw_E0 KM mX8_kinds (p_X8_kinds_0 T σ i a) 6 [(0, .ref 0), (1, .int i), (2, .int a)] [.int z5] S2
  refine kw_istore_n (pc := 6) (i := 4) (n := 3) (lv' := [(3, .int z5), (0, .ref 0), (1, .int i), (2, .int a)]) rfl rfl (by decide) rfl ?_
  refine kw_iload_n (pc := 7) (i := 5) (k := 0) (n := 3) rfl rfl rfl ?_
  refine kw_if_ge (pc := 8) (i := 6) (tgt := 13) rfl rfl (fun c10 => ?_) (fun c10 => ?_)
  · replace hF := kf_nl c10 hF
    refine kw_iconst (pc := 13) (i := 9) (v := 0) rfl rfl ?_
    refine kw_istore (pc := 14) (i := 10) (n := 4) (lv' := [(4, .int 0), (3, .int z5), (0, .ref 0), (1, .int i), (2, .int a)]) rfl (by decide) rfl ?_
    refine kw_iconst (pc := 16) (i := 11) (v := 0) rfl rfl ?_
    refine kw_istore (pc := 17) (i := 12) (n := 5) (lv' := [(5, .int 0), (4, .int 0), (3, .int z5), (0, .ref 0), (1, .int i), (2, .int a)]) rfl (by decide) rfl ?_
    have L13 : ∀ (n17 : Nat) (x11 : Int32) (x12 : Int32), 0 ≤ x11.toInt → l_X8_kinds_0_19 i a z5 S2 n17 x12 x11 = (f_X8_kinds_0 σ i a) → (7 - x11.toInt).toNat < n17 → kw_AW l 5 kw_E0 KM mX8_kinds (p_X8_kinds_0 T σ i a) 19 [(5, .int x11), (4, .int x12), (3, .int z5), (0, .ref 0), (1, .int i), (2, .int a)] [] S2 := by
      intro n17
      induction n17 with
      | zero => intro x11 x12 v15 hF m16; exact absurd m16 (Nat.not_lt_zero _)
      | succ n17 ih14 =>
        intro x11 x12 v15 hF m16
        replace hF := kf_st (l_X8_kinds_0_19_s _ _ _ _ _ _ _) hF
        have r_x11 := kw_rng x11
        have r_x12 := kw_rng x12
        refine kw_iload (pc := 19) (i := 13) (k := 0) (n := 5) rfl rfl ?_
        refine kw_iconst (pc := 21) (i := 14) (v := 5) rfl rfl ?_
        refine kw_icmp_gt (pc := 22) (i := 15) (tgt := 60) rfl rfl (fun c18 => ?_) (fun c18 => ?_)
        · replace hF := kf_p c18 hF
          refine kw_iload (pc := 60) (i := 35) (k := 1) (n := 4) rfl rfl ?_
          exact kw_ireturn (pc := 62) (i := 36) (ty := .int) rfl rfl rfl ⟨⟨I6, F8⟩, _, rfl, hF⟩
        · replace hF := kf_nl c18 hF
          refine kw_iload (pc := 25) (i := 16) (k := 1) (n := 4) rfl rfl ?_
          refine kw_aload_n (pc := 27) (i := 17) (k := 3) (n := 0) rfl rfl rfl ?_
          refine kw_iload (pc := 28) (i := 18) (k := 0) (n := 5) rfl rfl ?_
          refine kw_aload_n (pc := 30) (i := 19) (k := 3) (n := 0) rfl rfl rfl ?_
          refine kw_get (pc := 31) (i := 20) (v := .ref 10) rfl rfl rfl lkX8_45 (fun _ => rfl) ?_
          refine kw_iload_n (pc := 34) (i := 21) (k := 4) (n := 1) rfl rfl rfl ?_
          refine kw_iald (pc := 35) (i := 22) (n := 6) rfl rfl (by omega) (by omega) (fun z19 e_z19 => ?_)
          replace hF := kf_le e_z19 hF
          have t_z19 := congrArg Int32.toInt e_z19
          have r_z19 := kw_rng z19
          refine kw_iload_n (pc := 36) (i := 23) (k := 5) (n := 2) rfl rfl rfl ?_
          refine kw_callV (pc := 37) (i := 24) (Y := mX8_pullsSo) (a := 0) (As := [.int x11, .int z19, .int a]) (st := [.int x12]) kw_hE rfl rfl lvX8_274 arX8_pullsSo (c_X8_pullsSo_0 l T hT0 hT1 S2 I6 x11 z19 a (by first | omega | decide) (by first | omega | decide) (by first | omega | decide)) (by decide) (Nat.le_of_ble_eq_true rfl) rfl (fun v S21 p20 => ?_)
          obtain ⟨e25, z24, rfl, f22, ef23⟩ := p20
          rw [e25]
          replace hF := kf_le ef23 hF
          have r_z24 := kw_rng z24
          show kw_AW l 5 kw_E0 KM mX8_kinds (p_X8_kinds_0 T σ i a) 40 [(5, .int x11), (4, .int x12), (3, .int z5), (0, .ref 0), (1, .int i), (2, .int a)] [.int z24, .int x12] S2
          refine kw_if_eq (pc := 40) (i := 25) (tgt := 50) rfl rfl (fun c26 => ?_) (fun c26 => ?_)
          · replace hF := kf_p c26 hF
            refine kw_iconst (pc := 50) (i := 30) (v := 0) rfl rfl ?_
            refine kw_ior (pc := 51) (i := 31) rfl (fun z27 e_z27 => ?_)
            have r_z27 := kw_rng z27
            replace hF := kf_le e_z27 hF
            refine kw_istore (pc := 52) (i := 32) (n := 4) (lv' := [(4, .int z27), (5, .int x11), (3, .int z5), (0, .ref 0), (1, .int i), (2, .int a)]) rfl (by decide) rfl ?_
            refine kw_iinc' (pc := 54) (i := 33) (k := 1) (fun z => [(5, .int z), (4, .int z27), (3, .int z5), (0, .ref 0), (1, .int i), (2, .int a)]) rfl rfl (by decide) rfl (fun _ => rfl) (fun z28 e_z28 t_z28 => ?_)
            replace hF := kf_le e_z28 hF
            first | (have u_z28 : z28.toInt = x11.toInt + 1 := (by omega); clear t_z28) | skip
            refine kw_goto (pc := 57) (i := 34) (tgt := 19) rfl rfl ?_
            refine kw_sub (lv' := [(5, .int z28), (4, .int z27), (3, .int z5), (0, .ref 0), (1, .int i), (2, .int a)]) [0, 1, 2, 3, 4, 5] rfl ?_
            exact ih14 z28 z27 (by omega) hF (by omega)
          · replace hF := kf_n c26 hF
            refine kw_iconst (pc := 43) (i := 26) (v := 1) rfl rfl ?_
            refine kw_iload (pc := 44) (i := 27) (k := 0) (n := 5) rfl rfl ?_
            refine kw_ishl (pc := 46) (i := 28) rfl (fun z29 e_z29 => ?_)
            have r_z29 := kw_rng z29
            replace hF := kf_le e_z29 hF
            have t_z29 := kw_shlm x11 z29 e_z29
            first | (replace t_z29 := And.intro (t_z29.1 (by omega) (by omega)) (t_z29.2 (by omega) (by omega))) | (replace t_z29 := t_z29.1 (by omega) (by omega)) | skip
            have u_z29 := congrArg Int32.toInt e_z29
            refine kw_goto (pc := 47) (i := 29) (tgt := 51) rfl rfl ?_
            refine kw_ior (pc := 51) (i := 31) rfl (fun z30 e_z30 => ?_)
            have r_z30 := kw_rng z30
            replace hF := kf_le e_z30 hF
            refine kw_istore (pc := 52) (i := 32) (n := 4) (lv' := [(4, .int z30), (5, .int x11), (3, .int z5), (0, .ref 0), (1, .int i), (2, .int a)]) rfl (by decide) rfl ?_
            refine kw_iinc' (pc := 54) (i := 33) (k := 1) (fun z => [(5, .int z), (4, .int z30), (3, .int z5), (0, .ref 0), (1, .int i), (2, .int a)]) rfl rfl (by decide) rfl (fun _ => rfl) (fun z31 e_z31 t_z31 => ?_)
            replace hF := kf_le e_z31 hF
            first | (have u_z31 : z31.toInt = x11.toInt + 1 := (by omega); clear t_z31) | skip
            refine kw_goto (pc := 57) (i := 34) (tgt := 19) rfl rfl ?_
            refine kw_sub (lv' := [(5, .int z31), (4, .int z30), (3, .int z5), (0, .ref 0), (1, .int i), (2, .int a)]) [0, 1, 2, 3, 4, 5] rfl ?_
            exact ih14 z31 z30 (by omega) hF (by omega)
    exact L13 _ 0 0 (by omega) hF (Nat.lt_succ_self _)
  · replace hF := kf_p c10 hF
    refine kw_iload_n (pc := 11) (i := 7) (k := 0) (n := 3) rfl rfl rfl ?_
    exact kw_ireturn (pc := 12) (i := 8) (ty := .int) rfl rfl rfl ⟨⟨I6, F8⟩, _, rfl, hF⟩
noncomputable def l_X8_areas_0_19 (a1 : Int32) (a2 : Int32) (a3 : Int32) (S : kw_S) : Nat → Int32 → Int32 → Int32 × kw_S
  | 0, _, _ => (0, S)
  | n + 1, x4, x5 => if (9 : Int32).toInt < x5.toInt then ((x4, S)) else (kf_l (S.1 8 a1.toNatClampNeg) fun z3 => kf_l (f_X8_pullsSo_0 S z3 x5 a2) fun z4 => if z4.toInt = 0 then (kf_l (x4 ||| (0 : Int32)) fun z5 => kf_l (x5 + Int32.ofInt 1) fun z6 => l_X8_areas_0_19 a1 a2 a3 S n z5 z6) else (kf_l ((1 : Int32) <<< (x5 &&& 31)) fun z7 => kf_l (x4 ||| z7) fun z8 => kf_l (x5 + Int32.ofInt 1) fun z9 => l_X8_areas_0_19 a1 a2 a3 S n z8 z9))
theorem l_X8_areas_0_19_s (a1 : Int32) (a2 : Int32) (a3 : Int32) (S : kw_S) (n : Nat) (x4 : Int32) (x5 : Int32) : l_X8_areas_0_19 a1 a2 a3 S (n + 1) x4 x5 = if (9 : Int32).toInt < x5.toInt then ((x4, S)) else (kf_l (S.1 8 a1.toNatClampNeg) fun z3 => kf_l (f_X8_pullsSo_0 S z3 x5 a2) fun z4 => if z4.toInt = 0 then (kf_l (x4 ||| (0 : Int32)) fun z5 => kf_l (x5 + Int32.ofInt 1) fun z6 => l_X8_areas_0_19 a1 a2 a3 S n z5 z6) else (kf_l ((1 : Int32) <<< (x5 &&& 31)) fun z7 => kf_l (x4 ||| z7) fun z8 => kf_l (x5 + Int32.ofInt 1) fun z9 => l_X8_areas_0_19 a1 a2 a3 S n z8 z9)) := rfl
noncomputable def f_X8_areas_0 (σ : kw_S) (i : Int32) (a : Int32) : Int32 × kw_S := kf_b (f_X8_askedPulls_0 σ i a) fun z1 S2 => if z1.toInt < 0 then ((z1, S2)) else (l_X8_areas_0_19 i a z1 S2 ((11 - (1 : Int32).toInt).toNat + 1) (0 : Int32) (1 : Int32))
theorem f_X8_areas_0_u (σ : kw_S) (i : Int32) (a : Int32) : f_X8_areas_0 σ i a = kf_b (f_X8_askedPulls_0 σ i a) fun z1 S2 => if z1.toInt < 0 then ((z1, S2)) else (l_X8_areas_0_19 i a z1 S2 ((11 - (1 : Int32).toInt).toNat + 1) (0 : Int32) (1 : Int32)) := rfl
abbrev p_X8_areas_0 (T : Int) (σ : kw_S) (i : Int32) (a : Int32) : Option Value → kw_S → Prop := fun vv σ' => (kw_I (bM T) σ' ∧ kw_FM [1, 1000] σ σ') ∧ ∃ r : Int32, vv = some (.int r) ∧ (r, σ') = f_X8_areas_0 σ i a
set_option maxRecDepth 100000 in
set_option maxHeartbeats 4000000 in
theorem c_X8_areas_0 (l : Launch) (T : Int) (hT0 : 0 ≤ T) (hT1 : T ≤ 3000) (σ : kw_S) (hI : kw_I (bM T) σ) (i : Int32) (a : Int32) : kw_Met l 5 KM mX8_areas [.ref 0, .int i, .int a] σ (p_X8_areas_0 T σ i a) := by
  have r_i := kw_rng i
  have r_a := kw_rng a
  have hF0 : kw_FM [1, 1000] σ σ := kw_FM.rf
  have hF := (f_X8_areas_0_u σ i a).symm
  have q_0 : (0 : Int32).toInt = 0 := rfl
  have q_1 : (1 : Int32).toInt = 1 := rfl
  have q_9 : (9 : Int32).toInt = 9 := rfl
  refine kw_Met.of (by decide) rfl tX8_areas (Nat.le_of_ble_eq_true rfl) ?_
  show kw_AW l 5 kw_E0 KM mX8_areas (p_X8_areas_0 T σ i a) 0 [(0, .ref 0), (1, .int i), (2, .int a)] [] σ
  refine kw_aload_n (pc := 0) (i := 0) (k := 0) (n := 0) rfl rfl rfl ?_
  refine kw_iload_n (pc := 1) (i := 1) (k := 1) (n := 1) rfl rfl rfl ?_
  refine kw_iload_n (pc := 2) (i := 2) (k := 2) (n := 2) rfl rfl rfl ?_
  refine kw_callV (pc := 3) (i := 3) (Y := mX8_askedPulls) (a := 0) (As := [.int i, .int a]) (st := []) kw_hE rfl rfl lvX8_271 arX8_askedPulls (c_X8_askedPulls_0 l T hT0 hT1 σ hI i a ) (by decide) (Nat.le_of_ble_eq_true rfl) rfl (fun v S2 p1 => ?_)
  obtain ⟨⟨I6, F7⟩, z5, rfl, f3, ef4⟩ := p1
  have F8 : kw_FM [1, 1000] σ S2 := kw_FM.tr hF0 F7 (by decide)
  have w_9 : (S2.1 0 27).toInt = (σ.1 0 27).toInt := congrArg Int32.toInt (kw_FM.at0 (j := 27) F7 (by decide))
  replace hF := kf_be ef4 hF
  have r_z5 := kw_rng z5
  show kw_AW l 5 kw_E0 KM mX8_areas (p_X8_areas_0 T σ i a) 6 [(0, .ref 0), (1, .int i), (2, .int a)] [.int z5] S2
  refine kw_istore_n (pc := 6) (i := 4) (n := 3) (lv' := [(3, .int z5), (0, .ref 0), (1, .int i), (2, .int a)]) rfl rfl (by decide) rfl ?_
  refine kw_iload_n (pc := 7) (i := 5) (k := 0) (n := 3) rfl rfl rfl ?_
  refine kw_if_ge (pc := 8) (i := 6) (tgt := 13) rfl rfl (fun c10 => ?_) (fun c10 => ?_)
  · replace hF := kf_nl c10 hF
    refine kw_iconst (pc := 13) (i := 9) (v := 0) rfl rfl ?_
    refine kw_istore (pc := 14) (i := 10) (n := 4) (lv' := [(4, .int 0), (3, .int z5), (0, .ref 0), (1, .int i), (2, .int a)]) rfl (by decide) rfl ?_
    refine kw_iconst (pc := 16) (i := 11) (v := 1) rfl rfl ?_
    refine kw_istore (pc := 17) (i := 12) (n := 5) (lv' := [(5, .int 1), (4, .int 0), (3, .int z5), (0, .ref 0), (1, .int i), (2, .int a)]) rfl (by decide) rfl ?_
    have L13 : ∀ (n17 : Nat) (x11 : Int32) (x12 : Int32), 0 ≤ x11.toInt → l_X8_areas_0_19 i a z5 S2 n17 x12 x11 = (f_X8_areas_0 σ i a) → (11 - x11.toInt).toNat < n17 → kw_AW l 5 kw_E0 KM mX8_areas (p_X8_areas_0 T σ i a) 19 [(5, .int x11), (4, .int x12), (3, .int z5), (0, .ref 0), (1, .int i), (2, .int a)] [] S2 := by
      intro n17
      induction n17 with
      | zero => intro x11 x12 v15 hF m16; exact absurd m16 (Nat.not_lt_zero _)
      | succ n17 ih14 =>
        intro x11 x12 v15 hF m16
        replace hF := kf_st (l_X8_areas_0_19_s _ _ _ _ _ _ _) hF
        have r_x11 := kw_rng x11
        have r_x12 := kw_rng x12
        refine kw_iload (pc := 19) (i := 13) (k := 0) (n := 5) rfl rfl ?_
        refine kw_bipush (pc := 21) (i := 14) (v := 9) rfl rfl ?_
        refine kw_icmp_gt (pc := 23) (i := 15) (tgt := 61) rfl rfl (fun c18 => ?_) (fun c18 => ?_)
        · replace hF := kf_p c18 hF
          refine kw_iload (pc := 61) (i := 35) (k := 1) (n := 4) rfl rfl ?_
          exact kw_ireturn (pc := 63) (i := 36) (ty := .int) rfl rfl rfl ⟨⟨I6, F8⟩, _, rfl, hF⟩
        · replace hF := kf_nl c18 hF
          refine kw_iload (pc := 26) (i := 16) (k := 1) (n := 4) rfl rfl ?_
          refine kw_aload_n (pc := 28) (i := 17) (k := 3) (n := 0) rfl rfl rfl ?_
          refine kw_aload_n (pc := 29) (i := 18) (k := 3) (n := 0) rfl rfl rfl ?_
          refine kw_get (pc := 30) (i := 19) (v := .ref 8) rfl rfl rfl lkX8_39 (fun _ => rfl) ?_
          refine kw_iload_n (pc := 33) (i := 20) (k := 4) (n := 1) rfl rfl rfl ?_
          refine kw_iald (pc := 34) (i := 21) (n := 6) rfl rfl (by omega) (by omega) (fun z19 e_z19 => ?_)
          replace hF := kf_le e_z19 hF
          have t_z19 := congrArg Int32.toInt e_z19
          have r_z19 := kw_rng z19
          refine kw_iload (pc := 35) (i := 22) (k := 0) (n := 5) rfl rfl ?_
          refine kw_iload_n (pc := 37) (i := 23) (k := 5) (n := 2) rfl rfl rfl ?_
          refine kw_callV (pc := 38) (i := 24) (Y := mX8_pullsSo) (a := 0) (As := [.int z19, .int x11, .int a]) (st := [.int x12]) kw_hE rfl rfl lvX8_274 arX8_pullsSo (c_X8_pullsSo_0 l T hT0 hT1 S2 I6 z19 x11 a (by first | omega | decide) (by first | omega | decide) (by first | omega | decide)) (by decide) (Nat.le_of_ble_eq_true rfl) rfl (fun v S21 p20 => ?_)
          obtain ⟨e25, z24, rfl, f22, ef23⟩ := p20
          rw [e25]
          replace hF := kf_le ef23 hF
          have r_z24 := kw_rng z24
          show kw_AW l 5 kw_E0 KM mX8_areas (p_X8_areas_0 T σ i a) 41 [(5, .int x11), (4, .int x12), (3, .int z5), (0, .ref 0), (1, .int i), (2, .int a)] [.int z24, .int x12] S2
          refine kw_if_eq (pc := 41) (i := 25) (tgt := 51) rfl rfl (fun c26 => ?_) (fun c26 => ?_)
          · replace hF := kf_p c26 hF
            refine kw_iconst (pc := 51) (i := 30) (v := 0) rfl rfl ?_
            refine kw_ior (pc := 52) (i := 31) rfl (fun z27 e_z27 => ?_)
            have r_z27 := kw_rng z27
            replace hF := kf_le e_z27 hF
            refine kw_istore (pc := 53) (i := 32) (n := 4) (lv' := [(4, .int z27), (5, .int x11), (3, .int z5), (0, .ref 0), (1, .int i), (2, .int a)]) rfl (by decide) rfl ?_
            refine kw_iinc' (pc := 55) (i := 33) (k := 1) (fun z => [(5, .int z), (4, .int z27), (3, .int z5), (0, .ref 0), (1, .int i), (2, .int a)]) rfl rfl (by decide) rfl (fun _ => rfl) (fun z28 e_z28 t_z28 => ?_)
            replace hF := kf_le e_z28 hF
            first | (have u_z28 : z28.toInt = x11.toInt + 1 := (by omega); clear t_z28) | skip
            refine kw_goto (pc := 58) (i := 34) (tgt := 19) rfl rfl ?_
            refine kw_sub (lv' := [(5, .int z28), (4, .int z27), (3, .int z5), (0, .ref 0), (1, .int i), (2, .int a)]) [0, 1, 2, 3, 4, 5] rfl ?_
            exact ih14 z28 z27 (by omega) hF (by omega)
          · replace hF := kf_n c26 hF
            refine kw_iconst (pc := 44) (i := 26) (v := 1) rfl rfl ?_
            refine kw_iload (pc := 45) (i := 27) (k := 0) (n := 5) rfl rfl ?_
            refine kw_ishl (pc := 47) (i := 28) rfl (fun z29 e_z29 => ?_)
            have r_z29 := kw_rng z29
            replace hF := kf_le e_z29 hF
            have t_z29 := kw_shlm x11 z29 e_z29
            first | (replace t_z29 := And.intro (t_z29.1 (by omega) (by omega)) (t_z29.2 (by omega) (by omega))) | (replace t_z29 := t_z29.1 (by omega) (by omega)) | skip
            have u_z29 := congrArg Int32.toInt e_z29
            refine kw_goto (pc := 48) (i := 29) (tgt := 52) rfl rfl ?_
            refine kw_ior (pc := 52) (i := 31) rfl (fun z30 e_z30 => ?_)
            have r_z30 := kw_rng z30
            replace hF := kf_le e_z30 hF
            refine kw_istore (pc := 53) (i := 32) (n := 4) (lv' := [(4, .int z30), (5, .int x11), (3, .int z5), (0, .ref 0), (1, .int i), (2, .int a)]) rfl (by decide) rfl ?_
            refine kw_iinc' (pc := 55) (i := 33) (k := 1) (fun z => [(5, .int z), (4, .int z30), (3, .int z5), (0, .ref 0), (1, .int i), (2, .int a)]) rfl rfl (by decide) rfl (fun _ => rfl) (fun z31 e_z31 t_z31 => ?_)
            replace hF := kf_le e_z31 hF
            first | (have u_z31 : z31.toInt = x11.toInt + 1 := (by omega); clear t_z31) | skip
            refine kw_goto (pc := 58) (i := 34) (tgt := 19) rfl rfl ?_
            refine kw_sub (lv' := [(5, .int z31), (4, .int z30), (3, .int z5), (0, .ref 0), (1, .int i), (2, .int a)]) [0, 1, 2, 3, 4, 5] rfl ?_
            exact ih14 z31 z30 (by omega) hF (by omega)
    exact L13 _ 1 0 (by omega) hF (Nat.lt_succ_self _)
  · replace hF := kf_p c10 hF
    refine kw_iload_n (pc := 11) (i := 7) (k := 0) (n := 3) rfl rfl rfl ?_
    exact kw_ireturn (pc := 12) (i := 8) (ty := .int) rfl rfl rfl ⟨⟨I6, F8⟩, _, rfl, hF⟩
noncomputable def l_X8_power_5 (a0 : Int64) (a2 : Int32) (S : kw_S) : Nat → Int64 → Int32 → Int64
  | 0, _, _ => 0
  | n + 1, x3, x5 => if x5.toInt < a2.toInt then (kf_l (x3 * a0) fun z1 => kf_l (x5 + Int32.ofInt 1) fun z2 => l_X8_power_5 a0 a2 S n z1 z2) else (x3)
theorem l_X8_power_5_s (a0 : Int64) (a2 : Int32) (S : kw_S) (n : Nat) (x3 : Int64) (x5 : Int32) : l_X8_power_5 a0 a2 S (n + 1) x3 x5 = if x5.toInt < a2.toInt then (kf_l (x3 * a0) fun z1 => kf_l (x5 + Int32.ofInt 1) fun z2 => l_X8_power_5 a0 a2 S n z1 z2) else (x3) := rfl
noncomputable def f_X8_power (σ : kw_S) (v : Int64) (n : Int32) : Int64 := l_X8_power_5 v n σ ((n.toInt - (0 : Int32).toInt).toNat + 1) (1 : Int64) (0 : Int32)
theorem f_X8_power_u (σ : kw_S) (v : Int64) (n : Int32) : f_X8_power σ v n = l_X8_power_5 v n σ ((n.toInt - (0 : Int32).toInt).toNat + 1) (1 : Int64) (0 : Int32) := rfl
abbrev p_X8_power (T : Int) (σ : kw_S) (v : Int64) (n : Int32) : Option Value → kw_S → Prop := fun vv σ' => σ' = σ ∧ ∃ r : Int64, vv = some (.long r) ∧ r = f_X8_power σ v n
set_option maxRecDepth 100000 in
set_option maxHeartbeats 4000000 in
theorem c_X8_power (l : Launch) (T : Int) (hT0 : 0 ≤ T) (hT1 : T ≤ 3000) (σ : kw_S) (hI : kw_I (bM T) σ) (v : Int64) (n : Int32) : kw_Met l 1 KM mX8_power [.long v, .int n] σ (p_X8_power T σ v n) := by
  have r_n := kw_rng n
  have hF := (f_X8_power_u σ v n).symm
  have q_0 : (0 : Int32).toInt = 0 := rfl
  refine kw_Met.of (by decide) rfl tX8_power (Nat.le_of_ble_eq_true rfl) ?_
  show kw_AW l 1 kw_E0 KM mX8_power (p_X8_power T σ v n) 0 [(0, .long v), (2, .int n)] [] σ
  refine kw_lconst (pc := 0) (i := 0) (v := 1) rfl rfl ?_
  refine kw_lstore_n (pc := 1) (i := 1) (n := 3) (lv' := [(3, .long 1), (0, .long v), (2, .int n)]) rfl rfl (by decide) rfl ?_
  refine kw_iconst (pc := 2) (i := 2) (v := 0) rfl rfl ?_
  refine kw_istore (pc := 3) (i := 3) (n := 5) (lv' := [(5, .int 0), (3, .long 1), (0, .long v), (2, .int n)]) rfl (by decide) rfl ?_
  have L3 : ∀ (n7 : Nat) (x1 : Int32) (x2 : Int64), 0 ≤ x1.toInt → l_X8_power_5 v n σ n7 x2 x1 = (f_X8_power σ v n) → (n.toInt - x1.toInt).toNat < n7 → kw_AW l 1 kw_E0 KM mX8_power (p_X8_power T σ v n) 5 [(5, .int x1), (3, .long x2), (0, .long v), (2, .int n)] [] σ := by
    intro n7
    induction n7 with
    | zero => intro x1 x2 v5 hF m6; exact absurd m6 (Nat.not_lt_zero _)
    | succ n7 ih4 =>
      intro x1 x2 v5 hF m6
      replace hF := kf_st (l_X8_power_5_s _ _ _ _ _ _) hF
      have r_x1 := kw_rng x1
      refine kw_iload (pc := 5) (i := 4) (k := 0) (n := 5) rfl rfl ?_
      refine kw_iload_n (pc := 7) (i := 5) (k := 3) (n := 2) rfl rfl rfl ?_
      refine kw_icmp_ge (pc := 8) (i := 6) (tgt := 21) rfl rfl (fun c8 => ?_) (fun c8 => ?_)
      · replace hF := kf_nl c8 hF
        refine kw_lload_n (pc := 21) (i := 13) (k := 1) (n := 3) rfl rfl rfl ?_
        exact kw_lreturn (pc := 22) (i := 14) rfl rfl ⟨rfl, _, rfl, hF⟩
      · replace hF := kf_p c8 hF
        refine kw_lload_n (pc := 11) (i := 7) (k := 1) (n := 3) rfl rfl rfl ?_
        refine kw_lload_n (pc := 12) (i := 8) (k := 2) (n := 0) rfl rfl rfl ?_
        refine kw_lmul (pc := 13) (i := 9) rfl (fun z9 e_z9 => ?_)
        replace hF := kf_le e_z9 hF
        refine kw_lstore_n (pc := 14) (i := 10) (n := 3) (lv' := [(3, .long z9), (5, .int x1), (0, .long v), (2, .int n)]) rfl rfl (by decide) rfl ?_
        refine kw_iinc' (pc := 15) (i := 11) (k := 1) (fun z => [(5, .int z), (3, .long z9), (0, .long v), (2, .int n)]) rfl rfl (by decide) rfl (fun _ => rfl) (fun z10 e_z10 t_z10 => ?_)
        replace hF := kf_le e_z10 hF
        first | (have u_z10 : z10.toInt = x1.toInt + 1 := (by omega); clear t_z10) | skip
        refine kw_goto (pc := 18) (i := 12) (tgt := 5) rfl rfl ?_
        refine kw_sub (lv' := [(5, .int z10), (3, .long z9), (0, .long v), (2, .int n)]) [0, 1, 2, 3] rfl ?_
        exact ih4 z10 z9 (by omega) hF (by omega)
  exact L3 _ 0 1 (by omega) hF (Nat.lt_succ_self _)
noncomputable def l_X8_powerv12_5 (a0 : Int64) (a2 : Int32) (S : kw_S) : Nat → Int64 → Int32 → Int64
  | 0, _, _ => 0
  | n + 1, x3, x5 => if x5.toInt < a2.toInt then (kf_l (x3 * a0) fun z1 => kf_l (x5 + Int32.ofInt 1) fun z2 => l_X8_powerv12_5 a0 a2 S n z1 z2) else (x3)
theorem l_X8_powerv12_5_s (a0 : Int64) (a2 : Int32) (S : kw_S) (n : Nat) (x3 : Int64) (x5 : Int32) : l_X8_powerv12_5 a0 a2 S (n + 1) x3 x5 = if x5.toInt < a2.toInt then (kf_l (x3 * a0) fun z1 => kf_l (x5 + Int32.ofInt 1) fun z2 => l_X8_powerv12_5 a0 a2 S n z1 z2) else (x3) := rfl
noncomputable def f_X8_powerv12 (σ : kw_S) (v : Int64) (n : Int32) : Int64 := l_X8_powerv12_5 v n σ ((n.toInt - (0 : Int32).toInt).toNat + 1) (1 : Int64) (0 : Int32)
theorem f_X8_powerv12_u (σ : kw_S) (v : Int64) (n : Int32) : f_X8_powerv12 σ v n = l_X8_powerv12_5 v n σ ((n.toInt - (0 : Int32).toInt).toNat + 1) (1 : Int64) (0 : Int32) := rfl
abbrev p_X8_powerv12 (T : Int) (σ : kw_S) (v : Int64) (n : Int32) : Option Value → kw_S → Prop := fun vv σ' => σ' = σ ∧ ∃ r : Int64, vv = some (.long r) ∧ 1 ≤ r.toInt ∧ r = f_X8_powerv12 σ v n
set_option maxRecDepth 100000 in
set_option maxHeartbeats 4000000 in
theorem c_X8_powerv12 (l : Launch) (T : Int) (hT0 : 0 ≤ T) (hT1 : T ≤ 3000) (σ : kw_S) (hI : kw_I (bM T) σ) (v : Int64) (n : Int32) (hp0 : v.toInt = 12) (hp1 : 0 ≤ n.toInt) (hp2 : n.toInt ≤ 6) : kw_Met l 1 KM mX8_power [.long v, .int n] σ (p_X8_powerv12 T σ v n) := by
  have r_n := kw_rng n
  have hF := (f_X8_powerv12_u σ v n).symm
  have q_0 : (0 : Int32).toInt = 0 := rfl
  refine kw_Met.of (by decide) rfl tX8_power (Nat.le_of_ble_eq_true rfl) ?_
  show kw_AW l 1 kw_E0 KM mX8_power (p_X8_powerv12 T σ v n) 0 [(0, .long v), (2, .int n)] [] σ
  refine kw_lconst (pc := 0) (i := 0) (v := 1) rfl rfl ?_
  refine kw_lstore_n (pc := 1) (i := 1) (n := 3) (lv' := [(3, .long 1), (0, .long v), (2, .int n)]) rfl rfl (by decide) rfl ?_
  refine kw_iconst (pc := 2) (i := 2) (v := 0) rfl rfl ?_
  refine kw_istore (pc := 3) (i := 3) (n := 5) (lv' := [(5, .int 0), (3, .long 1), (0, .long v), (2, .int n)]) rfl (by decide) rfl ?_
  have L3 : ∀ (n9 : Nat) (x1 : Int32) (x2 : Int64), 0 ≤ x1.toInt → x1.toInt ≤ n.toInt → kw_p12 x1.toInt x2.toInt → l_X8_powerv12_5 v n σ n9 x2 x1 = (f_X8_powerv12 σ v n) → (n.toInt - x1.toInt).toNat < n9 → kw_AW l 1 kw_E0 KM mX8_power (p_X8_powerv12 T σ v n) 5 [(5, .int x1), (3, .long x2), (0, .long v), (2, .int n)] [] σ := by
    intro n9
    induction n9 with
    | zero => intro x1 x2 v5 v6 v7 hF m8; exact absurd m8 (Nat.not_lt_zero _)
    | succ n9 ih4 =>
      intro x1 x2 v5 v6 v7 hF m8
      replace hF := kf_st (l_X8_powerv12_5_s _ _ _ _ _ _) hF
      have r_x1 := kw_rng x1
      have w_p := kw_p12B v7 (by omega) (by omega)
      refine kw_iload (pc := 5) (i := 4) (k := 0) (n := 5) rfl rfl ?_
      refine kw_iload_n (pc := 7) (i := 5) (k := 3) (n := 2) rfl rfl rfl ?_
      refine kw_icmp_ge (pc := 8) (i := 6) (tgt := 21) rfl rfl (fun c10 => ?_) (fun c10 => ?_)
      · replace hF := kf_nl c10 hF
        refine kw_lload_n (pc := 21) (i := 13) (k := 1) (n := 3) rfl rfl rfl ?_
        exact kw_lreturn (pc := 22) (i := 14) rfl rfl ⟨rfl, _, rfl, by omega, hF⟩
      · replace hF := kf_p c10 hF
        refine kw_lload_n (pc := 11) (i := 7) (k := 1) (n := 3) rfl rfl rfl ?_
        refine kw_lload_n (pc := 12) (i := 8) (k := 2) (n := 0) rfl rfl rfl ?_
        refine kw_lmul (pc := 13) (i := 9) rfl (fun z11 e_z11 => ?_)
        replace hF := kf_le e_z11 hF
        have t_z11 : z11.toInt = x2.toInt * 12 := by rw [kw_lmulI x2 v z11 e_z11, hp0]; omega
        refine kw_lstore_n (pc := 14) (i := 10) (n := 3) (lv' := [(3, .long z11), (5, .int x1), (0, .long v), (2, .int n)]) rfl rfl (by decide) rfl ?_
        refine kw_iinc' (pc := 15) (i := 11) (k := 1) (fun z => [(5, .int z), (3, .long z11), (0, .long v), (2, .int n)]) rfl rfl (by decide) rfl (fun _ => rfl) (fun z12 e_z12 t_z12 => ?_)
        replace hF := kf_le e_z12 hF
        first | (have u_z12 : z12.toInt = x1.toInt + 1 := (by omega); clear t_z12) | skip
        refine kw_goto (pc := 18) (i := 12) (tgt := 5) rfl rfl ?_
        refine kw_sub (lv' := [(5, .int z12), (3, .long z11), (0, .long v), (2, .int n)]) [0, 1, 2, 3] rfl ?_
        exact ih4 z12 z11 (by omega) (by omega) (show kw_p12 z12.toInt z11.toInt from by exact kw_p12S v7 (by omega) (by omega) (by omega)) hF (by omega)
  exact L3 _ 0 1 (by omega) (by omega) (show kw_p12 (0 : Int32).toInt (1 : Int64).toInt from by exact kw_p120) hF (Nat.lt_succ_self _)
noncomputable def l_X8_gustMiles_0_8 (a1 : Int32) (a2 : Int32) (S : kw_S) : Nat → Int32 → Int32 → Int32
  | 0, _, _ => 0
  | n + 1, x3, x4 => kf_l (S.1 2 a1.toNatClampNeg) fun z1 => if x4.toInt < z1.toInt then (kf_l (f_X8_rowAt_0 S a1 x4) fun z2 => kf_l ((S.1 0 22) + x4) fun z3 => kf_l (f_X8_windAt_0 S z3) fun z4 => kf_l (a2 >>> (x4 &&& 31)) fun z5 => kf_l (z5 &&& (1 : Int32)) fun z6 => kf_l (z4 + z6) fun z7 => kf_l (f_X8_milesBy_0 S z2 z7) fun z8 => kf_l (x3 + z8) fun z9 => kf_l (x4 + Int32.ofInt 1) fun z10 => l_X8_gustMiles_0_8 a1 a2 S n z9 z10) else (x3)
theorem l_X8_gustMiles_0_8_s (a1 : Int32) (a2 : Int32) (S : kw_S) (n : Nat) (x3 : Int32) (x4 : Int32) : l_X8_gustMiles_0_8 a1 a2 S (n + 1) x3 x4 = kf_l (S.1 2 a1.toNatClampNeg) fun z1 => if x4.toInt < z1.toInt then (kf_l (f_X8_rowAt_0 S a1 x4) fun z2 => kf_l ((S.1 0 22) + x4) fun z3 => kf_l (f_X8_windAt_0 S z3) fun z4 => kf_l (a2 >>> (x4 &&& 31)) fun z5 => kf_l (z5 &&& (1 : Int32)) fun z6 => kf_l (z4 + z6) fun z7 => kf_l (f_X8_milesBy_0 S z2 z7) fun z8 => kf_l (x3 + z8) fun z9 => kf_l (x4 + Int32.ofInt 1) fun z10 => l_X8_gustMiles_0_8 a1 a2 S n z9 z10) else (x3) := rfl
noncomputable def f_X8_gustMiles_0 (σ : kw_S) (a : Int32) (g : Int32) : Int32 := l_X8_gustMiles_0_8 a g σ ((41 - (0 : Int32).toInt).toNat + 1) (σ.1 0 23) (0 : Int32)
theorem f_X8_gustMiles_0_u (σ : kw_S) (a : Int32) (g : Int32) : f_X8_gustMiles_0 σ a g = l_X8_gustMiles_0_8 a g σ ((41 - (0 : Int32).toInt).toNat + 1) (σ.1 0 23) (0 : Int32) := rfl
abbrev p_X8_gustMiles_0 (T : Int) (σ : kw_S) (a : Int32) (g : Int32) : Option Value → kw_S → Prop := fun vv σ' => σ' = σ ∧ ∃ r : Int32, vv = some (.int r) ∧ r = f_X8_gustMiles_0 σ a g
set_option maxRecDepth 100000 in
set_option maxHeartbeats 4000000 in
theorem c_X8_gustMiles_0 (l : Launch) (T : Int) (hT0 : 0 ≤ T) (hT1 : T ≤ 3000) (σ : kw_S) (hI : kw_I (bM T) σ) (a : Int32) (g : Int32) (hp0 : 0 ≤ a.toInt) (hp1 : a.toInt ≤ 5) : kw_Met l 4 KM mX8_gustMiles [.ref 0, .int a, .int g] σ (p_X8_gustMiles_0 T σ a g) := by
  have r_a := kw_rng a
  have r_g := kw_rng g
  have hF := (f_X8_gustMiles_0_u σ a g).symm
  have q_0 : (0 : Int32).toInt = 0 := rfl
  have q_1 : (1 : Int32).toInt = 1 := rfl
  refine kw_Met.of (by decide) rfl tX8_gustMiles (Nat.le_of_ble_eq_true rfl) ?_
  show kw_AW l 4 kw_E0 KM mX8_gustMiles (p_X8_gustMiles_0 T σ a g) 0 [(0, .ref 0), (1, .int a), (2, .int g)] [] σ
  refine kw_aload_n (pc := 0) (i := 0) (k := 0) (n := 0) rfl rfl rfl ?_
  refine kw_get (pc := 1) (i := 1) (v := .int (σ.1 0 23)) rfl rfl rfl lkX8_169 (fun _ => rfl) ?_
  have b1 := kw_rng (σ.1 0 23)
  refine kw_istore_n (pc := 4) (i := 2) (n := 3) (lv' := [(3, .int (σ.1 0 23)), (0, .ref 0), (1, .int a), (2, .int g)]) rfl rfl (by decide) rfl ?_
  refine kw_iconst (pc := 5) (i := 3) (v := 0) rfl rfl ?_
  refine kw_istore (pc := 6) (i := 4) (n := 4) (lv' := [(4, .int 0), (3, .int (σ.1 0 23)), (0, .ref 0), (1, .int a), (2, .int g)]) rfl (by decide) rfl ?_
  have L4 : ∀ (n8 : Nat) (x2 : Int32) (x3 : Int32), 0 ≤ x2.toInt → l_X8_gustMiles_0_8 a g σ n8 x3 x2 = (f_X8_gustMiles_0 σ a g) → (41 - x2.toInt).toNat < n8 → kw_AW l 4 kw_E0 KM mX8_gustMiles (p_X8_gustMiles_0 T σ a g) 8 [(4, .int x2), (3, .int x3), (0, .ref 0), (1, .int a), (2, .int g)] [] σ := by
    intro n8
    induction n8 with
    | zero => intro x2 x3 v6 hF m7; exact absurd m7 (Nat.not_lt_zero _)
    | succ n8 ih5 =>
      intro x2 x3 v6 hF m7
      replace hF := kf_st (l_X8_gustMiles_0_8_s _ _ _ _ _ _) hF
      have r_x2 := kw_rng x2
      have r_x3 := kw_rng x3
      refine kw_iload (pc := 8) (i := 5) (k := 0) (n := 4) rfl rfl ?_
      refine kw_aload_n (pc := 10) (i := 6) (k := 2) (n := 0) rfl rfl rfl ?_
      refine kw_get (pc := 11) (i := 7) (v := .ref 2) rfl rfl rfl lkX8_17 (fun _ => rfl) ?_
      refine kw_iload_n (pc := 14) (i := 8) (k := 3) (n := 1) rfl rfl rfl ?_
      refine kw_iald (pc := 15) (i := 9) (n := 6) rfl rfl (by omega) (by omega) (fun z9 e_z9 => ?_)
      replace hF := kf_le e_z9 hF
      have t_z9 := congrArg Int32.toInt e_z9
      have b_z9 : -9 ≤ z9.toInt ∧ z9.toInt ≤ 40 := by rw [e_z9]; exact hI 2 _
      refine kw_icmp_ge (pc := 16) (i := 10) (tgt := 57) rfl rfl (fun c10 => ?_) (fun c10 => ?_)
      · replace hF := kf_nl c10 hF
        refine kw_iload_n (pc := 57) (i := 34) (k := 1) (n := 3) rfl rfl rfl ?_
        exact kw_ireturn (pc := 58) (i := 35) (ty := .int) rfl rfl rfl ⟨rfl, _, rfl, hF⟩
      · replace hF := kf_p c10 hF
        refine kw_iload_n (pc := 19) (i := 11) (k := 1) (n := 3) rfl rfl rfl ?_
        refine kw_aload_n (pc := 20) (i := 12) (k := 2) (n := 0) rfl rfl rfl ?_
        refine kw_aload_n (pc := 21) (i := 13) (k := 2) (n := 0) rfl rfl rfl ?_
        refine kw_iload_n (pc := 22) (i := 14) (k := 3) (n := 1) rfl rfl rfl ?_
        refine kw_iload (pc := 23) (i := 15) (k := 0) (n := 4) rfl rfl ?_
        refine kw_callV (pc := 25) (i := 16) (Y := mX8_rowAt) (a := 0) (As := [.int a, .int x2]) (st := [.ref 0, .int x3]) kw_hE rfl rfl lvX8_115 arX8_rowAt (c_X8_rowAt_0 l T hT0 hT1 σ hI a x2 (by first | omega | decide) (by first | omega | decide) (by first | omega | decide) (by first | omega | decide)) (by decide) (Nat.le_of_ble_eq_true rfl) rfl (fun v S12 p11 => ?_)
        obtain ⟨e15, z14, rfl, ef13⟩ := p11
        rw [e15]
        replace hF := kf_le ef13 hF
        have r_z14 := kw_rng z14
        show kw_AW l 4 kw_E0 KM mX8_gustMiles (p_X8_gustMiles_0 T σ a g) 28 [(4, .int x2), (3, .int x3), (0, .ref 0), (1, .int a), (2, .int g)] [.int z14, .ref 0, .int x3] σ
        refine kw_aload_n (pc := 28) (i := 17) (k := 2) (n := 0) rfl rfl rfl ?_
        refine kw_aload_n (pc := 29) (i := 18) (k := 2) (n := 0) rfl rfl rfl ?_
        refine kw_get (pc := 30) (i := 19) (v := .int (σ.1 0 22)) rfl rfl rfl lkX8_166 (fun _ => rfl) ?_
        have b16 : 0 ≤ (σ.1 0 22).toInt ∧ (σ.1 0 22).toInt ≤ T := hI 0 22
        refine kw_iload (pc := 33) (i := 20) (k := 0) (n := 4) rfl rfl ?_
        refine kw_iadd (pc := 35) (i := 21) rfl (fun z17 e_z17 t_z17 => ?_)
        replace hF := kf_le e_z17 hF
        first | (have u_z17 : z17.toInt = (σ.1 0 22).toInt + x2.toInt := (by omega); clear t_z17) | skip
        refine kw_callV (pc := 36) (i := 22) (Y := mX8_windAt) (a := 0) (As := [.int z17]) (st := [.int z14, .ref 0, .int x3]) kw_hE rfl rfl lvX8_196 arX8_windAt (c_X8_windAt_0 l T hT0 hT1 σ hI z17 (by first | omega | decide)) (by decide) (Nat.le_of_ble_eq_true rfl) rfl (fun v S19 p18 => ?_)
        obtain ⟨e22, z21, rfl, ef20⟩ := p18
        rw [e22]
        replace hF := kf_le ef20 hF
        have r_z21 := kw_rng z21
        show kw_AW l 4 kw_E0 KM mX8_gustMiles (p_X8_gustMiles_0 T σ a g) 39 [(4, .int x2), (3, .int x3), (0, .ref 0), (1, .int a), (2, .int g)] [.int z21, .int z14, .ref 0, .int x3] σ
        refine kw_iload_n (pc := 39) (i := 23) (k := 4) (n := 2) rfl rfl rfl ?_
        refine kw_iload (pc := 40) (i := 24) (k := 0) (n := 4) rfl rfl ?_
        refine kw_ishr (pc := 42) (i := 25) rfl (fun z23 e_z23 => ?_)
        have r_z23 := kw_rng z23
        replace hF := kf_le e_z23 hF
        refine kw_iconst (pc := 43) (i := 26) (v := 1) rfl rfl ?_
        refine kw_iand (pc := 44) (i := 27) rfl (fun z24 e_z24 => ?_)
        have r_z24 := kw_rng z24
        replace hF := kf_le e_z24 hF
        have t_z24 := kw_andI z23 (1 : Int32) z24 e_z24
        first | (replace t_z24 := t_z24 (by omega) (by omega)) | skip
        refine kw_iadd (pc := 45) (i := 28) rfl (fun z25 e_z25 t_z25 => ?_)
        replace hF := kf_le e_z25 hF
        first | (have u_z25 : z25.toInt = z21.toInt + z24.toInt := (by omega); clear t_z25) | skip
        refine kw_callV (pc := 46) (i := 29) (Y := mX8_milesBy) (a := 0) (As := [.int z14, .int z25]) (st := [.int x3]) kw_hE rfl rfl lvX8_199 arX8_milesBy (c_X8_milesBy_0 l T hT0 hT1 σ hI z14 z25 ) (by decide) (Nat.le_of_ble_eq_true rfl) rfl (fun v S27 p26 => ?_)
        obtain ⟨e30, z29, rfl, ef28⟩ := p26
        rw [e30]
        replace hF := kf_le ef28 hF
        have r_z29 := kw_rng z29
        show kw_AW l 4 kw_E0 KM mX8_gustMiles (p_X8_gustMiles_0 T σ a g) 49 [(4, .int x2), (3, .int x3), (0, .ref 0), (1, .int a), (2, .int g)] [.int z29, .int x3] σ
        refine kw_iadd (pc := 49) (i := 30) rfl (fun z31 e_z31 t_z31 => ?_)
        replace hF := kf_le e_z31 hF
        first | (have u_z31 : z31.toInt = x3.toInt + z29.toInt := (by omega); clear t_z31) | skip
        refine kw_istore_n (pc := 50) (i := 31) (n := 3) (lv' := [(3, .int z31), (4, .int x2), (0, .ref 0), (1, .int a), (2, .int g)]) rfl rfl (by decide) rfl ?_
        refine kw_iinc' (pc := 51) (i := 32) (k := 1) (fun z => [(4, .int z), (3, .int z31), (0, .ref 0), (1, .int a), (2, .int g)]) rfl rfl (by decide) rfl (fun _ => rfl) (fun z32 e_z32 t_z32 => ?_)
        replace hF := kf_le e_z32 hF
        first | (have u_z32 : z32.toInt = x2.toInt + 1 := (by omega); clear t_z32) | skip
        refine kw_goto (pc := 54) (i := 33) (tgt := 8) rfl rfl ?_
        refine kw_sub (lv' := [(4, .int z32), (3, .int z31), (0, .ref 0), (1, .int a), (2, .int g)]) [0, 1, 2, 3, 4] rfl ?_
        exact ih5 z32 z31 (by omega) hF (by omega)
  exact L4 _ 0 (σ.1 0 23) (by omega) hF (Nat.lt_succ_self _)
noncomputable def f_X8_weightOf_0 (σ : kw_S) (g : Int32) (n : Int32) (p : Int32) : Int64 := kf_l p.toInt64 fun z1 => kf_l (f_X8_bits σ g) fun z2 => kf_l (f_X8_power σ z1 z2) fun z3 => kf_l ((12 : Int32) - p) fun z4 => kf_l z4.toInt64 fun z5 => kf_l (f_X8_bits σ g) fun z6 => kf_l (n - z6) fun z7 => kf_l (f_X8_power σ z5 z7) fun z8 => kf_l (z3 * z8) fun z9 => z9
theorem f_X8_weightOf_0_u (σ : kw_S) (g : Int32) (n : Int32) (p : Int32) : f_X8_weightOf_0 σ g n p = kf_l p.toInt64 fun z1 => kf_l (f_X8_bits σ g) fun z2 => kf_l (f_X8_power σ z1 z2) fun z3 => kf_l ((12 : Int32) - p) fun z4 => kf_l z4.toInt64 fun z5 => kf_l (f_X8_bits σ g) fun z6 => kf_l (n - z6) fun z7 => kf_l (f_X8_power σ z5 z7) fun z8 => kf_l (z3 * z8) fun z9 => z9 := rfl
abbrev p_X8_weightOf_0 (T : Int) (σ : kw_S) (g : Int32) (n : Int32) (p : Int32) : Option Value → kw_S → Prop := fun vv σ' => σ' = σ ∧ ∃ r : Int64, vv = some (.long r) ∧ r = f_X8_weightOf_0 σ g n p
set_option maxRecDepth 100000 in
set_option maxHeartbeats 4000000 in
theorem c_X8_weightOf_0 (l : Launch) (T : Int) (hT0 : 0 ≤ T) (hT1 : T ≤ 3000) (σ : kw_S) (hI : kw_I (bM T) σ) (g : Int32) (n : Int32) (p : Int32) : kw_Met l 2 KM mX8_weightOf [.ref 0, .int g, .int n, .int p] σ (p_X8_weightOf_0 T σ g n p) := by
  have r_g := kw_rng g
  have r_n := kw_rng n
  have r_p := kw_rng p
  have hF := (f_X8_weightOf_0_u σ g n p).symm
  have q_12 : (12 : Int32).toInt = 12 := rfl
  refine kw_Met.of (by decide) rfl tX8_weightOf (Nat.le_of_ble_eq_true rfl) ?_
  show kw_AW l 2 kw_E0 KM mX8_weightOf (p_X8_weightOf_0 T σ g n p) 0 [(0, .ref 0), (1, .int g), (2, .int n), (3, .int p)] [] σ
  refine kw_iload_n (pc := 0) (i := 0) (k := 3) (n := 3) rfl rfl rfl ?_
  refine kw_i2l (pc := 1) (i := 1) rfl (fun z1 e_z1 t_z1 => ?_)
  replace hF := kf_le e_z1 hF
  refine kw_iload_n (pc := 2) (i := 2) (k := 1) (n := 1) rfl rfl rfl ?_
  refine kw_callS (pc := 3) (i := 3) (Y := mX8_bits) (As := [.int g]) (st := [.long z1]) kw_hE rfl lsX8_217 arX8_bits (c_X8_bits l T hT0 hT1 σ hI g ) (by decide) (Nat.le_of_ble_eq_true rfl) rfl (fun v S3 p2 => ?_)
  obtain ⟨e6, z5, rfl, ef4⟩ := p2
  rw [e6]
  replace hF := kf_le ef4 hF
  have r_z5 := kw_rng z5
  show kw_AW l 2 kw_E0 KM mX8_weightOf (p_X8_weightOf_0 T σ g n p) 6 [(0, .ref 0), (1, .int g), (2, .int n), (3, .int p)] [.int z5, .long z1] σ
  refine kw_callS (pc := 6) (i := 4) (Y := mX8_power) (As := [.long z1, .int z5]) (st := []) kw_hE rfl lsX8_277 arX8_power (c_X8_power l T hT0 hT1 σ hI z1 z5 ) (by decide) (Nat.le_of_ble_eq_true rfl) rfl (fun v S8 p7 => ?_)
  obtain ⟨e11, z10, rfl, ef9⟩ := p7
  rw [e11]
  replace hF := kf_le ef9 hF
  show kw_AW l 2 kw_E0 KM mX8_weightOf (p_X8_weightOf_0 T σ g n p) 9 [(0, .ref 0), (1, .int g), (2, .int n), (3, .int p)] [.long z10] σ
  refine kw_bipush (pc := 9) (i := 5) (v := 12) rfl rfl ?_
  refine kw_iload_n (pc := 11) (i := 6) (k := 3) (n := 3) rfl rfl rfl ?_
  refine kw_isub (pc := 12) (i := 7) rfl (fun z12 e_z12 t_z12 => ?_)
  replace hF := kf_le e_z12 hF
  first | (have u_z12 : z12.toInt = 12 - p.toInt := (by omega); clear t_z12) | skip
  refine kw_i2l (pc := 13) (i := 8) rfl (fun z13 e_z13 t_z13 => ?_)
  replace hF := kf_le e_z13 hF
  refine kw_iload_n (pc := 14) (i := 9) (k := 2) (n := 2) rfl rfl rfl ?_
  refine kw_iload_n (pc := 15) (i := 10) (k := 1) (n := 1) rfl rfl rfl ?_
  refine kw_callS (pc := 16) (i := 11) (Y := mX8_bits) (As := [.int g]) (st := [.int n, .long z13, .long z10]) kw_hE rfl lsX8_217 arX8_bits (c_X8_bits l T hT0 hT1 σ hI g ) (by decide) (Nat.le_of_ble_eq_true rfl) rfl (fun v S15 p14 => ?_)
  obtain ⟨e18, z17, rfl, ef16⟩ := p14
  rw [e18]
  replace hF := kf_le ef16 hF
  have r_z17 := kw_rng z17
  show kw_AW l 2 kw_E0 KM mX8_weightOf (p_X8_weightOf_0 T σ g n p) 19 [(0, .ref 0), (1, .int g), (2, .int n), (3, .int p)] [.int z17, .int n, .long z13, .long z10] σ
  refine kw_isub (pc := 19) (i := 12) rfl (fun z19 e_z19 t_z19 => ?_)
  replace hF := kf_le e_z19 hF
  first | (have u_z19 : z19.toInt = n.toInt - z17.toInt := (by omega); clear t_z19) | skip
  refine kw_callS (pc := 20) (i := 13) (Y := mX8_power) (As := [.long z13, .int z19]) (st := [.long z10]) kw_hE rfl lsX8_277 arX8_power (c_X8_power l T hT0 hT1 σ hI z13 z19 ) (by decide) (Nat.le_of_ble_eq_true rfl) rfl (fun v S21 p20 => ?_)
  obtain ⟨e24, z23, rfl, ef22⟩ := p20
  rw [e24]
  replace hF := kf_le ef22 hF
  show kw_AW l 2 kw_E0 KM mX8_weightOf (p_X8_weightOf_0 T σ g n p) 23 [(0, .ref 0), (1, .int g), (2, .int n), (3, .int p)] [.long z23, .long z10] σ
  refine kw_lmul (pc := 23) (i := 14) rfl (fun z25 e_z25 => ?_)
  replace hF := kf_le e_z25 hF
  exact kw_lreturn (pc := 24) (i := 15) rfl rfl ⟨rfl, _, rfl, hF⟩
noncomputable def l_X8_mid_0_40 (a1 : Int32) (a2 : Int32) (a3 : Int32) (a4 : Int32) (S : kw_S) : Nat → Int64 → Int32 → Int32 × kw_S
  | 0, _, _ => (0, S)
  | n + 1, x5, x7 => kf_l ((1 : Int32) <<< (a4 &&& 31)) fun z5 => if x7.toInt < z5.toInt then (kf_l (f_X8_gustMiles_0 S a1 x7) fun z9 => kf_l z9.toInt64 fun z10 => kf_l (f_X8_weightOf_0 S x7 a4 a2) fun z11 => kf_l (z10 * z11) fun z12 => kf_l (x5 + z12) fun z13 => kf_l (x7 + Int32.ofInt 1) fun z14 => l_X8_mid_0_40 a1 a2 a3 a4 S n z13 z14) else (kf_l (f_X8_powerv12 S (12 : Int64) a4) fun z6 => kf_b (f_X8_part_0 S x5 z6) fun z7 S8 => (z7, S8))
theorem l_X8_mid_0_40_s (a1 : Int32) (a2 : Int32) (a3 : Int32) (a4 : Int32) (S : kw_S) (n : Nat) (x5 : Int64) (x7 : Int32) : l_X8_mid_0_40 a1 a2 a3 a4 S (n + 1) x5 x7 = kf_l ((1 : Int32) <<< (a4 &&& 31)) fun z5 => if x7.toInt < z5.toInt then (kf_l (f_X8_gustMiles_0 S a1 x7) fun z9 => kf_l z9.toInt64 fun z10 => kf_l (f_X8_weightOf_0 S x7 a4 a2) fun z11 => kf_l (z10 * z11) fun z12 => kf_l (x5 + z12) fun z13 => kf_l (x7 + Int32.ofInt 1) fun z14 => l_X8_mid_0_40 a1 a2 a3 a4 S n z13 z14) else (kf_l (f_X8_powerv12 S (12 : Int64) a4) fun z6 => kf_b (f_X8_part_0 S x5 z6) fun z7 S8 => (z7, S8)) := rfl
noncomputable def f_X8_mid_0 (σ : kw_S) (a : Int32) (p : Int32) : Int32 × kw_S := kf_l (f_X8_in σ p (0 : Int32) (12 : Int32)) fun z1 => if z1.toInt = 0 then (if ((-1) : Int32).toInt < 0 then ((((-1) : Int32), σ)) else ((0, σ))) else (kf_b (f_X8_askedPlan_0 σ a) fun z2 S3 => if z2.toInt < 0 then ((z2, S3)) else (kf_l (S3.1 2 a.toNatClampNeg) fun z4 => l_X8_mid_0_40 a p z2 z4 S3 ((65 - (0 : Int32).toInt).toNat + 1) (0 : Int64) (0 : Int32)))
theorem f_X8_mid_0_u (σ : kw_S) (a : Int32) (p : Int32) : f_X8_mid_0 σ a p = kf_l (f_X8_in σ p (0 : Int32) (12 : Int32)) fun z1 => if z1.toInt = 0 then (if ((-1) : Int32).toInt < 0 then ((((-1) : Int32), σ)) else ((0, σ))) else (kf_b (f_X8_askedPlan_0 σ a) fun z2 S3 => if z2.toInt < 0 then ((z2, S3)) else (kf_l (S3.1 2 a.toNatClampNeg) fun z4 => l_X8_mid_0_40 a p z2 z4 S3 ((65 - (0 : Int32).toInt).toNat + 1) (0 : Int64) (0 : Int32))) := rfl
abbrev p_X8_mid_0 (T : Int) (σ : kw_S) (a : Int32) (p : Int32) : Option Value → kw_S → Prop := fun vv σ' => (kw_I (bM T) σ' ∧ kw_FM [1, 1000, 2003, 2004] σ σ') ∧ ∃ r : Int32, vv = some (.int r) ∧ (r, σ') = f_X8_mid_0 σ a p
set_option maxRecDepth 100000 in
set_option maxHeartbeats 4000000 in
theorem c_X8_mid_0 (l : Launch) (T : Int) (hT0 : 0 ≤ T) (hT1 : T ≤ 3000) (σ : kw_S) (hI : kw_I (bM T) σ) (a : Int32) (p : Int32) : kw_Met l 5 KM mX8_mid [.ref 0, .int a, .int p] σ (p_X8_mid_0 T σ a p) := by
  have r_a := kw_rng a
  have r_p := kw_rng p
  have hF0 : kw_FM [1, 1000, 2003, 2004] σ σ := kw_FM.rf
  have hF := (f_X8_mid_0_u σ a p).symm
  have q_m1 : (-1 : Int32).toInt = -1 := rfl
  have q_0 : (0 : Int32).toInt = 0 := rfl
  have q_1 : (1 : Int32).toInt = 1 := rfl
  have q_12 : (12 : Int32).toInt = 12 := rfl
  refine kw_Met.of (by decide) rfl tX8_mid (Nat.le_of_ble_eq_true rfl) ?_
  show kw_AW l 5 kw_E0 KM mX8_mid (p_X8_mid_0 T σ a p) 0 [(0, .ref 0), (1, .int a), (2, .int p)] [] σ
  refine kw_iload_n (pc := 0) (i := 0) (k := 2) (n := 2) rfl rfl rfl ?_
  refine kw_iconst (pc := 1) (i := 1) (v := 0) rfl rfl ?_
  refine kw_bipush (pc := 2) (i := 2) (v := 12) rfl rfl ?_
  refine kw_callS (pc := 4) (i := 3) (Y := mX8_in) (As := [.int p, .int 0, .int 12]) (st := []) kw_hE rfl lsX8_93 arX8_in (c_X8_in l T hT0 hT1 σ hI p 0 12 ) (by decide) (Nat.le_of_ble_eq_true rfl) rfl (fun v S2 p1 => ?_)
  obtain ⟨e8, z7, rfl, f3, f4, f5, ef6⟩ := p1
  rw [e8]
  replace hF := kf_le ef6 hF
  have r_z7 := kw_rng z7
  show kw_AW l 5 kw_E0 KM mX8_mid (p_X8_mid_0 T σ a p) 7 [(0, .ref 0), (1, .int a), (2, .int p)] [.int z7] σ
  refine kw_if_ne (pc := 7) (i := 4) (tgt := 14) rfl rfl (fun c9 => ?_) (fun c9 => ?_)
  · replace hF := kf_n c9 hF
    refine kw_aload_n (pc := 14) (i := 7) (k := 0) (n := 0) rfl rfl rfl ?_
    refine kw_iload_n (pc := 15) (i := 8) (k := 1) (n := 1) rfl rfl rfl ?_
    refine kw_callV (pc := 16) (i := 9) (Y := mX8_askedPlan) (a := 0) (As := [.int a]) (st := []) kw_hE rfl rfl lvX8_252 arX8_askedPlan (c_X8_askedPlan_0 l T hT0 hT1 σ hI a ) (by decide) (Nat.le_of_ble_eq_true rfl) rfl (fun v S11 p10 => ?_)
    obtain ⟨⟨I15, F16⟩, z14, rfl, f12, ef13⟩ := p10
    have F17 : kw_FM [1, 1000, 2003, 2004] σ S11 := kw_FM.tr hF0 F16 (by decide)
    have w_18 : (S11.1 0 27).toInt = (σ.1 0 27).toInt := congrArg Int32.toInt (kw_FM.at0 (j := 27) F16 (by decide))
    replace hF := kf_be ef13 hF
    have r_z14 := kw_rng z14
    show kw_AW l 5 kw_E0 KM mX8_mid (p_X8_mid_0 T σ a p) 19 [(0, .ref 0), (1, .int a), (2, .int p)] [.int z14] S11
    refine kw_istore_n (pc := 19) (i := 10) (n := 3) (lv' := [(3, .int z14), (0, .ref 0), (1, .int a), (2, .int p)]) rfl rfl (by decide) rfl ?_
    refine kw_iload_n (pc := 20) (i := 11) (k := 0) (n := 3) rfl rfl rfl ?_
    refine kw_if_ge (pc := 21) (i := 12) (tgt := 26) rfl rfl (fun c19 => ?_) (fun c19 => ?_)
    · replace hF := kf_nl c19 hF
      refine kw_aload_n (pc := 26) (i := 15) (k := 1) (n := 0) rfl rfl rfl ?_
      refine kw_get (pc := 27) (i := 16) (v := .ref 2) rfl rfl rfl lkX8_17 (fun _ => rfl) ?_
      refine kw_iload_n (pc := 30) (i := 17) (k := 2) (n := 1) rfl rfl rfl ?_
      refine kw_iald (pc := 31) (i := 18) (n := 6) rfl rfl (by omega) (by omega) (fun z20 e_z20 => ?_)
      replace hF := kf_le e_z20 hF
      have t_z20 := congrArg Int32.toInt e_z20
      have b_z20 : -9 ≤ z20.toInt ∧ z20.toInt ≤ 40 := by rw [e_z20]; exact I15 2 _
      refine kw_istore (pc := 32) (i := 19) (n := 4) (lv' := [(4, .int z20), (3, .int z14), (0, .ref 0), (1, .int a), (2, .int p)]) rfl (by decide) rfl ?_
      refine kw_lconst (pc := 34) (i := 20) (v := 0) rfl rfl ?_
      refine kw_lstore (pc := 35) (i := 21) (n := 5) (lv' := [(5, .long 0), (4, .int z20), (3, .int z14), (0, .ref 0), (1, .int a), (2, .int p)]) rfl (by decide) rfl ?_
      refine kw_iconst (pc := 37) (i := 22) (v := 0) rfl rfl ?_
      refine kw_istore (pc := 38) (i := 23) (n := 7) (lv' := [(7, .int 0), (5, .long 0), (4, .int z20), (3, .int z14), (0, .ref 0), (1, .int a), (2, .int p)]) rfl (by decide) rfl ?_
      have L23 : ∀ (n27 : Nat) (x21 : Int32) (x22 : Int64), 0 ≤ x21.toInt → l_X8_mid_0_40 a p z14 z20 S11 n27 x22 x21 = (f_X8_mid_0 σ a p) → (65 - x21.toInt).toNat < n27 → kw_AW l 5 kw_E0 KM mX8_mid (p_X8_mid_0 T σ a p) 40 [(7, .int x21), (5, .long x22), (4, .int z20), (3, .int z14), (0, .ref 0), (1, .int a), (2, .int p)] [] S11 := by
        intro n27
        induction n27 with
        | zero => intro x21 x22 v25 hF m26; exact absurd m26 (Nat.not_lt_zero _)
        | succ n27 ih24 =>
          intro x21 x22 v25 hF m26
          replace hF := kf_st (l_X8_mid_0_40_s _ _ _ _ _ _ _ _) hF
          have r_x21 := kw_rng x21
          refine kw_iload (pc := 40) (i := 24) (k := 0) (n := 7) rfl rfl ?_
          refine kw_iconst (pc := 42) (i := 25) (v := 1) rfl rfl ?_
          refine kw_iload (pc := 43) (i := 26) (k := 2) (n := 4) rfl rfl ?_
          refine kw_ishl (pc := 45) (i := 27) rfl (fun z28 e_z28 => ?_)
          have r_z28 := kw_rng z28
          replace hF := kf_le e_z28 hF
          have t_z28 := kw_shlm z20 z28 e_z28
          first | (replace t_z28 := And.intro (t_z28.1 (by omega) (by omega)) (t_z28.2 (by omega) (by omega))) | (replace t_z28 := t_z28.1 (by omega) (by omega)) | skip
          have u_z28 := congrArg Int32.toInt e_z28
          refine kw_icmp_ge (pc := 46) (i := 28) (tgt := 78) rfl rfl (fun c29 => ?_) (fun c29 => ?_)
          · replace hF := kf_nl c29 hF
            refine kw_aload_n (pc := 78) (i := 45) (k := 4) (n := 0) rfl rfl rfl ?_
            refine kw_lload (pc := 79) (i := 46) (k := 1) (n := 5) rfl rfl ?_
            refine kw_ldc2 (pc := 81) (i := 47) (v := 12) rfl ckX8_288 ?_
            refine kw_iload (pc := 84) (i := 48) (k := 2) (n := 4) rfl rfl ?_
            refine kw_callS (pc := 86) (i := 49) (Y := mX8_power) (As := [.long 12, .int z20]) (st := [.long x22, .ref 0]) kw_hE rfl lsX8_277 arX8_power (c_X8_powerv12 l T hT0 hT1 S11 I15 12 z20 (by first | omega | decide) (by first | omega | decide) (by first | omega | decide)) (by decide) (Nat.le_of_ble_eq_true rfl) rfl (fun v S31 p30 => ?_)
            obtain ⟨e35, z34, rfl, f32, ef33⟩ := p30
            rw [e35]
            replace hF := kf_le ef33 hF
            show kw_AW l 5 kw_E0 KM mX8_mid (p_X8_mid_0 T σ a p) 89 [(7, .int x21), (5, .long x22), (4, .int z20), (3, .int z14), (0, .ref 0), (1, .int a), (2, .int p)] [.long z34, .long x22, .ref 0] S11
            refine kw_callV (pc := 89) (i := 50) (Y := mX8_part) (a := 0) (As := [.long x22, .long z34]) (st := []) kw_hE rfl rfl lvX8_223 arX8_part (c_X8_part_0 l T hT0 hT1 S11 I15 x22 z34 (by first | omega | decide)) (by decide) (Nat.le_of_ble_eq_true rfl) rfl (fun v S37 p36 => ?_)
            obtain ⟨⟨I41, F42⟩, z40, rfl, f38, ef39⟩ := p36
            have F43 : kw_FM [1, 1000, 2003, 2004] σ S37 := kw_FM.tr F17 F42 (by decide)
            have w_44 : (S37.1 0 27).toInt = (S11.1 0 27).toInt := congrArg Int32.toInt (kw_FM.at0 (j := 27) F42 (by decide))
            replace hF := kf_be ef39 hF
            have r_z40 := kw_rng z40
            show kw_AW l 5 kw_E0 KM mX8_mid (p_X8_mid_0 T σ a p) 92 [(7, .int x21), (5, .long x22), (4, .int z20), (3, .int z14), (0, .ref 0), (1, .int a), (2, .int p)] [.int z40] S37
            exact kw_ireturn (pc := 92) (i := 51) (ty := .int) rfl rfl rfl ⟨⟨I41, F43⟩, _, rfl, hF⟩
          · replace hF := kf_p c29 hF
            refine kw_lload (pc := 49) (i := 29) (k := 1) (n := 5) rfl rfl ?_
            refine kw_aload_n (pc := 51) (i := 30) (k := 4) (n := 0) rfl rfl rfl ?_
            refine kw_iload_n (pc := 52) (i := 31) (k := 5) (n := 1) rfl rfl rfl ?_
            refine kw_iload (pc := 53) (i := 32) (k := 0) (n := 7) rfl rfl ?_
            refine kw_callV (pc := 55) (i := 33) (Y := mX8_gustMiles) (a := 0) (As := [.int a, .int x21]) (st := [.long x22]) kw_hE rfl rfl lvX8_281 arX8_gustMiles (c_X8_gustMiles_0 l T hT0 hT1 S11 I15 a x21 (by first | omega | decide) (by first | omega | decide)) (by decide) (Nat.le_of_ble_eq_true rfl) rfl (fun v S46 p45 => ?_)
            obtain ⟨e49, z48, rfl, ef47⟩ := p45
            rw [e49]
            replace hF := kf_le ef47 hF
            have r_z48 := kw_rng z48
            show kw_AW l 5 kw_E0 KM mX8_mid (p_X8_mid_0 T σ a p) 58 [(7, .int x21), (5, .long x22), (4, .int z20), (3, .int z14), (0, .ref 0), (1, .int a), (2, .int p)] [.int z48, .long x22] S11
            refine kw_i2l (pc := 58) (i := 34) rfl (fun z50 e_z50 t_z50 => ?_)
            replace hF := kf_le e_z50 hF
            refine kw_aload_n (pc := 59) (i := 35) (k := 4) (n := 0) rfl rfl rfl ?_
            refine kw_iload (pc := 60) (i := 36) (k := 0) (n := 7) rfl rfl ?_
            refine kw_iload (pc := 62) (i := 37) (k := 2) (n := 4) rfl rfl ?_
            refine kw_iload_n (pc := 64) (i := 38) (k := 6) (n := 2) rfl rfl rfl ?_
            refine kw_callV (pc := 65) (i := 39) (Y := mX8_weightOf) (a := 0) (As := [.int x21, .int z20, .int p]) (st := [.long z50, .long x22]) kw_hE rfl rfl lvX8_284 arX8_weightOf (c_X8_weightOf_0 l T hT0 hT1 S11 I15 x21 z20 p ) (by decide) (Nat.le_of_ble_eq_true rfl) rfl (fun v S52 p51 => ?_)
            obtain ⟨e55, z54, rfl, ef53⟩ := p51
            rw [e55]
            replace hF := kf_le ef53 hF
            show kw_AW l 5 kw_E0 KM mX8_mid (p_X8_mid_0 T σ a p) 68 [(7, .int x21), (5, .long x22), (4, .int z20), (3, .int z14), (0, .ref 0), (1, .int a), (2, .int p)] [.long z54, .long z50, .long x22] S11
            refine kw_lmul (pc := 68) (i := 40) rfl (fun z56 e_z56 => ?_)
            replace hF := kf_le e_z56 hF
            refine kw_ladd (pc := 69) (i := 41) rfl (fun z57 e_z57 => ?_)
            replace hF := kf_le e_z57 hF
            have t_z57 := kw_laddI x22 z56 z57 e_z57
            first | (have u_z57 : z57.toInt = x22.toInt + z56.toInt := (by omega); clear t_z57) | skip
            refine kw_lstore (pc := 70) (i := 42) (n := 5) (lv' := [(5, .long z57), (7, .int x21), (4, .int z20), (3, .int z14), (0, .ref 0), (1, .int a), (2, .int p)]) rfl (by decide) rfl ?_
            refine kw_iinc' (pc := 72) (i := 43) (k := 1) (fun z => [(7, .int z), (5, .long z57), (4, .int z20), (3, .int z14), (0, .ref 0), (1, .int a), (2, .int p)]) rfl rfl (by decide) rfl (fun _ => rfl) (fun z58 e_z58 t_z58 => ?_)
            replace hF := kf_le e_z58 hF
            first | (have u_z58 : z58.toInt = x21.toInt + 1 := (by omega); clear t_z58) | skip
            refine kw_goto (pc := 75) (i := 44) (tgt := 40) rfl rfl ?_
            refine kw_sub (lv' := [(7, .int z58), (5, .long z57), (4, .int z20), (3, .int z14), (0, .ref 0), (1, .int a), (2, .int p)]) [0, 1, 2, 3, 4, 5, 6] rfl ?_
            exact ih24 z58 z57 (by omega) hF (by omega)
      exact L23 _ 0 0 (by omega) hF (Nat.lt_succ_self _)
    · replace hF := kf_p c19 hF
      refine kw_iload_n (pc := 24) (i := 13) (k := 0) (n := 3) rfl rfl rfl ?_
      exact kw_ireturn (pc := 25) (i := 14) (ty := .int) rfl rfl rfl ⟨⟨I15, F17⟩, _, rfl, hF⟩
  · replace hF := kf_p c9 hF
    refine kw_iconst (pc := 10) (i := 5) (v := (-1)) rfl rfl ?_
    refine kw_goto (pc := 11) (i := 6) (tgt := 19) rfl rfl ?_
    refine kw_istore_n (pc := 19) (i := 10) (n := 3) (lv' := [(3, .int (-1)), (0, .ref 0), (1, .int a), (2, .int p)]) rfl rfl (by decide) rfl ?_
    refine kw_iload_n (pc := 20) (i := 11) (k := 0) (n := 3) rfl rfl rfl ?_
    refine kw_if_ge (pc := 21) (i := 12) (tgt := 26) rfl rfl (fun c59 => ?_) (fun c59 => ?_)
    · exfalso; omega
    · replace hF := kf_p c59 hF
      refine kw_iload_n (pc := 24) (i := 13) (k := 0) (n := 3) rfl rfl rfl ?_
      exact kw_ireturn (pc := 25) (i := 14) (ty := .int) rfl rfl rfl ⟨⟨hI, hF0⟩, _, rfl, hF⟩
noncomputable def l_X8_odds_0_56 (a1 : Int32) (a2 : Int32) (a3 : Int32) (a4 : Int32) (a5 : Int32) (S : kw_S) : Nat → Int64 → Int32 → Int32 × kw_S
  | 0, _, _ => (0, S)
  | n + 1, x6, x8 => kf_l ((1 : Int32) <<< (a5 &&& 31)) fun z6 => if x8.toInt < z6.toInt then (kf_l (f_X8_gustMiles_0 S a1 x8) fun z10 => if z10.toInt < a2.toInt then (kf_l (x6 + (0 : Int64)) fun z11 => kf_l (x8 + Int32.ofInt 1) fun z12 => l_X8_odds_0_56 a1 a2 a3 a4 a5 S n z11 z12) else (kf_l (f_X8_weightOf_0 S x8 a5 a3) fun z13 => kf_l (x6 + z13) fun z14 => kf_l (x8 + Int32.ofInt 1) fun z15 => l_X8_odds_0_56 a1 a2 a3 a4 a5 S n z14 z15)) else (kf_l (f_X8_powerv12 S (12 : Int64) a5) fun z7 => kf_b (f_X8_part_0 S x6 z7) fun z8 S9 => (z8, S9))
theorem l_X8_odds_0_56_s (a1 : Int32) (a2 : Int32) (a3 : Int32) (a4 : Int32) (a5 : Int32) (S : kw_S) (n : Nat) (x6 : Int64) (x8 : Int32) : l_X8_odds_0_56 a1 a2 a3 a4 a5 S (n + 1) x6 x8 = kf_l ((1 : Int32) <<< (a5 &&& 31)) fun z6 => if x8.toInt < z6.toInt then (kf_l (f_X8_gustMiles_0 S a1 x8) fun z10 => if z10.toInt < a2.toInt then (kf_l (x6 + (0 : Int64)) fun z11 => kf_l (x8 + Int32.ofInt 1) fun z12 => l_X8_odds_0_56 a1 a2 a3 a4 a5 S n z11 z12) else (kf_l (f_X8_weightOf_0 S x8 a5 a3) fun z13 => kf_l (x6 + z13) fun z14 => kf_l (x8 + Int32.ofInt 1) fun z15 => l_X8_odds_0_56 a1 a2 a3 a4 a5 S n z14 z15)) else (kf_l (f_X8_powerv12 S (12 : Int64) a5) fun z7 => kf_b (f_X8_part_0 S x6 z7) fun z8 S9 => (z8, S9)) := rfl
noncomputable def f_X8_odds_0 (σ : kw_S) (a : Int32) (m : Int32) (p : Int32) : Int32 × kw_S := kf_l (f_X8_in σ p (0 : Int32) (12 : Int32)) fun z1 => if z1.toInt = 0 then (if ((-1) : Int32).toInt < 0 then ((((-1) : Int32), σ)) else ((0, σ))) else (kf_l (f_X8_in σ m ((-999) : Int32) (999 : Int32)) fun z2 => if z2.toInt = 0 then (if ((-1) : Int32).toInt < 0 then ((((-1) : Int32), σ)) else ((0, σ))) else (kf_b (f_X8_askedPlan_0 σ a) fun z3 S4 => if z3.toInt < 0 then ((z3, S4)) else (kf_l (S4.1 2 a.toNatClampNeg) fun z5 => l_X8_odds_0_56 a m p z3 z5 S4 ((65 - (0 : Int32).toInt).toNat + 1) (0 : Int64) (0 : Int32))))
theorem f_X8_odds_0_u (σ : kw_S) (a : Int32) (m : Int32) (p : Int32) : f_X8_odds_0 σ a m p = kf_l (f_X8_in σ p (0 : Int32) (12 : Int32)) fun z1 => if z1.toInt = 0 then (if ((-1) : Int32).toInt < 0 then ((((-1) : Int32), σ)) else ((0, σ))) else (kf_l (f_X8_in σ m ((-999) : Int32) (999 : Int32)) fun z2 => if z2.toInt = 0 then (if ((-1) : Int32).toInt < 0 then ((((-1) : Int32), σ)) else ((0, σ))) else (kf_b (f_X8_askedPlan_0 σ a) fun z3 S4 => if z3.toInt < 0 then ((z3, S4)) else (kf_l (S4.1 2 a.toNatClampNeg) fun z5 => l_X8_odds_0_56 a m p z3 z5 S4 ((65 - (0 : Int32).toInt).toNat + 1) (0 : Int64) (0 : Int32)))) := rfl
abbrev p_X8_odds_0 (T : Int) (σ : kw_S) (a : Int32) (m : Int32) (p : Int32) : Option Value → kw_S → Prop := fun vv σ' => (kw_I (bM T) σ' ∧ kw_FM [1, 1000, 2003, 2004] σ σ') ∧ ∃ r : Int32, vv = some (.int r) ∧ (r, σ') = f_X8_odds_0 σ a m p
set_option maxRecDepth 100000 in
set_option maxHeartbeats 4000000 in
theorem c_X8_odds_0 (l : Launch) (T : Int) (hT0 : 0 ≤ T) (hT1 : T ≤ 3000) (σ : kw_S) (hI : kw_I (bM T) σ) (a : Int32) (m : Int32) (p : Int32) : kw_Met l 5 KM mX8_odds [.ref 0, .int a, .int m, .int p] σ (p_X8_odds_0 T σ a m p) := by
  have r_a := kw_rng a
  have r_m := kw_rng m
  have r_p := kw_rng p
  have hF0 : kw_FM [1, 1000, 2003, 2004] σ σ := kw_FM.rf
  have hF := (f_X8_odds_0_u σ a m p).symm
  have q_m999 : (-999 : Int32).toInt = -999 := rfl
  have q_m1 : (-1 : Int32).toInt = -1 := rfl
  have q_0 : (0 : Int32).toInt = 0 := rfl
  have q_1 : (1 : Int32).toInt = 1 := rfl
  have q_12 : (12 : Int32).toInt = 12 := rfl
  have q_999 : (999 : Int32).toInt = 999 := rfl
  refine kw_Met.of (by decide) rfl tX8_odds (Nat.le_of_ble_eq_true rfl) ?_
  show kw_AW l 5 kw_E0 KM mX8_odds (p_X8_odds_0 T σ a m p) 0 [(0, .ref 0), (1, .int a), (2, .int m), (3, .int p)] [] σ
  refine kw_iload_n (pc := 0) (i := 0) (k := 3) (n := 3) rfl rfl rfl ?_
  refine kw_iconst (pc := 1) (i := 1) (v := 0) rfl rfl ?_
  refine kw_bipush (pc := 2) (i := 2) (v := 12) rfl rfl ?_
  refine kw_callS (pc := 4) (i := 3) (Y := mX8_in) (As := [.int p, .int 0, .int 12]) (st := []) kw_hE rfl lsX8_93 arX8_in (c_X8_in l T hT0 hT1 σ hI p 0 12 ) (by decide) (Nat.le_of_ble_eq_true rfl) rfl (fun v S2 p1 => ?_)
  obtain ⟨e8, z7, rfl, f3, f4, f5, ef6⟩ := p1
  rw [e8]
  replace hF := kf_le ef6 hF
  have r_z7 := kw_rng z7
  show kw_AW l 5 kw_E0 KM mX8_odds (p_X8_odds_0 T σ a m p) 7 [(0, .ref 0), (1, .int a), (2, .int m), (3, .int p)] [.int z7] σ
  refine kw_if_eq (pc := 7) (i := 4) (tgt := 23) rfl rfl (fun c9 => ?_) (fun c9 => ?_)
  · replace hF := kf_p c9 hF
    refine kw_iconst (pc := 23) (i := 10) (v := (-1)) rfl rfl ?_
    refine kw_goto (pc := 24) (i := 11) (tgt := 32) rfl rfl ?_
    refine kw_istore (pc := 32) (i := 15) (n := 4) (lv' := [(4, .int (-1)), (0, .ref 0), (1, .int a), (2, .int m), (3, .int p)]) rfl (by decide) rfl ?_
    refine kw_iload (pc := 34) (i := 16) (k := 0) (n := 4) rfl rfl ?_
    refine kw_if_ge (pc := 36) (i := 17) (tgt := 42) rfl rfl (fun c10 => ?_) (fun c10 => ?_)
    · exfalso; omega
    · replace hF := kf_p c10 hF
      refine kw_iload (pc := 39) (i := 18) (k := 0) (n := 4) rfl rfl ?_
      exact kw_ireturn (pc := 41) (i := 19) (ty := .int) rfl rfl rfl ⟨⟨hI, hF0⟩, _, rfl, hF⟩
  · replace hF := kf_n c9 hF
    refine kw_iload_n (pc := 10) (i := 5) (k := 2) (n := 2) rfl rfl rfl ?_
    refine kw_sipush (pc := 11) (i := 6) (v := (-999)) rfl rfl ?_
    refine kw_sipush (pc := 14) (i := 7) (v := 999) rfl rfl ?_
    refine kw_callS (pc := 17) (i := 8) (Y := mX8_in) (As := [.int m, .int (-999), .int 999]) (st := []) kw_hE rfl lsX8_93 arX8_in (c_X8_in l T hT0 hT1 σ hI m (-999) 999 ) (by decide) (Nat.le_of_ble_eq_true rfl) rfl (fun v S12 p11 => ?_)
    obtain ⟨e18, z17, rfl, f13, f14, f15, ef16⟩ := p11
    rw [e18]
    replace hF := kf_le ef16 hF
    have r_z17 := kw_rng z17
    show kw_AW l 5 kw_E0 KM mX8_odds (p_X8_odds_0 T σ a m p) 20 [(0, .ref 0), (1, .int a), (2, .int m), (3, .int p)] [.int z17] σ
    refine kw_if_ne (pc := 20) (i := 9) (tgt := 27) rfl rfl (fun c19 => ?_) (fun c19 => ?_)
    · replace hF := kf_n c19 hF
      refine kw_aload_n (pc := 27) (i := 12) (k := 0) (n := 0) rfl rfl rfl ?_
      refine kw_iload_n (pc := 28) (i := 13) (k := 1) (n := 1) rfl rfl rfl ?_
      refine kw_callV (pc := 29) (i := 14) (Y := mX8_askedPlan) (a := 0) (As := [.int a]) (st := []) kw_hE rfl rfl lvX8_252 arX8_askedPlan (c_X8_askedPlan_0 l T hT0 hT1 σ hI a ) (by decide) (Nat.le_of_ble_eq_true rfl) rfl (fun v S21 p20 => ?_)
      obtain ⟨⟨I25, F26⟩, z24, rfl, f22, ef23⟩ := p20
      have F27 : kw_FM [1, 1000, 2003, 2004] σ S21 := kw_FM.tr hF0 F26 (by decide)
      have w_28 : (S21.1 0 27).toInt = (σ.1 0 27).toInt := congrArg Int32.toInt (kw_FM.at0 (j := 27) F26 (by decide))
      replace hF := kf_be ef23 hF
      have r_z24 := kw_rng z24
      show kw_AW l 5 kw_E0 KM mX8_odds (p_X8_odds_0 T σ a m p) 32 [(0, .ref 0), (1, .int a), (2, .int m), (3, .int p)] [.int z24] S21
      refine kw_istore (pc := 32) (i := 15) (n := 4) (lv' := [(4, .int z24), (0, .ref 0), (1, .int a), (2, .int m), (3, .int p)]) rfl (by decide) rfl ?_
      refine kw_iload (pc := 34) (i := 16) (k := 0) (n := 4) rfl rfl ?_
      refine kw_if_ge (pc := 36) (i := 17) (tgt := 42) rfl rfl (fun c29 => ?_) (fun c29 => ?_)
      · replace hF := kf_nl c29 hF
        refine kw_aload_n (pc := 42) (i := 20) (k := 1) (n := 0) rfl rfl rfl ?_
        refine kw_get (pc := 43) (i := 21) (v := .ref 2) rfl rfl rfl lkX8_17 (fun _ => rfl) ?_
        refine kw_iload_n (pc := 46) (i := 22) (k := 2) (n := 1) rfl rfl rfl ?_
        refine kw_iald (pc := 47) (i := 23) (n := 6) rfl rfl (by omega) (by omega) (fun z30 e_z30 => ?_)
        replace hF := kf_le e_z30 hF
        have t_z30 := congrArg Int32.toInt e_z30
        have b_z30 : -9 ≤ z30.toInt ∧ z30.toInt ≤ 40 := by rw [e_z30]; exact I25 2 _
        refine kw_istore (pc := 48) (i := 24) (n := 5) (lv' := [(5, .int z30), (4, .int z24), (0, .ref 0), (1, .int a), (2, .int m), (3, .int p)]) rfl (by decide) rfl ?_
        refine kw_lconst (pc := 50) (i := 25) (v := 0) rfl rfl ?_
        refine kw_lstore (pc := 51) (i := 26) (n := 6) (lv' := [(6, .long 0), (5, .int z30), (4, .int z24), (0, .ref 0), (1, .int a), (2, .int m), (3, .int p)]) rfl (by decide) rfl ?_
        refine kw_iconst (pc := 53) (i := 27) (v := 0) rfl rfl ?_
        refine kw_istore (pc := 54) (i := 28) (n := 8) (lv' := [(8, .int 0), (6, .long 0), (5, .int z30), (4, .int z24), (0, .ref 0), (1, .int a), (2, .int m), (3, .int p)]) rfl (by decide) rfl ?_
        have L33 : ∀ (n37 : Nat) (x31 : Int32) (x32 : Int64), 0 ≤ x31.toInt → l_X8_odds_0_56 a m p z24 z30 S21 n37 x32 x31 = (f_X8_odds_0 σ a m p) → (65 - x31.toInt).toNat < n37 → kw_AW l 5 kw_E0 KM mX8_odds (p_X8_odds_0 T σ a m p) 56 [(8, .int x31), (6, .long x32), (5, .int z30), (4, .int z24), (0, .ref 0), (1, .int a), (2, .int m), (3, .int p)] [] S21 := by
          intro n37
          induction n37 with
          | zero => intro x31 x32 v35 hF m36; exact absurd m36 (Nat.not_lt_zero _)
          | succ n37 ih34 =>
            intro x31 x32 v35 hF m36
            replace hF := kf_st (l_X8_odds_0_56_s _ _ _ _ _ _ _ _ _) hF
            have r_x31 := kw_rng x31
            refine kw_iload (pc := 56) (i := 29) (k := 0) (n := 8) rfl rfl ?_
            refine kw_iconst (pc := 58) (i := 30) (v := 1) rfl rfl ?_
            refine kw_iload (pc := 59) (i := 31) (k := 2) (n := 5) rfl rfl ?_
            refine kw_ishl (pc := 61) (i := 32) rfl (fun z38 e_z38 => ?_)
            have r_z38 := kw_rng z38
            replace hF := kf_le e_z38 hF
            have t_z38 := kw_shlm z30 z38 e_z38
            first | (replace t_z38 := And.intro (t_z38.1 (by omega) (by omega)) (t_z38.2 (by omega) (by omega))) | (replace t_z38 := t_z38.1 (by omega) (by omega)) | skip
            have u_z38 := congrArg Int32.toInt e_z38
            refine kw_icmp_ge (pc := 62) (i := 33) (tgt := 100) rfl rfl (fun c39 => ?_) (fun c39 => ?_)
            · replace hF := kf_nl c39 hF
              refine kw_aload_n (pc := 100) (i := 52) (k := 4) (n := 0) rfl rfl rfl ?_
              refine kw_lload (pc := 101) (i := 53) (k := 1) (n := 6) rfl rfl ?_
              refine kw_ldc2 (pc := 103) (i := 54) (v := 12) rfl ckX8_288 ?_
              refine kw_iload (pc := 106) (i := 55) (k := 2) (n := 5) rfl rfl ?_
              refine kw_callS (pc := 108) (i := 56) (Y := mX8_power) (As := [.long 12, .int z30]) (st := [.long x32, .ref 0]) kw_hE rfl lsX8_277 arX8_power (c_X8_powerv12 l T hT0 hT1 S21 I25 12 z30 (by first | omega | decide) (by first | omega | decide) (by first | omega | decide)) (by decide) (Nat.le_of_ble_eq_true rfl) rfl (fun v S41 p40 => ?_)
              obtain ⟨e45, z44, rfl, f42, ef43⟩ := p40
              rw [e45]
              replace hF := kf_le ef43 hF
              show kw_AW l 5 kw_E0 KM mX8_odds (p_X8_odds_0 T σ a m p) 111 [(8, .int x31), (6, .long x32), (5, .int z30), (4, .int z24), (0, .ref 0), (1, .int a), (2, .int m), (3, .int p)] [.long z44, .long x32, .ref 0] S21
              refine kw_callV (pc := 111) (i := 57) (Y := mX8_part) (a := 0) (As := [.long x32, .long z44]) (st := []) kw_hE rfl rfl lvX8_223 arX8_part (c_X8_part_0 l T hT0 hT1 S21 I25 x32 z44 (by first | omega | decide)) (by decide) (Nat.le_of_ble_eq_true rfl) rfl (fun v S47 p46 => ?_)
              obtain ⟨⟨I51, F52⟩, z50, rfl, f48, ef49⟩ := p46
              have F53 : kw_FM [1, 1000, 2003, 2004] σ S47 := kw_FM.tr F27 F52 (by decide)
              have w_54 : (S47.1 0 27).toInt = (S21.1 0 27).toInt := congrArg Int32.toInt (kw_FM.at0 (j := 27) F52 (by decide))
              replace hF := kf_be ef49 hF
              have r_z50 := kw_rng z50
              show kw_AW l 5 kw_E0 KM mX8_odds (p_X8_odds_0 T σ a m p) 114 [(8, .int x31), (6, .long x32), (5, .int z30), (4, .int z24), (0, .ref 0), (1, .int a), (2, .int m), (3, .int p)] [.int z50] S47
              exact kw_ireturn (pc := 114) (i := 58) (ty := .int) rfl rfl rfl ⟨⟨I51, F53⟩, _, rfl, hF⟩
            · replace hF := kf_p c39 hF
              refine kw_lload (pc := 65) (i := 34) (k := 1) (n := 6) rfl rfl ?_
              refine kw_aload_n (pc := 67) (i := 35) (k := 4) (n := 0) rfl rfl rfl ?_
              refine kw_iload_n (pc := 68) (i := 36) (k := 5) (n := 1) rfl rfl rfl ?_
              refine kw_iload (pc := 69) (i := 37) (k := 0) (n := 8) rfl rfl ?_
              refine kw_callV (pc := 71) (i := 38) (Y := mX8_gustMiles) (a := 0) (As := [.int a, .int x31]) (st := [.long x32]) kw_hE rfl rfl lvX8_281 arX8_gustMiles (c_X8_gustMiles_0 l T hT0 hT1 S21 I25 a x31 (by first | omega | decide) (by first | omega | decide)) (by decide) (Nat.le_of_ble_eq_true rfl) rfl (fun v S56 p55 => ?_)
              obtain ⟨e59, z58, rfl, ef57⟩ := p55
              rw [e59]
              replace hF := kf_le ef57 hF
              have r_z58 := kw_rng z58
              show kw_AW l 5 kw_E0 KM mX8_odds (p_X8_odds_0 T σ a m p) 74 [(8, .int x31), (6, .long x32), (5, .int z30), (4, .int z24), (0, .ref 0), (1, .int a), (2, .int m), (3, .int p)] [.int z58, .long x32] S21
              refine kw_iload_n (pc := 74) (i := 39) (k := 6) (n := 2) rfl rfl rfl ?_
              refine kw_icmp_lt (pc := 75) (i := 40) (tgt := 90) rfl rfl (fun c60 => ?_) (fun c60 => ?_)
              · replace hF := kf_p c60 hF
                refine kw_lconst (pc := 90) (i := 47) (v := 0) rfl rfl ?_
                refine kw_ladd (pc := 91) (i := 48) rfl (fun z61 e_z61 => ?_)
                replace hF := kf_le e_z61 hF
                have t_z61 := kw_laddI x32 (0 : Int64) z61 e_z61
                rw [show (0 : Int64).toInt = 0 from rfl] at t_z61
                first | (have u_z61 : z61.toInt = x32.toInt + 0 := (by omega); clear t_z61) | skip
                refine kw_lstore (pc := 92) (i := 49) (n := 6) (lv' := [(6, .long z61), (8, .int x31), (5, .int z30), (4, .int z24), (0, .ref 0), (1, .int a), (2, .int m), (3, .int p)]) rfl (by decide) rfl ?_
                refine kw_iinc' (pc := 94) (i := 50) (k := 1) (fun z => [(8, .int z), (6, .long z61), (5, .int z30), (4, .int z24), (0, .ref 0), (1, .int a), (2, .int m), (3, .int p)]) rfl rfl (by decide) rfl (fun _ => rfl) (fun z62 e_z62 t_z62 => ?_)
                replace hF := kf_le e_z62 hF
                first | (have u_z62 : z62.toInt = x31.toInt + 1 := (by omega); clear t_z62) | skip
                refine kw_goto (pc := 97) (i := 51) (tgt := 56) rfl rfl ?_
                refine kw_sub (lv' := [(8, .int z62), (6, .long z61), (5, .int z30), (4, .int z24), (0, .ref 0), (1, .int a), (2, .int m), (3, .int p)]) [0, 1, 2, 3, 4, 5, 6, 7] rfl ?_
                exact ih34 z62 z61 (by omega) hF (by omega)
              · replace hF := kf_nl c60 hF
                refine kw_aload_n (pc := 78) (i := 41) (k := 4) (n := 0) rfl rfl rfl ?_
                refine kw_iload (pc := 79) (i := 42) (k := 0) (n := 8) rfl rfl ?_
                refine kw_iload (pc := 81) (i := 43) (k := 2) (n := 5) rfl rfl ?_
                refine kw_iload_n (pc := 83) (i := 44) (k := 7) (n := 3) rfl rfl rfl ?_
                refine kw_callV (pc := 84) (i := 45) (Y := mX8_weightOf) (a := 0) (As := [.int x31, .int z30, .int p]) (st := [.long x32]) kw_hE rfl rfl lvX8_284 arX8_weightOf (c_X8_weightOf_0 l T hT0 hT1 S21 I25 x31 z30 p ) (by decide) (Nat.le_of_ble_eq_true rfl) rfl (fun v S64 p63 => ?_)
                obtain ⟨e67, z66, rfl, ef65⟩ := p63
                rw [e67]
                replace hF := kf_le ef65 hF
                show kw_AW l 5 kw_E0 KM mX8_odds (p_X8_odds_0 T σ a m p) 87 [(8, .int x31), (6, .long x32), (5, .int z30), (4, .int z24), (0, .ref 0), (1, .int a), (2, .int m), (3, .int p)] [.long z66, .long x32] S21
                refine kw_goto (pc := 87) (i := 46) (tgt := 91) rfl rfl ?_
                refine kw_ladd (pc := 91) (i := 48) rfl (fun z68 e_z68 => ?_)
                replace hF := kf_le e_z68 hF
                have t_z68 := kw_laddI x32 z66 z68 e_z68
                first | (have u_z68 : z68.toInt = x32.toInt + z66.toInt := (by omega); clear t_z68) | skip
                refine kw_lstore (pc := 92) (i := 49) (n := 6) (lv' := [(6, .long z68), (8, .int x31), (5, .int z30), (4, .int z24), (0, .ref 0), (1, .int a), (2, .int m), (3, .int p)]) rfl (by decide) rfl ?_
                refine kw_iinc' (pc := 94) (i := 50) (k := 1) (fun z => [(8, .int z), (6, .long z68), (5, .int z30), (4, .int z24), (0, .ref 0), (1, .int a), (2, .int m), (3, .int p)]) rfl rfl (by decide) rfl (fun _ => rfl) (fun z69 e_z69 t_z69 => ?_)
                replace hF := kf_le e_z69 hF
                first | (have u_z69 : z69.toInt = x31.toInt + 1 := (by omega); clear t_z69) | skip
                refine kw_goto (pc := 97) (i := 51) (tgt := 56) rfl rfl ?_
                refine kw_sub (lv' := [(8, .int z69), (6, .long z68), (5, .int z30), (4, .int z24), (0, .ref 0), (1, .int a), (2, .int m), (3, .int p)]) [0, 1, 2, 3, 4, 5, 6, 7] rfl ?_
                exact ih34 z69 z68 (by omega) hF (by omega)
        exact L33 _ 0 0 (by omega) hF (Nat.lt_succ_self _)
      · replace hF := kf_p c29 hF
        refine kw_iload (pc := 39) (i := 18) (k := 0) (n := 4) rfl rfl ?_
        exact kw_ireturn (pc := 41) (i := 19) (ty := .int) rfl rfl rfl ⟨⟨I25, F27⟩, _, rfl, hF⟩
    · replace hF := kf_p c19 hF
      refine kw_iconst (pc := 23) (i := 10) (v := (-1)) rfl rfl ?_
      refine kw_goto (pc := 24) (i := 11) (tgt := 32) rfl rfl ?_
      refine kw_istore (pc := 32) (i := 15) (n := 4) (lv' := [(4, .int (-1)), (0, .ref 0), (1, .int a), (2, .int m), (3, .int p)]) rfl (by decide) rfl ?_
      refine kw_iload (pc := 34) (i := 16) (k := 0) (n := 4) rfl rfl ?_
      refine kw_if_ge (pc := 36) (i := 17) (tgt := 42) rfl rfl (fun c70 => ?_) (fun c70 => ?_)
      · exfalso; omega
      · replace hF := kf_p c70 hF
        refine kw_iload (pc := 39) (i := 18) (k := 0) (n := 4) rfl rfl ?_
        exact kw_ireturn (pc := 41) (i := 19) (ty := .int) rfl rfl rfl ⟨⟨hI, hF0⟩, _, rfl, hF⟩
noncomputable def l_X8_lots_0_55 (a1 : Int32) (a2 : Int32) : Nat → Int64 → Int32 → kw_S → Int32 × kw_S
  | 0, _, _, S => (0, S)
  | n + 1, x3, x5, S => if x5.toInt < a1.toInt then (kf_l ((48271 : Int64) * x3) fun z8 => kf_l (z8 - z8 / (2147483647 : Int64) * (2147483647 : Int64)) fun z9 => kf_l (S.1 0 10).toInt64 fun z10 => kf_l (z9 - z9 / z10 * z10) fun z11 => kf_l z11.toInt32 fun z12 => kf_l (f_X8_turnLine_0 S z12) fun S13 => kf_l (f_X8_note_0 S13) fun S14 => kf_l (f_X8_pass_0 S14 (S14.1 0 25)) fun S15 => kf_l (x5 + Int32.ofInt 1) fun z16 => l_X8_lots_0_55 a1 a2 n z9 z16 S15) else (kf_b (f_X8_ask_0 S (S.1 0 23) (1 : Int32)) fun z6 S7 => (z6, S7))
theorem l_X8_lots_0_55_s (a1 : Int32) (a2 : Int32) (n : Nat) (x3 : Int64) (x5 : Int32) (S : kw_S) : l_X8_lots_0_55 a1 a2 (n + 1) x3 x5 S = if x5.toInt < a1.toInt then (kf_l ((48271 : Int64) * x3) fun z8 => kf_l (z8 - z8 / (2147483647 : Int64) * (2147483647 : Int64)) fun z9 => kf_l (S.1 0 10).toInt64 fun z10 => kf_l (z9 - z9 / z10 * z10) fun z11 => kf_l z11.toInt32 fun z12 => kf_l (f_X8_turnLine_0 S z12) fun S13 => kf_l (f_X8_note_0 S13) fun S14 => kf_l (f_X8_pass_0 S14 (S14.1 0 25)) fun S15 => kf_l (x5 + Int32.ofInt 1) fun z16 => l_X8_lots_0_55 a1 a2 n z9 z16 S15) else (kf_b (f_X8_ask_0 S (S.1 0 23) (1 : Int32)) fun z6 S7 => (z6, S7)) := rfl
noncomputable def f_X8_lots_0 (σ : kw_S) (n : Int32) (seed : Int32) : Int32 × kw_S := kf_l (f_X8_in σ n (1 : Int32) (20 : Int32)) fun z1 => if z1.toInt = 0 then ((((-1) : Int32), σ)) else (kf_l (f_X8_in σ seed (1 : Int32) (2147483646 : Int32)) fun z2 => if z2.toInt = 0 then ((((-1) : Int32), σ)) else (if (σ.1 0 10).toInt = 0 then ((((-4) : Int32), σ)) else (kf_l ((2 : Int32) * n) fun z3 => kf_l ((σ.1 0 27) + z3) fun z4 => if (40 : Int32).toInt < z4.toInt then ((((-2) : Int32), σ)) else (kf_l seed.toInt64 fun z5 => l_X8_lots_0_55 n seed ((n.toInt - (0 : Int32).toInt).toNat + 1) z5 (0 : Int32) σ))))
theorem f_X8_lots_0_u (σ : kw_S) (n : Int32) (seed : Int32) : f_X8_lots_0 σ n seed = kf_l (f_X8_in σ n (1 : Int32) (20 : Int32)) fun z1 => if z1.toInt = 0 then ((((-1) : Int32), σ)) else (kf_l (f_X8_in σ seed (1 : Int32) (2147483646 : Int32)) fun z2 => if z2.toInt = 0 then ((((-1) : Int32), σ)) else (if (σ.1 0 10).toInt = 0 then ((((-4) : Int32), σ)) else (kf_l ((2 : Int32) * n) fun z3 => kf_l ((σ.1 0 27) + z3) fun z4 => if (40 : Int32).toInt < z4.toInt then ((((-2) : Int32), σ)) else (kf_l seed.toInt64 fun z5 => l_X8_lots_0_55 n seed ((n.toInt - (0 : Int32).toInt).toNat + 1) z5 (0 : Int32) σ)))) := rfl
abbrev p_X8_lots_0 (T : Int) (σ : kw_S) (n : Int32) (seed : Int32) : Option Value → kw_S → Prop := fun vv σ' => (kw_I (bM (T + 20)) σ' ∧ kw_FM [14, 15, 1002, 1022, 1023, 1024, 1025, 1027] σ σ') ∧ ∃ r : Int32, vv = some (.int r) ∧ (r, σ') = f_X8_lots_0 σ n seed
set_option maxRecDepth 100000 in
set_option maxHeartbeats 4000000 in
theorem c_X8_lots_0 (l : Launch) (T : Int) (hT0 : 0 ≤ T) (hT1 : T ≤ 3000) (σ : kw_S) (hI : kw_I (bM T) σ) (n : Int32) (seed : Int32) (hp0 : T ≤ 2000) : kw_Met l 5 KM mX8_lots [.ref 0, .int n, .int seed] σ (p_X8_lots_0 T σ n seed) := by
  have r_n := kw_rng n
  have r_seed := kw_rng seed
  have hF0 : kw_FM [14, 15, 1002, 1022, 1023, 1024, 1025, 1027] σ σ := kw_FM.rf
  have hF := (f_X8_lots_0_u σ n seed).symm
  have q_m4 : (-4 : Int32).toInt = -4 := rfl
  have q_m2 : (-2 : Int32).toInt = -2 := rfl
  have q_m1 : (-1 : Int32).toInt = -1 := rfl
  have q_0 : (0 : Int32).toInt = 0 := rfl
  have q_1 : (1 : Int32).toInt = 1 := rfl
  have q_2 : (2 : Int32).toInt = 2 := rfl
  have q_20 : (20 : Int32).toInt = 20 := rfl
  have q_40 : (40 : Int32).toInt = 40 := rfl
  have q_2147483646 : (2147483646 : Int32).toInt = 2147483646 := rfl
  refine kw_Met.of (by decide) rfl tX8_lots (Nat.le_of_ble_eq_true rfl) ?_
  show kw_AW l 5 kw_E0 KM mX8_lots (p_X8_lots_0 T σ n seed) 0 [(0, .ref 0), (1, .int n), (2, .int seed)] [] σ
  refine kw_iload_n (pc := 0) (i := 0) (k := 1) (n := 1) rfl rfl rfl ?_
  refine kw_iconst (pc := 1) (i := 1) (v := 1) rfl rfl ?_
  refine kw_bipush (pc := 2) (i := 2) (v := 20) rfl rfl ?_
  refine kw_callS (pc := 4) (i := 3) (Y := mX8_in) (As := [.int n, .int 1, .int 20]) (st := []) kw_hE rfl lsX8_93 arX8_in (c_X8_in l T hT0 hT1 σ hI n 1 20 ) (by decide) (Nat.le_of_ble_eq_true rfl) rfl (fun v S2 p1 => ?_)
  obtain ⟨e8, z7, rfl, f3, f4, f5, ef6⟩ := p1
  rw [e8]
  replace hF := kf_le ef6 hF
  have r_z7 := kw_rng z7
  show kw_AW l 5 kw_E0 KM mX8_lots (p_X8_lots_0 T σ n seed) 7 [(0, .ref 0), (1, .int n), (2, .int seed)] [.int z7] σ
  refine kw_if_eq (pc := 7) (i := 4) (tgt := 21) rfl rfl (fun c9 => ?_) (fun c9 => ?_)
  · replace hF := kf_p c9 hF
    refine kw_iconst (pc := 21) (i := 10) (v := (-1)) rfl rfl ?_
    exact kw_ireturn (pc := 22) (i := 11) (ty := .int) rfl rfl rfl ⟨⟨(kw_monoM (by omega) hI), hF0⟩, _, rfl, hF⟩
  · replace hF := kf_n c9 hF
    refine kw_iload_n (pc := 10) (i := 5) (k := 2) (n := 2) rfl rfl rfl ?_
    refine kw_iconst (pc := 11) (i := 6) (v := 1) rfl rfl ?_
    refine kw_ldcw (pc := 12) (i := 7) (v := 2147483646) rfl ckX8_290 ?_
    refine kw_callS (pc := 15) (i := 8) (Y := mX8_in) (As := [.int seed, .int 1, .int 2147483646]) (st := []) kw_hE rfl lsX8_93 arX8_in (c_X8_in l T hT0 hT1 σ hI seed 1 2147483646 ) (by decide) (Nat.le_of_ble_eq_true rfl) rfl (fun v S11 p10 => ?_)
    obtain ⟨e17, z16, rfl, f12, f13, f14, ef15⟩ := p10
    rw [e17]
    replace hF := kf_le ef15 hF
    have r_z16 := kw_rng z16
    show kw_AW l 5 kw_E0 KM mX8_lots (p_X8_lots_0 T σ n seed) 18 [(0, .ref 0), (1, .int n), (2, .int seed)] [.int z16] σ
    refine kw_if_ne (pc := 18) (i := 9) (tgt := 23) rfl rfl (fun c18 => ?_) (fun c18 => ?_)
    · replace hF := kf_n c18 hF
      refine kw_aload_n (pc := 23) (i := 12) (k := 0) (n := 0) rfl rfl rfl ?_
      refine kw_get (pc := 24) (i := 13) (v := .int (σ.1 0 10)) rfl rfl rfl lkX8_163 (fun _ => rfl) ?_
      have b19 : 0 ≤ (σ.1 0 10).toInt ∧ (σ.1 0 10).toInt ≤ 6 := hI 0 10
      refine kw_if_ne (pc := 27) (i := 14) (tgt := 33) rfl rfl (fun c20 => ?_) (fun c20 => ?_)
      · replace hF := kf_n c20 hF
        refine kw_aload_n (pc := 33) (i := 17) (k := 0) (n := 0) rfl rfl rfl ?_
        refine kw_get (pc := 34) (i := 18) (v := .int (σ.1 0 27)) rfl rfl rfl lkX8_178 (fun _ => rfl) ?_
        have b21 : 0 ≤ (σ.1 0 27).toInt ∧ (σ.1 0 27).toInt ≤ 40 := hI 0 27
        refine kw_iconst (pc := 37) (i := 19) (v := 2) rfl rfl ?_
        refine kw_iload_n (pc := 38) (i := 20) (k := 1) (n := 1) rfl rfl rfl ?_
        refine kw_imul (pc := 39) (i := 21) rfl (fun z22 e_z22 t_z22 => ?_)
        replace hF := kf_le e_z22 hF
        rw [show (2 : Int32).toInt = 2 from rfl] at t_z22
        first | (have u_z22 : z22.toInt = 2 * n.toInt := (by omega); clear t_z22) | skip
        refine kw_iadd (pc := 40) (i := 22) rfl (fun z23 e_z23 t_z23 => ?_)
        replace hF := kf_le e_z23 hF
        first | (have u_z23 : z23.toInt = (σ.1 0 27).toInt + z22.toInt := (by omega); clear t_z23) | skip
        refine kw_bipush (pc := 41) (i := 23) (v := 40) rfl rfl ?_
        refine kw_icmp_le (pc := 43) (i := 24) (tgt := 49) rfl rfl (fun c24 => ?_) (fun c24 => ?_)
        · replace hF := kf_nl c24 hF
          refine kw_iload_n (pc := 49) (i := 27) (k := 2) (n := 2) rfl rfl rfl ?_
          refine kw_i2l (pc := 50) (i := 28) rfl (fun z25 e_z25 t_z25 => ?_)
          replace hF := kf_le e_z25 hF
          refine kw_lstore_n (pc := 51) (i := 29) (n := 3) (lv' := [(3, .long z25), (0, .ref 0), (1, .int n), (2, .int seed)]) rfl rfl (by decide) rfl ?_
          refine kw_iconst (pc := 52) (i := 30) (v := 0) rfl rfl ?_
          refine kw_istore (pc := 53) (i := 31) (n := 5) (lv' := [(5, .int 0), (3, .long z25), (0, .ref 0), (1, .int n), (2, .int seed)]) rfl (by decide) rfl ?_
          have L31 : ∀ (n40 : Nat) (x26 : Int32) (x27 : Int64) (S28 : kw_S), kw_I (bM (T + x26.toInt)) S28 → kw_FM [14, 15, 1002, 1022, 1023, 1024, 1025, 1027] σ S28 → 0 ≤ x26.toInt → x26.toInt ≤ n.toInt → 0 ≤ x27.toInt → x27.toInt ≤ 2147483646 → (S28.1 0 27).toInt + 2 * (n.toInt - x26.toInt) ≤ 40 → 1 ≤ (S28.1 0 10).toInt → l_X8_lots_0_55 n seed n40 x27 x26 S28 = (f_X8_lots_0 σ n seed) → (n.toInt - x26.toInt).toNat < n40 → kw_AW l 5 kw_E0 KM mX8_lots (p_X8_lots_0 T σ n seed) 55 [(5, .int x26), (3, .long x27), (0, .ref 0), (1, .int n), (2, .int seed)] [] S28 := by
            intro n40
            induction n40 with
            | zero => intro x26 x27 S28 I29 F30 v33 v34 v35 v36 v37 v38 hF m39; exact absurd m39 (Nat.not_lt_zero _)
            | succ n40 ih32 =>
              intro x26 x27 S28 I29 F30 v33 v34 v35 v36 v37 v38 hF m39
              replace hF := kf_st (l_X8_lots_0_55_s _ _ _ _ _ _) hF
              have r_x26 := kw_rng x26
              refine kw_iload (pc := 55) (i := 32) (k := 0) (n := 5) rfl rfl ?_
              refine kw_iload_n (pc := 57) (i := 33) (k := 3) (n := 1) rfl rfl rfl ?_
              refine kw_icmp_ge (pc := 58) (i := 34) (tgt := 101) rfl rfl (fun c41 => ?_) (fun c41 => ?_)
              · replace hF := kf_nl c41 hF
                refine kw_aload_n (pc := 101) (i := 57) (k := 2) (n := 0) rfl rfl rfl ?_
                refine kw_aload_n (pc := 102) (i := 58) (k := 2) (n := 0) rfl rfl rfl ?_
                refine kw_get (pc := 103) (i := 59) (v := .int (S28.1 0 23)) rfl rfl rfl lkX8_169 (fun _ => rfl) ?_
                have b42 := kw_rng (S28.1 0 23)
                refine kw_iconst (pc := 106) (i := 60) (v := 1) rfl rfl ?_
                refine kw_callV (pc := 107) (i := 61) (Y := mX8_ask) (a := 0) (As := [.int (S28.1 0 23), .int 1]) (st := []) kw_hE rfl rfl lvX8_119 arX8_ask (c_X8_ask_0 l (T + x26.toInt) (by omega) (by omega) S28 I29 (S28.1 0 23) 1 ) (by decide) (Nat.le_of_ble_eq_true rfl) rfl (fun v S44 p43 => ?_)
                obtain ⟨⟨I48, F49⟩, z47, rfl, f45, ef46⟩ := p43
                have F50 : kw_FM [14, 15, 1002, 1022, 1023, 1024, 1025, 1027] σ S44 := kw_FM.tr F30 F49 (by decide)
                have w_51 : (S44.1 0 27).toInt = (S28.1 0 27).toInt := congrArg Int32.toInt (kw_FM.at0 (j := 27) F49 (by decide))
                replace hF := kf_be ef46 hF
                have r_z47 := kw_rng z47
                show kw_AW l 5 kw_E0 KM mX8_lots (p_X8_lots_0 T σ n seed) 110 [(5, .int x26), (3, .long x27), (0, .ref 0), (1, .int n), (2, .int seed)] [.int z47] S44
                exact kw_ireturn (pc := 110) (i := 62) (ty := .int) rfl rfl rfl ⟨⟨(kw_monoM (by omega) I48), F50⟩, _, rfl, hF⟩
              · replace hF := kf_p c41 hF
                refine kw_ldc2 (pc := 61) (i := 35) (v := 48271) rfl ckX8_291 ?_
                refine kw_lload_n (pc := 64) (i := 36) (k := 1) (n := 3) rfl rfl rfl ?_
                refine kw_lmul (pc := 65) (i := 37) rfl (fun z52 e_z52 => ?_)
                replace hF := kf_le e_z52 hF
                have t_z52 := kw_lmulI (48271 : Int64) x27 z52 e_z52
                rw [show (48271 : Int64).toInt = 48271 from rfl] at t_z52
                first | (have u_z52 : z52.toInt = 48271 * x27.toInt := (by omega); clear t_z52) | skip
                refine kw_ldc2 (pc := 66) (i := 38) (v := 2147483647) rfl ckX8_293 ?_
                refine kw_lrem (pc := 69) (i := 39) rfl (by decide) (fun z53 e_z53 => ?_)
                replace hF := kf_le e_z53 hF
                have t_z53 := kw_lremI z52 (2147483647 : Int64) z53 e_z53
                rw [show (2147483647 : Int64).toInt = 2147483647 from rfl] at t_z53
                refine kw_lstore_n (pc := 70) (i := 40) (n := 3) (lv' := [(3, .long z53), (5, .int x26), (0, .ref 0), (1, .int n), (2, .int seed)]) rfl rfl (by decide) rfl ?_
                refine kw_aload_n (pc := 71) (i := 41) (k := 2) (n := 0) rfl rfl rfl ?_
                refine kw_lload_n (pc := 72) (i := 42) (k := 0) (n := 3) rfl rfl rfl ?_
                refine kw_aload_n (pc := 73) (i := 43) (k := 2) (n := 0) rfl rfl rfl ?_
                refine kw_get (pc := 74) (i := 44) (v := .int (S28.1 0 10)) rfl rfl rfl lkX8_163 (fun _ => rfl) ?_
                have b54 : 0 ≤ (S28.1 0 10).toInt ∧ (S28.1 0 10).toInt ≤ 6 := I29 0 10
                refine kw_i2l (pc := 77) (i := 45) rfl (fun z55 e_z55 t_z55 => ?_)
                replace hF := kf_le e_z55 hF
                refine kw_lrem (pc := 78) (i := 46) rfl (by omega) (fun z56 e_z56 => ?_)
                replace hF := kf_le e_z56 hF
                have t_z56 := kw_lremI z53 z55 z56 e_z56
                refine kw_l2i (pc := 79) (i := 47) rfl (fun z57 e_z57 => ?_)
                replace hF := kf_le e_z57 hF
                have r_z57 := kw_rng z57
                have t_z57 := kw_l2iI z56 z57 e_z57
                refine kw_callV (pc := 80) (i := 48) (Y := mX8_turnLine) (a := 0) (As := [.int z57]) (st := []) kw_hE rfl rfl lvX8_214 arX8_turnLine (c_X8_turnLine_0 l (T + x26.toInt) (by omega) (by omega) S28 I29 z57 (by first | omega | decide) (by first | omega | decide) (show (S28.1 0 27).toInt ≤ 39 from by omega)) (by decide) (Nat.le_of_ble_eq_true rfl) rfl (fun v S59 p58 => ?_)
                obtain ⟨⟨I64, F65⟩, rfl, f60, f61, f62, ef63⟩ := p58
                have F66 : kw_FM [14, 15, 1002, 1022, 1023, 1024, 1025, 1027] σ S59 := kw_FM.tr F30 F65 (by decide)
                replace hF := kf_le ef63 hF
                have f60 : (S59.1 0 27).toInt = (S28.1 0 27).toInt + 1 := f60
                have f61 : (S59.1 0 10).toInt = (S28.1 0 10).toInt := f61
                have f62 : (S59.1 0 22).toInt = (S28.1 0 22).toInt := f62
                show kw_AW l 5 kw_E0 KM mX8_lots (p_X8_lots_0 T σ n seed) 83 [(3, .long z53), (5, .int x26), (0, .ref 0), (1, .int n), (2, .int seed)] [] S59
                refine kw_aload_n (pc := 83) (i := 49) (k := 2) (n := 0) rfl rfl rfl ?_
                refine kw_callV (pc := 84) (i := 50) (Y := mX8_note) (a := 0) (As := []) (st := []) kw_hE rfl rfl lvX8_208 arX8_note (c_X8_note_0 l (T + x26.toInt) (by omega) (by omega) S59 I64  (show (S59.1 0 27).toInt ≤ 39 from by omega)) (by decide) (Nat.le_of_ble_eq_true rfl) rfl (fun v S68 p67 => ?_)
                obtain ⟨⟨I74, F75⟩, rfl, f69, f70, f71, f72, ef73⟩ := p67
                have F76 : kw_FM [14, 15, 1002, 1022, 1023, 1024, 1025, 1027] σ S68 := kw_FM.tr F66 F75 (by decide)
                replace hF := kf_le ef73 hF
                have f69 : (S68.1 0 27).toInt = (S59.1 0 27).toInt + 1 := f69
                have f70 : (S68.1 0 10).toInt = (S59.1 0 10).toInt := f70
                have f71 : (S68.1 0 22).toInt = (S59.1 0 22).toInt := f71
                have f72 : (S68.1 0 25).toInt = (S59.1 0 25).toInt := f72
                show kw_AW l 5 kw_E0 KM mX8_lots (p_X8_lots_0 T σ n seed) 87 [(3, .long z53), (5, .int x26), (0, .ref 0), (1, .int n), (2, .int seed)] [] S68
                refine kw_aload_n (pc := 87) (i := 51) (k := 2) (n := 0) rfl rfl rfl ?_
                refine kw_aload_n (pc := 88) (i := 52) (k := 2) (n := 0) rfl rfl rfl ?_
                refine kw_get (pc := 89) (i := 53) (v := .int (S68.1 0 25)) rfl rfl rfl lkX8_175 (fun _ => rfl) ?_
                have b77 : 0 ≤ (S68.1 0 25).toInt ∧ (S68.1 0 25).toInt ≤ 63 := I74 0 25
                refine kw_callV (pc := 92) (i := 54) (Y := mX8_pass) (a := 0) (As := [.int (S68.1 0 25)]) (st := []) kw_hE rfl rfl lvX8_220 arX8_pass (c_X8_pass_0 l (T + x26.toInt) (by omega) (by omega) S68 I74 (S68.1 0 25) ) (by decide) (Nat.le_of_ble_eq_true rfl) rfl (fun v S79 p78 => ?_)
                obtain ⟨⟨I84, F85⟩, rfl, f80, f81, f82, ef83⟩ := p78
                have F86 : kw_FM [14, 15, 1002, 1022, 1023, 1024, 1025, 1027] σ S79 := kw_FM.tr F76 F85 (by decide)
                have w_87 : (S79.1 0 27).toInt = (S68.1 0 27).toInt := congrArg Int32.toInt (kw_FM.at0 (j := 27) F85 (by decide))
                replace hF := kf_le ef83 hF
                have f80 : (S79.1 0 10).toInt = (S68.1 0 10).toInt := f80
                have f81 : (S79.1 0 25).toInt = (S68.1 0 25).toInt := f81
                have f82 : (S79.1 0 27).toInt = (S68.1 0 27).toInt := f82
                show kw_AW l 5 kw_E0 KM mX8_lots (p_X8_lots_0 T σ n seed) 95 [(3, .long z53), (5, .int x26), (0, .ref 0), (1, .int n), (2, .int seed)] [] S79
                refine kw_iinc' (pc := 95) (i := 55) (k := 1) (fun z => [(5, .int z), (3, .long z53), (0, .ref 0), (1, .int n), (2, .int seed)]) rfl rfl (by decide) rfl (fun _ => rfl) (fun z88 e_z88 t_z88 => ?_)
                replace hF := kf_le e_z88 hF
                first | (have u_z88 : z88.toInt = x26.toInt + 1 := (by omega); clear t_z88) | skip
                refine kw_goto (pc := 98) (i := 56) (tgt := 55) rfl rfl ?_
                refine kw_sub (lv' := [(5, .int z88), (3, .long z53), (0, .ref 0), (1, .int n), (2, .int seed)]) [0, 1, 2, 3, 4] rfl ?_
                exact ih32 z88 z53 S79 (kw_monoM (by omega) I84) F86 (by omega) (by omega) (by omega) (by omega) (show (S79.1 0 27).toInt + 2 * (n.toInt - z88.toInt) ≤ 40 from by omega) (show 1 ≤ (S79.1 0 10).toInt from by omega) hF (by omega)
          exact L31 _ 0 z25 σ (kw_monoM (by omega) hI) hF0 (by omega) (by omega) (by omega) (by omega) (show (σ.1 0 27).toInt + 2 * (n.toInt - (0 : Int32).toInt) ≤ 40 from by omega) (show 1 ≤ (σ.1 0 10).toInt from by omega) hF (Nat.lt_succ_self _)
        · replace hF := kf_p c24 hF
          refine kw_bipush (pc := 46) (i := 25) (v := (-2)) rfl rfl ?_
          exact kw_ireturn (pc := 48) (i := 26) (ty := .int) rfl rfl rfl ⟨⟨(kw_monoM (by omega) hI), hF0⟩, _, rfl, hF⟩
      · replace hF := kf_p c20 hF
        refine kw_bipush (pc := 30) (i := 15) (v := (-4)) rfl rfl ?_
        exact kw_ireturn (pc := 32) (i := 16) (ty := .int) rfl rfl rfl ⟨⟨(kw_monoM (by omega) hI), hF0⟩, _, rfl, hF⟩
    · replace hF := kf_p c18 hF
      refine kw_iconst (pc := 21) (i := 10) (v := (-1)) rfl rfl ?_
      exact kw_ireturn (pc := 22) (i := 11) (ty := .int) rfl rfl rfl ⟨⟨(kw_monoM (by omega) hI), hF0⟩, _, rfl, hF⟩
noncomputable def f_X8_asked_0 (σ : kw_S)  : Int32 := (σ.1 0 2)
theorem f_X8_asked_0_u (σ : kw_S)  : f_X8_asked_0 σ  = (σ.1 0 2) := rfl
abbrev p_X8_asked_0 (T : Int) (σ : kw_S)  : Option Value → kw_S → Prop := fun vv σ' => σ' = σ ∧ ∃ r : Int32, vv = some (.int r) ∧ r = f_X8_asked_0 σ
set_option maxRecDepth 100000 in
set_option maxHeartbeats 4000000 in
theorem c_X8_asked_0 (l : Launch) (T : Int) (hT0 : 0 ≤ T) (hT1 : T ≤ 3000) (σ : kw_S) (hI : kw_I (bM T) σ)  : kw_Met l 1 KM mX8_asked [.ref 0] σ (p_X8_asked_0 T σ) := by
  have hF := (f_X8_asked_0_u σ).symm
  refine kw_Met.of (by decide) rfl tX8_asked (Nat.le_of_ble_eq_true rfl) ?_
  show kw_AW l 1 kw_E0 KM mX8_asked (p_X8_asked_0 T σ) 0 [(0, .ref 0)] [] σ
  refine kw_aload_n (pc := 0) (i := 0) (k := 0) (n := 0) rfl rfl rfl ?_
  refine kw_get (pc := 1) (i := 1) (v := .int (σ.1 0 2)) rfl rfl rfl lkX8_87 (fun _ => rfl) ?_
  have b1 := kw_rng (σ.1 0 2)
  exact kw_ireturn (pc := 4) (i := 2) (ty := .int) rfl rfl rfl ⟨rfl, _, rfl, hF⟩
noncomputable def f_X8_upper_0 (σ : kw_S)  : Int64 := (σ.2 0 3)
theorem f_X8_upper_0_u (σ : kw_S)  : f_X8_upper_0 σ  = (σ.2 0 3) := rfl
abbrev p_X8_upper_0 (T : Int) (σ : kw_S)  : Option Value → kw_S → Prop := fun vv σ' => σ' = σ ∧ ∃ r : Int64, vv = some (.long r) ∧ r = f_X8_upper_0 σ
set_option maxRecDepth 100000 in
set_option maxHeartbeats 4000000 in
theorem c_X8_upper_0 (l : Launch) (T : Int) (hT0 : 0 ≤ T) (hT1 : T ≤ 3000) (σ : kw_S) (hI : kw_I (bM T) σ)  : kw_Met l 1 KM mX8_upper [.ref 0] σ (p_X8_upper_0 T σ) := by
  have hF := (f_X8_upper_0_u σ).symm
  refine kw_Met.of (by decide) rfl tX8_upper (Nat.le_of_ble_eq_true rfl) ?_
  show kw_AW l 1 kw_E0 KM mX8_upper (p_X8_upper_0 T σ) 0 [(0, .ref 0)] [] σ
  refine kw_aload_n (pc := 0) (i := 0) (k := 0) (n := 0) rfl rfl rfl ?_
  refine kw_get (pc := 1) (i := 1) (v := .long (σ.2 0 3)) rfl rfl rfl lkX8_90 (fun _ => rfl) ?_
  exact kw_lreturn (pc := 4) (i := 2) rfl rfl ⟨rfl, _, rfl, hF⟩
noncomputable def f_X8_lower_0 (σ : kw_S)  : Int64 := (σ.2 0 4)
theorem f_X8_lower_0_u (σ : kw_S)  : f_X8_lower_0 σ  = (σ.2 0 4) := rfl
abbrev p_X8_lower_0 (T : Int) (σ : kw_S)  : Option Value → kw_S → Prop := fun vv σ' => σ' = σ ∧ ∃ r : Int64, vv = some (.long r) ∧ r = f_X8_lower_0 σ
set_option maxRecDepth 100000 in
set_option maxHeartbeats 4000000 in
theorem c_X8_lower_0 (l : Launch) (T : Int) (hT0 : 0 ≤ T) (hT1 : T ≤ 3000) (σ : kw_S) (hI : kw_I (bM T) σ)  : kw_Met l 1 KM mX8_lower [.ref 0] σ (p_X8_lower_0 T σ) := by
  have hF := (f_X8_lower_0_u σ).symm
  refine kw_Met.of (by decide) rfl tX8_lower (Nat.le_of_ble_eq_true rfl) ?_
  show kw_AW l 1 kw_E0 KM mX8_lower (p_X8_lower_0 T σ) 0 [(0, .ref 0)] [] σ
  refine kw_aload_n (pc := 0) (i := 0) (k := 0) (n := 0) rfl rfl rfl ?_
  refine kw_get (pc := 1) (i := 1) (v := .long (σ.2 0 4)) rfl rfl rfl lkX8_13 (fun _ => rfl) ?_
  exact kw_lreturn (pc := 4) (i := 2) rfl rfl ⟨rfl, _, rfl, hF⟩
noncomputable def f_X8_finding_0 (σ : kw_S)  : Int32 := (σ.1 0 0)
theorem f_X8_finding_0_u (σ : kw_S)  : f_X8_finding_0 σ  = (σ.1 0 0) := rfl
abbrev p_X8_finding_0 (T : Int) (σ : kw_S)  : Option Value → kw_S → Prop := fun vv σ' => σ' = σ ∧ ∃ r : Int32, vv = some (.int r) ∧ r = f_X8_finding_0 σ
set_option maxRecDepth 100000 in
set_option maxHeartbeats 4000000 in
theorem c_X8_finding_0 (l : Launch) (T : Int) (hT0 : 0 ≤ T) (hT1 : T ≤ 3000) (σ : kw_S) (hI : kw_I (bM T) σ)  : kw_Met l 1 KM mX8_finding [.ref 0] σ (p_X8_finding_0 T σ) := by
  have hF := (f_X8_finding_0_u σ).symm
  refine kw_Met.of (by decide) rfl tX8_finding (Nat.le_of_ble_eq_true rfl) ?_
  show kw_AW l 1 kw_E0 KM mX8_finding (p_X8_finding_0 T σ) 0 [(0, .ref 0)] [] σ
  refine kw_aload_n (pc := 0) (i := 0) (k := 0) (n := 0) rfl rfl rfl ?_
  refine kw_get (pc := 1) (i := 1) (v := .int (σ.1 0 0)) rfl rfl rfl lkX8_84 (fun _ => rfl) ?_
  have b1 := kw_rng (σ.1 0 0)
  exact kw_ireturn (pc := 4) (i := 2) (ty := .int) rfl rfl rfl ⟨rfl, _, rfl, hF⟩
noncomputable def l_X8_there_0_4 (a1 : Int32) (S : kw_S) : Nat → Int32 → Int32 → Int32
  | 0, _, _ => 0
  | n + 1, x2, x3 => if x3.toInt < (6 : Int32).toInt then (if a1.toInt = (7 : Int32).toInt then (kf_l (S.1 2 x3.toNatClampNeg) fun z31 => if z31.toInt < 0 then (if a1.toInt = (8 : Int32).toInt then (if x3.toInt < (4 : Int32).toInt then (kf_l (S.1 5 x3.toNatClampNeg) fun z52 => if z52.toInt < 0 then (if a1.toInt = (9 : Int32).toInt then (if x3.toInt < (3 : Int32).toInt then (kf_l (S.1 16 x3.toNatClampNeg) fun z59 => if z59.toInt = (1 : Int32).toInt then (kf_l (x2 + (1 : Int32)) fun z62 => kf_l (x3 + Int32.ofInt 1) fun z63 => l_X8_there_0_4 a1 S n z62 z63) else (kf_l (x2 + (0 : Int32)) fun z60 => kf_l (x3 + Int32.ofInt 1) fun z61 => l_X8_there_0_4 a1 S n z60 z61)) else (kf_l (x2 + (0 : Int32)) fun z57 => kf_l (x3 + Int32.ofInt 1) fun z58 => l_X8_there_0_4 a1 S n z57 z58)) else (kf_l (x2 + (0 : Int32)) fun z55 => kf_l (x3 + Int32.ofInt 1) fun z56 => l_X8_there_0_4 a1 S n z55 z56)) else (kf_l (x2 + (1 : Int32)) fun z53 => kf_l (x3 + Int32.ofInt 1) fun z54 => l_X8_there_0_4 a1 S n z53 z54)) else (if a1.toInt = (9 : Int32).toInt then (if x3.toInt < (3 : Int32).toInt then (kf_l (S.1 16 x3.toNatClampNeg) fun z47 => if z47.toInt = (1 : Int32).toInt then (kf_l (x2 + (1 : Int32)) fun z50 => kf_l (x3 + Int32.ofInt 1) fun z51 => l_X8_there_0_4 a1 S n z50 z51) else (kf_l (x2 + (0 : Int32)) fun z48 => kf_l (x3 + Int32.ofInt 1) fun z49 => l_X8_there_0_4 a1 S n z48 z49)) else (kf_l (x2 + (0 : Int32)) fun z45 => kf_l (x3 + Int32.ofInt 1) fun z46 => l_X8_there_0_4 a1 S n z45 z46)) else (kf_l (x2 + (0 : Int32)) fun z43 => kf_l (x3 + Int32.ofInt 1) fun z44 => l_X8_there_0_4 a1 S n z43 z44))) else (if a1.toInt = (9 : Int32).toInt then (if x3.toInt < (3 : Int32).toInt then (kf_l (S.1 16 x3.toNatClampNeg) fun z38 => if z38.toInt = (1 : Int32).toInt then (kf_l (x2 + (1 : Int32)) fun z41 => kf_l (x3 + Int32.ofInt 1) fun z42 => l_X8_there_0_4 a1 S n z41 z42) else (kf_l (x2 + (0 : Int32)) fun z39 => kf_l (x3 + Int32.ofInt 1) fun z40 => l_X8_there_0_4 a1 S n z39 z40)) else (kf_l (x2 + (0 : Int32)) fun z36 => kf_l (x3 + Int32.ofInt 1) fun z37 => l_X8_there_0_4 a1 S n z36 z37)) else (kf_l (x2 + (0 : Int32)) fun z34 => kf_l (x3 + Int32.ofInt 1) fun z35 => l_X8_there_0_4 a1 S n z34 z35))) else (kf_l (x2 + (1 : Int32)) fun z32 => kf_l (x3 + Int32.ofInt 1) fun z33 => l_X8_there_0_4 a1 S n z32 z33)) else (if a1.toInt = (8 : Int32).toInt then (if x3.toInt < (4 : Int32).toInt then (kf_l (S.1 5 x3.toNatClampNeg) fun z19 => if z19.toInt < 0 then (if a1.toInt = (9 : Int32).toInt then (if x3.toInt < (3 : Int32).toInt then (kf_l (S.1 16 x3.toNatClampNeg) fun z26 => if z26.toInt = (1 : Int32).toInt then (kf_l (x2 + (1 : Int32)) fun z29 => kf_l (x3 + Int32.ofInt 1) fun z30 => l_X8_there_0_4 a1 S n z29 z30) else (kf_l (x2 + (0 : Int32)) fun z27 => kf_l (x3 + Int32.ofInt 1) fun z28 => l_X8_there_0_4 a1 S n z27 z28)) else (kf_l (x2 + (0 : Int32)) fun z24 => kf_l (x3 + Int32.ofInt 1) fun z25 => l_X8_there_0_4 a1 S n z24 z25)) else (kf_l (x2 + (0 : Int32)) fun z22 => kf_l (x3 + Int32.ofInt 1) fun z23 => l_X8_there_0_4 a1 S n z22 z23)) else (kf_l (x2 + (1 : Int32)) fun z20 => kf_l (x3 + Int32.ofInt 1) fun z21 => l_X8_there_0_4 a1 S n z20 z21)) else (if a1.toInt = (9 : Int32).toInt then (if x3.toInt < (3 : Int32).toInt then (kf_l (S.1 16 x3.toNatClampNeg) fun z14 => if z14.toInt = (1 : Int32).toInt then (kf_l (x2 + (1 : Int32)) fun z17 => kf_l (x3 + Int32.ofInt 1) fun z18 => l_X8_there_0_4 a1 S n z17 z18) else (kf_l (x2 + (0 : Int32)) fun z15 => kf_l (x3 + Int32.ofInt 1) fun z16 => l_X8_there_0_4 a1 S n z15 z16)) else (kf_l (x2 + (0 : Int32)) fun z12 => kf_l (x3 + Int32.ofInt 1) fun z13 => l_X8_there_0_4 a1 S n z12 z13)) else (kf_l (x2 + (0 : Int32)) fun z10 => kf_l (x3 + Int32.ofInt 1) fun z11 => l_X8_there_0_4 a1 S n z10 z11))) else (if a1.toInt = (9 : Int32).toInt then (if x3.toInt < (3 : Int32).toInt then (kf_l (S.1 16 x3.toNatClampNeg) fun z5 => if z5.toInt = (1 : Int32).toInt then (kf_l (x2 + (1 : Int32)) fun z8 => kf_l (x3 + Int32.ofInt 1) fun z9 => l_X8_there_0_4 a1 S n z8 z9) else (kf_l (x2 + (0 : Int32)) fun z6 => kf_l (x3 + Int32.ofInt 1) fun z7 => l_X8_there_0_4 a1 S n z6 z7)) else (kf_l (x2 + (0 : Int32)) fun z3 => kf_l (x3 + Int32.ofInt 1) fun z4 => l_X8_there_0_4 a1 S n z3 z4)) else (kf_l (x2 + (0 : Int32)) fun z1 => kf_l (x3 + Int32.ofInt 1) fun z2 => l_X8_there_0_4 a1 S n z1 z2)))) else (x2)
theorem l_X8_there_0_4_s (a1 : Int32) (S : kw_S) (n : Nat) (x2 : Int32) (x3 : Int32) : l_X8_there_0_4 a1 S (n + 1) x2 x3 = if x3.toInt < (6 : Int32).toInt then (if a1.toInt = (7 : Int32).toInt then (kf_l (S.1 2 x3.toNatClampNeg) fun z31 => if z31.toInt < 0 then (if a1.toInt = (8 : Int32).toInt then (if x3.toInt < (4 : Int32).toInt then (kf_l (S.1 5 x3.toNatClampNeg) fun z52 => if z52.toInt < 0 then (if a1.toInt = (9 : Int32).toInt then (if x3.toInt < (3 : Int32).toInt then (kf_l (S.1 16 x3.toNatClampNeg) fun z59 => if z59.toInt = (1 : Int32).toInt then (kf_l (x2 + (1 : Int32)) fun z62 => kf_l (x3 + Int32.ofInt 1) fun z63 => l_X8_there_0_4 a1 S n z62 z63) else (kf_l (x2 + (0 : Int32)) fun z60 => kf_l (x3 + Int32.ofInt 1) fun z61 => l_X8_there_0_4 a1 S n z60 z61)) else (kf_l (x2 + (0 : Int32)) fun z57 => kf_l (x3 + Int32.ofInt 1) fun z58 => l_X8_there_0_4 a1 S n z57 z58)) else (kf_l (x2 + (0 : Int32)) fun z55 => kf_l (x3 + Int32.ofInt 1) fun z56 => l_X8_there_0_4 a1 S n z55 z56)) else (kf_l (x2 + (1 : Int32)) fun z53 => kf_l (x3 + Int32.ofInt 1) fun z54 => l_X8_there_0_4 a1 S n z53 z54)) else (if a1.toInt = (9 : Int32).toInt then (if x3.toInt < (3 : Int32).toInt then (kf_l (S.1 16 x3.toNatClampNeg) fun z47 => if z47.toInt = (1 : Int32).toInt then (kf_l (x2 + (1 : Int32)) fun z50 => kf_l (x3 + Int32.ofInt 1) fun z51 => l_X8_there_0_4 a1 S n z50 z51) else (kf_l (x2 + (0 : Int32)) fun z48 => kf_l (x3 + Int32.ofInt 1) fun z49 => l_X8_there_0_4 a1 S n z48 z49)) else (kf_l (x2 + (0 : Int32)) fun z45 => kf_l (x3 + Int32.ofInt 1) fun z46 => l_X8_there_0_4 a1 S n z45 z46)) else (kf_l (x2 + (0 : Int32)) fun z43 => kf_l (x3 + Int32.ofInt 1) fun z44 => l_X8_there_0_4 a1 S n z43 z44))) else (if a1.toInt = (9 : Int32).toInt then (if x3.toInt < (3 : Int32).toInt then (kf_l (S.1 16 x3.toNatClampNeg) fun z38 => if z38.toInt = (1 : Int32).toInt then (kf_l (x2 + (1 : Int32)) fun z41 => kf_l (x3 + Int32.ofInt 1) fun z42 => l_X8_there_0_4 a1 S n z41 z42) else (kf_l (x2 + (0 : Int32)) fun z39 => kf_l (x3 + Int32.ofInt 1) fun z40 => l_X8_there_0_4 a1 S n z39 z40)) else (kf_l (x2 + (0 : Int32)) fun z36 => kf_l (x3 + Int32.ofInt 1) fun z37 => l_X8_there_0_4 a1 S n z36 z37)) else (kf_l (x2 + (0 : Int32)) fun z34 => kf_l (x3 + Int32.ofInt 1) fun z35 => l_X8_there_0_4 a1 S n z34 z35))) else (kf_l (x2 + (1 : Int32)) fun z32 => kf_l (x3 + Int32.ofInt 1) fun z33 => l_X8_there_0_4 a1 S n z32 z33)) else (if a1.toInt = (8 : Int32).toInt then (if x3.toInt < (4 : Int32).toInt then (kf_l (S.1 5 x3.toNatClampNeg) fun z19 => if z19.toInt < 0 then (if a1.toInt = (9 : Int32).toInt then (if x3.toInt < (3 : Int32).toInt then (kf_l (S.1 16 x3.toNatClampNeg) fun z26 => if z26.toInt = (1 : Int32).toInt then (kf_l (x2 + (1 : Int32)) fun z29 => kf_l (x3 + Int32.ofInt 1) fun z30 => l_X8_there_0_4 a1 S n z29 z30) else (kf_l (x2 + (0 : Int32)) fun z27 => kf_l (x3 + Int32.ofInt 1) fun z28 => l_X8_there_0_4 a1 S n z27 z28)) else (kf_l (x2 + (0 : Int32)) fun z24 => kf_l (x3 + Int32.ofInt 1) fun z25 => l_X8_there_0_4 a1 S n z24 z25)) else (kf_l (x2 + (0 : Int32)) fun z22 => kf_l (x3 + Int32.ofInt 1) fun z23 => l_X8_there_0_4 a1 S n z22 z23)) else (kf_l (x2 + (1 : Int32)) fun z20 => kf_l (x3 + Int32.ofInt 1) fun z21 => l_X8_there_0_4 a1 S n z20 z21)) else (if a1.toInt = (9 : Int32).toInt then (if x3.toInt < (3 : Int32).toInt then (kf_l (S.1 16 x3.toNatClampNeg) fun z14 => if z14.toInt = (1 : Int32).toInt then (kf_l (x2 + (1 : Int32)) fun z17 => kf_l (x3 + Int32.ofInt 1) fun z18 => l_X8_there_0_4 a1 S n z17 z18) else (kf_l (x2 + (0 : Int32)) fun z15 => kf_l (x3 + Int32.ofInt 1) fun z16 => l_X8_there_0_4 a1 S n z15 z16)) else (kf_l (x2 + (0 : Int32)) fun z12 => kf_l (x3 + Int32.ofInt 1) fun z13 => l_X8_there_0_4 a1 S n z12 z13)) else (kf_l (x2 + (0 : Int32)) fun z10 => kf_l (x3 + Int32.ofInt 1) fun z11 => l_X8_there_0_4 a1 S n z10 z11))) else (if a1.toInt = (9 : Int32).toInt then (if x3.toInt < (3 : Int32).toInt then (kf_l (S.1 16 x3.toNatClampNeg) fun z5 => if z5.toInt = (1 : Int32).toInt then (kf_l (x2 + (1 : Int32)) fun z8 => kf_l (x3 + Int32.ofInt 1) fun z9 => l_X8_there_0_4 a1 S n z8 z9) else (kf_l (x2 + (0 : Int32)) fun z6 => kf_l (x3 + Int32.ofInt 1) fun z7 => l_X8_there_0_4 a1 S n z6 z7)) else (kf_l (x2 + (0 : Int32)) fun z3 => kf_l (x3 + Int32.ofInt 1) fun z4 => l_X8_there_0_4 a1 S n z3 z4)) else (kf_l (x2 + (0 : Int32)) fun z1 => kf_l (x3 + Int32.ofInt 1) fun z2 => l_X8_there_0_4 a1 S n z1 z2)))) else (x2) := rfl
noncomputable def f_X8_there_0 (σ : kw_S) (w : Int32) : Int32 := l_X8_there_0_4 w σ ((7 - (0 : Int32).toInt).toNat + 1) (0 : Int32) (0 : Int32)
theorem f_X8_there_0_u (σ : kw_S) (w : Int32) : f_X8_there_0 σ w = l_X8_there_0_4 w σ ((7 - (0 : Int32).toInt).toNat + 1) (0 : Int32) (0 : Int32) := rfl
abbrev p_X8_there_0 (T : Int) (σ : kw_S) (w : Int32) : Option Value → kw_S → Prop := fun vv σ' => σ' = σ ∧ ∃ r : Int32, vv = some (.int r) ∧ r = f_X8_there_0 σ w
set_option maxRecDepth 100000 in
set_option maxHeartbeats 4000000 in
theorem c_X8_there_0 (l : Launch) (T : Int) (hT0 : 0 ≤ T) (hT1 : T ≤ 3000) (σ : kw_S) (hI : kw_I (bM T) σ) (w : Int32) : kw_Met l 1 KM mX8_there [.ref 0, .int w] σ (p_X8_there_0 T σ w) := by
  have r_w := kw_rng w
  have hF := (f_X8_there_0_u σ w).symm
  have q_0 : (0 : Int32).toInt = 0 := rfl
  have q_1 : (1 : Int32).toInt = 1 := rfl
  have q_3 : (3 : Int32).toInt = 3 := rfl
  have q_4 : (4 : Int32).toInt = 4 := rfl
  have q_6 : (6 : Int32).toInt = 6 := rfl
  have q_7 : (7 : Int32).toInt = 7 := rfl
  have q_8 : (8 : Int32).toInt = 8 := rfl
  have q_9 : (9 : Int32).toInt = 9 := rfl
  refine kw_Met.of (by decide) rfl tX8_there (Nat.le_of_ble_eq_true rfl) ?_
  show kw_AW l 1 kw_E0 KM mX8_there (p_X8_there_0 T σ w) 0 [(0, .ref 0), (1, .int w)] [] σ
  refine kw_iconst (pc := 0) (i := 0) (v := 0) rfl rfl ?_
  refine kw_istore_n (pc := 1) (i := 1) (n := 2) (lv' := [(2, .int 0), (0, .ref 0), (1, .int w)]) rfl rfl (by decide) rfl ?_
  refine kw_iconst (pc := 2) (i := 2) (v := 0) rfl rfl ?_
  refine kw_istore_n (pc := 3) (i := 3) (n := 3) (lv' := [(3, .int 0), (2, .int 0), (0, .ref 0), (1, .int w)]) rfl rfl (by decide) rfl ?_
  have L3 : ∀ (n7 : Nat) (x1 : Int32) (x2 : Int32), 0 ≤ x1.toInt → l_X8_there_0_4 w σ n7 x2 x1 = (f_X8_there_0 σ w) → (7 - x1.toInt).toNat < n7 → kw_AW l 1 kw_E0 KM mX8_there (p_X8_there_0 T σ w) 4 [(3, .int x1), (2, .int x2), (0, .ref 0), (1, .int w)] [] σ := by
    intro n7
    induction n7 with
    | zero => intro x1 x2 v5 hF m6; exact absurd m6 (Nat.not_lt_zero _)
    | succ n7 ih4 =>
      intro x1 x2 v5 hF m6
      replace hF := kf_st (l_X8_there_0_4_s _ _ _ _ _) hF
      have r_x1 := kw_rng x1
      have r_x2 := kw_rng x2
      refine kw_iload_n (pc := 4) (i := 4) (k := 0) (n := 3) rfl rfl rfl ?_
      refine kw_bipush (pc := 5) (i := 5) (v := 6) rfl rfl ?_
      refine kw_icmp_ge (pc := 7) (i := 6) (tgt := 80) rfl rfl (fun c8 => ?_) (fun c8 => ?_)
      · replace hF := kf_nl c8 hF
        refine kw_iload_n (pc := 80) (i := 46) (k := 1) (n := 2) rfl rfl rfl ?_
        exact kw_ireturn (pc := 81) (i := 47) (ty := .int) rfl rfl rfl ⟨rfl, _, rfl, hF⟩
      · replace hF := kf_p c8 hF
        refine kw_iload_n (pc := 10) (i := 7) (k := 1) (n := 2) rfl rfl rfl ?_
        refine kw_iload_n (pc := 11) (i := 8) (k := 3) (n := 1) rfl rfl rfl ?_
        refine kw_bipush (pc := 12) (i := 9) (v := 7) rfl rfl ?_
        refine kw_icmp_ne (pc := 14) (i := 10) (tgt := 26) rfl rfl (fun c9 => ?_) (fun c9 => ?_)
        · replace hF := kf_n c9 hF
          refine kw_iload_n (pc := 26) (i := 16) (k := 3) (n := 1) rfl rfl rfl ?_
          refine kw_bipush (pc := 27) (i := 17) (v := 8) rfl rfl ?_
          refine kw_icmp_ne (pc := 29) (i := 18) (tgt := 46) rfl rfl (fun c10 => ?_) (fun c10 => ?_)
          · replace hF := kf_n c10 hF
            refine kw_iload_n (pc := 46) (i := 27) (k := 3) (n := 1) rfl rfl rfl ?_
            refine kw_bipush (pc := 47) (i := 28) (v := 9) rfl rfl ?_
            refine kw_icmp_ne (pc := 49) (i := 29) (tgt := 71) rfl rfl (fun c11 => ?_) (fun c11 => ?_)
            · replace hF := kf_n c11 hF
              refine kw_iconst (pc := 71) (i := 41) (v := 0) rfl rfl ?_
              refine kw_iadd (pc := 72) (i := 42) rfl (fun z12 e_z12 t_z12 => ?_)
              replace hF := kf_le e_z12 hF
              first | (have u_z12 : z12.toInt = x2.toInt + 0 := (by omega); clear t_z12) | skip
              refine kw_istore_n (pc := 73) (i := 43) (n := 2) (lv' := [(2, .int z12), (3, .int x1), (0, .ref 0), (1, .int w)]) rfl rfl (by decide) rfl ?_
              refine kw_iinc' (pc := 74) (i := 44) (k := 1) (fun z => [(3, .int z), (2, .int z12), (0, .ref 0), (1, .int w)]) rfl rfl (by decide) rfl (fun _ => rfl) (fun z13 e_z13 t_z13 => ?_)
              replace hF := kf_le e_z13 hF
              first | (have u_z13 : z13.toInt = x1.toInt + 1 := (by omega); clear t_z13) | skip
              refine kw_goto (pc := 77) (i := 45) (tgt := 4) rfl rfl ?_
              refine kw_sub (lv' := [(3, .int z13), (2, .int z12), (0, .ref 0), (1, .int w)]) [0, 1, 2, 3] rfl ?_
              exact ih4 z13 z12 (by omega) hF (by omega)
            · replace hF := kf_p c11 hF
              refine kw_iload_n (pc := 52) (i := 30) (k := 0) (n := 3) rfl rfl rfl ?_
              refine kw_iconst (pc := 53) (i := 31) (v := 3) rfl rfl ?_
              refine kw_icmp_ge (pc := 54) (i := 32) (tgt := 71) rfl rfl (fun c14 => ?_) (fun c14 => ?_)
              · replace hF := kf_nl c14 hF
                refine kw_iconst (pc := 71) (i := 41) (v := 0) rfl rfl ?_
                refine kw_iadd (pc := 72) (i := 42) rfl (fun z15 e_z15 t_z15 => ?_)
                replace hF := kf_le e_z15 hF
                first | (have u_z15 : z15.toInt = x2.toInt + 0 := (by omega); clear t_z15) | skip
                refine kw_istore_n (pc := 73) (i := 43) (n := 2) (lv' := [(2, .int z15), (3, .int x1), (0, .ref 0), (1, .int w)]) rfl rfl (by decide) rfl ?_
                refine kw_iinc' (pc := 74) (i := 44) (k := 1) (fun z => [(3, .int z), (2, .int z15), (0, .ref 0), (1, .int w)]) rfl rfl (by decide) rfl (fun _ => rfl) (fun z16 e_z16 t_z16 => ?_)
                replace hF := kf_le e_z16 hF
                first | (have u_z16 : z16.toInt = x1.toInt + 1 := (by omega); clear t_z16) | skip
                refine kw_goto (pc := 77) (i := 45) (tgt := 4) rfl rfl ?_
                refine kw_sub (lv' := [(3, .int z16), (2, .int z15), (0, .ref 0), (1, .int w)]) [0, 1, 2, 3] rfl ?_
                exact ih4 z16 z15 (by omega) hF (by omega)
              · replace hF := kf_p c14 hF
                refine kw_aload_n (pc := 57) (i := 33) (k := 2) (n := 0) rfl rfl rfl ?_
                refine kw_get (pc := 58) (i := 34) (v := .ref 16) rfl rfl rfl lkX8_63 (fun _ => rfl) ?_
                refine kw_iload_n (pc := 61) (i := 35) (k := 0) (n := 3) rfl rfl rfl ?_
                refine kw_iald (pc := 62) (i := 36) (n := 3) rfl rfl (by omega) (by omega) (fun z17 e_z17 => ?_)
                replace hF := kf_le e_z17 hF
                have t_z17 := congrArg Int32.toInt e_z17
                have r_z17 := kw_rng z17
                refine kw_iconst (pc := 63) (i := 37) (v := 1) rfl rfl ?_
                refine kw_icmp_ne (pc := 64) (i := 38) (tgt := 71) rfl rfl (fun c18 => ?_) (fun c18 => ?_)
                · replace hF := kf_n c18 hF
                  refine kw_iconst (pc := 71) (i := 41) (v := 0) rfl rfl ?_
                  refine kw_iadd (pc := 72) (i := 42) rfl (fun z19 e_z19 t_z19 => ?_)
                  replace hF := kf_le e_z19 hF
                  first | (have u_z19 : z19.toInt = x2.toInt + 0 := (by omega); clear t_z19) | skip
                  refine kw_istore_n (pc := 73) (i := 43) (n := 2) (lv' := [(2, .int z19), (3, .int x1), (0, .ref 0), (1, .int w)]) rfl rfl (by decide) rfl ?_
                  refine kw_iinc' (pc := 74) (i := 44) (k := 1) (fun z => [(3, .int z), (2, .int z19), (0, .ref 0), (1, .int w)]) rfl rfl (by decide) rfl (fun _ => rfl) (fun z20 e_z20 t_z20 => ?_)
                  replace hF := kf_le e_z20 hF
                  first | (have u_z20 : z20.toInt = x1.toInt + 1 := (by omega); clear t_z20) | skip
                  refine kw_goto (pc := 77) (i := 45) (tgt := 4) rfl rfl ?_
                  refine kw_sub (lv' := [(3, .int z20), (2, .int z19), (0, .ref 0), (1, .int w)]) [0, 1, 2, 3] rfl ?_
                  exact ih4 z20 z19 (by omega) hF (by omega)
                · replace hF := kf_p c18 hF
                  refine kw_iconst (pc := 67) (i := 39) (v := 1) rfl rfl ?_
                  refine kw_goto (pc := 68) (i := 40) (tgt := 72) rfl rfl ?_
                  refine kw_iadd (pc := 72) (i := 42) rfl (fun z21 e_z21 t_z21 => ?_)
                  replace hF := kf_le e_z21 hF
                  first | (have u_z21 : z21.toInt = x2.toInt + 1 := (by omega); clear t_z21) | skip
                  refine kw_istore_n (pc := 73) (i := 43) (n := 2) (lv' := [(2, .int z21), (3, .int x1), (0, .ref 0), (1, .int w)]) rfl rfl (by decide) rfl ?_
                  refine kw_iinc' (pc := 74) (i := 44) (k := 1) (fun z => [(3, .int z), (2, .int z21), (0, .ref 0), (1, .int w)]) rfl rfl (by decide) rfl (fun _ => rfl) (fun z22 e_z22 t_z22 => ?_)
                  replace hF := kf_le e_z22 hF
                  first | (have u_z22 : z22.toInt = x1.toInt + 1 := (by omega); clear t_z22) | skip
                  refine kw_goto (pc := 77) (i := 45) (tgt := 4) rfl rfl ?_
                  refine kw_sub (lv' := [(3, .int z22), (2, .int z21), (0, .ref 0), (1, .int w)]) [0, 1, 2, 3] rfl ?_
                  exact ih4 z22 z21 (by omega) hF (by omega)
          · replace hF := kf_p c10 hF
            refine kw_iload_n (pc := 32) (i := 19) (k := 0) (n := 3) rfl rfl rfl ?_
            refine kw_iconst (pc := 33) (i := 20) (v := 4) rfl rfl ?_
            refine kw_icmp_ge (pc := 34) (i := 21) (tgt := 46) rfl rfl (fun c23 => ?_) (fun c23 => ?_)
            · replace hF := kf_nl c23 hF
              refine kw_iload_n (pc := 46) (i := 27) (k := 3) (n := 1) rfl rfl rfl ?_
              refine kw_bipush (pc := 47) (i := 28) (v := 9) rfl rfl ?_
              refine kw_icmp_ne (pc := 49) (i := 29) (tgt := 71) rfl rfl (fun c24 => ?_) (fun c24 => ?_)
              · replace hF := kf_n c24 hF
                refine kw_iconst (pc := 71) (i := 41) (v := 0) rfl rfl ?_
                refine kw_iadd (pc := 72) (i := 42) rfl (fun z25 e_z25 t_z25 => ?_)
                replace hF := kf_le e_z25 hF
                first | (have u_z25 : z25.toInt = x2.toInt + 0 := (by omega); clear t_z25) | skip
                refine kw_istore_n (pc := 73) (i := 43) (n := 2) (lv' := [(2, .int z25), (3, .int x1), (0, .ref 0), (1, .int w)]) rfl rfl (by decide) rfl ?_
                refine kw_iinc' (pc := 74) (i := 44) (k := 1) (fun z => [(3, .int z), (2, .int z25), (0, .ref 0), (1, .int w)]) rfl rfl (by decide) rfl (fun _ => rfl) (fun z26 e_z26 t_z26 => ?_)
                replace hF := kf_le e_z26 hF
                first | (have u_z26 : z26.toInt = x1.toInt + 1 := (by omega); clear t_z26) | skip
                refine kw_goto (pc := 77) (i := 45) (tgt := 4) rfl rfl ?_
                refine kw_sub (lv' := [(3, .int z26), (2, .int z25), (0, .ref 0), (1, .int w)]) [0, 1, 2, 3] rfl ?_
                exact ih4 z26 z25 (by omega) hF (by omega)
              · replace hF := kf_p c24 hF
                refine kw_iload_n (pc := 52) (i := 30) (k := 0) (n := 3) rfl rfl rfl ?_
                refine kw_iconst (pc := 53) (i := 31) (v := 3) rfl rfl ?_
                refine kw_icmp_ge (pc := 54) (i := 32) (tgt := 71) rfl rfl (fun c27 => ?_) (fun c27 => ?_)
                · replace hF := kf_nl c27 hF
                  refine kw_iconst (pc := 71) (i := 41) (v := 0) rfl rfl ?_
                  refine kw_iadd (pc := 72) (i := 42) rfl (fun z28 e_z28 t_z28 => ?_)
                  replace hF := kf_le e_z28 hF
                  first | (have u_z28 : z28.toInt = x2.toInt + 0 := (by omega); clear t_z28) | skip
                  refine kw_istore_n (pc := 73) (i := 43) (n := 2) (lv' := [(2, .int z28), (3, .int x1), (0, .ref 0), (1, .int w)]) rfl rfl (by decide) rfl ?_
                  refine kw_iinc' (pc := 74) (i := 44) (k := 1) (fun z => [(3, .int z), (2, .int z28), (0, .ref 0), (1, .int w)]) rfl rfl (by decide) rfl (fun _ => rfl) (fun z29 e_z29 t_z29 => ?_)
                  replace hF := kf_le e_z29 hF
                  first | (have u_z29 : z29.toInt = x1.toInt + 1 := (by omega); clear t_z29) | skip
                  refine kw_goto (pc := 77) (i := 45) (tgt := 4) rfl rfl ?_
                  refine kw_sub (lv' := [(3, .int z29), (2, .int z28), (0, .ref 0), (1, .int w)]) [0, 1, 2, 3] rfl ?_
                  exact ih4 z29 z28 (by omega) hF (by omega)
                · replace hF := kf_p c27 hF
                  refine kw_aload_n (pc := 57) (i := 33) (k := 2) (n := 0) rfl rfl rfl ?_
                  refine kw_get (pc := 58) (i := 34) (v := .ref 16) rfl rfl rfl lkX8_63 (fun _ => rfl) ?_
                  refine kw_iload_n (pc := 61) (i := 35) (k := 0) (n := 3) rfl rfl rfl ?_
                  refine kw_iald (pc := 62) (i := 36) (n := 3) rfl rfl (by omega) (by omega) (fun z30 e_z30 => ?_)
                  replace hF := kf_le e_z30 hF
                  have t_z30 := congrArg Int32.toInt e_z30
                  have r_z30 := kw_rng z30
                  refine kw_iconst (pc := 63) (i := 37) (v := 1) rfl rfl ?_
                  refine kw_icmp_ne (pc := 64) (i := 38) (tgt := 71) rfl rfl (fun c31 => ?_) (fun c31 => ?_)
                  · replace hF := kf_n c31 hF
                    refine kw_iconst (pc := 71) (i := 41) (v := 0) rfl rfl ?_
                    refine kw_iadd (pc := 72) (i := 42) rfl (fun z32 e_z32 t_z32 => ?_)
                    replace hF := kf_le e_z32 hF
                    first | (have u_z32 : z32.toInt = x2.toInt + 0 := (by omega); clear t_z32) | skip
                    refine kw_istore_n (pc := 73) (i := 43) (n := 2) (lv' := [(2, .int z32), (3, .int x1), (0, .ref 0), (1, .int w)]) rfl rfl (by decide) rfl ?_
                    refine kw_iinc' (pc := 74) (i := 44) (k := 1) (fun z => [(3, .int z), (2, .int z32), (0, .ref 0), (1, .int w)]) rfl rfl (by decide) rfl (fun _ => rfl) (fun z33 e_z33 t_z33 => ?_)
                    replace hF := kf_le e_z33 hF
                    first | (have u_z33 : z33.toInt = x1.toInt + 1 := (by omega); clear t_z33) | skip
                    refine kw_goto (pc := 77) (i := 45) (tgt := 4) rfl rfl ?_
                    refine kw_sub (lv' := [(3, .int z33), (2, .int z32), (0, .ref 0), (1, .int w)]) [0, 1, 2, 3] rfl ?_
                    exact ih4 z33 z32 (by omega) hF (by omega)
                  · replace hF := kf_p c31 hF
                    refine kw_iconst (pc := 67) (i := 39) (v := 1) rfl rfl ?_
                    refine kw_goto (pc := 68) (i := 40) (tgt := 72) rfl rfl ?_
                    refine kw_iadd (pc := 72) (i := 42) rfl (fun z34 e_z34 t_z34 => ?_)
                    replace hF := kf_le e_z34 hF
                    first | (have u_z34 : z34.toInt = x2.toInt + 1 := (by omega); clear t_z34) | skip
                    refine kw_istore_n (pc := 73) (i := 43) (n := 2) (lv' := [(2, .int z34), (3, .int x1), (0, .ref 0), (1, .int w)]) rfl rfl (by decide) rfl ?_
                    refine kw_iinc' (pc := 74) (i := 44) (k := 1) (fun z => [(3, .int z), (2, .int z34), (0, .ref 0), (1, .int w)]) rfl rfl (by decide) rfl (fun _ => rfl) (fun z35 e_z35 t_z35 => ?_)
                    replace hF := kf_le e_z35 hF
                    first | (have u_z35 : z35.toInt = x1.toInt + 1 := (by omega); clear t_z35) | skip
                    refine kw_goto (pc := 77) (i := 45) (tgt := 4) rfl rfl ?_
                    refine kw_sub (lv' := [(3, .int z35), (2, .int z34), (0, .ref 0), (1, .int w)]) [0, 1, 2, 3] rfl ?_
                    exact ih4 z35 z34 (by omega) hF (by omega)
            · replace hF := kf_p c23 hF
              refine kw_aload_n (pc := 37) (i := 22) (k := 2) (n := 0) rfl rfl rfl ?_
              refine kw_get (pc := 38) (i := 23) (v := .ref 5) rfl rfl rfl lkX8_26 (fun _ => rfl) ?_
              refine kw_iload_n (pc := 41) (i := 24) (k := 0) (n := 3) rfl rfl rfl ?_
              refine kw_iald (pc := 42) (i := 25) (n := 4) rfl rfl (by omega) (by omega) (fun z36 e_z36 => ?_)
              replace hF := kf_le e_z36 hF
              have t_z36 := congrArg Int32.toInt e_z36
              have b_z36 : -9 ≤ z36.toInt ∧ z36.toInt ≤ 60 := by rw [e_z36]; exact hI 5 _
              refine kw_if_ge (pc := 43) (i := 26) (tgt := 67) rfl rfl (fun c37 => ?_) (fun c37 => ?_)
              · replace hF := kf_nl c37 hF
                refine kw_iconst (pc := 67) (i := 39) (v := 1) rfl rfl ?_
                refine kw_goto (pc := 68) (i := 40) (tgt := 72) rfl rfl ?_
                refine kw_iadd (pc := 72) (i := 42) rfl (fun z38 e_z38 t_z38 => ?_)
                replace hF := kf_le e_z38 hF
                first | (have u_z38 : z38.toInt = x2.toInt + 1 := (by omega); clear t_z38) | skip
                refine kw_istore_n (pc := 73) (i := 43) (n := 2) (lv' := [(2, .int z38), (3, .int x1), (0, .ref 0), (1, .int w)]) rfl rfl (by decide) rfl ?_
                refine kw_iinc' (pc := 74) (i := 44) (k := 1) (fun z => [(3, .int z), (2, .int z38), (0, .ref 0), (1, .int w)]) rfl rfl (by decide) rfl (fun _ => rfl) (fun z39 e_z39 t_z39 => ?_)
                replace hF := kf_le e_z39 hF
                first | (have u_z39 : z39.toInt = x1.toInt + 1 := (by omega); clear t_z39) | skip
                refine kw_goto (pc := 77) (i := 45) (tgt := 4) rfl rfl ?_
                refine kw_sub (lv' := [(3, .int z39), (2, .int z38), (0, .ref 0), (1, .int w)]) [0, 1, 2, 3] rfl ?_
                exact ih4 z39 z38 (by omega) hF (by omega)
              · replace hF := kf_p c37 hF
                refine kw_iload_n (pc := 46) (i := 27) (k := 3) (n := 1) rfl rfl rfl ?_
                refine kw_bipush (pc := 47) (i := 28) (v := 9) rfl rfl ?_
                refine kw_icmp_ne (pc := 49) (i := 29) (tgt := 71) rfl rfl (fun c40 => ?_) (fun c40 => ?_)
                · replace hF := kf_n c40 hF
                  refine kw_iconst (pc := 71) (i := 41) (v := 0) rfl rfl ?_
                  refine kw_iadd (pc := 72) (i := 42) rfl (fun z41 e_z41 t_z41 => ?_)
                  replace hF := kf_le e_z41 hF
                  first | (have u_z41 : z41.toInt = x2.toInt + 0 := (by omega); clear t_z41) | skip
                  refine kw_istore_n (pc := 73) (i := 43) (n := 2) (lv' := [(2, .int z41), (3, .int x1), (0, .ref 0), (1, .int w)]) rfl rfl (by decide) rfl ?_
                  refine kw_iinc' (pc := 74) (i := 44) (k := 1) (fun z => [(3, .int z), (2, .int z41), (0, .ref 0), (1, .int w)]) rfl rfl (by decide) rfl (fun _ => rfl) (fun z42 e_z42 t_z42 => ?_)
                  replace hF := kf_le e_z42 hF
                  first | (have u_z42 : z42.toInt = x1.toInt + 1 := (by omega); clear t_z42) | skip
                  refine kw_goto (pc := 77) (i := 45) (tgt := 4) rfl rfl ?_
                  refine kw_sub (lv' := [(3, .int z42), (2, .int z41), (0, .ref 0), (1, .int w)]) [0, 1, 2, 3] rfl ?_
                  exact ih4 z42 z41 (by omega) hF (by omega)
                · replace hF := kf_p c40 hF
                  refine kw_iload_n (pc := 52) (i := 30) (k := 0) (n := 3) rfl rfl rfl ?_
                  refine kw_iconst (pc := 53) (i := 31) (v := 3) rfl rfl ?_
                  refine kw_icmp_ge (pc := 54) (i := 32) (tgt := 71) rfl rfl (fun c43 => ?_) (fun c43 => ?_)
                  · replace hF := kf_nl c43 hF
                    refine kw_iconst (pc := 71) (i := 41) (v := 0) rfl rfl ?_
                    refine kw_iadd (pc := 72) (i := 42) rfl (fun z44 e_z44 t_z44 => ?_)
                    replace hF := kf_le e_z44 hF
                    first | (have u_z44 : z44.toInt = x2.toInt + 0 := (by omega); clear t_z44) | skip
                    refine kw_istore_n (pc := 73) (i := 43) (n := 2) (lv' := [(2, .int z44), (3, .int x1), (0, .ref 0), (1, .int w)]) rfl rfl (by decide) rfl ?_
                    refine kw_iinc' (pc := 74) (i := 44) (k := 1) (fun z => [(3, .int z), (2, .int z44), (0, .ref 0), (1, .int w)]) rfl rfl (by decide) rfl (fun _ => rfl) (fun z45 e_z45 t_z45 => ?_)
                    replace hF := kf_le e_z45 hF
                    first | (have u_z45 : z45.toInt = x1.toInt + 1 := (by omega); clear t_z45) | skip
                    refine kw_goto (pc := 77) (i := 45) (tgt := 4) rfl rfl ?_
                    refine kw_sub (lv' := [(3, .int z45), (2, .int z44), (0, .ref 0), (1, .int w)]) [0, 1, 2, 3] rfl ?_
                    exact ih4 z45 z44 (by omega) hF (by omega)
                  · replace hF := kf_p c43 hF
                    refine kw_aload_n (pc := 57) (i := 33) (k := 2) (n := 0) rfl rfl rfl ?_
                    refine kw_get (pc := 58) (i := 34) (v := .ref 16) rfl rfl rfl lkX8_63 (fun _ => rfl) ?_
                    refine kw_iload_n (pc := 61) (i := 35) (k := 0) (n := 3) rfl rfl rfl ?_
                    refine kw_iald (pc := 62) (i := 36) (n := 3) rfl rfl (by omega) (by omega) (fun z46 e_z46 => ?_)
                    replace hF := kf_le e_z46 hF
                    have t_z46 := congrArg Int32.toInt e_z46
                    have r_z46 := kw_rng z46
                    refine kw_iconst (pc := 63) (i := 37) (v := 1) rfl rfl ?_
                    refine kw_icmp_ne (pc := 64) (i := 38) (tgt := 71) rfl rfl (fun c47 => ?_) (fun c47 => ?_)
                    · replace hF := kf_n c47 hF
                      refine kw_iconst (pc := 71) (i := 41) (v := 0) rfl rfl ?_
                      refine kw_iadd (pc := 72) (i := 42) rfl (fun z48 e_z48 t_z48 => ?_)
                      replace hF := kf_le e_z48 hF
                      first | (have u_z48 : z48.toInt = x2.toInt + 0 := (by omega); clear t_z48) | skip
                      refine kw_istore_n (pc := 73) (i := 43) (n := 2) (lv' := [(2, .int z48), (3, .int x1), (0, .ref 0), (1, .int w)]) rfl rfl (by decide) rfl ?_
                      refine kw_iinc' (pc := 74) (i := 44) (k := 1) (fun z => [(3, .int z), (2, .int z48), (0, .ref 0), (1, .int w)]) rfl rfl (by decide) rfl (fun _ => rfl) (fun z49 e_z49 t_z49 => ?_)
                      replace hF := kf_le e_z49 hF
                      first | (have u_z49 : z49.toInt = x1.toInt + 1 := (by omega); clear t_z49) | skip
                      refine kw_goto (pc := 77) (i := 45) (tgt := 4) rfl rfl ?_
                      refine kw_sub (lv' := [(3, .int z49), (2, .int z48), (0, .ref 0), (1, .int w)]) [0, 1, 2, 3] rfl ?_
                      exact ih4 z49 z48 (by omega) hF (by omega)
                    · replace hF := kf_p c47 hF
                      refine kw_iconst (pc := 67) (i := 39) (v := 1) rfl rfl ?_
                      refine kw_goto (pc := 68) (i := 40) (tgt := 72) rfl rfl ?_
                      refine kw_iadd (pc := 72) (i := 42) rfl (fun z50 e_z50 t_z50 => ?_)
                      replace hF := kf_le e_z50 hF
                      first | (have u_z50 : z50.toInt = x2.toInt + 1 := (by omega); clear t_z50) | skip
                      refine kw_istore_n (pc := 73) (i := 43) (n := 2) (lv' := [(2, .int z50), (3, .int x1), (0, .ref 0), (1, .int w)]) rfl rfl (by decide) rfl ?_
                      refine kw_iinc' (pc := 74) (i := 44) (k := 1) (fun z => [(3, .int z), (2, .int z50), (0, .ref 0), (1, .int w)]) rfl rfl (by decide) rfl (fun _ => rfl) (fun z51 e_z51 t_z51 => ?_)
                      replace hF := kf_le e_z51 hF
                      first | (have u_z51 : z51.toInt = x1.toInt + 1 := (by omega); clear t_z51) | skip
                      refine kw_goto (pc := 77) (i := 45) (tgt := 4) rfl rfl ?_
                      refine kw_sub (lv' := [(3, .int z51), (2, .int z50), (0, .ref 0), (1, .int w)]) [0, 1, 2, 3] rfl ?_
                      exact ih4 z51 z50 (by omega) hF (by omega)
        · replace hF := kf_p c9 hF
          refine kw_aload_n (pc := 17) (i := 11) (k := 2) (n := 0) rfl rfl rfl ?_
          refine kw_get (pc := 18) (i := 12) (v := .ref 2) rfl rfl rfl lkX8_17 (fun _ => rfl) ?_
          refine kw_iload_n (pc := 21) (i := 13) (k := 0) (n := 3) rfl rfl rfl ?_
          refine kw_iald (pc := 22) (i := 14) (n := 6) rfl rfl (by omega) (by omega) (fun z52 e_z52 => ?_)
          replace hF := kf_le e_z52 hF
          have t_z52 := congrArg Int32.toInt e_z52
          have b_z52 : -9 ≤ z52.toInt ∧ z52.toInt ≤ 40 := by rw [e_z52]; exact hI 2 _
          refine kw_if_ge (pc := 23) (i := 15) (tgt := 67) rfl rfl (fun c53 => ?_) (fun c53 => ?_)
          · replace hF := kf_nl c53 hF
            refine kw_iconst (pc := 67) (i := 39) (v := 1) rfl rfl ?_
            refine kw_goto (pc := 68) (i := 40) (tgt := 72) rfl rfl ?_
            refine kw_iadd (pc := 72) (i := 42) rfl (fun z54 e_z54 t_z54 => ?_)
            replace hF := kf_le e_z54 hF
            first | (have u_z54 : z54.toInt = x2.toInt + 1 := (by omega); clear t_z54) | skip
            refine kw_istore_n (pc := 73) (i := 43) (n := 2) (lv' := [(2, .int z54), (3, .int x1), (0, .ref 0), (1, .int w)]) rfl rfl (by decide) rfl ?_
            refine kw_iinc' (pc := 74) (i := 44) (k := 1) (fun z => [(3, .int z), (2, .int z54), (0, .ref 0), (1, .int w)]) rfl rfl (by decide) rfl (fun _ => rfl) (fun z55 e_z55 t_z55 => ?_)
            replace hF := kf_le e_z55 hF
            first | (have u_z55 : z55.toInt = x1.toInt + 1 := (by omega); clear t_z55) | skip
            refine kw_goto (pc := 77) (i := 45) (tgt := 4) rfl rfl ?_
            refine kw_sub (lv' := [(3, .int z55), (2, .int z54), (0, .ref 0), (1, .int w)]) [0, 1, 2, 3] rfl ?_
            exact ih4 z55 z54 (by omega) hF (by omega)
          · replace hF := kf_p c53 hF
            refine kw_iload_n (pc := 26) (i := 16) (k := 3) (n := 1) rfl rfl rfl ?_
            refine kw_bipush (pc := 27) (i := 17) (v := 8) rfl rfl ?_
            refine kw_icmp_ne (pc := 29) (i := 18) (tgt := 46) rfl rfl (fun c56 => ?_) (fun c56 => ?_)
            · replace hF := kf_n c56 hF
              refine kw_iload_n (pc := 46) (i := 27) (k := 3) (n := 1) rfl rfl rfl ?_
              refine kw_bipush (pc := 47) (i := 28) (v := 9) rfl rfl ?_
              refine kw_icmp_ne (pc := 49) (i := 29) (tgt := 71) rfl rfl (fun c57 => ?_) (fun c57 => ?_)
              · replace hF := kf_n c57 hF
                refine kw_iconst (pc := 71) (i := 41) (v := 0) rfl rfl ?_
                refine kw_iadd (pc := 72) (i := 42) rfl (fun z58 e_z58 t_z58 => ?_)
                replace hF := kf_le e_z58 hF
                first | (have u_z58 : z58.toInt = x2.toInt + 0 := (by omega); clear t_z58) | skip
                refine kw_istore_n (pc := 73) (i := 43) (n := 2) (lv' := [(2, .int z58), (3, .int x1), (0, .ref 0), (1, .int w)]) rfl rfl (by decide) rfl ?_
                refine kw_iinc' (pc := 74) (i := 44) (k := 1) (fun z => [(3, .int z), (2, .int z58), (0, .ref 0), (1, .int w)]) rfl rfl (by decide) rfl (fun _ => rfl) (fun z59 e_z59 t_z59 => ?_)
                replace hF := kf_le e_z59 hF
                first | (have u_z59 : z59.toInt = x1.toInt + 1 := (by omega); clear t_z59) | skip
                refine kw_goto (pc := 77) (i := 45) (tgt := 4) rfl rfl ?_
                refine kw_sub (lv' := [(3, .int z59), (2, .int z58), (0, .ref 0), (1, .int w)]) [0, 1, 2, 3] rfl ?_
                exact ih4 z59 z58 (by omega) hF (by omega)
              · replace hF := kf_p c57 hF
                refine kw_iload_n (pc := 52) (i := 30) (k := 0) (n := 3) rfl rfl rfl ?_
                refine kw_iconst (pc := 53) (i := 31) (v := 3) rfl rfl ?_
                refine kw_icmp_ge (pc := 54) (i := 32) (tgt := 71) rfl rfl (fun c60 => ?_) (fun c60 => ?_)
                · replace hF := kf_nl c60 hF
                  refine kw_iconst (pc := 71) (i := 41) (v := 0) rfl rfl ?_
                  refine kw_iadd (pc := 72) (i := 42) rfl (fun z61 e_z61 t_z61 => ?_)
                  replace hF := kf_le e_z61 hF
                  first | (have u_z61 : z61.toInt = x2.toInt + 0 := (by omega); clear t_z61) | skip
                  refine kw_istore_n (pc := 73) (i := 43) (n := 2) (lv' := [(2, .int z61), (3, .int x1), (0, .ref 0), (1, .int w)]) rfl rfl (by decide) rfl ?_
                  refine kw_iinc' (pc := 74) (i := 44) (k := 1) (fun z => [(3, .int z), (2, .int z61), (0, .ref 0), (1, .int w)]) rfl rfl (by decide) rfl (fun _ => rfl) (fun z62 e_z62 t_z62 => ?_)
                  replace hF := kf_le e_z62 hF
                  first | (have u_z62 : z62.toInt = x1.toInt + 1 := (by omega); clear t_z62) | skip
                  refine kw_goto (pc := 77) (i := 45) (tgt := 4) rfl rfl ?_
                  refine kw_sub (lv' := [(3, .int z62), (2, .int z61), (0, .ref 0), (1, .int w)]) [0, 1, 2, 3] rfl ?_
                  exact ih4 z62 z61 (by omega) hF (by omega)
                · replace hF := kf_p c60 hF
                  refine kw_aload_n (pc := 57) (i := 33) (k := 2) (n := 0) rfl rfl rfl ?_
                  refine kw_get (pc := 58) (i := 34) (v := .ref 16) rfl rfl rfl lkX8_63 (fun _ => rfl) ?_
                  refine kw_iload_n (pc := 61) (i := 35) (k := 0) (n := 3) rfl rfl rfl ?_
                  refine kw_iald (pc := 62) (i := 36) (n := 3) rfl rfl (by omega) (by omega) (fun z63 e_z63 => ?_)
                  replace hF := kf_le e_z63 hF
                  have t_z63 := congrArg Int32.toInt e_z63
                  have r_z63 := kw_rng z63
                  refine kw_iconst (pc := 63) (i := 37) (v := 1) rfl rfl ?_
                  refine kw_icmp_ne (pc := 64) (i := 38) (tgt := 71) rfl rfl (fun c64 => ?_) (fun c64 => ?_)
                  · replace hF := kf_n c64 hF
                    refine kw_iconst (pc := 71) (i := 41) (v := 0) rfl rfl ?_
                    refine kw_iadd (pc := 72) (i := 42) rfl (fun z65 e_z65 t_z65 => ?_)
                    replace hF := kf_le e_z65 hF
                    first | (have u_z65 : z65.toInt = x2.toInt + 0 := (by omega); clear t_z65) | skip
                    refine kw_istore_n (pc := 73) (i := 43) (n := 2) (lv' := [(2, .int z65), (3, .int x1), (0, .ref 0), (1, .int w)]) rfl rfl (by decide) rfl ?_
                    refine kw_iinc' (pc := 74) (i := 44) (k := 1) (fun z => [(3, .int z), (2, .int z65), (0, .ref 0), (1, .int w)]) rfl rfl (by decide) rfl (fun _ => rfl) (fun z66 e_z66 t_z66 => ?_)
                    replace hF := kf_le e_z66 hF
                    first | (have u_z66 : z66.toInt = x1.toInt + 1 := (by omega); clear t_z66) | skip
                    refine kw_goto (pc := 77) (i := 45) (tgt := 4) rfl rfl ?_
                    refine kw_sub (lv' := [(3, .int z66), (2, .int z65), (0, .ref 0), (1, .int w)]) [0, 1, 2, 3] rfl ?_
                    exact ih4 z66 z65 (by omega) hF (by omega)
                  · replace hF := kf_p c64 hF
                    refine kw_iconst (pc := 67) (i := 39) (v := 1) rfl rfl ?_
                    refine kw_goto (pc := 68) (i := 40) (tgt := 72) rfl rfl ?_
                    refine kw_iadd (pc := 72) (i := 42) rfl (fun z67 e_z67 t_z67 => ?_)
                    replace hF := kf_le e_z67 hF
                    first | (have u_z67 : z67.toInt = x2.toInt + 1 := (by omega); clear t_z67) | skip
                    refine kw_istore_n (pc := 73) (i := 43) (n := 2) (lv' := [(2, .int z67), (3, .int x1), (0, .ref 0), (1, .int w)]) rfl rfl (by decide) rfl ?_
                    refine kw_iinc' (pc := 74) (i := 44) (k := 1) (fun z => [(3, .int z), (2, .int z67), (0, .ref 0), (1, .int w)]) rfl rfl (by decide) rfl (fun _ => rfl) (fun z68 e_z68 t_z68 => ?_)
                    replace hF := kf_le e_z68 hF
                    first | (have u_z68 : z68.toInt = x1.toInt + 1 := (by omega); clear t_z68) | skip
                    refine kw_goto (pc := 77) (i := 45) (tgt := 4) rfl rfl ?_
                    refine kw_sub (lv' := [(3, .int z68), (2, .int z67), (0, .ref 0), (1, .int w)]) [0, 1, 2, 3] rfl ?_
                    exact ih4 z68 z67 (by omega) hF (by omega)
            · replace hF := kf_p c56 hF
              refine kw_iload_n (pc := 32) (i := 19) (k := 0) (n := 3) rfl rfl rfl ?_
              refine kw_iconst (pc := 33) (i := 20) (v := 4) rfl rfl ?_
              refine kw_icmp_ge (pc := 34) (i := 21) (tgt := 46) rfl rfl (fun c69 => ?_) (fun c69 => ?_)
              · replace hF := kf_nl c69 hF
                refine kw_iload_n (pc := 46) (i := 27) (k := 3) (n := 1) rfl rfl rfl ?_
                refine kw_bipush (pc := 47) (i := 28) (v := 9) rfl rfl ?_
                refine kw_icmp_ne (pc := 49) (i := 29) (tgt := 71) rfl rfl (fun c70 => ?_) (fun c70 => ?_)
                · replace hF := kf_n c70 hF
                  refine kw_iconst (pc := 71) (i := 41) (v := 0) rfl rfl ?_
                  refine kw_iadd (pc := 72) (i := 42) rfl (fun z71 e_z71 t_z71 => ?_)
                  replace hF := kf_le e_z71 hF
                  first | (have u_z71 : z71.toInt = x2.toInt + 0 := (by omega); clear t_z71) | skip
                  refine kw_istore_n (pc := 73) (i := 43) (n := 2) (lv' := [(2, .int z71), (3, .int x1), (0, .ref 0), (1, .int w)]) rfl rfl (by decide) rfl ?_
                  refine kw_iinc' (pc := 74) (i := 44) (k := 1) (fun z => [(3, .int z), (2, .int z71), (0, .ref 0), (1, .int w)]) rfl rfl (by decide) rfl (fun _ => rfl) (fun z72 e_z72 t_z72 => ?_)
                  replace hF := kf_le e_z72 hF
                  first | (have u_z72 : z72.toInt = x1.toInt + 1 := (by omega); clear t_z72) | skip
                  refine kw_goto (pc := 77) (i := 45) (tgt := 4) rfl rfl ?_
                  refine kw_sub (lv' := [(3, .int z72), (2, .int z71), (0, .ref 0), (1, .int w)]) [0, 1, 2, 3] rfl ?_
                  exact ih4 z72 z71 (by omega) hF (by omega)
                · replace hF := kf_p c70 hF
                  refine kw_iload_n (pc := 52) (i := 30) (k := 0) (n := 3) rfl rfl rfl ?_
                  refine kw_iconst (pc := 53) (i := 31) (v := 3) rfl rfl ?_
                  refine kw_icmp_ge (pc := 54) (i := 32) (tgt := 71) rfl rfl (fun c73 => ?_) (fun c73 => ?_)
                  · replace hF := kf_nl c73 hF
                    refine kw_iconst (pc := 71) (i := 41) (v := 0) rfl rfl ?_
                    refine kw_iadd (pc := 72) (i := 42) rfl (fun z74 e_z74 t_z74 => ?_)
                    replace hF := kf_le e_z74 hF
                    first | (have u_z74 : z74.toInt = x2.toInt + 0 := (by omega); clear t_z74) | skip
                    refine kw_istore_n (pc := 73) (i := 43) (n := 2) (lv' := [(2, .int z74), (3, .int x1), (0, .ref 0), (1, .int w)]) rfl rfl (by decide) rfl ?_
                    refine kw_iinc' (pc := 74) (i := 44) (k := 1) (fun z => [(3, .int z), (2, .int z74), (0, .ref 0), (1, .int w)]) rfl rfl (by decide) rfl (fun _ => rfl) (fun z75 e_z75 t_z75 => ?_)
                    replace hF := kf_le e_z75 hF
                    first | (have u_z75 : z75.toInt = x1.toInt + 1 := (by omega); clear t_z75) | skip
                    refine kw_goto (pc := 77) (i := 45) (tgt := 4) rfl rfl ?_
                    refine kw_sub (lv' := [(3, .int z75), (2, .int z74), (0, .ref 0), (1, .int w)]) [0, 1, 2, 3] rfl ?_
                    exact ih4 z75 z74 (by omega) hF (by omega)
                  · replace hF := kf_p c73 hF
                    refine kw_aload_n (pc := 57) (i := 33) (k := 2) (n := 0) rfl rfl rfl ?_
                    refine kw_get (pc := 58) (i := 34) (v := .ref 16) rfl rfl rfl lkX8_63 (fun _ => rfl) ?_
                    refine kw_iload_n (pc := 61) (i := 35) (k := 0) (n := 3) rfl rfl rfl ?_
                    refine kw_iald (pc := 62) (i := 36) (n := 3) rfl rfl (by omega) (by omega) (fun z76 e_z76 => ?_)
                    replace hF := kf_le e_z76 hF
                    have t_z76 := congrArg Int32.toInt e_z76
                    have r_z76 := kw_rng z76
                    refine kw_iconst (pc := 63) (i := 37) (v := 1) rfl rfl ?_
                    refine kw_icmp_ne (pc := 64) (i := 38) (tgt := 71) rfl rfl (fun c77 => ?_) (fun c77 => ?_)
                    · replace hF := kf_n c77 hF
                      refine kw_iconst (pc := 71) (i := 41) (v := 0) rfl rfl ?_
                      refine kw_iadd (pc := 72) (i := 42) rfl (fun z78 e_z78 t_z78 => ?_)
                      replace hF := kf_le e_z78 hF
                      first | (have u_z78 : z78.toInt = x2.toInt + 0 := (by omega); clear t_z78) | skip
                      refine kw_istore_n (pc := 73) (i := 43) (n := 2) (lv' := [(2, .int z78), (3, .int x1), (0, .ref 0), (1, .int w)]) rfl rfl (by decide) rfl ?_
                      refine kw_iinc' (pc := 74) (i := 44) (k := 1) (fun z => [(3, .int z), (2, .int z78), (0, .ref 0), (1, .int w)]) rfl rfl (by decide) rfl (fun _ => rfl) (fun z79 e_z79 t_z79 => ?_)
                      replace hF := kf_le e_z79 hF
                      first | (have u_z79 : z79.toInt = x1.toInt + 1 := (by omega); clear t_z79) | skip
                      refine kw_goto (pc := 77) (i := 45) (tgt := 4) rfl rfl ?_
                      refine kw_sub (lv' := [(3, .int z79), (2, .int z78), (0, .ref 0), (1, .int w)]) [0, 1, 2, 3] rfl ?_
                      exact ih4 z79 z78 (by omega) hF (by omega)
                    · replace hF := kf_p c77 hF
                      refine kw_iconst (pc := 67) (i := 39) (v := 1) rfl rfl ?_
                      refine kw_goto (pc := 68) (i := 40) (tgt := 72) rfl rfl ?_
                      refine kw_iadd (pc := 72) (i := 42) rfl (fun z80 e_z80 t_z80 => ?_)
                      replace hF := kf_le e_z80 hF
                      first | (have u_z80 : z80.toInt = x2.toInt + 1 := (by omega); clear t_z80) | skip
                      refine kw_istore_n (pc := 73) (i := 43) (n := 2) (lv' := [(2, .int z80), (3, .int x1), (0, .ref 0), (1, .int w)]) rfl rfl (by decide) rfl ?_
                      refine kw_iinc' (pc := 74) (i := 44) (k := 1) (fun z => [(3, .int z), (2, .int z80), (0, .ref 0), (1, .int w)]) rfl rfl (by decide) rfl (fun _ => rfl) (fun z81 e_z81 t_z81 => ?_)
                      replace hF := kf_le e_z81 hF
                      first | (have u_z81 : z81.toInt = x1.toInt + 1 := (by omega); clear t_z81) | skip
                      refine kw_goto (pc := 77) (i := 45) (tgt := 4) rfl rfl ?_
                      refine kw_sub (lv' := [(3, .int z81), (2, .int z80), (0, .ref 0), (1, .int w)]) [0, 1, 2, 3] rfl ?_
                      exact ih4 z81 z80 (by omega) hF (by omega)
              · replace hF := kf_p c69 hF
                refine kw_aload_n (pc := 37) (i := 22) (k := 2) (n := 0) rfl rfl rfl ?_
                refine kw_get (pc := 38) (i := 23) (v := .ref 5) rfl rfl rfl lkX8_26 (fun _ => rfl) ?_
                refine kw_iload_n (pc := 41) (i := 24) (k := 0) (n := 3) rfl rfl rfl ?_
                refine kw_iald (pc := 42) (i := 25) (n := 4) rfl rfl (by omega) (by omega) (fun z82 e_z82 => ?_)
                replace hF := kf_le e_z82 hF
                have t_z82 := congrArg Int32.toInt e_z82
                have b_z82 : -9 ≤ z82.toInt ∧ z82.toInt ≤ 60 := by rw [e_z82]; exact hI 5 _
                refine kw_if_ge (pc := 43) (i := 26) (tgt := 67) rfl rfl (fun c83 => ?_) (fun c83 => ?_)
                · replace hF := kf_nl c83 hF
                  refine kw_iconst (pc := 67) (i := 39) (v := 1) rfl rfl ?_
                  refine kw_goto (pc := 68) (i := 40) (tgt := 72) rfl rfl ?_
                  refine kw_iadd (pc := 72) (i := 42) rfl (fun z84 e_z84 t_z84 => ?_)
                  replace hF := kf_le e_z84 hF
                  first | (have u_z84 : z84.toInt = x2.toInt + 1 := (by omega); clear t_z84) | skip
                  refine kw_istore_n (pc := 73) (i := 43) (n := 2) (lv' := [(2, .int z84), (3, .int x1), (0, .ref 0), (1, .int w)]) rfl rfl (by decide) rfl ?_
                  refine kw_iinc' (pc := 74) (i := 44) (k := 1) (fun z => [(3, .int z), (2, .int z84), (0, .ref 0), (1, .int w)]) rfl rfl (by decide) rfl (fun _ => rfl) (fun z85 e_z85 t_z85 => ?_)
                  replace hF := kf_le e_z85 hF
                  first | (have u_z85 : z85.toInt = x1.toInt + 1 := (by omega); clear t_z85) | skip
                  refine kw_goto (pc := 77) (i := 45) (tgt := 4) rfl rfl ?_
                  refine kw_sub (lv' := [(3, .int z85), (2, .int z84), (0, .ref 0), (1, .int w)]) [0, 1, 2, 3] rfl ?_
                  exact ih4 z85 z84 (by omega) hF (by omega)
                · replace hF := kf_p c83 hF
                  refine kw_iload_n (pc := 46) (i := 27) (k := 3) (n := 1) rfl rfl rfl ?_
                  refine kw_bipush (pc := 47) (i := 28) (v := 9) rfl rfl ?_
                  refine kw_icmp_ne (pc := 49) (i := 29) (tgt := 71) rfl rfl (fun c86 => ?_) (fun c86 => ?_)
                  · replace hF := kf_n c86 hF
                    refine kw_iconst (pc := 71) (i := 41) (v := 0) rfl rfl ?_
                    refine kw_iadd (pc := 72) (i := 42) rfl (fun z87 e_z87 t_z87 => ?_)
                    replace hF := kf_le e_z87 hF
                    first | (have u_z87 : z87.toInt = x2.toInt + 0 := (by omega); clear t_z87) | skip
                    refine kw_istore_n (pc := 73) (i := 43) (n := 2) (lv' := [(2, .int z87), (3, .int x1), (0, .ref 0), (1, .int w)]) rfl rfl (by decide) rfl ?_
                    refine kw_iinc' (pc := 74) (i := 44) (k := 1) (fun z => [(3, .int z), (2, .int z87), (0, .ref 0), (1, .int w)]) rfl rfl (by decide) rfl (fun _ => rfl) (fun z88 e_z88 t_z88 => ?_)
                    replace hF := kf_le e_z88 hF
                    first | (have u_z88 : z88.toInt = x1.toInt + 1 := (by omega); clear t_z88) | skip
                    refine kw_goto (pc := 77) (i := 45) (tgt := 4) rfl rfl ?_
                    refine kw_sub (lv' := [(3, .int z88), (2, .int z87), (0, .ref 0), (1, .int w)]) [0, 1, 2, 3] rfl ?_
                    exact ih4 z88 z87 (by omega) hF (by omega)
                  · replace hF := kf_p c86 hF
                    refine kw_iload_n (pc := 52) (i := 30) (k := 0) (n := 3) rfl rfl rfl ?_
                    refine kw_iconst (pc := 53) (i := 31) (v := 3) rfl rfl ?_
                    refine kw_icmp_ge (pc := 54) (i := 32) (tgt := 71) rfl rfl (fun c89 => ?_) (fun c89 => ?_)
                    · replace hF := kf_nl c89 hF
                      refine kw_iconst (pc := 71) (i := 41) (v := 0) rfl rfl ?_
                      refine kw_iadd (pc := 72) (i := 42) rfl (fun z90 e_z90 t_z90 => ?_)
                      replace hF := kf_le e_z90 hF
                      first | (have u_z90 : z90.toInt = x2.toInt + 0 := (by omega); clear t_z90) | skip
                      refine kw_istore_n (pc := 73) (i := 43) (n := 2) (lv' := [(2, .int z90), (3, .int x1), (0, .ref 0), (1, .int w)]) rfl rfl (by decide) rfl ?_
                      refine kw_iinc' (pc := 74) (i := 44) (k := 1) (fun z => [(3, .int z), (2, .int z90), (0, .ref 0), (1, .int w)]) rfl rfl (by decide) rfl (fun _ => rfl) (fun z91 e_z91 t_z91 => ?_)
                      replace hF := kf_le e_z91 hF
                      first | (have u_z91 : z91.toInt = x1.toInt + 1 := (by omega); clear t_z91) | skip
                      refine kw_goto (pc := 77) (i := 45) (tgt := 4) rfl rfl ?_
                      refine kw_sub (lv' := [(3, .int z91), (2, .int z90), (0, .ref 0), (1, .int w)]) [0, 1, 2, 3] rfl ?_
                      exact ih4 z91 z90 (by omega) hF (by omega)
                    · replace hF := kf_p c89 hF
                      refine kw_aload_n (pc := 57) (i := 33) (k := 2) (n := 0) rfl rfl rfl ?_
                      refine kw_get (pc := 58) (i := 34) (v := .ref 16) rfl rfl rfl lkX8_63 (fun _ => rfl) ?_
                      refine kw_iload_n (pc := 61) (i := 35) (k := 0) (n := 3) rfl rfl rfl ?_
                      refine kw_iald (pc := 62) (i := 36) (n := 3) rfl rfl (by omega) (by omega) (fun z92 e_z92 => ?_)
                      replace hF := kf_le e_z92 hF
                      have t_z92 := congrArg Int32.toInt e_z92
                      have r_z92 := kw_rng z92
                      refine kw_iconst (pc := 63) (i := 37) (v := 1) rfl rfl ?_
                      refine kw_icmp_ne (pc := 64) (i := 38) (tgt := 71) rfl rfl (fun c93 => ?_) (fun c93 => ?_)
                      · replace hF := kf_n c93 hF
                        refine kw_iconst (pc := 71) (i := 41) (v := 0) rfl rfl ?_
                        refine kw_iadd (pc := 72) (i := 42) rfl (fun z94 e_z94 t_z94 => ?_)
                        replace hF := kf_le e_z94 hF
                        first | (have u_z94 : z94.toInt = x2.toInt + 0 := (by omega); clear t_z94) | skip
                        refine kw_istore_n (pc := 73) (i := 43) (n := 2) (lv' := [(2, .int z94), (3, .int x1), (0, .ref 0), (1, .int w)]) rfl rfl (by decide) rfl ?_
                        refine kw_iinc' (pc := 74) (i := 44) (k := 1) (fun z => [(3, .int z), (2, .int z94), (0, .ref 0), (1, .int w)]) rfl rfl (by decide) rfl (fun _ => rfl) (fun z95 e_z95 t_z95 => ?_)
                        replace hF := kf_le e_z95 hF
                        first | (have u_z95 : z95.toInt = x1.toInt + 1 := (by omega); clear t_z95) | skip
                        refine kw_goto (pc := 77) (i := 45) (tgt := 4) rfl rfl ?_
                        refine kw_sub (lv' := [(3, .int z95), (2, .int z94), (0, .ref 0), (1, .int w)]) [0, 1, 2, 3] rfl ?_
                        exact ih4 z95 z94 (by omega) hF (by omega)
                      · replace hF := kf_p c93 hF
                        refine kw_iconst (pc := 67) (i := 39) (v := 1) rfl rfl ?_
                        refine kw_goto (pc := 68) (i := 40) (tgt := 72) rfl rfl ?_
                        refine kw_iadd (pc := 72) (i := 42) rfl (fun z96 e_z96 t_z96 => ?_)
                        replace hF := kf_le e_z96 hF
                        first | (have u_z96 : z96.toInt = x2.toInt + 1 := (by omega); clear t_z96) | skip
                        refine kw_istore_n (pc := 73) (i := 43) (n := 2) (lv' := [(2, .int z96), (3, .int x1), (0, .ref 0), (1, .int w)]) rfl rfl (by decide) rfl ?_
                        refine kw_iinc' (pc := 74) (i := 44) (k := 1) (fun z => [(3, .int z), (2, .int z96), (0, .ref 0), (1, .int w)]) rfl rfl (by decide) rfl (fun _ => rfl) (fun z97 e_z97 t_z97 => ?_)
                        replace hF := kf_le e_z97 hF
                        first | (have u_z97 : z97.toInt = x1.toInt + 1 := (by omega); clear t_z97) | skip
                        refine kw_goto (pc := 77) (i := 45) (tgt := 4) rfl rfl ?_
                        refine kw_sub (lv' := [(3, .int z97), (2, .int z96), (0, .ref 0), (1, .int w)]) [0, 1, 2, 3] rfl ?_
                        exact ih4 z97 z96 (by omega) hF (by omega)
  exact L3 _ 0 0 (by omega) hF (Nat.lt_succ_self _)
noncomputable def f_X8_tells_0 (σ : kw_S) (w : Int32) : Int32 := if w.toInt = 0 then ((σ.1 0 10)) else if w.toInt = 1 then ((σ.1 0 22)) else if w.toInt = 2 then ((σ.1 0 27)) else if w.toInt = 3 then (kf_l (f_X8_bits σ (σ.1 0 25)) fun z1 => z1) else if w.toInt = 4 then (kf_l (f_X8_wetOfAll_0 σ) fun z2 => z2) else if w.toInt = 5 then (kf_l (f_X8_howMany_0 σ (1 : Int32)) fun z3 => z3) else if w.toInt = 6 then (kf_l (f_X8_howMany_0 σ (4 : Int32)) fun z4 => z4) else (kf_l (f_X8_there_0 σ w) fun z5 => z5)
theorem f_X8_tells_0_u (σ : kw_S) (w : Int32) : f_X8_tells_0 σ w = if w.toInt = 0 then ((σ.1 0 10)) else if w.toInt = 1 then ((σ.1 0 22)) else if w.toInt = 2 then ((σ.1 0 27)) else if w.toInt = 3 then (kf_l (f_X8_bits σ (σ.1 0 25)) fun z1 => z1) else if w.toInt = 4 then (kf_l (f_X8_wetOfAll_0 σ) fun z2 => z2) else if w.toInt = 5 then (kf_l (f_X8_howMany_0 σ (1 : Int32)) fun z3 => z3) else if w.toInt = 6 then (kf_l (f_X8_howMany_0 σ (4 : Int32)) fun z4 => z4) else (kf_l (f_X8_there_0 σ w) fun z5 => z5) := rfl
abbrev p_X8_tells_0 (T : Int) (σ : kw_S) (w : Int32) : Option Value → kw_S → Prop := fun vv σ' => σ' = σ ∧ ∃ r : Int32, vv = some (.int r) ∧ r = f_X8_tells_0 σ w
set_option maxRecDepth 100000 in
set_option maxHeartbeats 4000000 in
theorem c_X8_tells_0 (l : Launch) (T : Int) (hT0 : 0 ≤ T) (hT1 : T ≤ 3000) (σ : kw_S) (hI : kw_I (bM T) σ) (w : Int32) : kw_Met l 3 KM mX8_tells [.ref 0, .int w] σ (p_X8_tells_0 T σ w) := by
  have r_w := kw_rng w
  have hF := (f_X8_tells_0_u σ w).symm
  have q_1 : (1 : Int32).toInt = 1 := rfl
  have q_4 : (4 : Int32).toInt = 4 := rfl
  refine kw_Met.of (by decide) rfl tX8_tells (Nat.le_of_ble_eq_true rfl) ?_
  show kw_AW l 3 kw_E0 KM mX8_tells (p_X8_tells_0 T σ w) 0 [(0, .ref 0), (1, .int w)] [] σ
  refine kw_iload_n (pc := 0) (i := 0) (k := 1) (n := 1) rfl rfl rfl ?_
  by_cases c1 : w.toInt = 0
  · refine kw_tableIn (pc := 1) (i := 1) (k := 0) (tgt := 44) rfl (by omega) (by decide) rfl rfl ?_
    replace hF := kf_p c1 hF
    refine kw_aload_n (pc := 44) (i := 2) (k := 0) (n := 0) rfl rfl rfl ?_
    refine kw_get (pc := 45) (i := 3) (v := .int (σ.1 0 10)) rfl rfl rfl lkX8_163 (fun _ => rfl) ?_
    have b2 : 0 ≤ (σ.1 0 10).toInt ∧ (σ.1 0 10).toInt ≤ 6 := hI 0 10
    exact kw_ireturn (pc := 48) (i := 4) (ty := .int) rfl rfl rfl ⟨rfl, _, rfl, hF⟩
  replace hF := kf_n c1 hF
  by_cases c3 : w.toInt = 1
  · refine kw_tableIn (pc := 1) (i := 1) (k := 1) (tgt := 49) rfl (by omega) (by decide) rfl rfl ?_
    replace hF := kf_p c3 hF
    refine kw_aload_n (pc := 49) (i := 5) (k := 0) (n := 0) rfl rfl rfl ?_
    refine kw_get (pc := 50) (i := 6) (v := .int (σ.1 0 22)) rfl rfl rfl lkX8_166 (fun _ => rfl) ?_
    have b4 : 0 ≤ (σ.1 0 22).toInt ∧ (σ.1 0 22).toInt ≤ T := hI 0 22
    exact kw_ireturn (pc := 53) (i := 7) (ty := .int) rfl rfl rfl ⟨rfl, _, rfl, hF⟩
  replace hF := kf_n c3 hF
  by_cases c5 : w.toInt = 2
  · refine kw_tableIn (pc := 1) (i := 1) (k := 2) (tgt := 54) rfl (by omega) (by decide) rfl rfl ?_
    replace hF := kf_p c5 hF
    refine kw_aload_n (pc := 54) (i := 8) (k := 0) (n := 0) rfl rfl rfl ?_
    refine kw_get (pc := 55) (i := 9) (v := .int (σ.1 0 27)) rfl rfl rfl lkX8_178 (fun _ => rfl) ?_
    have b6 : 0 ≤ (σ.1 0 27).toInt ∧ (σ.1 0 27).toInt ≤ 40 := hI 0 27
    exact kw_ireturn (pc := 58) (i := 10) (ty := .int) rfl rfl rfl ⟨rfl, _, rfl, hF⟩
  replace hF := kf_n c5 hF
  by_cases c7 : w.toInt = 3
  · refine kw_tableIn (pc := 1) (i := 1) (k := 3) (tgt := 59) rfl (by omega) (by decide) rfl rfl ?_
    replace hF := kf_p c7 hF
    refine kw_aload_n (pc := 59) (i := 11) (k := 0) (n := 0) rfl rfl rfl ?_
    refine kw_get (pc := 60) (i := 12) (v := .int (σ.1 0 25)) rfl rfl rfl lkX8_175 (fun _ => rfl) ?_
    have b8 : 0 ≤ (σ.1 0 25).toInt ∧ (σ.1 0 25).toInt ≤ 63 := hI 0 25
    refine kw_callS (pc := 63) (i := 13) (Y := mX8_bits) (As := [.int (σ.1 0 25)]) (st := []) kw_hE rfl lsX8_217 arX8_bits (c_X8_bits l T hT0 hT1 σ hI (σ.1 0 25) ) (by decide) (Nat.le_of_ble_eq_true rfl) rfl (fun v S10 p9 => ?_)
    obtain ⟨e13, z12, rfl, ef11⟩ := p9
    rw [e13]
    replace hF := kf_le ef11 hF
    have r_z12 := kw_rng z12
    show kw_AW l 3 kw_E0 KM mX8_tells (p_X8_tells_0 T σ w) 66 [(0, .ref 0), (1, .int w)] [.int z12] σ
    exact kw_ireturn (pc := 66) (i := 14) (ty := .int) rfl rfl rfl ⟨rfl, _, rfl, hF⟩
  replace hF := kf_n c7 hF
  by_cases c14 : w.toInt = 4
  · refine kw_tableIn (pc := 1) (i := 1) (k := 4) (tgt := 67) rfl (by omega) (by decide) rfl rfl ?_
    replace hF := kf_p c14 hF
    refine kw_aload_n (pc := 67) (i := 15) (k := 0) (n := 0) rfl rfl rfl ?_
    refine kw_callV (pc := 68) (i := 16) (Y := mX8_wetOfAll) (a := 0) (As := []) (st := []) kw_hE rfl rfl lvX8_249 arX8_wetOfAll (c_X8_wetOfAll_0 l T hT0 hT1 σ hI  ) (by decide) (Nat.le_of_ble_eq_true rfl) rfl (fun v S16 p15 => ?_)
    obtain ⟨e19, z18, rfl, ef17⟩ := p15
    rw [e19]
    replace hF := kf_le ef17 hF
    have r_z18 := kw_rng z18
    show kw_AW l 3 kw_E0 KM mX8_tells (p_X8_tells_0 T σ w) 71 [(0, .ref 0), (1, .int w)] [.int z18] σ
    exact kw_ireturn (pc := 71) (i := 17) (ty := .int) rfl rfl rfl ⟨rfl, _, rfl, hF⟩
  replace hF := kf_n c14 hF
  by_cases c20 : w.toInt = 5
  · refine kw_tableIn (pc := 1) (i := 1) (k := 5) (tgt := 72) rfl (by omega) (by decide) rfl rfl ?_
    replace hF := kf_p c20 hF
    refine kw_aload_n (pc := 72) (i := 18) (k := 0) (n := 0) rfl rfl rfl ?_
    refine kw_iconst (pc := 73) (i := 19) (v := 1) rfl rfl ?_
    refine kw_callV (pc := 74) (i := 20) (Y := mX8_howMany) (a := 0) (As := [.int 1]) (st := []) kw_hE rfl rfl lvX8_295 arX8_howMany (c_X8_howMany_0 l T hT0 hT1 σ hI 1 ) (by decide) (Nat.le_of_ble_eq_true rfl) rfl (fun v S22 p21 => ?_)
    obtain ⟨e25, z24, rfl, ef23⟩ := p21
    rw [e25]
    replace hF := kf_le ef23 hF
    have r_z24 := kw_rng z24
    show kw_AW l 3 kw_E0 KM mX8_tells (p_X8_tells_0 T σ w) 77 [(0, .ref 0), (1, .int w)] [.int z24] σ
    exact kw_ireturn (pc := 77) (i := 21) (ty := .int) rfl rfl rfl ⟨rfl, _, rfl, hF⟩
  replace hF := kf_n c20 hF
  by_cases c26 : w.toInt = 6
  · refine kw_tableIn (pc := 1) (i := 1) (k := 6) (tgt := 78) rfl (by omega) (by decide) rfl rfl ?_
    replace hF := kf_p c26 hF
    refine kw_aload_n (pc := 78) (i := 22) (k := 0) (n := 0) rfl rfl rfl ?_
    refine kw_iconst (pc := 79) (i := 23) (v := 4) rfl rfl ?_
    refine kw_callV (pc := 80) (i := 24) (Y := mX8_howMany) (a := 0) (As := [.int 4]) (st := []) kw_hE rfl rfl lvX8_295 arX8_howMany (c_X8_howMany_0 l T hT0 hT1 σ hI 4 ) (by decide) (Nat.le_of_ble_eq_true rfl) rfl (fun v S28 p27 => ?_)
    obtain ⟨e31, z30, rfl, ef29⟩ := p27
    rw [e31]
    replace hF := kf_le ef29 hF
    have r_z30 := kw_rng z30
    show kw_AW l 3 kw_E0 KM mX8_tells (p_X8_tells_0 T σ w) 83 [(0, .ref 0), (1, .int w)] [.int z30] σ
    exact kw_ireturn (pc := 83) (i := 25) (ty := .int) rfl rfl rfl ⟨rfl, _, rfl, hF⟩
  replace hF := kf_n c26 hF
  refine kw_tableOut (pc := 1) (i := 1) (tgt := 84) rfl (by omega) rfl ?_
  refine kw_aload_n (pc := 84) (i := 26) (k := 0) (n := 0) rfl rfl rfl ?_
  refine kw_iload_n (pc := 85) (i := 27) (k := 1) (n := 1) rfl rfl rfl ?_
  refine kw_callV (pc := 86) (i := 28) (Y := mX8_there) (a := 0) (As := [.int w]) (st := []) kw_hE rfl rfl lvX8_298 arX8_there (c_X8_there_0 l T hT0 hT1 σ hI w ) (by decide) (Nat.le_of_ble_eq_true rfl) rfl (fun v S33 p32 => ?_)
  obtain ⟨e36, z35, rfl, ef34⟩ := p32
  rw [e36]
  replace hF := kf_le ef34 hF
  have r_z35 := kw_rng z35
  show kw_AW l 3 kw_E0 KM mX8_tells (p_X8_tells_0 T σ w) 89 [(0, .ref 0), (1, .int w)] [.int z35] σ
  exact kw_ireturn (pc := 89) (i := 29) (ty := .int) rfl rfl rfl ⟨rfl, _, rfl, hF⟩
noncomputable def f_X8_count_0 (σ : kw_S) (w : Int32) : Int32 := kf_l (f_X8_in σ w (0 : Int32) (9 : Int32)) fun z1 => if z1.toInt = 0 then (((-1) : Int32)) else (kf_l (f_X8_tells_0 σ w) fun z2 => z2)
theorem f_X8_count_0_u (σ : kw_S) (w : Int32) : f_X8_count_0 σ w = kf_l (f_X8_in σ w (0 : Int32) (9 : Int32)) fun z1 => if z1.toInt = 0 then (((-1) : Int32)) else (kf_l (f_X8_tells_0 σ w) fun z2 => z2) := rfl
abbrev p_X8_count_0 (T : Int) (σ : kw_S) (w : Int32) : Option Value → kw_S → Prop := fun vv σ' => σ' = σ ∧ ∃ r : Int32, vv = some (.int r) ∧ r = f_X8_count_0 σ w
set_option maxRecDepth 100000 in
set_option maxHeartbeats 4000000 in
theorem c_X8_count_0 (l : Launch) (T : Int) (hT0 : 0 ≤ T) (hT1 : T ≤ 3000) (σ : kw_S) (hI : kw_I (bM T) σ) (w : Int32) : kw_Met l 4 KM mX8_count [.ref 0, .int w] σ (p_X8_count_0 T σ w) := by
  have r_w := kw_rng w
  have hF := (f_X8_count_0_u σ w).symm
  have q_m1 : (-1 : Int32).toInt = -1 := rfl
  have q_0 : (0 : Int32).toInt = 0 := rfl
  have q_9 : (9 : Int32).toInt = 9 := rfl
  refine kw_Met.of (by decide) rfl tX8_count (Nat.le_of_ble_eq_true rfl) ?_
  show kw_AW l 4 kw_E0 KM mX8_count (p_X8_count_0 T σ w) 0 [(0, .ref 0), (1, .int w)] [] σ
  refine kw_iload_n (pc := 0) (i := 0) (k := 1) (n := 1) rfl rfl rfl ?_
  refine kw_iconst (pc := 1) (i := 1) (v := 0) rfl rfl ?_
  refine kw_bipush (pc := 2) (i := 2) (v := 9) rfl rfl ?_
  refine kw_callS (pc := 4) (i := 3) (Y := mX8_in) (As := [.int w, .int 0, .int 9]) (st := []) kw_hE rfl lsX8_93 arX8_in (c_X8_in l T hT0 hT1 σ hI w 0 9 ) (by decide) (Nat.le_of_ble_eq_true rfl) rfl (fun v S2 p1 => ?_)
  obtain ⟨e8, z7, rfl, f3, f4, f5, ef6⟩ := p1
  rw [e8]
  replace hF := kf_le ef6 hF
  have r_z7 := kw_rng z7
  show kw_AW l 4 kw_E0 KM mX8_count (p_X8_count_0 T σ w) 7 [(0, .ref 0), (1, .int w)] [.int z7] σ
  refine kw_if_eq (pc := 7) (i := 4) (tgt := 18) rfl rfl (fun c9 => ?_) (fun c9 => ?_)
  · replace hF := kf_p c9 hF
    refine kw_iconst (pc := 18) (i := 9) (v := (-1)) rfl rfl ?_
    exact kw_ireturn (pc := 19) (i := 10) (ty := .int) rfl rfl rfl ⟨rfl, _, rfl, hF⟩
  · replace hF := kf_n c9 hF
    refine kw_aload_n (pc := 10) (i := 5) (k := 0) (n := 0) rfl rfl rfl ?_
    refine kw_iload_n (pc := 11) (i := 6) (k := 1) (n := 1) rfl rfl rfl ?_
    refine kw_callV (pc := 12) (i := 7) (Y := mX8_tells) (a := 0) (As := [.int w]) (st := []) kw_hE rfl rfl lvX8_301 arX8_tells (c_X8_tells_0 l T hT0 hT1 σ hI w ) (by decide) (Nat.le_of_ble_eq_true rfl) rfl (fun v S11 p10 => ?_)
    obtain ⟨e14, z13, rfl, ef12⟩ := p10
    rw [e14]
    replace hF := kf_le ef12 hF
    have r_z13 := kw_rng z13
    show kw_AW l 4 kw_E0 KM mX8_count (p_X8_count_0 T σ w) 15 [(0, .ref 0), (1, .int w)] [.int z13] σ
    refine kw_goto (pc := 15) (i := 8) (tgt := 19) rfl rfl ?_
    exact kw_ireturn (pc := 19) (i := 10) (ty := .int) rfl rfl rfl ⟨rfl, _, rfl, hF⟩
noncomputable def f_X8_miles_0 (σ : kw_S)  : Int32 × kw_S := kf_l (σ.1 0 24).toInt64 fun z1 => kf_b (f_X8_part_0 σ z1 (1 : Int64)) fun z2 S3 => ((S3.1 0 23), S3)
theorem f_X8_miles_0_u (σ : kw_S)  : f_X8_miles_0 σ  = kf_l (σ.1 0 24).toInt64 fun z1 => kf_b (f_X8_part_0 σ z1 (1 : Int64)) fun z2 S3 => ((S3.1 0 23), S3) := rfl
abbrev p_X8_miles_0 (T : Int) (σ : kw_S)  : Option Value → kw_S → Prop := fun vv σ' => (kw_I (bM T) σ' ∧ kw_FM [2003, 2004] σ σ') ∧ ∃ r : Int32, vv = some (.int r) ∧ (r, σ') = f_X8_miles_0 σ
set_option maxRecDepth 100000 in
set_option maxHeartbeats 4000000 in
theorem c_X8_miles_0 (l : Launch) (T : Int) (hT0 : 0 ≤ T) (hT1 : T ≤ 3000) (σ : kw_S) (hI : kw_I (bM T) σ)  : kw_Met l 2 KM mX8_miles [.ref 0] σ (p_X8_miles_0 T σ) := by
  have hF0 : kw_FM [2003, 2004] σ σ := kw_FM.rf
  have hF := (f_X8_miles_0_u σ).symm
  refine kw_Met.of (by decide) rfl tX8_miles (Nat.le_of_ble_eq_true rfl) ?_
  show kw_AW l 2 kw_E0 KM mX8_miles (p_X8_miles_0 T σ) 0 [(0, .ref 0)] [] σ
  refine kw_aload_n (pc := 0) (i := 0) (k := 0) (n := 0) rfl rfl rfl ?_
  refine kw_aload_n (pc := 1) (i := 1) (k := 0) (n := 0) rfl rfl rfl ?_
  refine kw_get (pc := 2) (i := 2) (v := .int (σ.1 0 24)) rfl rfl rfl lkX8_172 (fun _ => rfl) ?_
  have b1 := kw_rng (σ.1 0 24)
  refine kw_i2l (pc := 5) (i := 3) rfl (fun z2 e_z2 t_z2 => ?_)
  replace hF := kf_le e_z2 hF
  refine kw_lconst (pc := 6) (i := 4) (v := 1) rfl rfl ?_
  refine kw_callV (pc := 7) (i := 5) (Y := mX8_part) (a := 0) (As := [.long z2, .long 1]) (st := []) kw_hE rfl rfl lvX8_223 arX8_part (c_X8_part_0 l T hT0 hT1 σ hI z2 1 (by first | omega | decide)) (by decide) (Nat.le_of_ble_eq_true rfl) rfl (fun v S4 p3 => ?_)
  obtain ⟨⟨I8, F9⟩, z7, rfl, f5, ef6⟩ := p3
  have F10 : kw_FM [2003, 2004] σ S4 := kw_FM.tr hF0 F9 (by decide)
  have w_11 : (S4.1 0 27).toInt = (σ.1 0 27).toInt := congrArg Int32.toInt (kw_FM.at0 (j := 27) F9 (by decide))
  replace hF := kf_be ef6 hF
  have r_z7 := kw_rng z7
  show kw_AW l 2 kw_E0 KM mX8_miles (p_X8_miles_0 T σ) 10 [(0, .ref 0)] [.int z7] S4
  refine kw_pop (pc := 10) (i := 6) rfl rfl ?_
  refine kw_aload_n (pc := 11) (i := 7) (k := 0) (n := 0) rfl rfl rfl ?_
  refine kw_get (pc := 12) (i := 8) (v := .int (S4.1 0 23)) rfl rfl rfl lkX8_169 (fun _ => rfl) ?_
  have b12 := kw_rng (S4.1 0 23)
  exact kw_ireturn (pc := 15) (i := 9) (ty := .int) rfl rfl rfl ⟨⟨I8, F10⟩, _, rfl, hF⟩
noncomputable def f_X8_findings_0 (σ : kw_S) (f : Int32) : Int32 := kf_l (f_X8_in σ f (1 : Int32) (5 : Int32)) fun z1 => if z1.toInt = 0 then (((-1) : Int32)) else (kf_l (σ.1 1 f.toNatClampNeg) fun z2 => z2)
theorem f_X8_findings_0_u (σ : kw_S) (f : Int32) : f_X8_findings_0 σ f = kf_l (f_X8_in σ f (1 : Int32) (5 : Int32)) fun z1 => if z1.toInt = 0 then (((-1) : Int32)) else (kf_l (σ.1 1 f.toNatClampNeg) fun z2 => z2) := rfl
abbrev p_X8_findings_0 (T : Int) (σ : kw_S) (f : Int32) : Option Value → kw_S → Prop := fun vv σ' => σ' = σ ∧ ∃ r : Int32, vv = some (.int r) ∧ r = f_X8_findings_0 σ f
set_option maxRecDepth 100000 in
set_option maxHeartbeats 4000000 in
theorem c_X8_findings_0 (l : Launch) (T : Int) (hT0 : 0 ≤ T) (hT1 : T ≤ 3000) (σ : kw_S) (hI : kw_I (bM T) σ) (f : Int32) : kw_Met l 2 KM mX8_findings [.ref 0, .int f] σ (p_X8_findings_0 T σ f) := by
  have r_f := kw_rng f
  have hF := (f_X8_findings_0_u σ f).symm
  have q_m1 : (-1 : Int32).toInt = -1 := rfl
  have q_1 : (1 : Int32).toInt = 1 := rfl
  have q_5 : (5 : Int32).toInt = 5 := rfl
  refine kw_Met.of (by decide) rfl tX8_findings (Nat.le_of_ble_eq_true rfl) ?_
  show kw_AW l 2 kw_E0 KM mX8_findings (p_X8_findings_0 T σ f) 0 [(0, .ref 0), (1, .int f)] [] σ
  refine kw_iload_n (pc := 0) (i := 0) (k := 1) (n := 1) rfl rfl rfl ?_
  refine kw_iconst (pc := 1) (i := 1) (v := 1) rfl rfl ?_
  refine kw_iconst (pc := 2) (i := 2) (v := 5) rfl rfl ?_
  refine kw_callS (pc := 3) (i := 3) (Y := mX8_in) (As := [.int f, .int 1, .int 5]) (st := []) kw_hE rfl lsX8_93 arX8_in (c_X8_in l T hT0 hT1 σ hI f 1 5 ) (by decide) (Nat.le_of_ble_eq_true rfl) rfl (fun v S2 p1 => ?_)
  obtain ⟨e8, z7, rfl, f3, f4, f5, ef6⟩ := p1
  rw [e8]
  replace hF := kf_le ef6 hF
  have r_z7 := kw_rng z7
  show kw_AW l 2 kw_E0 KM mX8_findings (p_X8_findings_0 T σ f) 6 [(0, .ref 0), (1, .int f)] [.int z7] σ
  refine kw_if_eq (pc := 6) (i := 4) (tgt := 18) rfl rfl (fun c9 => ?_) (fun c9 => ?_)
  · replace hF := kf_p c9 hF
    refine kw_iconst (pc := 18) (i := 10) (v := (-1)) rfl rfl ?_
    exact kw_ireturn (pc := 19) (i := 11) (ty := .int) rfl rfl rfl ⟨rfl, _, rfl, hF⟩
  · replace hF := kf_n c9 hF
    refine kw_aload_n (pc := 9) (i := 5) (k := 0) (n := 0) rfl rfl rfl ?_
    refine kw_get (pc := 10) (i := 6) (v := .ref 1) rfl rfl rfl lkX8_7 (fun _ => rfl) ?_
    refine kw_iload_n (pc := 13) (i := 7) (k := 1) (n := 1) rfl rfl rfl ?_
    refine kw_iald (pc := 14) (i := 8) (n := 6) rfl rfl (by omega) (by omega) (fun z10 e_z10 => ?_)
    replace hF := kf_le e_z10 hF
    have t_z10 := congrArg Int32.toInt e_z10
    have r_z10 := kw_rng z10
    refine kw_goto (pc := 15) (i := 9) (tgt := 19) rfl rfl ?_
    exact kw_ireturn (pc := 19) (i := 11) (ty := .int) rfl rfl rfl ⟨rfl, _, rfl, hF⟩
noncomputable def f_X8_mix_0 (σ : kw_S) (v : Int32) : kw_S := kf_l ((31 : Int64) * (σ.2 0 36)) fun z1 => kf_l v.toInt64 fun z2 => kf_l (z1 + z2) fun z3 => kw_ul σ 0 36 z3
theorem f_X8_mix_0_u (σ : kw_S) (v : Int32) : f_X8_mix_0 σ v = kf_l ((31 : Int64) * (σ.2 0 36)) fun z1 => kf_l v.toInt64 fun z2 => kf_l (z1 + z2) fun z3 => kw_ul σ 0 36 z3 := rfl
abbrev p_X8_mix_0 (T : Int) (σ : kw_S) (v : Int32) : Option Value → kw_S → Prop := fun vv σ' => (kw_I (bM T) σ' ∧ kw_FM [2036] σ σ') ∧ vv = none ∧ σ' = f_X8_mix_0 σ v
set_option maxRecDepth 100000 in
set_option maxHeartbeats 4000000 in
theorem c_X8_mix_0 (l : Launch) (T : Int) (hT0 : 0 ≤ T) (hT1 : T ≤ 3000) (σ : kw_S) (hI : kw_I (bM T) σ) (v : Int32) : kw_Met l 1 KM mX8_mix [.ref 0, .int v] σ (p_X8_mix_0 T σ v) := by
  have r_v := kw_rng v
  have hF0 : kw_FM [2036] σ σ := kw_FM.rf
  have hF := (f_X8_mix_0_u σ v).symm
  refine kw_Met.of (by decide) rfl tX8_mix (Nat.le_of_ble_eq_true rfl) ?_
  show kw_AW l 1 kw_E0 KM mX8_mix (p_X8_mix_0 T σ v) 0 [(0, .ref 0), (1, .int v)] [] σ
  refine kw_aload_n (pc := 0) (i := 0) (k := 0) (n := 0) rfl rfl rfl ?_
  refine kw_ldc2 (pc := 1) (i := 1) (v := 31) rfl ckX8_304 ?_
  refine kw_aload_n (pc := 4) (i := 2) (k := 0) (n := 0) rfl rfl rfl ?_
  refine kw_get (pc := 5) (i := 3) (v := .long (σ.2 0 36)) rfl rfl rfl lkX8_306 (fun _ => rfl) ?_
  refine kw_lmul (pc := 8) (i := 4) rfl (fun z1 e_z1 => ?_)
  replace hF := kf_le e_z1 hF
  have t_z1 := kw_lmulI (31 : Int64) (σ.2 0 36) z1 e_z1
  rw [show (31 : Int64).toInt = 31 from rfl] at t_z1
  first | (have u_z1 : z1.toInt = 31 * (σ.2 0 36).toInt := (by omega); clear t_z1) | skip
  refine kw_iload_n (pc := 9) (i := 5) (k := 1) (n := 1) rfl rfl rfl ?_
  refine kw_i2l (pc := 10) (i := 6) rfl (fun z2 e_z2 t_z2 => ?_)
  replace hF := kf_le e_z2 hF
  refine kw_ladd (pc := 11) (i := 7) rfl (fun z3 e_z3 => ?_)
  replace hF := kf_le e_z3 hF
  have t_z3 := kw_laddI z1 z2 z3 e_z3
  first | (have u_z3 : z3.toInt = z1.toInt + z2.toInt := (by omega); clear t_z3) | skip
  refine kw_putl (pc := 12) (i := 8) (z := 0) rfl rfl rfl lpX8_306 ?_
  have I4 : kw_I (bM T) (kw_ul σ 0 36 z3) := kw_I_ul hI _ _ _
  have F5 : kw_FM [2036] σ (kw_ul σ 0 36 z3) := kw_FM_ul0 hF0 (by decide)
  exact kw_return (pc := 15) (i := 9) rfl rfl ⟨⟨I4, F5⟩, rfl, hF⟩
noncomputable def l_X8_mixTown_0_58  : Nat → Int32 → kw_S → kw_S
  | 0, _, S => S
  | n + 1, x1, S => if x1.toInt < (3 : Int32).toInt then (kf_l (S.1 16 x1.toNatClampNeg) fun z3 => if z3.toInt = (1 : Int32).toInt then (kf_l ((411 : Int32) * x1) fun z6 => kf_l (z6 + (410 : Int32)) fun z7 => kf_l (S.1 17 z7.toNatClampNeg) fun z8 => kf_l (f_X8_mix_0 S z8) fun S9 => kf_l (x1 + Int32.ofInt 1) fun z10 => l_X8_mixTown_0_58 n z10 S9) else (kf_l (f_X8_mix_0 S ((-1) : Int32)) fun S4 => kf_l (x1 + Int32.ofInt 1) fun z5 => l_X8_mixTown_0_58 n z5 S4)) else (S)
theorem l_X8_mixTown_0_58_s  (n : Nat) (x1 : Int32) (S : kw_S) : l_X8_mixTown_0_58 (n + 1) x1 S = if x1.toInt < (3 : Int32).toInt then (kf_l (S.1 16 x1.toNatClampNeg) fun z3 => if z3.toInt = (1 : Int32).toInt then (kf_l ((411 : Int32) * x1) fun z6 => kf_l (z6 + (410 : Int32)) fun z7 => kf_l (S.1 17 z7.toNatClampNeg) fun z8 => kf_l (f_X8_mix_0 S z8) fun S9 => kf_l (x1 + Int32.ofInt 1) fun z10 => l_X8_mixTown_0_58 n z10 S9) else (kf_l (f_X8_mix_0 S ((-1) : Int32)) fun S4 => kf_l (x1 + Int32.ofInt 1) fun z5 => l_X8_mixTown_0_58 n z5 S4)) else (S) := rfl
noncomputable def l_X8_mixTown_0_28 (k18 : Int32 → kw_S → kw_S) (a1 : Int32) : Nat → Int32 → kw_S → kw_S
  | 0, _, S => S
  | n + 1, x2, S => if (6 : Int32).toInt < x2.toInt then (kf_l (a1 + Int32.ofInt 1) fun z11 => k18 z11 S) else (kf_l (f_X8_lineOf_0 S a1 x2) fun z12 => kf_l (f_X8_mix_0 S z12) fun S13 => kf_l (x2 + Int32.ofInt 1) fun z14 => l_X8_mixTown_0_28 k18 a1 n z14 S13)
theorem l_X8_mixTown_0_28_s (k18 : Int32 → kw_S → kw_S) (a1 : Int32) (n : Nat) (x2 : Int32) (S : kw_S) : l_X8_mixTown_0_28 k18 a1 (n + 1) x2 S = if (6 : Int32).toInt < x2.toInt then (kf_l (a1 + Int32.ofInt 1) fun z11 => k18 z11 S) else (kf_l (f_X8_lineOf_0 S a1 x2) fun z12 => kf_l (f_X8_mix_0 S z12) fun S13 => kf_l (x2 + Int32.ofInt 1) fun z14 => l_X8_mixTown_0_28 k18 a1 n z14 S13) := rfl
noncomputable def l_X8_mixTown_0_18  : Nat → Int32 → kw_S → kw_S
  | 0, _, S => S
  | n + 1, x1, S => if x1.toInt < (S.1 0 10).toInt then (l_X8_mixTown_0_28 (l_X8_mixTown_0_18 n) x1 ((8 - (0 : Int32).toInt).toNat + 1) (0 : Int32) S) else (l_X8_mixTown_0_58 ((4 - (0 : Int32).toInt).toNat + 1) (0 : Int32) S)
theorem l_X8_mixTown_0_18_s  (n : Nat) (x1 : Int32) (S : kw_S) : l_X8_mixTown_0_18 (n + 1) x1 S = if x1.toInt < (S.1 0 10).toInt then (l_X8_mixTown_0_28 (l_X8_mixTown_0_18 n) x1 ((8 - (0 : Int32).toInt).toNat + 1) (0 : Int32) S) else (l_X8_mixTown_0_58 ((4 - (0 : Int32).toInt).toNat + 1) (0 : Int32) S) := rfl
noncomputable def f_X8_mixTown_0 (σ : kw_S)  : kw_S := kf_l (f_X8_mix_0 σ (σ.1 0 23)) fun S1 => kf_l (f_X8_mix_0 S1 (S1.1 0 24)) fun S2 => l_X8_mixTown_0_18 ((7 - (0 : Int32).toInt).toNat + 1) (0 : Int32) S2
theorem f_X8_mixTown_0_u (σ : kw_S)  : f_X8_mixTown_0 σ  = kf_l (f_X8_mix_0 σ (σ.1 0 23)) fun S1 => kf_l (f_X8_mix_0 S1 (S1.1 0 24)) fun S2 => l_X8_mixTown_0_18 ((7 - (0 : Int32).toInt).toNat + 1) (0 : Int32) S2 := rfl
abbrev p_X8_mixTown_0 (T : Int) (σ : kw_S)  : Option Value → kw_S → Prop := fun vv σ' => (kw_I (bM T) σ' ∧ kw_FM [2036] σ σ') ∧ vv = none ∧ σ' = f_X8_mixTown_0 σ
set_option maxRecDepth 100000 in
set_option maxHeartbeats 4000000 in
theorem c_X8_mixTown_0 (l : Launch) (T : Int) (hT0 : 0 ≤ T) (hT1 : T ≤ 3000) (σ : kw_S) (hI : kw_I (bM T) σ)  : kw_Met l 4 KM mX8_mixTown [.ref 0] σ (p_X8_mixTown_0 T σ) := by
  have hF0 : kw_FM [2036] σ σ := kw_FM.rf
  have hF := (f_X8_mixTown_0_u σ).symm
  have q_m1 : (-1 : Int32).toInt = -1 := rfl
  have q_0 : (0 : Int32).toInt = 0 := rfl
  have q_1 : (1 : Int32).toInt = 1 := rfl
  have q_3 : (3 : Int32).toInt = 3 := rfl
  have q_6 : (6 : Int32).toInt = 6 := rfl
  have q_410 : (410 : Int32).toInt = 410 := rfl
  have q_411 : (411 : Int32).toInt = 411 := rfl
  refine kw_Met.of (by decide) rfl tX8_mixTown (Nat.le_of_ble_eq_true rfl) ?_
  show kw_AW l 4 kw_E0 KM mX8_mixTown (p_X8_mixTown_0 T σ) 0 [(0, .ref 0)] [] σ
  refine kw_aload_n (pc := 0) (i := 0) (k := 0) (n := 0) rfl rfl rfl ?_
  refine kw_aload_n (pc := 1) (i := 1) (k := 0) (n := 0) rfl rfl rfl ?_
  refine kw_get (pc := 2) (i := 2) (v := .int (σ.1 0 23)) rfl rfl rfl lkX8_169 (fun _ => rfl) ?_
  have b1 := kw_rng (σ.1 0 23)
  refine kw_callV (pc := 5) (i := 3) (Y := mX8_mix) (a := 0) (As := [.int (σ.1 0 23)]) (st := []) kw_hE rfl rfl lvX8_309 arX8_mix (c_X8_mix_0 l T hT0 hT1 σ hI (σ.1 0 23) ) (by decide) (Nat.le_of_ble_eq_true rfl) rfl (fun v S3 p2 => ?_)
  obtain ⟨⟨I5, F6⟩, rfl, ef4⟩ := p2
  have F7 : kw_FM [2036] σ S3 := kw_FM.tr hF0 F6 (by decide)
  have w_8 : (S3.1 0 27).toInt = (σ.1 0 27).toInt := congrArg Int32.toInt (kw_FM.at0 (j := 27) F6 (by decide))
  replace hF := kf_le ef4 hF
  show kw_AW l 4 kw_E0 KM mX8_mixTown (p_X8_mixTown_0 T σ) 8 [(0, .ref 0)] [] S3
  refine kw_aload_n (pc := 8) (i := 4) (k := 0) (n := 0) rfl rfl rfl ?_
  refine kw_aload_n (pc := 9) (i := 5) (k := 0) (n := 0) rfl rfl rfl ?_
  refine kw_get (pc := 10) (i := 6) (v := .int (S3.1 0 24)) rfl rfl rfl lkX8_172 (fun _ => rfl) ?_
  have b9 := kw_rng (S3.1 0 24)
  refine kw_callV (pc := 13) (i := 7) (Y := mX8_mix) (a := 0) (As := [.int (S3.1 0 24)]) (st := []) kw_hE rfl rfl lvX8_309 arX8_mix (c_X8_mix_0 l T hT0 hT1 S3 I5 (S3.1 0 24) ) (by decide) (Nat.le_of_ble_eq_true rfl) rfl (fun v S11 p10 => ?_)
  obtain ⟨⟨I13, F14⟩, rfl, ef12⟩ := p10
  have F15 : kw_FM [2036] σ S11 := kw_FM.tr F7 F14 (by decide)
  have w_16 : (S11.1 0 27).toInt = (S3.1 0 27).toInt := congrArg Int32.toInt (kw_FM.at0 (j := 27) F14 (by decide))
  replace hF := kf_le ef12 hF
  show kw_AW l 4 kw_E0 KM mX8_mixTown (p_X8_mixTown_0 T σ) 16 [(0, .ref 0)] [] S11
  refine kw_iconst (pc := 16) (i := 8) (v := 0) rfl rfl ?_
  refine kw_istore_n (pc := 17) (i := 9) (n := 1) (lv' := [(1, .int 0), (0, .ref 0)]) rfl rfl (by decide) rfl ?_
  have L21 : ∀ (n25 : Nat) (x17 : Int32) (S18 : kw_S), kw_I (bM T) S18 → kw_FM [2036] σ S18 → 0 ≤ x17.toInt → l_X8_mixTown_0_18 n25 x17 S18 = (f_X8_mixTown_0 σ) → (7 - x17.toInt).toNat < n25 → kw_AW l 4 kw_E0 KM mX8_mixTown (p_X8_mixTown_0 T σ) 18 [(1, .int x17), (0, .ref 0)] [] S18 := by
    intro n25
    induction n25 with
    | zero => intro x17 S18 I19 F20 v23 hF m24; exact absurd m24 (Nat.not_lt_zero _)
    | succ n25 ih22 =>
      intro x17 S18 I19 F20 v23 hF m24
      replace hF := kf_st (l_X8_mixTown_0_18_s _ _ _) hF
      have r_x17 := kw_rng x17
      refine kw_iload_n (pc := 18) (i := 10) (k := 0) (n := 1) rfl rfl rfl ?_
      refine kw_aload_n (pc := 19) (i := 11) (k := 1) (n := 0) rfl rfl rfl ?_
      refine kw_get (pc := 20) (i := 12) (v := .int (S18.1 0 10)) rfl rfl rfl lkX8_163 (fun _ => rfl) ?_
      have b26 : 0 ≤ (S18.1 0 10).toInt ∧ (S18.1 0 10).toInt ≤ 6 := I19 0 10
      refine kw_icmp_ge (pc := 23) (i := 13) (tgt := 56) rfl rfl (fun c27 => ?_) (fun c27 => ?_)
      · replace hF := kf_nl c27 hF
        refine kw_iconst (pc := 56) (i := 29) (v := 0) rfl rfl ?_
        refine kw_istore_n (pc := 57) (i := 30) (n := 1) (lv' := [(1, .int 0), (0, .ref 0)]) rfl rfl (by decide) rfl ?_
        have L32 : ∀ (n36 : Nat) (x28 : Int32) (S29 : kw_S), kw_I (bM T) S29 → kw_FM [2036] σ S29 → 0 ≤ x28.toInt → l_X8_mixTown_0_58 n36 x28 S29 = (f_X8_mixTown_0 σ) → (4 - x28.toInt).toNat < n36 → kw_AW l 4 kw_E0 KM mX8_mixTown (p_X8_mixTown_0 T σ) 58 [(1, .int x28), (0, .ref 0)] [] S29 := by
          intro n36
          induction n36 with
          | zero => intro x28 S29 I30 F31 v34 hF m35; exact absurd m35 (Nat.not_lt_zero _)
          | succ n36 ih33 =>
            intro x28 S29 I30 F31 v34 hF m35
            replace hF := kf_st (l_X8_mixTown_0_58_s _ _ _) hF
            have r_x28 := kw_rng x28
            refine kw_iload_n (pc := 58) (i := 31) (k := 0) (n := 1) rfl rfl rfl ?_
            refine kw_iconst (pc := 59) (i := 32) (v := 3) rfl rfl ?_
            refine kw_icmp_ge (pc := 60) (i := 33) (tgt := 101) rfl rfl (fun c37 => ?_) (fun c37 => ?_)
            · replace hF := kf_nl c37 hF
              exact kw_return (pc := 101) (i := 54) rfl rfl ⟨⟨I30, F31⟩, rfl, hF⟩
            · replace hF := kf_p c37 hF
              refine kw_aload_n (pc := 63) (i := 34) (k := 1) (n := 0) rfl rfl rfl ?_
              refine kw_aload_n (pc := 64) (i := 35) (k := 1) (n := 0) rfl rfl rfl ?_
              refine kw_get (pc := 65) (i := 36) (v := .ref 16) rfl rfl rfl lkX8_63 (fun _ => rfl) ?_
              refine kw_iload_n (pc := 68) (i := 37) (k := 0) (n := 1) rfl rfl rfl ?_
              refine kw_iald (pc := 69) (i := 38) (n := 3) rfl rfl (by omega) (by omega) (fun z38 e_z38 => ?_)
              replace hF := kf_le e_z38 hF
              have t_z38 := congrArg Int32.toInt e_z38
              have r_z38 := kw_rng z38
              refine kw_iconst (pc := 70) (i := 39) (v := 1) rfl rfl ?_
              refine kw_icmp_ne (pc := 71) (i := 40) (tgt := 91) rfl rfl (fun c39 => ?_) (fun c39 => ?_)
              · replace hF := kf_n c39 hF
                refine kw_iconst (pc := 91) (i := 50) (v := (-1)) rfl rfl ?_
                refine kw_callV (pc := 92) (i := 51) (Y := mX8_mix) (a := 0) (As := [.int (-1)]) (st := []) kw_hE rfl rfl lvX8_309 arX8_mix (c_X8_mix_0 l T hT0 hT1 S29 I30 (-1) ) (by decide) (Nat.le_of_ble_eq_true rfl) rfl (fun v S41 p40 => ?_)
                obtain ⟨⟨I43, F44⟩, rfl, ef42⟩ := p40
                have F45 : kw_FM [2036] σ S41 := kw_FM.tr F31 F44 (by decide)
                have w_46 : (S41.1 0 27).toInt = (S29.1 0 27).toInt := congrArg Int32.toInt (kw_FM.at0 (j := 27) F44 (by decide))
                replace hF := kf_le ef42 hF
                show kw_AW l 4 kw_E0 KM mX8_mixTown (p_X8_mixTown_0 T σ) 95 [(1, .int x28), (0, .ref 0)] [] S41
                refine kw_iinc' (pc := 95) (i := 52) (k := 0) (fun z => [(1, .int z), (0, .ref 0)]) rfl rfl (by decide) rfl (fun _ => rfl) (fun z47 e_z47 t_z47 => ?_)
                replace hF := kf_le e_z47 hF
                first | (have u_z47 : z47.toInt = x28.toInt + 1 := (by omega); clear t_z47) | skip
                refine kw_goto (pc := 98) (i := 53) (tgt := 58) rfl rfl ?_
                refine kw_sub (lv' := [(1, .int z47), (0, .ref 0)]) [0, 1] rfl ?_
                exact ih33 z47 S41 I43 F45 (by omega) hF (by omega)
              · replace hF := kf_p c39 hF
                refine kw_aload_n (pc := 74) (i := 41) (k := 1) (n := 0) rfl rfl rfl ?_
                refine kw_get (pc := 75) (i := 42) (v := .ref 17) rfl rfl rfl lkX8_66 (fun _ => rfl) ?_
                refine kw_sipush (pc := 78) (i := 43) (v := 411) rfl rfl ?_
                refine kw_iload_n (pc := 81) (i := 44) (k := 0) (n := 1) rfl rfl rfl ?_
                refine kw_imul (pc := 82) (i := 45) rfl (fun z48 e_z48 t_z48 => ?_)
                replace hF := kf_le e_z48 hF
                rw [show (411 : Int32).toInt = 411 from rfl] at t_z48
                first | (have u_z48 : z48.toInt = 411 * x28.toInt := (by omega); clear t_z48) | skip
                refine kw_sipush (pc := 83) (i := 46) (v := 410) rfl rfl ?_
                refine kw_iadd (pc := 86) (i := 47) rfl (fun z49 e_z49 t_z49 => ?_)
                replace hF := kf_le e_z49 hF
                first | (have u_z49 : z49.toInt = z48.toInt + 410 := (by omega); clear t_z49) | skip
                refine kw_iald (pc := 87) (i := 48) (n := 1233) rfl rfl (by omega) (by omega) (fun z50 e_z50 => ?_)
                replace hF := kf_le e_z50 hF
                have t_z50 := congrArg Int32.toInt e_z50
                have r_z50 := kw_rng z50
                have b_z50 := kw_rI I30 (x := z49) z50 e_z50 (by omega) (410) (by omega)
                refine kw_goto (pc := 88) (i := 49) (tgt := 92) rfl rfl ?_
                refine kw_callV (pc := 92) (i := 51) (Y := mX8_mix) (a := 0) (As := [.int z50]) (st := []) kw_hE rfl rfl lvX8_309 arX8_mix (c_X8_mix_0 l T hT0 hT1 S29 I30 z50 ) (by decide) (Nat.le_of_ble_eq_true rfl) rfl (fun v S52 p51 => ?_)
                obtain ⟨⟨I54, F55⟩, rfl, ef53⟩ := p51
                have F56 : kw_FM [2036] σ S52 := kw_FM.tr F31 F55 (by decide)
                have w_57 : (S52.1 0 27).toInt = (S29.1 0 27).toInt := congrArg Int32.toInt (kw_FM.at0 (j := 27) F55 (by decide))
                replace hF := kf_le ef53 hF
                show kw_AW l 4 kw_E0 KM mX8_mixTown (p_X8_mixTown_0 T σ) 95 [(1, .int x28), (0, .ref 0)] [] S52
                refine kw_iinc' (pc := 95) (i := 52) (k := 0) (fun z => [(1, .int z), (0, .ref 0)]) rfl rfl (by decide) rfl (fun _ => rfl) (fun z58 e_z58 t_z58 => ?_)
                replace hF := kf_le e_z58 hF
                first | (have u_z58 : z58.toInt = x28.toInt + 1 := (by omega); clear t_z58) | skip
                refine kw_goto (pc := 98) (i := 53) (tgt := 58) rfl rfl ?_
                refine kw_sub (lv' := [(1, .int z58), (0, .ref 0)]) [0, 1] rfl ?_
                exact ih33 z58 S52 I54 F56 (by omega) hF (by omega)
        exact L32 _ 0 S18 I19 F20 (by omega) hF (Nat.lt_succ_self _)
      · replace hF := kf_p c27 hF
        refine kw_iconst (pc := 26) (i := 14) (v := 0) rfl rfl ?_
        refine kw_istore_n (pc := 27) (i := 15) (n := 2) (lv' := [(2, .int 0), (1, .int x17), (0, .ref 0)]) rfl rfl (by decide) rfl ?_
        have L63 : ∀ (n67 : Nat) (x59 : Int32) (S60 : kw_S), kw_I (bM T) S60 → kw_FM [2036] σ S60 → 0 ≤ x59.toInt → l_X8_mixTown_0_28 (l_X8_mixTown_0_18 n25) x17 n67 x59 S60 = (f_X8_mixTown_0 σ) → (8 - x59.toInt).toNat < n67 → kw_AW l 4 kw_E0 KM mX8_mixTown (p_X8_mixTown_0 T σ) 28 [(2, .int x59), (1, .int x17), (0, .ref 0)] [] S60 := by
          intro n67
          induction n67 with
          | zero => intro x59 S60 I61 F62 v65 hF m66; exact absurd m66 (Nat.not_lt_zero _)
          | succ n67 ih64 =>
            intro x59 S60 I61 F62 v65 hF m66
            replace hF := kf_st (l_X8_mixTown_0_28_s _ _ _ _ _) hF
            have r_x59 := kw_rng x59
            refine kw_iload_n (pc := 28) (i := 16) (k := 0) (n := 2) rfl rfl rfl ?_
            refine kw_bipush (pc := 29) (i := 17) (v := 6) rfl rfl ?_
            refine kw_icmp_gt (pc := 31) (i := 18) (tgt := 50) rfl rfl (fun c68 => ?_) (fun c68 => ?_)
            · replace hF := kf_p c68 hF
              refine kw_iinc' (pc := 50) (i := 27) (k := 1) (fun z => [(1, .int z), (2, .int x59), (0, .ref 0)]) rfl rfl (by decide) rfl (fun _ => rfl) (fun z69 e_z69 t_z69 => ?_)
              replace hF := kf_le e_z69 hF
              first | (have u_z69 : z69.toInt = x17.toInt + 1 := (by omega); clear t_z69) | skip
              refine kw_goto (pc := 53) (i := 28) (tgt := 18) rfl rfl ?_
              refine kw_sub (lv' := [(1, .int z69), (0, .ref 0)]) [0, 2] rfl ?_
              exact ih22 z69 S60 I61 F62 (by omega) hF (by omega)
            · replace hF := kf_nl c68 hF
              refine kw_aload_n (pc := 34) (i := 19) (k := 2) (n := 0) rfl rfl rfl ?_
              refine kw_aload_n (pc := 35) (i := 20) (k := 2) (n := 0) rfl rfl rfl ?_
              refine kw_iload_n (pc := 36) (i := 21) (k := 1) (n := 1) rfl rfl rfl ?_
              refine kw_iload_n (pc := 37) (i := 22) (k := 0) (n := 2) rfl rfl rfl ?_
              refine kw_callV (pc := 38) (i := 23) (Y := mX8_lineOf) (a := 0) (As := [.int x17, .int x59]) (st := [.ref 0]) kw_hE rfl rfl lvX8_230 arX8_lineOf (c_X8_lineOf_0 l T hT0 hT1 S60 I61 x17 x59 (by first | omega | decide) (by first | omega | decide)) (by decide) (Nat.le_of_ble_eq_true rfl) rfl (fun v S71 p70 => ?_)
              obtain ⟨e74, z73, rfl, ef72⟩ := p70
              rw [e74]
              replace hF := kf_le ef72 hF
              have r_z73 := kw_rng z73
              show kw_AW l 4 kw_E0 KM mX8_mixTown (p_X8_mixTown_0 T σ) 41 [(2, .int x59), (1, .int x17), (0, .ref 0)] [.int z73, .ref 0] S60
              refine kw_callV (pc := 41) (i := 24) (Y := mX8_mix) (a := 0) (As := [.int z73]) (st := []) kw_hE rfl rfl lvX8_309 arX8_mix (c_X8_mix_0 l T hT0 hT1 S60 I61 z73 ) (by decide) (Nat.le_of_ble_eq_true rfl) rfl (fun v S76 p75 => ?_)
              obtain ⟨⟨I78, F79⟩, rfl, ef77⟩ := p75
              have F80 : kw_FM [2036] σ S76 := kw_FM.tr F62 F79 (by decide)
              have w_81 : (S76.1 0 27).toInt = (S60.1 0 27).toInt := congrArg Int32.toInt (kw_FM.at0 (j := 27) F79 (by decide))
              replace hF := kf_le ef77 hF
              show kw_AW l 4 kw_E0 KM mX8_mixTown (p_X8_mixTown_0 T σ) 44 [(2, .int x59), (1, .int x17), (0, .ref 0)] [] S76
              refine kw_iinc' (pc := 44) (i := 25) (k := 0) (fun z => [(2, .int z), (1, .int x17), (0, .ref 0)]) rfl rfl (by decide) rfl (fun _ => rfl) (fun z82 e_z82 t_z82 => ?_)
              replace hF := kf_le e_z82 hF
              first | (have u_z82 : z82.toInt = x59.toInt + 1 := (by omega); clear t_z82) | skip
              refine kw_goto (pc := 47) (i := 26) (tgt := 28) rfl rfl ?_
              refine kw_sub (lv' := [(2, .int z82), (1, .int x17), (0, .ref 0)]) [0, 1, 2] rfl ?_
              exact ih64 z82 S76 I78 F80 (by omega) hF (by omega)
        exact L63 _ 0 S18 I19 F20 (by omega) hF (Nat.lt_succ_self _)
  exact L21 _ 0 S11 I13 F15 (by omega) hF (Nat.lt_succ_self _)
noncomputable def l_X8_digest_0_131 (k101 : Int32 → kw_S → Int64 × kw_S) (a1 : Int32) : Nat → Int32 → kw_S → Int64 × kw_S
  | 0, _, S => (0, S)
  | n + 1, x2, S => kf_l (S.1 5 a1.toNatClampNeg) fun z5 => if x2.toInt < z5.toInt then (kf_l ((60 : Int32) * a1) fun z7 => kf_l (z7 + x2) fun z8 => kf_l (S.1 6 z8.toNatClampNeg) fun z9 => kf_l (f_X8_mix_0 S z9) fun S10 => kf_l (x2 + Int32.ofInt 1) fun z11 => l_X8_digest_0_131 k101 a1 n z11 S10) else (kf_l (a1 + Int32.ofInt 1) fun z6 => k101 z6 S)
theorem l_X8_digest_0_131_s (k101 : Int32 → kw_S → Int64 × kw_S) (a1 : Int32) (n : Nat) (x2 : Int32) (S : kw_S) : l_X8_digest_0_131 k101 a1 (n + 1) x2 S = kf_l (S.1 5 a1.toNatClampNeg) fun z5 => if x2.toInt < z5.toInt then (kf_l ((60 : Int32) * a1) fun z7 => kf_l (z7 + x2) fun z8 => kf_l (S.1 6 z8.toNatClampNeg) fun z9 => kf_l (f_X8_mix_0 S z9) fun S10 => kf_l (x2 + Int32.ofInt 1) fun z11 => l_X8_digest_0_131 k101 a1 n z11 S10) else (kf_l (a1 + Int32.ofInt 1) fun z6 => k101 z6 S) := rfl
noncomputable def l_X8_digest_0_101  : Nat → Int32 → kw_S → Int64 × kw_S
  | 0, _, S => (0, S)
  | n + 1, x1, S => if x1.toInt < (4 : Int32).toInt then (kf_l (S.1 5 x1.toNatClampNeg) fun z2 => if z2.toInt < 0 then (kf_l (f_X8_mix_0 S ((-1) : Int32)) fun S12 => l_X8_digest_0_131 (l_X8_digest_0_101 n) x1 ((61 - (0 : Int32).toInt).toNat + 1) (0 : Int32) S12) else (kf_l (S.1 5 x1.toNatClampNeg) fun z3 => kf_l (f_X8_mix_0 S z3) fun S4 => l_X8_digest_0_131 (l_X8_digest_0_101 n) x1 ((61 - (0 : Int32).toInt).toNat + 1) (0 : Int32) S4)) else (((S.2 0 36), S))
theorem l_X8_digest_0_101_s  (n : Nat) (x1 : Int32) (S : kw_S) : l_X8_digest_0_101 (n + 1) x1 S = if x1.toInt < (4 : Int32).toInt then (kf_l (S.1 5 x1.toNatClampNeg) fun z2 => if z2.toInt < 0 then (kf_l (f_X8_mix_0 S ((-1) : Int32)) fun S12 => l_X8_digest_0_131 (l_X8_digest_0_101 n) x1 ((61 - (0 : Int32).toInt).toNat + 1) (0 : Int32) S12) else (kf_l (S.1 5 x1.toNatClampNeg) fun z3 => kf_l (f_X8_mix_0 S z3) fun S4 => l_X8_digest_0_131 (l_X8_digest_0_101 n) x1 ((61 - (0 : Int32).toInt).toNat + 1) (0 : Int32) S4)) else (((S.2 0 36), S)) := rfl
noncomputable def l_X8_digest_0_67 (k36 : Int32 → kw_S → Int64 × kw_S) (a1 : Int32) : Nat → Int32 → kw_S → Int64 × kw_S
  | 0, _, S => (0, S)
  | n + 1, x2, S => kf_l (S.1 2 a1.toNatClampNeg) fun z16 => if x2.toInt < z16.toInt then (kf_l (f_X8_rowAt_0 S a1 x2) fun z18 => kf_l (f_X8_mix_0 S z18) fun S19 => kf_l (x2 + Int32.ofInt 1) fun z20 => l_X8_digest_0_67 k36 a1 n z20 S19) else (kf_l (a1 + Int32.ofInt 1) fun z17 => k36 z17 S)
theorem l_X8_digest_0_67_s (k36 : Int32 → kw_S → Int64 × kw_S) (a1 : Int32) (n : Nat) (x2 : Int32) (S : kw_S) : l_X8_digest_0_67 k36 a1 (n + 1) x2 S = kf_l (S.1 2 a1.toNatClampNeg) fun z16 => if x2.toInt < z16.toInt then (kf_l (f_X8_rowAt_0 S a1 x2) fun z18 => kf_l (f_X8_mix_0 S z18) fun S19 => kf_l (x2 + Int32.ofInt 1) fun z20 => l_X8_digest_0_67 k36 a1 n z20 S19) else (kf_l (a1 + Int32.ofInt 1) fun z17 => k36 z17 S) := rfl
noncomputable def l_X8_digest_0_36  : Nat → Int32 → kw_S → Int64 × kw_S
  | 0, _, S => (0, S)
  | n + 1, x1, S => if x1.toInt < (6 : Int32).toInt then (kf_l (S.1 2 x1.toNatClampNeg) fun z13 => if z13.toInt < 0 then (kf_l (f_X8_mix_0 S ((-1) : Int32)) fun S21 => l_X8_digest_0_67 (l_X8_digest_0_36 n) x1 ((41 - (0 : Int32).toInt).toNat + 1) (0 : Int32) S21) else (kf_l (S.1 2 x1.toNatClampNeg) fun z14 => kf_l (f_X8_mix_0 S z14) fun S15 => l_X8_digest_0_67 (l_X8_digest_0_36 n) x1 ((41 - (0 : Int32).toInt).toNat + 1) (0 : Int32) S15)) else (l_X8_digest_0_101 ((5 - (0 : Int32).toInt).toNat + 1) (0 : Int32) S)
theorem l_X8_digest_0_36_s  (n : Nat) (x1 : Int32) (S : kw_S) : l_X8_digest_0_36 (n + 1) x1 S = if x1.toInt < (6 : Int32).toInt then (kf_l (S.1 2 x1.toNatClampNeg) fun z13 => if z13.toInt < 0 then (kf_l (f_X8_mix_0 S ((-1) : Int32)) fun S21 => l_X8_digest_0_67 (l_X8_digest_0_36 n) x1 ((41 - (0 : Int32).toInt).toNat + 1) (0 : Int32) S21) else (kf_l (S.1 2 x1.toNatClampNeg) fun z14 => kf_l (f_X8_mix_0 S z14) fun S15 => l_X8_digest_0_67 (l_X8_digest_0_36 n) x1 ((41 - (0 : Int32).toInt).toNat + 1) (0 : Int32) S15)) else (l_X8_digest_0_101 ((5 - (0 : Int32).toInt).toNat + 1) (0 : Int32) S) := rfl
noncomputable def l_X8_digest_0_9  : Nat → Int32 → kw_S → Int64 × kw_S
  | 0, _, S => (0, S)
  | n + 1, x1, S => if (9 : Int32).toInt < x1.toInt then (kf_l (f_X8_mixTown_0 S) fun S1 => l_X8_digest_0_36 ((7 - (0 : Int32).toInt).toNat + 1) (0 : Int32) S1) else (kf_l (f_X8_tells_0 S x1) fun z22 => kf_l (f_X8_mix_0 S z22) fun S23 => kf_l (x1 + Int32.ofInt 1) fun z24 => l_X8_digest_0_9 n z24 S23)
theorem l_X8_digest_0_9_s  (n : Nat) (x1 : Int32) (S : kw_S) : l_X8_digest_0_9 (n + 1) x1 S = if (9 : Int32).toInt < x1.toInt then (kf_l (f_X8_mixTown_0 S) fun S1 => l_X8_digest_0_36 ((7 - (0 : Int32).toInt).toNat + 1) (0 : Int32) S1) else (kf_l (f_X8_tells_0 S x1) fun z22 => kf_l (f_X8_mix_0 S z22) fun S23 => kf_l (x1 + Int32.ofInt 1) fun z24 => l_X8_digest_0_9 n z24 S23) := rfl
noncomputable def f_X8_digest_0 (σ : kw_S)  : Int64 × kw_S := l_X8_digest_0_9 ((11 - (0 : Int32).toInt).toNat + 1) (0 : Int32) (kw_ul σ 0 36 17)
theorem f_X8_digest_0_u (σ : kw_S)  : f_X8_digest_0 σ  = l_X8_digest_0_9 ((11 - (0 : Int32).toInt).toNat + 1) (0 : Int32) (kw_ul σ 0 36 17) := rfl
abbrev p_X8_digest_0 (T : Int) (σ : kw_S)  : Option Value → kw_S → Prop := fun vv σ' => (kw_I (bM T) σ' ∧ kw_FM [2036] σ σ') ∧ ∃ r : Int64, vv = some (.long r) ∧ (r, σ') = f_X8_digest_0 σ
set_option maxRecDepth 100000 in
set_option maxHeartbeats 4000000 in
theorem c_X8_digest_0 (l : Launch) (T : Int) (hT0 : 0 ≤ T) (hT1 : T ≤ 3000) (σ : kw_S) (hI : kw_I (bM T) σ)  : kw_Met l 5 KM mX8_digest [.ref 0] σ (p_X8_digest_0 T σ) := by
  have hF0 : kw_FM [2036] σ σ := kw_FM.rf
  have hF := (f_X8_digest_0_u σ).symm
  have q_m1 : (-1 : Int32).toInt = -1 := rfl
  have q_0 : (0 : Int32).toInt = 0 := rfl
  have q_4 : (4 : Int32).toInt = 4 := rfl
  have q_6 : (6 : Int32).toInt = 6 := rfl
  have q_9 : (9 : Int32).toInt = 9 := rfl
  have q_60 : (60 : Int32).toInt = 60 := rfl
  refine kw_Met.of (by decide) rfl tX8_digest (Nat.le_of_ble_eq_true rfl) ?_
  show kw_AW l 5 kw_E0 KM mX8_digest (p_X8_digest_0 T σ) 0 [(0, .ref 0)] [] σ
  refine kw_aload_n (pc := 0) (i := 0) (k := 0) (n := 0) rfl rfl rfl ?_
  refine kw_ldc2 (pc := 1) (i := 1) (v := 17) rfl ckX8_312 ?_
  refine kw_putl (pc := 4) (i := 2) (z := 0) rfl rfl rfl lpX8_306 ?_
  have I1 : kw_I (bM T) (kw_ul σ 0 36 17) := kw_I_ul hI _ _ _
  have F2 : kw_FM [2036] σ (kw_ul σ 0 36 17) := kw_FM_ul0 hF0 (by decide)
  refine kw_iconst (pc := 7) (i := 3) (v := 0) rfl rfl ?_
  refine kw_istore_n (pc := 8) (i := 4) (n := 1) (lv' := [(1, .int 0), (0, .ref 0)]) rfl rfl (by decide) rfl ?_
  have L7 : ∀ (n11 : Nat) (x3 : Int32) (S4 : kw_S), kw_I (bM T) S4 → kw_FM [2036] σ S4 → 0 ≤ x3.toInt → l_X8_digest_0_9 n11 x3 S4 = (f_X8_digest_0 σ) → (11 - x3.toInt).toNat < n11 → kw_AW l 5 kw_E0 KM mX8_digest (p_X8_digest_0 T σ) 9 [(1, .int x3), (0, .ref 0)] [] S4 := by
    intro n11
    induction n11 with
    | zero => intro x3 S4 I5 F6 v9 hF m10; exact absurd m10 (Nat.not_lt_zero _)
    | succ n11 ih8 =>
      intro x3 S4 I5 F6 v9 hF m10
      replace hF := kf_st (l_X8_digest_0_9_s _ _ _) hF
      have r_x3 := kw_rng x3
      refine kw_iload_n (pc := 9) (i := 5) (k := 0) (n := 1) rfl rfl rfl ?_
      refine kw_bipush (pc := 10) (i := 6) (v := 9) rfl rfl ?_
      refine kw_icmp_gt (pc := 12) (i := 7) (tgt := 30) rfl rfl (fun c12 => ?_) (fun c12 => ?_)
      · replace hF := kf_p c12 hF
        refine kw_aload_n (pc := 30) (i := 15) (k := 1) (n := 0) rfl rfl rfl ?_
        refine kw_callV (pc := 31) (i := 16) (Y := mX8_mixTown) (a := 0) (As := []) (st := []) kw_hE rfl rfl lvX8_314 arX8_mixTown (c_X8_mixTown_0 l T hT0 hT1 S4 I5  ) (by decide) (Nat.le_of_ble_eq_true rfl) rfl (fun v S14 p13 => ?_)
        obtain ⟨⟨I16, F17⟩, rfl, ef15⟩ := p13
        have F18 : kw_FM [2036] σ S14 := kw_FM.tr F6 F17 (by decide)
        have w_19 : (S14.1 0 27).toInt = (S4.1 0 27).toInt := congrArg Int32.toInt (kw_FM.at0 (j := 27) F17 (by decide))
        replace hF := kf_le ef15 hF
        show kw_AW l 5 kw_E0 KM mX8_digest (p_X8_digest_0 T σ) 34 [(1, .int x3), (0, .ref 0)] [] S14
        refine kw_iconst (pc := 34) (i := 17) (v := 0) rfl rfl ?_
        refine kw_istore_n (pc := 35) (i := 18) (n := 1) (lv' := [(1, .int 0), (0, .ref 0)]) rfl rfl (by decide) rfl ?_
        have L24 : ∀ (n28 : Nat) (x20 : Int32) (S21 : kw_S), kw_I (bM T) S21 → kw_FM [2036] σ S21 → 0 ≤ x20.toInt → l_X8_digest_0_36 n28 x20 S21 = (f_X8_digest_0 σ) → (7 - x20.toInt).toNat < n28 → kw_AW l 5 kw_E0 KM mX8_digest (p_X8_digest_0 T σ) 36 [(1, .int x20), (0, .ref 0)] [] S21 := by
          intro n28
          induction n28 with
          | zero => intro x20 S21 I22 F23 v26 hF m27; exact absurd m27 (Nat.not_lt_zero _)
          | succ n28 ih25 =>
            intro x20 S21 I22 F23 v26 hF m27
            replace hF := kf_st (l_X8_digest_0_36_s _ _ _) hF
            have r_x20 := kw_rng x20
            refine kw_iload_n (pc := 36) (i := 19) (k := 0) (n := 1) rfl rfl rfl ?_
            refine kw_bipush (pc := 37) (i := 20) (v := 6) rfl rfl ?_
            refine kw_icmp_ge (pc := 39) (i := 21) (tgt := 99) rfl rfl (fun c29 => ?_) (fun c29 => ?_)
            · replace hF := kf_nl c29 hF
              refine kw_iconst (pc := 99) (i := 53) (v := 0) rfl rfl ?_
              refine kw_istore_n (pc := 100) (i := 54) (n := 1) (lv' := [(1, .int 0), (0, .ref 0)]) rfl rfl (by decide) rfl ?_
              have L34 : ∀ (n38 : Nat) (x30 : Int32) (S31 : kw_S), kw_I (bM T) S31 → kw_FM [2036] σ S31 → 0 ≤ x30.toInt → l_X8_digest_0_101 n38 x30 S31 = (f_X8_digest_0 σ) → (5 - x30.toInt).toNat < n38 → kw_AW l 5 kw_E0 KM mX8_digest (p_X8_digest_0 T σ) 101 [(1, .int x30), (0, .ref 0)] [] S31 := by
                intro n38
                induction n38 with
                | zero => intro x30 S31 I32 F33 v36 hF m37; exact absurd m37 (Nat.not_lt_zero _)
                | succ n38 ih35 =>
                  intro x30 S31 I32 F33 v36 hF m37
                  replace hF := kf_st (l_X8_digest_0_101_s _ _ _) hF
                  have r_x30 := kw_rng x30
                  refine kw_iload_n (pc := 101) (i := 55) (k := 0) (n := 1) rfl rfl rfl ?_
                  refine kw_iconst (pc := 102) (i := 56) (v := 4) rfl rfl ?_
                  refine kw_icmp_ge (pc := 103) (i := 57) (tgt := 168) rfl rfl (fun c39 => ?_) (fun c39 => ?_)
                  · replace hF := kf_nl c39 hF
                    refine kw_aload_n (pc := 168) (i := 93) (k := 1) (n := 0) rfl rfl rfl ?_
                    refine kw_get (pc := 169) (i := 94) (v := .long (S31.2 0 36)) rfl rfl rfl lkX8_306 (fun _ => rfl) ?_
                    exact kw_lreturn (pc := 172) (i := 95) rfl rfl ⟨⟨I32, F33⟩, _, rfl, hF⟩
                  · replace hF := kf_p c39 hF
                    refine kw_aload_n (pc := 106) (i := 58) (k := 1) (n := 0) rfl rfl rfl ?_
                    refine kw_aload_n (pc := 107) (i := 59) (k := 1) (n := 0) rfl rfl rfl ?_
                    refine kw_get (pc := 108) (i := 60) (v := .ref 5) rfl rfl rfl lkX8_26 (fun _ => rfl) ?_
                    refine kw_iload_n (pc := 111) (i := 61) (k := 0) (n := 1) rfl rfl rfl ?_
                    refine kw_iald (pc := 112) (i := 62) (n := 4) rfl rfl (by omega) (by omega) (fun z40 e_z40 => ?_)
                    replace hF := kf_le e_z40 hF
                    have t_z40 := congrArg Int32.toInt e_z40
                    have b_z40 : -9 ≤ z40.toInt ∧ z40.toInt ≤ 60 := by rw [e_z40]; exact I32 5 _
                    refine kw_if_ge (pc := 113) (i := 63) (tgt := 120) rfl rfl (fun c41 => ?_) (fun c41 => ?_)
                    · replace hF := kf_nl c41 hF
                      refine kw_aload_n (pc := 120) (i := 66) (k := 1) (n := 0) rfl rfl rfl ?_
                      refine kw_get (pc := 121) (i := 67) (v := .ref 5) rfl rfl rfl lkX8_26 (fun _ => rfl) ?_
                      refine kw_iload_n (pc := 124) (i := 68) (k := 0) (n := 1) rfl rfl rfl ?_
                      refine kw_iald (pc := 125) (i := 69) (n := 4) rfl rfl (by omega) (by omega) (fun z42 e_z42 => ?_)
                      replace hF := kf_le e_z42 hF
                      have t_z42 := congrArg Int32.toInt e_z42
                      have b_z42 : -9 ≤ z42.toInt ∧ z42.toInt ≤ 60 := by rw [e_z42]; exact I32 5 _
                      refine kw_callV (pc := 126) (i := 70) (Y := mX8_mix) (a := 0) (As := [.int z42]) (st := []) kw_hE rfl rfl lvX8_309 arX8_mix (c_X8_mix_0 l T hT0 hT1 S31 I32 z42 ) (by decide) (Nat.le_of_ble_eq_true rfl) rfl (fun v S44 p43 => ?_)
                      obtain ⟨⟨I46, F47⟩, rfl, ef45⟩ := p43
                      have F48 : kw_FM [2036] σ S44 := kw_FM.tr F33 F47 (by decide)
                      have w_49 : (S44.1 0 27).toInt = (S31.1 0 27).toInt := congrArg Int32.toInt (kw_FM.at0 (j := 27) F47 (by decide))
                      replace hF := kf_le ef45 hF
                      show kw_AW l 5 kw_E0 KM mX8_digest (p_X8_digest_0 T σ) 129 [(1, .int x30), (0, .ref 0)] [] S44
                      refine kw_iconst (pc := 129) (i := 71) (v := 0) rfl rfl ?_
                      refine kw_istore_n (pc := 130) (i := 72) (n := 2) (lv' := [(2, .int 0), (1, .int x30), (0, .ref 0)]) rfl rfl (by decide) rfl ?_
                      have L54 : ∀ (n58 : Nat) (x50 : Int32) (S51 : kw_S), kw_I (bM T) S51 → kw_FM [2036] σ S51 → 0 ≤ x50.toInt → l_X8_digest_0_131 (l_X8_digest_0_101 n38) x30 n58 x50 S51 = (f_X8_digest_0 σ) → (61 - x50.toInt).toNat < n58 → kw_AW l 5 kw_E0 KM mX8_digest (p_X8_digest_0 T σ) 131 [(2, .int x50), (1, .int x30), (0, .ref 0)] [] S51 := by
                        intro n58
                        induction n58 with
                        | zero => intro x50 S51 I52 F53 v56 hF m57; exact absurd m57 (Nat.not_lt_zero _)
                        | succ n58 ih55 =>
                          intro x50 S51 I52 F53 v56 hF m57
                          replace hF := kf_st (l_X8_digest_0_131_s _ _ _ _ _) hF
                          have r_x50 := kw_rng x50
                          refine kw_iload_n (pc := 131) (i := 73) (k := 0) (n := 2) rfl rfl rfl ?_
                          refine kw_aload_n (pc := 132) (i := 74) (k := 2) (n := 0) rfl rfl rfl ?_
                          refine kw_get (pc := 133) (i := 75) (v := .ref 5) rfl rfl rfl lkX8_26 (fun _ => rfl) ?_
                          refine kw_iload_n (pc := 136) (i := 76) (k := 1) (n := 1) rfl rfl rfl ?_
                          refine kw_iald (pc := 137) (i := 77) (n := 4) rfl rfl (by omega) (by omega) (fun z59 e_z59 => ?_)
                          replace hF := kf_le e_z59 hF
                          have t_z59 := congrArg Int32.toInt e_z59
                          have b_z59 : -9 ≤ z59.toInt ∧ z59.toInt ≤ 60 := by rw [e_z59]; exact I52 5 _
                          refine kw_icmp_ge (pc := 138) (i := 78) (tgt := 162) rfl rfl (fun c60 => ?_) (fun c60 => ?_)
                          · replace hF := kf_nl c60 hF
                            refine kw_iinc' (pc := 162) (i := 91) (k := 1) (fun z => [(1, .int z), (2, .int x50), (0, .ref 0)]) rfl rfl (by decide) rfl (fun _ => rfl) (fun z61 e_z61 t_z61 => ?_)
                            replace hF := kf_le e_z61 hF
                            first | (have u_z61 : z61.toInt = x30.toInt + 1 := (by omega); clear t_z61) | skip
                            refine kw_goto (pc := 165) (i := 92) (tgt := 101) rfl rfl ?_
                            refine kw_sub (lv' := [(1, .int z61), (0, .ref 0)]) [0, 2] rfl ?_
                            exact ih35 z61 S51 I52 F53 (by omega) hF (by omega)
                          · replace hF := kf_p c60 hF
                            refine kw_aload_n (pc := 141) (i := 79) (k := 2) (n := 0) rfl rfl rfl ?_
                            refine kw_aload_n (pc := 142) (i := 80) (k := 2) (n := 0) rfl rfl rfl ?_
                            refine kw_get (pc := 143) (i := 81) (v := .ref 6) rfl rfl rfl lkX8_29 (fun _ => rfl) ?_
                            refine kw_bipush (pc := 146) (i := 82) (v := 60) rfl rfl ?_
                            refine kw_iload_n (pc := 148) (i := 83) (k := 1) (n := 1) rfl rfl rfl ?_
                            refine kw_imul (pc := 149) (i := 84) rfl (fun z62 e_z62 t_z62 => ?_)
                            replace hF := kf_le e_z62 hF
                            rw [show (60 : Int32).toInt = 60 from rfl] at t_z62
                            first | (have u_z62 : z62.toInt = 60 * x30.toInt := (by omega); clear t_z62) | skip
                            refine kw_iload_n (pc := 150) (i := 85) (k := 0) (n := 2) rfl rfl rfl ?_
                            refine kw_iadd (pc := 151) (i := 86) rfl (fun z63 e_z63 t_z63 => ?_)
                            replace hF := kf_le e_z63 hF
                            first | (have u_z63 : z63.toInt = z62.toInt + x50.toInt := (by omega); clear t_z63) | skip
                            refine kw_iald (pc := 152) (i := 87) (n := 240) rfl rfl (by omega) (by omega) (fun z64 e_z64 => ?_)
                            replace hF := kf_le e_z64 hF
                            have t_z64 := congrArg Int32.toInt e_z64
                            have r_z64 := kw_rng z64
                            refine kw_callV (pc := 153) (i := 88) (Y := mX8_mix) (a := 0) (As := [.int z64]) (st := []) kw_hE rfl rfl lvX8_309 arX8_mix (c_X8_mix_0 l T hT0 hT1 S51 I52 z64 ) (by decide) (Nat.le_of_ble_eq_true rfl) rfl (fun v S66 p65 => ?_)
                            obtain ⟨⟨I68, F69⟩, rfl, ef67⟩ := p65
                            have F70 : kw_FM [2036] σ S66 := kw_FM.tr F53 F69 (by decide)
                            have w_71 : (S66.1 0 27).toInt = (S51.1 0 27).toInt := congrArg Int32.toInt (kw_FM.at0 (j := 27) F69 (by decide))
                            replace hF := kf_le ef67 hF
                            show kw_AW l 5 kw_E0 KM mX8_digest (p_X8_digest_0 T σ) 156 [(2, .int x50), (1, .int x30), (0, .ref 0)] [] S66
                            refine kw_iinc' (pc := 156) (i := 89) (k := 0) (fun z => [(2, .int z), (1, .int x30), (0, .ref 0)]) rfl rfl (by decide) rfl (fun _ => rfl) (fun z72 e_z72 t_z72 => ?_)
                            replace hF := kf_le e_z72 hF
                            first | (have u_z72 : z72.toInt = x50.toInt + 1 := (by omega); clear t_z72) | skip
                            refine kw_goto (pc := 159) (i := 90) (tgt := 131) rfl rfl ?_
                            refine kw_sub (lv' := [(2, .int z72), (1, .int x30), (0, .ref 0)]) [0, 1, 2] rfl ?_
                            exact ih55 z72 S66 I68 F70 (by omega) hF (by omega)
                      exact L54 _ 0 S44 I46 F48 (by omega) hF (Nat.lt_succ_self _)
                    · replace hF := kf_p c41 hF
                      refine kw_iconst (pc := 116) (i := 64) (v := (-1)) rfl rfl ?_
                      refine kw_goto (pc := 117) (i := 65) (tgt := 126) rfl rfl ?_
                      refine kw_callV (pc := 126) (i := 70) (Y := mX8_mix) (a := 0) (As := [.int (-1)]) (st := []) kw_hE rfl rfl lvX8_309 arX8_mix (c_X8_mix_0 l T hT0 hT1 S31 I32 (-1) ) (by decide) (Nat.le_of_ble_eq_true rfl) rfl (fun v S74 p73 => ?_)
                      obtain ⟨⟨I76, F77⟩, rfl, ef75⟩ := p73
                      have F78 : kw_FM [2036] σ S74 := kw_FM.tr F33 F77 (by decide)
                      have w_79 : (S74.1 0 27).toInt = (S31.1 0 27).toInt := congrArg Int32.toInt (kw_FM.at0 (j := 27) F77 (by decide))
                      replace hF := kf_le ef75 hF
                      show kw_AW l 5 kw_E0 KM mX8_digest (p_X8_digest_0 T σ) 129 [(1, .int x30), (0, .ref 0)] [] S74
                      refine kw_iconst (pc := 129) (i := 71) (v := 0) rfl rfl ?_
                      refine kw_istore_n (pc := 130) (i := 72) (n := 2) (lv' := [(2, .int 0), (1, .int x30), (0, .ref 0)]) rfl rfl (by decide) rfl ?_
                      have L84 : ∀ (n88 : Nat) (x80 : Int32) (S81 : kw_S), kw_I (bM T) S81 → kw_FM [2036] σ S81 → 0 ≤ x80.toInt → l_X8_digest_0_131 (l_X8_digest_0_101 n38) x30 n88 x80 S81 = (f_X8_digest_0 σ) → (61 - x80.toInt).toNat < n88 → kw_AW l 5 kw_E0 KM mX8_digest (p_X8_digest_0 T σ) 131 [(2, .int x80), (1, .int x30), (0, .ref 0)] [] S81 := by
                        intro n88
                        induction n88 with
                        | zero => intro x80 S81 I82 F83 v86 hF m87; exact absurd m87 (Nat.not_lt_zero _)
                        | succ n88 ih85 =>
                          intro x80 S81 I82 F83 v86 hF m87
                          replace hF := kf_st (l_X8_digest_0_131_s _ _ _ _ _) hF
                          have r_x80 := kw_rng x80
                          refine kw_iload_n (pc := 131) (i := 73) (k := 0) (n := 2) rfl rfl rfl ?_
                          refine kw_aload_n (pc := 132) (i := 74) (k := 2) (n := 0) rfl rfl rfl ?_
                          refine kw_get (pc := 133) (i := 75) (v := .ref 5) rfl rfl rfl lkX8_26 (fun _ => rfl) ?_
                          refine kw_iload_n (pc := 136) (i := 76) (k := 1) (n := 1) rfl rfl rfl ?_
                          refine kw_iald (pc := 137) (i := 77) (n := 4) rfl rfl (by omega) (by omega) (fun z89 e_z89 => ?_)
                          replace hF := kf_le e_z89 hF
                          have t_z89 := congrArg Int32.toInt e_z89
                          have b_z89 : -9 ≤ z89.toInt ∧ z89.toInt ≤ 60 := by rw [e_z89]; exact I82 5 _
                          refine kw_icmp_ge (pc := 138) (i := 78) (tgt := 162) rfl rfl (fun c90 => ?_) (fun c90 => ?_)
                          · replace hF := kf_nl c90 hF
                            refine kw_iinc' (pc := 162) (i := 91) (k := 1) (fun z => [(1, .int z), (2, .int x80), (0, .ref 0)]) rfl rfl (by decide) rfl (fun _ => rfl) (fun z91 e_z91 t_z91 => ?_)
                            replace hF := kf_le e_z91 hF
                            first | (have u_z91 : z91.toInt = x30.toInt + 1 := (by omega); clear t_z91) | skip
                            refine kw_goto (pc := 165) (i := 92) (tgt := 101) rfl rfl ?_
                            refine kw_sub (lv' := [(1, .int z91), (0, .ref 0)]) [0, 2] rfl ?_
                            exact ih35 z91 S81 I82 F83 (by omega) hF (by omega)
                          · replace hF := kf_p c90 hF
                            refine kw_aload_n (pc := 141) (i := 79) (k := 2) (n := 0) rfl rfl rfl ?_
                            refine kw_aload_n (pc := 142) (i := 80) (k := 2) (n := 0) rfl rfl rfl ?_
                            refine kw_get (pc := 143) (i := 81) (v := .ref 6) rfl rfl rfl lkX8_29 (fun _ => rfl) ?_
                            refine kw_bipush (pc := 146) (i := 82) (v := 60) rfl rfl ?_
                            refine kw_iload_n (pc := 148) (i := 83) (k := 1) (n := 1) rfl rfl rfl ?_
                            refine kw_imul (pc := 149) (i := 84) rfl (fun z92 e_z92 t_z92 => ?_)
                            replace hF := kf_le e_z92 hF
                            rw [show (60 : Int32).toInt = 60 from rfl] at t_z92
                            first | (have u_z92 : z92.toInt = 60 * x30.toInt := (by omega); clear t_z92) | skip
                            refine kw_iload_n (pc := 150) (i := 85) (k := 0) (n := 2) rfl rfl rfl ?_
                            refine kw_iadd (pc := 151) (i := 86) rfl (fun z93 e_z93 t_z93 => ?_)
                            replace hF := kf_le e_z93 hF
                            first | (have u_z93 : z93.toInt = z92.toInt + x80.toInt := (by omega); clear t_z93) | skip
                            refine kw_iald (pc := 152) (i := 87) (n := 240) rfl rfl (by omega) (by omega) (fun z94 e_z94 => ?_)
                            replace hF := kf_le e_z94 hF
                            have t_z94 := congrArg Int32.toInt e_z94
                            have r_z94 := kw_rng z94
                            refine kw_callV (pc := 153) (i := 88) (Y := mX8_mix) (a := 0) (As := [.int z94]) (st := []) kw_hE rfl rfl lvX8_309 arX8_mix (c_X8_mix_0 l T hT0 hT1 S81 I82 z94 ) (by decide) (Nat.le_of_ble_eq_true rfl) rfl (fun v S96 p95 => ?_)
                            obtain ⟨⟨I98, F99⟩, rfl, ef97⟩ := p95
                            have F100 : kw_FM [2036] σ S96 := kw_FM.tr F83 F99 (by decide)
                            have w_101 : (S96.1 0 27).toInt = (S81.1 0 27).toInt := congrArg Int32.toInt (kw_FM.at0 (j := 27) F99 (by decide))
                            replace hF := kf_le ef97 hF
                            show kw_AW l 5 kw_E0 KM mX8_digest (p_X8_digest_0 T σ) 156 [(2, .int x80), (1, .int x30), (0, .ref 0)] [] S96
                            refine kw_iinc' (pc := 156) (i := 89) (k := 0) (fun z => [(2, .int z), (1, .int x30), (0, .ref 0)]) rfl rfl (by decide) rfl (fun _ => rfl) (fun z102 e_z102 t_z102 => ?_)
                            replace hF := kf_le e_z102 hF
                            first | (have u_z102 : z102.toInt = x80.toInt + 1 := (by omega); clear t_z102) | skip
                            refine kw_goto (pc := 159) (i := 90) (tgt := 131) rfl rfl ?_
                            refine kw_sub (lv' := [(2, .int z102), (1, .int x30), (0, .ref 0)]) [0, 1, 2] rfl ?_
                            exact ih85 z102 S96 I98 F100 (by omega) hF (by omega)
                      exact L84 _ 0 S74 I76 F78 (by omega) hF (Nat.lt_succ_self _)
              exact L34 _ 0 S21 I22 F23 (by omega) hF (Nat.lt_succ_self _)
            · replace hF := kf_p c29 hF
              refine kw_aload_n (pc := 42) (i := 22) (k := 1) (n := 0) rfl rfl rfl ?_
              refine kw_aload_n (pc := 43) (i := 23) (k := 1) (n := 0) rfl rfl rfl ?_
              refine kw_get (pc := 44) (i := 24) (v := .ref 2) rfl rfl rfl lkX8_17 (fun _ => rfl) ?_
              refine kw_iload_n (pc := 47) (i := 25) (k := 0) (n := 1) rfl rfl rfl ?_
              refine kw_iald (pc := 48) (i := 26) (n := 6) rfl rfl (by omega) (by omega) (fun z103 e_z103 => ?_)
              replace hF := kf_le e_z103 hF
              have t_z103 := congrArg Int32.toInt e_z103
              have b_z103 : -9 ≤ z103.toInt ∧ z103.toInt ≤ 40 := by rw [e_z103]; exact I22 2 _
              refine kw_if_ge (pc := 49) (i := 27) (tgt := 56) rfl rfl (fun c104 => ?_) (fun c104 => ?_)
              · replace hF := kf_nl c104 hF
                refine kw_aload_n (pc := 56) (i := 30) (k := 1) (n := 0) rfl rfl rfl ?_
                refine kw_get (pc := 57) (i := 31) (v := .ref 2) rfl rfl rfl lkX8_17 (fun _ => rfl) ?_
                refine kw_iload_n (pc := 60) (i := 32) (k := 0) (n := 1) rfl rfl rfl ?_
                refine kw_iald (pc := 61) (i := 33) (n := 6) rfl rfl (by omega) (by omega) (fun z105 e_z105 => ?_)
                replace hF := kf_le e_z105 hF
                have t_z105 := congrArg Int32.toInt e_z105
                have b_z105 : -9 ≤ z105.toInt ∧ z105.toInt ≤ 40 := by rw [e_z105]; exact I22 2 _
                refine kw_callV (pc := 62) (i := 34) (Y := mX8_mix) (a := 0) (As := [.int z105]) (st := []) kw_hE rfl rfl lvX8_309 arX8_mix (c_X8_mix_0 l T hT0 hT1 S21 I22 z105 ) (by decide) (Nat.le_of_ble_eq_true rfl) rfl (fun v S107 p106 => ?_)
                obtain ⟨⟨I109, F110⟩, rfl, ef108⟩ := p106
                have F111 : kw_FM [2036] σ S107 := kw_FM.tr F23 F110 (by decide)
                have w_112 : (S107.1 0 27).toInt = (S21.1 0 27).toInt := congrArg Int32.toInt (kw_FM.at0 (j := 27) F110 (by decide))
                replace hF := kf_le ef108 hF
                show kw_AW l 5 kw_E0 KM mX8_digest (p_X8_digest_0 T σ) 65 [(1, .int x20), (0, .ref 0)] [] S107
                refine kw_iconst (pc := 65) (i := 35) (v := 0) rfl rfl ?_
                refine kw_istore_n (pc := 66) (i := 36) (n := 2) (lv' := [(2, .int 0), (1, .int x20), (0, .ref 0)]) rfl rfl (by decide) rfl ?_
                have L117 : ∀ (n121 : Nat) (x113 : Int32) (S114 : kw_S), kw_I (bM T) S114 → kw_FM [2036] σ S114 → 0 ≤ x113.toInt → l_X8_digest_0_67 (l_X8_digest_0_36 n28) x20 n121 x113 S114 = (f_X8_digest_0 σ) → (41 - x113.toInt).toNat < n121 → kw_AW l 5 kw_E0 KM mX8_digest (p_X8_digest_0 T σ) 67 [(2, .int x113), (1, .int x20), (0, .ref 0)] [] S114 := by
                  intro n121
                  induction n121 with
                  | zero => intro x113 S114 I115 F116 v119 hF m120; exact absurd m120 (Nat.not_lt_zero _)
                  | succ n121 ih118 =>
                    intro x113 S114 I115 F116 v119 hF m120
                    replace hF := kf_st (l_X8_digest_0_67_s _ _ _ _ _) hF
                    have r_x113 := kw_rng x113
                    refine kw_iload_n (pc := 67) (i := 37) (k := 0) (n := 2) rfl rfl rfl ?_
                    refine kw_aload_n (pc := 68) (i := 38) (k := 2) (n := 0) rfl rfl rfl ?_
                    refine kw_get (pc := 69) (i := 39) (v := .ref 2) rfl rfl rfl lkX8_17 (fun _ => rfl) ?_
                    refine kw_iload_n (pc := 72) (i := 40) (k := 1) (n := 1) rfl rfl rfl ?_
                    refine kw_iald (pc := 73) (i := 41) (n := 6) rfl rfl (by omega) (by omega) (fun z122 e_z122 => ?_)
                    replace hF := kf_le e_z122 hF
                    have t_z122 := congrArg Int32.toInt e_z122
                    have b_z122 : -9 ≤ z122.toInt ∧ z122.toInt ≤ 40 := by rw [e_z122]; exact I115 2 _
                    refine kw_icmp_ge (pc := 74) (i := 42) (tgt := 93) rfl rfl (fun c123 => ?_) (fun c123 => ?_)
                    · replace hF := kf_nl c123 hF
                      refine kw_iinc' (pc := 93) (i := 51) (k := 1) (fun z => [(1, .int z), (2, .int x113), (0, .ref 0)]) rfl rfl (by decide) rfl (fun _ => rfl) (fun z124 e_z124 t_z124 => ?_)
                      replace hF := kf_le e_z124 hF
                      first | (have u_z124 : z124.toInt = x20.toInt + 1 := (by omega); clear t_z124) | skip
                      refine kw_goto (pc := 96) (i := 52) (tgt := 36) rfl rfl ?_
                      refine kw_sub (lv' := [(1, .int z124), (0, .ref 0)]) [0, 2] rfl ?_
                      exact ih25 z124 S114 I115 F116 (by omega) hF (by omega)
                    · replace hF := kf_p c123 hF
                      refine kw_aload_n (pc := 77) (i := 43) (k := 2) (n := 0) rfl rfl rfl ?_
                      refine kw_aload_n (pc := 78) (i := 44) (k := 2) (n := 0) rfl rfl rfl ?_
                      refine kw_iload_n (pc := 79) (i := 45) (k := 1) (n := 1) rfl rfl rfl ?_
                      refine kw_iload_n (pc := 80) (i := 46) (k := 0) (n := 2) rfl rfl rfl ?_
                      refine kw_callV (pc := 81) (i := 47) (Y := mX8_rowAt) (a := 0) (As := [.int x20, .int x113]) (st := [.ref 0]) kw_hE rfl rfl lvX8_115 arX8_rowAt (c_X8_rowAt_0 l T hT0 hT1 S114 I115 x20 x113 (by first | omega | decide) (by first | omega | decide) (by first | omega | decide) (by first | omega | decide)) (by decide) (Nat.le_of_ble_eq_true rfl) rfl (fun v S126 p125 => ?_)
                      obtain ⟨e129, z128, rfl, ef127⟩ := p125
                      rw [e129]
                      replace hF := kf_le ef127 hF
                      have r_z128 := kw_rng z128
                      show kw_AW l 5 kw_E0 KM mX8_digest (p_X8_digest_0 T σ) 84 [(2, .int x113), (1, .int x20), (0, .ref 0)] [.int z128, .ref 0] S114
                      refine kw_callV (pc := 84) (i := 48) (Y := mX8_mix) (a := 0) (As := [.int z128]) (st := []) kw_hE rfl rfl lvX8_309 arX8_mix (c_X8_mix_0 l T hT0 hT1 S114 I115 z128 ) (by decide) (Nat.le_of_ble_eq_true rfl) rfl (fun v S131 p130 => ?_)
                      obtain ⟨⟨I133, F134⟩, rfl, ef132⟩ := p130
                      have F135 : kw_FM [2036] σ S131 := kw_FM.tr F116 F134 (by decide)
                      have w_136 : (S131.1 0 27).toInt = (S114.1 0 27).toInt := congrArg Int32.toInt (kw_FM.at0 (j := 27) F134 (by decide))
                      replace hF := kf_le ef132 hF
                      show kw_AW l 5 kw_E0 KM mX8_digest (p_X8_digest_0 T σ) 87 [(2, .int x113), (1, .int x20), (0, .ref 0)] [] S131
                      refine kw_iinc' (pc := 87) (i := 49) (k := 0) (fun z => [(2, .int z), (1, .int x20), (0, .ref 0)]) rfl rfl (by decide) rfl (fun _ => rfl) (fun z137 e_z137 t_z137 => ?_)
                      replace hF := kf_le e_z137 hF
                      first | (have u_z137 : z137.toInt = x113.toInt + 1 := (by omega); clear t_z137) | skip
                      refine kw_goto (pc := 90) (i := 50) (tgt := 67) rfl rfl ?_
                      refine kw_sub (lv' := [(2, .int z137), (1, .int x20), (0, .ref 0)]) [0, 1, 2] rfl ?_
                      exact ih118 z137 S131 I133 F135 (by omega) hF (by omega)
                exact L117 _ 0 S107 I109 F111 (by omega) hF (Nat.lt_succ_self _)
              · replace hF := kf_p c104 hF
                refine kw_iconst (pc := 52) (i := 28) (v := (-1)) rfl rfl ?_
                refine kw_goto (pc := 53) (i := 29) (tgt := 62) rfl rfl ?_
                refine kw_callV (pc := 62) (i := 34) (Y := mX8_mix) (a := 0) (As := [.int (-1)]) (st := []) kw_hE rfl rfl lvX8_309 arX8_mix (c_X8_mix_0 l T hT0 hT1 S21 I22 (-1) ) (by decide) (Nat.le_of_ble_eq_true rfl) rfl (fun v S139 p138 => ?_)
                obtain ⟨⟨I141, F142⟩, rfl, ef140⟩ := p138
                have F143 : kw_FM [2036] σ S139 := kw_FM.tr F23 F142 (by decide)
                have w_144 : (S139.1 0 27).toInt = (S21.1 0 27).toInt := congrArg Int32.toInt (kw_FM.at0 (j := 27) F142 (by decide))
                replace hF := kf_le ef140 hF
                show kw_AW l 5 kw_E0 KM mX8_digest (p_X8_digest_0 T σ) 65 [(1, .int x20), (0, .ref 0)] [] S139
                refine kw_iconst (pc := 65) (i := 35) (v := 0) rfl rfl ?_
                refine kw_istore_n (pc := 66) (i := 36) (n := 2) (lv' := [(2, .int 0), (1, .int x20), (0, .ref 0)]) rfl rfl (by decide) rfl ?_
                have L149 : ∀ (n153 : Nat) (x145 : Int32) (S146 : kw_S), kw_I (bM T) S146 → kw_FM [2036] σ S146 → 0 ≤ x145.toInt → l_X8_digest_0_67 (l_X8_digest_0_36 n28) x20 n153 x145 S146 = (f_X8_digest_0 σ) → (41 - x145.toInt).toNat < n153 → kw_AW l 5 kw_E0 KM mX8_digest (p_X8_digest_0 T σ) 67 [(2, .int x145), (1, .int x20), (0, .ref 0)] [] S146 := by
                  intro n153
                  induction n153 with
                  | zero => intro x145 S146 I147 F148 v151 hF m152; exact absurd m152 (Nat.not_lt_zero _)
                  | succ n153 ih150 =>
                    intro x145 S146 I147 F148 v151 hF m152
                    replace hF := kf_st (l_X8_digest_0_67_s _ _ _ _ _) hF
                    have r_x145 := kw_rng x145
                    refine kw_iload_n (pc := 67) (i := 37) (k := 0) (n := 2) rfl rfl rfl ?_
                    refine kw_aload_n (pc := 68) (i := 38) (k := 2) (n := 0) rfl rfl rfl ?_
                    refine kw_get (pc := 69) (i := 39) (v := .ref 2) rfl rfl rfl lkX8_17 (fun _ => rfl) ?_
                    refine kw_iload_n (pc := 72) (i := 40) (k := 1) (n := 1) rfl rfl rfl ?_
                    refine kw_iald (pc := 73) (i := 41) (n := 6) rfl rfl (by omega) (by omega) (fun z154 e_z154 => ?_)
                    replace hF := kf_le e_z154 hF
                    have t_z154 := congrArg Int32.toInt e_z154
                    have b_z154 : -9 ≤ z154.toInt ∧ z154.toInt ≤ 40 := by rw [e_z154]; exact I147 2 _
                    refine kw_icmp_ge (pc := 74) (i := 42) (tgt := 93) rfl rfl (fun c155 => ?_) (fun c155 => ?_)
                    · replace hF := kf_nl c155 hF
                      refine kw_iinc' (pc := 93) (i := 51) (k := 1) (fun z => [(1, .int z), (2, .int x145), (0, .ref 0)]) rfl rfl (by decide) rfl (fun _ => rfl) (fun z156 e_z156 t_z156 => ?_)
                      replace hF := kf_le e_z156 hF
                      first | (have u_z156 : z156.toInt = x20.toInt + 1 := (by omega); clear t_z156) | skip
                      refine kw_goto (pc := 96) (i := 52) (tgt := 36) rfl rfl ?_
                      refine kw_sub (lv' := [(1, .int z156), (0, .ref 0)]) [0, 2] rfl ?_
                      exact ih25 z156 S146 I147 F148 (by omega) hF (by omega)
                    · replace hF := kf_p c155 hF
                      refine kw_aload_n (pc := 77) (i := 43) (k := 2) (n := 0) rfl rfl rfl ?_
                      refine kw_aload_n (pc := 78) (i := 44) (k := 2) (n := 0) rfl rfl rfl ?_
                      refine kw_iload_n (pc := 79) (i := 45) (k := 1) (n := 1) rfl rfl rfl ?_
                      refine kw_iload_n (pc := 80) (i := 46) (k := 0) (n := 2) rfl rfl rfl ?_
                      refine kw_callV (pc := 81) (i := 47) (Y := mX8_rowAt) (a := 0) (As := [.int x20, .int x145]) (st := [.ref 0]) kw_hE rfl rfl lvX8_115 arX8_rowAt (c_X8_rowAt_0 l T hT0 hT1 S146 I147 x20 x145 (by first | omega | decide) (by first | omega | decide) (by first | omega | decide) (by first | omega | decide)) (by decide) (Nat.le_of_ble_eq_true rfl) rfl (fun v S158 p157 => ?_)
                      obtain ⟨e161, z160, rfl, ef159⟩ := p157
                      rw [e161]
                      replace hF := kf_le ef159 hF
                      have r_z160 := kw_rng z160
                      show kw_AW l 5 kw_E0 KM mX8_digest (p_X8_digest_0 T σ) 84 [(2, .int x145), (1, .int x20), (0, .ref 0)] [.int z160, .ref 0] S146
                      refine kw_callV (pc := 84) (i := 48) (Y := mX8_mix) (a := 0) (As := [.int z160]) (st := []) kw_hE rfl rfl lvX8_309 arX8_mix (c_X8_mix_0 l T hT0 hT1 S146 I147 z160 ) (by decide) (Nat.le_of_ble_eq_true rfl) rfl (fun v S163 p162 => ?_)
                      obtain ⟨⟨I165, F166⟩, rfl, ef164⟩ := p162
                      have F167 : kw_FM [2036] σ S163 := kw_FM.tr F148 F166 (by decide)
                      have w_168 : (S163.1 0 27).toInt = (S146.1 0 27).toInt := congrArg Int32.toInt (kw_FM.at0 (j := 27) F166 (by decide))
                      replace hF := kf_le ef164 hF
                      show kw_AW l 5 kw_E0 KM mX8_digest (p_X8_digest_0 T σ) 87 [(2, .int x145), (1, .int x20), (0, .ref 0)] [] S163
                      refine kw_iinc' (pc := 87) (i := 49) (k := 0) (fun z => [(2, .int z), (1, .int x20), (0, .ref 0)]) rfl rfl (by decide) rfl (fun _ => rfl) (fun z169 e_z169 t_z169 => ?_)
                      replace hF := kf_le e_z169 hF
                      first | (have u_z169 : z169.toInt = x145.toInt + 1 := (by omega); clear t_z169) | skip
                      refine kw_goto (pc := 90) (i := 50) (tgt := 67) rfl rfl ?_
                      refine kw_sub (lv' := [(2, .int z169), (1, .int x20), (0, .ref 0)]) [0, 1, 2] rfl ?_
                      exact ih150 z169 S163 I165 F167 (by omega) hF (by omega)
                exact L149 _ 0 S139 I141 F143 (by omega) hF (Nat.lt_succ_self _)
        exact L24 _ 0 S14 I16 F18 (by omega) hF (Nat.lt_succ_self _)
      · replace hF := kf_nl c12 hF
        refine kw_aload_n (pc := 15) (i := 8) (k := 1) (n := 0) rfl rfl rfl ?_
        refine kw_aload_n (pc := 16) (i := 9) (k := 1) (n := 0) rfl rfl rfl ?_
        refine kw_iload_n (pc := 17) (i := 10) (k := 0) (n := 1) rfl rfl rfl ?_
        refine kw_callV (pc := 18) (i := 11) (Y := mX8_tells) (a := 0) (As := [.int x3]) (st := [.ref 0]) kw_hE rfl rfl lvX8_301 arX8_tells (c_X8_tells_0 l T hT0 hT1 S4 I5 x3 ) (by decide) (Nat.le_of_ble_eq_true rfl) rfl (fun v S171 p170 => ?_)
        obtain ⟨e174, z173, rfl, ef172⟩ := p170
        rw [e174]
        replace hF := kf_le ef172 hF
        have r_z173 := kw_rng z173
        show kw_AW l 5 kw_E0 KM mX8_digest (p_X8_digest_0 T σ) 21 [(1, .int x3), (0, .ref 0)] [.int z173, .ref 0] S4
        refine kw_callV (pc := 21) (i := 12) (Y := mX8_mix) (a := 0) (As := [.int z173]) (st := []) kw_hE rfl rfl lvX8_309 arX8_mix (c_X8_mix_0 l T hT0 hT1 S4 I5 z173 ) (by decide) (Nat.le_of_ble_eq_true rfl) rfl (fun v S176 p175 => ?_)
        obtain ⟨⟨I178, F179⟩, rfl, ef177⟩ := p175
        have F180 : kw_FM [2036] σ S176 := kw_FM.tr F6 F179 (by decide)
        have w_181 : (S176.1 0 27).toInt = (S4.1 0 27).toInt := congrArg Int32.toInt (kw_FM.at0 (j := 27) F179 (by decide))
        replace hF := kf_le ef177 hF
        show kw_AW l 5 kw_E0 KM mX8_digest (p_X8_digest_0 T σ) 24 [(1, .int x3), (0, .ref 0)] [] S176
        refine kw_iinc' (pc := 24) (i := 13) (k := 0) (fun z => [(1, .int z), (0, .ref 0)]) rfl rfl (by decide) rfl (fun _ => rfl) (fun z182 e_z182 t_z182 => ?_)
        replace hF := kf_le e_z182 hF
        first | (have u_z182 : z182.toInt = x3.toInt + 1 := (by omega); clear t_z182) | skip
        refine kw_goto (pc := 27) (i := 14) (tgt := 9) rfl rfl ?_
        refine kw_sub (lv' := [(1, .int z182), (0, .ref 0)]) [0, 1] rfl ?_
        exact ih8 z182 S176 I178 F180 (by omega) hF (by omega)
  exact L7 _ 0 (kw_ul σ 0 36 17) I1 F2 (by omega) hF (Nat.lt_succ_self _)
