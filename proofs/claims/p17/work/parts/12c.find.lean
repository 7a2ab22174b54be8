noncomputable def l_X6_find_7_4_37 (a2 : Int32) (a3 : Int32) : Nat → Int32 → kw_S → Int32 × kw_S
  | 0, _, S => (0, S)
  | n + 1, x4, S => if x4.toInt < 0 then (kf_l (f_X6_sailFrom_7 3 S (0 : Int32) (S.1 4 6) (S.1 4 7)) fun S3 => ((S3.1 7 5), S3)) else (kf_l (f_X5_windAhead_4 S x4) fun z4 => if x4.toInt = 0 then (kf_l (f_X0_draw_52_17 S z4) fun S5 => kf_l (x4 + (1 : Int32)) fun z6 => kf_l (S5.1 26 z6.toNatClampNeg) fun z7 => kf_l (f_X1_allLines_17 S5) fun z8 => kf_l (f_X1_mostMilesOf_17 S5 z8 z4) fun z9 => kf_l (z7 + z9) fun z10 => kf_l (x4 + Int32.ofInt (-1)) fun z11 => l_X6_find_7_4_37 a2 a3 n z11 (kw_ui S5 26 x4.toNatClampNeg z10)) else if x4.toInt = 1 then (kf_l (f_X0_draw_53_17 S z4) fun S12 => kf_l (x4 + (1 : Int32)) fun z13 => kf_l (S12.1 26 z13.toNatClampNeg) fun z14 => kf_l (f_X1_allLines_17 S12) fun z15 => kf_l (f_X1_mostMilesOf_17 S12 z15 z4) fun z16 => kf_l (z14 + z16) fun z17 => kf_l (x4 + Int32.ofInt (-1)) fun z18 => l_X6_find_7_4_37 a2 a3 n z18 (kw_ui S12 26 x4.toNatClampNeg z17)) else if x4.toInt = 2 then (kf_l (f_X0_draw_54_17 S z4) fun S19 => kf_l (x4 + (1 : Int32)) fun z20 => kf_l (S19.1 26 z20.toNatClampNeg) fun z21 => kf_l (f_X1_allLines_17 S19) fun z22 => kf_l (f_X1_mostMilesOf_17 S19 z22 z4) fun z23 => kf_l (z21 + z23) fun z24 => kf_l (x4 + Int32.ofInt (-1)) fun z25 => l_X6_find_7_4_37 a2 a3 n z25 (kw_ui S19 26 x4.toNatClampNeg z24)) else (0, S))
theorem l_X6_find_7_4_37_s (a2 : Int32) (a3 : Int32) (n : Nat) (x4 : Int32) (S : kw_S) : l_X6_find_7_4_37 a2 a3 (n + 1) x4 S = if x4.toInt < 0 then (kf_l (f_X6_sailFrom_7 3 S (0 : Int32) (S.1 4 6) (S.1 4 7)) fun S3 => ((S3.1 7 5), S3)) else (kf_l (f_X5_windAhead_4 S x4) fun z4 => if x4.toInt = 0 then (kf_l (f_X0_draw_52_17 S z4) fun S5 => kf_l (x4 + (1 : Int32)) fun z6 => kf_l (S5.1 26 z6.toNatClampNeg) fun z7 => kf_l (f_X1_allLines_17 S5) fun z8 => kf_l (f_X1_mostMilesOf_17 S5 z8 z4) fun z9 => kf_l (z7 + z9) fun z10 => kf_l (x4 + Int32.ofInt (-1)) fun z11 => l_X6_find_7_4_37 a2 a3 n z11 (kw_ui S5 26 x4.toNatClampNeg z10)) else if x4.toInt = 1 then (kf_l (f_X0_draw_53_17 S z4) fun S12 => kf_l (x4 + (1 : Int32)) fun z13 => kf_l (S12.1 26 z13.toNatClampNeg) fun z14 => kf_l (f_X1_allLines_17 S12) fun z15 => kf_l (f_X1_mostMilesOf_17 S12 z15 z4) fun z16 => kf_l (z14 + z16) fun z17 => kf_l (x4 + Int32.ofInt (-1)) fun z18 => l_X6_find_7_4_37 a2 a3 n z18 (kw_ui S12 26 x4.toNatClampNeg z17)) else if x4.toInt = 2 then (kf_l (f_X0_draw_54_17 S z4) fun S19 => kf_l (x4 + (1 : Int32)) fun z20 => kf_l (S19.1 26 z20.toNatClampNeg) fun z21 => kf_l (f_X1_allLines_17 S19) fun z22 => kf_l (f_X1_mostMilesOf_17 S19 z22 z4) fun z23 => kf_l (z21 + z23) fun z24 => kf_l (x4 + Int32.ofInt (-1)) fun z25 => l_X6_find_7_4_37 a2 a3 n z25 (kw_ui S19 26 x4.toNatClampNeg z24)) else (0, S)) := rfl
noncomputable def f_X6_find_7_4 (σ : kw_S) (n : Int32) (t : Int32) : Int32 × kw_S := kf_l (if (3 : Int32) < n then (3 : Int32) else n) fun z1 => kf_l (z1 - (1 : Int32)) fun z2 => l_X6_find_7_4_37 n t ((z2.toInt + 2).toNat + 1) z2 (kw_ui (kw_ui (kw_ui (kw_ui σ 7 6 z1) 7 7 t) 7 5 0) 26 z1.toNatClampNeg 0)
theorem f_X6_find_7_4_u (σ : kw_S) (n : Int32) (t : Int32) : f_X6_find_7_4 σ n t = kf_l (if (3 : Int32) < n then (3 : Int32) else n) fun z1 => kf_l (z1 - (1 : Int32)) fun z2 => l_X6_find_7_4_37 n t ((z2.toInt + 2).toNat + 1) z2 (kw_ui (kw_ui (kw_ui (kw_ui σ 7 6 z1) 7 7 t) 7 5 0) 26 z1.toNatClampNeg 0) := rfl
abbrev p_X6_find_7_4 (σ : kw_S) (n : Int32) (t : Int32) : Option Value → kw_S → Prop := fun vv σ' => (kw_I bX σ' ∧ kw_F [7, 24, 26, 27, 52, 53, 54, 55, 56, 57, 58, 59, 60] σ σ') ∧ ∃ r : Int32, vv = some (.int r) ∧ (r.toInt = 0 ∨ r.toInt = 1) ∧ (r, σ') = f_X6_find_7_4 σ n t
set_option maxRecDepth 100000 in
set_option maxHeartbeats 4000000 in
theorem c_X6_find_7_4 (l : Launch) (σ : kw_S) (hI : kw_I bX σ) (n : Int32) (t : Int32) (hp0 : 0 ≤ n.toInt) : kw_Met l 7 KX mX6_find [.ref 7, .ref 4, .int n, .int t] σ (p_X6_find_7_4 σ n t) := by
  have r_n := kw_rng n
  have r_t := kw_rng t
  have hF0 : kw_F [7, 24, 26, 27, 52, 53, 54, 55, 56, 57, 58, 59, 60] σ σ := kw_F.rf
  have hF := (f_X6_find_7_4_u σ n t).symm
  have q_0 : (0 : Int32).toInt = 0 := rfl
  have q_1 : (1 : Int32).toInt = 1 := rfl
  have q_3 : (3 : Int32).toInt = 3 := rfl
  refine kw_Met.of (by decide) rfl tX6_find (Nat.le_of_ble_eq_true rfl) ?_
  show kw_AW l 7 kw_E0 KX mX6_find (p_X6_find_7_4 σ n t) 0 [(0, .ref 7), (1, .ref 4), (2, .int n), (3, .int t)] [] σ
  refine kw_aload_n (pc := 0) (i := 0) (k := 0) (n := 0) rfl rfl rfl ?_
  refine kw_iload_n (pc := 1) (i := 1) (k := 2) (n := 2) rfl rfl rfl ?_
  refine kw_iconst (pc := 2) (i := 2) (v := 3) rfl rfl ?_
  refine kw_mmin (pc := 3) (i := 3) rfl jX6_28 (by omega) (Nat.le_of_ble_eq_true rfl) (fun z1 e_z1 t_z1 => ?_)
  replace hF := kf_le e_z1 hF
  refine kw_puti (pc := 6) (i := 4) (z := 0) rfl rfl rfl lpX6_34 rfl rfl ?_
  have I2 : kw_I bX (kw_ui σ 7 6 z1) := kw_I_ui hI (show 0 ≤ z1.toInt by omega) (show z1.toInt ≤ 3 by omega)
  have F3 : kw_F [7, 24, 26, 27, 52, 53, 54, 55, 56, 57, 58, 59, 60] σ (kw_ui σ 7 6 z1) := kw_F_ui hF0 (by decide)
  refine kw_aload_n (pc := 9) (i := 5) (k := 0) (n := 0) rfl rfl rfl ?_
  refine kw_iload_n (pc := 10) (i := 6) (k := 3) (n := 3) rfl rfl rfl ?_
  refine kw_puti (pc := 11) (i := 7) (z := 0) rfl rfl rfl lpX6_38 rfl rfl ?_
  have I4 : kw_I bX (kw_ui (kw_ui σ 7 6 z1) 7 7 t) := kw_I_ui I2 (kw_rng t).1 (Int.le_of_lt_add_one (kw_rng t).2)
  have F5 : kw_F [7, 24, 26, 27, 52, 53, 54, 55, 56, 57, 58, 59, 60] σ (kw_ui (kw_ui σ 7 6 z1) 7 7 t) := kw_F_ui F3 (by decide)
  refine kw_aload_n (pc := 14) (i := 8) (k := 0) (n := 0) rfl rfl rfl ?_
  refine kw_iconst (pc := 15) (i := 9) (v := 0) rfl rfl ?_
  refine kw_puti (pc := 16) (i := 10) (z := 0) rfl rfl rfl lpX6_41 rfl rfl ?_
  have I6 : kw_I bX (kw_ui (kw_ui (kw_ui σ 7 6 z1) 7 7 t) 7 5 0) := kw_I_ui I4 (show 0 ≤ (0 : Int32).toInt by omega) (show (0 : Int32).toInt ≤ 1 by omega)
  have F7 : kw_F [7, 24, 26, 27, 52, 53, 54, 55, 56, 57, 58, 59, 60] σ (kw_ui (kw_ui (kw_ui σ 7 6 z1) 7 7 t) 7 5 0) := kw_F_ui F5 (by decide)
  refine kw_aload_n (pc := 19) (i := 11) (k := 0) (n := 0) rfl rfl rfl ?_
  refine kw_get (pc := 20) (i := 12) (v := .ref 26) rfl rfl rfl lkX6_21 (fun _ => rfl) ?_
  refine kw_aload_n (pc := 23) (i := 13) (k := 0) (n := 0) rfl rfl rfl ?_
  refine kw_get (pc := 24) (i := 14) (v := .int z1) rfl rfl rfl lkX6_34 (fun _ => rfl) ?_
  refine kw_iconst (pc := 27) (i := 15) (v := 0) rfl rfl ?_
  refine kw_iast (pc := 28) (i := 16) (n := 4) rfl rfl (by omega) (by omega) ?_
  have I8 : kw_I bX (kw_ui (kw_ui (kw_ui (kw_ui σ 7 6 z1) 7 7 t) 7 5 0) 26 z1.toNatClampNeg 0) := kw_I_ui I6 (kw_rng (0 : Int32)).1 (Int.le_of_lt_add_one (kw_rng (0 : Int32)).2)
  have F9 : kw_F [7, 24, 26, 27, 52, 53, 54, 55, 56, 57, 58, 59, 60] σ (kw_ui (kw_ui (kw_ui (kw_ui σ 7 6 z1) 7 7 t) 7 5 0) 26 z1.toNatClampNeg 0) := kw_F_ui F7 (by decide)
  refine kw_aload_n (pc := 29) (i := 17) (k := 0) (n := 0) rfl rfl rfl ?_
  refine kw_get (pc := 30) (i := 18) (v := .int z1) rfl rfl rfl lkX6_34 (fun _ => rfl) ?_
  refine kw_iconst (pc := 33) (i := 19) (v := 1) rfl rfl ?_
  refine kw_isub (pc := 34) (i := 20) rfl (fun z10 e_z10 t_z10 => ?_)
  replace hF := kf_le e_z10 hF
  refine kw_istore (pc := 35) (i := 21) (n := 4) (lv' := [(4, .int z10), (0, .ref 7), (1, .ref 4), (2, .int n), (3, .int t)]) rfl (by decide) rfl ?_
  have L15 : ∀ (n20 : Nat) (x11 : Int32) (S12 : kw_S), kw_I bX S12 → kw_F [7, 24, 26, 27, 52, 53, 54, 55, 56, 57, 58, 59, 60] σ S12 → -1 ≤ x11.toInt → x11.toInt ≤ 2 → l_X6_find_7_4_37 n t n20 x11 S12 = (f_X6_find_7_4 σ n t) → (x11.toInt + 2).toNat < n20 → kw_AW l 7 kw_E0 KX mX6_find (p_X6_find_7_4 σ n t) 37 [(4, .int x11), (0, .ref 7), (1, .ref 4), (2, .int n), (3, .int t)] [] S12 := by
    intro n20
    induction n20 with
    | zero => intro x11 S12 I13 F14 v17 v18 hF m19; exact absurd m19 (Nat.not_lt_zero _)
    | succ n20 ih16 =>
      intro x11 S12 I13 F14 v17 v18 hF m19
      replace hF := kf_st (l_X6_find_7_4_37_s _ _ _ _ _) hF
      have r_x11 := kw_rng x11
      refine kw_iload (pc := 37) (i := 22) (k := 0) (n := 4) rfl rfl ?_
      refine kw_if_lt (pc := 39) (i := 23) (tgt := 105) rfl rfl (fun c21 => ?_) (fun c21 => ?_)
      · replace hF := kf_p c21 hF
        refine kw_aload_n (pc := 105) (i := 56) (k := 1) (n := 0) rfl rfl rfl ?_
        refine kw_iconst (pc := 106) (i := 57) (v := 0) rfl rfl ?_
        refine kw_aload_n (pc := 107) (i := 58) (k := 2) (n := 1) rfl rfl rfl ?_
        refine kw_get (pc := 108) (i := 59) (v := .int (S12.1 4 6)) rfl rfl rfl lkX6_68 (fun _ => rfl) ?_
        have b22 := kw_rng (S12.1 4 6)
        refine kw_aload_n (pc := 111) (i := 60) (k := 2) (n := 1) rfl rfl rfl ?_
        refine kw_get (pc := 112) (i := 61) (v := .int (S12.1 4 7)) rfl rfl rfl lkX6_71 (fun _ => rfl) ?_
        have b23 := kw_rng (S12.1 4 7)
        refine kw_callV (pc := 115) (i := 62) (Y := mX6_sailFrom) (a := 7) (As := [.int 0, .int (S12.1 4 6), .int (S12.1 4 7)]) (st := []) kw_hE rfl rfl lvX6_74 arX6_sailFrom (c_X6_sailFrom_7 l 3 S12 I13 0 (S12.1 4 6) (S12.1 4 7) (by first | omega | decide) (by first | omega | decide)) (by decide) (Nat.le_of_ble_eq_true rfl) rfl (fun v S25 p24 => ?_)
        obtain ⟨⟨I27, F28⟩, rfl, ef26⟩ := p24
        have F29 : kw_F [7, 24, 26, 27, 52, 53, 54, 55, 56, 57, 58, 59, 60] σ S25 := kw_F.tr F14 F28 (by decide)
        replace hF := kf_le ef26 hF
        show kw_AW l 7 kw_E0 KX mX6_find (p_X6_find_7_4 σ n t) 118 [(4, .int x11), (0, .ref 7), (1, .ref 4), (2, .int n), (3, .int t)] [] S25
        refine kw_aload_n (pc := 118) (i := 63) (k := 1) (n := 0) rfl rfl rfl ?_
        refine kw_get (pc := 119) (i := 64) (v := .int (S25.1 7 5)) rfl rfl rfl lkX6_41 (fun _ => rfl) ?_
        have b30 : 0 ≤ (S25.1 7 5).toInt ∧ (S25.1 7 5).toInt ≤ 1 := I27 7 5
        exact kw_ireturn (pc := 122) (i := 65) (ty := .boolean) rfl rfl (kw_nb (by omega)) ⟨⟨I27, F29⟩, _, rfl, by omega, hF⟩
      · replace hF := kf_nl c21 hF
        refine kw_aload_n (pc := 42) (i := 24) (k := 2) (n := 1) rfl rfl rfl ?_
        refine kw_iload (pc := 43) (i := 25) (k := 0) (n := 4) rfl rfl ?_
        refine kw_callV (pc := 45) (i := 26) (Y := mX5_windAhead) (a := 4) (As := [.int x11]) (st := []) kw_hE rfl rfl lvX6_45 arX5_windAhead (c_X5_windAhead_4 l S12 I13 x11 ) (by decide) (Nat.le_of_ble_eq_true rfl) rfl (fun v S32 p31 => ?_)
        obtain ⟨e35, z34, rfl, ef33⟩ := p31
        rw [e35]
        replace hF := kf_le ef33 hF
        have r_z34 := kw_rng z34
        show kw_AW l 7 kw_E0 KX mX6_find (p_X6_find_7_4 σ n t) 48 [(4, .int x11), (0, .ref 7), (1, .ref 4), (2, .int n), (3, .int t)] [.int z34] S12
        refine kw_istore (pc := 48) (i := 27) (n := 5) (lv' := [(5, .int z34), (4, .int x11), (0, .ref 7), (1, .ref 4), (2, .int n), (3, .int t)]) rfl (by decide) rfl ?_
        refine kw_aload_n (pc := 50) (i := 28) (k := 2) (n := 0) rfl rfl rfl ?_
        refine kw_get (pc := 51) (i := 29) (v := .ref 25) rfl rfl rfl lkX6_17 (fun _ => rfl) ?_
        refine kw_iload (pc := 54) (i := 30) (k := 1) (n := 4) rfl rfl ?_
        have w36 : x11.toInt = 0 ∨ x11.toInt = 1 ∨ x11.toInt = 2 := by omega
        rcases w36 with w36 | w36 | w36
        · replace hF := kf_p w36 hF
          have e_w36 : x11.toNatClampNeg = 0 := by have := kw_clampI (x := x11) (by omega); omega
          refine kw_aald (pc := 56) (i := 31) (b := 52) rfl rfl (by decide) (by omega) (by rw [e_w36]; rfl) ?_
          refine kw_aload_n (pc := 57) (i := 32) (k := 3) (n := 1) rfl rfl rfl ?_
          refine kw_get (pc := 58) (i := 33) (v := .ref 17) rfl rfl rfl lkX6_51 (fun _ => rfl) ?_
          refine kw_iload (pc := 61) (i := 34) (k := 0) (n := 5) rfl rfl ?_
          refine kw_callV (pc := 63) (i := 35) (Y := mX0_draw) (a := 52) (As := [.ref 17, .int z34]) (st := []) kw_hE rfl rfl lvX6_55 arX0_draw (c_X0_draw_52_17 l S12 I13 z34 ) (by decide) (Nat.le_of_ble_eq_true rfl) rfl (fun v S38 p37 => ?_)
          obtain ⟨⟨I40, F41⟩, rfl, ef39⟩ := p37
          have F42 : kw_F [7, 24, 26, 27, 52, 53, 54, 55, 56, 57, 58, 59, 60] σ S38 := kw_F.tr F14 F41 (by decide)
          replace hF := kf_le ef39 hF
          show kw_AW l 7 kw_E0 KX mX6_find (p_X6_find_7_4 σ n t) 66 [(5, .int z34), (4, .int x11), (0, .ref 7), (1, .ref 4), (2, .int n), (3, .int t)] [] S38
          refine kw_aload_n (pc := 66) (i := 36) (k := 2) (n := 0) rfl rfl rfl ?_
          refine kw_get (pc := 67) (i := 37) (v := .ref 26) rfl rfl rfl lkX6_21 (fun _ => rfl) ?_
          refine kw_iload (pc := 70) (i := 38) (k := 1) (n := 4) rfl rfl ?_
          refine kw_aload_n (pc := 72) (i := 39) (k := 2) (n := 0) rfl rfl rfl ?_
          refine kw_get (pc := 73) (i := 40) (v := .ref 26) rfl rfl rfl lkX6_21 (fun _ => rfl) ?_
          refine kw_iload (pc := 76) (i := 41) (k := 1) (n := 4) rfl rfl ?_
          refine kw_iconst (pc := 78) (i := 42) (v := 1) rfl rfl ?_
          refine kw_iadd (pc := 79) (i := 43) rfl (fun z43 e_z43 t_z43 => ?_)
          replace hF := kf_le e_z43 hF
          refine kw_iald (pc := 80) (i := 44) (n := 4) rfl rfl (by omega) (by omega) (fun z44 e_z44 => ?_)
          replace hF := kf_le e_z44 hF
          have t_z44 := congrArg Int32.toInt e_z44
          have r_z44 := kw_rng z44
          refine kw_aload_n (pc := 81) (i := 45) (k := 3) (n := 1) rfl rfl rfl ?_
          refine kw_get (pc := 82) (i := 46) (v := .ref 17) rfl rfl rfl lkX6_51 (fun _ => rfl) ?_
          refine kw_aload_n (pc := 85) (i := 47) (k := 3) (n := 1) rfl rfl rfl ?_
          refine kw_get (pc := 86) (i := 48) (v := .ref 17) rfl rfl rfl lkX6_51 (fun _ => rfl) ?_
          refine kw_callV (pc := 89) (i := 49) (Y := mX1_allLines) (a := 17) (As := []) (st := [.ref 17, .int z44, .int x11, .ref 26]) kw_hE rfl rfl lvX6_59 arX1_allLines (c_X1_allLines_17 l S38 I40  ) (by decide) (Nat.le_of_ble_eq_true rfl) rfl (fun v S46 p45 => ?_)
          obtain ⟨e49, z48, rfl, ef47⟩ := p45
          rw [e49]
          replace hF := kf_le ef47 hF
          have r_z48 := kw_rng z48
          show kw_AW l 7 kw_E0 KX mX6_find (p_X6_find_7_4 σ n t) 92 [(5, .int z34), (4, .int x11), (0, .ref 7), (1, .ref 4), (2, .int n), (3, .int t)] [.int z48, .ref 17, .int z44, .int x11, .ref 26] S38
          refine kw_iload (pc := 92) (i := 50) (k := 0) (n := 5) rfl rfl ?_
          refine kw_callV (pc := 94) (i := 51) (Y := mX1_mostMilesOf) (a := 17) (As := [.int z48, .int z34]) (st := [.int z44, .int x11, .ref 26]) kw_hE rfl rfl lvX6_65 arX1_mostMilesOf (c_X1_mostMilesOf_17 l S38 I40 z48 z34 ) (by decide) (Nat.le_of_ble_eq_true rfl) rfl (fun v S51 p50 => ?_)
          obtain ⟨e54, z53, rfl, ef52⟩ := p50
          rw [e54]
          replace hF := kf_le ef52 hF
          have r_z53 := kw_rng z53
          show kw_AW l 7 kw_E0 KX mX6_find (p_X6_find_7_4 σ n t) 97 [(5, .int z34), (4, .int x11), (0, .ref 7), (1, .ref 4), (2, .int n), (3, .int t)] [.int z53, .int z44, .int x11, .ref 26] S38
          refine kw_iadd (pc := 97) (i := 52) rfl (fun z55 e_z55 t_z55 => ?_)
          replace hF := kf_le e_z55 hF
          refine kw_iast (pc := 98) (i := 53) (n := 4) rfl rfl (by omega) (by omega) ?_
          have I56 : kw_I bX (kw_ui S38 26 x11.toNatClampNeg z55) := kw_I_ui I40 (kw_rng z55).1 (Int.le_of_lt_add_one (kw_rng z55).2)
          have F57 : kw_F [7, 24, 26, 27, 52, 53, 54, 55, 56, 57, 58, 59, 60] σ (kw_ui S38 26 x11.toNatClampNeg z55) := kw_F_ui F42 (by decide)
          refine kw_iinc' (pc := 99) (i := 54) (k := 1) (fun z => [(4, .int z), (5, .int z34), (0, .ref 7), (1, .ref 4), (2, .int n), (3, .int t)]) rfl rfl (by decide) rfl (fun _ => rfl) (fun z58 e_z58 t_z58 => ?_)
          replace hF := kf_le e_z58 hF
          refine kw_goto (pc := 102) (i := 55) (tgt := 37) rfl rfl ?_
          refine kw_sub (lv' := [(4, .int z58), (0, .ref 7), (1, .ref 4), (2, .int n), (3, .int t)]) [0, 2, 3, 4, 5] rfl ?_
          exact ih16 z58 (kw_ui S38 26 x11.toNatClampNeg z55) I56 F57 (by omega) (by omega) hF (by omega)
        · replace hF := kf_n (fun q => absurd (w36.symm.trans q) (by decide)) hF
          replace hF := kf_p w36 hF
          have e_w36 : x11.toNatClampNeg = 1 := by have := kw_clampI (x := x11) (by omega); omega
          refine kw_aald (pc := 56) (i := 31) (b := 53) rfl rfl (by decide) (by omega) (by rw [e_w36]; rfl) ?_
          refine kw_aload_n (pc := 57) (i := 32) (k := 3) (n := 1) rfl rfl rfl ?_
          refine kw_get (pc := 58) (i := 33) (v := .ref 17) rfl rfl rfl lkX6_51 (fun _ => rfl) ?_
          refine kw_iload (pc := 61) (i := 34) (k := 0) (n := 5) rfl rfl ?_
          refine kw_callV (pc := 63) (i := 35) (Y := mX0_draw) (a := 53) (As := [.ref 17, .int z34]) (st := []) kw_hE rfl rfl lvX6_55 arX0_draw (c_X0_draw_53_17 l S12 I13 z34 ) (by decide) (Nat.le_of_ble_eq_true rfl) rfl (fun v S60 p59 => ?_)
          obtain ⟨⟨I62, F63⟩, rfl, ef61⟩ := p59
          have F64 : kw_F [7, 24, 26, 27, 52, 53, 54, 55, 56, 57, 58, 59, 60] σ S60 := kw_F.tr F14 F63 (by decide)
          replace hF := kf_le ef61 hF
          show kw_AW l 7 kw_E0 KX mX6_find (p_X6_find_7_4 σ n t) 66 [(5, .int z34), (4, .int x11), (0, .ref 7), (1, .ref 4), (2, .int n), (3, .int t)] [] S60
          refine kw_aload_n (pc := 66) (i := 36) (k := 2) (n := 0) rfl rfl rfl ?_
          refine kw_get (pc := 67) (i := 37) (v := .ref 26) rfl rfl rfl lkX6_21 (fun _ => rfl) ?_
          refine kw_iload (pc := 70) (i := 38) (k := 1) (n := 4) rfl rfl ?_
          refine kw_aload_n (pc := 72) (i := 39) (k := 2) (n := 0) rfl rfl rfl ?_
          refine kw_get (pc := 73) (i := 40) (v := .ref 26) rfl rfl rfl lkX6_21 (fun _ => rfl) ?_
          refine kw_iload (pc := 76) (i := 41) (k := 1) (n := 4) rfl rfl ?_
          refine kw_iconst (pc := 78) (i := 42) (v := 1) rfl rfl ?_
          refine kw_iadd (pc := 79) (i := 43) rfl (fun z65 e_z65 t_z65 => ?_)
          replace hF := kf_le e_z65 hF
          refine kw_iald (pc := 80) (i := 44) (n := 4) rfl rfl (by omega) (by omega) (fun z66 e_z66 => ?_)
          replace hF := kf_le e_z66 hF
          have t_z66 := congrArg Int32.toInt e_z66
          have r_z66 := kw_rng z66
          refine kw_aload_n (pc := 81) (i := 45) (k := 3) (n := 1) rfl rfl rfl ?_
          refine kw_get (pc := 82) (i := 46) (v := .ref 17) rfl rfl rfl lkX6_51 (fun _ => rfl) ?_
          refine kw_aload_n (pc := 85) (i := 47) (k := 3) (n := 1) rfl rfl rfl ?_
          refine kw_get (pc := 86) (i := 48) (v := .ref 17) rfl rfl rfl lkX6_51 (fun _ => rfl) ?_
          refine kw_callV (pc := 89) (i := 49) (Y := mX1_allLines) (a := 17) (As := []) (st := [.ref 17, .int z66, .int x11, .ref 26]) kw_hE rfl rfl lvX6_59 arX1_allLines (c_X1_allLines_17 l S60 I62  ) (by decide) (Nat.le_of_ble_eq_true rfl) rfl (fun v S68 p67 => ?_)
          obtain ⟨e71, z70, rfl, ef69⟩ := p67
          rw [e71]
          replace hF := kf_le ef69 hF
          have r_z70 := kw_rng z70
          show kw_AW l 7 kw_E0 KX mX6_find (p_X6_find_7_4 σ n t) 92 [(5, .int z34), (4, .int x11), (0, .ref 7), (1, .ref 4), (2, .int n), (3, .int t)] [.int z70, .ref 17, .int z66, .int x11, .ref 26] S60
          refine kw_iload (pc := 92) (i := 50) (k := 0) (n := 5) rfl rfl ?_
          refine kw_callV (pc := 94) (i := 51) (Y := mX1_mostMilesOf) (a := 17) (As := [.int z70, .int z34]) (st := [.int z66, .int x11, .ref 26]) kw_hE rfl rfl lvX6_65 arX1_mostMilesOf (c_X1_mostMilesOf_17 l S60 I62 z70 z34 ) (by decide) (Nat.le_of_ble_eq_true rfl) rfl (fun v S73 p72 => ?_)
          obtain ⟨e76, z75, rfl, ef74⟩ := p72
          rw [e76]
          replace hF := kf_le ef74 hF
          have r_z75 := kw_rng z75
          show kw_AW l 7 kw_E0 KX mX6_find (p_X6_find_7_4 σ n t) 97 [(5, .int z34), (4, .int x11), (0, .ref 7), (1, .ref 4), (2, .int n), (3, .int t)] [.int z75, .int z66, .int x11, .ref 26] S60
          refine kw_iadd (pc := 97) (i := 52) rfl (fun z77 e_z77 t_z77 => ?_)
          replace hF := kf_le e_z77 hF
          refine kw_iast (pc := 98) (i := 53) (n := 4) rfl rfl (by omega) (by omega) ?_
          have I78 : kw_I bX (kw_ui S60 26 x11.toNatClampNeg z77) := kw_I_ui I62 (kw_rng z77).1 (Int.le_of_lt_add_one (kw_rng z77).2)
          have F79 : kw_F [7, 24, 26, 27, 52, 53, 54, 55, 56, 57, 58, 59, 60] σ (kw_ui S60 26 x11.toNatClampNeg z77) := kw_F_ui F64 (by decide)
          refine kw_iinc' (pc := 99) (i := 54) (k := 1) (fun z => [(4, .int z), (5, .int z34), (0, .ref 7), (1, .ref 4), (2, .int n), (3, .int t)]) rfl rfl (by decide) rfl (fun _ => rfl) (fun z80 e_z80 t_z80 => ?_)
          replace hF := kf_le e_z80 hF
          refine kw_goto (pc := 102) (i := 55) (tgt := 37) rfl rfl ?_
          refine kw_sub (lv' := [(4, .int z80), (0, .ref 7), (1, .ref 4), (2, .int n), (3, .int t)]) [0, 2, 3, 4, 5] rfl ?_
          exact ih16 z80 (kw_ui S60 26 x11.toNatClampNeg z77) I78 F79 (by omega) (by omega) hF (by omega)
        · replace hF := kf_n (fun q => absurd (w36.symm.trans q) (by decide)) hF
          replace hF := kf_n (fun q => absurd (w36.symm.trans q) (by decide)) hF
          replace hF := kf_p w36 hF
          have e_w36 : x11.toNatClampNeg = 2 := by have := kw_clampI (x := x11) (by omega); omega
          refine kw_aald (pc := 56) (i := 31) (b := 54) rfl rfl (by decide) (by omega) (by rw [e_w36]; rfl) ?_
          refine kw_aload_n (pc := 57) (i := 32) (k := 3) (n := 1) rfl rfl rfl ?_
          refine kw_get (pc := 58) (i := 33) (v := .ref 17) rfl rfl rfl lkX6_51 (fun _ => rfl) ?_
          refine kw_iload (pc := 61) (i := 34) (k := 0) (n := 5) rfl rfl ?_
          refine kw_callV (pc := 63) (i := 35) (Y := mX0_draw) (a := 54) (As := [.ref 17, .int z34]) (st := []) kw_hE rfl rfl lvX6_55 arX0_draw (c_X0_draw_54_17 l S12 I13 z34 ) (by decide) (Nat.le_of_ble_eq_true rfl) rfl (fun v S82 p81 => ?_)
          obtain ⟨⟨I84, F85⟩, rfl, ef83⟩ := p81
          have F86 : kw_F [7, 24, 26, 27, 52, 53, 54, 55, 56, 57, 58, 59, 60] σ S82 := kw_F.tr F14 F85 (by decide)
          replace hF := kf_le ef83 hF
          show kw_AW l 7 kw_E0 KX mX6_find (p_X6_find_7_4 σ n t) 66 [(5, .int z34), (4, .int x11), (0, .ref 7), (1, .ref 4), (2, .int n), (3, .int t)] [] S82
          refine kw_aload_n (pc := 66) (i := 36) (k := 2) (n := 0) rfl rfl rfl ?_
          refine kw_get (pc := 67) (i := 37) (v := .ref 26) rfl rfl rfl lkX6_21 (fun _ => rfl) ?_
          refine kw_iload (pc := 70) (i := 38) (k := 1) (n := 4) rfl rfl ?_
          refine kw_aload_n (pc := 72) (i := 39) (k := 2) (n := 0) rfl rfl rfl ?_
          refine kw_get (pc := 73) (i := 40) (v := .ref 26) rfl rfl rfl lkX6_21 (fun _ => rfl) ?_
          refine kw_iload (pc := 76) (i := 41) (k := 1) (n := 4) rfl rfl ?_
          refine kw_iconst (pc := 78) (i := 42) (v := 1) rfl rfl ?_
          refine kw_iadd (pc := 79) (i := 43) rfl (fun z87 e_z87 t_z87 => ?_)
          replace hF := kf_le e_z87 hF
          refine kw_iald (pc := 80) (i := 44) (n := 4) rfl rfl (by omega) (by omega) (fun z88 e_z88 => ?_)
          replace hF := kf_le e_z88 hF
          have t_z88 := congrArg Int32.toInt e_z88
          have r_z88 := kw_rng z88
          refine kw_aload_n (pc := 81) (i := 45) (k := 3) (n := 1) rfl rfl rfl ?_
          refine kw_get (pc := 82) (i := 46) (v := .ref 17) rfl rfl rfl lkX6_51 (fun _ => rfl) ?_
          refine kw_aload_n (pc := 85) (i := 47) (k := 3) (n := 1) rfl rfl rfl ?_
          refine kw_get (pc := 86) (i := 48) (v := .ref 17) rfl rfl rfl lkX6_51 (fun _ => rfl) ?_
          refine kw_callV (pc := 89) (i := 49) (Y := mX1_allLines) (a := 17) (As := []) (st := [.ref 17, .int z88, .int x11, .ref 26]) kw_hE rfl rfl lvX6_59 arX1_allLines (c_X1_allLines_17 l S82 I84  ) (by decide) (Nat.le_of_ble_eq_true rfl) rfl (fun v S90 p89 => ?_)
          obtain ⟨e93, z92, rfl, ef91⟩ := p89
          rw [e93]
          replace hF := kf_le ef91 hF
          have r_z92 := kw_rng z92
          show kw_AW l 7 kw_E0 KX mX6_find (p_X6_find_7_4 σ n t) 92 [(5, .int z34), (4, .int x11), (0, .ref 7), (1, .ref 4), (2, .int n), (3, .int t)] [.int z92, .ref 17, .int z88, .int x11, .ref 26] S82
          refine kw_iload (pc := 92) (i := 50) (k := 0) (n := 5) rfl rfl ?_
          refine kw_callV (pc := 94) (i := 51) (Y := mX1_mostMilesOf) (a := 17) (As := [.int z92, .int z34]) (st := [.int z88, .int x11, .ref 26]) kw_hE rfl rfl lvX6_65 arX1_mostMilesOf (c_X1_mostMilesOf_17 l S82 I84 z92 z34 ) (by decide) (Nat.le_of_ble_eq_true rfl) rfl (fun v S95 p94 => ?_)
          obtain ⟨e98, z97, rfl, ef96⟩ := p94
          rw [e98]
          replace hF := kf_le ef96 hF
          have r_z97 := kw_rng z97
          show kw_AW l 7 kw_E0 KX mX6_find (p_X6_find_7_4 σ n t) 97 [(5, .int z34), (4, .int x11), (0, .ref 7), (1, .ref 4), (2, .int n), (3, .int t)] [.int z97, .int z88, .int x11, .ref 26] S82
          refine kw_iadd (pc := 97) (i := 52) rfl (fun z99 e_z99 t_z99 => ?_)
          replace hF := kf_le e_z99 hF
          refine kw_iast (pc := 98) (i := 53) (n := 4) rfl rfl (by omega) (by omega) ?_
          have I100 : kw_I bX (kw_ui S82 26 x11.toNatClampNeg z99) := kw_I_ui I84 (kw_rng z99).1 (Int.le_of_lt_add_one (kw_rng z99).2)
          have F101 : kw_F [7, 24, 26, 27, 52, 53, 54, 55, 56, 57, 58, 59, 60] σ (kw_ui S82 26 x11.toNatClampNeg z99) := kw_F_ui F86 (by decide)
          refine kw_iinc' (pc := 99) (i := 54) (k := 1) (fun z => [(4, .int z), (5, .int z34), (0, .ref 7), (1, .ref 4), (2, .int n), (3, .int t)]) rfl rfl (by decide) rfl (fun _ => rfl) (fun z102 e_z102 t_z102 => ?_)
          replace hF := kf_le e_z102 hF
          refine kw_goto (pc := 102) (i := 55) (tgt := 37) rfl rfl ?_
          refine kw_sub (lv' := [(4, .int z102), (0, .ref 7), (1, .ref 4), (2, .int n), (3, .int t)]) [0, 2, 3, 4, 5] rfl ?_
          exact ih16 z102 (kw_ui S82 26 x11.toNatClampNeg z99) I100 F101 (by omega) (by omega) hF (by omega)
  exact L15 _ z10 (kw_ui (kw_ui (kw_ui (kw_ui σ 7 6 z1) 7 7 t) 7 5 0) 26 z1.toNatClampNeg 0) I8 F9 (by omega) (by omega) hF (Nat.lt_succ_self _)
