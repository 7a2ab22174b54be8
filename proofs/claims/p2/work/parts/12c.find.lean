abbrev p_X6_find_7_4 (σ : kw_S) (n : Int32) (t : Int32) : Option Value → kw_S → Prop := fun v σ' => (kw_I bX σ' ∧ kw_F [7, 24, 26, 27, 52, 53, 54, 55, 56, 57, 58, 59, 60] σ σ') ∧ ∃ r : Int32, v = some (.int r) ∧ (r.toInt = 0 ∨ r.toInt = 1)
set_option maxRecDepth 100000 in
set_option maxHeartbeats 4000000 in
theorem c_X6_find_7_4 (l : Launch) (σ : kw_S) (hI : kw_I bX σ) (n : Int32) (t : Int32) (hp0 : 0 ≤ n.toInt) : kw_Met l 7 KX mX6_find [.ref 7, .ref 4, .int n, .int t] σ (p_X6_find_7_4 σ n t) := by
  have r_n := kw_rng n
  have r_t := kw_rng t
  have hF0 : kw_F [7, 24, 26, 27, 52, 53, 54, 55, 56, 57, 58, 59, 60] σ σ := kw_F.rf
  have q_0 : (0 : Int32).toInt = 0 := rfl
  have q_1 : (1 : Int32).toInt = 1 := rfl
  have q_3 : (3 : Int32).toInt = 3 := rfl
  refine kw_Met.of (by decide) rfl tX6_find (Nat.le_of_ble_eq_true rfl) ?_
  show kw_AW l 7 kw_E0 KX mX6_find (p_X6_find_7_4 σ n t) 0 [(0, .ref 7), (1, .ref 4), (2, .int n), (3, .int t)] [] σ
  refine kw_aload_n (pc := 0) (i := 0) (k := 0) (n := 0) rfl rfl rfl ?_
  refine kw_iload_n (pc := 1) (i := 1) (k := 2) (n := 2) rfl rfl rfl ?_
  refine kw_iconst (pc := 2) (i := 2) (v := 3) rfl rfl ?_
  refine kw_mmin (pc := 3) (i := 3) rfl jX6_28 (by omega) (Nat.le_of_ble_eq_true rfl) (fun z1 e_z1 t_z1 => ?_)
  refine kw_puti (pc := 6) (i := 4) (z := 0) rfl rfl rfl lpX6_34 rfl rfl ?_
  have I2 : kw_I bX (kw_ui σ 7 6 z1) := kw_I_ui hI (show 0 ≤ z1.toInt by omega) (show z1.toInt ≤ 3 by omega)
  have F3 : kw_F [7, 24, 26, 27, 52, 53, 54, 55, 56, 57, 58, 59, 60] σ (kw_ui σ 7 6 z1) := kw_F_ui hF0 (by decide)
  refine kw_aload_n (pc := 9) (i := 5) (k := 0) (n := 0) rfl rfl rfl ?_
  refine kw_iload_n (pc := 10) (i := 6) (k := 3) (n := 3) rfl rfl rfl ?_
  refine kw_puti (pc := 11) (i := 7) (z := 0) rfl rfl rfl lpX6_38 rfl rfl ?_
  have I4 : kw_I bX (kw_ui (kw_ui σ 7 6 z1) 7 7 t) := kw_I_ui I2 (kw_rng t).1 (Int.le_of_lt_add_one (kw_rng t).2)
  have F5 : kw_F [7, 24, 26, 27, 52, 53, 54, 55, 56, 57, 58, 59, 60] σ (kw_ui (kw_ui σ 7 6 z1) 7 7 t) := kw_F_ui F3 (by decide)
  refine kw_aload_n (pc := 14) (i := 8) (k := 0) (n := 0) rfl rfl rfl ?_
  refine kw_iconst (pc := 15) (i := 9) (v := 0) rfl rfl ?_
  refine kw_puti (pc := 16) (i := 10) (z := 0) rfl rfl rfl lpX6_41 rfl rfl ?_
  have I6 : kw_I bX (kw_ui (kw_ui (kw_ui σ 7 6 z1) 7 7 t) 7 5 0) := kw_I_ui I4 (show 0 ≤ (0 : Int32).toInt by omega) (show (0 : Int32).toInt ≤ 1 by omega)
  have F7 : kw_F [7, 24, 26, 27, 52, 53, 54, 55, 56, 57, 58, 59, 60] σ (kw_ui (kw_ui (kw_ui σ 7 6 z1) 7 7 t) 7 5 0) := kw_F_ui F5 (by decide)
  refine kw_aload_n (pc := 19) (i := 11) (k := 0) (n := 0) rfl rfl rfl ?_
  refine kw_get (pc := 20) (i := 12) (v := .ref 26) rfl rfl rfl lkX6_21 (fun _ => rfl) ?_
  refine kw_aload_n (pc := 23) (i := 13) (k := 0) (n := 0) rfl rfl rfl ?_
  refine kw_get (pc := 24) (i := 14) (v := .int z1) rfl rfl rfl lkX6_34 (fun _ => rfl) ?_
  refine kw_iconst (pc := 27) (i := 15) (v := 0) rfl rfl ?_
  refine kw_iast (pc := 28) (i := 16) (n := 4) rfl rfl (by omega) (by omega) ?_
  have I8 : kw_I bX (kw_ui (kw_ui (kw_ui (kw_ui σ 7 6 z1) 7 7 t) 7 5 0) 26 z1.toNatClampNeg 0) := kw_I_ui I6 (kw_rng (0 : Int32)).1 (Int.le_of_lt_add_one (kw_rng (0 : Int32)).2)
  have F9 : kw_F [7, 24, 26, 27, 52, 53, 54, 55, 56, 57, 58, 59, 60] σ (kw_ui (kw_ui (kw_ui (kw_ui σ 7 6 z1) 7 7 t) 7 5 0) 26 z1.toNatClampNeg 0) := kw_F_ui F7 (by decide)
  refine kw_aload_n (pc := 29) (i := 17) (k := 0) (n := 0) rfl rfl rfl ?_
  refine kw_get (pc := 30) (i := 18) (v := .int z1) rfl rfl rfl lkX6_34 (fun _ => rfl) ?_
  refine kw_iconst (pc := 33) (i := 19) (v := 1) rfl rfl ?_
  refine kw_isub (pc := 34) (i := 20) rfl (fun z10 e_z10 t_z10 => ?_)
  refine kw_istore (pc := 35) (i := 21) (n := 4) (lv' := [(4, .int z10), (0, .ref 7), (1, .ref 4), (2, .int n), (3, .int t)]) rfl (by decide) rfl ?_
  have L15 : ∀ (n20 : Nat) (x11 : Int32) (S12 : kw_S), kw_I bX S12 → kw_F [7, 24, 26, 27, 52, 53, 54, 55, 56, 57, 58, 59, 60] σ S12 → -1 ≤ x11.toInt → x11.toInt ≤ 2 → (x11.toInt + 2).toNat < n20 → kw_AW l 7 kw_E0 KX mX6_find (p_X6_find_7_4 σ n t) 37 [(4, .int x11), (0, .ref 7), (1, .ref 4), (2, .int n), (3, .int t)] [] S12 := by
    intro n20
    induction n20 with
    | zero => intro x11 S12 I13 F14 v17 v18 m19; exact absurd m19 (Nat.not_lt_zero _)
    | succ n20 ih16 =>
      intro x11 S12 I13 F14 v17 v18 m19
      have r_x11 := kw_rng x11
      refine kw_iload (pc := 37) (i := 22) (k := 0) (n := 4) rfl rfl ?_
      refine kw_if_lt (pc := 39) (i := 23) (tgt := 105) rfl rfl (fun c21 => ?_) (fun c21 => ?_)
      · refine kw_aload_n (pc := 105) (i := 56) (k := 1) (n := 0) rfl rfl rfl ?_
        refine kw_iconst (pc := 106) (i := 57) (v := 0) rfl rfl ?_
        refine kw_aload_n (pc := 107) (i := 58) (k := 2) (n := 1) rfl rfl rfl ?_
        refine kw_get (pc := 108) (i := 59) (v := .int (S12.1 4 6)) rfl rfl rfl lkX6_68 (fun _ => rfl) ?_
        have b22 := kw_rng (S12.1 4 6)
        refine kw_aload_n (pc := 111) (i := 60) (k := 2) (n := 1) rfl rfl rfl ?_
        refine kw_get (pc := 112) (i := 61) (v := .int (S12.1 4 7)) rfl rfl rfl lkX6_71 (fun _ => rfl) ?_
        have b23 := kw_rng (S12.1 4 7)
        refine kw_callV (pc := 115) (i := 62) (Y := mX6_sailFrom) (a := 7) (As := [.int 0, .int (S12.1 4 6), .int (S12.1 4 7)]) (st := []) kw_hE rfl rfl lvX6_74 arX6_sailFrom (c_X6_sailFrom_7 l 3 S12 I13 0 (S12.1 4 6) (S12.1 4 7) (by omega) (by omega)) (by decide) (Nat.le_of_ble_eq_true rfl) rfl (fun v S25 p24 => ?_)
        obtain ⟨⟨I26, F27⟩, rfl⟩ := p24
        have F28 : kw_F [7, 24, 26, 27, 52, 53, 54, 55, 56, 57, 58, 59, 60] σ S25 := kw_F.tr F14 F27 (by decide)
        show kw_AW l 7 kw_E0 KX mX6_find (p_X6_find_7_4 σ n t) 118 [(4, .int x11), (0, .ref 7), (1, .ref 4), (2, .int n), (3, .int t)] [] S25
        refine kw_aload_n (pc := 118) (i := 63) (k := 1) (n := 0) rfl rfl rfl ?_
        refine kw_get (pc := 119) (i := 64) (v := .int (S25.1 7 5)) rfl rfl rfl lkX6_41 (fun _ => rfl) ?_
        have b29 : 0 ≤ (S25.1 7 5).toInt ∧ (S25.1 7 5).toInt ≤ 1 := I26 7 5
        exact kw_ireturn (pc := 122) (i := 65) (ty := .boolean) rfl rfl (kw_nb (by omega)) ⟨⟨I26, F28⟩, _, rfl, by omega⟩
      · refine kw_aload_n (pc := 42) (i := 24) (k := 2) (n := 1) rfl rfl rfl ?_
        refine kw_iload (pc := 43) (i := 25) (k := 0) (n := 4) rfl rfl ?_
        refine kw_callV (pc := 45) (i := 26) (Y := mX5_windAhead) (a := 4) (As := [.int x11]) (st := []) kw_hE rfl rfl lvX6_45 arX5_windAhead (c_X5_windAhead_4 l S12 I13 x11 ) (by decide) (Nat.le_of_ble_eq_true rfl) rfl (fun v S31 p30 => ?_)
        obtain ⟨e33, z32, rfl⟩ := p30
        rw [e33]
        have r_z32 := kw_rng z32
        show kw_AW l 7 kw_E0 KX mX6_find (p_X6_find_7_4 σ n t) 48 [(4, .int x11), (0, .ref 7), (1, .ref 4), (2, .int n), (3, .int t)] [.int z32] S12
        refine kw_istore (pc := 48) (i := 27) (n := 5) (lv' := [(5, .int z32), (4, .int x11), (0, .ref 7), (1, .ref 4), (2, .int n), (3, .int t)]) rfl (by decide) rfl ?_
        refine kw_aload_n (pc := 50) (i := 28) (k := 2) (n := 0) rfl rfl rfl ?_
        refine kw_get (pc := 51) (i := 29) (v := .ref 25) rfl rfl rfl lkX6_17 (fun _ => rfl) ?_
        refine kw_iload (pc := 54) (i := 30) (k := 1) (n := 4) rfl rfl ?_
        have w34 : x11.toInt = 0 ∨ x11.toInt = 1 ∨ x11.toInt = 2 := by omega
        rcases w34 with w34 | w34 | w34
        · have e_w34 : x11.toNatClampNeg = 0 := by have := kw_clampI (x := x11) (by omega); omega
          refine kw_aald (pc := 56) (i := 31) (b := 52) rfl rfl (by decide) (by omega) (by rw [e_w34]; rfl) ?_
          refine kw_aload_n (pc := 57) (i := 32) (k := 3) (n := 1) rfl rfl rfl ?_
          refine kw_get (pc := 58) (i := 33) (v := .ref 17) rfl rfl rfl lkX6_51 (fun _ => rfl) ?_
          refine kw_iload (pc := 61) (i := 34) (k := 0) (n := 5) rfl rfl ?_
          refine kw_callV (pc := 63) (i := 35) (Y := mX0_draw) (a := 52) (As := [.ref 17, .int z32]) (st := []) kw_hE rfl rfl lvX6_55 arX0_draw (c_X0_draw_52_17 l S12 I13 z32 ) (by decide) (Nat.le_of_ble_eq_true rfl) rfl (fun v S36 p35 => ?_)
          obtain ⟨⟨I37, F38⟩, rfl⟩ := p35
          have F39 : kw_F [7, 24, 26, 27, 52, 53, 54, 55, 56, 57, 58, 59, 60] σ S36 := kw_F.tr F14 F38 (by decide)
          show kw_AW l 7 kw_E0 KX mX6_find (p_X6_find_7_4 σ n t) 66 [(5, .int z32), (4, .int x11), (0, .ref 7), (1, .ref 4), (2, .int n), (3, .int t)] [] S36
          refine kw_aload_n (pc := 66) (i := 36) (k := 2) (n := 0) rfl rfl rfl ?_
          refine kw_get (pc := 67) (i := 37) (v := .ref 26) rfl rfl rfl lkX6_21 (fun _ => rfl) ?_
          refine kw_iload (pc := 70) (i := 38) (k := 1) (n := 4) rfl rfl ?_
          refine kw_aload_n (pc := 72) (i := 39) (k := 2) (n := 0) rfl rfl rfl ?_
          refine kw_get (pc := 73) (i := 40) (v := .ref 26) rfl rfl rfl lkX6_21 (fun _ => rfl) ?_
          refine kw_iload (pc := 76) (i := 41) (k := 1) (n := 4) rfl rfl ?_
          refine kw_iconst (pc := 78) (i := 42) (v := 1) rfl rfl ?_
          refine kw_iadd (pc := 79) (i := 43) rfl (fun z40 e_z40 t_z40 => ?_)
          refine kw_iald (pc := 80) (i := 44) (n := 4) rfl rfl (by omega) (by omega) (fun z41 e_z41 => ?_)
          have t_z41 := congrArg Int32.toInt e_z41
          have r_z41 := kw_rng z41
          refine kw_aload_n (pc := 81) (i := 45) (k := 3) (n := 1) rfl rfl rfl ?_
          refine kw_get (pc := 82) (i := 46) (v := .ref 17) rfl rfl rfl lkX6_51 (fun _ => rfl) ?_
          refine kw_aload_n (pc := 85) (i := 47) (k := 3) (n := 1) rfl rfl rfl ?_
          refine kw_get (pc := 86) (i := 48) (v := .ref 17) rfl rfl rfl lkX6_51 (fun _ => rfl) ?_
          refine kw_callV (pc := 89) (i := 49) (Y := mX1_allLines) (a := 17) (As := []) (st := [.ref 17, .int z41, .int x11, .ref 26]) kw_hE rfl rfl lvX6_59 arX1_allLines (c_X1_allLines_17 l S36 I37  ) (by decide) (Nat.le_of_ble_eq_true rfl) rfl (fun v S43 p42 => ?_)
          obtain ⟨e45, z44, rfl⟩ := p42
          rw [e45]
          have r_z44 := kw_rng z44
          show kw_AW l 7 kw_E0 KX mX6_find (p_X6_find_7_4 σ n t) 92 [(5, .int z32), (4, .int x11), (0, .ref 7), (1, .ref 4), (2, .int n), (3, .int t)] [.int z44, .ref 17, .int z41, .int x11, .ref 26] S36
          refine kw_iload (pc := 92) (i := 50) (k := 0) (n := 5) rfl rfl ?_
          refine kw_callV (pc := 94) (i := 51) (Y := mX1_mostMilesOf) (a := 17) (As := [.int z44, .int z32]) (st := [.int z41, .int x11, .ref 26]) kw_hE rfl rfl lvX6_65 arX1_mostMilesOf (c_X1_mostMilesOf_17 l S36 I37 z44 z32 ) (by decide) (Nat.le_of_ble_eq_true rfl) rfl (fun v S47 p46 => ?_)
          obtain ⟨e49, z48, rfl⟩ := p46
          rw [e49]
          have r_z48 := kw_rng z48
          show kw_AW l 7 kw_E0 KX mX6_find (p_X6_find_7_4 σ n t) 97 [(5, .int z32), (4, .int x11), (0, .ref 7), (1, .ref 4), (2, .int n), (3, .int t)] [.int z48, .int z41, .int x11, .ref 26] S36
          refine kw_iadd (pc := 97) (i := 52) rfl (fun z50 e_z50 t_z50 => ?_)
          refine kw_iast (pc := 98) (i := 53) (n := 4) rfl rfl (by omega) (by omega) ?_
          have I51 : kw_I bX (kw_ui S36 26 x11.toNatClampNeg z50) := kw_I_ui I37 (kw_rng z50).1 (Int.le_of_lt_add_one (kw_rng z50).2)
          have F52 : kw_F [7, 24, 26, 27, 52, 53, 54, 55, 56, 57, 58, 59, 60] σ (kw_ui S36 26 x11.toNatClampNeg z50) := kw_F_ui F39 (by decide)
          refine kw_iinc' (pc := 99) (i := 54) (k := 1) (fun z => [(4, .int z), (5, .int z32), (0, .ref 7), (1, .ref 4), (2, .int n), (3, .int t)]) rfl rfl (by decide) rfl (fun _ => rfl) (fun z53 e_z53 t_z53 => ?_)
          refine kw_goto (pc := 102) (i := 55) (tgt := 37) rfl rfl ?_
          refine kw_sub (lv' := [(4, .int z53), (0, .ref 7), (1, .ref 4), (2, .int n), (3, .int t)]) [0, 2, 3, 4, 5] rfl ?_
          exact ih16 z53 (kw_ui S36 26 x11.toNatClampNeg z50) I51 F52 (by omega) (by omega) (by omega)
        · have e_w34 : x11.toNatClampNeg = 1 := by have := kw_clampI (x := x11) (by omega); omega
          refine kw_aald (pc := 56) (i := 31) (b := 53) rfl rfl (by decide) (by omega) (by rw [e_w34]; rfl) ?_
          refine kw_aload_n (pc := 57) (i := 32) (k := 3) (n := 1) rfl rfl rfl ?_
          refine kw_get (pc := 58) (i := 33) (v := .ref 17) rfl rfl rfl lkX6_51 (fun _ => rfl) ?_
          refine kw_iload (pc := 61) (i := 34) (k := 0) (n := 5) rfl rfl ?_
          refine kw_callV (pc := 63) (i := 35) (Y := mX0_draw) (a := 53) (As := [.ref 17, .int z32]) (st := []) kw_hE rfl rfl lvX6_55 arX0_draw (c_X0_draw_53_17 l S12 I13 z32 ) (by decide) (Nat.le_of_ble_eq_true rfl) rfl (fun v S55 p54 => ?_)
          obtain ⟨⟨I56, F57⟩, rfl⟩ := p54
          have F58 : kw_F [7, 24, 26, 27, 52, 53, 54, 55, 56, 57, 58, 59, 60] σ S55 := kw_F.tr F14 F57 (by decide)
          show kw_AW l 7 kw_E0 KX mX6_find (p_X6_find_7_4 σ n t) 66 [(5, .int z32), (4, .int x11), (0, .ref 7), (1, .ref 4), (2, .int n), (3, .int t)] [] S55
          refine kw_aload_n (pc := 66) (i := 36) (k := 2) (n := 0) rfl rfl rfl ?_
          refine kw_get (pc := 67) (i := 37) (v := .ref 26) rfl rfl rfl lkX6_21 (fun _ => rfl) ?_
          refine kw_iload (pc := 70) (i := 38) (k := 1) (n := 4) rfl rfl ?_
          refine kw_aload_n (pc := 72) (i := 39) (k := 2) (n := 0) rfl rfl rfl ?_
          refine kw_get (pc := 73) (i := 40) (v := .ref 26) rfl rfl rfl lkX6_21 (fun _ => rfl) ?_
          refine kw_iload (pc := 76) (i := 41) (k := 1) (n := 4) rfl rfl ?_
          refine kw_iconst (pc := 78) (i := 42) (v := 1) rfl rfl ?_
          refine kw_iadd (pc := 79) (i := 43) rfl (fun z59 e_z59 t_z59 => ?_)
          refine kw_iald (pc := 80) (i := 44) (n := 4) rfl rfl (by omega) (by omega) (fun z60 e_z60 => ?_)
          have t_z60 := congrArg Int32.toInt e_z60
          have r_z60 := kw_rng z60
          refine kw_aload_n (pc := 81) (i := 45) (k := 3) (n := 1) rfl rfl rfl ?_
          refine kw_get (pc := 82) (i := 46) (v := .ref 17) rfl rfl rfl lkX6_51 (fun _ => rfl) ?_
          refine kw_aload_n (pc := 85) (i := 47) (k := 3) (n := 1) rfl rfl rfl ?_
          refine kw_get (pc := 86) (i := 48) (v := .ref 17) rfl rfl rfl lkX6_51 (fun _ => rfl) ?_
          refine kw_callV (pc := 89) (i := 49) (Y := mX1_allLines) (a := 17) (As := []) (st := [.ref 17, .int z60, .int x11, .ref 26]) kw_hE rfl rfl lvX6_59 arX1_allLines (c_X1_allLines_17 l S55 I56  ) (by decide) (Nat.le_of_ble_eq_true rfl) rfl (fun v S62 p61 => ?_)
          obtain ⟨e64, z63, rfl⟩ := p61
          rw [e64]
          have r_z63 := kw_rng z63
          show kw_AW l 7 kw_E0 KX mX6_find (p_X6_find_7_4 σ n t) 92 [(5, .int z32), (4, .int x11), (0, .ref 7), (1, .ref 4), (2, .int n), (3, .int t)] [.int z63, .ref 17, .int z60, .int x11, .ref 26] S55
          refine kw_iload (pc := 92) (i := 50) (k := 0) (n := 5) rfl rfl ?_
          refine kw_callV (pc := 94) (i := 51) (Y := mX1_mostMilesOf) (a := 17) (As := [.int z63, .int z32]) (st := [.int z60, .int x11, .ref 26]) kw_hE rfl rfl lvX6_65 arX1_mostMilesOf (c_X1_mostMilesOf_17 l S55 I56 z63 z32 ) (by decide) (Nat.le_of_ble_eq_true rfl) rfl (fun v S66 p65 => ?_)
          obtain ⟨e68, z67, rfl⟩ := p65
          rw [e68]
          have r_z67 := kw_rng z67
          show kw_AW l 7 kw_E0 KX mX6_find (p_X6_find_7_4 σ n t) 97 [(5, .int z32), (4, .int x11), (0, .ref 7), (1, .ref 4), (2, .int n), (3, .int t)] [.int z67, .int z60, .int x11, .ref 26] S55
          refine kw_iadd (pc := 97) (i := 52) rfl (fun z69 e_z69 t_z69 => ?_)
          refine kw_iast (pc := 98) (i := 53) (n := 4) rfl rfl (by omega) (by omega) ?_
          have I70 : kw_I bX (kw_ui S55 26 x11.toNatClampNeg z69) := kw_I_ui I56 (kw_rng z69).1 (Int.le_of_lt_add_one (kw_rng z69).2)
          have F71 : kw_F [7, 24, 26, 27, 52, 53, 54, 55, 56, 57, 58, 59, 60] σ (kw_ui S55 26 x11.toNatClampNeg z69) := kw_F_ui F58 (by decide)
          refine kw_iinc' (pc := 99) (i := 54) (k := 1) (fun z => [(4, .int z), (5, .int z32), (0, .ref 7), (1, .ref 4), (2, .int n), (3, .int t)]) rfl rfl (by decide) rfl (fun _ => rfl) (fun z72 e_z72 t_z72 => ?_)
          refine kw_goto (pc := 102) (i := 55) (tgt := 37) rfl rfl ?_
          refine kw_sub (lv' := [(4, .int z72), (0, .ref 7), (1, .ref 4), (2, .int n), (3, .int t)]) [0, 2, 3, 4, 5] rfl ?_
          exact ih16 z72 (kw_ui S55 26 x11.toNatClampNeg z69) I70 F71 (by omega) (by omega) (by omega)
        · have e_w34 : x11.toNatClampNeg = 2 := by have := kw_clampI (x := x11) (by omega); omega
          refine kw_aald (pc := 56) (i := 31) (b := 54) rfl rfl (by decide) (by omega) (by rw [e_w34]; rfl) ?_
          refine kw_aload_n (pc := 57) (i := 32) (k := 3) (n := 1) rfl rfl rfl ?_
          refine kw_get (pc := 58) (i := 33) (v := .ref 17) rfl rfl rfl lkX6_51 (fun _ => rfl) ?_
          refine kw_iload (pc := 61) (i := 34) (k := 0) (n := 5) rfl rfl ?_
          refine kw_callV (pc := 63) (i := 35) (Y := mX0_draw) (a := 54) (As := [.ref 17, .int z32]) (st := []) kw_hE rfl rfl lvX6_55 arX0_draw (c_X0_draw_54_17 l S12 I13 z32 ) (by decide) (Nat.le_of_ble_eq_true rfl) rfl (fun v S74 p73 => ?_)
          obtain ⟨⟨I75, F76⟩, rfl⟩ := p73
          have F77 : kw_F [7, 24, 26, 27, 52, 53, 54, 55, 56, 57, 58, 59, 60] σ S74 := kw_F.tr F14 F76 (by decide)
          show kw_AW l 7 kw_E0 KX mX6_find (p_X6_find_7_4 σ n t) 66 [(5, .int z32), (4, .int x11), (0, .ref 7), (1, .ref 4), (2, .int n), (3, .int t)] [] S74
          refine kw_aload_n (pc := 66) (i := 36) (k := 2) (n := 0) rfl rfl rfl ?_
          refine kw_get (pc := 67) (i := 37) (v := .ref 26) rfl rfl rfl lkX6_21 (fun _ => rfl) ?_
          refine kw_iload (pc := 70) (i := 38) (k := 1) (n := 4) rfl rfl ?_
          refine kw_aload_n (pc := 72) (i := 39) (k := 2) (n := 0) rfl rfl rfl ?_
          refine kw_get (pc := 73) (i := 40) (v := .ref 26) rfl rfl rfl lkX6_21 (fun _ => rfl) ?_
          refine kw_iload (pc := 76) (i := 41) (k := 1) (n := 4) rfl rfl ?_
          refine kw_iconst (pc := 78) (i := 42) (v := 1) rfl rfl ?_
          refine kw_iadd (pc := 79) (i := 43) rfl (fun z78 e_z78 t_z78 => ?_)
          refine kw_iald (pc := 80) (i := 44) (n := 4) rfl rfl (by omega) (by omega) (fun z79 e_z79 => ?_)
          have t_z79 := congrArg Int32.toInt e_z79
          have r_z79 := kw_rng z79
          refine kw_aload_n (pc := 81) (i := 45) (k := 3) (n := 1) rfl rfl rfl ?_
          refine kw_get (pc := 82) (i := 46) (v := .ref 17) rfl rfl rfl lkX6_51 (fun _ => rfl) ?_
          refine kw_aload_n (pc := 85) (i := 47) (k := 3) (n := 1) rfl rfl rfl ?_
          refine kw_get (pc := 86) (i := 48) (v := .ref 17) rfl rfl rfl lkX6_51 (fun _ => rfl) ?_
          refine kw_callV (pc := 89) (i := 49) (Y := mX1_allLines) (a := 17) (As := []) (st := [.ref 17, .int z79, .int x11, .ref 26]) kw_hE rfl rfl lvX6_59 arX1_allLines (c_X1_allLines_17 l S74 I75  ) (by decide) (Nat.le_of_ble_eq_true rfl) rfl (fun v S81 p80 => ?_)
          obtain ⟨e83, z82, rfl⟩ := p80
          rw [e83]
          have r_z82 := kw_rng z82
          show kw_AW l 7 kw_E0 KX mX6_find (p_X6_find_7_4 σ n t) 92 [(5, .int z32), (4, .int x11), (0, .ref 7), (1, .ref 4), (2, .int n), (3, .int t)] [.int z82, .ref 17, .int z79, .int x11, .ref 26] S74
          refine kw_iload (pc := 92) (i := 50) (k := 0) (n := 5) rfl rfl ?_
          refine kw_callV (pc := 94) (i := 51) (Y := mX1_mostMilesOf) (a := 17) (As := [.int z82, .int z32]) (st := [.int z79, .int x11, .ref 26]) kw_hE rfl rfl lvX6_65 arX1_mostMilesOf (c_X1_mostMilesOf_17 l S74 I75 z82 z32 ) (by decide) (Nat.le_of_ble_eq_true rfl) rfl (fun v S85 p84 => ?_)
          obtain ⟨e87, z86, rfl⟩ := p84
          rw [e87]
          have r_z86 := kw_rng z86
          show kw_AW l 7 kw_E0 KX mX6_find (p_X6_find_7_4 σ n t) 97 [(5, .int z32), (4, .int x11), (0, .ref 7), (1, .ref 4), (2, .int n), (3, .int t)] [.int z86, .int z79, .int x11, .ref 26] S74
          refine kw_iadd (pc := 97) (i := 52) rfl (fun z88 e_z88 t_z88 => ?_)
          refine kw_iast (pc := 98) (i := 53) (n := 4) rfl rfl (by omega) (by omega) ?_
          have I89 : kw_I bX (kw_ui S74 26 x11.toNatClampNeg z88) := kw_I_ui I75 (kw_rng z88).1 (Int.le_of_lt_add_one (kw_rng z88).2)
          have F90 : kw_F [7, 24, 26, 27, 52, 53, 54, 55, 56, 57, 58, 59, 60] σ (kw_ui S74 26 x11.toNatClampNeg z88) := kw_F_ui F77 (by decide)
          refine kw_iinc' (pc := 99) (i := 54) (k := 1) (fun z => [(4, .int z), (5, .int z32), (0, .ref 7), (1, .ref 4), (2, .int n), (3, .int t)]) rfl rfl (by decide) rfl (fun _ => rfl) (fun z91 e_z91 t_z91 => ?_)
          refine kw_goto (pc := 102) (i := 55) (tgt := 37) rfl rfl ?_
          refine kw_sub (lv' := [(4, .int z91), (0, .ref 7), (1, .ref 4), (2, .int n), (3, .int t)]) [0, 2, 3, 4, 5] rfl ?_
          exact ih16 z91 (kw_ui S74 26 x11.toNatClampNeg z88) I89 F90 (by omega) (by omega) (by omega)
  exact L15 _ z10 (kw_ui (kw_ui (kw_ui (kw_ui σ 7 6 z1) 7 7 t) 7 5 0) 26 z1.toNatClampNeg 0) I8 F9 (by omega) (by omega) (Nat.lt_succ_self _)
