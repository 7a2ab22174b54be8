abbrev p_X8_readsTown_0 (T : Int) (σ : kw_S) (a : Int32) : Option Value → kw_S → Prop := fun vv σ' => (kw_I (bM T) σ' ∧ kw_F [0, 12, 13] σ σ') ∧ ∃ r : Int32, vv = some (.int r) ∧ (r.toInt = 0 ∨ r.toInt = 1) ∧ (r.toInt = 0 ∨ 1 ≤ (σ'.1 0 18).toInt)
set_option maxRecDepth 100000 in
set_option maxHeartbeats 4000000 in
theorem c_X8_readsTown_0 (l : Launch) (T : Int) (hT0 : 0 ≤ T) (hT1 : T ≤ 3000) (σ : kw_S) (hI : kw_I (bM T) σ) (a : Int32) (hp0 : 0 ≤ a.toInt) (hp1 : a.toInt ≤ 3) : kw_Met l 4 KM mX8_readsTown [.ref 0, .int a] σ (p_X8_readsTown_0 T σ a) := by
  have r_a := kw_rng a
  have hF0 : kw_F [0, 12, 13] σ σ := kw_F.rf
  have q_0 : (0 : Int32).toInt = 0 := rfl
  have q_1 : (1 : Int32).toInt = 1 := rfl
  refine kw_Met.of (by decide) rfl tX8_readsTown (Nat.le_of_ble_eq_true rfl) ?_
  show kw_AW l 4 kw_E0 KM mX8_readsTown (p_X8_readsTown_0 T σ a) 0 [(0, .ref 0), (1, .int a)] [] σ
  refine kw_aload_n (pc := 0) (i := 0) (k := 0) (n := 0) rfl rfl rfl ?_
  refine kw_iconst (pc := 1) (i := 1) (v := 0) rfl rfl ?_
  refine kw_puti (pc := 2) (i := 2) (z := 0) rfl rfl rfl lpX8_128 rfl rfl ?_
  have I1 : kw_I (bM T) (kw_ui σ 0 17 0) := kw_I_ui hI (show 0 ≤ (0 : Int32).toInt by omega) (show (0 : Int32).toInt ≤ 60 by omega)
  have F2 : kw_F [0, 12, 13] σ (kw_ui σ 0 17 0) := kw_F_ui hF0 (by decide)
  refine kw_aload_n (pc := 5) (i := 3) (k := 0) (n := 0) rfl rfl rfl ?_
  refine kw_iconst (pc := 6) (i := 4) (v := 0) rfl rfl ?_
  refine kw_puti (pc := 7) (i := 5) (z := 0) rfl rfl rfl lpX8_144 rfl rfl ?_
  have I3 : kw_I (bM T) (kw_ui (kw_ui σ 0 17 0) 0 19 0) := kw_I_ui I1 (show 0 ≤ (0 : Int32).toInt by omega) (show (0 : Int32).toInt ≤ 6 by omega)
  have F4 : kw_F [0, 12, 13] σ (kw_ui (kw_ui σ 0 17 0) 0 19 0) := kw_F_ui F2 (by decide)
  refine kw_aload_n (pc := 10) (i := 6) (k := 0) (n := 0) rfl rfl rfl ?_
  refine kw_iload_n (pc := 11) (i := 7) (k := 1) (n := 1) rfl rfl rfl ?_
  refine kw_callV (pc := 12) (i := 8) (Y := mX8_readsWinds) (a := 0) (As := [.int a]) (st := []) kw_hE rfl rfl lvX8_151 arX8_readsWinds (c_X8_readsWinds_0 l T (by omega) (by omega) (kw_ui (kw_ui σ 0 17 0) 0 19 0) I3 a (by first | omega | decide) (by first | omega | decide)) (by decide) (Nat.le_of_ble_eq_true rfl) rfl (fun v S6 p5 => ?_)
  obtain ⟨⟨I11, F12⟩, z10, rfl, f7, f8, f9⟩ := p5
  have F13 : kw_F [0, 12, 13] σ S6 := kw_F.tr F4 F12 (by decide)
  have f8 : (z10.toInt = 0 ∨ 1 ≤ (S6.1 0 18).toInt) := f8
  have f9 : (S6.1 0 19).toInt = (0 : Int32).toInt := f9
  have r_z10 := kw_rng z10
  show kw_AW l 4 kw_E0 KM mX8_readsTown (p_X8_readsTown_0 T σ a) 15 [(0, .ref 0), (1, .int a)] [.int z10] S6
  refine kw_if_ne (pc := 15) (i := 9) (tgt := 20) rfl rfl (fun c14 => ?_) (fun c14 => ?_)
  · refine kw_aload_n (pc := 20) (i := 12) (k := 0) (n := 0) rfl rfl rfl ?_
    refine kw_iload_n (pc := 21) (i := 13) (k := 1) (n := 1) rfl rfl rfl ?_
    refine kw_callV (pc := 22) (i := 14) (Y := mX8_skip) (a := 0) (As := [.int a]) (st := []) kw_hE rfl rfl lvX8_134 arX8_skip (c_X8_skip_0 l T (by omega) (by omega) S6 I11 a (by first | omega | decide) (by first | omega | decide)) (by decide) (Nat.le_of_ble_eq_true rfl) rfl (fun v S16 p15 => ?_)
    obtain ⟨⟨I20, F21⟩, rfl, f17, f18, f19⟩ := p15
    have F22 : kw_F [0, 12, 13] σ S16 := kw_F.tr F13 F21 (by decide)
    have f17 : (S6.1 0 17).toInt ≤ (S16.1 0 17).toInt := f17
    have f18 : (S16.1 0 18).toInt = (S6.1 0 18).toInt := f18
    have f19 : (S16.1 0 19).toInt = (S6.1 0 19).toInt := f19
    show kw_AW l 4 kw_E0 KM mX8_readsTown (p_X8_readsTown_0 T σ a) 25 [(0, .ref 0), (1, .int a)] [] S16
    have L26 : ∀ (n30 : Nat)  (S23 : kw_S), kw_I (bM T) S23 → kw_F [0, 12, 13] σ S23 → 1 ≤ (S23.1 0 18).toInt → (61 - (S23.1 0 17).toInt).toNat < n30 → kw_AW l 4 kw_E0 KM mX8_readsTown (p_X8_readsTown_0 T σ a) 25 [(0, .ref 0), (1, .int a)] [] S23 := by
      intro n30
      induction n30 with
      | zero => intro S23 I24 F25 v28 m29; exact absurd m29 (Nat.not_lt_zero _)
      | succ n30 ih27 =>
        intro S23 I24 F25 v28 m29
        refine kw_aload_n (pc := 25) (i := 15) (k := 0) (n := 0) rfl rfl rfl ?_
        refine kw_get (pc := 26) (i := 16) (v := .int (S23.1 0 17)) rfl rfl rfl lkX8_128 (fun _ => rfl) ?_
        have b31 : 0 ≤ (S23.1 0 17).toInt ∧ (S23.1 0 17).toInt ≤ 60 := I24 0 17
        refine kw_aload_n (pc := 29) (i := 17) (k := 0) (n := 0) rfl rfl rfl ?_
        refine kw_get (pc := 30) (i := 18) (v := .ref 5) rfl rfl rfl lkX8_26 (fun _ => rfl) ?_
        refine kw_iload_n (pc := 33) (i := 19) (k := 1) (n := 1) rfl rfl rfl ?_
        refine kw_iald (pc := 34) (i := 20) (n := 4) rfl rfl (by omega) (by omega) (fun z32 e_z32 => ?_)
        have t_z32 := congrArg Int32.toInt e_z32
        have b_z32 : -9 ≤ z32.toInt ∧ z32.toInt ≤ 60 := by rw [e_z32]; exact I24 5 _
        refine kw_icmp_ge (pc := 35) (i := 21) (tgt := 56) rfl rfl (fun c33 => ?_) (fun c33 => ?_)
        · refine kw_aload_n (pc := 56) (i := 32) (k := 0) (n := 0) rfl rfl rfl ?_
          refine kw_get (pc := 57) (i := 33) (v := .int (S23.1 0 19)) rfl rfl rfl lkX8_144 (fun _ => rfl) ?_
          have b34 : 0 ≤ (S23.1 0 19).toInt ∧ (S23.1 0 19).toInt ≤ 6 := I24 0 19
          refine kw_if_le (pc := 60) (i := 34) (tgt := 67) rfl rfl (fun c35 => ?_) (fun c35 => ?_)
          · refine kw_iconst (pc := 67) (i := 37) (v := 0) rfl rfl ?_
            exact kw_ireturn (pc := 68) (i := 38) (ty := .boolean) rfl rfl rfl ⟨⟨I24, F25⟩, _, rfl, ⟨by omega, (show ((0 : Int32).toInt = 0 ∨ 1 ≤ (S23.1 0 18).toInt) from by omega)⟩⟩
          · refine kw_iconst (pc := 63) (i := 35) (v := 1) rfl rfl ?_
            refine kw_goto (pc := 64) (i := 36) (tgt := 68) rfl rfl ?_
            exact kw_ireturn (pc := 68) (i := 38) (ty := .boolean) rfl rfl rfl ⟨⟨I24, F25⟩, _, rfl, ⟨by omega, (show ((1 : Int32).toInt = 0 ∨ 1 ≤ (S23.1 0 18).toInt) from by omega)⟩⟩
        · refine kw_aload_n (pc := 38) (i := 22) (k := 0) (n := 0) rfl rfl rfl ?_
          refine kw_iload_n (pc := 39) (i := 23) (k := 1) (n := 1) rfl rfl rfl ?_
          refine kw_callV (pc := 40) (i := 24) (Y := mX8_readsLine) (a := 0) (As := [.int a]) (st := []) kw_hE rfl rfl lvX8_154 arX8_readsLine (c_X8_readsLine_0 l T (by omega) (by omega) S23 I24 a (by first | omega | decide) (by first | omega | decide)) (by decide) (Nat.le_of_ble_eq_true rfl) rfl (fun v S37 p36 => ?_)
          obtain ⟨⟨I42, F43⟩, z41, rfl, f38, f39, f40⟩ := p36
          have F44 : kw_F [0, 12, 13] σ S37 := kw_F.tr F25 F43 (by decide)
          have f39 : (z41.toInt = 0 ∨ (S23.1 0 17).toInt < (S37.1 0 17).toInt) := f39
          have f40 : (S37.1 0 18).toInt = (S23.1 0 18).toInt := f40
          have r_z41 := kw_rng z41
          show kw_AW l 4 kw_E0 KM mX8_readsTown (p_X8_readsTown_0 T σ a) 43 [(0, .ref 0), (1, .int a)] [.int z41] S37
          refine kw_if_ne (pc := 43) (i := 25) (tgt := 48) rfl rfl (fun c45 => ?_) (fun c45 => ?_)
          · refine kw_aload_n (pc := 48) (i := 28) (k := 0) (n := 0) rfl rfl rfl ?_
            refine kw_iload_n (pc := 49) (i := 29) (k := 1) (n := 1) rfl rfl rfl ?_
            refine kw_callV (pc := 50) (i := 30) (Y := mX8_skip) (a := 0) (As := [.int a]) (st := []) kw_hE rfl rfl lvX8_134 arX8_skip (c_X8_skip_0 l T (by omega) (by omega) S37 I42 a (by first | omega | decide) (by first | omega | decide)) (by decide) (Nat.le_of_ble_eq_true rfl) rfl (fun v S47 p46 => ?_)
            obtain ⟨⟨I51, F52⟩, rfl, f48, f49, f50⟩ := p46
            have F53 : kw_F [0, 12, 13] σ S47 := kw_F.tr F44 F52 (by decide)
            have f48 : (S37.1 0 17).toInt ≤ (S47.1 0 17).toInt := f48
            have f49 : (S47.1 0 18).toInt = (S37.1 0 18).toInt := f49
            have f50 : (S47.1 0 19).toInt = (S37.1 0 19).toInt := f50
            show kw_AW l 4 kw_E0 KM mX8_readsTown (p_X8_readsTown_0 T σ a) 53 [(0, .ref 0), (1, .int a)] [] S47
            refine kw_goto (pc := 53) (i := 31) (tgt := 25) rfl rfl ?_
            refine kw_sub (lv' := [(0, .ref 0), (1, .int a)]) [0, 1] rfl ?_
            exact ih27 S47 I51 F53 (show 1 ≤ (S47.1 0 18).toInt from by omega) (show (61 - (S47.1 0 17).toInt).toNat < n30 from by omega)
          · refine kw_iconst (pc := 46) (i := 26) (v := 0) rfl rfl ?_
            exact kw_ireturn (pc := 47) (i := 27) (ty := .boolean) rfl rfl rfl ⟨⟨I42, F44⟩, _, rfl, ⟨by omega, (show ((0 : Int32).toInt = 0 ∨ 1 ≤ (S37.1 0 18).toInt) from by omega)⟩⟩
    exact L26 _ S16 I20 F22 (show 1 ≤ (S16.1 0 18).toInt from by omega) (Nat.lt_succ_self _)
  · refine kw_iconst (pc := 18) (i := 10) (v := 0) rfl rfl ?_
    exact kw_ireturn (pc := 19) (i := 11) (ty := .boolean) rfl rfl rfl ⟨⟨I11, F13⟩, _, rfl, ⟨by omega, (show ((0 : Int32).toInt = 0 ∨ 1 ≤ (S6.1 0 18).toInt) from by omega)⟩⟩
abbrev p_X8_goesOn_0 (T : Int) (σ : kw_S) (a : Int32) : Option Value → kw_S → Prop := fun vv σ' => (kw_I (bM T) σ' ∧ kw_F [0, 12, 13] σ σ') ∧ ∃ r : Int32, vv = some (.int r) ∧ (r.toInt ≠ -9 ∨ 1 ≤ (σ'.1 0 18).toInt)
set_option maxRecDepth 100000 in
set_option maxHeartbeats 4000000 in
theorem c_X8_goesOn_0 (l : Launch) (T : Int) (hT0 : 0 ≤ T) (hT1 : T ≤ 3000) (σ : kw_S) (hI : kw_I (bM T) σ) (a : Int32) (hp0 : 0 ≤ a.toInt) (hp1 : a.toInt ≤ 3) : kw_Met l 5 KM mX8_goesOn [.ref 0, .int a] σ (p_X8_goesOn_0 T σ a) := by
  have r_a := kw_rng a
  have hF0 : kw_F [0, 12, 13] σ σ := kw_F.rf
  have q_m9 : (-9 : Int32).toInt = -9 := rfl
  refine kw_Met.of (by decide) rfl tX8_goesOn (Nat.le_of_ble_eq_true rfl) ?_
  show kw_AW l 5 kw_E0 KM mX8_goesOn (p_X8_goesOn_0 T σ a) 0 [(0, .ref 0), (1, .int a)] [] σ
  refine kw_aload_n (pc := 0) (i := 0) (k := 0) (n := 0) rfl rfl rfl ?_
  refine kw_iload_n (pc := 1) (i := 1) (k := 1) (n := 1) rfl rfl rfl ?_
  refine kw_callV (pc := 2) (i := 2) (Y := mX8_readsTown) (a := 0) (As := [.int a]) (st := []) kw_hE rfl rfl lvX8_157 arX8_readsTown (c_X8_readsTown_0 l T (by omega) (by omega) σ hI a (by first | omega | decide) (by first | omega | decide)) (by decide) (Nat.le_of_ble_eq_true rfl) rfl (fun v S2 p1 => ?_)
  obtain ⟨⟨I6, F7⟩, z5, rfl, f3, f4⟩ := p1
  have F8 : kw_F [0, 12, 13] σ S2 := kw_F.tr hF0 F7 (by decide)
  have f4 : (z5.toInt = 0 ∨ 1 ≤ (S2.1 0 18).toInt) := f4
  have r_z5 := kw_rng z5
  show kw_AW l 5 kw_E0 KM mX8_goesOn (p_X8_goesOn_0 T σ a) 5 [(0, .ref 0), (1, .int a)] [.int z5] S2
  refine kw_if_eq (pc := 5) (i := 3) (tgt := 13) rfl rfl (fun c9 => ?_) (fun c9 => ?_)
  · refine kw_aload_n (pc := 13) (i := 6) (k := 0) (n := 0) rfl rfl rfl ?_
    refine kw_get (pc := 14) (i := 7) (v := .int (S2.1 0 17)) rfl rfl rfl lkX8_128 (fun _ => rfl) ?_
    have b10 : 0 ≤ (S2.1 0 17).toInt ∧ (S2.1 0 17).toInt ≤ 60 := I6 0 17
    exact kw_ireturn (pc := 17) (i := 8) (ty := .int) rfl rfl rfl ⟨⟨I6, F8⟩, _, rfl, (show ((S2.1 0 17).toInt ≠ -9 ∨ 1 ≤ (S2.1 0 18).toInt) from by omega)⟩
  · refine kw_bipush (pc := 8) (i := 4) (v := (-9)) rfl rfl ?_
    refine kw_goto (pc := 10) (i := 5) (tgt := 17) rfl rfl ?_
    exact kw_ireturn (pc := 17) (i := 8) (ty := .int) rfl rfl rfl ⟨⟨I6, F8⟩, _, rfl, (show (((-9) : Int32).toInt ≠ -9 ∨ 1 ≤ (S2.1 0 18).toInt) from by omega)⟩
abbrev p_X8_fault_0 (T : Int) (σ : kw_S) (a : Int32) : Option Value → kw_S → Prop := fun vv σ' => (kw_I (bM T) σ' ∧ kw_F [0, 1, 12, 13] σ σ') ∧ ∃ r : Int32, vv = some (.int r)
set_option maxRecDepth 100000 in
set_option maxHeartbeats 4000000 in
theorem c_X8_fault_0 (l : Launch) (T : Int) (hT0 : 0 ≤ T) (hT1 : T ≤ 3000) (σ : kw_S) (hI : kw_I (bM T) σ) (a : Int32) : kw_Met l 6 KM mX8_fault [.ref 0, .int a] σ (p_X8_fault_0 T σ a) := by
  have r_a := kw_rng a
  have hF0 : kw_F [0, 1, 12, 13] σ σ := kw_F.rf
  refine kw_Met.of (by decide) rfl tX8_fault (Nat.le_of_ble_eq_true rfl) ?_
  show kw_AW l 6 kw_E0 KM mX8_fault (p_X8_fault_0 T σ a) 0 [(0, .ref 0), (1, .int a)] [] σ
  refine kw_aload_n (pc := 0) (i := 0) (k := 0) (n := 0) rfl rfl rfl ?_
  refine kw_iload_n (pc := 1) (i := 1) (k := 1) (n := 1) rfl rfl rfl ?_
  refine kw_callV (pc := 2) (i := 2) (Y := mX8_askedText) (a := 0) (As := [.int a]) (st := []) kw_hE rfl rfl lvX8_125 arX8_askedText (c_X8_askedText_0 l T (by omega) (by omega) σ hI a ) (by decide) (Nat.le_of_ble_eq_true rfl) rfl (fun v S2 p1 => ?_)
  obtain ⟨⟨I5, F6⟩, z4, rfl, f3⟩ := p1
  have F7 : kw_F [0, 1, 12, 13] σ S2 := kw_F.tr hF0 F6 (by decide)
  have r_z4 := kw_rng z4
  show kw_AW l 6 kw_E0 KM mX8_fault (p_X8_fault_0 T σ a) 5 [(0, .ref 0), (1, .int a)] [.int z4] S2
  refine kw_istore_n (pc := 5) (i := 3) (n := 2) (lv' := [(2, .int z4), (0, .ref 0), (1, .int a)]) rfl rfl (by decide) rfl ?_
  refine kw_iload_n (pc := 6) (i := 4) (k := 0) (n := 2) rfl rfl rfl ?_
  refine kw_if_ge (pc := 7) (i := 5) (tgt := 14) rfl rfl (fun c8 => ?_) (fun c8 => ?_)
  · refine kw_aload_n (pc := 14) (i := 8) (k := 1) (n := 0) rfl rfl rfl ?_
    refine kw_iload_n (pc := 15) (i := 9) (k := 2) (n := 1) rfl rfl rfl ?_
    refine kw_callV (pc := 16) (i := 10) (Y := mX8_goesOn) (a := 0) (As := [.int a]) (st := []) kw_hE rfl rfl lvX8_160 arX8_goesOn (c_X8_goesOn_0 l T (by omega) (by omega) S2 I5 a (by first | omega | decide) (by first | omega | decide)) (by decide) (Nat.le_of_ble_eq_true rfl) rfl (fun v S10 p9 => ?_)
    obtain ⟨⟨I13, F14⟩, z12, rfl, f11⟩ := p9
    have F15 : kw_F [0, 1, 12, 13] σ S10 := kw_F.tr F7 F14 (by decide)
    have f11 : (z12.toInt ≠ -9 ∨ 1 ≤ (S10.1 0 18).toInt) := f11
    have r_z12 := kw_rng z12
    show kw_AW l 6 kw_E0 KM mX8_fault (p_X8_fault_0 T σ a) 19 [(2, .int z4), (0, .ref 0), (1, .int a)] [.int z12] S10
    exact kw_ireturn (pc := 19) (i := 11) (ty := .int) rfl rfl rfl ⟨⟨I13, F15⟩, _, rfl⟩
  · refine kw_iload_n (pc := 10) (i := 6) (k := 0) (n := 2) rfl rfl rfl ?_
    refine kw_goto (pc := 11) (i := 7) (tgt := 19) rfl rfl ?_
    exact kw_ireturn (pc := 19) (i := 11) (ty := .int) rfl rfl rfl ⟨⟨I5, F7⟩, _, rfl⟩
abbrev p_X8_town_0 (T : Int) (σ : kw_S) (a : Int32) : Option Value → kw_S → Prop := fun vv σ' => (kw_I (bM T) σ' ∧ kw_F [0, 1, 7, 8, 9, 10, 11, 12, 13, 14, 16] σ σ') ∧ ∃ r : Int32, vv = some (.int r)
set_option maxRecDepth 100000 in
set_option maxHeartbeats 4000000 in
theorem c_X8_town_0 (l : Launch) (T : Int) (hT0 : 0 ≤ T) (hT1 : T ≤ 3000) (σ : kw_S) (hI : kw_I (bM T) σ) (a : Int32) : kw_Met l 6 KM mX8_town [.ref 0, .int a] σ (p_X8_town_0 T σ a) := by
  have r_a := kw_rng a
  have hF0 : kw_F [0, 1, 7, 8, 9, 10, 11, 12, 13, 14, 16] σ σ := kw_F.rf
  have q_m9 : (-9 : Int32).toInt = -9 := rfl
  have q_m4 : (-4 : Int32).toInt = -4 := rfl
  have q_0 : (0 : Int32).toInt = 0 := rfl
  have q_1 : (1 : Int32).toInt = 1 := rfl
  have q_2 : (2 : Int32).toInt = 2 := rfl
  have q_3 : (3 : Int32).toInt = 3 := rfl
  have q_4 : (4 : Int32).toInt = 4 := rfl
  refine kw_Met.of (by decide) rfl tX8_town (Nat.le_of_ble_eq_true rfl) ?_
  show kw_AW l 6 kw_E0 KM mX8_town (p_X8_town_0 T σ a) 0 [(0, .ref 0), (1, .int a)] [] σ
  refine kw_aload_n (pc := 0) (i := 0) (k := 0) (n := 0) rfl rfl rfl ?_
  refine kw_iload_n (pc := 1) (i := 1) (k := 1) (n := 1) rfl rfl rfl ?_
  refine kw_callV (pc := 2) (i := 2) (Y := mX8_askedText) (a := 0) (As := [.int a]) (st := []) kw_hE rfl rfl lvX8_125 arX8_askedText (c_X8_askedText_0 l T (by omega) (by omega) σ hI a ) (by decide) (Nat.le_of_ble_eq_true rfl) rfl (fun v S2 p1 => ?_)
  obtain ⟨⟨I5, F6⟩, z4, rfl, f3⟩ := p1
  have F7 : kw_F [0, 1, 7, 8, 9, 10, 11, 12, 13, 14, 16] σ S2 := kw_F.tr hF0 F6 (by decide)
  have r_z4 := kw_rng z4
  show kw_AW l 6 kw_E0 KM mX8_town (p_X8_town_0 T σ a) 5 [(0, .ref 0), (1, .int a)] [.int z4] S2
  refine kw_istore_n (pc := 5) (i := 3) (n := 2) (lv' := [(2, .int z4), (0, .ref 0), (1, .int a)]) rfl rfl (by decide) rfl ?_
  refine kw_iload_n (pc := 6) (i := 4) (k := 0) (n := 2) rfl rfl rfl ?_
  refine kw_if_ge (pc := 7) (i := 5) (tgt := 12) rfl rfl (fun c8 => ?_) (fun c8 => ?_)
  · refine kw_aload_n (pc := 12) (i := 8) (k := 1) (n := 0) rfl rfl rfl ?_
    refine kw_iload_n (pc := 13) (i := 9) (k := 2) (n := 1) rfl rfl rfl ?_
    refine kw_callV (pc := 14) (i := 10) (Y := mX8_goesOn) (a := 0) (As := [.int a]) (st := []) kw_hE rfl rfl lvX8_160 arX8_goesOn (c_X8_goesOn_0 l T (by omega) (by omega) S2 I5 a (by first | omega | decide) (by first | omega | decide)) (by decide) (Nat.le_of_ble_eq_true rfl) rfl (fun v S10 p9 => ?_)
    obtain ⟨⟨I13, F14⟩, z12, rfl, f11⟩ := p9
    have F15 : kw_F [0, 1, 7, 8, 9, 10, 11, 12, 13, 14, 16] σ S10 := kw_F.tr F7 F14 (by decide)
    have f11 : (z12.toInt ≠ -9 ∨ 1 ≤ (S10.1 0 18).toInt) := f11
    have r_z12 := kw_rng z12
    show kw_AW l 6 kw_E0 KM mX8_town (p_X8_town_0 T σ a) 17 [(2, .int z4), (0, .ref 0), (1, .int a)] [.int z12] S10
    refine kw_bipush (pc := 17) (i := 11) (v := (-9)) rfl rfl ?_
    refine kw_icmp_eq (pc := 19) (i := 12) (tgt := 25) rfl rfl (fun c16 => ?_) (fun c16 => ?_)
    · refine kw_aload_n (pc := 25) (i := 15) (k := 1) (n := 0) rfl rfl rfl ?_
      refine kw_aload_n (pc := 26) (i := 16) (k := 1) (n := 0) rfl rfl rfl ?_
      refine kw_get (pc := 27) (i := 17) (v := .int (S10.1 0 19)) rfl rfl rfl lkX8_144 (fun _ => rfl) ?_
      have b17 : 0 ≤ (S10.1 0 19).toInt ∧ (S10.1 0 19).toInt ≤ 6 := I13 0 19
      refine kw_puti (pc := 30) (i := 18) (z := 0) rfl rfl rfl lpX8_163 rfl rfl ?_
      have I18 : kw_I (bM T) (kw_ui S10 0 10 (S10.1 0 19)) := kw_I_ui I13 (show 0 ≤ (S10.1 0 19).toInt by omega) (show (S10.1 0 19).toInt ≤ 6 by omega)
      have F19 : kw_F [0, 1, 7, 8, 9, 10, 11, 12, 13, 14, 16] σ (kw_ui S10 0 10 (S10.1 0 19)) := kw_F_ui F15 (by decide)
      refine kw_aload_n (pc := 33) (i := 19) (k := 1) (n := 0) rfl rfl rfl ?_
      refine kw_aload_n (pc := 34) (i := 20) (k := 1) (n := 0) rfl rfl rfl ?_
      refine kw_get (pc := 35) (i := 21) (v := .int (S10.1 0 18)) rfl rfl rfl lkX8_138 (fun _ => rfl) ?_
      have b20 : 0 ≤ (S10.1 0 18).toInt ∧ (S10.1 0 18).toInt ≤ 8 := I13 0 18
      refine kw_puti (pc := 38) (i := 22) (z := 0) rfl rfl rfl lpX8_32 rfl rfl ?_
      have I21 : kw_I (bM T) (kw_ui (kw_ui S10 0 10 (S10.1 0 19)) 0 11 (S10.1 0 18)) := kw_I_ui I18 (show 1 ≤ (S10.1 0 18).toInt by omega) (show (S10.1 0 18).toInt ≤ 8 by omega)
      have F22 : kw_F [0, 1, 7, 8, 9, 10, 11, 12, 13, 14, 16] σ (kw_ui (kw_ui S10 0 10 (S10.1 0 19)) 0 11 (S10.1 0 18)) := kw_F_ui F19 (by decide)
      refine kw_iconst (pc := 41) (i := 23) (v := 0) rfl rfl ?_
      refine kw_istore_n (pc := 42) (i := 24) (n := 3) (lv' := [(3, .int 0), (2, .int z4), (0, .ref 0), (1, .int a)]) rfl rfl (by decide) rfl ?_
      have L27 : ∀ (n31 : Nat) (x23 : Int32) (S24 : kw_S), kw_I (bM T) S24 → kw_F [0, 1, 7, 8, 9, 10, 11, 12, 13, 14, 16] σ S24 → 0 ≤ x23.toInt → (9 - x23.toInt).toNat < n31 → kw_AW l 6 kw_E0 KM mX8_town (p_X8_town_0 T σ a) 43 [(3, .int x23), (2, .int z4), (0, .ref 0), (1, .int a)] [] S24 := by
        intro n31
        induction n31 with
        | zero => intro x23 S24 I25 F26 v29 m30; exact absurd m30 (Nat.not_lt_zero _)
        | succ n31 ih28 =>
          intro x23 S24 I25 F26 v29 m30
          have r_x23 := kw_rng x23
          refine kw_iload_n (pc := 43) (i := 25) (k := 0) (n := 3) rfl rfl rfl ?_
          refine kw_aload_n (pc := 44) (i := 26) (k := 2) (n := 0) rfl rfl rfl ?_
          refine kw_get (pc := 45) (i := 27) (v := .int (S24.1 0 11)) rfl rfl rfl lkX8_32 (fun _ => rfl) ?_
          have b32 : 1 ≤ (S24.1 0 11).toInt ∧ (S24.1 0 11).toInt ≤ 8 := I25 0 11
          refine kw_icmp_ge (pc := 48) (i := 28) (tgt := 69) rfl rfl (fun c33 => ?_) (fun c33 => ?_)
          · refine kw_iconst (pc := 69) (i := 39) (v := 0) rfl rfl ?_
            refine kw_istore_n (pc := 70) (i := 40) (n := 3) (lv' := [(3, .int 0), (2, .int z4), (0, .ref 0), (1, .int a)]) rfl rfl (by decide) rfl ?_
            have L38 : ∀ (n42 : Nat) (x34 : Int32) (S35 : kw_S), kw_I (bM T) S35 → kw_F [0, 1, 7, 8, 9, 10, 11, 12, 13, 14, 16] σ S35 → 0 ≤ x34.toInt → (7 - x34.toInt).toNat < n42 → kw_AW l 6 kw_E0 KM mX8_town (p_X8_town_0 T σ a) 71 [(3, .int x34), (2, .int z4), (0, .ref 0), (1, .int a)] [] S35 := by
              intro n42
              induction n42 with
              | zero => intro x34 S35 I36 F37 v40 m41; exact absurd m41 (Nat.not_lt_zero _)
              | succ n42 ih39 =>
                intro x34 S35 I36 F37 v40 m41
                have r_x34 := kw_rng x34
                refine kw_iload_n (pc := 71) (i := 41) (k := 0) (n := 3) rfl rfl rfl ?_
                refine kw_aload_n (pc := 72) (i := 42) (k := 2) (n := 0) rfl rfl rfl ?_
                refine kw_get (pc := 73) (i := 43) (v := .int (S35.1 0 10)) rfl rfl rfl lkX8_163 (fun _ => rfl) ?_
                have b43 : 0 ≤ (S35.1 0 10).toInt ∧ (S35.1 0 10).toInt ≤ 6 := I36 0 10
                refine kw_icmp_ge (pc := 76) (i := 44) (tgt := 156) rfl rfl (fun c44 => ?_) (fun c44 => ?_)
                · refine kw_aload_n (pc := 156) (i := 100) (k := 2) (n := 0) rfl rfl rfl ?_
                  refine kw_iconst (pc := 157) (i := 101) (v := 0) rfl rfl ?_
                  refine kw_puti (pc := 158) (i := 102) (z := 0) rfl rfl rfl lpX8_166 rfl rfl ?_
                  have I45 : kw_I (bM T) (kw_ui S35 0 22 0) := kw_I_ui I36 (show 0 ≤ (0 : Int32).toInt by omega) (show (0 : Int32).toInt ≤ T by omega)
                  have F46 : kw_F [0, 1, 7, 8, 9, 10, 11, 12, 13, 14, 16] σ (kw_ui S35 0 22 0) := kw_F_ui F37 (by decide)
                  refine kw_aload_n (pc := 161) (i := 103) (k := 2) (n := 0) rfl rfl rfl ?_
                  refine kw_iconst (pc := 162) (i := 104) (v := 0) rfl rfl ?_
                  refine kw_puti (pc := 163) (i := 105) (z := 0) rfl rfl rfl lpX8_169 rfl rfl ?_
                  have I47 : kw_I (bM T) (kw_ui (kw_ui S35 0 22 0) 0 23 0) := kw_I_ui I45 (kw_rng (0 : Int32)).1 (Int.le_of_lt_add_one (kw_rng (0 : Int32)).2)
                  have F48 : kw_F [0, 1, 7, 8, 9, 10, 11, 12, 13, 14, 16] σ (kw_ui (kw_ui S35 0 22 0) 0 23 0) := kw_F_ui F46 (by decide)
                  refine kw_aload_n (pc := 166) (i := 106) (k := 2) (n := 0) rfl rfl rfl ?_
                  refine kw_iconst (pc := 167) (i := 107) (v := 0) rfl rfl ?_
                  refine kw_puti (pc := 168) (i := 108) (z := 0) rfl rfl rfl lpX8_172 rfl rfl ?_
                  have I49 : kw_I (bM T) (kw_ui (kw_ui (kw_ui S35 0 22 0) 0 23 0) 0 24 0) := kw_I_ui I47 (kw_rng (0 : Int32)).1 (Int.le_of_lt_add_one (kw_rng (0 : Int32)).2)
                  have F50 : kw_F [0, 1, 7, 8, 9, 10, 11, 12, 13, 14, 16] σ (kw_ui (kw_ui (kw_ui S35 0 22 0) 0 23 0) 0 24 0) := kw_F_ui F48 (by decide)
                  refine kw_aload_n (pc := 171) (i := 109) (k := 2) (n := 0) rfl rfl rfl ?_
                  refine kw_iconst (pc := 172) (i := 110) (v := 0) rfl rfl ?_
                  refine kw_puti (pc := 173) (i := 111) (z := 0) rfl rfl rfl lpX8_175 rfl rfl ?_
                  have I51 : kw_I (bM T) (kw_ui (kw_ui (kw_ui (kw_ui S35 0 22 0) 0 23 0) 0 24 0) 0 25 0) := kw_I_ui I49 (show 0 ≤ (0 : Int32).toInt by omega) (show (0 : Int32).toInt ≤ 63 by omega)
                  have F52 : kw_F [0, 1, 7, 8, 9, 10, 11, 12, 13, 14, 16] σ (kw_ui (kw_ui (kw_ui (kw_ui S35 0 22 0) 0 23 0) 0 24 0) 0 25 0) := kw_F_ui F50 (by decide)
                  refine kw_aload_n (pc := 176) (i := 112) (k := 2) (n := 0) rfl rfl rfl ?_
                  refine kw_iconst (pc := 177) (i := 113) (v := 0) rfl rfl ?_
                  refine kw_puti (pc := 178) (i := 114) (z := 0) rfl rfl rfl lpX8_178 rfl rfl ?_
                  have I53 : kw_I (bM T) (kw_ui (kw_ui (kw_ui (kw_ui (kw_ui S35 0 22 0) 0 23 0) 0 24 0) 0 25 0) 0 27 0) := kw_I_ui I51 (show 0 ≤ (0 : Int32).toInt by omega) (show (0 : Int32).toInt ≤ 40 by omega)
                  have F54 : kw_F [0, 1, 7, 8, 9, 10, 11, 12, 13, 14, 16] σ (kw_ui (kw_ui (kw_ui (kw_ui (kw_ui S35 0 22 0) 0 23 0) 0 24 0) 0 25 0) 0 27 0) := kw_F_ui F52 (by decide)
                  refine kw_iconst (pc := 181) (i := 115) (v := 0) rfl rfl ?_
                  refine kw_istore_n (pc := 182) (i := 116) (n := 3) (lv' := [(3, .int 0), (2, .int z4), (0, .ref 0), (1, .int a)]) rfl rfl (by decide) rfl ?_
                  have L59 : ∀ (n63 : Nat) (x55 : Int32) (S56 : kw_S), kw_I (bM T) S56 → kw_F [0, 1, 7, 8, 9, 10, 11, 12, 13, 14, 16] σ S56 → 0 ≤ x55.toInt → (4 - x55.toInt).toNat < n63 → kw_AW l 6 kw_E0 KM mX8_town (p_X8_town_0 T σ a) 183 [(3, .int x55), (2, .int z4), (0, .ref 0), (1, .int a)] [] S56 := by
                    intro n63
                    induction n63 with
                    | zero => intro x55 S56 I57 F58 v61 m62; exact absurd m62 (Nat.not_lt_zero _)
                    | succ n63 ih60 =>
                      intro x55 S56 I57 F58 v61 m62
                      have r_x55 := kw_rng x55
                      refine kw_iload_n (pc := 183) (i := 117) (k := 0) (n := 3) rfl rfl rfl ?_
                      refine kw_iconst (pc := 184) (i := 118) (v := 3) rfl rfl ?_
                      refine kw_icmp_ge (pc := 185) (i := 119) (tgt := 201) rfl rfl (fun c64 => ?_) (fun c64 => ?_)
                      · refine kw_aload_n (pc := 201) (i := 127) (k := 2) (n := 0) rfl rfl rfl ?_
                        refine kw_get (pc := 202) (i := 128) (v := .int (S56.1 0 10)) rfl rfl rfl lkX8_163 (fun _ => rfl) ?_
                        have b65 : 0 ≤ (S56.1 0 10).toInt ∧ (S56.1 0 10).toInt ≤ 6 := I57 0 10
                        exact kw_ireturn (pc := 205) (i := 129) (ty := .int) rfl rfl rfl ⟨⟨I57, F58⟩, _, rfl⟩
                      · refine kw_aload_n (pc := 188) (i := 120) (k := 2) (n := 0) rfl rfl rfl ?_
                        refine kw_get (pc := 189) (i := 121) (v := .ref 16) rfl rfl rfl lkX8_63 (fun _ => rfl) ?_
                        refine kw_iload_n (pc := 192) (i := 122) (k := 0) (n := 3) rfl rfl rfl ?_
                        refine kw_iconst (pc := 193) (i := 123) (v := 0) rfl rfl ?_
                        refine kw_iast (pc := 194) (i := 124) (n := 3) rfl rfl (by omega) (by omega) ?_
                        have I66 : kw_I (bM T) (kw_ui S56 16 x55.toNatClampNeg 0) := kw_I_ui I57 (kw_rng (0 : Int32)).1 (Int.le_of_lt_add_one (kw_rng (0 : Int32)).2)
                        have F67 : kw_F [0, 1, 7, 8, 9, 10, 11, 12, 13, 14, 16] σ (kw_ui S56 16 x55.toNatClampNeg 0) := kw_F_ui F58 (by decide)
                        refine kw_iinc' (pc := 195) (i := 125) (k := 0) (fun z => [(3, .int z), (2, .int z4), (0, .ref 0), (1, .int a)]) rfl rfl (by decide) rfl (fun _ => rfl) (fun z68 e_z68 t_z68 => ?_)
                        first | (have u_z68 : z68.toInt = x55.toInt + 1 := (by omega); clear t_z68) | skip
                        refine kw_goto (pc := 198) (i := 126) (tgt := 183) rfl rfl ?_
                        refine kw_sub (lv' := [(3, .int z68), (2, .int z4), (0, .ref 0), (1, .int a)]) [0, 1, 2, 3] rfl ?_
                        exact ih60 z68 (kw_ui S56 16 x55.toNatClampNeg 0) I66 F67 (by omega) (by omega)
                  exact L59 _ 0 (kw_ui (kw_ui (kw_ui (kw_ui (kw_ui S35 0 22 0) 0 23 0) 0 24 0) 0 25 0) 0 27 0) I53 F54 (by omega) (Nat.lt_succ_self _)
                · refine kw_aload_n (pc := 79) (i := 45) (k := 2) (n := 0) rfl rfl rfl ?_
                  refine kw_get (pc := 80) (i := 46) (v := .ref 8) rfl rfl rfl lkX8_39 (fun _ => rfl) ?_
                  refine kw_iload_n (pc := 83) (i := 47) (k := 0) (n := 3) rfl rfl rfl ?_
                  refine kw_aload_n (pc := 84) (i := 48) (k := 2) (n := 0) rfl rfl rfl ?_
                  refine kw_get (pc := 85) (i := 49) (v := .ref 13) rfl rfl rfl lkX8_54 (fun _ => rfl) ?_
                  refine kw_iconst (pc := 88) (i := 50) (v := 4) rfl rfl ?_
                  refine kw_iload_n (pc := 89) (i := 51) (k := 0) (n := 3) rfl rfl rfl ?_
                  refine kw_imul (pc := 90) (i := 52) rfl (fun z69 e_z69 t_z69 => ?_)
                  rw [show (4 : Int32).toInt = 4 from rfl] at t_z69
                  first | (have u_z69 : z69.toInt = 4 * x34.toInt := (by omega); clear t_z69) | skip
                  refine kw_iald (pc := 91) (i := 53) (n := 24) rfl rfl (by omega) (by omega) (fun z70 e_z70 => ?_)
                  have t_z70 := congrArg Int32.toInt e_z70
                  have r_z70 := kw_rng z70
                  refine kw_iast (pc := 92) (i := 54) (n := 6) rfl rfl (by omega) (by omega) ?_
                  have I71 : kw_I (bM T) (kw_ui S35 8 x34.toNatClampNeg z70) := kw_I_ui I36 (kw_rng z70).1 (Int.le_of_lt_add_one (kw_rng z70).2)
                  have F72 : kw_F [0, 1, 7, 8, 9, 10, 11, 12, 13, 14, 16] σ (kw_ui S35 8 x34.toNatClampNeg z70) := kw_F_ui F37 (by decide)
                  refine kw_aload_n (pc := 93) (i := 55) (k := 2) (n := 0) rfl rfl rfl ?_
                  refine kw_get (pc := 94) (i := 56) (v := .ref 9) rfl rfl rfl lkX8_42 (fun _ => rfl) ?_
                  refine kw_iload_n (pc := 97) (i := 57) (k := 0) (n := 3) rfl rfl rfl ?_
                  refine kw_aload_n (pc := 98) (i := 58) (k := 2) (n := 0) rfl rfl rfl ?_
                  refine kw_get (pc := 99) (i := 59) (v := .ref 13) rfl rfl rfl lkX8_54 (fun _ => rfl) ?_
                  refine kw_iconst (pc := 102) (i := 60) (v := 4) rfl rfl ?_
                  refine kw_iload_n (pc := 103) (i := 61) (k := 0) (n := 3) rfl rfl rfl ?_
                  refine kw_imul (pc := 104) (i := 62) rfl (fun z73 e_z73 t_z73 => ?_)
                  rw [show (4 : Int32).toInt = 4 from rfl] at t_z73
                  first | (have u_z73 : z73.toInt = 4 * x34.toInt := (by omega); clear t_z73) | skip
                  refine kw_iconst (pc := 105) (i := 63) (v := 1) rfl rfl ?_
                  refine kw_iadd (pc := 106) (i := 64) rfl (fun z74 e_z74 t_z74 => ?_)
                  first | (have u_z74 : z74.toInt = z73.toInt + 1 := (by omega); clear t_z74) | skip
                  refine kw_iald (pc := 107) (i := 65) (n := 24) rfl rfl (by omega) (by omega) (fun z75 e_z75 => ?_)
                  have t_z75 := congrArg Int32.toInt e_z75
                  have r_z75 := kw_rng z75
                  refine kw_iconst (pc := 108) (i := 66) (v := 4) rfl rfl ?_
                  refine kw_isub (pc := 109) (i := 67) rfl (fun z76 e_z76 t_z76 => ?_)
                  first | (have u_z76 : z76.toInt = z75.toInt - 4 := (by omega); clear t_z76) | skip
                  refine kw_iast (pc := 110) (i := 68) (n := 6) rfl rfl (by omega) (by omega) ?_
                  have I77 : kw_I (bM T) (kw_ui (kw_ui S35 8 x34.toNatClampNeg z70) 9 x34.toNatClampNeg z76) := kw_I_ui I71 (kw_rng z76).1 (Int.le_of_lt_add_one (kw_rng z76).2)
                  have F78 : kw_F [0, 1, 7, 8, 9, 10, 11, 12, 13, 14, 16] σ (kw_ui (kw_ui S35 8 x34.toNatClampNeg z70) 9 x34.toNatClampNeg z76) := kw_F_ui F72 (by decide)
                  refine kw_aload_n (pc := 111) (i := 69) (k := 2) (n := 0) rfl rfl rfl ?_
                  refine kw_get (pc := 112) (i := 70) (v := .ref 10) rfl rfl rfl lkX8_45 (fun _ => rfl) ?_
                  refine kw_iload_n (pc := 115) (i := 71) (k := 0) (n := 3) rfl rfl rfl ?_
                  refine kw_aload_n (pc := 116) (i := 72) (k := 2) (n := 0) rfl rfl rfl ?_
                  refine kw_get (pc := 117) (i := 73) (v := .ref 13) rfl rfl rfl lkX8_54 (fun _ => rfl) ?_
                  refine kw_iconst (pc := 120) (i := 74) (v := 4) rfl rfl ?_
                  refine kw_iload_n (pc := 121) (i := 75) (k := 0) (n := 3) rfl rfl rfl ?_
                  refine kw_imul (pc := 122) (i := 76) rfl (fun z79 e_z79 t_z79 => ?_)
                  rw [show (4 : Int32).toInt = 4 from rfl] at t_z79
                  first | (have u_z79 : z79.toInt = 4 * x34.toInt := (by omega); clear t_z79) | skip
                  refine kw_iconst (pc := 123) (i := 77) (v := 2) rfl rfl ?_
                  refine kw_iadd (pc := 124) (i := 78) rfl (fun z80 e_z80 t_z80 => ?_)
                  first | (have u_z80 : z80.toInt = z79.toInt + 2 := (by omega); clear t_z80) | skip
                  refine kw_iald (pc := 125) (i := 79) (n := 24) rfl rfl (by omega) (by omega) (fun z81 e_z81 => ?_)
                  have t_z81 := congrArg Int32.toInt e_z81
                  have r_z81 := kw_rng z81
                  refine kw_iast (pc := 126) (i := 80) (n := 6) rfl rfl (by omega) (by omega) ?_
                  have I82 : kw_I (bM T) (kw_ui (kw_ui (kw_ui S35 8 x34.toNatClampNeg z70) 9 x34.toNatClampNeg z76) 10 x34.toNatClampNeg z81) := kw_I_ui I77 (kw_rng z81).1 (Int.le_of_lt_add_one (kw_rng z81).2)
                  have F83 : kw_F [0, 1, 7, 8, 9, 10, 11, 12, 13, 14, 16] σ (kw_ui (kw_ui (kw_ui S35 8 x34.toNatClampNeg z70) 9 x34.toNatClampNeg z76) 10 x34.toNatClampNeg z81) := kw_F_ui F78 (by decide)
                  refine kw_aload_n (pc := 127) (i := 81) (k := 2) (n := 0) rfl rfl rfl ?_
                  refine kw_get (pc := 128) (i := 82) (v := .ref 11) rfl rfl rfl lkX8_48 (fun _ => rfl) ?_
                  refine kw_iload_n (pc := 131) (i := 83) (k := 0) (n := 3) rfl rfl rfl ?_
                  refine kw_aload_n (pc := 132) (i := 84) (k := 2) (n := 0) rfl rfl rfl ?_
                  refine kw_get (pc := 133) (i := 85) (v := .ref 13) rfl rfl rfl lkX8_54 (fun _ => rfl) ?_
                  refine kw_iconst (pc := 136) (i := 86) (v := 4) rfl rfl ?_
                  refine kw_iload_n (pc := 137) (i := 87) (k := 0) (n := 3) rfl rfl rfl ?_
                  refine kw_imul (pc := 138) (i := 88) rfl (fun z84 e_z84 t_z84 => ?_)
                  rw [show (4 : Int32).toInt = 4 from rfl] at t_z84
                  first | (have u_z84 : z84.toInt = 4 * x34.toInt := (by omega); clear t_z84) | skip
                  refine kw_iconst (pc := 139) (i := 89) (v := 3) rfl rfl ?_
                  refine kw_iadd (pc := 140) (i := 90) rfl (fun z85 e_z85 t_z85 => ?_)
                  first | (have u_z85 : z85.toInt = z84.toInt + 3 := (by omega); clear t_z85) | skip
                  refine kw_iald (pc := 141) (i := 91) (n := 24) rfl rfl (by omega) (by omega) (fun z86 e_z86 => ?_)
                  have t_z86 := congrArg Int32.toInt e_z86
                  have r_z86 := kw_rng z86
                  refine kw_iast (pc := 142) (i := 92) (n := 6) rfl rfl (by omega) (by omega) ?_
                  have I87 : kw_I (bM T) (kw_ui (kw_ui (kw_ui (kw_ui S35 8 x34.toNatClampNeg z70) 9 x34.toNatClampNeg z76) 10 x34.toNatClampNeg z81) 11 x34.toNatClampNeg z86) := kw_I_ui I82 (kw_rng z86).1 (Int.le_of_lt_add_one (kw_rng z86).2)
                  have F88 : kw_F [0, 1, 7, 8, 9, 10, 11, 12, 13, 14, 16] σ (kw_ui (kw_ui (kw_ui (kw_ui S35 8 x34.toNatClampNeg z70) 9 x34.toNatClampNeg z76) 10 x34.toNatClampNeg z81) 11 x34.toNatClampNeg z86) := kw_F_ui F83 (by decide)
                  refine kw_aload_n (pc := 143) (i := 93) (k := 2) (n := 0) rfl rfl rfl ?_
                  refine kw_get (pc := 144) (i := 94) (v := .ref 14) rfl rfl rfl lkX8_57 (fun _ => rfl) ?_
                  refine kw_iload_n (pc := 147) (i := 95) (k := 0) (n := 3) rfl rfl rfl ?_
                  refine kw_iconst (pc := 148) (i := 96) (v := 0) rfl rfl ?_
                  refine kw_iast (pc := 149) (i := 97) (n := 6) rfl rfl (by omega) (by omega) ?_
                  have I89 : kw_I (bM T) (kw_ui (kw_ui (kw_ui (kw_ui (kw_ui S35 8 x34.toNatClampNeg z70) 9 x34.toNatClampNeg z76) 10 x34.toNatClampNeg z81) 11 x34.toNatClampNeg z86) 14 x34.toNatClampNeg 0) := kw_I_ui I87 (kw_rng (0 : Int32)).1 (Int.le_of_lt_add_one (kw_rng (0 : Int32)).2)
                  have F90 : kw_F [0, 1, 7, 8, 9, 10, 11, 12, 13, 14, 16] σ (kw_ui (kw_ui (kw_ui (kw_ui (kw_ui S35 8 x34.toNatClampNeg z70) 9 x34.toNatClampNeg z76) 10 x34.toNatClampNeg z81) 11 x34.toNatClampNeg z86) 14 x34.toNatClampNeg 0) := kw_F_ui F88 (by decide)
                  refine kw_iinc' (pc := 150) (i := 98) (k := 0) (fun z => [(3, .int z), (2, .int z4), (0, .ref 0), (1, .int a)]) rfl rfl (by decide) rfl (fun _ => rfl) (fun z91 e_z91 t_z91 => ?_)
                  first | (have u_z91 : z91.toInt = x34.toInt + 1 := (by omega); clear t_z91) | skip
                  refine kw_goto (pc := 153) (i := 99) (tgt := 71) rfl rfl ?_
                  refine kw_sub (lv' := [(3, .int z91), (2, .int z4), (0, .ref 0), (1, .int a)]) [0, 1, 2, 3] rfl ?_
                  exact ih39 z91 (kw_ui (kw_ui (kw_ui (kw_ui (kw_ui S35 8 x34.toNatClampNeg z70) 9 x34.toNatClampNeg z76) 10 x34.toNatClampNeg z81) 11 x34.toNatClampNeg z86) 14 x34.toNatClampNeg 0) I89 F90 (by omega) (by omega)
            exact L38 _ 0 S24 I25 F26 (by omega) (Nat.lt_succ_self _)
          · refine kw_aload_n (pc := 51) (i := 29) (k := 2) (n := 0) rfl rfl rfl ?_
            refine kw_get (pc := 52) (i := 30) (v := .ref 7) rfl rfl rfl lkX8_36 (fun _ => rfl) ?_
            refine kw_iload_n (pc := 55) (i := 31) (k := 0) (n := 3) rfl rfl rfl ?_
            refine kw_aload_n (pc := 56) (i := 32) (k := 2) (n := 0) rfl rfl rfl ?_
            refine kw_get (pc := 57) (i := 33) (v := .ref 12) rfl rfl rfl lkX8_51 (fun _ => rfl) ?_
            refine kw_iload_n (pc := 60) (i := 34) (k := 0) (n := 3) rfl rfl rfl ?_
            refine kw_iald (pc := 61) (i := 35) (n := 8) rfl rfl (by omega) (by omega) (fun z92 e_z92 => ?_)
            have t_z92 := congrArg Int32.toInt e_z92
            have r_z92 := kw_rng z92
            refine kw_iast (pc := 62) (i := 36) (n := 8) rfl rfl (by omega) (by omega) ?_
            have I93 : kw_I (bM T) (kw_ui S24 7 x23.toNatClampNeg z92) := kw_I_ui I25 (kw_rng z92).1 (Int.le_of_lt_add_one (kw_rng z92).2)
            have F94 : kw_F [0, 1, 7, 8, 9, 10, 11, 12, 13, 14, 16] σ (kw_ui S24 7 x23.toNatClampNeg z92) := kw_F_ui F26 (by decide)
            refine kw_iinc' (pc := 63) (i := 37) (k := 0) (fun z => [(3, .int z), (2, .int z4), (0, .ref 0), (1, .int a)]) rfl rfl (by decide) rfl (fun _ => rfl) (fun z95 e_z95 t_z95 => ?_)
            first | (have u_z95 : z95.toInt = x23.toInt + 1 := (by omega); clear t_z95) | skip
            refine kw_goto (pc := 66) (i := 38) (tgt := 43) rfl rfl ?_
            refine kw_sub (lv' := [(3, .int z95), (2, .int z4), (0, .ref 0), (1, .int a)]) [0, 1, 2, 3] rfl ?_
            exact ih28 z95 (kw_ui S24 7 x23.toNatClampNeg z92) I93 F94 (by omega) (by omega)
      exact L27 _ 0 (kw_ui (kw_ui S10 0 10 (S10.1 0 19)) 0 11 (S10.1 0 18)) I21 F22 (by omega) (Nat.lt_succ_self _)
    · refine kw_bipush (pc := 22) (i := 13) (v := (-4)) rfl rfl ?_
      exact kw_ireturn (pc := 24) (i := 14) (ty := .int) rfl rfl rfl ⟨⟨I13, F15⟩, _, rfl⟩
  · refine kw_iload_n (pc := 10) (i := 6) (k := 0) (n := 2) rfl rfl rfl ?_
    exact kw_ireturn (pc := 11) (i := 7) (ty := .int) rfl rfl rfl ⟨⟨I5, F7⟩, _, rfl⟩
abbrev p_X8_isLine_0 (T : Int) (σ : kw_S) (i : Int32) : Option Value → kw_S → Prop := fun vv σ' => σ' = σ ∧ ∃ r : Int32, vv = some (.int r) ∧ (r.toInt = 0 ∨ r.toInt = 1) ∧ (r.toInt = 0 ∨ 0 ≤ i.toInt ∧ i.toInt < (σ.1 0 10).toInt ∧ i.toInt ≤ 5)
set_option maxRecDepth 100000 in
set_option maxHeartbeats 4000000 in
theorem c_X8_isLine_0 (l : Launch) (T : Int) (hT0 : 0 ≤ T) (hT1 : T ≤ 3000) (σ : kw_S) (hI : kw_I (bM T) σ) (i : Int32) : kw_Met l 2 KM mX8_isLine [.ref 0, .int i] σ (p_X8_isLine_0 T σ i) := by
  have r_i := kw_rng i
  have q_0 : (0 : Int32).toInt = 0 := rfl
  have q_1 : (1 : Int32).toInt = 1 := rfl
  refine kw_Met.of (by decide) rfl tX8_isLine (Nat.le_of_ble_eq_true rfl) ?_
  show kw_AW l 2 kw_E0 KM mX8_isLine (p_X8_isLine_0 T σ i) 0 [(0, .ref 0), (1, .int i)] [] σ
  refine kw_iload_n (pc := 0) (i := 0) (k := 1) (n := 1) rfl rfl rfl ?_
  refine kw_iconst (pc := 1) (i := 1) (v := 0) rfl rfl ?_
  refine kw_aload_n (pc := 2) (i := 2) (k := 0) (n := 0) rfl rfl rfl ?_
  refine kw_get (pc := 3) (i := 3) (v := .int (σ.1 0 10)) rfl rfl rfl lkX8_163 (fun _ => rfl) ?_
  have b1 : 0 ≤ (σ.1 0 10).toInt ∧ (σ.1 0 10).toInt ≤ 6 := hI 0 10
  refine kw_iconst (pc := 6) (i := 4) (v := 1) rfl rfl ?_
  refine kw_isub (pc := 7) (i := 5) rfl (fun z2 e_z2 t_z2 => ?_)
  first | (have u_z2 : z2.toInt = (σ.1 0 10).toInt - 1 := (by omega); clear t_z2) | skip
  refine kw_callS (pc := 8) (i := 6) (Y := mX8_in) (As := [.int i, .int 0, .int z2]) (st := []) kw_hE rfl lsX8_93 arX8_in (c_X8_in l T (by omega) (by omega) σ hI i 0 z2 ) (by decide) (Nat.le_of_ble_eq_true rfl) rfl (fun v S4 p3 => ?_)
  obtain ⟨e9, z8, rfl, f5, f6, f7⟩ := p3
  rw [e9]
  have r_z8 := kw_rng z8
  show kw_AW l 2 kw_E0 KM mX8_isLine (p_X8_isLine_0 T σ i) 11 [(0, .ref 0), (1, .int i)] [.int z8] σ
  exact kw_ireturn (pc := 11) (i := 7) (ty := .boolean) rfl rfl (kw_nb (by omega)) ⟨rfl, _, rfl, ⟨by omega, by omega⟩⟩
abbrev p_X8_isSet_0 (T : Int) (σ : kw_S) (s : Int32) : Option Value → kw_S → Prop := fun vv σ' => σ' = σ ∧ ∃ r : Int32, vv = some (.int r) ∧ (r.toInt = 0 ∨ r.toInt = 1)
set_option maxRecDepth 100000 in
set_option maxHeartbeats 4000000 in
theorem c_X8_isSet_0 (l : Launch) (T : Int) (hT0 : 0 ≤ T) (hT1 : T ≤ 3000) (σ : kw_S) (hI : kw_I (bM T) σ) (s : Int32) : kw_Met l 2 KM mX8_isSet [.ref 0, .int s] σ (p_X8_isSet_0 T σ s) := by
  have r_s := kw_rng s
  have q_0 : (0 : Int32).toInt = 0 := rfl
  have q_1 : (1 : Int32).toInt = 1 := rfl
  refine kw_Met.of (by decide) rfl tX8_isSet (Nat.le_of_ble_eq_true rfl) ?_
  show kw_AW l 2 kw_E0 KM mX8_isSet (p_X8_isSet_0 T σ s) 0 [(0, .ref 0), (1, .int s)] [] σ
  refine kw_iload_n (pc := 0) (i := 0) (k := 1) (n := 1) rfl rfl rfl ?_
  refine kw_iconst (pc := 1) (i := 1) (v := 0) rfl rfl ?_
  refine kw_iconst (pc := 2) (i := 2) (v := 1) rfl rfl ?_
  refine kw_aload_n (pc := 3) (i := 3) (k := 0) (n := 0) rfl rfl rfl ?_
  refine kw_get (pc := 4) (i := 4) (v := .int (σ.1 0 10)) rfl rfl rfl lkX8_163 (fun _ => rfl) ?_
  have b1 : 0 ≤ (σ.1 0 10).toInt ∧ (σ.1 0 10).toInt ≤ 6 := hI 0 10
  refine kw_ishl (pc := 7) (i := 5) rfl (fun z2 e_z2 => ?_)
  have r_z2 := kw_rng z2
  have t_z2 := kw_shlm (σ.1 0 10) z2 e_z2
  have u_z2 := congrArg Int32.toInt e_z2
  refine kw_iconst (pc := 8) (i := 6) (v := 1) rfl rfl ?_
  refine kw_isub (pc := 9) (i := 7) rfl (fun z3 e_z3 t_z3 => ?_)
  first | (have u_z3 : z3.toInt = z2.toInt - 1 := (by omega); clear t_z3) | skip
  refine kw_callS (pc := 10) (i := 8) (Y := mX8_in) (As := [.int s, .int 0, .int z3]) (st := []) kw_hE rfl lsX8_93 arX8_in (c_X8_in l T (by omega) (by omega) σ hI s 0 z3 ) (by decide) (Nat.le_of_ble_eq_true rfl) rfl (fun v S5 p4 => ?_)
  obtain ⟨e10, z9, rfl, f6, f7, f8⟩ := p4
  rw [e10]
  have r_z9 := kw_rng z9
  show kw_AW l 2 kw_E0 KM mX8_isSet (p_X8_isSet_0 T σ s) 13 [(0, .ref 0), (1, .int s)] [.int z9] σ
  exact kw_ireturn (pc := 13) (i := 9) (ty := .boolean) rfl rfl (kw_nb (by omega)) ⟨rfl, _, rfl, by omega⟩
abbrev p_X8_windAt_0 (T : Int) (σ : kw_S) (h : Int32) : Option Value → kw_S → Prop := fun vv σ' => σ' = σ ∧ ∃ r : Int32, vv = some (.int r)
set_option maxRecDepth 100000 in
set_option maxHeartbeats 4000000 in
theorem c_X8_windAt_0 (l : Launch) (T : Int) (hT0 : 0 ≤ T) (hT1 : T ≤ 3000) (σ : kw_S) (hI : kw_I (bM T) σ) (h : Int32) (hp0 : 0 ≤ h.toInt) : kw_Met l 1 KM mX8_windAt [.ref 0, .int h] σ (p_X8_windAt_0 T σ h) := by
  have r_h := kw_rng h
  refine kw_Met.of (by decide) rfl tX8_windAt (Nat.le_of_ble_eq_true rfl) ?_
  show kw_AW l 1 kw_E0 KM mX8_windAt (p_X8_windAt_0 T σ h) 0 [(0, .ref 0), (1, .int h)] [] σ
  refine kw_aload_n (pc := 0) (i := 0) (k := 0) (n := 0) rfl rfl rfl ?_
  refine kw_get (pc := 1) (i := 1) (v := .ref 7) rfl rfl rfl lkX8_36 (fun _ => rfl) ?_
  refine kw_iload_n (pc := 4) (i := 2) (k := 1) (n := 1) rfl rfl rfl ?_
  refine kw_aload_n (pc := 5) (i := 3) (k := 0) (n := 0) rfl rfl rfl ?_
  refine kw_get (pc := 6) (i := 4) (v := .int (σ.1 0 11)) rfl rfl rfl lkX8_32 (fun _ => rfl) ?_
  have b1 : 1 ≤ (σ.1 0 11).toInt ∧ (σ.1 0 11).toInt ≤ 8 := hI 0 11
  refine kw_irem (pc := 9) (i := 5) rfl (by omega) (fun z2 e_z2 => ?_)
  have r_z2 := kw_rng z2
  have t_z2 := kw_remI h (σ.1 0 11) z2 e_z2
  refine kw_iald (pc := 10) (i := 6) (n := 8) rfl rfl (by omega) (by omega) (fun z3 e_z3 => ?_)
  have t_z3 := congrArg Int32.toInt e_z3
  have r_z3 := kw_rng z3
  exact kw_ireturn (pc := 11) (i := 7) (ty := .int) rfl rfl rfl ⟨rfl, _, rfl⟩
abbrev p_X8_pullBy (T : Int) (σ : kw_S) (kind : Int32) (area : Int32) (w : Int32) : Option Value → kw_S → Prop := fun vv σ' => σ' = σ ∧ ∃ r : Int32, vv = some (.int r)
set_option maxRecDepth 100000 in
set_option maxHeartbeats 4000000 in
theorem c_X8_pullBy (l : Launch) (T : Int) (hT0 : 0 ≤ T) (hT1 : T ≤ 3000) (σ : kw_S) (hI : kw_I (bM T) σ) (kind : Int32) (area : Int32) (w : Int32) : kw_Met l 1 KM mX8_pullBy [.int kind, .int area, .int w] σ (p_X8_pullBy T σ kind area w) := by
  have r_kind := kw_rng kind
  have r_area := kw_rng area
  have r_w := kw_rng w
  have q_0 : (0 : Int32).toInt = 0 := rfl
  have q_2 : (2 : Int32).toInt = 2 := rfl
  have q_3 : (3 : Int32).toInt = 3 := rfl
  refine kw_Met.of (by decide) rfl tX8_pullBy (Nat.le_of_ble_eq_true rfl) ?_
  show kw_AW l 1 kw_E0 KM mX8_pullBy (p_X8_pullBy T σ kind area w) 0 [(0, .int kind), (1, .int area), (2, .int w)] [] σ
  refine kw_iload_n (pc := 0) (i := 0) (k := 1) (n := 1) rfl rfl rfl ?_
  refine kw_iload_n (pc := 1) (i := 1) (k := 2) (n := 2) rfl rfl rfl ?_
  refine kw_imul (pc := 2) (i := 2) rfl (fun z1 e_z1 t_z1 => ?_)
  refine kw_iload_n (pc := 3) (i := 3) (k := 2) (n := 2) rfl rfl rfl ?_
  refine kw_iadd (pc := 4) (i := 4) rfl (fun z2 e_z2 t_z2 => ?_)
  first | (have u_z2 : z2.toInt = z1.toInt + w.toInt := (by omega); clear t_z2) | skip
  refine kw_istore_n (pc := 5) (i := 5) (n := 3) (lv' := [(3, .int z2), (0, .int kind), (1, .int area), (2, .int w)]) rfl rfl (by decide) rfl ?_
  refine kw_iload_n (pc := 6) (i := 6) (k := 1) (n := 0) rfl rfl rfl ?_
  by_cases c3 : kind.toInt = 1
  · refine kw_tableIn (pc := 7) (i := 7) (k := 0) (tgt := 40) rfl (by omega) (by decide) rfl rfl ?_
    refine kw_iload_n (pc := 40) (i := 8) (k := 0) (n := 3) rfl rfl rfl ?_
    exact kw_ireturn (pc := 41) (i := 9) (ty := .int) rfl rfl rfl ⟨rfl, _, rfl⟩
  by_cases c4 : kind.toInt = 2
  · refine kw_tableIn (pc := 7) (i := 7) (k := 1) (tgt := 42) rfl (by omega) (by decide) rfl rfl ?_
    refine kw_iload_n (pc := 42) (i := 10) (k := 3) (n := 2) rfl rfl rfl ?_
    refine kw_iconst (pc := 43) (i := 11) (v := 3) rfl rfl ?_
    refine kw_icmp_ge (pc := 44) (i := 12) (tgt := 51) rfl rfl (fun c5 => ?_) (fun c5 => ?_)
    · refine kw_iload_n (pc := 51) (i := 15) (k := 2) (n := 1) rfl rfl rfl ?_
      refine kw_iload_n (pc := 52) (i := 16) (k := 3) (n := 2) rfl rfl rfl ?_
      refine kw_imul (pc := 53) (i := 17) rfl (fun z6 e_z6 t_z6 => ?_)
      exact kw_ireturn (pc := 54) (i := 18) (ty := .int) rfl rfl rfl ⟨rfl, _, rfl⟩
    · refine kw_iconst (pc := 47) (i := 13) (v := 0) rfl rfl ?_
      refine kw_goto (pc := 48) (i := 14) (tgt := 54) rfl rfl ?_
      exact kw_ireturn (pc := 54) (i := 18) (ty := .int) rfl rfl rfl ⟨rfl, _, rfl⟩
  by_cases c7 : kind.toInt = 3
  · refine kw_tableIn (pc := 7) (i := 7) (k := 2) (tgt := 55) rfl (by omega) (by decide) rfl rfl ?_
    refine kw_iload_n (pc := 55) (i := 19) (k := 2) (n := 1) rfl rfl rfl ?_
    refine kw_ineg (pc := 56) (i := 20) rfl (fun z8 e_z8 t_z8 => ?_)
    refine kw_iload_n (pc := 57) (i := 21) (k := 3) (n := 2) rfl rfl rfl ?_
    refine kw_imul (pc := 58) (i := 22) rfl (fun z9 e_z9 t_z9 => ?_)
    exact kw_ireturn (pc := 59) (i := 23) (ty := .int) rfl rfl rfl ⟨rfl, _, rfl⟩
  by_cases c10 : kind.toInt = 4
  · refine kw_tableIn (pc := 7) (i := 7) (k := 3) (tgt := 60) rfl (by omega) (by decide) rfl rfl ?_
    refine kw_iconst (pc := 60) (i := 24) (v := 2) rfl rfl ?_
    refine kw_iload_n (pc := 61) (i := 25) (k := 0) (n := 3) rfl rfl rfl ?_
    refine kw_imul (pc := 62) (i := 26) rfl (fun z11 e_z11 t_z11 => ?_)
    rw [show (2 : Int32).toInt = 2 from rfl] at t_z11
    first | (have u_z11 : z11.toInt = 2 * z2.toInt := (by omega); clear t_z11) | skip
    exact kw_ireturn (pc := 63) (i := 27) (ty := .int) rfl rfl rfl ⟨rfl, _, rfl⟩
  by_cases c12 : kind.toInt = 5
  · refine kw_tableIn (pc := 7) (i := 7) (k := 4) (tgt := 64) rfl (by omega) (by decide) rfl rfl ?_
    refine kw_iconst (pc := 64) (i := 28) (v := 2) rfl rfl ?_
    refine kw_iload_n (pc := 65) (i := 29) (k := 0) (n := 3) rfl rfl rfl ?_
    refine kw_imul (pc := 66) (i := 30) rfl (fun z13 e_z13 t_z13 => ?_)
    rw [show (2 : Int32).toInt = 2 from rfl] at t_z13
    first | (have u_z13 : z13.toInt = 2 * z2.toInt := (by omega); clear t_z13) | skip
    refine kw_iconst (pc := 67) (i := 31) (v := 3) rfl rfl ?_
    refine kw_idiv (pc := 68) (i := 32) rfl (by omega) (fun z14 e_z14 => ?_)
    have r_z14 := kw_rng z14
    exact kw_ireturn (pc := 69) (i := 33) (ty := .int) rfl rfl rfl ⟨rfl, _, rfl⟩
  refine kw_tableOut (pc := 7) (i := 7) (tgt := 70) rfl (by omega) rfl ?_
  refine kw_iload_n (pc := 70) (i := 34) (k := 2) (n := 1) rfl rfl rfl ?_
  refine kw_iload_n (pc := 71) (i := 35) (k := 3) (n := 2) rfl rfl rfl ?_
  refine kw_imul (pc := 72) (i := 36) rfl (fun z15 e_z15 t_z15 => ?_)
  exact kw_ireturn (pc := 73) (i := 37) (ty := .int) rfl rfl rfl ⟨rfl, _, rfl⟩
abbrev p_X8_pullOf_0 (T : Int) (σ : kw_S) (i : Int32) (w : Int32) : Option Value → kw_S → Prop := fun vv σ' => σ' = σ ∧ ∃ r : Int32, vv = some (.int r)
set_option maxRecDepth 100000 in
set_option maxHeartbeats 4000000 in
theorem c_X8_pullOf_0 (l : Launch) (T : Int) (hT0 : 0 ≤ T) (hT1 : T ≤ 3000) (σ : kw_S) (hI : kw_I (bM T) σ) (i : Int32) (w : Int32) (hp0 : 0 ≤ i.toInt) (hp1 : i.toInt ≤ 5) : kw_Met l 2 KM mX8_pullOf [.ref 0, .int i, .int w] σ (p_X8_pullOf_0 T σ i w) := by
  have r_i := kw_rng i
  have r_w := kw_rng w
  refine kw_Met.of (by decide) rfl tX8_pullOf (Nat.le_of_ble_eq_true rfl) ?_
  show kw_AW l 2 kw_E0 KM mX8_pullOf (p_X8_pullOf_0 T σ i w) 0 [(0, .ref 0), (1, .int i), (2, .int w)] [] σ
  refine kw_aload_n (pc := 0) (i := 0) (k := 0) (n := 0) rfl rfl rfl ?_
  refine kw_get (pc := 1) (i := 1) (v := .ref 8) rfl rfl rfl lkX8_39 (fun _ => rfl) ?_
  refine kw_iload_n (pc := 4) (i := 2) (k := 1) (n := 1) rfl rfl rfl ?_
  refine kw_iald (pc := 5) (i := 3) (n := 6) rfl rfl (by omega) (by omega) (fun z1 e_z1 => ?_)
  have t_z1 := congrArg Int32.toInt e_z1
  have r_z1 := kw_rng z1
  refine kw_aload_n (pc := 6) (i := 4) (k := 0) (n := 0) rfl rfl rfl ?_
  refine kw_get (pc := 7) (i := 5) (v := .ref 10) rfl rfl rfl lkX8_45 (fun _ => rfl) ?_
  refine kw_iload_n (pc := 10) (i := 6) (k := 1) (n := 1) rfl rfl rfl ?_
  refine kw_iald (pc := 11) (i := 7) (n := 6) rfl rfl (by omega) (by omega) (fun z2 e_z2 => ?_)
  have t_z2 := congrArg Int32.toInt e_z2
  have r_z2 := kw_rng z2
  refine kw_iload_n (pc := 12) (i := 8) (k := 2) (n := 2) rfl rfl rfl ?_
  refine kw_callS (pc := 13) (i := 9) (Y := mX8_pullBy) (As := [.int z1, .int z2, .int w]) (st := []) kw_hE rfl lsX8_181 arX8_pullBy (c_X8_pullBy l T (by omega) (by omega) σ hI z1 z2 w ) (by decide) (Nat.le_of_ble_eq_true rfl) rfl (fun v S4 p3 => ?_)
  obtain ⟨e6, z5, rfl⟩ := p3
  rw [e6]
  have r_z5 := kw_rng z5
  show kw_AW l 2 kw_E0 KM mX8_pullOf (p_X8_pullOf_0 T σ i w) 16 [(0, .ref 0), (1, .int i), (2, .int w)] [.int z5] σ
  exact kw_ireturn (pc := 16) (i := 10) (ty := .int) rfl rfl rfl ⟨rfl, _, rfl⟩
abbrev p_X8_milesBy_0 (T : Int) (σ : kw_S) (s : Int32) (w : Int32) : Option Value → kw_S → Prop := fun vv σ' => σ' = σ ∧ ∃ r : Int32, vv = some (.int r)
set_option maxRecDepth 100000 in
set_option maxHeartbeats 4000000 in
theorem c_X8_milesBy_0 (l : Launch) (T : Int) (hT0 : 0 ≤ T) (hT1 : T ≤ 3000) (σ : kw_S) (hI : kw_I (bM T) σ) (s : Int32) (w : Int32) : kw_Met l 3 KM mX8_milesBy [.ref 0, .int s, .int w] σ (p_X8_milesBy_0 T σ s w) := by
  have r_s := kw_rng s
  have r_w := kw_rng w
  have q_0 : (0 : Int32).toInt = 0 := rfl
  have q_4 : (4 : Int32).toInt = 4 := rfl
  refine kw_Met.of (by decide) rfl tX8_milesBy (Nat.le_of_ble_eq_true rfl) ?_
  show kw_AW l 3 kw_E0 KM mX8_milesBy (p_X8_milesBy_0 T σ s w) 0 [(0, .ref 0), (1, .int s), (2, .int w)] [] σ
  refine kw_iconst (pc := 0) (i := 0) (v := 0) rfl rfl ?_
  refine kw_istore_n (pc := 1) (i := 1) (n := 3) (lv' := [(3, .int 0), (0, .ref 0), (1, .int s), (2, .int w)]) rfl rfl (by decide) rfl ?_
  refine kw_iconst (pc := 2) (i := 2) (v := 0) rfl rfl ?_
  refine kw_istore (pc := 3) (i := 3) (n := 4) (lv' := [(4, .int 0), (3, .int 0), (0, .ref 0), (1, .int s), (2, .int w)]) rfl (by decide) rfl ?_
  have L3 : ∀ (n7 : Nat) (x1 : Int32) (x2 : Int32), 0 ≤ x1.toInt → (7 - x1.toInt).toNat < n7 → kw_AW l 3 kw_E0 KM mX8_milesBy (p_X8_milesBy_0 T σ s w) 5 [(4, .int x1), (3, .int x2), (0, .ref 0), (1, .int s), (2, .int w)] [] σ := by
    intro n7
    induction n7 with
    | zero => intro x1 x2 v5 m6; exact absurd m6 (Nat.not_lt_zero _)
    | succ n7 ih4 =>
      intro x1 x2 v5 m6
      have r_x1 := kw_rng x1
      have r_x2 := kw_rng x2
      refine kw_iload (pc := 5) (i := 4) (k := 0) (n := 4) rfl rfl ?_
      refine kw_aload_n (pc := 7) (i := 5) (k := 2) (n := 0) rfl rfl rfl ?_
      refine kw_get (pc := 8) (i := 6) (v := .int (σ.1 0 10)) rfl rfl rfl lkX8_163 (fun _ => rfl) ?_
      have b8 : 0 ≤ (σ.1 0 10).toInt ∧ (σ.1 0 10).toInt ≤ 6 := hI 0 10
      refine kw_icmp_ge (pc := 11) (i := 7) (tgt := 43) rfl rfl (fun c9 => ?_) (fun c9 => ?_)
      · refine kw_iload_n (pc := 43) (i := 23) (k := 1) (n := 3) rfl rfl rfl ?_
        refine kw_iconst (pc := 44) (i := 24) (v := 4) rfl rfl ?_
        refine kw_idiv (pc := 45) (i := 25) rfl (by omega) (fun z10 e_z10 => ?_)
        have r_z10 := kw_rng z10
        exact kw_ireturn (pc := 46) (i := 26) (ty := .int) rfl rfl rfl ⟨rfl, _, rfl⟩
      · refine kw_iload_n (pc := 14) (i := 8) (k := 1) (n := 3) rfl rfl rfl ?_
        refine kw_iload_n (pc := 15) (i := 9) (k := 3) (n := 1) rfl rfl rfl ?_
        refine kw_iload (pc := 16) (i := 10) (k := 0) (n := 4) rfl rfl ?_
        refine kw_callS (pc := 18) (i := 11) (Y := mX8_has) (As := [.int s, .int x1]) (st := [.int x2]) kw_hE rfl lsX8_185 arX8_has (c_X8_has l T (by omega) (by omega) σ hI s x1 ) (by decide) (Nat.le_of_ble_eq_true rfl) rfl (fun v S12 p11 => ?_)
        obtain ⟨e15, z14, rfl, f13⟩ := p11
        rw [e15]
        have r_z14 := kw_rng z14
        show kw_AW l 3 kw_E0 KM mX8_milesBy (p_X8_milesBy_0 T σ s w) 21 [(4, .int x1), (3, .int x2), (0, .ref 0), (1, .int s), (2, .int w)] [.int z14, .int x2] σ
        refine kw_if_eq (pc := 21) (i := 12) (tgt := 34) rfl rfl (fun c16 => ?_) (fun c16 => ?_)
        · refine kw_iconst (pc := 34) (i := 18) (v := 0) rfl rfl ?_
          refine kw_iadd (pc := 35) (i := 19) rfl (fun z17 e_z17 t_z17 => ?_)
          first | (have u_z17 : z17.toInt = x2.toInt + 0 := (by omega); clear t_z17) | skip
          refine kw_istore_n (pc := 36) (i := 20) (n := 3) (lv' := [(3, .int z17), (4, .int x1), (0, .ref 0), (1, .int s), (2, .int w)]) rfl rfl (by decide) rfl ?_
          refine kw_iinc' (pc := 37) (i := 21) (k := 1) (fun z => [(4, .int z), (3, .int z17), (0, .ref 0), (1, .int s), (2, .int w)]) rfl rfl (by decide) rfl (fun _ => rfl) (fun z18 e_z18 t_z18 => ?_)
          first | (have u_z18 : z18.toInt = x1.toInt + 1 := (by omega); clear t_z18) | skip
          refine kw_goto (pc := 40) (i := 22) (tgt := 5) rfl rfl ?_
          refine kw_sub (lv' := [(4, .int z18), (3, .int z17), (0, .ref 0), (1, .int s), (2, .int w)]) [0, 1, 2, 3, 4] rfl ?_
          exact ih4 z18 z17 (by omega) (by omega)
        · refine kw_aload_n (pc := 24) (i := 13) (k := 2) (n := 0) rfl rfl rfl ?_
          refine kw_iload (pc := 25) (i := 14) (k := 0) (n := 4) rfl rfl ?_
          refine kw_iload_n (pc := 27) (i := 15) (k := 4) (n := 2) rfl rfl rfl ?_
          refine kw_callV (pc := 28) (i := 16) (Y := mX8_pullOf) (a := 0) (As := [.int x1, .int w]) (st := [.int x2]) kw_hE rfl rfl lvX8_189 arX8_pullOf (c_X8_pullOf_0 l T (by omega) (by omega) σ hI x1 w (by first | omega | decide) (by first | omega | decide)) (by decide) (Nat.le_of_ble_eq_true rfl) rfl (fun v S20 p19 => ?_)
          obtain ⟨e22, z21, rfl⟩ := p19
          rw [e22]
          have r_z21 := kw_rng z21
          show kw_AW l 3 kw_E0 KM mX8_milesBy (p_X8_milesBy_0 T σ s w) 31 [(4, .int x1), (3, .int x2), (0, .ref 0), (1, .int s), (2, .int w)] [.int z21, .int x2] σ
          refine kw_goto (pc := 31) (i := 17) (tgt := 35) rfl rfl ?_
          refine kw_iadd (pc := 35) (i := 19) rfl (fun z23 e_z23 t_z23 => ?_)
          first | (have u_z23 : z23.toInt = x2.toInt + z21.toInt := (by omega); clear t_z23) | skip
          refine kw_istore_n (pc := 36) (i := 20) (n := 3) (lv' := [(3, .int z23), (4, .int x1), (0, .ref 0), (1, .int s), (2, .int w)]) rfl rfl (by decide) rfl ?_
          refine kw_iinc' (pc := 37) (i := 21) (k := 1) (fun z => [(4, .int z), (3, .int z23), (0, .ref 0), (1, .int s), (2, .int w)]) rfl rfl (by decide) rfl (fun _ => rfl) (fun z24 e_z24 t_z24 => ?_)
          first | (have u_z24 : z24.toInt = x1.toInt + 1 := (by omega); clear t_z24) | skip
          refine kw_goto (pc := 40) (i := 22) (tgt := 5) rfl rfl ?_
          refine kw_sub (lv' := [(4, .int z24), (3, .int z23), (0, .ref 0), (1, .int s), (2, .int w)]) [0, 1, 2, 3, 4] rfl ?_
          exact ih4 z24 z23 (by omega) (by omega)
  exact L3 _ 0 0 (by omega) (Nat.lt_succ_self _)
abbrev p_X8_turnBy_0 (T : Int) (σ : kw_S) (s : Int32) (w : Int32) : Option Value → kw_S → Prop := fun vv σ' => σ' = σ ∧ ∃ r : Int32, vv = some (.int r)
set_option maxRecDepth 100000 in
set_option maxHeartbeats 4000000 in
theorem c_X8_turnBy_0 (l : Launch) (T : Int) (hT0 : 0 ≤ T) (hT1 : T ≤ 3000) (σ : kw_S) (hI : kw_I (bM T) σ) (s : Int32) (w : Int32) : kw_Met l 3 KM mX8_turnBy [.ref 0, .int s, .int w] σ (p_X8_turnBy_0 T σ s w) := by
  have r_s := kw_rng s
  have r_w := kw_rng w
  have q_0 : (0 : Int32).toInt = 0 := rfl
  refine kw_Met.of (by decide) rfl tX8_turnBy (Nat.le_of_ble_eq_true rfl) ?_
  show kw_AW l 3 kw_E0 KM mX8_turnBy (p_X8_turnBy_0 T σ s w) 0 [(0, .ref 0), (1, .int s), (2, .int w)] [] σ
  refine kw_iconst (pc := 0) (i := 0) (v := 0) rfl rfl ?_
  refine kw_istore_n (pc := 1) (i := 1) (n := 3) (lv' := [(3, .int 0), (0, .ref 0), (1, .int s), (2, .int w)]) rfl rfl (by decide) rfl ?_
  refine kw_iconst (pc := 2) (i := 2) (v := 0) rfl rfl ?_
  refine kw_istore (pc := 3) (i := 3) (n := 4) (lv' := [(4, .int 0), (3, .int 0), (0, .ref 0), (1, .int s), (2, .int w)]) rfl (by decide) rfl ?_
  have L3 : ∀ (n7 : Nat) (x1 : Int32) (x2 : Int32), 0 ≤ x1.toInt → (7 - x1.toInt).toNat < n7 → kw_AW l 3 kw_E0 KM mX8_turnBy (p_X8_turnBy_0 T σ s w) 5 [(4, .int x1), (3, .int x2), (0, .ref 0), (1, .int s), (2, .int w)] [] σ := by
    intro n7
    induction n7 with
    | zero => intro x1 x2 v5 m6; exact absurd m6 (Nat.not_lt_zero _)
    | succ n7 ih4 =>
      intro x1 x2 v5 m6
      have r_x1 := kw_rng x1
      have r_x2 := kw_rng x2
      refine kw_iload (pc := 5) (i := 4) (k := 0) (n := 4) rfl rfl ?_
      refine kw_aload_n (pc := 7) (i := 5) (k := 2) (n := 0) rfl rfl rfl ?_
      refine kw_get (pc := 8) (i := 6) (v := .int (σ.1 0 10)) rfl rfl rfl lkX8_163 (fun _ => rfl) ?_
      have b8 : 0 ≤ (σ.1 0 10).toInt ∧ (σ.1 0 10).toInt ≤ 6 := hI 0 10
      refine kw_icmp_ge (pc := 11) (i := 7) (tgt := 51) rfl rfl (fun c9 => ?_) (fun c9 => ?_)
      · refine kw_iload_n (pc := 51) (i := 28) (k := 1) (n := 3) rfl rfl rfl ?_
        exact kw_ireturn (pc := 52) (i := 29) (ty := .int) rfl rfl rfl ⟨rfl, _, rfl⟩
      · refine kw_iload_n (pc := 14) (i := 8) (k := 1) (n := 3) rfl rfl rfl ?_
        refine kw_iload_n (pc := 15) (i := 9) (k := 3) (n := 1) rfl rfl rfl ?_
        refine kw_iload (pc := 16) (i := 10) (k := 0) (n := 4) rfl rfl ?_
        refine kw_callS (pc := 18) (i := 11) (Y := mX8_has) (As := [.int s, .int x1]) (st := [.int x2]) kw_hE rfl lsX8_185 arX8_has (c_X8_has l T (by omega) (by omega) σ hI s x1 ) (by decide) (Nat.le_of_ble_eq_true rfl) rfl (fun v S11 p10 => ?_)
        obtain ⟨e14, z13, rfl, f12⟩ := p10
        rw [e14]
        have r_z13 := kw_rng z13
        show kw_AW l 3 kw_E0 KM mX8_turnBy (p_X8_turnBy_0 T σ s w) 21 [(4, .int x1), (3, .int x2), (0, .ref 0), (1, .int s), (2, .int w)] [.int z13, .int x2] σ
        refine kw_if_eq (pc := 21) (i := 12) (tgt := 42) rfl rfl (fun c15 => ?_) (fun c15 => ?_)
        · refine kw_iconst (pc := 42) (i := 23) (v := 0) rfl rfl ?_
          refine kw_iadd (pc := 43) (i := 24) rfl (fun z16 e_z16 t_z16 => ?_)
          first | (have u_z16 : z16.toInt = x2.toInt + 0 := (by omega); clear t_z16) | skip
          refine kw_istore_n (pc := 44) (i := 25) (n := 3) (lv' := [(3, .int z16), (4, .int x1), (0, .ref 0), (1, .int s), (2, .int w)]) rfl rfl (by decide) rfl ?_
          refine kw_iinc' (pc := 45) (i := 26) (k := 1) (fun z => [(4, .int z), (3, .int z16), (0, .ref 0), (1, .int s), (2, .int w)]) rfl rfl (by decide) rfl (fun _ => rfl) (fun z17 e_z17 t_z17 => ?_)
          first | (have u_z17 : z17.toInt = x1.toInt + 1 := (by omega); clear t_z17) | skip
          refine kw_goto (pc := 48) (i := 27) (tgt := 5) rfl rfl ?_
          refine kw_sub (lv' := [(4, .int z17), (3, .int z16), (0, .ref 0), (1, .int s), (2, .int w)]) [0, 1, 2, 3, 4] rfl ?_
          exact ih4 z17 z16 (by omega) (by omega)
        · refine kw_aload_n (pc := 24) (i := 13) (k := 2) (n := 0) rfl rfl rfl ?_
          refine kw_iload (pc := 25) (i := 14) (k := 0) (n := 4) rfl rfl ?_
          refine kw_iload_n (pc := 27) (i := 15) (k := 4) (n := 2) rfl rfl rfl ?_
          refine kw_callV (pc := 28) (i := 16) (Y := mX8_pullOf) (a := 0) (As := [.int x1, .int w]) (st := [.int x2]) kw_hE rfl rfl lvX8_189 arX8_pullOf (c_X8_pullOf_0 l T (by omega) (by omega) σ hI x1 w (by first | omega | decide) (by first | omega | decide)) (by decide) (Nat.le_of_ble_eq_true rfl) rfl (fun v S19 p18 => ?_)
          obtain ⟨e21, z20, rfl⟩ := p18
          rw [e21]
          have r_z20 := kw_rng z20
          show kw_AW l 3 kw_E0 KM mX8_turnBy (p_X8_turnBy_0 T σ s w) 31 [(4, .int x1), (3, .int x2), (0, .ref 0), (1, .int s), (2, .int w)] [.int z20, .int x2] σ
          refine kw_aload_n (pc := 31) (i := 17) (k := 2) (n := 0) rfl rfl rfl ?_
          refine kw_get (pc := 32) (i := 18) (v := .ref 9) rfl rfl rfl lkX8_42 (fun _ => rfl) ?_
          refine kw_iload (pc := 35) (i := 19) (k := 0) (n := 4) rfl rfl ?_
          refine kw_iald (pc := 37) (i := 20) (n := 6) rfl rfl (by omega) (by omega) (fun z22 e_z22 => ?_)
          have t_z22 := congrArg Int32.toInt e_z22
          have r_z22 := kw_rng z22
          refine kw_imul (pc := 38) (i := 21) rfl (fun z23 e_z23 t_z23 => ?_)
          refine kw_goto (pc := 39) (i := 22) (tgt := 43) rfl rfl ?_
          refine kw_iadd (pc := 43) (i := 24) rfl (fun z24 e_z24 t_z24 => ?_)
          first | (have u_z24 : z24.toInt = x2.toInt + z23.toInt := (by omega); clear t_z24) | skip
          refine kw_istore_n (pc := 44) (i := 25) (n := 3) (lv' := [(3, .int z24), (4, .int x1), (0, .ref 0), (1, .int s), (2, .int w)]) rfl rfl (by decide) rfl ?_
          refine kw_iinc' (pc := 45) (i := 26) (k := 1) (fun z => [(4, .int z), (3, .int z24), (0, .ref 0), (1, .int s), (2, .int w)]) rfl rfl (by decide) rfl (fun _ => rfl) (fun z25 e_z25 t_z25 => ?_)
          first | (have u_z25 : z25.toInt = x1.toInt + 1 := (by omega); clear t_z25) | skip
          refine kw_goto (pc := 48) (i := 27) (tgt := 5) rfl rfl ?_
          refine kw_sub (lv' := [(4, .int z25), (3, .int z24), (0, .ref 0), (1, .int s), (2, .int w)]) [0, 1, 2, 3, 4] rfl ?_
          exact ih4 z25 z24 (by omega) (by omega)
  exact L3 _ 0 0 (by omega) (Nat.lt_succ_self _)
abbrev p_X8_linenOf_0 (T : Int) (σ : kw_S) (s : Int32) : Option Value → kw_S → Prop := fun vv σ' => σ' = σ ∧ ∃ r : Int32, vv = some (.int r)
set_option maxRecDepth 100000 in
set_option maxHeartbeats 4000000 in
theorem c_X8_linenOf_0 (l : Launch) (T : Int) (hT0 : 0 ≤ T) (hT1 : T ≤ 3000) (σ : kw_S) (hI : kw_I (bM T) σ) (s : Int32) : kw_Met l 2 KM mX8_linenOf [.ref 0, .int s] σ (p_X8_linenOf_0 T σ s) := by
  have r_s := kw_rng s
  have q_0 : (0 : Int32).toInt = 0 := rfl
  refine kw_Met.of (by decide) rfl tX8_linenOf (Nat.le_of_ble_eq_true rfl) ?_
  show kw_AW l 2 kw_E0 KM mX8_linenOf (p_X8_linenOf_0 T σ s) 0 [(0, .ref 0), (1, .int s)] [] σ
  refine kw_iconst (pc := 0) (i := 0) (v := 0) rfl rfl ?_
  refine kw_istore_n (pc := 1) (i := 1) (n := 2) (lv' := [(2, .int 0), (0, .ref 0), (1, .int s)]) rfl rfl (by decide) rfl ?_
  refine kw_iconst (pc := 2) (i := 2) (v := 0) rfl rfl ?_
  refine kw_istore_n (pc := 3) (i := 3) (n := 3) (lv' := [(3, .int 0), (2, .int 0), (0, .ref 0), (1, .int s)]) rfl rfl (by decide) rfl ?_
  have L3 : ∀ (n7 : Nat) (x1 : Int32) (x2 : Int32), 0 ≤ x1.toInt → (7 - x1.toInt).toNat < n7 → kw_AW l 2 kw_E0 KM mX8_linenOf (p_X8_linenOf_0 T σ s) 4 [(3, .int x1), (2, .int x2), (0, .ref 0), (1, .int s)] [] σ := by
    intro n7
    induction n7 with
    | zero => intro x1 x2 v5 m6; exact absurd m6 (Nat.not_lt_zero _)
    | succ n7 ih4 =>
      intro x1 x2 v5 m6
      have r_x1 := kw_rng x1
      have r_x2 := kw_rng x2
      refine kw_iload_n (pc := 4) (i := 4) (k := 0) (n := 3) rfl rfl rfl ?_
      refine kw_aload_n (pc := 5) (i := 5) (k := 2) (n := 0) rfl rfl rfl ?_
      refine kw_get (pc := 6) (i := 6) (v := .int (σ.1 0 10)) rfl rfl rfl lkX8_163 (fun _ => rfl) ?_
      have b8 : 0 ≤ (σ.1 0 10).toInt ∧ (σ.1 0 10).toInt ≤ 6 := hI 0 10
      refine kw_icmp_ge (pc := 9) (i := 7) (tgt := 39) rfl rfl (fun c9 => ?_) (fun c9 => ?_)
      · refine kw_iload_n (pc := 39) (i := 23) (k := 1) (n := 2) rfl rfl rfl ?_
        exact kw_ireturn (pc := 40) (i := 24) (ty := .int) rfl rfl rfl ⟨rfl, _, rfl⟩
      · refine kw_iload_n (pc := 12) (i := 8) (k := 1) (n := 2) rfl rfl rfl ?_
        refine kw_iload_n (pc := 13) (i := 9) (k := 3) (n := 1) rfl rfl rfl ?_
        refine kw_iload_n (pc := 14) (i := 10) (k := 0) (n := 3) rfl rfl rfl ?_
        refine kw_callS (pc := 15) (i := 11) (Y := mX8_has) (As := [.int s, .int x1]) (st := [.int x2]) kw_hE rfl lsX8_185 arX8_has (c_X8_has l T (by omega) (by omega) σ hI s x1 ) (by decide) (Nat.le_of_ble_eq_true rfl) rfl (fun v S11 p10 => ?_)
        obtain ⟨e14, z13, rfl, f12⟩ := p10
        rw [e14]
        have r_z13 := kw_rng z13
        show kw_AW l 2 kw_E0 KM mX8_linenOf (p_X8_linenOf_0 T σ s) 18 [(3, .int x1), (2, .int x2), (0, .ref 0), (1, .int s)] [.int z13, .int x2] σ
        refine kw_if_eq (pc := 18) (i := 12) (tgt := 30) rfl rfl (fun c15 => ?_) (fun c15 => ?_)
        · refine kw_iconst (pc := 30) (i := 18) (v := 0) rfl rfl ?_
          refine kw_iadd (pc := 31) (i := 19) rfl (fun z16 e_z16 t_z16 => ?_)
          first | (have u_z16 : z16.toInt = x2.toInt + 0 := (by omega); clear t_z16) | skip
          refine kw_istore_n (pc := 32) (i := 20) (n := 2) (lv' := [(2, .int z16), (3, .int x1), (0, .ref 0), (1, .int s)]) rfl rfl (by decide) rfl ?_
          refine kw_iinc' (pc := 33) (i := 21) (k := 1) (fun z => [(3, .int z), (2, .int z16), (0, .ref 0), (1, .int s)]) rfl rfl (by decide) rfl (fun _ => rfl) (fun z17 e_z17 t_z17 => ?_)
          first | (have u_z17 : z17.toInt = x1.toInt + 1 := (by omega); clear t_z17) | skip
          refine kw_goto (pc := 36) (i := 22) (tgt := 4) rfl rfl ?_
          refine kw_sub (lv' := [(3, .int z17), (2, .int z16), (0, .ref 0), (1, .int s)]) [0, 1, 2, 3] rfl ?_
          exact ih4 z17 z16 (by omega) (by omega)
        · refine kw_aload_n (pc := 21) (i := 13) (k := 2) (n := 0) rfl rfl rfl ?_
          refine kw_get (pc := 22) (i := 14) (v := .ref 11) rfl rfl rfl lkX8_48 (fun _ => rfl) ?_
          refine kw_iload_n (pc := 25) (i := 15) (k := 0) (n := 3) rfl rfl rfl ?_
          refine kw_iald (pc := 26) (i := 16) (n := 6) rfl rfl (by omega) (by omega) (fun z18 e_z18 => ?_)
          have t_z18 := congrArg Int32.toInt e_z18
          have r_z18 := kw_rng z18
          refine kw_goto (pc := 27) (i := 17) (tgt := 31) rfl rfl ?_
          refine kw_iadd (pc := 31) (i := 19) rfl (fun z19 e_z19 t_z19 => ?_)
          first | (have u_z19 : z19.toInt = x2.toInt + z18.toInt := (by omega); clear t_z19) | skip
          refine kw_istore_n (pc := 32) (i := 20) (n := 2) (lv' := [(2, .int z19), (3, .int x1), (0, .ref 0), (1, .int s)]) rfl rfl (by decide) rfl ?_
          refine kw_iinc' (pc := 33) (i := 21) (k := 1) (fun z => [(3, .int z), (2, .int z19), (0, .ref 0), (1, .int s)]) rfl rfl (by decide) rfl (fun _ => rfl) (fun z20 e_z20 t_z20 => ?_)
          first | (have u_z20 : z20.toInt = x1.toInt + 1 := (by omega); clear t_z20) | skip
          refine kw_goto (pc := 36) (i := 22) (tgt := 4) rfl rfl ?_
          refine kw_sub (lv' := [(3, .int z20), (2, .int z19), (0, .ref 0), (1, .int s)]) [0, 1, 2, 3] rfl ?_
          exact ih4 z20 z19 (by omega) (by omega)
  exact L3 _ 0 0 (by omega) (Nat.lt_succ_self _)
abbrev p_X8_bits (T : Int) (σ : kw_S) (s : Int32) : Option Value → kw_S → Prop := fun vv σ' => σ' = σ ∧ ∃ r : Int32, vv = some (.int r)
set_option maxRecDepth 100000 in
set_option maxHeartbeats 4000000 in
theorem c_X8_bits (l : Launch) (T : Int) (hT0 : 0 ≤ T) (hT1 : T ≤ 3000) (σ : kw_S) (hI : kw_I (bM T) σ) (s : Int32) : kw_Met l 1 KM mX8_bits [.int s] σ (p_X8_bits T σ s) := by
  have r_s := kw_rng s
  have q_0 : (0 : Int32).toInt = 0 := rfl
  have q_1 : (1 : Int32).toInt = 1 := rfl
  have q_6 : (6 : Int32).toInt = 6 := rfl
  refine kw_Met.of (by decide) rfl tX8_bits (Nat.le_of_ble_eq_true rfl) ?_
  show kw_AW l 1 kw_E0 KM mX8_bits (p_X8_bits T σ s) 0 [(0, .int s)] [] σ
  refine kw_iconst (pc := 0) (i := 0) (v := 0) rfl rfl ?_
  refine kw_istore_n (pc := 1) (i := 1) (n := 1) (lv' := [(1, .int 0), (0, .int s)]) rfl rfl (by decide) rfl ?_
  refine kw_iconst (pc := 2) (i := 2) (v := 0) rfl rfl ?_
  refine kw_istore_n (pc := 3) (i := 3) (n := 2) (lv' := [(2, .int 0), (1, .int 0), (0, .int s)]) rfl rfl (by decide) rfl ?_
  have L3 : ∀ (n7 : Nat) (x1 : Int32) (x2 : Int32), 0 ≤ x1.toInt → (7 - x1.toInt).toNat < n7 → kw_AW l 1 kw_E0 KM mX8_bits (p_X8_bits T σ s) 4 [(2, .int x1), (1, .int x2), (0, .int s)] [] σ := by
    intro n7
    induction n7 with
    | zero => intro x1 x2 v5 m6; exact absurd m6 (Nat.not_lt_zero _)
    | succ n7 ih4 =>
      intro x1 x2 v5 m6
      have r_x1 := kw_rng x1
      have r_x2 := kw_rng x2
      refine kw_iload_n (pc := 4) (i := 4) (k := 0) (n := 2) rfl rfl rfl ?_
      refine kw_bipush (pc := 5) (i := 5) (v := 6) rfl rfl ?_
      refine kw_icmp_ge (pc := 7) (i := 6) (tgt := 24) rfl rfl (fun c8 => ?_) (fun c8 => ?_)
      · refine kw_iload_n (pc := 24) (i := 17) (k := 1) (n := 1) rfl rfl rfl ?_
        exact kw_ireturn (pc := 25) (i := 18) (ty := .int) rfl rfl rfl ⟨rfl, _, rfl⟩
      · refine kw_iload_n (pc := 10) (i := 7) (k := 1) (n := 1) rfl rfl rfl ?_
        refine kw_iload_n (pc := 11) (i := 8) (k := 2) (n := 0) rfl rfl rfl ?_
        refine kw_iload_n (pc := 12) (i := 9) (k := 0) (n := 2) rfl rfl rfl ?_
        refine kw_ishr (pc := 13) (i := 10) rfl (fun z9 e_z9 => ?_)
        have r_z9 := kw_rng z9
        refine kw_iconst (pc := 14) (i := 11) (v := 1) rfl rfl ?_
        refine kw_iand (pc := 15) (i := 12) rfl (fun z10 e_z10 => ?_)
        have r_z10 := kw_rng z10
        have t_z10 := kw_andI z9 (1 : Int32) z10 e_z10
        refine kw_iadd (pc := 16) (i := 13) rfl (fun z11 e_z11 t_z11 => ?_)
        first | (have u_z11 : z11.toInt = x2.toInt + z10.toInt := (by omega); clear t_z11) | skip
        refine kw_istore_n (pc := 17) (i := 14) (n := 1) (lv' := [(1, .int z11), (2, .int x1), (0, .int s)]) rfl rfl (by decide) rfl ?_
        refine kw_iinc' (pc := 18) (i := 15) (k := 1) (fun z => [(2, .int z), (1, .int z11), (0, .int s)]) rfl rfl (by decide) rfl (fun _ => rfl) (fun z12 e_z12 t_z12 => ?_)
        first | (have u_z12 : z12.toInt = x1.toInt + 1 := (by omega); clear t_z12) | skip
        refine kw_goto (pc := 21) (i := 16) (tgt := 4) rfl rfl ?_
        refine kw_sub (lv' := [(2, .int z12), (1, .int z11), (0, .int s)]) [0, 1, 2] rfl ?_
        exact ih4 z12 z11 (by omega) (by omega)
  exact L3 _ 0 0 (by omega) (Nat.lt_succ_self _)
