abbrev p_X8_lineOf_0 (T : Int) (σ : kw_S) (i : Int32) (w : Int32) : Option Value → kw_S → Prop := fun vv σ' => σ' = σ ∧ ∃ r : Int32, vv = some (.int r)
set_option maxRecDepth 100000 in
set_option maxHeartbeats 4000000 in
theorem c_X8_lineOf_0 (l : Launch) (T : Int) (hT0 : 0 ≤ T) (hT1 : T ≤ 3000) (σ : kw_S) (hI : kw_I (bM T) σ) (i : Int32) (w : Int32) (hp0 : 0 ≤ i.toInt) (hp1 : i.toInt ≤ 5) : kw_Met l 3 KM mX8_lineOf [.ref 0, .int i, .int w] σ (p_X8_lineOf_0 T σ i w) := by
  have r_i := kw_rng i
  have r_w := kw_rng w
  have q_1 : (1 : Int32).toInt = 1 := rfl
  refine kw_Met.of (by decide) rfl tX8_lineOf (Nat.le_of_ble_eq_true rfl) ?_
  show kw_AW l 3 kw_E0 KM mX8_lineOf (p_X8_lineOf_0 T σ i w) 0 [(0, .ref 0), (1, .int i), (2, .int w)] [] σ
  refine kw_iload_n (pc := 0) (i := 0) (k := 2) (n := 2) rfl rfl rfl ?_
  by_cases c1 : w.toInt = 0
  · refine kw_tableIn (pc := 1) (i := 1) (k := 0) (tgt := 40) rfl (by omega) (by decide) rfl rfl ?_
    refine kw_aload_n (pc := 40) (i := 2) (k := 0) (n := 0) rfl rfl rfl ?_
    refine kw_get (pc := 41) (i := 3) (v := .ref 8) rfl rfl rfl lkX8_39 (fun _ => rfl) ?_
    refine kw_iload_n (pc := 44) (i := 4) (k := 1) (n := 1) rfl rfl rfl ?_
    refine kw_iald (pc := 45) (i := 5) (n := 6) rfl rfl (by omega) (by omega) (fun z2 e_z2 => ?_)
    have t_z2 := congrArg Int32.toInt e_z2
    have r_z2 := kw_rng z2
    exact kw_ireturn (pc := 46) (i := 6) (ty := .int) rfl rfl rfl ⟨rfl, _, rfl⟩
  by_cases c3 : w.toInt = 1
  · refine kw_tableIn (pc := 1) (i := 1) (k := 1) (tgt := 47) rfl (by omega) (by decide) rfl rfl ?_
    refine kw_aload_n (pc := 47) (i := 7) (k := 0) (n := 0) rfl rfl rfl ?_
    refine kw_get (pc := 48) (i := 8) (v := .ref 9) rfl rfl rfl lkX8_42 (fun _ => rfl) ?_
    refine kw_iload_n (pc := 51) (i := 9) (k := 1) (n := 1) rfl rfl rfl ?_
    refine kw_iald (pc := 52) (i := 10) (n := 6) rfl rfl (by omega) (by omega) (fun z4 e_z4 => ?_)
    have t_z4 := congrArg Int32.toInt e_z4
    have r_z4 := kw_rng z4
    exact kw_ireturn (pc := 53) (i := 11) (ty := .int) rfl rfl rfl ⟨rfl, _, rfl⟩
  by_cases c5 : w.toInt = 2
  · refine kw_tableIn (pc := 1) (i := 1) (k := 2) (tgt := 54) rfl (by omega) (by decide) rfl rfl ?_
    refine kw_aload_n (pc := 54) (i := 12) (k := 0) (n := 0) rfl rfl rfl ?_
    refine kw_get (pc := 55) (i := 13) (v := .ref 10) rfl rfl rfl lkX8_45 (fun _ => rfl) ?_
    refine kw_iload_n (pc := 58) (i := 14) (k := 1) (n := 1) rfl rfl rfl ?_
    refine kw_iald (pc := 59) (i := 15) (n := 6) rfl rfl (by omega) (by omega) (fun z6 e_z6 => ?_)
    have t_z6 := congrArg Int32.toInt e_z6
    have r_z6 := kw_rng z6
    exact kw_ireturn (pc := 60) (i := 16) (ty := .int) rfl rfl rfl ⟨rfl, _, rfl⟩
  by_cases c7 : w.toInt = 3
  · refine kw_tableIn (pc := 1) (i := 1) (k := 3) (tgt := 61) rfl (by omega) (by decide) rfl rfl ?_
    refine kw_aload_n (pc := 61) (i := 17) (k := 0) (n := 0) rfl rfl rfl ?_
    refine kw_get (pc := 62) (i := 18) (v := .ref 11) rfl rfl rfl lkX8_48 (fun _ => rfl) ?_
    refine kw_iload_n (pc := 65) (i := 19) (k := 1) (n := 1) rfl rfl rfl ?_
    refine kw_iald (pc := 66) (i := 20) (n := 6) rfl rfl (by omega) (by omega) (fun z8 e_z8 => ?_)
    have t_z8 := congrArg Int32.toInt e_z8
    have r_z8 := kw_rng z8
    exact kw_ireturn (pc := 67) (i := 21) (ty := .int) rfl rfl rfl ⟨rfl, _, rfl⟩
  by_cases c9 : w.toInt = 4
  · refine kw_tableIn (pc := 1) (i := 1) (k := 4) (tgt := 68) rfl (by omega) (by decide) rfl rfl ?_
    refine kw_aload_n (pc := 68) (i := 22) (k := 0) (n := 0) rfl rfl rfl ?_
    refine kw_get (pc := 69) (i := 23) (v := .int (σ.1 0 25)) rfl rfl rfl lkX8_175 (fun _ => rfl) ?_
    have b10 : 0 ≤ (σ.1 0 25).toInt ∧ (σ.1 0 25).toInt ≤ 63 := hI 0 25
    refine kw_iload_n (pc := 72) (i := 24) (k := 1) (n := 1) rfl rfl rfl ?_
    refine kw_ishr (pc := 73) (i := 25) rfl (fun z11 e_z11 => ?_)
    have r_z11 := kw_rng z11
    refine kw_iconst (pc := 74) (i := 26) (v := 1) rfl rfl ?_
    refine kw_iand (pc := 75) (i := 27) rfl (fun z12 e_z12 => ?_)
    have r_z12 := kw_rng z12
    have t_z12 := kw_andI z11 (1 : Int32) z12 e_z12
    exact kw_ireturn (pc := 76) (i := 28) (ty := .int) rfl rfl rfl ⟨rfl, _, rfl⟩
  by_cases c13 : w.toInt = 5
  · refine kw_tableIn (pc := 1) (i := 1) (k := 5) (tgt := 77) rfl (by omega) (by decide) rfl rfl ?_
    refine kw_aload_n (pc := 77) (i := 29) (k := 0) (n := 0) rfl rfl rfl ?_
    refine kw_get (pc := 78) (i := 30) (v := .ref 14) rfl rfl rfl lkX8_57 (fun _ => rfl) ?_
    refine kw_iload_n (pc := 81) (i := 31) (k := 1) (n := 1) rfl rfl rfl ?_
    refine kw_iald (pc := 82) (i := 32) (n := 6) rfl rfl (by omega) (by omega) (fun z14 e_z14 => ?_)
    have t_z14 := congrArg Int32.toInt e_z14
    have r_z14 := kw_rng z14
    exact kw_ireturn (pc := 83) (i := 33) (ty := .int) rfl rfl rfl ⟨rfl, _, rfl⟩
  refine kw_tableOut (pc := 1) (i := 1) (tgt := 84) rfl (by omega) rfl ?_
  refine kw_aload_n (pc := 84) (i := 34) (k := 0) (n := 0) rfl rfl rfl ?_
  refine kw_iload_n (pc := 85) (i := 35) (k := 1) (n := 1) rfl rfl rfl ?_
  refine kw_aload_n (pc := 86) (i := 36) (k := 0) (n := 0) rfl rfl rfl ?_
  refine kw_aload_n (pc := 87) (i := 37) (k := 0) (n := 0) rfl rfl rfl ?_
  refine kw_get (pc := 88) (i := 38) (v := .int (σ.1 0 22)) rfl rfl rfl lkX8_166 (fun _ => rfl) ?_
  have b15 : 0 ≤ (σ.1 0 22).toInt ∧ (σ.1 0 22).toInt ≤ T := hI 0 22
  refine kw_callV (pc := 91) (i := 39) (Y := mX8_windAt) (a := 0) (As := [.int (σ.1 0 22)]) (st := [.int i, .ref 0]) kw_hE rfl rfl lvX8_196 arX8_windAt (c_X8_windAt_0 l T (by omega) (by omega) σ hI (σ.1 0 22) (by first | omega | decide)) (by decide) (Nat.le_of_ble_eq_true rfl) rfl (fun v S17 p16 => ?_)
  obtain ⟨e19, z18, rfl⟩ := p16
  rw [e19]
  have r_z18 := kw_rng z18
  show kw_AW l 3 kw_E0 KM mX8_lineOf (p_X8_lineOf_0 T σ i w) 94 [(0, .ref 0), (1, .int i), (2, .int w)] [.int z18, .int i, .ref 0] σ
  refine kw_callV (pc := 94) (i := 40) (Y := mX8_pullOf) (a := 0) (As := [.int i, .int z18]) (st := []) kw_hE rfl rfl lvX8_189 arX8_pullOf (c_X8_pullOf_0 l T (by omega) (by omega) σ hI i z18 (by first | omega | decide) (by first | omega | decide)) (by decide) (Nat.le_of_ble_eq_true rfl) rfl (fun v S21 p20 => ?_)
  obtain ⟨e23, z22, rfl⟩ := p20
  rw [e23]
  have r_z22 := kw_rng z22
  show kw_AW l 3 kw_E0 KM mX8_lineOf (p_X8_lineOf_0 T σ i w) 97 [(0, .ref 0), (1, .int i), (2, .int w)] [.int z22] σ
  exact kw_ireturn (pc := 97) (i := 41) (ty := .int) rfl rfl rfl ⟨rfl, _, rfl⟩
abbrev p_X8_line_0 (T : Int) (σ : kw_S) (i : Int32) (w : Int32) : Option Value → kw_S → Prop := fun vv σ' => (kw_I (bM T) σ' ∧ kw_F [0] σ σ') ∧ ∃ r : Int32, vv = some (.int r)
set_option maxRecDepth 100000 in
set_option maxHeartbeats 4000000 in
theorem c_X8_line_0 (l : Launch) (T : Int) (hT0 : 0 ≤ T) (hT1 : T ≤ 3000) (σ : kw_S) (hI : kw_I (bM T) σ) (i : Int32) (w : Int32) : kw_Met l 4 KM mX8_line [.ref 0, .int i, .int w] σ (p_X8_line_0 T σ i w) := by
  have r_i := kw_rng i
  have r_w := kw_rng w
  have hF0 : kw_F [0] σ σ := kw_F.rf
  have q_m1 : (-1 : Int32).toInt = -1 := rfl
  have q_0 : (0 : Int32).toInt = 0 := rfl
  have q_1 : (1 : Int32).toInt = 1 := rfl
  have q_6 : (6 : Int32).toInt = 6 := rfl
  refine kw_Met.of (by decide) rfl tX8_line (Nat.le_of_ble_eq_true rfl) ?_
  show kw_AW l 4 kw_E0 KM mX8_line (p_X8_line_0 T σ i w) 0 [(0, .ref 0), (1, .int i), (2, .int w)] [] σ
  refine kw_aload_n (pc := 0) (i := 0) (k := 0) (n := 0) rfl rfl rfl ?_
  refine kw_iload_n (pc := 1) (i := 1) (k := 1) (n := 1) rfl rfl rfl ?_
  refine kw_callV (pc := 2) (i := 2) (Y := mX8_isLine) (a := 0) (As := [.int i]) (st := []) kw_hE rfl rfl lvX8_211 arX8_isLine (c_X8_isLine_0 l T (by omega) (by omega) σ hI i ) (by decide) (Nat.le_of_ble_eq_true rfl) rfl (fun v S2 p1 => ?_)
  obtain ⟨e6, z5, rfl, f3, f4⟩ := p1
  rw [e6]
  have f4 : (z5.toInt = 0 ∨ 0 ≤ i.toInt ∧ i.toInt < (σ.1 0 10).toInt ∧ i.toInt ≤ 5) := f4
  have r_z5 := kw_rng z5
  show kw_AW l 4 kw_E0 KM mX8_line (p_X8_line_0 T σ i w) 5 [(0, .ref 0), (1, .int i), (2, .int w)] [.int z5] σ
  refine kw_if_eq (pc := 5) (i := 3) (tgt := 32) rfl rfl (fun c7 => ?_) (fun c7 => ?_)
  · refine kw_iconst (pc := 32) (i := 17) (v := (-1)) rfl rfl ?_
    exact kw_ireturn (pc := 33) (i := 18) (ty := .int) rfl rfl rfl ⟨⟨hI, hF0⟩, _, rfl⟩
  · refine kw_iload_n (pc := 8) (i := 4) (k := 2) (n := 2) rfl rfl rfl ?_
    refine kw_iconst (pc := 9) (i := 5) (v := 0) rfl rfl ?_
    refine kw_bipush (pc := 10) (i := 6) (v := 6) rfl rfl ?_
    refine kw_callS (pc := 12) (i := 7) (Y := mX8_in) (As := [.int w, .int 0, .int 6]) (st := []) kw_hE rfl lsX8_93 arX8_in (c_X8_in l T (by omega) (by omega) σ hI w 0 6 ) (by decide) (Nat.le_of_ble_eq_true rfl) rfl (fun v S9 p8 => ?_)
    obtain ⟨e14, z13, rfl, f10, f11, f12⟩ := p8
    rw [e14]
    have r_z13 := kw_rng z13
    show kw_AW l 4 kw_E0 KM mX8_line (p_X8_line_0 T σ i w) 15 [(0, .ref 0), (1, .int i), (2, .int w)] [.int z13] σ
    refine kw_if_eq (pc := 15) (i := 8) (tgt := 32) rfl rfl (fun c15 => ?_) (fun c15 => ?_)
    · refine kw_iconst (pc := 32) (i := 17) (v := (-1)) rfl rfl ?_
      exact kw_ireturn (pc := 33) (i := 18) (ty := .int) rfl rfl rfl ⟨⟨hI, hF0⟩, _, rfl⟩
    · refine kw_aload_n (pc := 18) (i := 9) (k := 0) (n := 0) rfl rfl rfl ?_
      refine kw_aload_n (pc := 19) (i := 10) (k := 0) (n := 0) rfl rfl rfl ?_
      refine kw_iload_n (pc := 20) (i := 11) (k := 1) (n := 1) rfl rfl rfl ?_
      refine kw_iload_n (pc := 21) (i := 12) (k := 2) (n := 2) rfl rfl rfl ?_
      refine kw_callV (pc := 22) (i := 13) (Y := mX8_lineOf) (a := 0) (As := [.int i, .int w]) (st := [.ref 0]) kw_hE rfl rfl lvX8_230 arX8_lineOf (c_X8_lineOf_0 l T (by omega) (by omega) σ hI i w (by first | omega | decide) (by first | omega | decide)) (by decide) (Nat.le_of_ble_eq_true rfl) rfl (fun v S17 p16 => ?_)
      obtain ⟨e19, z18, rfl⟩ := p16
      rw [e19]
      have r_z18 := kw_rng z18
      show kw_AW l 4 kw_E0 KM mX8_line (p_X8_line_0 T σ i w) 25 [(0, .ref 0), (1, .int i), (2, .int w)] [.int z18, .ref 0] σ
      refine kw_iconst (pc := 25) (i := 14) (v := 1) rfl rfl ?_
      refine kw_callV (pc := 26) (i := 15) (Y := mX8_ask) (a := 0) (As := [.int z18, .int 1]) (st := []) kw_hE rfl rfl lvX8_119 arX8_ask (c_X8_ask_0 l T (by omega) (by omega) σ hI z18 1 ) (by decide) (Nat.le_of_ble_eq_true rfl) rfl (fun v S21 p20 => ?_)
      obtain ⟨⟨I24, F25⟩, z23, rfl, f22⟩ := p20
      have F26 : kw_F [0] σ S21 := kw_F.tr hF0 F25 (by decide)
      have r_z23 := kw_rng z23
      show kw_AW l 4 kw_E0 KM mX8_line (p_X8_line_0 T σ i w) 29 [(0, .ref 0), (1, .int i), (2, .int w)] [.int z23] S21
      refine kw_goto (pc := 29) (i := 16) (tgt := 33) rfl rfl ?_
      exact kw_ireturn (pc := 33) (i := 18) (ty := .int) rfl rfl rfl ⟨⟨I24, F26⟩, _, rfl⟩
abbrev p_X8_isA (T : Int) (σ : kw_S) (x : Int32) (kind : Int32) : Option Value → kw_S → Prop := fun vv σ' => σ' = σ ∧ ∃ r : Int32, vv = some (.int r) ∧ (r.toInt = 0 ∨ r.toInt = 1)
set_option maxRecDepth 100000 in
set_option maxHeartbeats 4000000 in
theorem c_X8_isA (l : Launch) (T : Int) (hT0 : 0 ≤ T) (hT1 : T ≤ 3000) (σ : kw_S) (hI : kw_I (bM T) σ) (x : Int32) (kind : Int32) : kw_Met l 1 KM mX8_isA [.int x, .int kind] σ (p_X8_isA T σ x kind) := by
  have r_x := kw_rng x
  have r_kind := kw_rng kind
  have q_0 : (0 : Int32).toInt = 0 := rfl
  have q_1 : (1 : Int32).toInt = 1 := rfl
  have q_4 : (4 : Int32).toInt = 4 := rfl
  have q_5 : (5 : Int32).toInt = 5 := rfl
  refine kw_Met.of (by decide) rfl tX8_isA (Nat.le_of_ble_eq_true rfl) ?_
  show kw_AW l 1 kw_E0 KM mX8_isA (p_X8_isA T σ x kind) 0 [(0, .int x), (1, .int kind)] [] σ
  refine kw_iload_n (pc := 0) (i := 0) (k := 0) (n := 0) rfl rfl rfl ?_
  refine kw_iload_n (pc := 1) (i := 1) (k := 1) (n := 1) rfl rfl rfl ?_
  refine kw_icmp_eq (pc := 2) (i := 2) (tgt := 25) rfl rfl (fun c1 => ?_) (fun c1 => ?_)
  · refine kw_iconst (pc := 25) (i := 15) (v := 1) rfl rfl ?_
    refine kw_goto (pc := 26) (i := 16) (tgt := 30) rfl rfl ?_
    exact kw_ireturn (pc := 30) (i := 18) (ty := .boolean) rfl rfl rfl ⟨rfl, _, rfl, by omega⟩
  · refine kw_iload_n (pc := 5) (i := 3) (k := 1) (n := 1) rfl rfl rfl ?_
    refine kw_iconst (pc := 6) (i := 4) (v := 1) rfl rfl ?_
    refine kw_icmp_ne (pc := 7) (i := 5) (tgt := 15) rfl rfl (fun c2 => ?_) (fun c2 => ?_)
    · refine kw_iload_n (pc := 15) (i := 9) (k := 1) (n := 1) rfl rfl rfl ?_
      refine kw_iconst (pc := 16) (i := 10) (v := 4) rfl rfl ?_
      refine kw_icmp_ne (pc := 17) (i := 11) (tgt := 29) rfl rfl (fun c3 => ?_) (fun c3 => ?_)
      · refine kw_iconst (pc := 29) (i := 17) (v := 0) rfl rfl ?_
        exact kw_ireturn (pc := 30) (i := 18) (ty := .boolean) rfl rfl rfl ⟨rfl, _, rfl, by omega⟩
      · refine kw_iload_n (pc := 20) (i := 12) (k := 0) (n := 0) rfl rfl rfl ?_
        refine kw_iconst (pc := 21) (i := 13) (v := 5) rfl rfl ?_
        refine kw_icmp_ne (pc := 22) (i := 14) (tgt := 29) rfl rfl (fun c4 => ?_) (fun c4 => ?_)
        · refine kw_iconst (pc := 29) (i := 17) (v := 0) rfl rfl ?_
          exact kw_ireturn (pc := 30) (i := 18) (ty := .boolean) rfl rfl rfl ⟨rfl, _, rfl, by omega⟩
        · refine kw_iconst (pc := 25) (i := 15) (v := 1) rfl rfl ?_
          refine kw_goto (pc := 26) (i := 16) (tgt := 30) rfl rfl ?_
          exact kw_ireturn (pc := 30) (i := 18) (ty := .boolean) rfl rfl rfl ⟨rfl, _, rfl, by omega⟩
    · refine kw_iload_n (pc := 10) (i := 6) (k := 0) (n := 0) rfl rfl rfl ?_
      refine kw_iconst (pc := 11) (i := 7) (v := 4) rfl rfl ?_
      refine kw_icmp_ge (pc := 12) (i := 8) (tgt := 25) rfl rfl (fun c5 => ?_) (fun c5 => ?_)
      · refine kw_iconst (pc := 25) (i := 15) (v := 1) rfl rfl ?_
        refine kw_goto (pc := 26) (i := 16) (tgt := 30) rfl rfl ?_
        exact kw_ireturn (pc := 30) (i := 18) (ty := .boolean) rfl rfl rfl ⟨rfl, _, rfl, by omega⟩
      · refine kw_iload_n (pc := 15) (i := 9) (k := 1) (n := 1) rfl rfl rfl ?_
        refine kw_iconst (pc := 16) (i := 10) (v := 4) rfl rfl ?_
        refine kw_icmp_ne (pc := 17) (i := 11) (tgt := 29) rfl rfl (fun c6 => ?_) (fun c6 => ?_)
        · refine kw_iconst (pc := 29) (i := 17) (v := 0) rfl rfl ?_
          exact kw_ireturn (pc := 30) (i := 18) (ty := .boolean) rfl rfl rfl ⟨rfl, _, rfl, by omega⟩
        · refine kw_iload_n (pc := 20) (i := 12) (k := 0) (n := 0) rfl rfl rfl ?_
          refine kw_iconst (pc := 21) (i := 13) (v := 5) rfl rfl ?_
          refine kw_icmp_ne (pc := 22) (i := 14) (tgt := 29) rfl rfl (fun c7 => ?_) (fun c7 => ?_)
          · refine kw_iconst (pc := 29) (i := 17) (v := 0) rfl rfl ?_
            exact kw_ireturn (pc := 30) (i := 18) (ty := .boolean) rfl rfl rfl ⟨rfl, _, rfl, by omega⟩
          · refine kw_iconst (pc := 25) (i := 15) (v := 1) rfl rfl ?_
            refine kw_goto (pc := 26) (i := 16) (tgt := 30) rfl rfl ?_
            exact kw_ireturn (pc := 30) (i := 18) (ty := .boolean) rfl rfl rfl ⟨rfl, _, rfl, by omega⟩
abbrev p_X8_howMany_0 (T : Int) (σ : kw_S) (kind : Int32) : Option Value → kw_S → Prop := fun vv σ' => σ' = σ ∧ ∃ r : Int32, vv = some (.int r)
set_option maxRecDepth 100000 in
set_option maxHeartbeats 4000000 in
theorem c_X8_howMany_0 (l : Launch) (T : Int) (hT0 : 0 ≤ T) (hT1 : T ≤ 3000) (σ : kw_S) (hI : kw_I (bM T) σ) (kind : Int32) : kw_Met l 2 KM mX8_howMany [.ref 0, .int kind] σ (p_X8_howMany_0 T σ kind) := by
  have r_kind := kw_rng kind
  have q_0 : (0 : Int32).toInt = 0 := rfl
  have q_1 : (1 : Int32).toInt = 1 := rfl
  refine kw_Met.of (by decide) rfl tX8_howMany (Nat.le_of_ble_eq_true rfl) ?_
  show kw_AW l 2 kw_E0 KM mX8_howMany (p_X8_howMany_0 T σ kind) 0 [(0, .ref 0), (1, .int kind)] [] σ
  refine kw_iconst (pc := 0) (i := 0) (v := 0) rfl rfl ?_
  refine kw_istore_n (pc := 1) (i := 1) (n := 2) (lv' := [(2, .int 0), (0, .ref 0), (1, .int kind)]) rfl rfl (by decide) rfl ?_
  refine kw_iconst (pc := 2) (i := 2) (v := 0) rfl rfl ?_
  refine kw_istore_n (pc := 3) (i := 3) (n := 3) (lv' := [(3, .int 0), (2, .int 0), (0, .ref 0), (1, .int kind)]) rfl rfl (by decide) rfl ?_
  have L3 : ∀ (n7 : Nat) (x1 : Int32) (x2 : Int32), 0 ≤ x1.toInt → (7 - x1.toInt).toNat < n7 → kw_AW l 2 kw_E0 KM mX8_howMany (p_X8_howMany_0 T σ kind) 4 [(3, .int x1), (2, .int x2), (0, .ref 0), (1, .int kind)] [] σ := by
    intro n7
    induction n7 with
    | zero => intro x1 x2 v5 m6; exact absurd m6 (Nat.not_lt_zero _)
    | succ n7 ih4 =>
      intro x1 x2 v5 m6
      have r_x1 := kw_rng x1
      have r_x2 := kw_rng x2
      refine kw_iload_n (pc := 4) (i := 4) (k := 0) (n := 3) rfl rfl rfl ?_
      refine kw_aload_n (pc := 5) (i := 5) (k := 2) (n := 0) rfl rfl rfl ?_
      refine kw_get (pc := 6) (i := 6) (v := .int (σ.1 0 10)) rfl rfl rfl lkX8_163 (fun _ => rfl) ?_
      have b8 : 0 ≤ (σ.1 0 10).toInt ∧ (σ.1 0 10).toInt ≤ 6 := hI 0 10
      refine kw_icmp_ge (pc := 9) (i := 7) (tgt := 39) rfl rfl (fun c9 => ?_) (fun c9 => ?_)
      · refine kw_iload_n (pc := 39) (i := 23) (k := 1) (n := 2) rfl rfl rfl ?_
        exact kw_ireturn (pc := 40) (i := 24) (ty := .int) rfl rfl rfl ⟨rfl, _, rfl⟩
      · refine kw_iload_n (pc := 12) (i := 8) (k := 1) (n := 2) rfl rfl rfl ?_
        refine kw_aload_n (pc := 13) (i := 9) (k := 2) (n := 0) rfl rfl rfl ?_
        refine kw_get (pc := 14) (i := 10) (v := .ref 8) rfl rfl rfl lkX8_39 (fun _ => rfl) ?_
        refine kw_iload_n (pc := 17) (i := 11) (k := 0) (n := 3) rfl rfl rfl ?_
        refine kw_iald (pc := 18) (i := 12) (n := 6) rfl rfl (by omega) (by omega) (fun z10 e_z10 => ?_)
        have t_z10 := congrArg Int32.toInt e_z10
        have r_z10 := kw_rng z10
        refine kw_iload_n (pc := 19) (i := 13) (k := 3) (n := 1) rfl rfl rfl ?_
        refine kw_callS (pc := 20) (i := 14) (Y := mX8_isA) (As := [.int z10, .int kind]) (st := [.int x2]) kw_hE rfl lsX8_233 arX8_isA (c_X8_isA l T (by omega) (by omega) σ hI z10 kind ) (by decide) (Nat.le_of_ble_eq_true rfl) rfl (fun v S12 p11 => ?_)
        obtain ⟨e15, z14, rfl, f13⟩ := p11
        rw [e15]
        have r_z14 := kw_rng z14
        show kw_AW l 2 kw_E0 KM mX8_howMany (p_X8_howMany_0 T σ kind) 23 [(3, .int x1), (2, .int x2), (0, .ref 0), (1, .int kind)] [.int z14, .int x2] σ
        refine kw_if_eq (pc := 23) (i := 15) (tgt := 30) rfl rfl (fun c16 => ?_) (fun c16 => ?_)
        · refine kw_iconst (pc := 30) (i := 18) (v := 0) rfl rfl ?_
          refine kw_iadd (pc := 31) (i := 19) rfl (fun z17 e_z17 t_z17 => ?_)
          first | (have u_z17 : z17.toInt = x2.toInt + 0 := (by omega); clear t_z17) | skip
          refine kw_istore_n (pc := 32) (i := 20) (n := 2) (lv' := [(2, .int z17), (3, .int x1), (0, .ref 0), (1, .int kind)]) rfl rfl (by decide) rfl ?_
          refine kw_iinc' (pc := 33) (i := 21) (k := 1) (fun z => [(3, .int z), (2, .int z17), (0, .ref 0), (1, .int kind)]) rfl rfl (by decide) rfl (fun _ => rfl) (fun z18 e_z18 t_z18 => ?_)
          first | (have u_z18 : z18.toInt = x1.toInt + 1 := (by omega); clear t_z18) | skip
          refine kw_goto (pc := 36) (i := 22) (tgt := 4) rfl rfl ?_
          refine kw_sub (lv' := [(3, .int z18), (2, .int z17), (0, .ref 0), (1, .int kind)]) [0, 1, 2, 3] rfl ?_
          exact ih4 z18 z17 (by omega) (by omega)
        · refine kw_iconst (pc := 26) (i := 16) (v := 1) rfl rfl ?_
          refine kw_goto (pc := 27) (i := 17) (tgt := 31) rfl rfl ?_
          refine kw_iadd (pc := 31) (i := 19) rfl (fun z19 e_z19 t_z19 => ?_)
          first | (have u_z19 : z19.toInt = x2.toInt + 1 := (by omega); clear t_z19) | skip
          refine kw_istore_n (pc := 32) (i := 20) (n := 2) (lv' := [(2, .int z19), (3, .int x1), (0, .ref 0), (1, .int kind)]) rfl rfl (by decide) rfl ?_
          refine kw_iinc' (pc := 33) (i := 21) (k := 1) (fun z => [(3, .int z), (2, .int z19), (0, .ref 0), (1, .int kind)]) rfl rfl (by decide) rfl (fun _ => rfl) (fun z20 e_z20 t_z20 => ?_)
          first | (have u_z20 : z20.toInt = x1.toInt + 1 := (by omega); clear t_z20) | skip
          refine kw_goto (pc := 36) (i := 22) (tgt := 4) rfl rfl ?_
          refine kw_sub (lv' := [(3, .int z20), (2, .int z19), (0, .ref 0), (1, .int kind)]) [0, 1, 2, 3] rfl ?_
          exact ih4 z20 z19 (by omega) (by omega)
  exact L3 _ 0 0 (by omega) (Nat.lt_succ_self _)
abbrev p_X8_hoursTill_0 (T : Int) (σ : kw_S)  : Option Value → kw_S → Prop := fun vv σ' => σ' = σ ∧ ∃ r : Int32, vv = some (.int r)
set_option maxRecDepth 100000 in
set_option maxHeartbeats 4000000 in
theorem c_X8_hoursTill_0 (l : Launch) (T : Int) (hT0 : 0 ≤ T) (hT1 : T ≤ 3000) (σ : kw_S) (hI : kw_I (bM T) σ)  : kw_Met l 2 KM mX8_hoursTill [.ref 0] σ (p_X8_hoursTill_0 T σ) := by
  have q_m9 : (-9 : Int32).toInt = -9 := rfl
  have q_0 : (0 : Int32).toInt = 0 := rfl
  have q_3 : (3 : Int32).toInt = 3 := rfl
  have q_8 : (8 : Int32).toInt = 8 := rfl
  refine kw_Met.of (by decide) rfl tX8_hoursTill (Nat.le_of_ble_eq_true rfl) ?_
  show kw_AW l 2 kw_E0 KM mX8_hoursTill (p_X8_hoursTill_0 T σ) 0 [(0, .ref 0)] [] σ
  refine kw_iconst (pc := 0) (i := 0) (v := 0) rfl rfl ?_
  refine kw_istore_n (pc := 1) (i := 1) (n := 1) (lv' := [(1, .int 0), (0, .ref 0)]) rfl rfl (by decide) rfl ?_
  have L2 : ∀ (n6 : Nat) (x1 : Int32), 0 ≤ x1.toInt → (9 - x1.toInt).toNat < n6 → kw_AW l 2 kw_E0 KM mX8_hoursTill (p_X8_hoursTill_0 T σ) 2 [(1, .int x1), (0, .ref 0)] [] σ := by
    intro n6
    induction n6 with
    | zero => intro x1 v4 m5; exact absurd m5 (Nat.not_lt_zero _)
    | succ n6 ih3 =>
      intro x1 v4 m5
      have r_x1 := kw_rng x1
      refine kw_iload_n (pc := 2) (i := 2) (k := 0) (n := 1) rfl rfl rfl ?_
      refine kw_bipush (pc := 3) (i := 3) (v := 8) rfl rfl ?_
      refine kw_icmp_ge (pc := 5) (i := 4) (tgt := 28) rfl rfl (fun c7 => ?_) (fun c7 => ?_)
      · refine kw_iload_n (pc := 28) (i := 15) (k := 0) (n := 1) rfl rfl rfl ?_
        refine kw_bipush (pc := 29) (i := 16) (v := 8) rfl rfl ?_
        refine kw_icmp_ge (pc := 31) (i := 17) (tgt := 38) rfl rfl (fun c8 => ?_) (fun c8 => ?_)
        · refine kw_bipush (pc := 38) (i := 20) (v := (-9)) rfl rfl ?_
          exact kw_ireturn (pc := 40) (i := 21) (ty := .int) rfl rfl rfl ⟨rfl, _, rfl⟩
        · refine kw_iload_n (pc := 34) (i := 18) (k := 0) (n := 1) rfl rfl rfl ?_
          refine kw_goto (pc := 35) (i := 19) (tgt := 40) rfl rfl ?_
          exact kw_ireturn (pc := 40) (i := 21) (ty := .int) rfl rfl rfl ⟨rfl, _, rfl⟩
      · refine kw_aload_n (pc := 8) (i := 5) (k := 1) (n := 0) rfl rfl rfl ?_
        refine kw_aload_n (pc := 9) (i := 6) (k := 1) (n := 0) rfl rfl rfl ?_
        refine kw_get (pc := 10) (i := 7) (v := .int (σ.1 0 22)) rfl rfl rfl lkX8_166 (fun _ => rfl) ?_
        have b9 : 0 ≤ (σ.1 0 22).toInt ∧ (σ.1 0 22).toInt ≤ T := hI 0 22
        refine kw_iload_n (pc := 13) (i := 8) (k := 0) (n := 1) rfl rfl rfl ?_
        refine kw_iadd (pc := 14) (i := 9) rfl (fun z10 e_z10 t_z10 => ?_)
        first | (have u_z10 : z10.toInt = (σ.1 0 22).toInt + x1.toInt := (by omega); clear t_z10) | skip
        refine kw_callV (pc := 15) (i := 10) (Y := mX8_windAt) (a := 0) (As := [.int z10]) (st := []) kw_hE rfl rfl lvX8_196 arX8_windAt (c_X8_windAt_0 l T (by omega) (by omega) σ hI z10 (by first | omega | decide)) (by decide) (Nat.le_of_ble_eq_true rfl) rfl (fun v S12 p11 => ?_)
        obtain ⟨e14, z13, rfl⟩ := p11
        rw [e14]
        have r_z13 := kw_rng z13
        show kw_AW l 2 kw_E0 KM mX8_hoursTill (p_X8_hoursTill_0 T σ) 18 [(1, .int x1), (0, .ref 0)] [.int z13] σ
        refine kw_iconst (pc := 18) (i := 11) (v := 3) rfl rfl ?_
        refine kw_icmp_ge (pc := 19) (i := 12) (tgt := 28) rfl rfl (fun c15 => ?_) (fun c15 => ?_)
        · refine kw_iload_n (pc := 28) (i := 15) (k := 0) (n := 1) rfl rfl rfl ?_
          refine kw_bipush (pc := 29) (i := 16) (v := 8) rfl rfl ?_
          refine kw_icmp_ge (pc := 31) (i := 17) (tgt := 38) rfl rfl (fun c16 => ?_) (fun c16 => ?_)
          · refine kw_bipush (pc := 38) (i := 20) (v := (-9)) rfl rfl ?_
            exact kw_ireturn (pc := 40) (i := 21) (ty := .int) rfl rfl rfl ⟨rfl, _, rfl⟩
          · refine kw_iload_n (pc := 34) (i := 18) (k := 0) (n := 1) rfl rfl rfl ?_
            refine kw_goto (pc := 35) (i := 19) (tgt := 40) rfl rfl ?_
            exact kw_ireturn (pc := 40) (i := 21) (ty := .int) rfl rfl rfl ⟨rfl, _, rfl⟩
        · refine kw_iinc' (pc := 22) (i := 13) (k := 0) (fun z => [(1, .int z), (0, .ref 0)]) rfl rfl (by decide) rfl (fun _ => rfl) (fun z17 e_z17 t_z17 => ?_)
          first | (have u_z17 : z17.toInt = x1.toInt + 1 := (by omega); clear t_z17) | skip
          refine kw_goto (pc := 25) (i := 14) (tgt := 2) rfl rfl ?_
          refine kw_sub (lv' := [(1, .int z17), (0, .ref 0)]) [0, 1] rfl ?_
          exact ih3 z17 (by omega) (by omega)
  exact L2 _ 0 (by omega) (Nat.lt_succ_self _)
abbrev p_X8_lesserOnes_0 (T : Int) (σ : kw_S) (i : Int32) : Option Value → kw_S → Prop := fun vv σ' => σ' = σ ∧ ∃ r : Int32, vv = some (.int r)
set_option maxRecDepth 100000 in
set_option maxHeartbeats 4000000 in
theorem c_X8_lesserOnes_0 (l : Launch) (T : Int) (hT0 : 0 ≤ T) (hT1 : T ≤ 3000) (σ : kw_S) (hI : kw_I (bM T) σ) (i : Int32) (hp0 : 0 ≤ i.toInt) (hp1 : i.toInt ≤ 5) : kw_Met l 1 KM mX8_lesserOnes [.ref 0, .int i] σ (p_X8_lesserOnes_0 T σ i) := by
  have r_i := kw_rng i
  have q_0 : (0 : Int32).toInt = 0 := rfl
  have q_1 : (1 : Int32).toInt = 1 := rfl
  refine kw_Met.of (by decide) rfl tX8_lesserOnes (Nat.le_of_ble_eq_true rfl) ?_
  show kw_AW l 1 kw_E0 KM mX8_lesserOnes (p_X8_lesserOnes_0 T σ i) 0 [(0, .ref 0), (1, .int i)] [] σ
  refine kw_iconst (pc := 0) (i := 0) (v := 0) rfl rfl ?_
  refine kw_istore_n (pc := 1) (i := 1) (n := 2) (lv' := [(2, .int 0), (0, .ref 0), (1, .int i)]) rfl rfl (by decide) rfl ?_
  refine kw_iconst (pc := 2) (i := 2) (v := 0) rfl rfl ?_
  refine kw_istore_n (pc := 3) (i := 3) (n := 3) (lv' := [(3, .int 0), (2, .int 0), (0, .ref 0), (1, .int i)]) rfl rfl (by decide) rfl ?_
  have L3 : ∀ (n7 : Nat) (x1 : Int32) (x2 : Int32), 0 ≤ x1.toInt → (7 - x1.toInt).toNat < n7 → kw_AW l 1 kw_E0 KM mX8_lesserOnes (p_X8_lesserOnes_0 T σ i) 4 [(3, .int x1), (2, .int x2), (0, .ref 0), (1, .int i)] [] σ := by
    intro n7
    induction n7 with
    | zero => intro x1 x2 v5 m6; exact absurd m6 (Nat.not_lt_zero _)
    | succ n7 ih4 =>
      intro x1 x2 v5 m6
      have r_x1 := kw_rng x1
      have r_x2 := kw_rng x2
      refine kw_iload_n (pc := 4) (i := 4) (k := 0) (n := 3) rfl rfl rfl ?_
      refine kw_aload_n (pc := 5) (i := 5) (k := 2) (n := 0) rfl rfl rfl ?_
      refine kw_get (pc := 6) (i := 6) (v := .int (σ.1 0 10)) rfl rfl rfl lkX8_163 (fun _ => rfl) ?_
      have b8 : 0 ≤ (σ.1 0 10).toInt ∧ (σ.1 0 10).toInt ≤ 6 := hI 0 10
      refine kw_icmp_ge (pc := 9) (i := 7) (tgt := 46) rfl rfl (fun c9 => ?_) (fun c9 => ?_)
      · refine kw_iload_n (pc := 46) (i := 28) (k := 1) (n := 2) rfl rfl rfl ?_
        exact kw_ireturn (pc := 47) (i := 29) (ty := .int) rfl rfl rfl ⟨rfl, _, rfl⟩
      · refine kw_iload_n (pc := 12) (i := 8) (k := 1) (n := 2) rfl rfl rfl ?_
        refine kw_iload_n (pc := 13) (i := 9) (k := 0) (n := 3) rfl rfl rfl ?_
        refine kw_iload_n (pc := 14) (i := 10) (k := 3) (n := 1) rfl rfl rfl ?_
        refine kw_icmp_eq (pc := 15) (i := 11) (tgt := 37) rfl rfl (fun c10 => ?_) (fun c10 => ?_)
        · refine kw_iconst (pc := 37) (i := 23) (v := 0) rfl rfl ?_
          refine kw_iadd (pc := 38) (i := 24) rfl (fun z11 e_z11 t_z11 => ?_)
          first | (have u_z11 : z11.toInt = x2.toInt + 0 := (by omega); clear t_z11) | skip
          refine kw_istore_n (pc := 39) (i := 25) (n := 2) (lv' := [(2, .int z11), (3, .int x1), (0, .ref 0), (1, .int i)]) rfl rfl (by decide) rfl ?_
          refine kw_iinc' (pc := 40) (i := 26) (k := 1) (fun z => [(3, .int z), (2, .int z11), (0, .ref 0), (1, .int i)]) rfl rfl (by decide) rfl (fun _ => rfl) (fun z12 e_z12 t_z12 => ?_)
          first | (have u_z12 : z12.toInt = x1.toInt + 1 := (by omega); clear t_z12) | skip
          refine kw_goto (pc := 43) (i := 27) (tgt := 4) rfl rfl ?_
          refine kw_sub (lv' := [(3, .int z12), (2, .int z11), (0, .ref 0), (1, .int i)]) [0, 1, 2, 3] rfl ?_
          exact ih4 z12 z11 (by omega) (by omega)
        · refine kw_aload_n (pc := 18) (i := 12) (k := 2) (n := 0) rfl rfl rfl ?_
          refine kw_get (pc := 19) (i := 13) (v := .ref 10) rfl rfl rfl lkX8_45 (fun _ => rfl) ?_
          refine kw_iload_n (pc := 22) (i := 14) (k := 0) (n := 3) rfl rfl rfl ?_
          refine kw_iald (pc := 23) (i := 15) (n := 6) rfl rfl (by omega) (by omega) (fun z13 e_z13 => ?_)
          have t_z13 := congrArg Int32.toInt e_z13
          have r_z13 := kw_rng z13
          refine kw_aload_n (pc := 24) (i := 16) (k := 2) (n := 0) rfl rfl rfl ?_
          refine kw_get (pc := 25) (i := 17) (v := .ref 10) rfl rfl rfl lkX8_45 (fun _ => rfl) ?_
          refine kw_iload_n (pc := 28) (i := 18) (k := 3) (n := 1) rfl rfl rfl ?_
          refine kw_iald (pc := 29) (i := 19) (n := 6) rfl rfl (by omega) (by omega) (fun z14 e_z14 => ?_)
          have t_z14 := congrArg Int32.toInt e_z14
          have r_z14 := kw_rng z14
          refine kw_icmp_gt (pc := 30) (i := 20) (tgt := 37) rfl rfl (fun c15 => ?_) (fun c15 => ?_)
          · refine kw_iconst (pc := 37) (i := 23) (v := 0) rfl rfl ?_
            refine kw_iadd (pc := 38) (i := 24) rfl (fun z16 e_z16 t_z16 => ?_)
            first | (have u_z16 : z16.toInt = x2.toInt + 0 := (by omega); clear t_z16) | skip
            refine kw_istore_n (pc := 39) (i := 25) (n := 2) (lv' := [(2, .int z16), (3, .int x1), (0, .ref 0), (1, .int i)]) rfl rfl (by decide) rfl ?_
            refine kw_iinc' (pc := 40) (i := 26) (k := 1) (fun z => [(3, .int z), (2, .int z16), (0, .ref 0), (1, .int i)]) rfl rfl (by decide) rfl (fun _ => rfl) (fun z17 e_z17 t_z17 => ?_)
            first | (have u_z17 : z17.toInt = x1.toInt + 1 := (by omega); clear t_z17) | skip
            refine kw_goto (pc := 43) (i := 27) (tgt := 4) rfl rfl ?_
            refine kw_sub (lv' := [(3, .int z17), (2, .int z16), (0, .ref 0), (1, .int i)]) [0, 1, 2, 3] rfl ?_
            exact ih4 z17 z16 (by omega) (by omega)
          · refine kw_iconst (pc := 33) (i := 21) (v := 1) rfl rfl ?_
            refine kw_goto (pc := 34) (i := 22) (tgt := 38) rfl rfl ?_
            refine kw_iadd (pc := 38) (i := 24) rfl (fun z18 e_z18 t_z18 => ?_)
            first | (have u_z18 : z18.toInt = x2.toInt + 1 := (by omega); clear t_z18) | skip
            refine kw_istore_n (pc := 39) (i := 25) (n := 2) (lv' := [(2, .int z18), (3, .int x1), (0, .ref 0), (1, .int i)]) rfl rfl (by decide) rfl ?_
            refine kw_iinc' (pc := 40) (i := 26) (k := 1) (fun z => [(3, .int z), (2, .int z18), (0, .ref 0), (1, .int i)]) rfl rfl (by decide) rfl (fun _ => rfl) (fun z19 e_z19 t_z19 => ?_)
            first | (have u_z19 : z19.toInt = x1.toInt + 1 := (by omega); clear t_z19) | skip
            refine kw_goto (pc := 43) (i := 27) (tgt := 4) rfl rfl ?_
            refine kw_sub (lv' := [(3, .int z19), (2, .int z18), (0, .ref 0), (1, .int i)]) [0, 1, 2, 3] rfl ?_
            exact ih4 z19 z18 (by omega) (by omega)
  exact L3 _ 0 0 (by omega) (Nat.lt_succ_self _)
abbrev p_X8_mark_0 (T : Int) (σ : kw_S) (i : Int32) (kind : Int32) : Option Value → kw_S → Prop := fun vv σ' => (kw_I (bM T) σ' ∧ kw_F [0, 1] σ σ') ∧ ∃ r : Int32, vv = some (.int r)
set_option maxRecDepth 100000 in
set_option maxHeartbeats 4000000 in
theorem c_X8_mark_0 (l : Launch) (T : Int) (hT0 : 0 ≤ T) (hT1 : T ≤ 3000) (σ : kw_S) (hI : kw_I (bM T) σ) (i : Int32) (kind : Int32) : kw_Met l 3 KM mX8_mark [.ref 0, .int i, .int kind] σ (p_X8_mark_0 T σ i kind) := by
  have r_i := kw_rng i
  have r_kind := kw_rng kind
  have hF0 : kw_F [0, 1] σ σ := kw_F.rf
  have q_m1 : (-1 : Int32).toInt = -1 := rfl
  have q_1 : (1 : Int32).toInt = 1 := rfl
  have q_3 : (3 : Int32).toInt = 3 := rfl
  have q_4 : (4 : Int32).toInt = 4 := rfl
  have q_5 : (5 : Int32).toInt = 5 := rfl
  refine kw_Met.of (by decide) rfl tX8_mark (Nat.le_of_ble_eq_true rfl) ?_
  show kw_AW l 3 kw_E0 KM mX8_mark (p_X8_mark_0 T σ i kind) 0 [(0, .ref 0), (1, .int i), (2, .int kind)] [] σ
  refine kw_aload_n (pc := 0) (i := 0) (k := 0) (n := 0) rfl rfl rfl ?_
  refine kw_iload_n (pc := 1) (i := 1) (k := 1) (n := 1) rfl rfl rfl ?_
  refine kw_callV (pc := 2) (i := 2) (Y := mX8_isLine) (a := 0) (As := [.int i]) (st := []) kw_hE rfl rfl lvX8_211 arX8_isLine (c_X8_isLine_0 l T (by omega) (by omega) σ hI i ) (by decide) (Nat.le_of_ble_eq_true rfl) rfl (fun v S2 p1 => ?_)
  obtain ⟨e6, z5, rfl, f3, f4⟩ := p1
  rw [e6]
  have f4 : (z5.toInt = 0 ∨ 0 ≤ i.toInt ∧ i.toInt < (σ.1 0 10).toInt ∧ i.toInt ≤ 5) := f4
  have r_z5 := kw_rng z5
  show kw_AW l 3 kw_E0 KM mX8_mark (p_X8_mark_0 T σ i kind) 5 [(0, .ref 0), (1, .int i), (2, .int kind)] [.int z5] σ
  refine kw_if_eq (pc := 5) (i := 3) (tgt := 17) rfl rfl (fun c7 => ?_) (fun c7 => ?_)
  · refine kw_iconst (pc := 17) (i := 9) (v := (-1)) rfl rfl ?_
    exact kw_ireturn (pc := 18) (i := 10) (ty := .int) rfl rfl rfl ⟨⟨hI, hF0⟩, _, rfl⟩
  · refine kw_iload_n (pc := 8) (i := 4) (k := 2) (n := 2) rfl rfl rfl ?_
    refine kw_iconst (pc := 9) (i := 5) (v := 1) rfl rfl ?_
    refine kw_iconst (pc := 10) (i := 6) (v := 5) rfl rfl ?_
    refine kw_callS (pc := 11) (i := 7) (Y := mX8_in) (As := [.int kind, .int 1, .int 5]) (st := []) kw_hE rfl lsX8_93 arX8_in (c_X8_in l T (by omega) (by omega) σ hI kind 1 5 ) (by decide) (Nat.le_of_ble_eq_true rfl) rfl (fun v S9 p8 => ?_)
    obtain ⟨e14, z13, rfl, f10, f11, f12⟩ := p8
    rw [e14]
    have r_z13 := kw_rng z13
    show kw_AW l 3 kw_E0 KM mX8_mark (p_X8_mark_0 T σ i kind) 14 [(0, .ref 0), (1, .int i), (2, .int kind)] [.int z13] σ
    refine kw_if_ne (pc := 14) (i := 8) (tgt := 19) rfl rfl (fun c15 => ?_) (fun c15 => ?_)
    · refine kw_aload_n (pc := 19) (i := 11) (k := 0) (n := 0) rfl rfl rfl ?_
      refine kw_get (pc := 20) (i := 12) (v := .ref 8) rfl rfl rfl lkX8_39 (fun _ => rfl) ?_
      refine kw_iload_n (pc := 23) (i := 13) (k := 1) (n := 1) rfl rfl rfl ?_
      refine kw_iald (pc := 24) (i := 14) (n := 6) rfl rfl (by omega) (by omega) (fun z16 e_z16 => ?_)
      have t_z16 := congrArg Int32.toInt e_z16
      have r_z16 := kw_rng z16
      refine kw_iload_n (pc := 25) (i := 15) (k := 2) (n := 2) rfl rfl rfl ?_
      refine kw_callS (pc := 26) (i := 16) (Y := mX8_isA) (As := [.int z16, .int kind]) (st := []) kw_hE rfl lsX8_233 arX8_isA (c_X8_isA l T (by omega) (by omega) σ hI z16 kind ) (by decide) (Nat.le_of_ble_eq_true rfl) rfl (fun v S18 p17 => ?_)
      obtain ⟨e21, z20, rfl, f19⟩ := p17
      rw [e21]
      have r_z20 := kw_rng z20
      show kw_AW l 3 kw_E0 KM mX8_mark (p_X8_mark_0 T σ i kind) 29 [(0, .ref 0), (1, .int i), (2, .int kind)] [.int z20] σ
      refine kw_if_ne (pc := 29) (i := 17) (tgt := 38) rfl rfl (fun c22 => ?_) (fun c22 => ?_)
      · refine kw_aload_n (pc := 38) (i := 22) (k := 0) (n := 0) rfl rfl rfl ?_
        refine kw_aload_n (pc := 39) (i := 23) (k := 0) (n := 0) rfl rfl rfl ?_
        refine kw_get (pc := 40) (i := 24) (v := .int (σ.1 0 22)) rfl rfl rfl lkX8_166 (fun _ => rfl) ?_
        have b23 : 0 ≤ (σ.1 0 22).toInt ∧ (σ.1 0 22).toInt ≤ T := hI 0 22
        refine kw_callV (pc := 43) (i := 25) (Y := mX8_windAt) (a := 0) (As := [.int (σ.1 0 22)]) (st := []) kw_hE rfl rfl lvX8_196 arX8_windAt (c_X8_windAt_0 l T (by omega) (by omega) σ hI (σ.1 0 22) (by first | omega | decide)) (by decide) (Nat.le_of_ble_eq_true rfl) rfl (fun v S25 p24 => ?_)
        obtain ⟨e27, z26, rfl⟩ := p24
        rw [e27]
        have r_z26 := kw_rng z26
        show kw_AW l 3 kw_E0 KM mX8_mark (p_X8_mark_0 T σ i kind) 46 [(0, .ref 0), (1, .int i), (2, .int kind)] [.int z26] σ
        refine kw_istore_n (pc := 46) (i := 26) (n := 3) (lv' := [(3, .int z26), (0, .ref 0), (1, .int i), (2, .int kind)]) rfl rfl (by decide) rfl ?_
        refine kw_iload_n (pc := 47) (i := 27) (k := 3) (n := 2) rfl rfl rfl ?_
        by_cases c28 : kind.toInt = 1
        · refine kw_tableIn (pc := 48) (i := 28) (k := 0) (tgt := 80) rfl (by omega) (by decide) rfl rfl ?_
          refine kw_aload_n (pc := 80) (i := 29) (k := 1) (n := 0) rfl rfl rfl ?_
          refine kw_iload_n (pc := 81) (i := 30) (k := 2) (n := 1) rfl rfl rfl ?_
          refine kw_iconst (pc := 82) (i := 31) (v := 5) rfl rfl ?_
          refine kw_callV (pc := 83) (i := 32) (Y := mX8_pullOf) (a := 0) (As := [.int i, .int 5]) (st := []) kw_hE rfl rfl lvX8_189 arX8_pullOf (c_X8_pullOf_0 l T (by omega) (by omega) σ hI i 5 (by first | omega | decide) (by first | omega | decide)) (by decide) (Nat.le_of_ble_eq_true rfl) rfl (fun v S30 p29 => ?_)
          obtain ⟨e32, z31, rfl⟩ := p29
          rw [e32]
          have r_z31 := kw_rng z31
          show kw_AW l 3 kw_E0 KM mX8_mark (p_X8_mark_0 T σ i kind) 86 [(3, .int z26), (0, .ref 0), (1, .int i), (2, .int kind)] [.int z31] σ
          exact kw_ireturn (pc := 86) (i := 33) (ty := .int) rfl rfl rfl ⟨⟨hI, hF0⟩, _, rfl⟩
        by_cases c33 : kind.toInt = 2
        · refine kw_tableIn (pc := 48) (i := 28) (k := 1) (tgt := 87) rfl (by omega) (by decide) rfl rfl ?_
          refine kw_aload_n (pc := 87) (i := 34) (k := 1) (n := 0) rfl rfl rfl ?_
          refine kw_callV (pc := 88) (i := 35) (Y := mX8_hoursTill) (a := 0) (As := []) (st := []) kw_hE rfl rfl lvX8_236 arX8_hoursTill (c_X8_hoursTill_0 l T (by omega) (by omega) σ hI  ) (by decide) (Nat.le_of_ble_eq_true rfl) rfl (fun v S35 p34 => ?_)
          obtain ⟨e37, z36, rfl⟩ := p34
          rw [e37]
          have r_z36 := kw_rng z36
          show kw_AW l 3 kw_E0 KM mX8_mark (p_X8_mark_0 T σ i kind) 91 [(3, .int z26), (0, .ref 0), (1, .int i), (2, .int kind)] [.int z36] σ
          exact kw_ireturn (pc := 91) (i := 36) (ty := .int) rfl rfl rfl ⟨⟨hI, hF0⟩, _, rfl⟩
        by_cases c38 : kind.toInt = 3
        · refine kw_tableIn (pc := 48) (i := 28) (k := 2) (tgt := 92) rfl (by omega) (by decide) rfl rfl ?_
          refine kw_aload_n (pc := 92) (i := 37) (k := 1) (n := 0) rfl rfl rfl ?_
          refine kw_get (pc := 93) (i := 38) (v := .int (σ.1 0 25)) rfl rfl rfl lkX8_175 (fun _ => rfl) ?_
          have b39 : 0 ≤ (σ.1 0 25).toInt ∧ (σ.1 0 25).toInt ≤ 63 := hI 0 25
          refine kw_iconst (pc := 96) (i := 39) (v := 1) rfl rfl ?_
          refine kw_iload_n (pc := 97) (i := 40) (k := 2) (n := 1) rfl rfl rfl ?_
          refine kw_ishl (pc := 98) (i := 41) rfl (fun z40 e_z40 => ?_)
          have r_z40 := kw_rng z40
          have t_z40 := kw_shlm i z40 e_z40
          have u_z40 := congrArg Int32.toInt e_z40
          refine kw_iconst (pc := 99) (i := 42) (v := (-1)) rfl rfl ?_
          refine kw_ixor (pc := 100) (i := 43) rfl (fun z41 e_z41 => ?_)
          have r_z41 := kw_rng z41
          have t_z41 := kw_xor63 z40 ((-1) : Int32) z41 e_z41
          refine kw_iand (pc := 101) (i := 44) rfl (fun z42 e_z42 => ?_)
          have r_z42 := kw_rng z42
          have t_z42 := kw_andI (σ.1 0 25) z41 z42 e_z42
          refine kw_callS (pc := 102) (i := 45) (Y := mX8_bits) (As := [.int z42]) (st := []) kw_hE rfl lsX8_217 arX8_bits (c_X8_bits l T (by omega) (by omega) σ hI z42 ) (by decide) (Nat.le_of_ble_eq_true rfl) rfl (fun v S44 p43 => ?_)
          obtain ⟨e46, z45, rfl⟩ := p43
          rw [e46]
          have r_z45 := kw_rng z45
          show kw_AW l 3 kw_E0 KM mX8_mark (p_X8_mark_0 T σ i kind) 105 [(3, .int z26), (0, .ref 0), (1, .int i), (2, .int kind)] [.int z45] σ
          exact kw_ireturn (pc := 105) (i := 46) (ty := .int) rfl rfl rfl ⟨⟨hI, hF0⟩, _, rfl⟩
        by_cases c47 : kind.toInt = 4
        · refine kw_tableIn (pc := 48) (i := 28) (k := 3) (tgt := 106) rfl (by omega) (by decide) rfl rfl ?_
          refine kw_aload_n (pc := 106) (i := 47) (k := 1) (n := 0) rfl rfl rfl ?_
          refine kw_iload_n (pc := 107) (i := 48) (k := 2) (n := 1) rfl rfl rfl ?_
          refine kw_callV (pc := 108) (i := 49) (Y := mX8_lesserOnes) (a := 0) (As := [.int i]) (st := []) kw_hE rfl rfl lvX8_240 arX8_lesserOnes (c_X8_lesserOnes_0 l T (by omega) (by omega) σ hI i (by first | omega | decide) (by first | omega | decide)) (by decide) (Nat.le_of_ble_eq_true rfl) rfl (fun v S49 p48 => ?_)
          obtain ⟨e51, z50, rfl⟩ := p48
          rw [e51]
          have r_z50 := kw_rng z50
          show kw_AW l 3 kw_E0 KM mX8_mark (p_X8_mark_0 T σ i kind) 111 [(3, .int z26), (0, .ref 0), (1, .int i), (2, .int kind)] [.int z50] σ
          exact kw_ireturn (pc := 111) (i := 50) (ty := .int) rfl rfl rfl ⟨⟨hI, hF0⟩, _, rfl⟩
        refine kw_tableOut (pc := 48) (i := 28) (tgt := 112) rfl (by omega) rfl ?_
        refine kw_iconst (pc := 112) (i := 51) (v := 4) rfl rfl ?_
        refine kw_aload_n (pc := 113) (i := 52) (k := 1) (n := 0) rfl rfl rfl ?_
        refine kw_get (pc := 114) (i := 53) (v := .ref 10) rfl rfl rfl lkX8_45 (fun _ => rfl) ?_
        refine kw_iload_n (pc := 117) (i := 54) (k := 2) (n := 1) rfl rfl rfl ?_
        refine kw_iald (pc := 118) (i := 55) (n := 6) rfl rfl (by omega) (by omega) (fun z52 e_z52 => ?_)
        have t_z52 := congrArg Int32.toInt e_z52
        have r_z52 := kw_rng z52
        refine kw_iload_n (pc := 119) (i := 56) (k := 0) (n := 3) rfl rfl rfl ?_
        refine kw_callS (pc := 120) (i := 57) (Y := mX8_pullBy) (As := [.int 4, .int z52, .int z26]) (st := []) kw_hE rfl lsX8_181 arX8_pullBy (c_X8_pullBy l T (by omega) (by omega) σ hI 4 z52 z26 ) (by decide) (Nat.le_of_ble_eq_true rfl) rfl (fun v S54 p53 => ?_)
        obtain ⟨e56, z55, rfl⟩ := p53
        rw [e56]
        have r_z55 := kw_rng z55
        show kw_AW l 3 kw_E0 KM mX8_mark (p_X8_mark_0 T σ i kind) 123 [(3, .int z26), (0, .ref 0), (1, .int i), (2, .int kind)] [.int z55] σ
        refine kw_aload_n (pc := 123) (i := 58) (k := 1) (n := 0) rfl rfl rfl ?_
        refine kw_iload_n (pc := 124) (i := 59) (k := 2) (n := 1) rfl rfl rfl ?_
        refine kw_iload_n (pc := 125) (i := 60) (k := 0) (n := 3) rfl rfl rfl ?_
        refine kw_callV (pc := 126) (i := 61) (Y := mX8_pullOf) (a := 0) (As := [.int i, .int z26]) (st := [.int z55]) kw_hE rfl rfl lvX8_189 arX8_pullOf (c_X8_pullOf_0 l T (by omega) (by omega) σ hI i z26 (by first | omega | decide) (by first | omega | decide)) (by decide) (Nat.le_of_ble_eq_true rfl) rfl (fun v S58 p57 => ?_)
        obtain ⟨e60, z59, rfl⟩ := p57
        rw [e60]
        have r_z59 := kw_rng z59
        show kw_AW l 3 kw_E0 KM mX8_mark (p_X8_mark_0 T σ i kind) 129 [(3, .int z26), (0, .ref 0), (1, .int i), (2, .int kind)] [.int z59, .int z55] σ
        refine kw_isub (pc := 129) (i := 62) rfl (fun z61 e_z61 t_z61 => ?_)
        first | (have u_z61 : z61.toInt = z55.toInt - z59.toInt := (by omega); clear t_z61) | skip
        exact kw_ireturn (pc := 130) (i := 63) (ty := .int) rfl rfl rfl ⟨⟨hI, hF0⟩, _, rfl⟩
      · refine kw_aload_n (pc := 32) (i := 18) (k := 0) (n := 0) rfl rfl rfl ?_
        refine kw_iconst (pc := 33) (i := 19) (v := 3) rfl rfl ?_
        refine kw_callV (pc := 34) (i := 20) (Y := mX8_meet) (a := 0) (As := [.int 3]) (st := []) kw_hE rfl rfl lvX8_101 arX8_meet (c_X8_meet_0 l T (by omega) (by omega) σ hI 3 (by first | omega | decide) (by first | omega | decide)) (by decide) (Nat.le_of_ble_eq_true rfl) rfl (fun v S63 p62 => ?_)
        obtain ⟨⟨I66, F67⟩, z65, rfl, f64⟩ := p62
        have F68 : kw_F [0, 1] σ S63 := kw_F.tr hF0 F67 (by decide)
        have r_z65 := kw_rng z65
        show kw_AW l 3 kw_E0 KM mX8_mark (p_X8_mark_0 T σ i kind) 37 [(0, .ref 0), (1, .int i), (2, .int kind)] [.int z65] S63
        exact kw_ireturn (pc := 37) (i := 21) (ty := .int) rfl rfl rfl ⟨⟨I66, F68⟩, _, rfl⟩
    · refine kw_iconst (pc := 17) (i := 9) (v := (-1)) rfl rfl ?_
      exact kw_ireturn (pc := 18) (i := 10) (ty := .int) rfl rfl rfl ⟨⟨hI, hF0⟩, _, rfl⟩
abbrev p_X8_wind_0 (T : Int) (σ : kw_S) (h : Int32) : Option Value → kw_S → Prop := fun vv σ' => σ' = σ ∧ ∃ r : Int32, vv = some (.int r)
set_option maxRecDepth 100000 in
set_option maxHeartbeats 4000000 in
theorem c_X8_wind_0 (l : Launch) (T : Int) (hT0 : 0 ≤ T) (hT1 : T ≤ 3000) (σ : kw_S) (hI : kw_I (bM T) σ) (h : Int32) : kw_Met l 2 KM mX8_wind [.ref 0, .int h] σ (p_X8_wind_0 T σ h) := by
  have r_h := kw_rng h
  have q_m4 : (-4 : Int32).toInt = -4 := rfl
  have q_m1 : (-1 : Int32).toInt = -1 := rfl
  have q_0 : (0 : Int32).toInt = 0 := rfl
  have q_999 : (999 : Int32).toInt = 999 := rfl
  refine kw_Met.of (by decide) rfl tX8_wind (Nat.le_of_ble_eq_true rfl) ?_
  show kw_AW l 2 kw_E0 KM mX8_wind (p_X8_wind_0 T σ h) 0 [(0, .ref 0), (1, .int h)] [] σ
  refine kw_iload_n (pc := 0) (i := 0) (k := 1) (n := 1) rfl rfl rfl ?_
  refine kw_iconst (pc := 1) (i := 1) (v := 0) rfl rfl ?_
  refine kw_sipush (pc := 2) (i := 2) (v := 999) rfl rfl ?_
  refine kw_callS (pc := 5) (i := 3) (Y := mX8_in) (As := [.int h, .int 0, .int 999]) (st := []) kw_hE rfl lsX8_93 arX8_in (c_X8_in l T (by omega) (by omega) σ hI h 0 999 ) (by decide) (Nat.le_of_ble_eq_true rfl) rfl (fun v S2 p1 => ?_)
  obtain ⟨e7, z6, rfl, f3, f4, f5⟩ := p1
  rw [e7]
  have r_z6 := kw_rng z6
  show kw_AW l 2 kw_E0 KM mX8_wind (p_X8_wind_0 T σ h) 8 [(0, .ref 0), (1, .int h)] [.int z6] σ
  refine kw_if_ne (pc := 8) (i := 4) (tgt := 13) rfl rfl (fun c8 => ?_) (fun c8 => ?_)
  · refine kw_aload_n (pc := 13) (i := 7) (k := 0) (n := 0) rfl rfl rfl ?_
    refine kw_get (pc := 14) (i := 8) (v := .int (σ.1 0 10)) rfl rfl rfl lkX8_163 (fun _ => rfl) ?_
    have b9 : 0 ≤ (σ.1 0 10).toInt ∧ (σ.1 0 10).toInt ≤ 6 := hI 0 10
    refine kw_if_ne (pc := 17) (i := 9) (tgt := 25) rfl rfl (fun c10 => ?_) (fun c10 => ?_)
    · refine kw_aload_n (pc := 25) (i := 12) (k := 0) (n := 0) rfl rfl rfl ?_
      refine kw_iload_n (pc := 26) (i := 13) (k := 1) (n := 1) rfl rfl rfl ?_
      refine kw_callV (pc := 27) (i := 14) (Y := mX8_windAt) (a := 0) (As := [.int h]) (st := []) kw_hE rfl rfl lvX8_196 arX8_windAt (c_X8_windAt_0 l T (by omega) (by omega) σ hI h (by first | omega | decide)) (by decide) (Nat.le_of_ble_eq_true rfl) rfl (fun v S12 p11 => ?_)
      obtain ⟨e14, z13, rfl⟩ := p11
      rw [e14]
      have r_z13 := kw_rng z13
      show kw_AW l 2 kw_E0 KM mX8_wind (p_X8_wind_0 T σ h) 30 [(0, .ref 0), (1, .int h)] [.int z13] σ
      exact kw_ireturn (pc := 30) (i := 15) (ty := .int) rfl rfl rfl ⟨rfl, _, rfl⟩
    · refine kw_bipush (pc := 20) (i := 10) (v := (-4)) rfl rfl ?_
      refine kw_goto (pc := 22) (i := 11) (tgt := 30) rfl rfl ?_
      exact kw_ireturn (pc := 30) (i := 15) (ty := .int) rfl rfl rfl ⟨rfl, _, rfl⟩
  · refine kw_iconst (pc := 11) (i := 5) (v := (-1)) rfl rfl ?_
    exact kw_ireturn (pc := 12) (i := 6) (ty := .int) rfl rfl rfl ⟨rfl, _, rfl⟩
abbrev p_X8_goes_0 (T : Int) (σ : kw_S) (s : Int32) : Option Value → kw_S → Prop := fun vv σ' => (kw_I (bM T) σ' ∧ kw_F [0] σ σ') ∧ ∃ r : Int32, vv = some (.int r)
set_option maxRecDepth 100000 in
set_option maxHeartbeats 4000000 in
theorem c_X8_goes_0 (l : Launch) (T : Int) (hT0 : 0 ≤ T) (hT1 : T ≤ 3000) (σ : kw_S) (hI : kw_I (bM T) σ) (s : Int32) : kw_Met l 4 KM mX8_goes [.ref 0, .int s] σ (p_X8_goes_0 T σ s) := by
  have r_s := kw_rng s
  have hF0 : kw_F [0] σ σ := kw_F.rf
  have q_m1 : (-1 : Int32).toInt = -1 := rfl
  have q_1 : (1 : Int32).toInt = 1 := rfl
  refine kw_Met.of (by decide) rfl tX8_goes (Nat.le_of_ble_eq_true rfl) ?_
  show kw_AW l 4 kw_E0 KM mX8_goes (p_X8_goes_0 T σ s) 0 [(0, .ref 0), (1, .int s)] [] σ
  refine kw_aload_n (pc := 0) (i := 0) (k := 0) (n := 0) rfl rfl rfl ?_
  refine kw_iload_n (pc := 1) (i := 1) (k := 1) (n := 1) rfl rfl rfl ?_
  refine kw_callV (pc := 2) (i := 2) (Y := mX8_isSet) (a := 0) (As := [.int s]) (st := []) kw_hE rfl rfl lvX8_243 arX8_isSet (c_X8_isSet_0 l T (by omega) (by omega) σ hI s ) (by decide) (Nat.le_of_ble_eq_true rfl) rfl (fun v S2 p1 => ?_)
  obtain ⟨e5, z4, rfl, f3⟩ := p1
  rw [e5]
  have r_z4 := kw_rng z4
  show kw_AW l 4 kw_E0 KM mX8_goes (p_X8_goes_0 T σ s) 5 [(0, .ref 0), (1, .int s)] [.int z4] σ
  refine kw_if_ne (pc := 5) (i := 3) (tgt := 10) rfl rfl (fun c6 => ?_) (fun c6 => ?_)
  · refine kw_aload_n (pc := 10) (i := 6) (k := 0) (n := 0) rfl rfl rfl ?_
    refine kw_aload_n (pc := 11) (i := 7) (k := 0) (n := 0) rfl rfl rfl ?_
    refine kw_get (pc := 12) (i := 8) (v := .int (σ.1 0 22)) rfl rfl rfl lkX8_166 (fun _ => rfl) ?_
    have b7 : 0 ≤ (σ.1 0 22).toInt ∧ (σ.1 0 22).toInt ≤ T := hI 0 22
    refine kw_callV (pc := 15) (i := 9) (Y := mX8_windAt) (a := 0) (As := [.int (σ.1 0 22)]) (st := []) kw_hE rfl rfl lvX8_196 arX8_windAt (c_X8_windAt_0 l T (by omega) (by omega) σ hI (σ.1 0 22) (by first | omega | decide)) (by decide) (Nat.le_of_ble_eq_true rfl) rfl (fun v S9 p8 => ?_)
    obtain ⟨e11, z10, rfl⟩ := p8
    rw [e11]
    have r_z10 := kw_rng z10
    show kw_AW l 4 kw_E0 KM mX8_goes (p_X8_goes_0 T σ s) 18 [(0, .ref 0), (1, .int s)] [.int z10] σ
    refine kw_istore_n (pc := 18) (i := 10) (n := 2) (lv' := [(2, .int z10), (0, .ref 0), (1, .int s)]) rfl rfl (by decide) rfl ?_
    refine kw_aload_n (pc := 19) (i := 11) (k := 1) (n := 0) rfl rfl rfl ?_
    refine kw_aload_n (pc := 20) (i := 12) (k := 1) (n := 0) rfl rfl rfl ?_
    refine kw_iload_n (pc := 21) (i := 13) (k := 2) (n := 1) rfl rfl rfl ?_
    refine kw_iload_n (pc := 22) (i := 14) (k := 0) (n := 2) rfl rfl rfl ?_
    refine kw_callV (pc := 23) (i := 15) (Y := mX8_turnBy) (a := 0) (As := [.int s, .int z10]) (st := [.ref 0]) kw_hE rfl rfl lvX8_202 arX8_turnBy (c_X8_turnBy_0 l T (by omega) (by omega) σ hI s z10 ) (by decide) (Nat.le_of_ble_eq_true rfl) rfl (fun v S13 p12 => ?_)
    obtain ⟨e15, z14, rfl⟩ := p12
    rw [e15]
    have r_z14 := kw_rng z14
    show kw_AW l 4 kw_E0 KM mX8_goes (p_X8_goes_0 T σ s) 26 [(2, .int z10), (0, .ref 0), (1, .int s)] [.int z14, .ref 0] σ
    refine kw_i2l (pc := 26) (i := 16) rfl (fun z16 e_z16 t_z16 => ?_)
    refine kw_lconst (pc := 27) (i := 17) (v := 1) rfl rfl ?_
    refine kw_callV (pc := 28) (i := 18) (Y := mX8_part) (a := 0) (As := [.long z16, .long 1]) (st := []) kw_hE rfl rfl lvX8_223 arX8_part (c_X8_part_0 l T (by omega) (by omega) σ hI z16 1 (by first | omega | decide)) (by decide) (Nat.le_of_ble_eq_true rfl) rfl (fun v S18 p17 => ?_)
    obtain ⟨⟨I21, F22⟩, z20, rfl, f19⟩ := p17
    have F23 : kw_F [0] σ S18 := kw_F.tr hF0 F22 (by decide)
    have r_z20 := kw_rng z20
    show kw_AW l 4 kw_E0 KM mX8_goes (p_X8_goes_0 T σ s) 31 [(2, .int z10), (0, .ref 0), (1, .int s)] [.int z20] S18
    refine kw_pop (pc := 31) (i := 19) rfl rfl ?_
    refine kw_aload_n (pc := 32) (i := 20) (k := 1) (n := 0) rfl rfl rfl ?_
    refine kw_aload_n (pc := 33) (i := 21) (k := 1) (n := 0) rfl rfl rfl ?_
    refine kw_iload_n (pc := 34) (i := 22) (k := 2) (n := 1) rfl rfl rfl ?_
    refine kw_iload_n (pc := 35) (i := 23) (k := 0) (n := 2) rfl rfl rfl ?_
    refine kw_callV (pc := 36) (i := 24) (Y := mX8_milesBy) (a := 0) (As := [.int s, .int z10]) (st := [.ref 0]) kw_hE rfl rfl lvX8_199 arX8_milesBy (c_X8_milesBy_0 l T (by omega) (by omega) S18 I21 s z10 ) (by decide) (Nat.le_of_ble_eq_true rfl) rfl (fun v S25 p24 => ?_)
    obtain ⟨e27, z26, rfl⟩ := p24
    rw [e27]
    have r_z26 := kw_rng z26
    show kw_AW l 4 kw_E0 KM mX8_goes (p_X8_goes_0 T σ s) 39 [(2, .int z10), (0, .ref 0), (1, .int s)] [.int z26, .ref 0] S18
    refine kw_iconst (pc := 39) (i := 25) (v := 1) rfl rfl ?_
    refine kw_callV (pc := 40) (i := 26) (Y := mX8_ask) (a := 0) (As := [.int z26, .int 1]) (st := []) kw_hE rfl rfl lvX8_119 arX8_ask (c_X8_ask_0 l T (by omega) (by omega) S18 I21 z26 1 ) (by decide) (Nat.le_of_ble_eq_true rfl) rfl (fun v S29 p28 => ?_)
    obtain ⟨⟨I32, F33⟩, z31, rfl, f30⟩ := p28
    have F34 : kw_F [0] σ S29 := kw_F.tr F23 F33 (by decide)
    have r_z31 := kw_rng z31
    show kw_AW l 4 kw_E0 KM mX8_goes (p_X8_goes_0 T σ s) 43 [(2, .int z10), (0, .ref 0), (1, .int s)] [.int z31] S29
    exact kw_ireturn (pc := 43) (i := 27) (ty := .int) rfl rfl rfl ⟨⟨I32, F34⟩, _, rfl⟩
  · refine kw_iconst (pc := 8) (i := 4) (v := (-1)) rfl rfl ?_
    exact kw_ireturn (pc := 9) (i := 5) (ty := .int) rfl rfl rfl ⟨⟨hI, hF0⟩, _, rfl⟩
abbrev p_X8_even_0 (T : Int) (σ : kw_S) (m : Int32) : Option Value → kw_S → Prop := fun vv σ' => (kw_I (bM T) σ' ∧ kw_F [0] σ σ') ∧ ∃ r : Int32, vv = some (.int r)
set_option maxRecDepth 100000 in
set_option maxHeartbeats 4000000 in
theorem c_X8_even_0 (l : Launch) (T : Int) (hT0 : 0 ≤ T) (hT1 : T ≤ 3000) (σ : kw_S) (hI : kw_I (bM T) σ) (m : Int32) : kw_Met l 4 KM mX8_even [.ref 0, .int m] σ (p_X8_even_0 T σ m) := by
  have r_m := kw_rng m
  have hF0 : kw_F [0] σ σ := kw_F.rf
  have q_m99 : (-99 : Int32).toInt = -99 := rfl
  have q_m9 : (-9 : Int32).toInt = -9 := rfl
  have q_m4 : (-4 : Int32).toInt = -4 := rfl
  have q_m1 : (-1 : Int32).toInt = -1 := rfl
  have q_0 : (0 : Int32).toInt = 0 := rfl
  have q_1 : (1 : Int32).toInt = 1 := rfl
  have q_99 : (99 : Int32).toInt = 99 := rfl
  refine kw_Met.of (by decide) rfl tX8_even (Nat.le_of_ble_eq_true rfl) ?_
  show kw_AW l 4 kw_E0 KM mX8_even (p_X8_even_0 T σ m) 0 [(0, .ref 0), (1, .int m)] [] σ
  refine kw_iload_n (pc := 0) (i := 0) (k := 1) (n := 1) rfl rfl rfl ?_
  refine kw_bipush (pc := 1) (i := 1) (v := (-99)) rfl rfl ?_
  refine kw_bipush (pc := 3) (i := 2) (v := 99) rfl rfl ?_
  refine kw_callS (pc := 5) (i := 3) (Y := mX8_in) (As := [.int m, .int (-99), .int 99]) (st := []) kw_hE rfl lsX8_93 arX8_in (c_X8_in l T (by omega) (by omega) σ hI m (-99) 99 ) (by decide) (Nat.le_of_ble_eq_true rfl) rfl (fun v S2 p1 => ?_)
  obtain ⟨e7, z6, rfl, f3, f4, f5⟩ := p1
  rw [e7]
  have r_z6 := kw_rng z6
  show kw_AW l 4 kw_E0 KM mX8_even (p_X8_even_0 T σ m) 8 [(0, .ref 0), (1, .int m)] [.int z6] σ
  refine kw_if_ne (pc := 8) (i := 4) (tgt := 13) rfl rfl (fun c8 => ?_) (fun c8 => ?_)
  · refine kw_aload_n (pc := 13) (i := 7) (k := 0) (n := 0) rfl rfl rfl ?_
    refine kw_get (pc := 14) (i := 8) (v := .int (σ.1 0 10)) rfl rfl rfl lkX8_163 (fun _ => rfl) ?_
    have b9 : 0 ≤ (σ.1 0 10).toInt ∧ (σ.1 0 10).toInt ≤ 6 := hI 0 10
    refine kw_if_ne (pc := 17) (i := 9) (tgt := 23) rfl rfl (fun c10 => ?_) (fun c10 => ?_)
    · refine kw_aload_n (pc := 23) (i := 12) (k := 0) (n := 0) rfl rfl rfl ?_
      refine kw_aload_n (pc := 24) (i := 13) (k := 0) (n := 0) rfl rfl rfl ?_
      refine kw_get (pc := 25) (i := 14) (v := .int (σ.1 0 22)) rfl rfl rfl lkX8_166 (fun _ => rfl) ?_
      have b11 : 0 ≤ (σ.1 0 22).toInt ∧ (σ.1 0 22).toInt ≤ T := hI 0 22
      refine kw_callV (pc := 28) (i := 15) (Y := mX8_windAt) (a := 0) (As := [.int (σ.1 0 22)]) (st := []) kw_hE rfl rfl lvX8_196 arX8_windAt (c_X8_windAt_0 l T (by omega) (by omega) σ hI (σ.1 0 22) (by first | omega | decide)) (by decide) (Nat.le_of_ble_eq_true rfl) rfl (fun v S13 p12 => ?_)
      obtain ⟨e15, z14, rfl⟩ := p12
      rw [e15]
      have r_z14 := kw_rng z14
      show kw_AW l 4 kw_E0 KM mX8_even (p_X8_even_0 T σ m) 31 [(0, .ref 0), (1, .int m)] [.int z14] σ
      refine kw_istore_n (pc := 31) (i := 16) (n := 2) (lv' := [(2, .int z14), (0, .ref 0), (1, .int m)]) rfl rfl (by decide) rfl ?_
      refine kw_iconst (pc := 32) (i := 17) (v := 0) rfl rfl ?_
      refine kw_istore_n (pc := 33) (i := 18) (n := 3) (lv' := [(3, .int 0), (2, .int z14), (0, .ref 0), (1, .int m)]) rfl rfl (by decide) rfl ?_
      refine kw_bipush (pc := 34) (i := 19) (v := (-9)) rfl rfl ?_
      refine kw_istore (pc := 36) (i := 20) (n := 4) (lv' := [(4, .int (-9)), (3, .int 0), (2, .int z14), (0, .ref 0), (1, .int m)]) rfl (by decide) rfl ?_
      refine kw_iconst (pc := 38) (i := 21) (v := 0) rfl rfl ?_
      refine kw_istore (pc := 39) (i := 22) (n := 5) (lv' := [(5, .int 0), (4, .int (-9)), (3, .int 0), (2, .int z14), (0, .ref 0), (1, .int m)]) rfl (by decide) rfl ?_
      have L19 : ∀ (n23 : Nat) (x16 : Int32) (x17 : Int32) (x18 : Int32), 0 ≤ x16.toInt → (65 - x16.toInt).toNat < n23 → kw_AW l 4 kw_E0 KM mX8_even (p_X8_even_0 T σ m) 41 [(5, .int x16), (4, .int x17), (3, .int x18), (2, .int z14), (0, .ref 0), (1, .int m)] [] σ := by
        intro n23
        induction n23 with
        | zero => intro x16 x17 x18 v21 m22; exact absurd m22 (Nat.not_lt_zero _)
        | succ n23 ih20 =>
          intro x16 x17 x18 v21 m22
          have r_x16 := kw_rng x16
          have r_x17 := kw_rng x17
          have r_x18 := kw_rng x18
          refine kw_iload (pc := 41) (i := 23) (k := 0) (n := 5) rfl rfl ?_
          refine kw_iconst (pc := 43) (i := 24) (v := 1) rfl rfl ?_
          refine kw_aload_n (pc := 44) (i := 25) (k := 4) (n := 0) rfl rfl rfl ?_
          refine kw_get (pc := 45) (i := 26) (v := .int (σ.1 0 10)) rfl rfl rfl lkX8_163 (fun _ => rfl) ?_
          refine kw_ishl (pc := 48) (i := 27) rfl (fun z24 e_z24 => ?_)
          have r_z24 := kw_rng z24
          have t_z24 := kw_shlm (σ.1 0 10) z24 e_z24
          have u_z24 := congrArg Int32.toInt e_z24
          refine kw_icmp_ge (pc := 49) (i := 28) (tgt := 113) rfl rfl (fun c25 => ?_) (fun c25 => ?_)
          · refine kw_aload_n (pc := 113) (i := 57) (k := 4) (n := 0) rfl rfl rfl ?_
            refine kw_iload_n (pc := 114) (i := 58) (k := 2) (n := 3) rfl rfl rfl ?_
            refine kw_i2l (pc := 115) (i := 59) rfl (fun z26 e_z26 t_z26 => ?_)
            refine kw_lconst (pc := 116) (i := 60) (v := 1) rfl rfl ?_
            refine kw_callV (pc := 117) (i := 61) (Y := mX8_part) (a := 0) (As := [.long z26, .long 1]) (st := []) kw_hE rfl rfl lvX8_223 arX8_part (c_X8_part_0 l T (by omega) (by omega) σ hI z26 1 (by first | omega | decide)) (by decide) (Nat.le_of_ble_eq_true rfl) rfl (fun v S28 p27 => ?_)
            obtain ⟨⟨I31, F32⟩, z30, rfl, f29⟩ := p27
            have F33 : kw_F [0] σ S28 := kw_F.tr hF0 F32 (by decide)
            have r_z30 := kw_rng z30
            show kw_AW l 4 kw_E0 KM mX8_even (p_X8_even_0 T σ m) 120 [(5, .int x16), (4, .int x17), (3, .int x18), (2, .int z14), (0, .ref 0), (1, .int m)] [.int z30] S28
            refine kw_pop (pc := 120) (i := 62) rfl rfl ?_
            refine kw_aload_n (pc := 121) (i := 63) (k := 4) (n := 0) rfl rfl rfl ?_
            refine kw_iload (pc := 122) (i := 64) (k := 1) (n := 4) rfl rfl ?_
            refine kw_iconst (pc := 124) (i := 65) (v := 1) rfl rfl ?_
            refine kw_callV (pc := 125) (i := 66) (Y := mX8_ask) (a := 0) (As := [.int x17, .int 1]) (st := []) kw_hE rfl rfl lvX8_119 arX8_ask (c_X8_ask_0 l T (by omega) (by omega) S28 I31 x17 1 ) (by decide) (Nat.le_of_ble_eq_true rfl) rfl (fun v S35 p34 => ?_)
            obtain ⟨⟨I38, F39⟩, z37, rfl, f36⟩ := p34
            have F40 : kw_F [0] σ S35 := kw_F.tr F33 F39 (by decide)
            have r_z37 := kw_rng z37
            show kw_AW l 4 kw_E0 KM mX8_even (p_X8_even_0 T σ m) 128 [(5, .int x16), (4, .int x17), (3, .int x18), (2, .int z14), (0, .ref 0), (1, .int m)] [.int z37] S35
            exact kw_ireturn (pc := 128) (i := 67) (ty := .int) rfl rfl rfl ⟨⟨I38, F40⟩, _, rfl⟩
          · refine kw_aload_n (pc := 52) (i := 29) (k := 4) (n := 0) rfl rfl rfl ?_
            refine kw_iload (pc := 53) (i := 30) (k := 0) (n := 5) rfl rfl ?_
            refine kw_iload_n (pc := 55) (i := 31) (k := 3) (n := 2) rfl rfl rfl ?_
            refine kw_callV (pc := 56) (i := 32) (Y := mX8_milesBy) (a := 0) (As := [.int x16, .int z14]) (st := []) kw_hE rfl rfl lvX8_199 arX8_milesBy (c_X8_milesBy_0 l T (by omega) (by omega) σ hI x16 z14 ) (by decide) (Nat.le_of_ble_eq_true rfl) rfl (fun v S42 p41 => ?_)
            obtain ⟨e44, z43, rfl⟩ := p41
            rw [e44]
            have r_z43 := kw_rng z43
            show kw_AW l 4 kw_E0 KM mX8_even (p_X8_even_0 T σ m) 59 [(5, .int x16), (4, .int x17), (3, .int x18), (2, .int z14), (0, .ref 0), (1, .int m)] [.int z43] σ
            refine kw_iload_n (pc := 59) (i := 33) (k := 5) (n := 1) rfl rfl rfl ?_
            refine kw_icmp_ne (pc := 60) (i := 34) (tgt := 107) rfl rfl (fun c45 => ?_) (fun c45 => ?_)
            · refine kw_iinc' (pc := 107) (i := 55) (k := 0) (fun z => [(5, .int z), (4, .int x17), (3, .int x18), (2, .int z14), (0, .ref 0), (1, .int m)]) rfl rfl (by decide) rfl (fun _ => rfl) (fun z46 e_z46 t_z46 => ?_)
              first | (have u_z46 : z46.toInt = x16.toInt + 1 := (by omega); clear t_z46) | skip
              refine kw_goto (pc := 110) (i := 56) (tgt := 41) rfl rfl ?_
              refine kw_sub (lv' := [(5, .int z46), (4, .int x17), (3, .int x18), (2, .int z14), (0, .ref 0), (1, .int m)]) [0, 1, 2, 3, 4, 5] rfl ?_
              exact ih20 z46 x17 x18 (by omega) (by omega)
            · refine kw_aload_n (pc := 63) (i := 35) (k := 4) (n := 0) rfl rfl rfl ?_
              refine kw_iload (pc := 64) (i := 36) (k := 0) (n := 5) rfl rfl ?_
              refine kw_iload_n (pc := 66) (i := 37) (k := 3) (n := 2) rfl rfl rfl ?_
              refine kw_callV (pc := 67) (i := 38) (Y := mX8_turnBy) (a := 0) (As := [.int x16, .int z14]) (st := []) kw_hE rfl rfl lvX8_202 arX8_turnBy (c_X8_turnBy_0 l T (by omega) (by omega) σ hI x16 z14 ) (by decide) (Nat.le_of_ble_eq_true rfl) rfl (fun v S48 p47 => ?_)
              obtain ⟨e50, z49, rfl⟩ := p47
              rw [e50]
              have r_z49 := kw_rng z49
              show kw_AW l 4 kw_E0 KM mX8_even (p_X8_even_0 T σ m) 70 [(5, .int x16), (4, .int x17), (3, .int x18), (2, .int z14), (0, .ref 0), (1, .int m)] [.int z49] σ
              refine kw_if_ne (pc := 70) (i := 39) (tgt := 107) rfl rfl (fun c51 => ?_) (fun c51 => ?_)
              · refine kw_iinc' (pc := 107) (i := 55) (k := 0) (fun z => [(5, .int z), (4, .int x17), (3, .int x18), (2, .int z14), (0, .ref 0), (1, .int m)]) rfl rfl (by decide) rfl (fun _ => rfl) (fun z52 e_z52 t_z52 => ?_)
                first | (have u_z52 : z52.toInt = x16.toInt + 1 := (by omega); clear t_z52) | skip
                refine kw_goto (pc := 110) (i := 56) (tgt := 41) rfl rfl ?_
                refine kw_sub (lv' := [(5, .int z52), (4, .int x17), (3, .int x18), (2, .int z14), (0, .ref 0), (1, .int m)]) [0, 1, 2, 3, 4, 5] rfl ?_
                exact ih20 z52 x17 x18 (by omega) (by omega)
              · refine kw_iinc' (pc := 73) (i := 40) (k := 2) (fun z => [(3, .int z), (5, .int x16), (4, .int x17), (2, .int z14), (0, .ref 0), (1, .int m)]) rfl rfl (by decide) rfl (fun _ => rfl) (fun z53 e_z53 t_z53 => ?_)
                first | (have u_z53 : z53.toInt = x18.toInt + 1 := (by omega); clear t_z53) | skip
                refine kw_iload (pc := 76) (i := 41) (k := 2) (n := 4) rfl rfl ?_
                refine kw_bipush (pc := 78) (i := 42) (v := (-9)) rfl rfl ?_
                refine kw_icmp_eq (pc := 80) (i := 43) (tgt := 98) rfl rfl (fun c54 => ?_) (fun c54 => ?_)
                · refine kw_iload (pc := 98) (i := 51) (k := 1) (n := 5) rfl rfl ?_
                  refine kw_goto (pc := 100) (i := 52) (tgt := 105) rfl rfl ?_
                  refine kw_istore (pc := 105) (i := 54) (n := 4) (lv' := [(4, .int x16), (3, .int z53), (5, .int x16), (2, .int z14), (0, .ref 0), (1, .int m)]) rfl (by decide) rfl ?_
                  refine kw_iinc' (pc := 107) (i := 55) (k := 2) (fun z => [(5, .int z), (4, .int x16), (3, .int z53), (2, .int z14), (0, .ref 0), (1, .int m)]) rfl rfl (by decide) rfl (fun _ => rfl) (fun z55 e_z55 t_z55 => ?_)
                  first | (have u_z55 : z55.toInt = x16.toInt + 1 := (by omega); clear t_z55) | skip
                  refine kw_goto (pc := 110) (i := 56) (tgt := 41) rfl rfl ?_
                  refine kw_sub (lv' := [(5, .int z55), (4, .int x16), (3, .int z53), (2, .int z14), (0, .ref 0), (1, .int m)]) [0, 1, 2, 3, 4, 5] rfl ?_
                  exact ih20 z55 x16 z53 (by omega) (by omega)
                · refine kw_aload_n (pc := 83) (i := 44) (k := 4) (n := 0) rfl rfl rfl ?_
                  refine kw_iload (pc := 84) (i := 45) (k := 1) (n := 5) rfl rfl ?_
                  refine kw_callV (pc := 86) (i := 46) (Y := mX8_linenOf) (a := 0) (As := [.int x16]) (st := []) kw_hE rfl rfl lvX8_246 arX8_linenOf (c_X8_linenOf_0 l T (by omega) (by omega) σ hI x16 ) (by decide) (Nat.le_of_ble_eq_true rfl) rfl (fun v S57 p56 => ?_)
                  obtain ⟨e59, z58, rfl⟩ := p56
                  rw [e59]
                  have r_z58 := kw_rng z58
                  show kw_AW l 4 kw_E0 KM mX8_even (p_X8_even_0 T σ m) 89 [(3, .int z53), (5, .int x16), (4, .int x17), (2, .int z14), (0, .ref 0), (1, .int m)] [.int z58] σ
                  refine kw_aload_n (pc := 89) (i := 47) (k := 4) (n := 0) rfl rfl rfl ?_
                  refine kw_iload (pc := 90) (i := 48) (k := 2) (n := 4) rfl rfl ?_
                  refine kw_callV (pc := 92) (i := 49) (Y := mX8_linenOf) (a := 0) (As := [.int x17]) (st := [.int z58]) kw_hE rfl rfl lvX8_246 arX8_linenOf (c_X8_linenOf_0 l T (by omega) (by omega) σ hI x17 ) (by decide) (Nat.le_of_ble_eq_true rfl) rfl (fun v S61 p60 => ?_)
                  obtain ⟨e63, z62, rfl⟩ := p60
                  rw [e63]
                  have r_z62 := kw_rng z62
                  show kw_AW l 4 kw_E0 KM mX8_even (p_X8_even_0 T σ m) 95 [(3, .int z53), (5, .int x16), (4, .int x17), (2, .int z14), (0, .ref 0), (1, .int m)] [.int z62, .int z58] σ
                  refine kw_icmp_ge (pc := 95) (i := 50) (tgt := 103) rfl rfl (fun c64 => ?_) (fun c64 => ?_)
                  · refine kw_iload (pc := 103) (i := 53) (k := 2) (n := 4) rfl rfl ?_
                    refine kw_istore (pc := 105) (i := 54) (n := 4) (lv' := [(4, .int x17), (3, .int z53), (5, .int x16), (2, .int z14), (0, .ref 0), (1, .int m)]) rfl (by decide) rfl ?_
                    refine kw_iinc' (pc := 107) (i := 55) (k := 2) (fun z => [(5, .int z), (4, .int x17), (3, .int z53), (2, .int z14), (0, .ref 0), (1, .int m)]) rfl rfl (by decide) rfl (fun _ => rfl) (fun z65 e_z65 t_z65 => ?_)
                    first | (have u_z65 : z65.toInt = x16.toInt + 1 := (by omega); clear t_z65) | skip
                    refine kw_goto (pc := 110) (i := 56) (tgt := 41) rfl rfl ?_
                    refine kw_sub (lv' := [(5, .int z65), (4, .int x17), (3, .int z53), (2, .int z14), (0, .ref 0), (1, .int m)]) [0, 1, 2, 3, 4, 5] rfl ?_
                    exact ih20 z65 x17 z53 (by omega) (by omega)
                  · refine kw_iload (pc := 98) (i := 51) (k := 1) (n := 5) rfl rfl ?_
                    refine kw_goto (pc := 100) (i := 52) (tgt := 105) rfl rfl ?_
                    refine kw_istore (pc := 105) (i := 54) (n := 4) (lv' := [(4, .int x16), (3, .int z53), (5, .int x16), (2, .int z14), (0, .ref 0), (1, .int m)]) rfl (by decide) rfl ?_
                    refine kw_iinc' (pc := 107) (i := 55) (k := 2) (fun z => [(5, .int z), (4, .int x16), (3, .int z53), (2, .int z14), (0, .ref 0), (1, .int m)]) rfl rfl (by decide) rfl (fun _ => rfl) (fun z66 e_z66 t_z66 => ?_)
                    first | (have u_z66 : z66.toInt = x16.toInt + 1 := (by omega); clear t_z66) | skip
                    refine kw_goto (pc := 110) (i := 56) (tgt := 41) rfl rfl ?_
                    refine kw_sub (lv' := [(5, .int z66), (4, .int x16), (3, .int z53), (2, .int z14), (0, .ref 0), (1, .int m)]) [0, 1, 2, 3, 4, 5] rfl ?_
                    exact ih20 z66 x16 z53 (by omega) (by omega)
      exact L19 _ 0 (-9) 0 (by omega) (Nat.lt_succ_self _)
    · refine kw_bipush (pc := 20) (i := 10) (v := (-4)) rfl rfl ?_
      exact kw_ireturn (pc := 22) (i := 11) (ty := .int) rfl rfl rfl ⟨⟨hI, hF0⟩, _, rfl⟩
  · refine kw_iconst (pc := 11) (i := 5) (v := (-1)) rfl rfl ?_
    exact kw_ireturn (pc := 12) (i := 6) (ty := .int) rfl rfl rfl ⟨⟨hI, hF0⟩, _, rfl⟩
abbrev p_X8_fast_0 (T : Int) (σ : kw_S) (m : Int32) : Option Value → kw_S → Prop := fun vv σ' => (kw_I (bM T) σ' ∧ kw_F [0] σ σ') ∧ ∃ r : Int32, vv = some (.int r)
set_option maxRecDepth 100000 in
set_option maxHeartbeats 4000000 in
theorem c_X8_fast_0 (l : Launch) (T : Int) (hT0 : 0 ≤ T) (hT1 : T ≤ 3000) (σ : kw_S) (hI : kw_I (bM T) σ) (m : Int32) : kw_Met l 4 KM mX8_fast [.ref 0, .int m] σ (p_X8_fast_0 T σ m) := by
  have r_m := kw_rng m
  have hF0 : kw_F [0] σ σ := kw_F.rf
  have q_m4 : (-4 : Int32).toInt = -4 := rfl
  have q_m1 : (-1 : Int32).toInt = -1 := rfl
  have q_0 : (0 : Int32).toInt = 0 := rfl
  have q_1 : (1 : Int32).toInt = 1 := rfl
  have q_99 : (99 : Int32).toInt = 99 := rfl
  refine kw_Met.of (by decide) rfl tX8_fast (Nat.le_of_ble_eq_true rfl) ?_
  show kw_AW l 4 kw_E0 KM mX8_fast (p_X8_fast_0 T σ m) 0 [(0, .ref 0), (1, .int m)] [] σ
  refine kw_iload_n (pc := 0) (i := 0) (k := 1) (n := 1) rfl rfl rfl ?_
  refine kw_iconst (pc := 1) (i := 1) (v := 0) rfl rfl ?_
  refine kw_bipush (pc := 2) (i := 2) (v := 99) rfl rfl ?_
  refine kw_callS (pc := 4) (i := 3) (Y := mX8_in) (As := [.int m, .int 0, .int 99]) (st := []) kw_hE rfl lsX8_93 arX8_in (c_X8_in l T (by omega) (by omega) σ hI m 0 99 ) (by decide) (Nat.le_of_ble_eq_true rfl) rfl (fun v S2 p1 => ?_)
  obtain ⟨e7, z6, rfl, f3, f4, f5⟩ := p1
  rw [e7]
  have r_z6 := kw_rng z6
  show kw_AW l 4 kw_E0 KM mX8_fast (p_X8_fast_0 T σ m) 7 [(0, .ref 0), (1, .int m)] [.int z6] σ
  refine kw_if_ne (pc := 7) (i := 4) (tgt := 12) rfl rfl (fun c8 => ?_) (fun c8 => ?_)
  · refine kw_aload_n (pc := 12) (i := 7) (k := 0) (n := 0) rfl rfl rfl ?_
    refine kw_get (pc := 13) (i := 8) (v := .int (σ.1 0 10)) rfl rfl rfl lkX8_163 (fun _ => rfl) ?_
    have b9 : 0 ≤ (σ.1 0 10).toInt ∧ (σ.1 0 10).toInt ≤ 6 := hI 0 10
    refine kw_if_ne (pc := 16) (i := 9) (tgt := 22) rfl rfl (fun c10 => ?_) (fun c10 => ?_)
    · refine kw_aload_n (pc := 22) (i := 12) (k := 0) (n := 0) rfl rfl rfl ?_
      refine kw_aload_n (pc := 23) (i := 13) (k := 0) (n := 0) rfl rfl rfl ?_
      refine kw_get (pc := 24) (i := 14) (v := .int (σ.1 0 22)) rfl rfl rfl lkX8_166 (fun _ => rfl) ?_
      have b11 : 0 ≤ (σ.1 0 22).toInt ∧ (σ.1 0 22).toInt ≤ T := hI 0 22
      refine kw_callV (pc := 27) (i := 15) (Y := mX8_windAt) (a := 0) (As := [.int (σ.1 0 22)]) (st := []) kw_hE rfl rfl lvX8_196 arX8_windAt (c_X8_windAt_0 l T (by omega) (by omega) σ hI (σ.1 0 22) (by first | omega | decide)) (by decide) (Nat.le_of_ble_eq_true rfl) rfl (fun v S13 p12 => ?_)
      obtain ⟨e15, z14, rfl⟩ := p12
      rw [e15]
      have r_z14 := kw_rng z14
      show kw_AW l 4 kw_E0 KM mX8_fast (p_X8_fast_0 T σ m) 30 [(0, .ref 0), (1, .int m)] [.int z14] σ
      refine kw_istore_n (pc := 30) (i := 16) (n := 2) (lv' := [(2, .int z14), (0, .ref 0), (1, .int m)]) rfl rfl (by decide) rfl ?_
      refine kw_iconst (pc := 31) (i := 17) (v := 0) rfl rfl ?_
      refine kw_istore_n (pc := 32) (i := 18) (n := 3) (lv' := [(3, .int 0), (2, .int z14), (0, .ref 0), (1, .int m)]) rfl rfl (by decide) rfl ?_
      refine kw_iconst (pc := 33) (i := 19) (v := 1) rfl rfl ?_
      refine kw_istore (pc := 34) (i := 20) (n := 4) (lv' := [(4, .int 1), (3, .int 0), (2, .int z14), (0, .ref 0), (1, .int m)]) rfl (by decide) rfl ?_
      have L18 : ∀ (n22 : Nat) (x16 : Int32) (x17 : Int32), 0 ≤ x16.toInt → (65 - x16.toInt).toNat < n22 → kw_AW l 4 kw_E0 KM mX8_fast (p_X8_fast_0 T σ m) 36 [(4, .int x16), (3, .int x17), (2, .int z14), (0, .ref 0), (1, .int m)] [] σ := by
        intro n22
        induction n22 with
        | zero => intro x16 x17 v20 m21; exact absurd m21 (Nat.not_lt_zero _)
        | succ n22 ih19 =>
          intro x16 x17 v20 m21
          have r_x16 := kw_rng x16
          have r_x17 := kw_rng x17
          refine kw_iload (pc := 36) (i := 21) (k := 0) (n := 4) rfl rfl ?_
          refine kw_iconst (pc := 38) (i := 22) (v := 1) rfl rfl ?_
          refine kw_aload_n (pc := 39) (i := 23) (k := 3) (n := 0) rfl rfl rfl ?_
          refine kw_get (pc := 40) (i := 24) (v := .int (σ.1 0 10)) rfl rfl rfl lkX8_163 (fun _ => rfl) ?_
          refine kw_ishl (pc := 43) (i := 25) rfl (fun z23 e_z23 => ?_)
          have r_z23 := kw_rng z23
          have t_z23 := kw_shlm (σ.1 0 10) z23 e_z23
          have u_z23 := congrArg Int32.toInt e_z23
          refine kw_icmp_ge (pc := 44) (i := 26) (tgt := 86) rfl rfl (fun c24 => ?_) (fun c24 => ?_)
          · refine kw_aload_n (pc := 86) (i := 47) (k := 3) (n := 0) rfl rfl rfl ?_
            refine kw_iload_n (pc := 87) (i := 48) (k := 1) (n := 3) rfl rfl rfl ?_
            refine kw_aload_n (pc := 88) (i := 49) (k := 3) (n := 0) rfl rfl rfl ?_
            refine kw_iload_n (pc := 89) (i := 50) (k := 1) (n := 3) rfl rfl rfl ?_
            refine kw_iload_n (pc := 90) (i := 51) (k := 2) (n := 2) rfl rfl rfl ?_
            refine kw_callV (pc := 91) (i := 52) (Y := mX8_milesBy) (a := 0) (As := [.int x17, .int z14]) (st := [.int x17, .ref 0]) kw_hE rfl rfl lvX8_199 arX8_milesBy (c_X8_milesBy_0 l T (by omega) (by omega) σ hI x17 z14 ) (by decide) (Nat.le_of_ble_eq_true rfl) rfl (fun v S26 p25 => ?_)
            obtain ⟨e28, z27, rfl⟩ := p25
            rw [e28]
            have r_z27 := kw_rng z27
            show kw_AW l 4 kw_E0 KM mX8_fast (p_X8_fast_0 T σ m) 94 [(4, .int x16), (3, .int x17), (2, .int z14), (0, .ref 0), (1, .int m)] [.int z27, .int x17, .ref 0] σ
            refine kw_callV (pc := 94) (i := 53) (Y := mX8_ask) (a := 0) (As := [.int x17, .int z27]) (st := []) kw_hE rfl rfl lvX8_119 arX8_ask (c_X8_ask_0 l T (by omega) (by omega) σ hI x17 z27 ) (by decide) (Nat.le_of_ble_eq_true rfl) rfl (fun v S30 p29 => ?_)
            obtain ⟨⟨I33, F34⟩, z32, rfl, f31⟩ := p29
            have F35 : kw_F [0] σ S30 := kw_F.tr hF0 F34 (by decide)
            have r_z32 := kw_rng z32
            show kw_AW l 4 kw_E0 KM mX8_fast (p_X8_fast_0 T σ m) 97 [(4, .int x16), (3, .int x17), (2, .int z14), (0, .ref 0), (1, .int m)] [.int z32] S30
            exact kw_ireturn (pc := 97) (i := 54) (ty := .int) rfl rfl rfl ⟨⟨I33, F35⟩, _, rfl⟩
          · refine kw_aload_n (pc := 47) (i := 27) (k := 3) (n := 0) rfl rfl rfl ?_
            refine kw_iload (pc := 48) (i := 28) (k := 0) (n := 4) rfl rfl ?_
            refine kw_callV (pc := 50) (i := 29) (Y := mX8_linenOf) (a := 0) (As := [.int x16]) (st := []) kw_hE rfl rfl lvX8_246 arX8_linenOf (c_X8_linenOf_0 l T (by omega) (by omega) σ hI x16 ) (by decide) (Nat.le_of_ble_eq_true rfl) rfl (fun v S37 p36 => ?_)
            obtain ⟨e39, z38, rfl⟩ := p36
            rw [e39]
            have r_z38 := kw_rng z38
            show kw_AW l 4 kw_E0 KM mX8_fast (p_X8_fast_0 T σ m) 53 [(4, .int x16), (3, .int x17), (2, .int z14), (0, .ref 0), (1, .int m)] [.int z38] σ
            refine kw_iload_n (pc := 53) (i := 30) (k := 4) (n := 1) rfl rfl rfl ?_
            refine kw_icmp_gt (pc := 54) (i := 31) (tgt := 78) rfl rfl (fun c40 => ?_) (fun c40 => ?_)
            · refine kw_iload_n (pc := 78) (i := 43) (k := 1) (n := 3) rfl rfl rfl ?_
              refine kw_istore_n (pc := 79) (i := 44) (n := 3) (lv' := [(3, .int x17), (4, .int x16), (2, .int z14), (0, .ref 0), (1, .int m)]) rfl rfl (by decide) rfl ?_
              refine kw_iinc' (pc := 80) (i := 45) (k := 1) (fun z => [(4, .int z), (3, .int x17), (2, .int z14), (0, .ref 0), (1, .int m)]) rfl rfl (by decide) rfl (fun _ => rfl) (fun z41 e_z41 t_z41 => ?_)
              first | (have u_z41 : z41.toInt = x16.toInt + 1 := (by omega); clear t_z41) | skip
              refine kw_goto (pc := 83) (i := 46) (tgt := 36) rfl rfl ?_
              refine kw_sub (lv' := [(4, .int z41), (3, .int x17), (2, .int z14), (0, .ref 0), (1, .int m)]) [0, 1, 2, 3, 4] rfl ?_
              exact ih19 z41 x17 (by omega) (by omega)
            · refine kw_aload_n (pc := 57) (i := 32) (k := 3) (n := 0) rfl rfl rfl ?_
              refine kw_iload (pc := 58) (i := 33) (k := 0) (n := 4) rfl rfl ?_
              refine kw_iload_n (pc := 60) (i := 34) (k := 2) (n := 2) rfl rfl rfl ?_
              refine kw_callV (pc := 61) (i := 35) (Y := mX8_milesBy) (a := 0) (As := [.int x16, .int z14]) (st := []) kw_hE rfl rfl lvX8_199 arX8_milesBy (c_X8_milesBy_0 l T (by omega) (by omega) σ hI x16 z14 ) (by decide) (Nat.le_of_ble_eq_true rfl) rfl (fun v S43 p42 => ?_)
              obtain ⟨e45, z44, rfl⟩ := p42
              rw [e45]
              have r_z44 := kw_rng z44
              show kw_AW l 4 kw_E0 KM mX8_fast (p_X8_fast_0 T σ m) 64 [(4, .int x16), (3, .int x17), (2, .int z14), (0, .ref 0), (1, .int m)] [.int z44] σ
              refine kw_aload_n (pc := 64) (i := 36) (k := 3) (n := 0) rfl rfl rfl ?_
              refine kw_iload_n (pc := 65) (i := 37) (k := 1) (n := 3) rfl rfl rfl ?_
              refine kw_iload_n (pc := 66) (i := 38) (k := 2) (n := 2) rfl rfl rfl ?_
              refine kw_callV (pc := 67) (i := 39) (Y := mX8_milesBy) (a := 0) (As := [.int x17, .int z14]) (st := [.int z44]) kw_hE rfl rfl lvX8_199 arX8_milesBy (c_X8_milesBy_0 l T (by omega) (by omega) σ hI x17 z14 ) (by decide) (Nat.le_of_ble_eq_true rfl) rfl (fun v S47 p46 => ?_)
              obtain ⟨e49, z48, rfl⟩ := p46
              rw [e49]
              have r_z48 := kw_rng z48
              show kw_AW l 4 kw_E0 KM mX8_fast (p_X8_fast_0 T σ m) 70 [(4, .int x16), (3, .int x17), (2, .int z14), (0, .ref 0), (1, .int m)] [.int z48, .int z44] σ
              refine kw_icmp_le (pc := 70) (i := 40) (tgt := 78) rfl rfl (fun c50 => ?_) (fun c50 => ?_)
              · refine kw_iload_n (pc := 78) (i := 43) (k := 1) (n := 3) rfl rfl rfl ?_
                refine kw_istore_n (pc := 79) (i := 44) (n := 3) (lv' := [(3, .int x17), (4, .int x16), (2, .int z14), (0, .ref 0), (1, .int m)]) rfl rfl (by decide) rfl ?_
                refine kw_iinc' (pc := 80) (i := 45) (k := 1) (fun z => [(4, .int z), (3, .int x17), (2, .int z14), (0, .ref 0), (1, .int m)]) rfl rfl (by decide) rfl (fun _ => rfl) (fun z51 e_z51 t_z51 => ?_)
                first | (have u_z51 : z51.toInt = x16.toInt + 1 := (by omega); clear t_z51) | skip
                refine kw_goto (pc := 83) (i := 46) (tgt := 36) rfl rfl ?_
                refine kw_sub (lv' := [(4, .int z51), (3, .int x17), (2, .int z14), (0, .ref 0), (1, .int m)]) [0, 1, 2, 3, 4] rfl ?_
                exact ih19 z51 x17 (by omega) (by omega)
              · refine kw_iload (pc := 73) (i := 41) (k := 0) (n := 4) rfl rfl ?_
                refine kw_goto (pc := 75) (i := 42) (tgt := 79) rfl rfl ?_
                refine kw_istore_n (pc := 79) (i := 44) (n := 3) (lv' := [(3, .int x16), (4, .int x16), (2, .int z14), (0, .ref 0), (1, .int m)]) rfl rfl (by decide) rfl ?_
                refine kw_iinc' (pc := 80) (i := 45) (k := 1) (fun z => [(4, .int z), (3, .int x16), (2, .int z14), (0, .ref 0), (1, .int m)]) rfl rfl (by decide) rfl (fun _ => rfl) (fun z52 e_z52 t_z52 => ?_)
                first | (have u_z52 : z52.toInt = x16.toInt + 1 := (by omega); clear t_z52) | skip
                refine kw_goto (pc := 83) (i := 46) (tgt := 36) rfl rfl ?_
                refine kw_sub (lv' := [(4, .int z52), (3, .int x16), (2, .int z14), (0, .ref 0), (1, .int m)]) [0, 1, 2, 3, 4] rfl ?_
                exact ih19 z52 x16 (by omega) (by omega)
      exact L18 _ 1 0 (by omega) (Nat.lt_succ_self _)
    · refine kw_bipush (pc := 19) (i := 10) (v := (-4)) rfl rfl ?_
      exact kw_ireturn (pc := 21) (i := 11) (ty := .int) rfl rfl rfl ⟨⟨hI, hF0⟩, _, rfl⟩
  · refine kw_iconst (pc := 10) (i := 5) (v := (-1)) rfl rfl ?_
    exact kw_ireturn (pc := 11) (i := 6) (ty := .int) rfl rfl rfl ⟨⟨hI, hF0⟩, _, rfl⟩
abbrev p_X8_wetOfAll_0 (T : Int) (σ : kw_S)  : Option Value → kw_S → Prop := fun vv σ' => σ' = σ ∧ ∃ r : Int32, vv = some (.int r)
set_option maxRecDepth 100000 in
set_option maxHeartbeats 4000000 in
theorem c_X8_wetOfAll_0 (l : Launch) (T : Int) (hT0 : 0 ≤ T) (hT1 : T ≤ 3000) (σ : kw_S) (hI : kw_I (bM T) σ)  : kw_Met l 1 KM mX8_wetOfAll [.ref 0] σ (p_X8_wetOfAll_0 T σ) := by
  have q_0 : (0 : Int32).toInt = 0 := rfl
  refine kw_Met.of (by decide) rfl tX8_wetOfAll (Nat.le_of_ble_eq_true rfl) ?_
  show kw_AW l 1 kw_E0 KM mX8_wetOfAll (p_X8_wetOfAll_0 T σ) 0 [(0, .ref 0)] [] σ
  refine kw_iconst (pc := 0) (i := 0) (v := 0) rfl rfl ?_
  refine kw_istore_n (pc := 1) (i := 1) (n := 1) (lv' := [(1, .int 0), (0, .ref 0)]) rfl rfl (by decide) rfl ?_
  refine kw_iconst (pc := 2) (i := 2) (v := 0) rfl rfl ?_
  refine kw_istore_n (pc := 3) (i := 3) (n := 2) (lv' := [(2, .int 0), (1, .int 0), (0, .ref 0)]) rfl rfl (by decide) rfl ?_
  have L3 : ∀ (n7 : Nat) (x1 : Int32) (x2 : Int32), 0 ≤ x1.toInt → (7 - x1.toInt).toNat < n7 → kw_AW l 1 kw_E0 KM mX8_wetOfAll (p_X8_wetOfAll_0 T σ) 4 [(2, .int x1), (1, .int x2), (0, .ref 0)] [] σ := by
    intro n7
    induction n7 with
    | zero => intro x1 x2 v5 m6; exact absurd m6 (Nat.not_lt_zero _)
    | succ n7 ih4 =>
      intro x1 x2 v5 m6
      have r_x1 := kw_rng x1
      have r_x2 := kw_rng x2
      refine kw_iload_n (pc := 4) (i := 4) (k := 0) (n := 2) rfl rfl rfl ?_
      refine kw_aload_n (pc := 5) (i := 5) (k := 2) (n := 0) rfl rfl rfl ?_
      refine kw_get (pc := 6) (i := 6) (v := .int (σ.1 0 10)) rfl rfl rfl lkX8_163 (fun _ => rfl) ?_
      have b8 : 0 ≤ (σ.1 0 10).toInt ∧ (σ.1 0 10).toInt ≤ 6 := hI 0 10
      refine kw_icmp_ge (pc := 9) (i := 7) (tgt := 27) rfl rfl (fun c9 => ?_) (fun c9 => ?_)
      · refine kw_iload_n (pc := 27) (i := 17) (k := 1) (n := 1) rfl rfl rfl ?_
        exact kw_ireturn (pc := 28) (i := 18) (ty := .int) rfl rfl rfl ⟨rfl, _, rfl⟩
      · refine kw_iload_n (pc := 12) (i := 8) (k := 1) (n := 1) rfl rfl rfl ?_
        refine kw_aload_n (pc := 13) (i := 9) (k := 2) (n := 0) rfl rfl rfl ?_
        refine kw_get (pc := 14) (i := 10) (v := .ref 14) rfl rfl rfl lkX8_57 (fun _ => rfl) ?_
        refine kw_iload_n (pc := 17) (i := 11) (k := 0) (n := 2) rfl rfl rfl ?_
        refine kw_iald (pc := 18) (i := 12) (n := 6) rfl rfl (by omega) (by omega) (fun z10 e_z10 => ?_)
        have t_z10 := congrArg Int32.toInt e_z10
        have r_z10 := kw_rng z10
        refine kw_iadd (pc := 19) (i := 13) rfl (fun z11 e_z11 t_z11 => ?_)
        first | (have u_z11 : z11.toInt = x2.toInt + z10.toInt := (by omega); clear t_z11) | skip
        refine kw_istore_n (pc := 20) (i := 14) (n := 1) (lv' := [(1, .int z11), (2, .int x1), (0, .ref 0)]) rfl rfl (by decide) rfl ?_
        refine kw_iinc' (pc := 21) (i := 15) (k := 1) (fun z => [(2, .int z), (1, .int z11), (0, .ref 0)]) rfl rfl (by decide) rfl (fun _ => rfl) (fun z12 e_z12 t_z12 => ?_)
        first | (have u_z12 : z12.toInt = x1.toInt + 1 := (by omega); clear t_z12) | skip
        refine kw_goto (pc := 24) (i := 16) (tgt := 4) rfl rfl ?_
        refine kw_sub (lv' := [(2, .int z12), (1, .int z11), (0, .ref 0)]) [0, 1, 2] rfl ?_
        exact ih4 z12 z11 (by omega) (by omega)
  exact L3 _ 0 0 (by omega) (Nat.lt_succ_self _)
abbrev p_X8_wet_0 (T : Int) (σ : kw_S)  : Option Value → kw_S → Prop := fun vv σ' => (kw_I (bM T) σ' ∧ kw_F [0] σ σ') ∧ ∃ r : Int32, vv = some (.int r)
set_option maxRecDepth 100000 in
set_option maxHeartbeats 4000000 in
theorem c_X8_wet_0 (l : Launch) (T : Int) (hT0 : 0 ≤ T) (hT1 : T ≤ 3000) (σ : kw_S) (hI : kw_I (bM T) σ)  : kw_Met l 2 KM mX8_wet [.ref 0] σ (p_X8_wet_0 T σ) := by
  have hF0 : kw_F [0] σ σ := kw_F.rf
  have q_0 : (0 : Int32).toInt = 0 := rfl
  have q_1 : (1 : Int32).toInt = 1 := rfl
  refine kw_Met.of (by decide) rfl tX8_wet (Nat.le_of_ble_eq_true rfl) ?_
  show kw_AW l 2 kw_E0 KM mX8_wet (p_X8_wet_0 T σ) 0 [(0, .ref 0)] [] σ
  refine kw_iconst (pc := 0) (i := 0) (v := 0) rfl rfl ?_
  refine kw_istore_n (pc := 1) (i := 1) (n := 1) (lv' := [(1, .int 0), (0, .ref 0)]) rfl rfl (by decide) rfl ?_
  refine kw_iconst (pc := 2) (i := 2) (v := 0) rfl rfl ?_
  refine kw_istore_n (pc := 3) (i := 3) (n := 2) (lv' := [(2, .int 0), (1, .int 0), (0, .ref 0)]) rfl rfl (by decide) rfl ?_
  have L3 : ∀ (n7 : Nat) (x1 : Int32) (x2 : Int32), 0 ≤ x1.toInt → (7 - x1.toInt).toNat < n7 → kw_AW l 2 kw_E0 KM mX8_wet (p_X8_wet_0 T σ) 4 [(2, .int x1), (1, .int x2), (0, .ref 0)] [] σ := by
    intro n7
    induction n7 with
    | zero => intro x1 x2 v5 m6; exact absurd m6 (Nat.not_lt_zero _)
    | succ n7 ih4 =>
      intro x1 x2 v5 m6
      have r_x1 := kw_rng x1
      have r_x2 := kw_rng x2
      refine kw_iload_n (pc := 4) (i := 4) (k := 0) (n := 2) rfl rfl rfl ?_
      refine kw_aload_n (pc := 5) (i := 5) (k := 2) (n := 0) rfl rfl rfl ?_
      refine kw_get (pc := 6) (i := 6) (v := .int (σ.1 0 10)) rfl rfl rfl lkX8_163 (fun _ => rfl) ?_
      have b8 : 0 ≤ (σ.1 0 10).toInt ∧ (σ.1 0 10).toInt ≤ 6 := hI 0 10
      refine kw_icmp_ge (pc := 9) (i := 7) (tgt := 37) rfl rfl (fun c9 => ?_) (fun c9 => ?_)
      · refine kw_aload_n (pc := 37) (i := 23) (k := 2) (n := 0) rfl rfl rfl ?_
        refine kw_aload_n (pc := 38) (i := 24) (k := 2) (n := 0) rfl rfl rfl ?_
        refine kw_callV (pc := 39) (i := 25) (Y := mX8_wetOfAll) (a := 0) (As := []) (st := [.ref 0]) kw_hE rfl rfl lvX8_249 arX8_wetOfAll (c_X8_wetOfAll_0 l T (by omega) (by omega) σ hI  ) (by decide) (Nat.le_of_ble_eq_true rfl) rfl (fun v S11 p10 => ?_)
        obtain ⟨e13, z12, rfl⟩ := p10
        rw [e13]
        have r_z12 := kw_rng z12
        show kw_AW l 2 kw_E0 KM mX8_wet (p_X8_wet_0 T σ) 42 [(2, .int x1), (1, .int x2), (0, .ref 0)] [.int z12, .ref 0] σ
        refine kw_iload_n (pc := 42) (i := 26) (k := 1) (n := 1) rfl rfl rfl ?_
        refine kw_callV (pc := 43) (i := 27) (Y := mX8_ask) (a := 0) (As := [.int z12, .int x2]) (st := []) kw_hE rfl rfl lvX8_119 arX8_ask (c_X8_ask_0 l T (by omega) (by omega) σ hI z12 x2 ) (by decide) (Nat.le_of_ble_eq_true rfl) rfl (fun v S15 p14 => ?_)
        obtain ⟨⟨I18, F19⟩, z17, rfl, f16⟩ := p14
        have F20 : kw_F [0] σ S15 := kw_F.tr hF0 F19 (by decide)
        have r_z17 := kw_rng z17
        show kw_AW l 2 kw_E0 KM mX8_wet (p_X8_wet_0 T σ) 46 [(2, .int x1), (1, .int x2), (0, .ref 0)] [.int z17] S15
        exact kw_ireturn (pc := 46) (i := 28) (ty := .int) rfl rfl rfl ⟨⟨I18, F20⟩, _, rfl⟩
      · refine kw_iload_n (pc := 12) (i := 8) (k := 1) (n := 1) rfl rfl rfl ?_
        refine kw_aload_n (pc := 13) (i := 9) (k := 2) (n := 0) rfl rfl rfl ?_
        refine kw_get (pc := 14) (i := 10) (v := .ref 14) rfl rfl rfl lkX8_57 (fun _ => rfl) ?_
        refine kw_iload_n (pc := 17) (i := 11) (k := 0) (n := 2) rfl rfl rfl ?_
        refine kw_iald (pc := 18) (i := 12) (n := 6) rfl rfl (by omega) (by omega) (fun z21 e_z21 => ?_)
        have t_z21 := congrArg Int32.toInt e_z21
        have r_z21 := kw_rng z21
        refine kw_if_le (pc := 19) (i := 13) (tgt := 28) rfl rfl (fun c22 => ?_) (fun c22 => ?_)
        · refine kw_iconst (pc := 28) (i := 18) (v := 0) rfl rfl ?_
          refine kw_ior (pc := 29) (i := 19) rfl (fun z23 e_z23 => ?_)
          have r_z23 := kw_rng z23
          refine kw_istore_n (pc := 30) (i := 20) (n := 1) (lv' := [(1, .int z23), (2, .int x1), (0, .ref 0)]) rfl rfl (by decide) rfl ?_
          refine kw_iinc' (pc := 31) (i := 21) (k := 1) (fun z => [(2, .int z), (1, .int z23), (0, .ref 0)]) rfl rfl (by decide) rfl (fun _ => rfl) (fun z24 e_z24 t_z24 => ?_)
          first | (have u_z24 : z24.toInt = x1.toInt + 1 := (by omega); clear t_z24) | skip
          refine kw_goto (pc := 34) (i := 22) (tgt := 4) rfl rfl ?_
          refine kw_sub (lv' := [(2, .int z24), (1, .int z23), (0, .ref 0)]) [0, 1, 2] rfl ?_
          exact ih4 z24 z23 (by omega) (by omega)
        · refine kw_iconst (pc := 22) (i := 14) (v := 1) rfl rfl ?_
          refine kw_iload_n (pc := 23) (i := 15) (k := 0) (n := 2) rfl rfl rfl ?_
          refine kw_ishl (pc := 24) (i := 16) rfl (fun z25 e_z25 => ?_)
          have r_z25 := kw_rng z25
          have t_z25 := kw_shlm x1 z25 e_z25
          have u_z25 := congrArg Int32.toInt e_z25
          refine kw_goto (pc := 25) (i := 17) (tgt := 29) rfl rfl ?_
          refine kw_ior (pc := 29) (i := 19) rfl (fun z26 e_z26 => ?_)
          have r_z26 := kw_rng z26
          refine kw_istore_n (pc := 30) (i := 20) (n := 1) (lv' := [(1, .int z26), (2, .int x1), (0, .ref 0)]) rfl rfl (by decide) rfl ?_
          refine kw_iinc' (pc := 31) (i := 21) (k := 1) (fun z => [(2, .int z), (1, .int z26), (0, .ref 0)]) rfl rfl (by decide) rfl (fun _ => rfl) (fun z27 e_z27 t_z27 => ?_)
          first | (have u_z27 : z27.toInt = x1.toInt + 1 := (by omega); clear t_z27) | skip
          refine kw_goto (pc := 34) (i := 22) (tgt := 4) rfl rfl ?_
          refine kw_sub (lv' := [(2, .int z27), (1, .int z26), (0, .ref 0)]) [0, 1, 2] rfl ?_
          exact ih4 z27 z26 (by omega) (by omega)
  exact L3 _ 0 0 (by omega) (Nat.lt_succ_self _)
abbrev p_X8_askedPlan_0 (T : Int) (σ : kw_S) (a : Int32) : Option Value → kw_S → Prop := fun vv σ' => (kw_I (bM T) σ' ∧ kw_F [0, 1] σ σ') ∧ ∃ r : Int32, vv = some (.int r) ∧ (r.toInt < 0 ∨ 0 ≤ a.toInt ∧ a.toInt ≤ 5 ∧ 0 ≤ (σ'.1 2 a.toNatClampNeg).toInt ∧ (σ'.1 2 a.toNatClampNeg).toInt ≤ 6)
set_option maxRecDepth 100000 in
set_option maxHeartbeats 4000000 in
theorem c_X8_askedPlan_0 (l : Launch) (T : Int) (hT0 : 0 ≤ T) (hT1 : T ≤ 3000) (σ : kw_S) (hI : kw_I (bM T) σ) (a : Int32) : kw_Met l 3 KM mX8_askedPlan [.ref 0, .int a] σ (p_X8_askedPlan_0 T σ a) := by
  have r_a := kw_rng a
  have hF0 : kw_F [0, 1] σ σ := kw_F.rf
  have q_m4 : (-4 : Int32).toInt = -4 := rfl
  have q_m1 : (-1 : Int32).toInt = -1 := rfl
  have q_0 : (0 : Int32).toInt = 0 := rfl
  have q_1 : (1 : Int32).toInt = 1 := rfl
  have q_3 : (3 : Int32).toInt = 3 := rfl
  have q_5 : (5 : Int32).toInt = 5 := rfl
  have q_6 : (6 : Int32).toInt = 6 := rfl
  refine kw_Met.of (by decide) rfl tX8_askedPlan (Nat.le_of_ble_eq_true rfl) ?_
  show kw_AW l 3 kw_E0 KM mX8_askedPlan (p_X8_askedPlan_0 T σ a) 0 [(0, .ref 0), (1, .int a)] [] σ
  refine kw_iload_n (pc := 0) (i := 0) (k := 1) (n := 1) rfl rfl rfl ?_
  refine kw_callS (pc := 1) (i := 1) (Y := mX8_isRow) (As := [.int a]) (st := []) kw_hE rfl lsX8_97 arX8_isRow (c_X8_isRow l T (by omega) (by omega) σ hI a ) (by decide) (Nat.le_of_ble_eq_true rfl) rfl (fun v S2 p1 => ?_)
  obtain ⟨e7, z6, rfl, f3, f4, f5⟩ := p1
  rw [e7]
  have r_z6 := kw_rng z6
  show kw_AW l 3 kw_E0 KM mX8_askedPlan (p_X8_askedPlan_0 T σ a) 4 [(0, .ref 0), (1, .int a)] [.int z6] σ
  refine kw_if_ne (pc := 4) (i := 2) (tgt := 9) rfl rfl (fun c8 => ?_) (fun c8 => ?_)
  · refine kw_aload_n (pc := 9) (i := 5) (k := 0) (n := 0) rfl rfl rfl ?_
    refine kw_get (pc := 10) (i := 6) (v := .int (σ.1 0 10)) rfl rfl rfl lkX8_163 (fun _ => rfl) ?_
    have b9 : 0 ≤ (σ.1 0 10).toInt ∧ (σ.1 0 10).toInt ≤ 6 := hI 0 10
    refine kw_if_ne (pc := 13) (i := 7) (tgt := 19) rfl rfl (fun c10 => ?_) (fun c10 => ?_)
    · refine kw_aload_n (pc := 19) (i := 10) (k := 0) (n := 0) rfl rfl rfl ?_
      refine kw_get (pc := 20) (i := 11) (v := .ref 2) rfl rfl rfl lkX8_17 (fun _ => rfl) ?_
      refine kw_iload_n (pc := 23) (i := 12) (k := 1) (n := 1) rfl rfl rfl ?_
      refine kw_iald (pc := 24) (i := 13) (n := 6) rfl rfl (by omega) (by omega) (fun z11 e_z11 => ?_)
      have t_z11 := congrArg Int32.toInt e_z11
      have b_z11 : -9 ≤ z11.toInt ∧ z11.toInt ≤ 40 := by rw [e_z11]; exact hI 2 _
      refine kw_if_ge (pc := 25) (i := 14) (tgt := 34) rfl rfl (fun c12 => ?_) (fun c12 => ?_)
      · refine kw_aload_n (pc := 34) (i := 19) (k := 0) (n := 0) rfl rfl rfl ?_
        refine kw_get (pc := 35) (i := 20) (v := .ref 2) rfl rfl rfl lkX8_17 (fun _ => rfl) ?_
        refine kw_iload_n (pc := 38) (i := 21) (k := 1) (n := 1) rfl rfl rfl ?_
        refine kw_iald (pc := 39) (i := 22) (n := 6) rfl rfl (by omega) (by omega) (fun z13 e_z13 => ?_)
        have t_z13 := congrArg Int32.toInt e_z13
        have b_z13 : -9 ≤ z13.toInt ∧ z13.toInt ≤ 40 := by rw [e_z13]; exact hI 2 _
        refine kw_bipush (pc := 40) (i := 23) (v := 6) rfl rfl ?_
        refine kw_icmp_le (pc := 42) (i := 24) (tgt := 51) rfl rfl (fun c14 => ?_) (fun c14 => ?_)
        · refine kw_iconst (pc := 51) (i := 29) (v := 0) rfl rfl ?_
          refine kw_istore_n (pc := 52) (i := 30) (n := 2) (lv' := [(2, .int 0), (0, .ref 0), (1, .int a)]) rfl rfl (by decide) rfl ?_
          have L16 : ∀ (n20 : Nat) (x15 : Int32), 0 ≤ x15.toInt → (41 - x15.toInt).toNat < n20 → kw_AW l 3 kw_E0 KM mX8_askedPlan (p_X8_askedPlan_0 T σ a) 53 [(2, .int x15), (0, .ref 0), (1, .int a)] [] σ := by
            intro n20
            induction n20 with
            | zero => intro x15 v18 m19; exact absurd m19 (Nat.not_lt_zero _)
            | succ n20 ih17 =>
              intro x15 v18 m19
              have r_x15 := kw_rng x15
              refine kw_iload_n (pc := 53) (i := 31) (k := 0) (n := 2) rfl rfl rfl ?_
              refine kw_aload_n (pc := 54) (i := 32) (k := 1) (n := 0) rfl rfl rfl ?_
              refine kw_get (pc := 55) (i := 33) (v := .ref 2) rfl rfl rfl lkX8_17 (fun _ => rfl) ?_
              refine kw_iload_n (pc := 58) (i := 34) (k := 2) (n := 1) rfl rfl rfl ?_
              refine kw_iald (pc := 59) (i := 35) (n := 6) rfl rfl (by omega) (by omega) (fun z21 e_z21 => ?_)
              have t_z21 := congrArg Int32.toInt e_z21
              have b_z21 : -9 ≤ z21.toInt ∧ z21.toInt ≤ 40 := by rw [e_z21]; exact hI 2 _
              refine kw_icmp_ge (pc := 60) (i := 36) (tgt := 88) rfl rfl (fun c22 => ?_) (fun c22 => ?_)
              · refine kw_iconst (pc := 88) (i := 50) (v := 0) rfl rfl ?_
                exact kw_ireturn (pc := 89) (i := 51) (ty := .int) rfl rfl rfl ⟨⟨hI, hF0⟩, _, rfl, by omega⟩
              · refine kw_aload_n (pc := 63) (i := 37) (k := 1) (n := 0) rfl rfl rfl ?_
                refine kw_aload_n (pc := 64) (i := 38) (k := 1) (n := 0) rfl rfl rfl ?_
                refine kw_iload_n (pc := 65) (i := 39) (k := 2) (n := 1) rfl rfl rfl ?_
                refine kw_iload_n (pc := 66) (i := 40) (k := 0) (n := 2) rfl rfl rfl ?_
                refine kw_callV (pc := 67) (i := 41) (Y := mX8_rowAt) (a := 0) (As := [.int a, .int x15]) (st := [.ref 0]) kw_hE rfl rfl lvX8_115 arX8_rowAt (c_X8_rowAt_0 l T (by omega) (by omega) σ hI a x15 (by first | omega | decide) (by first | omega | decide) (by first | omega | decide) (by first | omega | decide)) (by decide) (Nat.le_of_ble_eq_true rfl) rfl (fun v S24 p23 => ?_)
                obtain ⟨e26, z25, rfl⟩ := p23
                rw [e26]
                have r_z25 := kw_rng z25
                show kw_AW l 3 kw_E0 KM mX8_askedPlan (p_X8_askedPlan_0 T σ a) 70 [(2, .int x15), (0, .ref 0), (1, .int a)] [.int z25, .ref 0] σ
                refine kw_callV (pc := 70) (i := 42) (Y := mX8_isSet) (a := 0) (As := [.int z25]) (st := []) kw_hE rfl rfl lvX8_243 arX8_isSet (c_X8_isSet_0 l T (by omega) (by omega) σ hI z25 ) (by decide) (Nat.le_of_ble_eq_true rfl) rfl (fun v S28 p27 => ?_)
                obtain ⟨e31, z30, rfl, f29⟩ := p27
                rw [e31]
                have r_z30 := kw_rng z30
                show kw_AW l 3 kw_E0 KM mX8_askedPlan (p_X8_askedPlan_0 T σ a) 73 [(2, .int x15), (0, .ref 0), (1, .int a)] [.int z30] σ
                refine kw_if_ne (pc := 73) (i := 43) (tgt := 82) rfl rfl (fun c32 => ?_) (fun c32 => ?_)
                · refine kw_iinc' (pc := 82) (i := 48) (k := 0) (fun z => [(2, .int z), (0, .ref 0), (1, .int a)]) rfl rfl (by decide) rfl (fun _ => rfl) (fun z33 e_z33 t_z33 => ?_)
                  first | (have u_z33 : z33.toInt = x15.toInt + 1 := (by omega); clear t_z33) | skip
                  refine kw_goto (pc := 85) (i := 49) (tgt := 53) rfl rfl ?_
                  refine kw_sub (lv' := [(2, .int z33), (0, .ref 0), (1, .int a)]) [0, 1, 2] rfl ?_
                  exact ih17 z33 (by omega) (by omega)
                · refine kw_aload_n (pc := 76) (i := 44) (k := 1) (n := 0) rfl rfl rfl ?_
                  refine kw_iconst (pc := 77) (i := 45) (v := 3) rfl rfl ?_
                  refine kw_callV (pc := 78) (i := 46) (Y := mX8_meet) (a := 0) (As := [.int 3]) (st := []) kw_hE rfl rfl lvX8_101 arX8_meet (c_X8_meet_0 l T (by omega) (by omega) σ hI 3 (by first | omega | decide) (by first | omega | decide)) (by decide) (Nat.le_of_ble_eq_true rfl) rfl (fun v S35 p34 => ?_)
                  obtain ⟨⟨I38, F39⟩, z37, rfl, f36⟩ := p34
                  have F40 : kw_F [0, 1] σ S35 := kw_F.tr hF0 F39 (by decide)
                  have r_z37 := kw_rng z37
                  show kw_AW l 3 kw_E0 KM mX8_askedPlan (p_X8_askedPlan_0 T σ a) 81 [(2, .int x15), (0, .ref 0), (1, .int a)] [.int z37] S35
                  exact kw_ireturn (pc := 81) (i := 47) (ty := .int) rfl rfl rfl ⟨⟨I38, F40⟩, _, rfl, by omega⟩
          exact L16 _ 0 (by omega) (Nat.lt_succ_self _)
        · refine kw_aload_n (pc := 45) (i := 25) (k := 0) (n := 0) rfl rfl rfl ?_
          refine kw_iconst (pc := 46) (i := 26) (v := 5) rfl rfl ?_
          refine kw_callV (pc := 47) (i := 27) (Y := mX8_meet) (a := 0) (As := [.int 5]) (st := []) kw_hE rfl rfl lvX8_101 arX8_meet (c_X8_meet_0 l T (by omega) (by omega) σ hI 5 (by first | omega | decide) (by first | omega | decide)) (by decide) (Nat.le_of_ble_eq_true rfl) rfl (fun v S42 p41 => ?_)
          obtain ⟨⟨I45, F46⟩, z44, rfl, f43⟩ := p41
          have F47 : kw_F [0, 1] σ S42 := kw_F.tr hF0 F46 (by decide)
          have r_z44 := kw_rng z44
          show kw_AW l 3 kw_E0 KM mX8_askedPlan (p_X8_askedPlan_0 T σ a) 50 [(0, .ref 0), (1, .int a)] [.int z44] S42
          exact kw_ireturn (pc := 50) (i := 28) (ty := .int) rfl rfl rfl ⟨⟨I45, F47⟩, _, rfl, by omega⟩
      · refine kw_aload_n (pc := 28) (i := 15) (k := 0) (n := 0) rfl rfl rfl ?_
        refine kw_iconst (pc := 29) (i := 16) (v := 1) rfl rfl ?_
        refine kw_callV (pc := 30) (i := 17) (Y := mX8_meet) (a := 0) (As := [.int 1]) (st := []) kw_hE rfl rfl lvX8_101 arX8_meet (c_X8_meet_0 l T (by omega) (by omega) σ hI 1 (by first | omega | decide) (by first | omega | decide)) (by decide) (Nat.le_of_ble_eq_true rfl) rfl (fun v S49 p48 => ?_)
        obtain ⟨⟨I52, F53⟩, z51, rfl, f50⟩ := p48
        have F54 : kw_F [0, 1] σ S49 := kw_F.tr hF0 F53 (by decide)
        have r_z51 := kw_rng z51
        show kw_AW l 3 kw_E0 KM mX8_askedPlan (p_X8_askedPlan_0 T σ a) 33 [(0, .ref 0), (1, .int a)] [.int z51] S49
        exact kw_ireturn (pc := 33) (i := 18) (ty := .int) rfl rfl rfl ⟨⟨I52, F54⟩, _, rfl, by omega⟩
    · refine kw_bipush (pc := 16) (i := 8) (v := (-4)) rfl rfl ?_
      exact kw_ireturn (pc := 18) (i := 9) (ty := .int) rfl rfl rfl ⟨⟨hI, hF0⟩, _, rfl, by omega⟩
  · refine kw_iconst (pc := 7) (i := 3) (v := (-1)) rfl rfl ?_
    exact kw_ireturn (pc := 8) (i := 4) (ty := .int) rfl rfl rfl ⟨⟨hI, hF0⟩, _, rfl, by omega⟩
abbrev p_X8_sail_0 (T : Int) (σ : kw_S) (a : Int32) : Option Value → kw_S → Prop := fun vv σ' => (kw_I (bM T) σ' ∧ kw_F [0, 1] σ σ') ∧ ∃ r : Int32, vv = some (.int r)
set_option maxRecDepth 100000 in
set_option maxHeartbeats 4000000 in
theorem c_X8_sail_0 (l : Launch) (T : Int) (hT0 : 0 ≤ T) (hT1 : T ≤ 3000) (σ : kw_S) (hI : kw_I (bM T) σ) (a : Int32) : kw_Met l 4 KM mX8_sail [.ref 0, .int a] σ (p_X8_sail_0 T σ a) := by
  have r_a := kw_rng a
  have hF0 : kw_F [0, 1] σ σ := kw_F.rf
  have q_0 : (0 : Int32).toInt = 0 := rfl
  have q_1 : (1 : Int32).toInt = 1 := rfl
  refine kw_Met.of (by decide) rfl tX8_sail (Nat.le_of_ble_eq_true rfl) ?_
  show kw_AW l 4 kw_E0 KM mX8_sail (p_X8_sail_0 T σ a) 0 [(0, .ref 0), (1, .int a)] [] σ
  refine kw_aload_n (pc := 0) (i := 0) (k := 0) (n := 0) rfl rfl rfl ?_
  refine kw_iload_n (pc := 1) (i := 1) (k := 1) (n := 1) rfl rfl rfl ?_
  refine kw_callV (pc := 2) (i := 2) (Y := mX8_askedPlan) (a := 0) (As := [.int a]) (st := []) kw_hE rfl rfl lvX8_252 arX8_askedPlan (c_X8_askedPlan_0 l T (by omega) (by omega) σ hI a ) (by decide) (Nat.le_of_ble_eq_true rfl) rfl (fun v S2 p1 => ?_)
  obtain ⟨⟨I5, F6⟩, z4, rfl, f3⟩ := p1
  have F7 : kw_F [0, 1] σ S2 := kw_F.tr hF0 F6 (by decide)
  have r_z4 := kw_rng z4
  show kw_AW l 4 kw_E0 KM mX8_sail (p_X8_sail_0 T σ a) 5 [(0, .ref 0), (1, .int a)] [.int z4] S2
  refine kw_istore_n (pc := 5) (i := 3) (n := 2) (lv' := [(2, .int z4), (0, .ref 0), (1, .int a)]) rfl rfl (by decide) rfl ?_
  refine kw_iload_n (pc := 6) (i := 4) (k := 0) (n := 2) rfl rfl rfl ?_
  refine kw_if_ge (pc := 7) (i := 5) (tgt := 12) rfl rfl (fun c8 => ?_) (fun c8 => ?_)
  · refine kw_aload_n (pc := 12) (i := 8) (k := 1) (n := 0) rfl rfl rfl ?_
    refine kw_get (pc := 13) (i := 9) (v := .int (S2.1 0 23)) rfl rfl rfl lkX8_169 (fun _ => rfl) ?_
    have b9 := kw_rng (S2.1 0 23)
    refine kw_istore_n (pc := 16) (i := 10) (n := 3) (lv' := [(3, .int (S2.1 0 23)), (2, .int z4), (0, .ref 0), (1, .int a)]) rfl rfl (by decide) rfl ?_
    refine kw_aload_n (pc := 17) (i := 11) (k := 2) (n := 0) rfl rfl rfl ?_
    refine kw_get (pc := 18) (i := 12) (v := .int (S2.1 0 24)) rfl rfl rfl lkX8_172 (fun _ => rfl) ?_
    have b10 := kw_rng (S2.1 0 24)
    refine kw_istore (pc := 21) (i := 13) (n := 4) (lv' := [(4, .int (S2.1 0 24)), (3, .int (S2.1 0 23)), (2, .int z4), (0, .ref 0), (1, .int a)]) rfl (by decide) rfl ?_
    refine kw_iconst (pc := 23) (i := 14) (v := 0) rfl rfl ?_
    refine kw_istore (pc := 24) (i := 15) (n := 5) (lv' := [(5, .int 0), (4, .int (S2.1 0 24)), (3, .int (S2.1 0 23)), (2, .int z4), (0, .ref 0), (1, .int a)]) rfl (by decide) rfl ?_
    have L14 : ∀ (n18 : Nat) (x11 : Int32) (x12 : Int32) (x13 : Int32), 0 ≤ x11.toInt → (41 - x11.toInt).toNat < n18 → kw_AW l 4 kw_E0 KM mX8_sail (p_X8_sail_0 T σ a) 26 [(5, .int x11), (4, .int x12), (3, .int x13), (2, .int z4), (0, .ref 0), (1, .int a)] [] S2 := by
      intro n18
      induction n18 with
      | zero => intro x11 x12 x13 v16 m17; exact absurd m17 (Nat.not_lt_zero _)
      | succ n18 ih15 =>
        intro x11 x12 x13 v16 m17
        have r_x11 := kw_rng x11
        have r_x12 := kw_rng x12
        have r_x13 := kw_rng x13
        refine kw_iload (pc := 26) (i := 16) (k := 0) (n := 5) rfl rfl ?_
        refine kw_aload_n (pc := 28) (i := 17) (k := 4) (n := 0) rfl rfl rfl ?_
        refine kw_get (pc := 29) (i := 18) (v := .ref 2) rfl rfl rfl lkX8_17 (fun _ => rfl) ?_
        refine kw_iload_n (pc := 32) (i := 19) (k := 5) (n := 1) rfl rfl rfl ?_
        refine kw_iald (pc := 33) (i := 20) (n := 6) rfl rfl (by omega) (by omega) (fun z19 e_z19 => ?_)
        have t_z19 := congrArg Int32.toInt e_z19
        have b_z19 : -9 ≤ z19.toInt ∧ z19.toInt ≤ 40 := by rw [e_z19]; exact I5 2 _
        refine kw_icmp_ge (pc := 34) (i := 21) (tgt := 95) rfl rfl (fun c20 => ?_) (fun c20 => ?_)
        · refine kw_aload_n (pc := 95) (i := 54) (k := 4) (n := 0) rfl rfl rfl ?_
          refine kw_iload (pc := 96) (i := 55) (k := 1) (n := 4) rfl rfl ?_
          refine kw_i2l (pc := 98) (i := 56) rfl (fun z21 e_z21 t_z21 => ?_)
          refine kw_lconst (pc := 99) (i := 57) (v := 1) rfl rfl ?_
          refine kw_callV (pc := 100) (i := 58) (Y := mX8_part) (a := 0) (As := [.long z21, .long 1]) (st := []) kw_hE rfl rfl lvX8_223 arX8_part (c_X8_part_0 l T (by omega) (by omega) S2 I5 z21 1 (by first | omega | decide)) (by decide) (Nat.le_of_ble_eq_true rfl) rfl (fun v S23 p22 => ?_)
          obtain ⟨⟨I26, F27⟩, z25, rfl, f24⟩ := p22
          have F28 : kw_F [0, 1] σ S23 := kw_F.tr F7 F27 (by decide)
          have r_z25 := kw_rng z25
          show kw_AW l 4 kw_E0 KM mX8_sail (p_X8_sail_0 T σ a) 103 [(5, .int x11), (4, .int x12), (3, .int x13), (2, .int z4), (0, .ref 0), (1, .int a)] [.int z25] S23
          refine kw_pop (pc := 103) (i := 59) rfl rfl ?_
          refine kw_aload_n (pc := 104) (i := 60) (k := 4) (n := 0) rfl rfl rfl ?_
          refine kw_iload_n (pc := 105) (i := 61) (k := 2) (n := 3) rfl rfl rfl ?_
          refine kw_iconst (pc := 106) (i := 62) (v := 1) rfl rfl ?_
          refine kw_callV (pc := 107) (i := 63) (Y := mX8_ask) (a := 0) (As := [.int x13, .int 1]) (st := []) kw_hE rfl rfl lvX8_119 arX8_ask (c_X8_ask_0 l T (by omega) (by omega) S23 I26 x13 1 ) (by decide) (Nat.le_of_ble_eq_true rfl) rfl (fun v S30 p29 => ?_)
          obtain ⟨⟨I33, F34⟩, z32, rfl, f31⟩ := p29
          have F35 : kw_F [0, 1] σ S30 := kw_F.tr F28 F34 (by decide)
          have r_z32 := kw_rng z32
          show kw_AW l 4 kw_E0 KM mX8_sail (p_X8_sail_0 T σ a) 110 [(5, .int x11), (4, .int x12), (3, .int x13), (2, .int z4), (0, .ref 0), (1, .int a)] [.int z32] S30
          exact kw_ireturn (pc := 110) (i := 64) (ty := .int) rfl rfl rfl ⟨⟨I33, F35⟩, _, rfl⟩
        · refine kw_iload_n (pc := 37) (i := 22) (k := 2) (n := 3) rfl rfl rfl ?_
          refine kw_aload_n (pc := 38) (i := 23) (k := 4) (n := 0) rfl rfl rfl ?_
          refine kw_aload_n (pc := 39) (i := 24) (k := 4) (n := 0) rfl rfl rfl ?_
          refine kw_iload_n (pc := 40) (i := 25) (k := 5) (n := 1) rfl rfl rfl ?_
          refine kw_iload (pc := 41) (i := 26) (k := 0) (n := 5) rfl rfl ?_
          refine kw_callV (pc := 43) (i := 27) (Y := mX8_rowAt) (a := 0) (As := [.int a, .int x11]) (st := [.ref 0, .int x13]) kw_hE rfl rfl lvX8_115 arX8_rowAt (c_X8_rowAt_0 l T (by omega) (by omega) S2 I5 a x11 (by first | omega | decide) (by first | omega | decide) (by first | omega | decide) (by first | omega | decide)) (by decide) (Nat.le_of_ble_eq_true rfl) rfl (fun v S37 p36 => ?_)
          obtain ⟨e39, z38, rfl⟩ := p36
          rw [e39]
          have r_z38 := kw_rng z38
          show kw_AW l 4 kw_E0 KM mX8_sail (p_X8_sail_0 T σ a) 46 [(5, .int x11), (4, .int x12), (3, .int x13), (2, .int z4), (0, .ref 0), (1, .int a)] [.int z38, .ref 0, .int x13] S2
          refine kw_aload_n (pc := 46) (i := 28) (k := 4) (n := 0) rfl rfl rfl ?_
          refine kw_aload_n (pc := 47) (i := 29) (k := 4) (n := 0) rfl rfl rfl ?_
          refine kw_get (pc := 48) (i := 30) (v := .int (S2.1 0 22)) rfl rfl rfl lkX8_166 (fun _ => rfl) ?_
          have b40 : 0 ≤ (S2.1 0 22).toInt ∧ (S2.1 0 22).toInt ≤ T := I5 0 22
          refine kw_iload (pc := 51) (i := 31) (k := 0) (n := 5) rfl rfl ?_
          refine kw_iadd (pc := 53) (i := 32) rfl (fun z41 e_z41 t_z41 => ?_)
          first | (have u_z41 : z41.toInt = (S2.1 0 22).toInt + x11.toInt := (by omega); clear t_z41) | skip
          refine kw_callV (pc := 54) (i := 33) (Y := mX8_windAt) (a := 0) (As := [.int z41]) (st := [.int z38, .ref 0, .int x13]) kw_hE rfl rfl lvX8_196 arX8_windAt (c_X8_windAt_0 l T (by omega) (by omega) S2 I5 z41 (by first | omega | decide)) (by decide) (Nat.le_of_ble_eq_true rfl) rfl (fun v S43 p42 => ?_)
          obtain ⟨e45, z44, rfl⟩ := p42
          rw [e45]
          have r_z44 := kw_rng z44
          show kw_AW l 4 kw_E0 KM mX8_sail (p_X8_sail_0 T σ a) 57 [(5, .int x11), (4, .int x12), (3, .int x13), (2, .int z4), (0, .ref 0), (1, .int a)] [.int z44, .int z38, .ref 0, .int x13] S2
          refine kw_callV (pc := 57) (i := 34) (Y := mX8_milesBy) (a := 0) (As := [.int z38, .int z44]) (st := [.int x13]) kw_hE rfl rfl lvX8_199 arX8_milesBy (c_X8_milesBy_0 l T (by omega) (by omega) S2 I5 z38 z44 ) (by decide) (Nat.le_of_ble_eq_true rfl) rfl (fun v S47 p46 => ?_)
          obtain ⟨e49, z48, rfl⟩ := p46
          rw [e49]
          have r_z48 := kw_rng z48
          show kw_AW l 4 kw_E0 KM mX8_sail (p_X8_sail_0 T σ a) 60 [(5, .int x11), (4, .int x12), (3, .int x13), (2, .int z4), (0, .ref 0), (1, .int a)] [.int z48, .int x13] S2
          refine kw_iadd (pc := 60) (i := 35) rfl (fun z50 e_z50 t_z50 => ?_)
          first | (have u_z50 : z50.toInt = x13.toInt + z48.toInt := (by omega); clear t_z50) | skip
          refine kw_istore_n (pc := 61) (i := 36) (n := 3) (lv' := [(3, .int z50), (5, .int x11), (4, .int x12), (2, .int z4), (0, .ref 0), (1, .int a)]) rfl rfl (by decide) rfl ?_
          refine kw_iload (pc := 62) (i := 37) (k := 2) (n := 4) rfl rfl ?_
          refine kw_aload_n (pc := 64) (i := 38) (k := 4) (n := 0) rfl rfl rfl ?_
          refine kw_aload_n (pc := 65) (i := 39) (k := 4) (n := 0) rfl rfl rfl ?_
          refine kw_iload_n (pc := 66) (i := 40) (k := 5) (n := 1) rfl rfl rfl ?_
          refine kw_iload (pc := 67) (i := 41) (k := 1) (n := 5) rfl rfl ?_
          refine kw_callV (pc := 69) (i := 42) (Y := mX8_rowAt) (a := 0) (As := [.int a, .int x11]) (st := [.ref 0, .int x12]) kw_hE rfl rfl lvX8_115 arX8_rowAt (c_X8_rowAt_0 l T (by omega) (by omega) S2 I5 a x11 (by first | omega | decide) (by first | omega | decide) (by first | omega | decide) (by first | omega | decide)) (by decide) (Nat.le_of_ble_eq_true rfl) rfl (fun v S52 p51 => ?_)
          obtain ⟨e54, z53, rfl⟩ := p51
          rw [e54]
          have r_z53 := kw_rng z53
          show kw_AW l 4 kw_E0 KM mX8_sail (p_X8_sail_0 T σ a) 72 [(3, .int z50), (5, .int x11), (4, .int x12), (2, .int z4), (0, .ref 0), (1, .int a)] [.int z53, .ref 0, .int x12] S2
          refine kw_aload_n (pc := 72) (i := 43) (k := 4) (n := 0) rfl rfl rfl ?_
          refine kw_aload_n (pc := 73) (i := 44) (k := 4) (n := 0) rfl rfl rfl ?_
          refine kw_get (pc := 74) (i := 45) (v := .int (S2.1 0 22)) rfl rfl rfl lkX8_166 (fun _ => rfl) ?_
          refine kw_iload (pc := 77) (i := 46) (k := 1) (n := 5) rfl rfl ?_
          refine kw_iadd (pc := 79) (i := 47) rfl (fun z55 e_z55 t_z55 => ?_)
          first | (have u_z55 : z55.toInt = (S2.1 0 22).toInt + x11.toInt := (by omega); clear t_z55) | skip
          refine kw_callV (pc := 80) (i := 48) (Y := mX8_windAt) (a := 0) (As := [.int z55]) (st := [.int z53, .ref 0, .int x12]) kw_hE rfl rfl lvX8_196 arX8_windAt (c_X8_windAt_0 l T (by omega) (by omega) S2 I5 z55 (by first | omega | decide)) (by decide) (Nat.le_of_ble_eq_true rfl) rfl (fun v S57 p56 => ?_)
          obtain ⟨e59, z58, rfl⟩ := p56
          rw [e59]
          have r_z58 := kw_rng z58
          show kw_AW l 4 kw_E0 KM mX8_sail (p_X8_sail_0 T σ a) 83 [(3, .int z50), (5, .int x11), (4, .int x12), (2, .int z4), (0, .ref 0), (1, .int a)] [.int z58, .int z53, .ref 0, .int x12] S2
          refine kw_callV (pc := 83) (i := 49) (Y := mX8_turnBy) (a := 0) (As := [.int z53, .int z58]) (st := [.int x12]) kw_hE rfl rfl lvX8_202 arX8_turnBy (c_X8_turnBy_0 l T (by omega) (by omega) S2 I5 z53 z58 ) (by decide) (Nat.le_of_ble_eq_true rfl) rfl (fun v S61 p60 => ?_)
          obtain ⟨e63, z62, rfl⟩ := p60
          rw [e63]
          have r_z62 := kw_rng z62
          show kw_AW l 4 kw_E0 KM mX8_sail (p_X8_sail_0 T σ a) 86 [(3, .int z50), (5, .int x11), (4, .int x12), (2, .int z4), (0, .ref 0), (1, .int a)] [.int z62, .int x12] S2
          refine kw_iadd (pc := 86) (i := 50) rfl (fun z64 e_z64 t_z64 => ?_)
          first | (have u_z64 : z64.toInt = x12.toInt + z62.toInt := (by omega); clear t_z64) | skip
          refine kw_istore (pc := 87) (i := 51) (n := 4) (lv' := [(4, .int z64), (3, .int z50), (5, .int x11), (2, .int z4), (0, .ref 0), (1, .int a)]) rfl (by decide) rfl ?_
          refine kw_iinc' (pc := 89) (i := 52) (k := 2) (fun z => [(5, .int z), (4, .int z64), (3, .int z50), (2, .int z4), (0, .ref 0), (1, .int a)]) rfl rfl (by decide) rfl (fun _ => rfl) (fun z65 e_z65 t_z65 => ?_)
          first | (have u_z65 : z65.toInt = x11.toInt + 1 := (by omega); clear t_z65) | skip
          refine kw_goto (pc := 92) (i := 53) (tgt := 26) rfl rfl ?_
          refine kw_sub (lv' := [(5, .int z65), (4, .int z64), (3, .int z50), (2, .int z4), (0, .ref 0), (1, .int a)]) [0, 1, 2, 3, 4, 5] rfl ?_
          exact ih15 z65 z64 z50 (by omega) (by omega)
    exact L14 _ 0 (S2.1 0 24) (S2.1 0 23) (by omega) (Nat.lt_succ_self _)
  · refine kw_iload_n (pc := 10) (i := 6) (k := 0) (n := 2) rfl rfl rfl ?_
    exact kw_ireturn (pc := 11) (i := 7) (ty := .int) rfl rfl rfl ⟨⟨I5, F7⟩, _, rfl⟩
abbrev p_X8_dry_0 (T : Int) (σ : kw_S) (a : Int32) : Option Value → kw_S → Prop := fun vv σ' => (kw_I (bM T) σ' ∧ kw_F [0, 1] σ σ') ∧ ∃ r : Int32, vv = some (.int r)
set_option maxRecDepth 100000 in
set_option maxHeartbeats 4000000 in
theorem c_X8_dry_0 (l : Launch) (T : Int) (hT0 : 0 ≤ T) (hT1 : T ≤ 3000) (σ : kw_S) (hI : kw_I (bM T) σ) (a : Int32) : kw_Met l 4 KM mX8_dry [.ref 0, .int a] σ (p_X8_dry_0 T σ a) := by
  have r_a := kw_rng a
  have hF0 : kw_F [0, 1] σ σ := kw_F.rf
  have q_0 : (0 : Int32).toInt = 0 := rfl
  have q_1 : (1 : Int32).toInt = 1 := rfl
  refine kw_Met.of (by decide) rfl tX8_dry (Nat.le_of_ble_eq_true rfl) ?_
  show kw_AW l 4 kw_E0 KM mX8_dry (p_X8_dry_0 T σ a) 0 [(0, .ref 0), (1, .int a)] [] σ
  refine kw_aload_n (pc := 0) (i := 0) (k := 0) (n := 0) rfl rfl rfl ?_
  refine kw_iload_n (pc := 1) (i := 1) (k := 1) (n := 1) rfl rfl rfl ?_
  refine kw_callV (pc := 2) (i := 2) (Y := mX8_askedPlan) (a := 0) (As := [.int a]) (st := []) kw_hE rfl rfl lvX8_252 arX8_askedPlan (c_X8_askedPlan_0 l T (by omega) (by omega) σ hI a ) (by decide) (Nat.le_of_ble_eq_true rfl) rfl (fun v S2 p1 => ?_)
  obtain ⟨⟨I5, F6⟩, z4, rfl, f3⟩ := p1
  have F7 : kw_F [0, 1] σ S2 := kw_F.tr hF0 F6 (by decide)
  have r_z4 := kw_rng z4
  show kw_AW l 4 kw_E0 KM mX8_dry (p_X8_dry_0 T σ a) 5 [(0, .ref 0), (1, .int a)] [.int z4] S2
  refine kw_istore_n (pc := 5) (i := 3) (n := 2) (lv' := [(2, .int z4), (0, .ref 0), (1, .int a)]) rfl rfl (by decide) rfl ?_
  refine kw_iload_n (pc := 6) (i := 4) (k := 0) (n := 2) rfl rfl rfl ?_
  refine kw_if_ge (pc := 7) (i := 5) (tgt := 12) rfl rfl (fun c8 => ?_) (fun c8 => ?_)
  · refine kw_iconst (pc := 12) (i := 8) (v := 0) rfl rfl ?_
    refine kw_istore_n (pc := 13) (i := 9) (n := 3) (lv' := [(3, .int 0), (2, .int z4), (0, .ref 0), (1, .int a)]) rfl rfl (by decide) rfl ?_
    refine kw_iconst (pc := 14) (i := 10) (v := 0) rfl rfl ?_
    refine kw_istore (pc := 15) (i := 11) (n := 4) (lv' := [(4, .int 0), (3, .int 0), (2, .int z4), (0, .ref 0), (1, .int a)]) rfl (by decide) rfl ?_
    have L11 : ∀ (n15 : Nat) (x9 : Int32) (x10 : Int32), 0 ≤ x9.toInt → (7 - x9.toInt).toNat < n15 → kw_AW l 4 kw_E0 KM mX8_dry (p_X8_dry_0 T σ a) 17 [(4, .int x9), (3, .int x10), (2, .int z4), (0, .ref 0), (1, .int a)] [] S2 := by
      intro n15
      induction n15 with
      | zero => intro x9 x10 v13 m14; exact absurd m14 (Nat.not_lt_zero _)
      | succ n15 ih12 =>
        intro x9 x10 v13 m14
        have r_x9 := kw_rng x9
        have r_x10 := kw_rng x10
        refine kw_iload (pc := 17) (i := 12) (k := 0) (n := 4) rfl rfl ?_
        refine kw_aload_n (pc := 19) (i := 13) (k := 3) (n := 0) rfl rfl rfl ?_
        refine kw_get (pc := 20) (i := 14) (v := .int (S2.1 0 10)) rfl rfl rfl lkX8_163 (fun _ => rfl) ?_
        have b16 : 0 ≤ (S2.1 0 10).toInt ∧ (S2.1 0 10).toInt ≤ 6 := I5 0 10
        refine kw_icmp_ge (pc := 23) (i := 15) (tgt := 116) rfl rfl (fun c17 => ?_) (fun c17 => ?_)
        · refine kw_iload_n (pc := 116) (i := 62) (k := 1) (n := 3) rfl rfl rfl ?_
          exact kw_ireturn (pc := 117) (i := 63) (ty := .int) rfl rfl rfl ⟨⟨I5, F7⟩, _, rfl⟩
        · refine kw_aload_n (pc := 26) (i := 16) (k := 3) (n := 0) rfl rfl rfl ?_
          refine kw_get (pc := 27) (i := 17) (v := .ref 14) rfl rfl rfl lkX8_57 (fun _ => rfl) ?_
          refine kw_iload (pc := 30) (i := 18) (k := 0) (n := 4) rfl rfl ?_
          refine kw_iald (pc := 32) (i := 19) (n := 6) rfl rfl (by omega) (by omega) (fun z18 e_z18 => ?_)
          have t_z18 := congrArg Int32.toInt e_z18
          have r_z18 := kw_rng z18
          refine kw_istore (pc := 33) (i := 20) (n := 5) (lv' := [(5, .int z18), (4, .int x9), (3, .int x10), (2, .int z4), (0, .ref 0), (1, .int a)]) rfl (by decide) rfl ?_
          refine kw_iconst (pc := 35) (i := 21) (v := 0) rfl rfl ?_
          refine kw_istore (pc := 36) (i := 22) (n := 6) (lv' := [(6, .int 0), (5, .int z18), (4, .int x9), (3, .int x10), (2, .int z4), (0, .ref 0), (1, .int a)]) rfl (by decide) rfl ?_
          have L21 : ∀ (n25 : Nat) (x19 : Int32) (x20 : Int32), 0 ≤ x19.toInt → (41 - x19.toInt).toNat < n25 → kw_AW l 4 kw_E0 KM mX8_dry (p_X8_dry_0 T σ a) 38 [(6, .int x19), (5, .int x20), (4, .int x9), (3, .int x10), (2, .int z4), (0, .ref 0), (1, .int a)] [] S2 := by
            intro n25
            induction n25 with
            | zero => intro x19 x20 v23 m24; exact absurd m24 (Nat.not_lt_zero _)
            | succ n25 ih22 =>
              intro x19 x20 v23 m24
              have r_x19 := kw_rng x19
              have r_x20 := kw_rng x20
              refine kw_iload (pc := 38) (i := 23) (k := 0) (n := 6) rfl rfl ?_
              refine kw_aload_n (pc := 40) (i := 24) (k := 5) (n := 0) rfl rfl rfl ?_
              refine kw_get (pc := 41) (i := 25) (v := .ref 2) rfl rfl rfl lkX8_17 (fun _ => rfl) ?_
              refine kw_iload_n (pc := 44) (i := 26) (k := 6) (n := 1) rfl rfl rfl ?_
              refine kw_iald (pc := 45) (i := 27) (n := 6) rfl rfl (by omega) (by omega) (fun z26 e_z26 => ?_)
              have t_z26 := congrArg Int32.toInt e_z26
              have b_z26 : -9 ≤ z26.toInt ∧ z26.toInt ≤ 40 := by rw [e_z26]; exact I5 2 _
              refine kw_icmp_ge (pc := 46) (i := 28) (tgt := 94) rfl rfl (fun c27 => ?_) (fun c27 => ?_)
              · refine kw_iload_n (pc := 94) (i := 50) (k := 3) (n := 3) rfl rfl rfl ?_
                refine kw_iload (pc := 95) (i := 51) (k := 1) (n := 5) rfl rfl ?_
                refine kw_if_ne (pc := 97) (i := 52) (tgt := 107) rfl rfl (fun c28 => ?_) (fun c28 => ?_)
                · refine kw_iconst (pc := 107) (i := 57) (v := 0) rfl rfl ?_
                  refine kw_ior (pc := 108) (i := 58) rfl (fun z29 e_z29 => ?_)
                  have r_z29 := kw_rng z29
                  refine kw_istore_n (pc := 109) (i := 59) (n := 3) (lv' := [(3, .int z29), (6, .int x19), (5, .int x20), (4, .int x9), (2, .int z4), (0, .ref 0), (1, .int a)]) rfl rfl (by decide) rfl ?_
                  refine kw_iinc' (pc := 110) (i := 60) (k := 3) (fun z => [(4, .int z), (3, .int z29), (6, .int x19), (5, .int x20), (2, .int z4), (0, .ref 0), (1, .int a)]) rfl rfl (by decide) rfl (fun _ => rfl) (fun z30 e_z30 t_z30 => ?_)
                  first | (have u_z30 : z30.toInt = x9.toInt + 1 := (by omega); clear t_z30) | skip
                  refine kw_goto (pc := 113) (i := 61) (tgt := 17) rfl rfl ?_
                  refine kw_sub (lv' := [(4, .int z30), (3, .int z29), (2, .int z4), (0, .ref 0), (1, .int a)]) [0, 1, 4, 5, 6] rfl ?_
                  exact ih12 z30 z29 (by omega) (by omega)
                · refine kw_iconst (pc := 100) (i := 53) (v := 1) rfl rfl ?_
                  refine kw_iload (pc := 101) (i := 54) (k := 2) (n := 4) rfl rfl ?_
                  refine kw_ishl (pc := 103) (i := 55) rfl (fun z31 e_z31 => ?_)
                  have r_z31 := kw_rng z31
                  have t_z31 := kw_shlm x9 z31 e_z31
                  have u_z31 := congrArg Int32.toInt e_z31
                  refine kw_goto (pc := 104) (i := 56) (tgt := 108) rfl rfl ?_
                  refine kw_ior (pc := 108) (i := 58) rfl (fun z32 e_z32 => ?_)
                  have r_z32 := kw_rng z32
                  refine kw_istore_n (pc := 109) (i := 59) (n := 3) (lv' := [(3, .int z32), (6, .int x19), (5, .int x20), (4, .int x9), (2, .int z4), (0, .ref 0), (1, .int a)]) rfl rfl (by decide) rfl ?_
                  refine kw_iinc' (pc := 110) (i := 60) (k := 3) (fun z => [(4, .int z), (3, .int z32), (6, .int x19), (5, .int x20), (2, .int z4), (0, .ref 0), (1, .int a)]) rfl rfl (by decide) rfl (fun _ => rfl) (fun z33 e_z33 t_z33 => ?_)
                  first | (have u_z33 : z33.toInt = x9.toInt + 1 := (by omega); clear t_z33) | skip
                  refine kw_goto (pc := 113) (i := 61) (tgt := 17) rfl rfl ?_
                  refine kw_sub (lv' := [(4, .int z33), (3, .int z32), (2, .int z4), (0, .ref 0), (1, .int a)]) [0, 1, 4, 5, 6] rfl ?_
                  exact ih12 z33 z32 (by omega) (by omega)
              · refine kw_aload_n (pc := 49) (i := 29) (k := 5) (n := 0) rfl rfl rfl ?_
                refine kw_iload_n (pc := 50) (i := 30) (k := 6) (n := 1) rfl rfl rfl ?_
                refine kw_iload (pc := 51) (i := 31) (k := 0) (n := 6) rfl rfl ?_
                refine kw_callV (pc := 53) (i := 32) (Y := mX8_rowAt) (a := 0) (As := [.int a, .int x19]) (st := []) kw_hE rfl rfl lvX8_115 arX8_rowAt (c_X8_rowAt_0 l T (by omega) (by omega) S2 I5 a x19 (by first | omega | decide) (by first | omega | decide) (by first | omega | decide) (by first | omega | decide)) (by decide) (Nat.le_of_ble_eq_true rfl) rfl (fun v S35 p34 => ?_)
                obtain ⟨e37, z36, rfl⟩ := p34
                rw [e37]
                have r_z36 := kw_rng z36
                show kw_AW l 4 kw_E0 KM mX8_dry (p_X8_dry_0 T σ a) 56 [(6, .int x19), (5, .int x20), (4, .int x9), (3, .int x10), (2, .int z4), (0, .ref 0), (1, .int a)] [.int z36] S2
                refine kw_iload (pc := 56) (i := 33) (k := 2) (n := 4) rfl rfl ?_
                refine kw_callS (pc := 58) (i := 34) (Y := mX8_has) (As := [.int z36, .int x9]) (st := []) kw_hE rfl lsX8_185 arX8_has (c_X8_has l T (by omega) (by omega) S2 I5 z36 x9 ) (by decide) (Nat.le_of_ble_eq_true rfl) rfl (fun v S39 p38 => ?_)
                obtain ⟨e42, z41, rfl, f40⟩ := p38
                rw [e42]
                have r_z41 := kw_rng z41
                show kw_AW l 4 kw_E0 KM mX8_dry (p_X8_dry_0 T σ a) 61 [(6, .int x19), (5, .int x20), (4, .int x9), (3, .int x10), (2, .int z4), (0, .ref 0), (1, .int a)] [.int z41] S2
                refine kw_if_eq (pc := 61) (i := 35) (tgt := 84) rfl rfl (fun c43 => ?_) (fun c43 => ?_)
                · refine kw_iload (pc := 84) (i := 46) (k := 1) (n := 5) rfl rfl ?_
                  refine kw_istore (pc := 86) (i := 47) (n := 5) (lv' := [(5, .int x20), (6, .int x19), (4, .int x9), (3, .int x10), (2, .int z4), (0, .ref 0), (1, .int a)]) rfl (by decide) rfl ?_
                  refine kw_iinc' (pc := 88) (i := 48) (k := 1) (fun z => [(6, .int z), (5, .int x20), (4, .int x9), (3, .int x10), (2, .int z4), (0, .ref 0), (1, .int a)]) rfl rfl (by decide) rfl (fun _ => rfl) (fun z44 e_z44 t_z44 => ?_)
                  first | (have u_z44 : z44.toInt = x19.toInt + 1 := (by omega); clear t_z44) | skip
                  refine kw_goto (pc := 91) (i := 49) (tgt := 38) rfl rfl ?_
                  refine kw_sub (lv' := [(6, .int z44), (5, .int x20), (4, .int x9), (3, .int x10), (2, .int z4), (0, .ref 0), (1, .int a)]) [0, 1, 2, 3, 4, 5, 6] rfl ?_
                  exact ih22 z44 x20 (by omega) (by omega)
                · refine kw_aload_n (pc := 64) (i := 36) (k := 5) (n := 0) rfl rfl rfl ?_
                  refine kw_iload (pc := 65) (i := 37) (k := 1) (n := 5) rfl rfl ?_
                  refine kw_aload_n (pc := 67) (i := 38) (k := 5) (n := 0) rfl rfl rfl ?_
                  refine kw_aload_n (pc := 68) (i := 39) (k := 5) (n := 0) rfl rfl rfl ?_
                  refine kw_get (pc := 69) (i := 40) (v := .int (S2.1 0 22)) rfl rfl rfl lkX8_166 (fun _ => rfl) ?_
                  have b45 : 0 ≤ (S2.1 0 22).toInt ∧ (S2.1 0 22).toInt ≤ T := I5 0 22
                  refine kw_iload (pc := 72) (i := 41) (k := 0) (n := 6) rfl rfl ?_
                  refine kw_iadd (pc := 74) (i := 42) rfl (fun z46 e_z46 t_z46 => ?_)
                  first | (have u_z46 : z46.toInt = (S2.1 0 22).toInt + x19.toInt := (by omega); clear t_z46) | skip
                  refine kw_callV (pc := 75) (i := 43) (Y := mX8_windAt) (a := 0) (As := [.int z46]) (st := [.int x20, .ref 0]) kw_hE rfl rfl lvX8_196 arX8_windAt (c_X8_windAt_0 l T (by omega) (by omega) S2 I5 z46 (by first | omega | decide)) (by decide) (Nat.le_of_ble_eq_true rfl) rfl (fun v S48 p47 => ?_)
                  obtain ⟨e50, z49, rfl⟩ := p47
                  rw [e50]
                  have r_z49 := kw_rng z49
                  show kw_AW l 4 kw_E0 KM mX8_dry (p_X8_dry_0 T σ a) 78 [(6, .int x19), (5, .int x20), (4, .int x9), (3, .int x10), (2, .int z4), (0, .ref 0), (1, .int a)] [.int z49, .int x20, .ref 0] S2
                  refine kw_callV (pc := 78) (i := 44) (Y := mX8_wetBehind) (a := 0) (As := [.int x20, .int z49]) (st := []) kw_hE rfl rfl lvX8_205 arX8_wetBehind (c_X8_wetBehind_0 l T (by omega) (by omega) S2 I5 x20 z49 ) (by decide) (Nat.le_of_ble_eq_true rfl) rfl (fun v S52 p51 => ?_)
                  obtain ⟨e54, z53, rfl⟩ := p51
                  rw [e54]
                  have r_z53 := kw_rng z53
                  show kw_AW l 4 kw_E0 KM mX8_dry (p_X8_dry_0 T σ a) 81 [(6, .int x19), (5, .int x20), (4, .int x9), (3, .int x10), (2, .int z4), (0, .ref 0), (1, .int a)] [.int z53] S2
                  refine kw_goto (pc := 81) (i := 45) (tgt := 86) rfl rfl ?_
                  refine kw_istore (pc := 86) (i := 47) (n := 5) (lv' := [(5, .int z53), (6, .int x19), (4, .int x9), (3, .int x10), (2, .int z4), (0, .ref 0), (1, .int a)]) rfl (by decide) rfl ?_
                  refine kw_iinc' (pc := 88) (i := 48) (k := 1) (fun z => [(6, .int z), (5, .int z53), (4, .int x9), (3, .int x10), (2, .int z4), (0, .ref 0), (1, .int a)]) rfl rfl (by decide) rfl (fun _ => rfl) (fun z55 e_z55 t_z55 => ?_)
                  first | (have u_z55 : z55.toInt = x19.toInt + 1 := (by omega); clear t_z55) | skip
                  refine kw_goto (pc := 91) (i := 49) (tgt := 38) rfl rfl ?_
                  refine kw_sub (lv' := [(6, .int z55), (5, .int z53), (4, .int x9), (3, .int x10), (2, .int z4), (0, .ref 0), (1, .int a)]) [0, 1, 2, 3, 4, 5, 6] rfl ?_
                  exact ih22 z55 z53 (by omega) (by omega)
          exact L21 _ 0 z18 (by omega) (Nat.lt_succ_self _)
    exact L11 _ 0 0 (by omega) (Nat.lt_succ_self _)
  · refine kw_iload_n (pc := 10) (i := 6) (k := 0) (n := 2) rfl rfl rfl ?_
    exact kw_ireturn (pc := 11) (i := 7) (ty := .int) rfl rfl rfl ⟨⟨I5, F7⟩, _, rfl⟩
abbrev p_X8_setHours_0 (T : Int) (σ : kw_S)  : Option Value → kw_S → Prop := fun vv σ' => (kw_I (bM T) σ' ∧ kw_F [18, 19] σ σ') ∧ vv = none
set_option maxRecDepth 100000 in
set_option maxHeartbeats 4000000 in
theorem c_X8_setHours_0 (l : Launch) (T : Int) (hT0 : 0 ≤ T) (hT1 : T ≤ 3000) (σ : kw_S) (hI : kw_I (bM T) σ)  : kw_Met l 4 KM mX8_setHours [.ref 0] σ (p_X8_setHours_0 T σ) := by
  have hF0 : kw_F [18, 19] σ σ := kw_F.rf
  have q_0 : (0 : Int32).toInt = 0 := rfl
  have q_1 : (1 : Int32).toInt = 1 := rfl
  have q_3 : (3 : Int32).toInt = 3 := rfl
  have q_64 : (64 : Int32).toInt = 64 := rfl
  refine kw_Met.of (by decide) rfl tX8_setHours (Nat.le_of_ble_eq_true rfl) ?_
  show kw_AW l 4 kw_E0 KM mX8_setHours (p_X8_setHours_0 T σ) 0 [(0, .ref 0)] [] σ
  refine kw_iconst (pc := 0) (i := 0) (v := 0) rfl rfl ?_
  refine kw_istore_n (pc := 1) (i := 1) (n := 1) (lv' := [(1, .int 0), (0, .ref 0)]) rfl rfl (by decide) rfl ?_
  have L5 : ∀ (n9 : Nat) (x1 : Int32) (S2 : kw_S), kw_I (bM T) S2 → kw_F [18, 19] σ S2 → 0 ≤ x1.toInt → (4 - x1.toInt).toNat < n9 → kw_AW l 4 kw_E0 KM mX8_setHours (p_X8_setHours_0 T σ) 2 [(1, .int x1), (0, .ref 0)] [] S2 := by
    intro n9
    induction n9 with
    | zero => intro x1 S2 I3 F4 v7 m8; exact absurd m8 (Nat.not_lt_zero _)
    | succ n9 ih6 =>
      intro x1 S2 I3 F4 v7 m8
      have r_x1 := kw_rng x1
      refine kw_iload_n (pc := 2) (i := 2) (k := 0) (n := 1) rfl rfl rfl ?_
      refine kw_iconst (pc := 3) (i := 3) (v := 3) rfl rfl ?_
      refine kw_icmp_ge (pc := 4) (i := 4) (tgt := 83) rfl rfl (fun c10 => ?_) (fun c10 => ?_)
      · exact kw_return (pc := 83) (i := 51) rfl rfl ⟨⟨I3, F4⟩, rfl⟩
      · refine kw_iconst (pc := 7) (i := 5) (v := 0) rfl rfl ?_
        refine kw_istore_n (pc := 8) (i := 6) (n := 2) (lv' := [(2, .int 0), (1, .int x1), (0, .ref 0)]) rfl rfl (by decide) rfl ?_
        have L15 : ∀ (n19 : Nat) (x11 : Int32) (S12 : kw_S), kw_I (bM T) S12 → kw_F [18, 19] σ S12 → 0 ≤ x11.toInt → (65 - x11.toInt).toNat < n19 → kw_AW l 4 kw_E0 KM mX8_setHours (p_X8_setHours_0 T σ) 9 [(2, .int x11), (1, .int x1), (0, .ref 0)] [] S12 := by
          intro n19
          induction n19 with
          | zero => intro x11 S12 I13 F14 v17 m18; exact absurd m18 (Nat.not_lt_zero _)
          | succ n19 ih16 =>
            intro x11 S12 I13 F14 v17 m18
            have r_x11 := kw_rng x11
            refine kw_iload_n (pc := 9) (i := 7) (k := 0) (n := 2) rfl rfl rfl ?_
            refine kw_iconst (pc := 10) (i := 8) (v := 1) rfl rfl ?_
            refine kw_aload_n (pc := 11) (i := 9) (k := 2) (n := 0) rfl rfl rfl ?_
            refine kw_get (pc := 12) (i := 10) (v := .int (S12.1 0 10)) rfl rfl rfl lkX8_163 (fun _ => rfl) ?_
            have b20 : 0 ≤ (S12.1 0 10).toInt ∧ (S12.1 0 10).toInt ≤ 6 := I13 0 10
            refine kw_ishl (pc := 15) (i := 11) rfl (fun z21 e_z21 => ?_)
            have r_z21 := kw_rng z21
            have t_z21 := kw_shlm (S12.1 0 10) z21 e_z21
            have u_z21 := congrArg Int32.toInt e_z21
            refine kw_icmp_ge (pc := 16) (i := 12) (tgt := 77) rfl rfl (fun c22 => ?_) (fun c22 => ?_)
            · refine kw_iinc' (pc := 77) (i := 49) (k := 1) (fun z => [(1, .int z), (2, .int x11), (0, .ref 0)]) rfl rfl (by decide) rfl (fun _ => rfl) (fun z23 e_z23 t_z23 => ?_)
              first | (have u_z23 : z23.toInt = x1.toInt + 1 := (by omega); clear t_z23) | skip
              refine kw_goto (pc := 80) (i := 50) (tgt := 2) rfl rfl ?_
              refine kw_sub (lv' := [(1, .int z23), (0, .ref 0)]) [0, 2] rfl ?_
              exact ih6 z23 S12 I13 F14 (by omega) (by omega)
            · refine kw_aload_n (pc := 19) (i := 13) (k := 2) (n := 0) rfl rfl rfl ?_
              refine kw_get (pc := 20) (i := 14) (v := .ref 18) rfl rfl rfl lkX8_69 (fun _ => rfl) ?_
              refine kw_bipush (pc := 23) (i := 15) (v := 64) rfl rfl ?_
              refine kw_iload_n (pc := 25) (i := 16) (k := 1) (n := 1) rfl rfl rfl ?_
              refine kw_imul (pc := 26) (i := 17) rfl (fun z24 e_z24 t_z24 => ?_)
              rw [show (64 : Int32).toInt = 64 from rfl] at t_z24
              first | (have u_z24 : z24.toInt = 64 * x1.toInt := (by omega); clear t_z24) | skip
              refine kw_iload_n (pc := 27) (i := 18) (k := 0) (n := 2) rfl rfl rfl ?_
              refine kw_iadd (pc := 28) (i := 19) rfl (fun z25 e_z25 t_z25 => ?_)
              first | (have u_z25 : z25.toInt = z24.toInt + x11.toInt := (by omega); clear t_z25) | skip
              refine kw_aload_n (pc := 29) (i := 20) (k := 2) (n := 0) rfl rfl rfl ?_
              refine kw_iload_n (pc := 30) (i := 21) (k := 0) (n := 2) rfl rfl rfl ?_
              refine kw_aload_n (pc := 31) (i := 22) (k := 2) (n := 0) rfl rfl rfl ?_
              refine kw_aload_n (pc := 32) (i := 23) (k := 2) (n := 0) rfl rfl rfl ?_
              refine kw_get (pc := 33) (i := 24) (v := .int (S12.1 0 22)) rfl rfl rfl lkX8_166 (fun _ => rfl) ?_
              have b26 : 0 ≤ (S12.1 0 22).toInt ∧ (S12.1 0 22).toInt ≤ T := I13 0 22
              refine kw_iload_n (pc := 36) (i := 25) (k := 1) (n := 1) rfl rfl rfl ?_
              refine kw_iadd (pc := 37) (i := 26) rfl (fun z27 e_z27 t_z27 => ?_)
              first | (have u_z27 : z27.toInt = (S12.1 0 22).toInt + x1.toInt := (by omega); clear t_z27) | skip
              refine kw_callV (pc := 38) (i := 27) (Y := mX8_windAt) (a := 0) (As := [.int z27]) (st := [.int x11, .ref 0, .int z25, .ref 18]) kw_hE rfl rfl lvX8_196 arX8_windAt (c_X8_windAt_0 l T (by omega) (by omega) S12 I13 z27 (by first | omega | decide)) (by decide) (Nat.le_of_ble_eq_true rfl) rfl (fun v S29 p28 => ?_)
              obtain ⟨e31, z30, rfl⟩ := p28
              rw [e31]
              have r_z30 := kw_rng z30
              show kw_AW l 4 kw_E0 KM mX8_setHours (p_X8_setHours_0 T σ) 41 [(2, .int x11), (1, .int x1), (0, .ref 0)] [.int z30, .int x11, .ref 0, .int z25, .ref 18] S12
              refine kw_callV (pc := 41) (i := 28) (Y := mX8_milesBy) (a := 0) (As := [.int x11, .int z30]) (st := [.int z25, .ref 18]) kw_hE rfl rfl lvX8_199 arX8_milesBy (c_X8_milesBy_0 l T (by omega) (by omega) S12 I13 x11 z30 ) (by decide) (Nat.le_of_ble_eq_true rfl) rfl (fun v S33 p32 => ?_)
              obtain ⟨e35, z34, rfl⟩ := p32
              rw [e35]
              have r_z34 := kw_rng z34
              show kw_AW l 4 kw_E0 KM mX8_setHours (p_X8_setHours_0 T σ) 44 [(2, .int x11), (1, .int x1), (0, .ref 0)] [.int z34, .int z25, .ref 18] S12
              refine kw_iast (pc := 44) (i := 29) (n := 192) rfl rfl (by omega) (by omega) ?_
              have I36 : kw_I (bM T) (kw_ui S12 18 z25.toNatClampNeg z34) := kw_I_ui I13 (kw_rng z34).1 (Int.le_of_lt_add_one (kw_rng z34).2)
              have F37 : kw_F [18, 19] σ (kw_ui S12 18 z25.toNatClampNeg z34) := kw_F_ui F14 (by decide)
              refine kw_aload_n (pc := 45) (i := 30) (k := 2) (n := 0) rfl rfl rfl ?_
              refine kw_get (pc := 46) (i := 31) (v := .ref 19) rfl rfl rfl lkX8_72 (fun _ => rfl) ?_
              refine kw_bipush (pc := 49) (i := 32) (v := 64) rfl rfl ?_
              refine kw_iload_n (pc := 51) (i := 33) (k := 1) (n := 1) rfl rfl rfl ?_
              refine kw_imul (pc := 52) (i := 34) rfl (fun z38 e_z38 t_z38 => ?_)
              rw [show (64 : Int32).toInt = 64 from rfl] at t_z38
              first | (have u_z38 : z38.toInt = 64 * x1.toInt := (by omega); clear t_z38) | skip
              refine kw_iload_n (pc := 53) (i := 35) (k := 0) (n := 2) rfl rfl rfl ?_
              refine kw_iadd (pc := 54) (i := 36) rfl (fun z39 e_z39 t_z39 => ?_)
              first | (have u_z39 : z39.toInt = z38.toInt + x11.toInt := (by omega); clear t_z39) | skip
              refine kw_aload_n (pc := 55) (i := 37) (k := 2) (n := 0) rfl rfl rfl ?_
              refine kw_iload_n (pc := 56) (i := 38) (k := 0) (n := 2) rfl rfl rfl ?_
              refine kw_aload_n (pc := 57) (i := 39) (k := 2) (n := 0) rfl rfl rfl ?_
              refine kw_aload_n (pc := 58) (i := 40) (k := 2) (n := 0) rfl rfl rfl ?_
              refine kw_get (pc := 59) (i := 41) (v := .int (S12.1 0 22)) rfl rfl rfl lkX8_166 (fun _ => rfl) ?_
              refine kw_iload_n (pc := 62) (i := 42) (k := 1) (n := 1) rfl rfl rfl ?_
              refine kw_iadd (pc := 63) (i := 43) rfl (fun z40 e_z40 t_z40 => ?_)
              first | (have u_z40 : z40.toInt = (S12.1 0 22).toInt + x1.toInt := (by omega); clear t_z40) | skip
              refine kw_callV (pc := 64) (i := 44) (Y := mX8_windAt) (a := 0) (As := [.int z40]) (st := [.int x11, .ref 0, .int z39, .ref 19]) kw_hE rfl rfl lvX8_196 arX8_windAt (c_X8_windAt_0 l T (by omega) (by omega) (kw_ui S12 18 z25.toNatClampNeg z34) I36 z40 (by first | omega | decide)) (by decide) (Nat.le_of_ble_eq_true rfl) rfl (fun v S42 p41 => ?_)
              obtain ⟨e44, z43, rfl⟩ := p41
              rw [e44]
              have r_z43 := kw_rng z43
              show kw_AW l 4 kw_E0 KM mX8_setHours (p_X8_setHours_0 T σ) 67 [(2, .int x11), (1, .int x1), (0, .ref 0)] [.int z43, .int x11, .ref 0, .int z39, .ref 19] (kw_ui S12 18 z25.toNatClampNeg z34)
              refine kw_callV (pc := 67) (i := 45) (Y := mX8_turnBy) (a := 0) (As := [.int x11, .int z43]) (st := [.int z39, .ref 19]) kw_hE rfl rfl lvX8_202 arX8_turnBy (c_X8_turnBy_0 l T (by omega) (by omega) (kw_ui S12 18 z25.toNatClampNeg z34) I36 x11 z43 ) (by decide) (Nat.le_of_ble_eq_true rfl) rfl (fun v S46 p45 => ?_)
              obtain ⟨e48, z47, rfl⟩ := p45
              rw [e48]
              have r_z47 := kw_rng z47
              show kw_AW l 4 kw_E0 KM mX8_setHours (p_X8_setHours_0 T σ) 70 [(2, .int x11), (1, .int x1), (0, .ref 0)] [.int z47, .int z39, .ref 19] (kw_ui S12 18 z25.toNatClampNeg z34)
              refine kw_iast (pc := 70) (i := 46) (n := 192) rfl rfl (by omega) (by omega) ?_
              have I49 : kw_I (bM T) (kw_ui (kw_ui S12 18 z25.toNatClampNeg z34) 19 z39.toNatClampNeg z47) := kw_I_ui I36 (kw_rng z47).1 (Int.le_of_lt_add_one (kw_rng z47).2)
              have F50 : kw_F [18, 19] σ (kw_ui (kw_ui S12 18 z25.toNatClampNeg z34) 19 z39.toNatClampNeg z47) := kw_F_ui F37 (by decide)
              refine kw_iinc' (pc := 71) (i := 47) (k := 0) (fun z => [(2, .int z), (1, .int x1), (0, .ref 0)]) rfl rfl (by decide) rfl (fun _ => rfl) (fun z51 e_z51 t_z51 => ?_)
              first | (have u_z51 : z51.toInt = x11.toInt + 1 := (by omega); clear t_z51) | skip
              refine kw_goto (pc := 74) (i := 48) (tgt := 9) rfl rfl ?_
              refine kw_sub (lv' := [(2, .int z51), (1, .int x1), (0, .ref 0)]) [0, 1, 2] rfl ?_
              exact ih16 z51 (kw_ui (kw_ui S12 18 z25.toNatClampNeg z34) 19 z39.toNatClampNeg z47) I49 F50 (by omega) (by omega)
        exact L15 _ 0 S2 I3 F4 (by omega) (Nat.lt_succ_self _)
  exact L5 _ 0 σ hI hF0 (by omega) (Nat.lt_succ_self _)
abbrev p_X8_isTurn (T : Int) (σ : kw_S) (x : Int32) (t : Int32) : Option Value → kw_S → Prop := fun vv σ' => σ' = σ ∧ ∃ r : Int32, vv = some (.int r) ∧ (r.toInt = 0 ∨ r.toInt = 1)
set_option maxRecDepth 100000 in
set_option maxHeartbeats 4000000 in
theorem c_X8_isTurn (l : Launch) (T : Int) (hT0 : 0 ≤ T) (hT1 : T ≤ 3000) (σ : kw_S) (hI : kw_I (bM T) σ) (x : Int32) (t : Int32) : kw_Met l 1 KM mX8_isTurn [.int x, .int t] σ (p_X8_isTurn T σ x t) := by
  have r_x := kw_rng x
  have r_t := kw_rng t
  have q_0 : (0 : Int32).toInt = 0 := rfl
  have q_1 : (1 : Int32).toInt = 1 := rfl
  refine kw_Met.of (by decide) rfl tX8_isTurn (Nat.le_of_ble_eq_true rfl) ?_
  show kw_AW l 1 kw_E0 KM mX8_isTurn (p_X8_isTurn T σ x t) 0 [(0, .int x), (1, .int t)] [] σ
  refine kw_iload_n (pc := 0) (i := 0) (k := 0) (n := 0) rfl rfl rfl ?_
  refine kw_iload_n (pc := 1) (i := 1) (k := 1) (n := 1) rfl rfl rfl ?_
  refine kw_ineg (pc := 2) (i := 2) rfl (fun z1 e_z1 t_z1 => ?_)
  refine kw_icmp_lt (pc := 3) (i := 3) (tgt := 15) rfl rfl (fun c2 => ?_) (fun c2 => ?_)
  · refine kw_iconst (pc := 15) (i := 9) (v := 0) rfl rfl ?_
    exact kw_ireturn (pc := 16) (i := 10) (ty := .boolean) rfl rfl rfl ⟨rfl, _, rfl, by omega⟩
  · refine kw_iload_n (pc := 6) (i := 4) (k := 0) (n := 0) rfl rfl rfl ?_
    refine kw_iload_n (pc := 7) (i := 5) (k := 1) (n := 1) rfl rfl rfl ?_
    refine kw_icmp_gt (pc := 8) (i := 6) (tgt := 15) rfl rfl (fun c3 => ?_) (fun c3 => ?_)
    · refine kw_iconst (pc := 15) (i := 9) (v := 0) rfl rfl ?_
      exact kw_ireturn (pc := 16) (i := 10) (ty := .boolean) rfl rfl rfl ⟨rfl, _, rfl, by omega⟩
    · refine kw_iconst (pc := 11) (i := 7) (v := 1) rfl rfl ?_
      refine kw_goto (pc := 12) (i := 8) (tgt := 16) rfl rfl ?_
      exact kw_ireturn (pc := 16) (i := 10) (ty := .boolean) rfl rfl rfl ⟨rfl, _, rfl, by omega⟩
abbrev p_X8_mostOf_0 (T : Int) (σ : kw_S) (k : Int32) (o : Int32) : Option Value → kw_S → Prop := fun vv σ' => σ' = σ ∧ ∃ r : Int32, vv = some (.int r)
set_option maxRecDepth 100000 in
set_option maxHeartbeats 4000000 in
theorem c_X8_mostOf_0 (l : Launch) (T : Int) (hT0 : 0 ≤ T) (hT1 : T ≤ 3000) (σ : kw_S) (hI : kw_I (bM T) σ) (k : Int32) (o : Int32) (hp0 : 0 ≤ k.toInt) (hp1 : k.toInt ≤ 2) (hp2 : 0 ≤ o.toInt) (hp3 : o.toInt ≤ 63) : kw_Met l 2 KM mX8_mostOf [.ref 0, .int k, .int o] σ (p_X8_mostOf_0 T σ k o) := by
  have r_k := kw_rng k
  have r_o := kw_rng o
  have q_0 : (0 : Int32).toInt = 0 := rfl
  have q_1 : (1 : Int32).toInt = 1 := rfl
  have q_64 : (64 : Int32).toInt = 64 := rfl
  refine kw_Met.of (by decide) rfl tX8_mostOf (Nat.le_of_ble_eq_true rfl) ?_
  show kw_AW l 2 kw_E0 KM mX8_mostOf (p_X8_mostOf_0 T σ k o) 0 [(0, .ref 0), (1, .int k), (2, .int o)] [] σ
  refine kw_iconst (pc := 0) (i := 0) (v := 0) rfl rfl ?_
  refine kw_istore_n (pc := 1) (i := 1) (n := 3) (lv' := [(3, .int 0), (0, .ref 0), (1, .int k), (2, .int o)]) rfl rfl (by decide) rfl ?_
  refine kw_iload_n (pc := 2) (i := 2) (k := 3) (n := 2) rfl rfl rfl ?_
  refine kw_istore (pc := 3) (i := 3) (n := 4) (lv' := [(4, .int o), (3, .int 0), (0, .ref 0), (1, .int k), (2, .int o)]) rfl (by decide) rfl ?_
  have L3 : ∀ (n8 : Nat) (x1 : Int32) (x2 : Int32), 0 ≤ x1.toInt → x1.toInt ≤ o.toInt → (x1.toInt).toNat < n8 → kw_AW l 2 kw_E0 KM mX8_mostOf (p_X8_mostOf_0 T σ k o) 5 [(4, .int x1), (3, .int x2), (0, .ref 0), (1, .int k), (2, .int o)] [] σ := by
    intro n8
    induction n8 with
    | zero => intro x1 x2 v5 v6 m7; exact absurd m7 (Nat.not_lt_zero _)
    | succ n8 ih4 =>
      intro x1 x2 v5 v6 m7
      have r_x1 := kw_rng x1
      have r_x2 := kw_rng x2
      refine kw_iload (pc := 5) (i := 4) (k := 0) (n := 4) rfl rfl ?_
      refine kw_if_le (pc := 7) (i := 5) (tgt := 38) rfl rfl (fun c9 => ?_) (fun c9 => ?_)
      · refine kw_iload_n (pc := 38) (i := 24) (k := 1) (n := 3) rfl rfl rfl ?_
        exact kw_ireturn (pc := 39) (i := 25) (ty := .int) rfl rfl rfl ⟨rfl, _, rfl⟩
      · refine kw_iload_n (pc := 10) (i := 6) (k := 1) (n := 3) rfl rfl rfl ?_
        refine kw_aload_n (pc := 11) (i := 7) (k := 2) (n := 0) rfl rfl rfl ?_
        refine kw_get (pc := 12) (i := 8) (v := .ref 18) rfl rfl rfl lkX8_69 (fun _ => rfl) ?_
        refine kw_bipush (pc := 15) (i := 9) (v := 64) rfl rfl ?_
        refine kw_iload_n (pc := 17) (i := 10) (k := 3) (n := 1) rfl rfl rfl ?_
        refine kw_imul (pc := 18) (i := 11) rfl (fun z10 e_z10 t_z10 => ?_)
        rw [show (64 : Int32).toInt = 64 from rfl] at t_z10
        first | (have u_z10 : z10.toInt = 64 * k.toInt := (by omega); clear t_z10) | skip
        refine kw_iload (pc := 19) (i := 12) (k := 0) (n := 4) rfl rfl ?_
        refine kw_iadd (pc := 21) (i := 13) rfl (fun z11 e_z11 t_z11 => ?_)
        first | (have u_z11 : z11.toInt = z10.toInt + x1.toInt := (by omega); clear t_z11) | skip
        refine kw_iald (pc := 22) (i := 14) (n := 192) rfl rfl (by omega) (by omega) (fun z12 e_z12 => ?_)
        have t_z12 := congrArg Int32.toInt e_z12
        have r_z12 := kw_rng z12
        refine kw_callS (pc := 23) (i := 15) (Y := mX8_greater) (As := [.int x2, .int z12]) (st := []) kw_hE rfl lsX8_265 arX8_greater (c_X8_greater l T (by omega) (by omega) σ hI x2 z12 ) (by decide) (Nat.le_of_ble_eq_true rfl) rfl (fun v S14 p13 => ?_)
        obtain ⟨e16, z15, rfl⟩ := p13
        rw [e16]
        have r_z15 := kw_rng z15
        show kw_AW l 2 kw_E0 KM mX8_mostOf (p_X8_mostOf_0 T σ k o) 26 [(4, .int x1), (3, .int x2), (0, .ref 0), (1, .int k), (2, .int o)] [.int z15] σ
        refine kw_istore_n (pc := 26) (i := 16) (n := 3) (lv' := [(3, .int z15), (4, .int x1), (0, .ref 0), (1, .int k), (2, .int o)]) rfl rfl (by decide) rfl ?_
        refine kw_iload (pc := 27) (i := 17) (k := 1) (n := 4) rfl rfl ?_
        refine kw_iconst (pc := 29) (i := 18) (v := 1) rfl rfl ?_
        refine kw_isub (pc := 30) (i := 19) rfl (fun z17 e_z17 t_z17 => ?_)
        first | (have u_z17 : z17.toInt = x1.toInt - 1 := (by omega); clear t_z17) | skip
        refine kw_iload_n (pc := 31) (i := 20) (k := 4) (n := 2) rfl rfl rfl ?_
        refine kw_iand (pc := 32) (i := 21) rfl (fun z18 e_z18 => ?_)
        have r_z18 := kw_rng z18
        have t_z18 := kw_andI z17 o z18 e_z18
        refine kw_istore (pc := 33) (i := 22) (n := 4) (lv' := [(4, .int z18), (3, .int z15), (0, .ref 0), (1, .int k), (2, .int o)]) rfl (by decide) rfl ?_
        refine kw_goto (pc := 35) (i := 23) (tgt := 5) rfl rfl ?_
        refine kw_sub (lv' := [(4, .int z18), (3, .int z15), (0, .ref 0), (1, .int k), (2, .int o)]) [0, 1, 2, 3, 4] rfl ?_
        exact ih4 z18 z15 (by omega) (by omega) (by omega)
  exact L3 _ o 0 (by omega) (by omega) (Nat.lt_succ_self _)
abbrev p_X8_soon_0 (T : Int) (σ : kw_S) (m : Int32) : Option Value → kw_S → Prop := fun vv σ' => (kw_I (bM T) σ' ∧ kw_F [18, 19] σ σ') ∧ ∃ r : Int32, vv = some (.int r)
set_option maxRecDepth 100000 in
set_option maxHeartbeats 4000000 in
theorem c_X8_soon_0 (l : Launch) (T : Int) (hT0 : 0 ≤ T) (hT1 : T ≤ 3000) (σ : kw_S) (hI : kw_I (bM T) σ) (m : Int32) : kw_Met l 5 KM mX8_soon [.ref 0, .int m] σ (p_X8_soon_0 T σ m) := by
  have r_m := kw_rng m
  have hF0 : kw_F [18, 19] σ σ := kw_F.rf
  have q_m999 : (-999 : Int32).toInt = -999 := rfl
  have q_m9 : (-9 : Int32).toInt = -9 := rfl
  have q_m4 : (-4 : Int32).toInt = -4 := rfl
  have q_m1 : (-1 : Int32).toInt = -1 := rfl
  have q_0 : (0 : Int32).toInt = 0 := rfl
  have q_1 : (1 : Int32).toInt = 1 := rfl
  have q_3 : (3 : Int32).toInt = 3 := rfl
  have q_999 : (999 : Int32).toInt = 999 := rfl
  refine kw_Met.of (by decide) rfl tX8_soon (Nat.le_of_ble_eq_true rfl) ?_
  show kw_AW l 5 kw_E0 KM mX8_soon (p_X8_soon_0 T σ m) 0 [(0, .ref 0), (1, .int m)] [] σ
  refine kw_iload_n (pc := 0) (i := 0) (k := 1) (n := 1) rfl rfl rfl ?_
  refine kw_sipush (pc := 1) (i := 1) (v := (-999)) rfl rfl ?_
  refine kw_sipush (pc := 4) (i := 2) (v := 999) rfl rfl ?_
  refine kw_callS (pc := 7) (i := 3) (Y := mX8_in) (As := [.int m, .int (-999), .int 999]) (st := []) kw_hE rfl lsX8_93 arX8_in (c_X8_in l T (by omega) (by omega) σ hI m (-999) 999 ) (by decide) (Nat.le_of_ble_eq_true rfl) rfl (fun v S2 p1 => ?_)
  obtain ⟨e7, z6, rfl, f3, f4, f5⟩ := p1
  rw [e7]
  have r_z6 := kw_rng z6
  show kw_AW l 5 kw_E0 KM mX8_soon (p_X8_soon_0 T σ m) 10 [(0, .ref 0), (1, .int m)] [.int z6] σ
  refine kw_if_ne (pc := 10) (i := 4) (tgt := 15) rfl rfl (fun c8 => ?_) (fun c8 => ?_)
  · refine kw_aload_n (pc := 15) (i := 7) (k := 0) (n := 0) rfl rfl rfl ?_
    refine kw_get (pc := 16) (i := 8) (v := .int (σ.1 0 10)) rfl rfl rfl lkX8_163 (fun _ => rfl) ?_
    have b9 : 0 ≤ (σ.1 0 10).toInt ∧ (σ.1 0 10).toInt ≤ 6 := hI 0 10
    refine kw_if_ne (pc := 19) (i := 9) (tgt := 25) rfl rfl (fun c10 => ?_) (fun c10 => ?_)
    · refine kw_aload_n (pc := 25) (i := 12) (k := 0) (n := 0) rfl rfl rfl ?_
      refine kw_callV (pc := 26) (i := 13) (Y := mX8_setHours) (a := 0) (As := []) (st := []) kw_hE rfl rfl lvX8_259 arX8_setHours (c_X8_setHours_0 l T (by omega) (by omega) σ hI  ) (by decide) (Nat.le_of_ble_eq_true rfl) rfl (fun v S12 p11 => ?_)
      obtain ⟨⟨I13, F14⟩, rfl⟩ := p11
      have F15 : kw_F [18, 19] σ S12 := kw_F.tr hF0 F14 (by decide)
      have w_16 : (S12.1 0 27).toInt = (σ.1 0 27).toInt := congrArg Int32.toInt (kw_F.at (a := 0) (j := 27) F14 (by decide))
      show kw_AW l 5 kw_E0 KM mX8_soon (p_X8_soon_0 T σ m) 29 [(0, .ref 0), (1, .int m)] [] S12
      refine kw_aload_n (pc := 29) (i := 14) (k := 0) (n := 0) rfl rfl rfl ?_
      refine kw_get (pc := 30) (i := 15) (v := .int (S12.1 0 23)) rfl rfl rfl lkX8_169 (fun _ => rfl) ?_
      have b17 := kw_rng (S12.1 0 23)
      refine kw_istore_n (pc := 33) (i := 16) (n := 2) (lv' := [(2, .int (S12.1 0 23)), (0, .ref 0), (1, .int m)]) rfl rfl (by decide) rfl ?_
      refine kw_iconst (pc := 34) (i := 17) (v := 0) rfl rfl ?_
      refine kw_istore_n (pc := 35) (i := 18) (n := 3) (lv' := [(3, .int 0), (2, .int (S12.1 0 23)), (0, .ref 0), (1, .int m)]) rfl rfl (by decide) rfl ?_
      have L20 : ∀ (n24 : Nat) (x18 : Int32) (x19 : Int32), 0 ≤ x18.toInt → (4 - x18.toInt).toNat < n24 → kw_AW l 5 kw_E0 KM mX8_soon (p_X8_soon_0 T σ m) 36 [(3, .int x18), (2, .int x19), (0, .ref 0), (1, .int m)] [] S12 := by
        intro n24
        induction n24 with
        | zero => intro x18 x19 v22 m23; exact absurd m23 (Nat.not_lt_zero _)
        | succ n24 ih21 =>
          intro x18 x19 v22 m23
          have r_x18 := kw_rng x18
          have r_x19 := kw_rng x19
          refine kw_iload_n (pc := 36) (i := 19) (k := 0) (n := 3) rfl rfl rfl ?_
          refine kw_iconst (pc := 37) (i := 20) (v := 3) rfl rfl ?_
          refine kw_icmp_ge (pc := 38) (i := 21) (tgt := 68) rfl rfl (fun c25 => ?_) (fun c25 => ?_)
          · refine kw_iload_n (pc := 68) (i := 39) (k := 1) (n := 2) rfl rfl rfl ?_
            refine kw_iload_n (pc := 69) (i := 40) (k := 3) (n := 1) rfl rfl rfl ?_
            refine kw_icmp_ge (pc := 70) (i := 41) (tgt := 78) rfl rfl (fun c26 => ?_) (fun c26 => ?_)
            · refine kw_iload_n (pc := 78) (i := 44) (k := 0) (n := 3) rfl rfl rfl ?_
              exact kw_ireturn (pc := 79) (i := 45) (ty := .int) rfl rfl rfl ⟨⟨I13, F15⟩, _, rfl⟩
            · refine kw_bipush (pc := 73) (i := 42) (v := (-9)) rfl rfl ?_
              refine kw_goto (pc := 75) (i := 43) (tgt := 79) rfl rfl ?_
              exact kw_ireturn (pc := 79) (i := 45) (ty := .int) rfl rfl rfl ⟨⟨I13, F15⟩, _, rfl⟩
          · refine kw_iload_n (pc := 41) (i := 22) (k := 1) (n := 2) rfl rfl rfl ?_
            refine kw_iload_n (pc := 42) (i := 23) (k := 3) (n := 1) rfl rfl rfl ?_
            refine kw_icmp_ge (pc := 43) (i := 24) (tgt := 68) rfl rfl (fun c27 => ?_) (fun c27 => ?_)
            · refine kw_iload_n (pc := 68) (i := 39) (k := 1) (n := 2) rfl rfl rfl ?_
              refine kw_iload_n (pc := 69) (i := 40) (k := 3) (n := 1) rfl rfl rfl ?_
              refine kw_icmp_ge (pc := 70) (i := 41) (tgt := 78) rfl rfl (fun c28 => ?_) (fun c28 => ?_)
              · refine kw_iload_n (pc := 78) (i := 44) (k := 0) (n := 3) rfl rfl rfl ?_
                exact kw_ireturn (pc := 79) (i := 45) (ty := .int) rfl rfl rfl ⟨⟨I13, F15⟩, _, rfl⟩
              · refine kw_bipush (pc := 73) (i := 42) (v := (-9)) rfl rfl ?_
                refine kw_goto (pc := 75) (i := 43) (tgt := 79) rfl rfl ?_
                exact kw_ireturn (pc := 79) (i := 45) (ty := .int) rfl rfl rfl ⟨⟨I13, F15⟩, _, rfl⟩
            · refine kw_iload_n (pc := 46) (i := 25) (k := 1) (n := 2) rfl rfl rfl ?_
              refine kw_aload_n (pc := 47) (i := 26) (k := 2) (n := 0) rfl rfl rfl ?_
              refine kw_iload_n (pc := 48) (i := 27) (k := 0) (n := 3) rfl rfl rfl ?_
              refine kw_iconst (pc := 49) (i := 28) (v := 1) rfl rfl ?_
              refine kw_aload_n (pc := 50) (i := 29) (k := 2) (n := 0) rfl rfl rfl ?_
              refine kw_get (pc := 51) (i := 30) (v := .int (S12.1 0 10)) rfl rfl rfl lkX8_163 (fun _ => rfl) ?_
              have b29 : 0 ≤ (S12.1 0 10).toInt ∧ (S12.1 0 10).toInt ≤ 6 := I13 0 10
              refine kw_ishl (pc := 54) (i := 31) rfl (fun z30 e_z30 => ?_)
              have r_z30 := kw_rng z30
              have t_z30 := kw_shlm (S12.1 0 10) z30 e_z30
              have u_z30 := congrArg Int32.toInt e_z30
              refine kw_iconst (pc := 55) (i := 32) (v := 1) rfl rfl ?_
              refine kw_isub (pc := 56) (i := 33) rfl (fun z31 e_z31 t_z31 => ?_)
              first | (have u_z31 : z31.toInt = z30.toInt - 1 := (by omega); clear t_z31) | skip
              refine kw_callV (pc := 57) (i := 34) (Y := mX8_mostOf) (a := 0) (As := [.int x18, .int z31]) (st := [.int x19]) kw_hE rfl rfl lvX8_268 arX8_mostOf (c_X8_mostOf_0 l T (by omega) (by omega) S12 I13 x18 z31 (by first | omega | decide) (by first | omega | decide) (by first | omega | decide) (by first | omega | decide)) (by decide) (Nat.le_of_ble_eq_true rfl) rfl (fun v S33 p32 => ?_)
              obtain ⟨e35, z34, rfl⟩ := p32
              rw [e35]
              have r_z34 := kw_rng z34
              show kw_AW l 5 kw_E0 KM mX8_soon (p_X8_soon_0 T σ m) 60 [(3, .int x18), (2, .int x19), (0, .ref 0), (1, .int m)] [.int z34, .int x19] S12
              refine kw_iadd (pc := 60) (i := 35) rfl (fun z36 e_z36 t_z36 => ?_)
              first | (have u_z36 : z36.toInt = x19.toInt + z34.toInt := (by omega); clear t_z36) | skip
              refine kw_istore_n (pc := 61) (i := 36) (n := 2) (lv' := [(2, .int z36), (3, .int x18), (0, .ref 0), (1, .int m)]) rfl rfl (by decide) rfl ?_
              refine kw_iinc' (pc := 62) (i := 37) (k := 1) (fun z => [(3, .int z), (2, .int z36), (0, .ref 0), (1, .int m)]) rfl rfl (by decide) rfl (fun _ => rfl) (fun z37 e_z37 t_z37 => ?_)
              first | (have u_z37 : z37.toInt = x18.toInt + 1 := (by omega); clear t_z37) | skip
              refine kw_goto (pc := 65) (i := 38) (tgt := 36) rfl rfl ?_
              refine kw_sub (lv' := [(3, .int z37), (2, .int z36), (0, .ref 0), (1, .int m)]) [0, 1, 2, 3] rfl ?_
              exact ih21 z37 z36 (by omega) (by omega)
      exact L20 _ 0 (S12.1 0 23) (by omega) (Nat.lt_succ_self _)
    · refine kw_bipush (pc := 22) (i := 10) (v := (-4)) rfl rfl ?_
      exact kw_ireturn (pc := 24) (i := 11) (ty := .int) rfl rfl rfl ⟨⟨hI, hF0⟩, _, rfl⟩
  · refine kw_iconst (pc := 13) (i := 5) (v := (-1)) rfl rfl ?_
    exact kw_ireturn (pc := 14) (i := 6) (ty := .int) rfl rfl rfl ⟨⟨hI, hF0⟩, _, rfl⟩
abbrev p_X8_least_0 (T : Int) (σ : kw_S) (n : Int32) (m : Int32) : Option Value → kw_S → Prop := fun vv σ' => (kw_I (bM T) σ' ∧ kw_F [18, 19] σ σ') ∧ ∃ r : Int32, vv = some (.int r)
set_option maxRecDepth 100000 in
set_option maxHeartbeats 4000000 in
theorem c_X8_least_0 (l : Launch) (T : Int) (hT0 : 0 ≤ T) (hT1 : T ≤ 3000) (σ : kw_S) (hI : kw_I (bM T) σ) (n : Int32) (m : Int32) : kw_Met l 5 KM mX8_least [.ref 0, .int n, .int m] σ (p_X8_least_0 T σ n m) := by
  have r_n := kw_rng n
  have r_m := kw_rng m
  have hF0 : kw_F [18, 19] σ σ := kw_F.rf
  have q_m999 : (-999 : Int32).toInt = -999 := rfl
  have q_m9 : (-9 : Int32).toInt = -9 := rfl
  have q_m4 : (-4 : Int32).toInt = -4 := rfl
  have q_m1 : (-1 : Int32).toInt = -1 := rfl
  have q_0 : (0 : Int32).toInt = 0 := rfl
  have q_1 : (1 : Int32).toInt = 1 := rfl
  have q_3 : (3 : Int32).toInt = 3 := rfl
  have q_999 : (999 : Int32).toInt = 999 := rfl
  refine kw_Met.of (by decide) rfl tX8_least (Nat.le_of_ble_eq_true rfl) ?_
  show kw_AW l 5 kw_E0 KM mX8_least (p_X8_least_0 T σ n m) 0 [(0, .ref 0), (1, .int n), (2, .int m)] [] σ
  refine kw_iload_n (pc := 0) (i := 0) (k := 1) (n := 1) rfl rfl rfl ?_
  refine kw_iconst (pc := 1) (i := 1) (v := 0) rfl rfl ?_
  refine kw_iconst (pc := 2) (i := 2) (v := 3) rfl rfl ?_
  refine kw_callS (pc := 3) (i := 3) (Y := mX8_in) (As := [.int n, .int 0, .int 3]) (st := []) kw_hE rfl lsX8_93 arX8_in (c_X8_in l T (by omega) (by omega) σ hI n 0 3 ) (by decide) (Nat.le_of_ble_eq_true rfl) rfl (fun v S2 p1 => ?_)
  obtain ⟨e7, z6, rfl, f3, f4, f5⟩ := p1
  rw [e7]
  have r_z6 := kw_rng z6
  show kw_AW l 5 kw_E0 KM mX8_least (p_X8_least_0 T σ n m) 6 [(0, .ref 0), (1, .int n), (2, .int m)] [.int z6] σ
  refine kw_if_eq (pc := 6) (i := 4) (tgt := 22) rfl rfl (fun c8 => ?_) (fun c8 => ?_)
  · refine kw_iconst (pc := 22) (i := 10) (v := (-1)) rfl rfl ?_
    exact kw_ireturn (pc := 23) (i := 11) (ty := .int) rfl rfl rfl ⟨⟨hI, hF0⟩, _, rfl⟩
  · refine kw_iload_n (pc := 9) (i := 5) (k := 2) (n := 2) rfl rfl rfl ?_
    refine kw_sipush (pc := 10) (i := 6) (v := (-999)) rfl rfl ?_
    refine kw_sipush (pc := 13) (i := 7) (v := 999) rfl rfl ?_
    refine kw_callS (pc := 16) (i := 8) (Y := mX8_in) (As := [.int m, .int (-999), .int 999]) (st := []) kw_hE rfl lsX8_93 arX8_in (c_X8_in l T (by omega) (by omega) σ hI m (-999) 999 ) (by decide) (Nat.le_of_ble_eq_true rfl) rfl (fun v S10 p9 => ?_)
    obtain ⟨e15, z14, rfl, f11, f12, f13⟩ := p9
    rw [e15]
    have r_z14 := kw_rng z14
    show kw_AW l 5 kw_E0 KM mX8_least (p_X8_least_0 T σ n m) 19 [(0, .ref 0), (1, .int n), (2, .int m)] [.int z14] σ
    refine kw_if_ne (pc := 19) (i := 9) (tgt := 24) rfl rfl (fun c16 => ?_) (fun c16 => ?_)
    · refine kw_aload_n (pc := 24) (i := 12) (k := 0) (n := 0) rfl rfl rfl ?_
      refine kw_get (pc := 25) (i := 13) (v := .int (σ.1 0 10)) rfl rfl rfl lkX8_163 (fun _ => rfl) ?_
      have b17 : 0 ≤ (σ.1 0 10).toInt ∧ (σ.1 0 10).toInt ≤ 6 := hI 0 10
      refine kw_if_ne (pc := 28) (i := 14) (tgt := 34) rfl rfl (fun c18 => ?_) (fun c18 => ?_)
      · refine kw_aload_n (pc := 34) (i := 17) (k := 0) (n := 0) rfl rfl rfl ?_
        refine kw_callV (pc := 35) (i := 18) (Y := mX8_setHours) (a := 0) (As := []) (st := []) kw_hE rfl rfl lvX8_259 arX8_setHours (c_X8_setHours_0 l T (by omega) (by omega) σ hI  ) (by decide) (Nat.le_of_ble_eq_true rfl) rfl (fun v S20 p19 => ?_)
        obtain ⟨⟨I21, F22⟩, rfl⟩ := p19
        have F23 : kw_F [18, 19] σ S20 := kw_F.tr hF0 F22 (by decide)
        have w_24 : (S20.1 0 27).toInt = (σ.1 0 27).toInt := congrArg Int32.toInt (kw_F.at (a := 0) (j := 27) F22 (by decide))
        show kw_AW l 5 kw_E0 KM mX8_least (p_X8_least_0 T σ n m) 38 [(0, .ref 0), (1, .int n), (2, .int m)] [] S20
        refine kw_bipush (pc := 38) (i := 19) (v := (-9)) rfl rfl ?_
        refine kw_istore_n (pc := 40) (i := 20) (n := 3) (lv' := [(3, .int (-9)), (0, .ref 0), (1, .int n), (2, .int m)]) rfl rfl (by decide) rfl ?_
        refine kw_iconst (pc := 41) (i := 21) (v := 0) rfl rfl ?_
        refine kw_istore (pc := 42) (i := 22) (n := 4) (lv' := [(4, .int 0), (3, .int (-9)), (0, .ref 0), (1, .int n), (2, .int m)]) rfl (by decide) rfl ?_
        have L27 : ∀ (n31 : Nat) (x25 : Int32) (x26 : Int32), 0 ≤ x25.toInt → (65 - x25.toInt).toNat < n31 → kw_AW l 5 kw_E0 KM mX8_least (p_X8_least_0 T σ n m) 44 [(4, .int x25), (3, .int x26), (0, .ref 0), (1, .int n), (2, .int m)] [] S20 := by
          intro n31
          induction n31 with
          | zero => intro x25 x26 v29 m30; exact absurd m30 (Nat.not_lt_zero _)
          | succ n31 ih28 =>
            intro x25 x26 v29 m30
            have r_x25 := kw_rng x25
            have r_x26 := kw_rng x26
            refine kw_iload (pc := 44) (i := 23) (k := 0) (n := 4) rfl rfl ?_
            refine kw_iconst (pc := 46) (i := 24) (v := 1) rfl rfl ?_
            refine kw_aload_n (pc := 47) (i := 25) (k := 2) (n := 0) rfl rfl rfl ?_
            refine kw_get (pc := 48) (i := 26) (v := .int (S20.1 0 10)) rfl rfl rfl lkX8_163 (fun _ => rfl) ?_
            have b32 : 0 ≤ (S20.1 0 10).toInt ∧ (S20.1 0 10).toInt ≤ 6 := I21 0 10
            refine kw_ishl (pc := 51) (i := 27) rfl (fun z33 e_z33 => ?_)
            have r_z33 := kw_rng z33
            have t_z33 := kw_shlm (S20.1 0 10) z33 e_z33
            have u_z33 := congrArg Int32.toInt e_z33
            refine kw_icmp_ge (pc := 52) (i := 28) (tgt := 140) rfl rfl (fun c34 => ?_) (fun c34 => ?_)
            · refine kw_iload_n (pc := 140) (i := 71) (k := 1) (n := 3) rfl rfl rfl ?_
              exact kw_ireturn (pc := 141) (i := 72) (ty := .int) rfl rfl rfl ⟨⟨I21, F23⟩, _, rfl⟩
            · refine kw_aload_n (pc := 55) (i := 29) (k := 2) (n := 0) rfl rfl rfl ?_
              refine kw_get (pc := 56) (i := 30) (v := .int (S20.1 0 23)) rfl rfl rfl lkX8_169 (fun _ => rfl) ?_
              have b35 := kw_rng (S20.1 0 23)
              refine kw_istore (pc := 59) (i := 31) (n := 5) (lv' := [(5, .int (S20.1 0 23)), (4, .int x25), (3, .int x26), (0, .ref 0), (1, .int n), (2, .int m)]) rfl (by decide) rfl ?_
              refine kw_iconst (pc := 61) (i := 32) (v := 0) rfl rfl ?_
              refine kw_istore (pc := 62) (i := 33) (n := 6) (lv' := [(6, .int 0), (5, .int (S20.1 0 23)), (4, .int x25), (3, .int x26), (0, .ref 0), (1, .int n), (2, .int m)]) rfl (by decide) rfl ?_
              have L38 : ∀ (n42 : Nat) (x36 : Int32) (x37 : Int32), 0 ≤ x36.toInt → (4 - x36.toInt).toNat < n42 → kw_AW l 5 kw_E0 KM mX8_least (p_X8_least_0 T σ n m) 64 [(6, .int x36), (5, .int x37), (4, .int x25), (3, .int x26), (0, .ref 0), (1, .int n), (2, .int m)] [] S20 := by
                intro n42
                induction n42 with
                | zero => intro x36 x37 v40 m41; exact absurd m41 (Nat.not_lt_zero _)
                | succ n42 ih39 =>
                  intro x36 x37 v40 m41
                  have r_x36 := kw_rng x36
                  have r_x37 := kw_rng x37
                  refine kw_iload (pc := 64) (i := 34) (k := 0) (n := 6) rfl rfl ?_
                  refine kw_iload_n (pc := 66) (i := 35) (k := 5) (n := 1) rfl rfl rfl ?_
                  refine kw_icmp_ge (pc := 67) (i := 36) (tgt := 89) rfl rfl (fun c43 => ?_) (fun c43 => ?_)
                  · refine kw_iload_n (pc := 89) (i := 46) (k := 3) (n := 3) rfl rfl rfl ?_
                    refine kw_bipush (pc := 90) (i := 47) (v := (-9)) rfl rfl ?_
                    refine kw_icmp_eq (pc := 92) (i := 48) (tgt := 105) rfl rfl (fun c44 => ?_) (fun c44 => ?_)
                    · refine kw_iconst (pc := 105) (i := 54) (v := 1) rfl rfl ?_
                      refine kw_goto (pc := 106) (i := 55) (tgt := 110) rfl rfl ?_
                      refine kw_istore (pc := 110) (i := 57) (n := 6) (lv' := [(6, .int 1), (5, .int x37), (4, .int x25), (3, .int x26), (0, .ref 0), (1, .int n), (2, .int m)]) rfl (by decide) rfl ?_
                      refine kw_iload (pc := 112) (i := 58) (k := 1) (n := 5) rfl rfl ?_
                      refine kw_iload_n (pc := 114) (i := 59) (k := 6) (n := 2) rfl rfl rfl ?_
                      refine kw_icmp_lt (pc := 115) (i := 60) (tgt := 132) rfl rfl (fun c45 => ?_) (fun c45 => ?_)
                      · refine kw_iload_n (pc := 132) (i := 67) (k := 3) (n := 3) rfl rfl rfl ?_
                        refine kw_istore_n (pc := 133) (i := 68) (n := 3) (lv' := [(3, .int x26), (6, .int 1), (5, .int x37), (4, .int x25), (0, .ref 0), (1, .int n), (2, .int m)]) rfl rfl (by decide) rfl ?_
                        refine kw_iinc' (pc := 134) (i := 69) (k := 3) (fun z => [(4, .int z), (3, .int x26), (6, .int 1), (5, .int x37), (0, .ref 0), (1, .int n), (2, .int m)]) rfl rfl (by decide) rfl (fun _ => rfl) (fun z46 e_z46 t_z46 => ?_)
                        first | (have u_z46 : z46.toInt = x25.toInt + 1 := (by omega); clear t_z46) | skip
                        refine kw_goto (pc := 137) (i := 70) (tgt := 44) rfl rfl ?_
                        refine kw_sub (lv' := [(4, .int z46), (3, .int x26), (0, .ref 0), (1, .int n), (2, .int m)]) [0, 1, 4, 5, 6] rfl ?_
                        exact ih28 z46 x26 (by omega) (by omega)
                      · refine kw_iload (pc := 118) (i := 61) (k := 0) (n := 6) rfl rfl ?_
                        refine kw_if_eq (pc := 120) (i := 62) (tgt := 132) rfl rfl (fun c47 => ?_) (fun c47 => ?_)
                        · exfalso; omega
                        · refine kw_aload_n (pc := 123) (i := 63) (k := 4) (n := 0) rfl rfl rfl ?_
                          refine kw_iload (pc := 124) (i := 64) (k := 2) (n := 4) rfl rfl ?_
                          refine kw_callV (pc := 126) (i := 65) (Y := mX8_linenOf) (a := 0) (As := [.int x25]) (st := []) kw_hE rfl rfl lvX8_246 arX8_linenOf (c_X8_linenOf_0 l T (by omega) (by omega) S20 I21 x25 ) (by decide) (Nat.le_of_ble_eq_true rfl) rfl (fun v S49 p48 => ?_)
                          obtain ⟨e51, z50, rfl⟩ := p48
                          rw [e51]
                          have r_z50 := kw_rng z50
                          show kw_AW l 5 kw_E0 KM mX8_least (p_X8_least_0 T σ n m) 129 [(6, .int 1), (5, .int x37), (4, .int x25), (3, .int x26), (0, .ref 0), (1, .int n), (2, .int m)] [.int z50] S20
                          refine kw_goto (pc := 129) (i := 66) (tgt := 133) rfl rfl ?_
                          refine kw_istore_n (pc := 133) (i := 68) (n := 3) (lv' := [(3, .int z50), (6, .int 1), (5, .int x37), (4, .int x25), (0, .ref 0), (1, .int n), (2, .int m)]) rfl rfl (by decide) rfl ?_
                          refine kw_iinc' (pc := 134) (i := 69) (k := 3) (fun z => [(4, .int z), (3, .int z50), (6, .int 1), (5, .int x37), (0, .ref 0), (1, .int n), (2, .int m)]) rfl rfl (by decide) rfl (fun _ => rfl) (fun z52 e_z52 t_z52 => ?_)
                          first | (have u_z52 : z52.toInt = x25.toInt + 1 := (by omega); clear t_z52) | skip
                          refine kw_goto (pc := 137) (i := 70) (tgt := 44) rfl rfl ?_
                          refine kw_sub (lv' := [(4, .int z52), (3, .int z50), (0, .ref 0), (1, .int n), (2, .int m)]) [0, 1, 4, 5, 6] rfl ?_
                          exact ih28 z52 z50 (by omega) (by omega)
                    · refine kw_aload_n (pc := 95) (i := 49) (k := 4) (n := 0) rfl rfl rfl ?_
                      refine kw_iload (pc := 96) (i := 50) (k := 2) (n := 4) rfl rfl ?_
                      refine kw_callV (pc := 98) (i := 51) (Y := mX8_linenOf) (a := 0) (As := [.int x25]) (st := []) kw_hE rfl rfl lvX8_246 arX8_linenOf (c_X8_linenOf_0 l T (by omega) (by omega) S20 I21 x25 ) (by decide) (Nat.le_of_ble_eq_true rfl) rfl (fun v S54 p53 => ?_)
                      obtain ⟨e56, z55, rfl⟩ := p53
                      rw [e56]
                      have r_z55 := kw_rng z55
                      show kw_AW l 5 kw_E0 KM mX8_least (p_X8_least_0 T σ n m) 101 [(6, .int x36), (5, .int x37), (4, .int x25), (3, .int x26), (0, .ref 0), (1, .int n), (2, .int m)] [.int z55] S20
                      refine kw_iload_n (pc := 101) (i := 52) (k := 3) (n := 3) rfl rfl rfl ?_
                      refine kw_icmp_ge (pc := 102) (i := 53) (tgt := 109) rfl rfl (fun c57 => ?_) (fun c57 => ?_)
                      · refine kw_iconst (pc := 109) (i := 56) (v := 0) rfl rfl ?_
                        refine kw_istore (pc := 110) (i := 57) (n := 6) (lv' := [(6, .int 0), (5, .int x37), (4, .int x25), (3, .int x26), (0, .ref 0), (1, .int n), (2, .int m)]) rfl (by decide) rfl ?_
                        refine kw_iload (pc := 112) (i := 58) (k := 1) (n := 5) rfl rfl ?_
                        refine kw_iload_n (pc := 114) (i := 59) (k := 6) (n := 2) rfl rfl rfl ?_
                        refine kw_icmp_lt (pc := 115) (i := 60) (tgt := 132) rfl rfl (fun c58 => ?_) (fun c58 => ?_)
                        · refine kw_iload_n (pc := 132) (i := 67) (k := 3) (n := 3) rfl rfl rfl ?_
                          refine kw_istore_n (pc := 133) (i := 68) (n := 3) (lv' := [(3, .int x26), (6, .int 0), (5, .int x37), (4, .int x25), (0, .ref 0), (1, .int n), (2, .int m)]) rfl rfl (by decide) rfl ?_
                          refine kw_iinc' (pc := 134) (i := 69) (k := 3) (fun z => [(4, .int z), (3, .int x26), (6, .int 0), (5, .int x37), (0, .ref 0), (1, .int n), (2, .int m)]) rfl rfl (by decide) rfl (fun _ => rfl) (fun z59 e_z59 t_z59 => ?_)
                          first | (have u_z59 : z59.toInt = x25.toInt + 1 := (by omega); clear t_z59) | skip
                          refine kw_goto (pc := 137) (i := 70) (tgt := 44) rfl rfl ?_
                          refine kw_sub (lv' := [(4, .int z59), (3, .int x26), (0, .ref 0), (1, .int n), (2, .int m)]) [0, 1, 4, 5, 6] rfl ?_
                          exact ih28 z59 x26 (by omega) (by omega)
                        · refine kw_iload (pc := 118) (i := 61) (k := 0) (n := 6) rfl rfl ?_
                          refine kw_if_eq (pc := 120) (i := 62) (tgt := 132) rfl rfl (fun c60 => ?_) (fun c60 => ?_)
                          · refine kw_iload_n (pc := 132) (i := 67) (k := 3) (n := 3) rfl rfl rfl ?_
                            refine kw_istore_n (pc := 133) (i := 68) (n := 3) (lv' := [(3, .int x26), (6, .int 0), (5, .int x37), (4, .int x25), (0, .ref 0), (1, .int n), (2, .int m)]) rfl rfl (by decide) rfl ?_
                            refine kw_iinc' (pc := 134) (i := 69) (k := 3) (fun z => [(4, .int z), (3, .int x26), (6, .int 0), (5, .int x37), (0, .ref 0), (1, .int n), (2, .int m)]) rfl rfl (by decide) rfl (fun _ => rfl) (fun z61 e_z61 t_z61 => ?_)
                            first | (have u_z61 : z61.toInt = x25.toInt + 1 := (by omega); clear t_z61) | skip
                            refine kw_goto (pc := 137) (i := 70) (tgt := 44) rfl rfl ?_
                            refine kw_sub (lv' := [(4, .int z61), (3, .int x26), (0, .ref 0), (1, .int n), (2, .int m)]) [0, 1, 4, 5, 6] rfl ?_
                            exact ih28 z61 x26 (by omega) (by omega)
                          · exfalso; omega
                      · refine kw_iconst (pc := 105) (i := 54) (v := 1) rfl rfl ?_
                        refine kw_goto (pc := 106) (i := 55) (tgt := 110) rfl rfl ?_
                        refine kw_istore (pc := 110) (i := 57) (n := 6) (lv' := [(6, .int 1), (5, .int x37), (4, .int x25), (3, .int x26), (0, .ref 0), (1, .int n), (2, .int m)]) rfl (by decide) rfl ?_
                        refine kw_iload (pc := 112) (i := 58) (k := 1) (n := 5) rfl rfl ?_
                        refine kw_iload_n (pc := 114) (i := 59) (k := 6) (n := 2) rfl rfl rfl ?_
                        refine kw_icmp_lt (pc := 115) (i := 60) (tgt := 132) rfl rfl (fun c62 => ?_) (fun c62 => ?_)
                        · refine kw_iload_n (pc := 132) (i := 67) (k := 3) (n := 3) rfl rfl rfl ?_
                          refine kw_istore_n (pc := 133) (i := 68) (n := 3) (lv' := [(3, .int x26), (6, .int 1), (5, .int x37), (4, .int x25), (0, .ref 0), (1, .int n), (2, .int m)]) rfl rfl (by decide) rfl ?_
                          refine kw_iinc' (pc := 134) (i := 69) (k := 3) (fun z => [(4, .int z), (3, .int x26), (6, .int 1), (5, .int x37), (0, .ref 0), (1, .int n), (2, .int m)]) rfl rfl (by decide) rfl (fun _ => rfl) (fun z63 e_z63 t_z63 => ?_)
                          first | (have u_z63 : z63.toInt = x25.toInt + 1 := (by omega); clear t_z63) | skip
                          refine kw_goto (pc := 137) (i := 70) (tgt := 44) rfl rfl ?_
                          refine kw_sub (lv' := [(4, .int z63), (3, .int x26), (0, .ref 0), (1, .int n), (2, .int m)]) [0, 1, 4, 5, 6] rfl ?_
                          exact ih28 z63 x26 (by omega) (by omega)
                        · refine kw_iload (pc := 118) (i := 61) (k := 0) (n := 6) rfl rfl ?_
                          refine kw_if_eq (pc := 120) (i := 62) (tgt := 132) rfl rfl (fun c64 => ?_) (fun c64 => ?_)
                          · exfalso; omega
                          · refine kw_aload_n (pc := 123) (i := 63) (k := 4) (n := 0) rfl rfl rfl ?_
                            refine kw_iload (pc := 124) (i := 64) (k := 2) (n := 4) rfl rfl ?_
                            refine kw_callV (pc := 126) (i := 65) (Y := mX8_linenOf) (a := 0) (As := [.int x25]) (st := []) kw_hE rfl rfl lvX8_246 arX8_linenOf (c_X8_linenOf_0 l T (by omega) (by omega) S20 I21 x25 ) (by decide) (Nat.le_of_ble_eq_true rfl) rfl (fun v S66 p65 => ?_)
                            obtain ⟨e68, z67, rfl⟩ := p65
                            rw [e68]
                            have r_z67 := kw_rng z67
                            show kw_AW l 5 kw_E0 KM mX8_least (p_X8_least_0 T σ n m) 129 [(6, .int 1), (5, .int x37), (4, .int x25), (3, .int x26), (0, .ref 0), (1, .int n), (2, .int m)] [.int z67] S20
                            refine kw_goto (pc := 129) (i := 66) (tgt := 133) rfl rfl ?_
                            refine kw_istore_n (pc := 133) (i := 68) (n := 3) (lv' := [(3, .int z67), (6, .int 1), (5, .int x37), (4, .int x25), (0, .ref 0), (1, .int n), (2, .int m)]) rfl rfl (by decide) rfl ?_
                            refine kw_iinc' (pc := 134) (i := 69) (k := 3) (fun z => [(4, .int z), (3, .int z67), (6, .int 1), (5, .int x37), (0, .ref 0), (1, .int n), (2, .int m)]) rfl rfl (by decide) rfl (fun _ => rfl) (fun z69 e_z69 t_z69 => ?_)
                            first | (have u_z69 : z69.toInt = x25.toInt + 1 := (by omega); clear t_z69) | skip
                            refine kw_goto (pc := 137) (i := 70) (tgt := 44) rfl rfl ?_
                            refine kw_sub (lv' := [(4, .int z69), (3, .int z67), (0, .ref 0), (1, .int n), (2, .int m)]) [0, 1, 4, 5, 6] rfl ?_
                            exact ih28 z69 z67 (by omega) (by omega)
                  · refine kw_iload (pc := 70) (i := 37) (k := 1) (n := 5) rfl rfl ?_
                    refine kw_aload_n (pc := 72) (i := 38) (k := 4) (n := 0) rfl rfl rfl ?_
                    refine kw_iload (pc := 73) (i := 39) (k := 0) (n := 6) rfl rfl ?_
                    refine kw_iload (pc := 75) (i := 40) (k := 2) (n := 4) rfl rfl ?_
                    refine kw_callV (pc := 77) (i := 41) (Y := mX8_mostOf) (a := 0) (As := [.int x36, .int x25]) (st := [.int x37]) kw_hE rfl rfl lvX8_268 arX8_mostOf (c_X8_mostOf_0 l T (by omega) (by omega) S20 I21 x36 x25 (by first | omega | decide) (by first | omega | decide) (by first | omega | decide) (by first | omega | decide)) (by decide) (Nat.le_of_ble_eq_true rfl) rfl (fun v S71 p70 => ?_)
                    obtain ⟨e73, z72, rfl⟩ := p70
                    rw [e73]
                    have r_z72 := kw_rng z72
                    show kw_AW l 5 kw_E0 KM mX8_least (p_X8_least_0 T σ n m) 80 [(6, .int x36), (5, .int x37), (4, .int x25), (3, .int x26), (0, .ref 0), (1, .int n), (2, .int m)] [.int z72, .int x37] S20
                    refine kw_iadd (pc := 80) (i := 42) rfl (fun z74 e_z74 t_z74 => ?_)
                    first | (have u_z74 : z74.toInt = x37.toInt + z72.toInt := (by omega); clear t_z74) | skip
                    refine kw_istore (pc := 81) (i := 43) (n := 5) (lv' := [(5, .int z74), (6, .int x36), (4, .int x25), (3, .int x26), (0, .ref 0), (1, .int n), (2, .int m)]) rfl (by decide) rfl ?_
                    refine kw_iinc' (pc := 83) (i := 44) (k := 1) (fun z => [(6, .int z), (5, .int z74), (4, .int x25), (3, .int x26), (0, .ref 0), (1, .int n), (2, .int m)]) rfl rfl (by decide) rfl (fun _ => rfl) (fun z75 e_z75 t_z75 => ?_)
                    first | (have u_z75 : z75.toInt = x36.toInt + 1 := (by omega); clear t_z75) | skip
                    refine kw_goto (pc := 86) (i := 45) (tgt := 64) rfl rfl ?_
                    refine kw_sub (lv' := [(6, .int z75), (5, .int z74), (4, .int x25), (3, .int x26), (0, .ref 0), (1, .int n), (2, .int m)]) [0, 1, 2, 3, 4, 5, 6] rfl ?_
                    exact ih39 z75 z74 (by omega) (by omega)
              exact L38 _ 0 (S20.1 0 23) (by omega) (Nat.lt_succ_self _)
        exact L27 _ 0 (-9) (by omega) (Nat.lt_succ_self _)
      · refine kw_bipush (pc := 31) (i := 15) (v := (-4)) rfl rfl ?_
        exact kw_ireturn (pc := 33) (i := 16) (ty := .int) rfl rfl rfl ⟨⟨hI, hF0⟩, _, rfl⟩
    · refine kw_iconst (pc := 22) (i := 10) (v := (-1)) rfl rfl ?_
      exact kw_ireturn (pc := 23) (i := 11) (ty := .int) rfl rfl rfl ⟨⟨hI, hF0⟩, _, rfl⟩
abbrev p_X8_ways_0 (T : Int) (σ : kw_S) (m : Int32) (t : Int32) : Option Value → kw_S → Prop := fun vv σ' => (kw_I (bM T) σ' ∧ kw_F [0] σ σ') ∧ ∃ r : Int32, vv = some (.int r)
set_option maxRecDepth 100000 in
set_option maxHeartbeats 4000000 in
theorem c_X8_ways_0 (l : Launch) (T : Int) (hT0 : 0 ≤ T) (hT1 : T ≤ 3000) (σ : kw_S) (hI : kw_I (bM T) σ) (m : Int32) (t : Int32) : kw_Met l 4 KM mX8_ways [.ref 0, .int m, .int t] σ (p_X8_ways_0 T σ m t) := by
  have r_m := kw_rng m
  have r_t := kw_rng t
  have hF0 : kw_F [0] σ σ := kw_F.rf
  have q_m999 : (-999 : Int32).toInt = -999 := rfl
  have q_m99 : (-99 : Int32).toInt = -99 := rfl
  have q_m4 : (-4 : Int32).toInt = -4 := rfl
  have q_m1 : (-1 : Int32).toInt = -1 := rfl
  have q_0 : (0 : Int32).toInt = 0 := rfl
  have q_1 : (1 : Int32).toInt = 1 := rfl
  have q_99 : (99 : Int32).toInt = 99 := rfl
  have q_999 : (999 : Int32).toInt = 999 := rfl
  refine kw_Met.of (by decide) rfl tX8_ways (Nat.le_of_ble_eq_true rfl) ?_
  show kw_AW l 4 kw_E0 KM mX8_ways (p_X8_ways_0 T σ m t) 0 [(0, .ref 0), (1, .int m), (2, .int t)] [] σ
  refine kw_iload_n (pc := 0) (i := 0) (k := 1) (n := 1) rfl rfl rfl ?_
  refine kw_bipush (pc := 1) (i := 1) (v := (-99)) rfl rfl ?_
  refine kw_bipush (pc := 3) (i := 2) (v := 99) rfl rfl ?_
  refine kw_callS (pc := 5) (i := 3) (Y := mX8_in) (As := [.int m, .int (-99), .int 99]) (st := []) kw_hE rfl lsX8_93 arX8_in (c_X8_in l T (by omega) (by omega) σ hI m (-99) 99 ) (by decide) (Nat.le_of_ble_eq_true rfl) rfl (fun v S2 p1 => ?_)
  obtain ⟨e7, z6, rfl, f3, f4, f5⟩ := p1
  rw [e7]
  have r_z6 := kw_rng z6
  show kw_AW l 4 kw_E0 KM mX8_ways (p_X8_ways_0 T σ m t) 8 [(0, .ref 0), (1, .int m), (2, .int t)] [.int z6] σ
  refine kw_if_eq (pc := 8) (i := 4) (tgt := 24) rfl rfl (fun c8 => ?_) (fun c8 => ?_)
  · refine kw_iconst (pc := 24) (i := 10) (v := (-1)) rfl rfl ?_
    exact kw_ireturn (pc := 25) (i := 11) (ty := .int) rfl rfl rfl ⟨⟨hI, hF0⟩, _, rfl⟩
  · refine kw_iload_n (pc := 11) (i := 5) (k := 2) (n := 2) rfl rfl rfl ?_
    refine kw_sipush (pc := 12) (i := 6) (v := (-999)) rfl rfl ?_
    refine kw_sipush (pc := 15) (i := 7) (v := 999) rfl rfl ?_
    refine kw_callS (pc := 18) (i := 8) (Y := mX8_in) (As := [.int t, .int (-999), .int 999]) (st := []) kw_hE rfl lsX8_93 arX8_in (c_X8_in l T (by omega) (by omega) σ hI t (-999) 999 ) (by decide) (Nat.le_of_ble_eq_true rfl) rfl (fun v S10 p9 => ?_)
    obtain ⟨e15, z14, rfl, f11, f12, f13⟩ := p9
    rw [e15]
    have r_z14 := kw_rng z14
    show kw_AW l 4 kw_E0 KM mX8_ways (p_X8_ways_0 T σ m t) 21 [(0, .ref 0), (1, .int m), (2, .int t)] [.int z14] σ
    refine kw_if_ne (pc := 21) (i := 9) (tgt := 26) rfl rfl (fun c16 => ?_) (fun c16 => ?_)
    · refine kw_aload_n (pc := 26) (i := 12) (k := 0) (n := 0) rfl rfl rfl ?_
      refine kw_get (pc := 27) (i := 13) (v := .int (σ.1 0 10)) rfl rfl rfl lkX8_163 (fun _ => rfl) ?_
      have b17 : 0 ≤ (σ.1 0 10).toInt ∧ (σ.1 0 10).toInt ≤ 6 := hI 0 10
      refine kw_if_ne (pc := 30) (i := 14) (tgt := 36) rfl rfl (fun c18 => ?_) (fun c18 => ?_)
      · refine kw_aload_n (pc := 36) (i := 17) (k := 0) (n := 0) rfl rfl rfl ?_
        refine kw_aload_n (pc := 37) (i := 18) (k := 0) (n := 0) rfl rfl rfl ?_
        refine kw_get (pc := 38) (i := 19) (v := .int (σ.1 0 22)) rfl rfl rfl lkX8_166 (fun _ => rfl) ?_
        have b19 : 0 ≤ (σ.1 0 22).toInt ∧ (σ.1 0 22).toInt ≤ T := hI 0 22
        refine kw_callV (pc := 41) (i := 20) (Y := mX8_windAt) (a := 0) (As := [.int (σ.1 0 22)]) (st := []) kw_hE rfl rfl lvX8_196 arX8_windAt (c_X8_windAt_0 l T (by omega) (by omega) σ hI (σ.1 0 22) (by first | omega | decide)) (by decide) (Nat.le_of_ble_eq_true rfl) rfl (fun v S21 p20 => ?_)
        obtain ⟨e23, z22, rfl⟩ := p20
        rw [e23]
        have r_z22 := kw_rng z22
        show kw_AW l 4 kw_E0 KM mX8_ways (p_X8_ways_0 T σ m t) 44 [(0, .ref 0), (1, .int m), (2, .int t)] [.int z22] σ
        refine kw_istore_n (pc := 44) (i := 21) (n := 3) (lv' := [(3, .int z22), (0, .ref 0), (1, .int m), (2, .int t)]) rfl rfl (by decide) rfl ?_
        refine kw_iconst (pc := 45) (i := 22) (v := 0) rfl rfl ?_
        refine kw_istore (pc := 46) (i := 23) (n := 4) (lv' := [(4, .int 0), (3, .int z22), (0, .ref 0), (1, .int m), (2, .int t)]) rfl (by decide) rfl ?_
        refine kw_iconst (pc := 48) (i := 24) (v := 1) rfl rfl ?_
        refine kw_aload_n (pc := 49) (i := 25) (k := 2) (n := 0) rfl rfl rfl ?_
        refine kw_get (pc := 50) (i := 26) (v := .int (σ.1 0 10)) rfl rfl rfl lkX8_163 (fun _ => rfl) ?_
        refine kw_ishl (pc := 53) (i := 27) rfl (fun z24 e_z24 => ?_)
        have r_z24 := kw_rng z24
        have t_z24 := kw_shlm (σ.1 0 10) z24 e_z24
        have u_z24 := congrArg Int32.toInt e_z24
        refine kw_iconst (pc := 54) (i := 28) (v := 1) rfl rfl ?_
        refine kw_isub (pc := 55) (i := 29) rfl (fun z25 e_z25 t_z25 => ?_)
        first | (have u_z25 : z25.toInt = z24.toInt - 1 := (by omega); clear t_z25) | skip
        refine kw_istore (pc := 56) (i := 30) (n := 5) (lv' := [(5, .int z25), (4, .int 0), (3, .int z22), (0, .ref 0), (1, .int m), (2, .int t)]) rfl (by decide) rfl ?_
        refine kw_iconst (pc := 58) (i := 31) (v := 0) rfl rfl ?_
        refine kw_istore (pc := 59) (i := 32) (n := 6) (lv' := [(6, .int 0), (5, .int z25), (4, .int 0), (3, .int z22), (0, .ref 0), (1, .int m), (2, .int t)]) rfl (by decide) rfl ?_
        have L29 : ∀ (n33 : Nat) (x26 : Int32) (x27 : Int32) (x28 : Int32), 0 ≤ x26.toInt → (65 - x26.toInt).toNat < n33 → kw_AW l 4 kw_E0 KM mX8_ways (p_X8_ways_0 T σ m t) 61 [(6, .int x26), (5, .int x27), (4, .int x28), (3, .int z22), (0, .ref 0), (1, .int m), (2, .int t)] [] σ := by
          intro n33
          induction n33 with
          | zero => intro x26 x27 x28 v31 m32; exact absurd m32 (Nat.not_lt_zero _)
          | succ n33 ih30 =>
            intro x26 x27 x28 v31 m32
            have r_x26 := kw_rng x26
            have r_x27 := kw_rng x27
            have r_x28 := kw_rng x28
            refine kw_iload (pc := 61) (i := 33) (k := 0) (n := 6) rfl rfl ?_
            refine kw_iconst (pc := 63) (i := 34) (v := 1) rfl rfl ?_
            refine kw_aload_n (pc := 64) (i := 35) (k := 4) (n := 0) rfl rfl rfl ?_
            refine kw_get (pc := 65) (i := 36) (v := .int (σ.1 0 10)) rfl rfl rfl lkX8_163 (fun _ => rfl) ?_
            refine kw_ishl (pc := 68) (i := 37) rfl (fun z34 e_z34 => ?_)
            have r_z34 := kw_rng z34
            have t_z34 := kw_shlm (σ.1 0 10) z34 e_z34
            have u_z34 := congrArg Int32.toInt e_z34
            refine kw_icmp_ge (pc := 69) (i := 38) (tgt := 110) rfl rfl (fun c35 => ?_) (fun c35 => ?_)
            · refine kw_aload_n (pc := 110) (i := 58) (k := 4) (n := 0) rfl rfl rfl ?_
              refine kw_iload (pc := 111) (i := 59) (k := 2) (n := 4) rfl rfl ?_
              refine kw_i2l (pc := 113) (i := 60) rfl (fun z36 e_z36 t_z36 => ?_)
              refine kw_lconst (pc := 114) (i := 61) (v := 1) rfl rfl ?_
              refine kw_callV (pc := 115) (i := 62) (Y := mX8_part) (a := 0) (As := [.long z36, .long 1]) (st := []) kw_hE rfl rfl lvX8_223 arX8_part (c_X8_part_0 l T (by omega) (by omega) σ hI z36 1 (by first | omega | decide)) (by decide) (Nat.le_of_ble_eq_true rfl) rfl (fun v S38 p37 => ?_)
              obtain ⟨⟨I41, F42⟩, z40, rfl, f39⟩ := p37
              have F43 : kw_F [0] σ S38 := kw_F.tr hF0 F42 (by decide)
              have r_z40 := kw_rng z40
              show kw_AW l 4 kw_E0 KM mX8_ways (p_X8_ways_0 T σ m t) 118 [(6, .int x26), (5, .int x27), (4, .int x28), (3, .int z22), (0, .ref 0), (1, .int m), (2, .int t)] [.int z40] S38
              refine kw_pop (pc := 118) (i := 63) rfl rfl ?_
              refine kw_aload_n (pc := 119) (i := 64) (k := 4) (n := 0) rfl rfl rfl ?_
              refine kw_iload (pc := 120) (i := 65) (k := 2) (n := 4) rfl rfl ?_
              refine kw_if_ne (pc := 122) (i := 66) (tgt := 129) rfl rfl (fun c44 => ?_) (fun c44 => ?_)
              · refine kw_iload (pc := 129) (i := 69) (k := 1) (n := 5) rfl rfl ?_
                refine kw_iconst (pc := 131) (i := 70) (v := 1) rfl rfl ?_
                refine kw_callV (pc := 132) (i := 71) (Y := mX8_ask) (a := 0) (As := [.int x27, .int 1]) (st := []) kw_hE rfl rfl lvX8_119 arX8_ask (c_X8_ask_0 l T (by omega) (by omega) S38 I41 x27 1 ) (by decide) (Nat.le_of_ble_eq_true rfl) rfl (fun v S46 p45 => ?_)
                obtain ⟨⟨I49, F50⟩, z48, rfl, f47⟩ := p45
                have F51 : kw_F [0] σ S46 := kw_F.tr F43 F50 (by decide)
                have r_z48 := kw_rng z48
                show kw_AW l 4 kw_E0 KM mX8_ways (p_X8_ways_0 T σ m t) 135 [(6, .int x26), (5, .int x27), (4, .int x28), (3, .int z22), (0, .ref 0), (1, .int m), (2, .int t)] [.int z48] S46
                exact kw_ireturn (pc := 135) (i := 72) (ty := .int) rfl rfl rfl ⟨⟨I49, F51⟩, _, rfl⟩
              · refine kw_iconst (pc := 125) (i := 67) (v := 0) rfl rfl ?_
                refine kw_goto (pc := 126) (i := 68) (tgt := 131) rfl rfl ?_
                refine kw_iconst (pc := 131) (i := 70) (v := 1) rfl rfl ?_
                refine kw_callV (pc := 132) (i := 71) (Y := mX8_ask) (a := 0) (As := [.int 0, .int 1]) (st := []) kw_hE rfl rfl lvX8_119 arX8_ask (c_X8_ask_0 l T (by omega) (by omega) S38 I41 0 1 ) (by decide) (Nat.le_of_ble_eq_true rfl) rfl (fun v S53 p52 => ?_)
                obtain ⟨⟨I56, F57⟩, z55, rfl, f54⟩ := p52
                have F58 : kw_F [0] σ S53 := kw_F.tr F43 F57 (by decide)
                have r_z55 := kw_rng z55
                show kw_AW l 4 kw_E0 KM mX8_ways (p_X8_ways_0 T σ m t) 135 [(6, .int x26), (5, .int x27), (4, .int x28), (3, .int z22), (0, .ref 0), (1, .int m), (2, .int t)] [.int z55] S53
                exact kw_ireturn (pc := 135) (i := 72) (ty := .int) rfl rfl rfl ⟨⟨I56, F58⟩, _, rfl⟩
            · refine kw_aload_n (pc := 72) (i := 39) (k := 4) (n := 0) rfl rfl rfl ?_
              refine kw_iload (pc := 73) (i := 40) (k := 0) (n := 6) rfl rfl ?_
              refine kw_iload_n (pc := 75) (i := 41) (k := 3) (n := 3) rfl rfl rfl ?_
              refine kw_callV (pc := 76) (i := 42) (Y := mX8_milesBy) (a := 0) (As := [.int x26, .int z22]) (st := []) kw_hE rfl rfl lvX8_199 arX8_milesBy (c_X8_milesBy_0 l T (by omega) (by omega) σ hI x26 z22 ) (by decide) (Nat.le_of_ble_eq_true rfl) rfl (fun v S60 p59 => ?_)
              obtain ⟨e62, z61, rfl⟩ := p59
              rw [e62]
              have r_z61 := kw_rng z61
              show kw_AW l 4 kw_E0 KM mX8_ways (p_X8_ways_0 T σ m t) 79 [(6, .int x26), (5, .int x27), (4, .int x28), (3, .int z22), (0, .ref 0), (1, .int m), (2, .int t)] [.int z61] σ
              refine kw_iload_n (pc := 79) (i := 43) (k := 5) (n := 1) rfl rfl rfl ?_
              refine kw_icmp_ne (pc := 80) (i := 44) (tgt := 104) rfl rfl (fun c63 => ?_) (fun c63 => ?_)
              · refine kw_iinc' (pc := 104) (i := 56) (k := 0) (fun z => [(6, .int z), (5, .int x27), (4, .int x28), (3, .int z22), (0, .ref 0), (1, .int m), (2, .int t)]) rfl rfl (by decide) rfl (fun _ => rfl) (fun z64 e_z64 t_z64 => ?_)
                first | (have u_z64 : z64.toInt = x26.toInt + 1 := (by omega); clear t_z64) | skip
                refine kw_goto (pc := 107) (i := 57) (tgt := 61) rfl rfl ?_
                refine kw_sub (lv' := [(6, .int z64), (5, .int x27), (4, .int x28), (3, .int z22), (0, .ref 0), (1, .int m), (2, .int t)]) [0, 1, 2, 3, 4, 5, 6] rfl ?_
                exact ih30 z64 x27 x28 (by omega) (by omega)
              · refine kw_aload_n (pc := 83) (i := 45) (k := 4) (n := 0) rfl rfl rfl ?_
                refine kw_iload (pc := 84) (i := 46) (k := 0) (n := 6) rfl rfl ?_
                refine kw_iload_n (pc := 86) (i := 47) (k := 3) (n := 3) rfl rfl rfl ?_
                refine kw_callV (pc := 87) (i := 48) (Y := mX8_turnBy) (a := 0) (As := [.int x26, .int z22]) (st := []) kw_hE rfl rfl lvX8_202 arX8_turnBy (c_X8_turnBy_0 l T (by omega) (by omega) σ hI x26 z22 ) (by decide) (Nat.le_of_ble_eq_true rfl) rfl (fun v S66 p65 => ?_)
                obtain ⟨e68, z67, rfl⟩ := p65
                rw [e68]
                have r_z67 := kw_rng z67
                show kw_AW l 4 kw_E0 KM mX8_ways (p_X8_ways_0 T σ m t) 90 [(6, .int x26), (5, .int x27), (4, .int x28), (3, .int z22), (0, .ref 0), (1, .int m), (2, .int t)] [.int z67] σ
                refine kw_iload_n (pc := 90) (i := 49) (k := 6) (n := 2) rfl rfl rfl ?_
                refine kw_icmp_ne (pc := 91) (i := 50) (tgt := 104) rfl rfl (fun c69 => ?_) (fun c69 => ?_)
                · refine kw_iinc' (pc := 104) (i := 56) (k := 0) (fun z => [(6, .int z), (5, .int x27), (4, .int x28), (3, .int z22), (0, .ref 0), (1, .int m), (2, .int t)]) rfl rfl (by decide) rfl (fun _ => rfl) (fun z70 e_z70 t_z70 => ?_)
                  first | (have u_z70 : z70.toInt = x26.toInt + 1 := (by omega); clear t_z70) | skip
                  refine kw_goto (pc := 107) (i := 57) (tgt := 61) rfl rfl ?_
                  refine kw_sub (lv' := [(6, .int z70), (5, .int x27), (4, .int x28), (3, .int z22), (0, .ref 0), (1, .int m), (2, .int t)]) [0, 1, 2, 3, 4, 5, 6] rfl ?_
                  exact ih30 z70 x27 x28 (by omega) (by omega)
                · refine kw_iinc' (pc := 94) (i := 51) (k := 2) (fun z => [(4, .int z), (6, .int x26), (5, .int x27), (3, .int z22), (0, .ref 0), (1, .int m), (2, .int t)]) rfl rfl (by decide) rfl (fun _ => rfl) (fun z71 e_z71 t_z71 => ?_)
                  first | (have u_z71 : z71.toInt = x28.toInt + 1 := (by omega); clear t_z71) | skip
                  refine kw_iload (pc := 97) (i := 52) (k := 2) (n := 5) rfl rfl ?_
                  refine kw_iload (pc := 99) (i := 53) (k := 1) (n := 6) rfl rfl ?_
                  refine kw_iand (pc := 101) (i := 54) rfl (fun z72 e_z72 => ?_)
                  have r_z72 := kw_rng z72
                  have t_z72 := kw_andI x27 x26 z72 e_z72
                  refine kw_istore (pc := 102) (i := 55) (n := 5) (lv' := [(5, .int z72), (4, .int z71), (6, .int x26), (3, .int z22), (0, .ref 0), (1, .int m), (2, .int t)]) rfl (by decide) rfl ?_
                  refine kw_iinc' (pc := 104) (i := 56) (k := 2) (fun z => [(6, .int z), (5, .int z72), (4, .int z71), (3, .int z22), (0, .ref 0), (1, .int m), (2, .int t)]) rfl rfl (by decide) rfl (fun _ => rfl) (fun z73 e_z73 t_z73 => ?_)
                  first | (have u_z73 : z73.toInt = x26.toInt + 1 := (by omega); clear t_z73) | skip
                  refine kw_goto (pc := 107) (i := 57) (tgt := 61) rfl rfl ?_
                  refine kw_sub (lv' := [(6, .int z73), (5, .int z72), (4, .int z71), (3, .int z22), (0, .ref 0), (1, .int m), (2, .int t)]) [0, 1, 2, 3, 4, 5, 6] rfl ?_
                  exact ih30 z73 z72 z71 (by omega) (by omega)
        exact L29 _ 0 z25 0 (by omega) (Nat.lt_succ_self _)
      · refine kw_bipush (pc := 33) (i := 15) (v := (-4)) rfl rfl ?_
        exact kw_ireturn (pc := 35) (i := 16) (ty := .int) rfl rfl rfl ⟨⟨hI, hF0⟩, _, rfl⟩
    · refine kw_iconst (pc := 24) (i := 10) (v := (-1)) rfl rfl ?_
      exact kw_ireturn (pc := 25) (i := 11) (ty := .int) rfl rfl rfl ⟨⟨hI, hF0⟩, _, rfl⟩
