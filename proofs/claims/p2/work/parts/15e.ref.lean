abbrev p_X8_askedPulls_0 (T : Int) (σ : kw_S) (i : Int32) (a : Int32) : Option Value → kw_S → Prop := fun vv σ' => (kw_I (bM T) σ' ∧ kw_F [0, 1] σ σ') ∧ ∃ r : Int32, vv = some (.int r) ∧ (r.toInt < 0 ∨ 0 ≤ i.toInt ∧ i.toInt ≤ 5 ∧ 0 ≤ a.toInt ∧ a.toInt ≤ 5 ∧ (σ'.1 2 a.toNatClampNeg).toInt ≤ 20)
set_option maxRecDepth 100000 in
set_option maxHeartbeats 4000000 in
theorem c_X8_askedPulls_0 (l : Launch) (T : Int) (hT0 : 0 ≤ T) (hT1 : T ≤ 3000) (σ : kw_S) (hI : kw_I (bM T) σ) (i : Int32) (a : Int32) : kw_Met l 4 KM mX8_askedPulls [.ref 0, .int i, .int a] σ (p_X8_askedPulls_0 T σ i a) := by
  have r_i := kw_rng i
  have r_a := kw_rng a
  have hF0 : kw_F [0, 1] σ σ := kw_F.rf
  have q_m1 : (-1 : Int32).toInt = -1 := rfl
  have q_0 : (0 : Int32).toInt = 0 := rfl
  have q_2 : (2 : Int32).toInt = 2 := rfl
  have q_3 : (3 : Int32).toInt = 3 := rfl
  have q_5 : (5 : Int32).toInt = 5 := rfl
  have q_6 : (6 : Int32).toInt = 6 := rfl
  have q_20 : (20 : Int32).toInt = 20 := rfl
  refine kw_Met.of (by decide) rfl tX8_askedPulls (Nat.le_of_ble_eq_true rfl) ?_
  show kw_AW l 4 kw_E0 KM mX8_askedPulls (p_X8_askedPulls_0 T σ i a) 0 [(0, .ref 0), (1, .int i), (2, .int a)] [] σ
  refine kw_aload_n (pc := 0) (i := 0) (k := 0) (n := 0) rfl rfl rfl ?_
  refine kw_iload_n (pc := 1) (i := 1) (k := 1) (n := 1) rfl rfl rfl ?_
  refine kw_callV (pc := 2) (i := 2) (Y := mX8_isLine) (a := 0) (As := [.int i]) (st := []) kw_hE rfl rfl lvX8_211 arX8_isLine (c_X8_isLine_0 l T (by omega) (by omega) σ hI i ) (by decide) (Nat.le_of_ble_eq_true rfl) rfl (fun v S2 p1 => ?_)
  obtain ⟨e6, z5, rfl, f3, f4⟩ := p1
  rw [e6]
  have f4 : (z5.toInt = 0 ∨ 0 ≤ i.toInt ∧ i.toInt < (σ.1 0 10).toInt ∧ i.toInt ≤ 5) := f4
  have r_z5 := kw_rng z5
  show kw_AW l 4 kw_E0 KM mX8_askedPulls (p_X8_askedPulls_0 T σ i a) 5 [(0, .ref 0), (1, .int i), (2, .int a)] [.int z5] σ
  refine kw_if_ne (pc := 5) (i := 3) (tgt := 12) rfl rfl (fun c7 => ?_) (fun c7 => ?_)
  · refine kw_aload_n (pc := 12) (i := 6) (k := 0) (n := 0) rfl rfl rfl ?_
    refine kw_iload_n (pc := 13) (i := 7) (k := 2) (n := 2) rfl rfl rfl ?_
    refine kw_callV (pc := 14) (i := 8) (Y := mX8_askedRow) (a := 0) (As := [.int a]) (st := []) kw_hE rfl rfl lvX8_112 arX8_askedRow (c_X8_askedRow_0 l T (by omega) (by omega) σ hI a ) (by decide) (Nat.le_of_ble_eq_true rfl) rfl (fun v S9 p8 => ?_)
    obtain ⟨⟨I12, F13⟩, z11, rfl, f10⟩ := p8
    have F14 : kw_F [0, 1] σ S9 := kw_F.tr hF0 F13 (by decide)
    have r_z11 := kw_rng z11
    show kw_AW l 4 kw_E0 KM mX8_askedPulls (p_X8_askedPulls_0 T σ i a) 17 [(0, .ref 0), (1, .int i), (2, .int a)] [.int z11] S9
    refine kw_istore_n (pc := 17) (i := 9) (n := 3) (lv' := [(3, .int z11), (0, .ref 0), (1, .int i), (2, .int a)]) rfl rfl (by decide) rfl ?_
    refine kw_iload_n (pc := 18) (i := 10) (k := 0) (n := 3) rfl rfl rfl ?_
    refine kw_if_ge (pc := 19) (i := 11) (tgt := 24) rfl rfl (fun c15 => ?_) (fun c15 => ?_)
    · refine kw_aload_n (pc := 24) (i := 14) (k := 1) (n := 0) rfl rfl rfl ?_
      refine kw_get (pc := 25) (i := 15) (v := .ref 2) rfl rfl rfl lkX8_17 (fun _ => rfl) ?_
      refine kw_iload_n (pc := 28) (i := 16) (k := 3) (n := 2) rfl rfl rfl ?_
      refine kw_iald (pc := 29) (i := 17) (n := 6) rfl rfl (by omega) (by omega) (fun z16 e_z16 => ?_)
      have t_z16 := congrArg Int32.toInt e_z16
      have b_z16 : -9 ≤ z16.toInt ∧ z16.toInt ≤ 40 := by rw [e_z16]; exact I12 2 _
      refine kw_iconst (pc := 30) (i := 18) (v := 2) rfl rfl ?_
      refine kw_irem (pc := 31) (i := 19) rfl (by omega) (fun z17 e_z17 => ?_)
      have r_z17 := kw_rng z17
      have t_z17 := kw_remI z16 2 z17 e_z17
      refine kw_if_ne (pc := 32) (i := 20) (tgt := 46) rfl rfl (fun c18 => ?_) (fun c18 => ?_)
      · refine kw_aload_n (pc := 46) (i := 27) (k := 1) (n := 0) rfl rfl rfl ?_
        refine kw_iconst (pc := 47) (i := 28) (v := 5) rfl rfl ?_
        refine kw_callV (pc := 48) (i := 29) (Y := mX8_meet) (a := 0) (As := [.int 5]) (st := []) kw_hE rfl rfl lvX8_101 arX8_meet (c_X8_meet_0 l T (by omega) (by omega) S9 I12 5 (by first | omega | decide) (by first | omega | decide)) (by decide) (Nat.le_of_ble_eq_true rfl) rfl (fun v S20 p19 => ?_)
        obtain ⟨⟨I23, F24⟩, z22, rfl, f21⟩ := p19
        have F25 : kw_F [0, 1] σ S20 := kw_F.tr F14 F24 (by decide)
        have r_z22 := kw_rng z22
        show kw_AW l 4 kw_E0 KM mX8_askedPulls (p_X8_askedPulls_0 T σ i a) 51 [(3, .int z11), (0, .ref 0), (1, .int i), (2, .int a)] [.int z22] S20
        exact kw_ireturn (pc := 51) (i := 30) (ty := .int) rfl rfl rfl ⟨⟨I23, F25⟩, _, rfl, by omega⟩
      · refine kw_aload_n (pc := 35) (i := 21) (k := 1) (n := 0) rfl rfl rfl ?_
        refine kw_get (pc := 36) (i := 22) (v := .ref 2) rfl rfl rfl lkX8_17 (fun _ => rfl) ?_
        refine kw_iload_n (pc := 39) (i := 23) (k := 3) (n := 2) rfl rfl rfl ?_
        refine kw_iald (pc := 40) (i := 24) (n := 6) rfl rfl (by omega) (by omega) (fun z26 e_z26 => ?_)
        have t_z26 := congrArg Int32.toInt e_z26
        have b_z26 : -9 ≤ z26.toInt ∧ z26.toInt ≤ 40 := by rw [e_z26]; exact I12 2 _
        refine kw_bipush (pc := 41) (i := 25) (v := 20) rfl rfl ?_
        refine kw_icmp_le (pc := 43) (i := 26) (tgt := 52) rfl rfl (fun c27 => ?_) (fun c27 => ?_)
        · refine kw_iconst (pc := 52) (i := 31) (v := 0) rfl rfl ?_
          refine kw_istore (pc := 53) (i := 32) (n := 4) (lv' := [(4, .int 0), (3, .int z11), (0, .ref 0), (1, .int i), (2, .int a)]) rfl (by decide) rfl ?_
          have L29 : ∀ (n33 : Nat) (x28 : Int32), 0 ≤ x28.toInt → (41 - x28.toInt).toNat < n33 → kw_AW l 4 kw_E0 KM mX8_askedPulls (p_X8_askedPulls_0 T σ i a) 55 [(4, .int x28), (3, .int z11), (0, .ref 0), (1, .int i), (2, .int a)] [] S9 := by
            intro n33
            induction n33 with
            | zero => intro x28 v31 m32; exact absurd m32 (Nat.not_lt_zero _)
            | succ n33 ih30 =>
              intro x28 v31 m32
              have r_x28 := kw_rng x28
              refine kw_iload (pc := 55) (i := 33) (k := 0) (n := 4) rfl rfl ?_
              refine kw_aload_n (pc := 57) (i := 34) (k := 2) (n := 0) rfl rfl rfl ?_
              refine kw_get (pc := 58) (i := 35) (v := .ref 2) rfl rfl rfl lkX8_17 (fun _ => rfl) ?_
              refine kw_iload_n (pc := 61) (i := 36) (k := 4) (n := 2) rfl rfl rfl ?_
              refine kw_iald (pc := 62) (i := 37) (n := 6) rfl rfl (by omega) (by omega) (fun z34 e_z34 => ?_)
              have t_z34 := congrArg Int32.toInt e_z34
              have b_z34 : -9 ≤ z34.toInt ∧ z34.toInt ≤ 40 := by rw [e_z34]; exact I12 2 _
              refine kw_icmp_ge (pc := 63) (i := 38) (tgt := 94) rfl rfl (fun c35 => ?_) (fun c35 => ?_)
              · refine kw_iconst (pc := 94) (i := 53) (v := 0) rfl rfl ?_
                exact kw_ireturn (pc := 95) (i := 54) (ty := .int) rfl rfl rfl ⟨⟨I12, F14⟩, _, rfl, by omega⟩
              · refine kw_aload_n (pc := 66) (i := 39) (k := 2) (n := 0) rfl rfl rfl ?_
                refine kw_iload_n (pc := 67) (i := 40) (k := 4) (n := 2) rfl rfl rfl ?_
                refine kw_iload (pc := 68) (i := 41) (k := 0) (n := 4) rfl rfl ?_
                refine kw_callV (pc := 70) (i := 42) (Y := mX8_rowAt) (a := 0) (As := [.int a, .int x28]) (st := []) kw_hE rfl rfl lvX8_115 arX8_rowAt (c_X8_rowAt_0 l T (by omega) (by omega) S9 I12 a x28 (by first | omega | decide) (by first | omega | decide) (by first | omega | decide) (by first | omega | decide)) (by decide) (Nat.le_of_ble_eq_true rfl) rfl (fun v S37 p36 => ?_)
                obtain ⟨e39, z38, rfl⟩ := p36
                rw [e39]
                have r_z38 := kw_rng z38
                show kw_AW l 4 kw_E0 KM mX8_askedPulls (p_X8_askedPulls_0 T σ i a) 73 [(4, .int x28), (3, .int z11), (0, .ref 0), (1, .int i), (2, .int a)] [.int z38] S9
                refine kw_iconst (pc := 73) (i := 43) (v := 0) rfl rfl ?_
                refine kw_bipush (pc := 74) (i := 44) (v := 6) rfl rfl ?_
                refine kw_callS (pc := 76) (i := 45) (Y := mX8_in) (As := [.int z38, .int 0, .int 6]) (st := []) kw_hE rfl lsX8_93 arX8_in (c_X8_in l T (by omega) (by omega) S9 I12 z38 0 6 ) (by decide) (Nat.le_of_ble_eq_true rfl) rfl (fun v S41 p40 => ?_)
                obtain ⟨e46, z45, rfl, f42, f43, f44⟩ := p40
                rw [e46]
                have r_z45 := kw_rng z45
                show kw_AW l 4 kw_E0 KM mX8_askedPulls (p_X8_askedPulls_0 T σ i a) 79 [(4, .int x28), (3, .int z11), (0, .ref 0), (1, .int i), (2, .int a)] [.int z45] S9
                refine kw_if_ne (pc := 79) (i := 46) (tgt := 88) rfl rfl (fun c47 => ?_) (fun c47 => ?_)
                · refine kw_iinc' (pc := 88) (i := 51) (k := 0) (fun z => [(4, .int z), (3, .int z11), (0, .ref 0), (1, .int i), (2, .int a)]) rfl rfl (by decide) rfl (fun _ => rfl) (fun z48 e_z48 t_z48 => ?_)
                  first | (have u_z48 : z48.toInt = x28.toInt + 2 := (by omega); clear t_z48) | skip
                  refine kw_goto (pc := 91) (i := 52) (tgt := 55) rfl rfl ?_
                  refine kw_sub (lv' := [(4, .int z48), (3, .int z11), (0, .ref 0), (1, .int i), (2, .int a)]) [0, 1, 2, 3, 4] rfl ?_
                  exact ih30 z48 (by omega) (by omega)
                · refine kw_aload_n (pc := 82) (i := 47) (k := 2) (n := 0) rfl rfl rfl ?_
                  refine kw_iconst (pc := 83) (i := 48) (v := 3) rfl rfl ?_
                  refine kw_callV (pc := 84) (i := 49) (Y := mX8_meet) (a := 0) (As := [.int 3]) (st := []) kw_hE rfl rfl lvX8_101 arX8_meet (c_X8_meet_0 l T (by omega) (by omega) S9 I12 3 (by first | omega | decide) (by first | omega | decide)) (by decide) (Nat.le_of_ble_eq_true rfl) rfl (fun v S50 p49 => ?_)
                  obtain ⟨⟨I53, F54⟩, z52, rfl, f51⟩ := p49
                  have F55 : kw_F [0, 1] σ S50 := kw_F.tr F14 F54 (by decide)
                  have r_z52 := kw_rng z52
                  show kw_AW l 4 kw_E0 KM mX8_askedPulls (p_X8_askedPulls_0 T σ i a) 87 [(4, .int x28), (3, .int z11), (0, .ref 0), (1, .int i), (2, .int a)] [.int z52] S50
                  exact kw_ireturn (pc := 87) (i := 50) (ty := .int) rfl rfl rfl ⟨⟨I53, F55⟩, _, rfl, by omega⟩
          exact L29 _ 0 (by omega) (Nat.lt_succ_self _)
        · refine kw_aload_n (pc := 46) (i := 27) (k := 1) (n := 0) rfl rfl rfl ?_
          refine kw_iconst (pc := 47) (i := 28) (v := 5) rfl rfl ?_
          refine kw_callV (pc := 48) (i := 29) (Y := mX8_meet) (a := 0) (As := [.int 5]) (st := []) kw_hE rfl rfl lvX8_101 arX8_meet (c_X8_meet_0 l T (by omega) (by omega) S9 I12 5 (by first | omega | decide) (by first | omega | decide)) (by decide) (Nat.le_of_ble_eq_true rfl) rfl (fun v S57 p56 => ?_)
          obtain ⟨⟨I60, F61⟩, z59, rfl, f58⟩ := p56
          have F62 : kw_F [0, 1] σ S57 := kw_F.tr F14 F61 (by decide)
          have r_z59 := kw_rng z59
          show kw_AW l 4 kw_E0 KM mX8_askedPulls (p_X8_askedPulls_0 T σ i a) 51 [(3, .int z11), (0, .ref 0), (1, .int i), (2, .int a)] [.int z59] S57
          exact kw_ireturn (pc := 51) (i := 30) (ty := .int) rfl rfl rfl ⟨⟨I60, F62⟩, _, rfl, by omega⟩
    · refine kw_iload_n (pc := 22) (i := 12) (k := 0) (n := 3) rfl rfl rfl ?_
      exact kw_ireturn (pc := 23) (i := 13) (ty := .int) rfl rfl rfl ⟨⟨I12, F14⟩, _, rfl, by omega⟩
  · refine kw_iconst (pc := 8) (i := 4) (v := (-1)) rfl rfl ?_
    refine kw_goto (pc := 9) (i := 5) (tgt := 17) rfl rfl ?_
    refine kw_istore_n (pc := 17) (i := 9) (n := 3) (lv' := [(3, .int (-1)), (0, .ref 0), (1, .int i), (2, .int a)]) rfl rfl (by decide) rfl ?_
    refine kw_iload_n (pc := 18) (i := 10) (k := 0) (n := 3) rfl rfl rfl ?_
    refine kw_if_ge (pc := 19) (i := 11) (tgt := 24) rfl rfl (fun c63 => ?_) (fun c63 => ?_)
    · exfalso; omega
    · refine kw_iload_n (pc := 22) (i := 12) (k := 0) (n := 3) rfl rfl rfl ?_
      exact kw_ireturn (pc := 23) (i := 13) (ty := .int) rfl rfl rfl ⟨⟨hI, hF0⟩, _, rfl, by omega⟩
abbrev p_X8_pullsSo_0 (T : Int) (σ : kw_S) (kind : Int32) (area : Int32) (a : Int32) : Option Value → kw_S → Prop := fun vv σ' => σ' = σ ∧ ∃ r : Int32, vv = some (.int r) ∧ (r.toInt = 0 ∨ r.toInt = 1)
set_option maxRecDepth 100000 in
set_option maxHeartbeats 4000000 in
theorem c_X8_pullsSo_0 (l : Launch) (T : Int) (hT0 : 0 ≤ T) (hT1 : T ≤ 3000) (σ : kw_S) (hI : kw_I (bM T) σ) (kind : Int32) (area : Int32) (a : Int32) (hp0 : 0 ≤ a.toInt) (hp1 : a.toInt ≤ 5) (hp2 : (σ.1 2 a.toNatClampNeg).toInt ≤ 20) : kw_Met l 2 KM mX8_pullsSo [.ref 0, .int kind, .int area, .int a] σ (p_X8_pullsSo_0 T σ kind area a) := by
  have r_kind := kw_rng kind
  have r_area := kw_rng area
  have r_a := kw_rng a
  have q_0 : (0 : Int32).toInt = 0 := rfl
  have q_1 : (1 : Int32).toInt = 1 := rfl
  refine kw_Met.of (by decide) rfl tX8_pullsSo (Nat.le_of_ble_eq_true rfl) ?_
  show kw_AW l 2 kw_E0 KM mX8_pullsSo (p_X8_pullsSo_0 T σ kind area a) 0 [(0, .ref 0), (1, .int kind), (2, .int area), (3, .int a)] [] σ
  refine kw_iconst (pc := 0) (i := 0) (v := 1) rfl rfl ?_
  refine kw_istore (pc := 1) (i := 1) (n := 4) (lv' := [(4, .int 1), (0, .ref 0), (1, .int kind), (2, .int area), (3, .int a)]) rfl (by decide) rfl ?_
  refine kw_iconst (pc := 3) (i := 2) (v := 0) rfl rfl ?_
  refine kw_istore (pc := 4) (i := 3) (n := 5) (lv' := [(5, .int 0), (4, .int 1), (0, .ref 0), (1, .int kind), (2, .int area), (3, .int a)]) rfl (by decide) rfl ?_
  have L3 : ∀ (n8 : Nat) (x1 : Int32) (x2 : Int32), (x2.toInt = 0 ∨ x2.toInt = 1) → 0 ≤ x1.toInt → (41 - x1.toInt).toNat < n8 → kw_AW l 2 kw_E0 KM mX8_pullsSo (p_X8_pullsSo_0 T σ kind area a) 6 [(5, .int x1), (4, .int x2), (0, .ref 0), (1, .int kind), (2, .int area), (3, .int a)] [] σ := by
    intro n8
    induction n8 with
    | zero => intro x1 x2 v5 v6 m7; exact absurd m7 (Nat.not_lt_zero _)
    | succ n8 ih4 =>
      intro x1 x2 v5 v6 m7
      have r_x1 := kw_rng x1
      have r_x2 := kw_rng x2
      refine kw_iload (pc := 6) (i := 4) (k := 0) (n := 5) rfl rfl ?_
      refine kw_aload_n (pc := 8) (i := 5) (k := 2) (n := 0) rfl rfl rfl ?_
      refine kw_get (pc := 9) (i := 6) (v := .ref 2) rfl rfl rfl lkX8_17 (fun _ => rfl) ?_
      refine kw_iload_n (pc := 12) (i := 7) (k := 5) (n := 3) rfl rfl rfl ?_
      refine kw_iald (pc := 13) (i := 8) (n := 6) rfl rfl (by omega) (by omega) (fun z9 e_z9 => ?_)
      have t_z9 := congrArg Int32.toInt e_z9
      have b_z9 : -9 ≤ z9.toInt ∧ z9.toInt ≤ 40 := by rw [e_z9]; exact hI 2 _
      refine kw_icmp_ge (pc := 14) (i := 9) (tgt := 59) rfl rfl (fun c10 => ?_) (fun c10 => ?_)
      · refine kw_iload (pc := 59) (i := 32) (k := 1) (n := 4) rfl rfl ?_
        exact kw_ireturn (pc := 61) (i := 33) (ty := .boolean) rfl rfl (kw_nb (by omega)) ⟨rfl, _, rfl, by omega⟩
      · refine kw_iload (pc := 17) (i := 10) (k := 1) (n := 4) rfl rfl ?_
        refine kw_if_eq (pc := 19) (i := 11) (tgt := 50) rfl rfl (fun c11 => ?_) (fun c11 => ?_)
        · refine kw_iconst (pc := 50) (i := 28) (v := 0) rfl rfl ?_
          refine kw_istore (pc := 51) (i := 29) (n := 4) (lv' := [(4, .int 0), (5, .int x1), (0, .ref 0), (1, .int kind), (2, .int area), (3, .int a)]) rfl (by decide) rfl ?_
          refine kw_iinc' (pc := 53) (i := 30) (k := 1) (fun z => [(5, .int z), (4, .int 0), (0, .ref 0), (1, .int kind), (2, .int area), (3, .int a)]) rfl rfl (by decide) rfl (fun _ => rfl) (fun z12 e_z12 t_z12 => ?_)
          first | (have u_z12 : z12.toInt = x1.toInt + 2 := (by omega); clear t_z12) | skip
          refine kw_goto (pc := 56) (i := 31) (tgt := 6) rfl rfl ?_
          refine kw_sub (lv' := [(5, .int z12), (4, .int 0), (0, .ref 0), (1, .int kind), (2, .int area), (3, .int a)]) [0, 1, 2, 3, 4, 5] rfl ?_
          exact ih4 z12 0 (by omega) (by omega) (by omega)
        · refine kw_iload_n (pc := 22) (i := 12) (k := 3) (n := 1) rfl rfl rfl ?_
          refine kw_iload_n (pc := 23) (i := 13) (k := 4) (n := 2) rfl rfl rfl ?_
          refine kw_aload_n (pc := 24) (i := 14) (k := 2) (n := 0) rfl rfl rfl ?_
          refine kw_iload_n (pc := 25) (i := 15) (k := 5) (n := 3) rfl rfl rfl ?_
          refine kw_iload (pc := 26) (i := 16) (k := 0) (n := 5) rfl rfl ?_
          refine kw_callV (pc := 28) (i := 17) (Y := mX8_rowAt) (a := 0) (As := [.int a, .int x1]) (st := [.int area, .int kind]) kw_hE rfl rfl lvX8_115 arX8_rowAt (c_X8_rowAt_0 l T (by omega) (by omega) σ hI a x1 (by first | omega | decide) (by first | omega | decide) (by first | omega | decide) (by first | omega | decide)) (by decide) (Nat.le_of_ble_eq_true rfl) rfl (fun v S14 p13 => ?_)
          obtain ⟨e16, z15, rfl⟩ := p13
          rw [e16]
          have r_z15 := kw_rng z15
          show kw_AW l 2 kw_E0 KM mX8_pullsSo (p_X8_pullsSo_0 T σ kind area a) 31 [(5, .int x1), (4, .int x2), (0, .ref 0), (1, .int kind), (2, .int area), (3, .int a)] [.int z15, .int area, .int kind] σ
          refine kw_callS (pc := 31) (i := 18) (Y := mX8_pullBy) (As := [.int kind, .int area, .int z15]) (st := []) kw_hE rfl lsX8_181 arX8_pullBy (c_X8_pullBy l T (by omega) (by omega) σ hI kind area z15 ) (by decide) (Nat.le_of_ble_eq_true rfl) rfl (fun v S18 p17 => ?_)
          obtain ⟨e20, z19, rfl⟩ := p17
          rw [e20]
          have r_z19 := kw_rng z19
          show kw_AW l 2 kw_E0 KM mX8_pullsSo (p_X8_pullsSo_0 T σ kind area a) 34 [(5, .int x1), (4, .int x2), (0, .ref 0), (1, .int kind), (2, .int area), (3, .int a)] [.int z19] σ
          refine kw_aload_n (pc := 34) (i := 19) (k := 2) (n := 0) rfl rfl rfl ?_
          refine kw_iload_n (pc := 35) (i := 20) (k := 5) (n := 3) rfl rfl rfl ?_
          refine kw_iload (pc := 36) (i := 21) (k := 0) (n := 5) rfl rfl ?_
          refine kw_iconst (pc := 38) (i := 22) (v := 1) rfl rfl ?_
          refine kw_iadd (pc := 39) (i := 23) rfl (fun z21 e_z21 t_z21 => ?_)
          first | (have u_z21 : z21.toInt = x1.toInt + 1 := (by omega); clear t_z21) | skip
          refine kw_callV (pc := 40) (i := 24) (Y := mX8_rowAt) (a := 0) (As := [.int a, .int z21]) (st := [.int z19]) kw_hE rfl rfl lvX8_115 arX8_rowAt (c_X8_rowAt_0 l T (by omega) (by omega) σ hI a z21 (by first | omega | decide) (by first | omega | decide) (by first | omega | decide) (by first | omega | decide)) (by decide) (Nat.le_of_ble_eq_true rfl) rfl (fun v S23 p22 => ?_)
          obtain ⟨e25, z24, rfl⟩ := p22
          rw [e25]
          have r_z24 := kw_rng z24
          show kw_AW l 2 kw_E0 KM mX8_pullsSo (p_X8_pullsSo_0 T σ kind area a) 43 [(5, .int x1), (4, .int x2), (0, .ref 0), (1, .int kind), (2, .int area), (3, .int a)] [.int z24, .int z19] σ
          refine kw_icmp_ne (pc := 43) (i := 25) (tgt := 50) rfl rfl (fun c26 => ?_) (fun c26 => ?_)
          · refine kw_iconst (pc := 50) (i := 28) (v := 0) rfl rfl ?_
            refine kw_istore (pc := 51) (i := 29) (n := 4) (lv' := [(4, .int 0), (5, .int x1), (0, .ref 0), (1, .int kind), (2, .int area), (3, .int a)]) rfl (by decide) rfl ?_
            refine kw_iinc' (pc := 53) (i := 30) (k := 1) (fun z => [(5, .int z), (4, .int 0), (0, .ref 0), (1, .int kind), (2, .int area), (3, .int a)]) rfl rfl (by decide) rfl (fun _ => rfl) (fun z27 e_z27 t_z27 => ?_)
            first | (have u_z27 : z27.toInt = x1.toInt + 2 := (by omega); clear t_z27) | skip
            refine kw_goto (pc := 56) (i := 31) (tgt := 6) rfl rfl ?_
            refine kw_sub (lv' := [(5, .int z27), (4, .int 0), (0, .ref 0), (1, .int kind), (2, .int area), (3, .int a)]) [0, 1, 2, 3, 4, 5] rfl ?_
            exact ih4 z27 0 (by omega) (by omega) (by omega)
          · refine kw_iconst (pc := 46) (i := 26) (v := 1) rfl rfl ?_
            refine kw_goto (pc := 47) (i := 27) (tgt := 51) rfl rfl ?_
            refine kw_istore (pc := 51) (i := 29) (n := 4) (lv' := [(4, .int 1), (5, .int x1), (0, .ref 0), (1, .int kind), (2, .int area), (3, .int a)]) rfl (by decide) rfl ?_
            refine kw_iinc' (pc := 53) (i := 30) (k := 1) (fun z => [(5, .int z), (4, .int 1), (0, .ref 0), (1, .int kind), (2, .int area), (3, .int a)]) rfl rfl (by decide) rfl (fun _ => rfl) (fun z28 e_z28 t_z28 => ?_)
            first | (have u_z28 : z28.toInt = x1.toInt + 2 := (by omega); clear t_z28) | skip
            refine kw_goto (pc := 56) (i := 31) (tgt := 6) rfl rfl ?_
            refine kw_sub (lv' := [(5, .int z28), (4, .int 1), (0, .ref 0), (1, .int kind), (2, .int area), (3, .int a)]) [0, 1, 2, 3, 4, 5] rfl ?_
            exact ih4 z28 1 (by omega) (by omega) (by omega)
  exact L3 _ 0 1 (by omega) (by omega) (Nat.lt_succ_self _)
abbrev p_X8_kinds_0 (T : Int) (σ : kw_S) (i : Int32) (a : Int32) : Option Value → kw_S → Prop := fun vv σ' => (kw_I (bM T) σ' ∧ kw_F [0, 1] σ σ') ∧ ∃ r : Int32, vv = some (.int r)
set_option maxRecDepth 100000 in
set_option maxHeartbeats 4000000 in
theorem c_X8_kinds_0 (l : Launch) (T : Int) (hT0 : 0 ≤ T) (hT1 : T ≤ 3000) (σ : kw_S) (hI : kw_I (bM T) σ) (i : Int32) (a : Int32) : kw_Met l 5 KM mX8_kinds [.ref 0, .int i, .int a] σ (p_X8_kinds_0 T σ i a) := by
  have r_i := kw_rng i
  have r_a := kw_rng a
  have hF0 : kw_F [0, 1] σ σ := kw_F.rf
  have q_0 : (0 : Int32).toInt = 0 := rfl
  have q_1 : (1 : Int32).toInt = 1 := rfl
  have q_5 : (5 : Int32).toInt = 5 := rfl
  refine kw_Met.of (by decide) rfl tX8_kinds (Nat.le_of_ble_eq_true rfl) ?_
  show kw_AW l 5 kw_E0 KM mX8_kinds (p_X8_kinds_0 T σ i a) 0 [(0, .ref 0), (1, .int i), (2, .int a)] [] σ
  refine kw_aload_n (pc := 0) (i := 0) (k := 0) (n := 0) rfl rfl rfl ?_
  refine kw_iload_n (pc := 1) (i := 1) (k := 1) (n := 1) rfl rfl rfl ?_
  refine kw_iload_n (pc := 2) (i := 2) (k := 2) (n := 2) rfl rfl rfl ?_
  refine kw_callV (pc := 3) (i := 3) (Y := mX8_askedPulls) (a := 0) (As := [.int i, .int a]) (st := []) kw_hE rfl rfl lvX8_271 arX8_askedPulls (c_X8_askedPulls_0 l T (by omega) (by omega) σ hI i a ) (by decide) (Nat.le_of_ble_eq_true rfl) rfl (fun v S2 p1 => ?_)
  obtain ⟨⟨I5, F6⟩, z4, rfl, f3⟩ := p1
  have F7 : kw_F [0, 1] σ S2 := kw_F.tr hF0 F6 (by decide)
  have r_z4 := kw_rng z4
  show kw_AW l 5 kw_E0 KM mX8_kinds (p_X8_kinds_0 T σ i a) 6 [(0, .ref 0), (1, .int i), (2, .int a)] [.int z4] S2
  refine kw_istore_n (pc := 6) (i := 4) (n := 3) (lv' := [(3, .int z4), (0, .ref 0), (1, .int i), (2, .int a)]) rfl rfl (by decide) rfl ?_
  refine kw_iload_n (pc := 7) (i := 5) (k := 0) (n := 3) rfl rfl rfl ?_
  refine kw_if_ge (pc := 8) (i := 6) (tgt := 13) rfl rfl (fun c8 => ?_) (fun c8 => ?_)
  · refine kw_iconst (pc := 13) (i := 9) (v := 0) rfl rfl ?_
    refine kw_istore (pc := 14) (i := 10) (n := 4) (lv' := [(4, .int 0), (3, .int z4), (0, .ref 0), (1, .int i), (2, .int a)]) rfl (by decide) rfl ?_
    refine kw_iconst (pc := 16) (i := 11) (v := 0) rfl rfl ?_
    refine kw_istore (pc := 17) (i := 12) (n := 5) (lv' := [(5, .int 0), (4, .int 0), (3, .int z4), (0, .ref 0), (1, .int i), (2, .int a)]) rfl (by decide) rfl ?_
    have L11 : ∀ (n15 : Nat) (x9 : Int32) (x10 : Int32), 0 ≤ x9.toInt → (7 - x9.toInt).toNat < n15 → kw_AW l 5 kw_E0 KM mX8_kinds (p_X8_kinds_0 T σ i a) 19 [(5, .int x9), (4, .int x10), (3, .int z4), (0, .ref 0), (1, .int i), (2, .int a)] [] S2 := by
      intro n15
      induction n15 with
      | zero => intro x9 x10 v13 m14; exact absurd m14 (Nat.not_lt_zero _)
      | succ n15 ih12 =>
        intro x9 x10 v13 m14
        have r_x9 := kw_rng x9
        have r_x10 := kw_rng x10
        refine kw_iload (pc := 19) (i := 13) (k := 0) (n := 5) rfl rfl ?_
        refine kw_iconst (pc := 21) (i := 14) (v := 5) rfl rfl ?_
        refine kw_icmp_gt (pc := 22) (i := 15) (tgt := 60) rfl rfl (fun c16 => ?_) (fun c16 => ?_)
        · refine kw_iload (pc := 60) (i := 35) (k := 1) (n := 4) rfl rfl ?_
          exact kw_ireturn (pc := 62) (i := 36) (ty := .int) rfl rfl rfl ⟨⟨I5, F7⟩, _, rfl⟩
        · refine kw_iload (pc := 25) (i := 16) (k := 1) (n := 4) rfl rfl ?_
          refine kw_aload_n (pc := 27) (i := 17) (k := 3) (n := 0) rfl rfl rfl ?_
          refine kw_iload (pc := 28) (i := 18) (k := 0) (n := 5) rfl rfl ?_
          refine kw_aload_n (pc := 30) (i := 19) (k := 3) (n := 0) rfl rfl rfl ?_
          refine kw_get (pc := 31) (i := 20) (v := .ref 10) rfl rfl rfl lkX8_45 (fun _ => rfl) ?_
          refine kw_iload_n (pc := 34) (i := 21) (k := 4) (n := 1) rfl rfl rfl ?_
          refine kw_iald (pc := 35) (i := 22) (n := 6) rfl rfl (by omega) (by omega) (fun z17 e_z17 => ?_)
          have t_z17 := congrArg Int32.toInt e_z17
          have r_z17 := kw_rng z17
          refine kw_iload_n (pc := 36) (i := 23) (k := 5) (n := 2) rfl rfl rfl ?_
          refine kw_callV (pc := 37) (i := 24) (Y := mX8_pullsSo) (a := 0) (As := [.int x9, .int z17, .int a]) (st := [.int x10]) kw_hE rfl rfl lvX8_274 arX8_pullsSo (c_X8_pullsSo_0 l T (by omega) (by omega) S2 I5 x9 z17 a (by first | omega | decide) (by first | omega | decide) (by first | omega | decide)) (by decide) (Nat.le_of_ble_eq_true rfl) rfl (fun v S19 p18 => ?_)
          obtain ⟨e22, z21, rfl, f20⟩ := p18
          rw [e22]
          have r_z21 := kw_rng z21
          show kw_AW l 5 kw_E0 KM mX8_kinds (p_X8_kinds_0 T σ i a) 40 [(5, .int x9), (4, .int x10), (3, .int z4), (0, .ref 0), (1, .int i), (2, .int a)] [.int z21, .int x10] S2
          refine kw_if_eq (pc := 40) (i := 25) (tgt := 50) rfl rfl (fun c23 => ?_) (fun c23 => ?_)
          · refine kw_iconst (pc := 50) (i := 30) (v := 0) rfl rfl ?_
            refine kw_ior (pc := 51) (i := 31) rfl (fun z24 e_z24 => ?_)
            have r_z24 := kw_rng z24
            refine kw_istore (pc := 52) (i := 32) (n := 4) (lv' := [(4, .int z24), (5, .int x9), (3, .int z4), (0, .ref 0), (1, .int i), (2, .int a)]) rfl (by decide) rfl ?_
            refine kw_iinc' (pc := 54) (i := 33) (k := 1) (fun z => [(5, .int z), (4, .int z24), (3, .int z4), (0, .ref 0), (1, .int i), (2, .int a)]) rfl rfl (by decide) rfl (fun _ => rfl) (fun z25 e_z25 t_z25 => ?_)
            first | (have u_z25 : z25.toInt = x9.toInt + 1 := (by omega); clear t_z25) | skip
            refine kw_goto (pc := 57) (i := 34) (tgt := 19) rfl rfl ?_
            refine kw_sub (lv' := [(5, .int z25), (4, .int z24), (3, .int z4), (0, .ref 0), (1, .int i), (2, .int a)]) [0, 1, 2, 3, 4, 5] rfl ?_
            exact ih12 z25 z24 (by omega) (by omega)
          · refine kw_iconst (pc := 43) (i := 26) (v := 1) rfl rfl ?_
            refine kw_iload (pc := 44) (i := 27) (k := 0) (n := 5) rfl rfl ?_
            refine kw_ishl (pc := 46) (i := 28) rfl (fun z26 e_z26 => ?_)
            have r_z26 := kw_rng z26
            have t_z26 := kw_shlm x9 z26 e_z26
            have u_z26 := congrArg Int32.toInt e_z26
            refine kw_goto (pc := 47) (i := 29) (tgt := 51) rfl rfl ?_
            refine kw_ior (pc := 51) (i := 31) rfl (fun z27 e_z27 => ?_)
            have r_z27 := kw_rng z27
            refine kw_istore (pc := 52) (i := 32) (n := 4) (lv' := [(4, .int z27), (5, .int x9), (3, .int z4), (0, .ref 0), (1, .int i), (2, .int a)]) rfl (by decide) rfl ?_
            refine kw_iinc' (pc := 54) (i := 33) (k := 1) (fun z => [(5, .int z), (4, .int z27), (3, .int z4), (0, .ref 0), (1, .int i), (2, .int a)]) rfl rfl (by decide) rfl (fun _ => rfl) (fun z28 e_z28 t_z28 => ?_)
            first | (have u_z28 : z28.toInt = x9.toInt + 1 := (by omega); clear t_z28) | skip
            refine kw_goto (pc := 57) (i := 34) (tgt := 19) rfl rfl ?_
            refine kw_sub (lv' := [(5, .int z28), (4, .int z27), (3, .int z4), (0, .ref 0), (1, .int i), (2, .int a)]) [0, 1, 2, 3, 4, 5] rfl ?_
            exact ih12 z28 z27 (by omega) (by omega)
    exact L11 _ 0 0 (by omega) (Nat.lt_succ_self _)
  · refine kw_iload_n (pc := 11) (i := 7) (k := 0) (n := 3) rfl rfl rfl ?_
    exact kw_ireturn (pc := 12) (i := 8) (ty := .int) rfl rfl rfl ⟨⟨I5, F7⟩, _, rfl⟩
abbrev p_X8_areas_0 (T : Int) (σ : kw_S) (i : Int32) (a : Int32) : Option Value → kw_S → Prop := fun vv σ' => (kw_I (bM T) σ' ∧ kw_F [0, 1] σ σ') ∧ ∃ r : Int32, vv = some (.int r)
set_option maxRecDepth 100000 in
set_option maxHeartbeats 4000000 in
theorem c_X8_areas_0 (l : Launch) (T : Int) (hT0 : 0 ≤ T) (hT1 : T ≤ 3000) (σ : kw_S) (hI : kw_I (bM T) σ) (i : Int32) (a : Int32) : kw_Met l 5 KM mX8_areas [.ref 0, .int i, .int a] σ (p_X8_areas_0 T σ i a) := by
  have r_i := kw_rng i
  have r_a := kw_rng a
  have hF0 : kw_F [0, 1] σ σ := kw_F.rf
  have q_0 : (0 : Int32).toInt = 0 := rfl
  have q_1 : (1 : Int32).toInt = 1 := rfl
  have q_9 : (9 : Int32).toInt = 9 := rfl
  refine kw_Met.of (by decide) rfl tX8_areas (Nat.le_of_ble_eq_true rfl) ?_
  show kw_AW l 5 kw_E0 KM mX8_areas (p_X8_areas_0 T σ i a) 0 [(0, .ref 0), (1, .int i), (2, .int a)] [] σ
  refine kw_aload_n (pc := 0) (i := 0) (k := 0) (n := 0) rfl rfl rfl ?_
  refine kw_iload_n (pc := 1) (i := 1) (k := 1) (n := 1) rfl rfl rfl ?_
  refine kw_iload_n (pc := 2) (i := 2) (k := 2) (n := 2) rfl rfl rfl ?_
  refine kw_callV (pc := 3) (i := 3) (Y := mX8_askedPulls) (a := 0) (As := [.int i, .int a]) (st := []) kw_hE rfl rfl lvX8_271 arX8_askedPulls (c_X8_askedPulls_0 l T (by omega) (by omega) σ hI i a ) (by decide) (Nat.le_of_ble_eq_true rfl) rfl (fun v S2 p1 => ?_)
  obtain ⟨⟨I5, F6⟩, z4, rfl, f3⟩ := p1
  have F7 : kw_F [0, 1] σ S2 := kw_F.tr hF0 F6 (by decide)
  have r_z4 := kw_rng z4
  show kw_AW l 5 kw_E0 KM mX8_areas (p_X8_areas_0 T σ i a) 6 [(0, .ref 0), (1, .int i), (2, .int a)] [.int z4] S2
  refine kw_istore_n (pc := 6) (i := 4) (n := 3) (lv' := [(3, .int z4), (0, .ref 0), (1, .int i), (2, .int a)]) rfl rfl (by decide) rfl ?_
  refine kw_iload_n (pc := 7) (i := 5) (k := 0) (n := 3) rfl rfl rfl ?_
  refine kw_if_ge (pc := 8) (i := 6) (tgt := 13) rfl rfl (fun c8 => ?_) (fun c8 => ?_)
  · refine kw_iconst (pc := 13) (i := 9) (v := 0) rfl rfl ?_
    refine kw_istore (pc := 14) (i := 10) (n := 4) (lv' := [(4, .int 0), (3, .int z4), (0, .ref 0), (1, .int i), (2, .int a)]) rfl (by decide) rfl ?_
    refine kw_iconst (pc := 16) (i := 11) (v := 1) rfl rfl ?_
    refine kw_istore (pc := 17) (i := 12) (n := 5) (lv' := [(5, .int 1), (4, .int 0), (3, .int z4), (0, .ref 0), (1, .int i), (2, .int a)]) rfl (by decide) rfl ?_
    have L11 : ∀ (n15 : Nat) (x9 : Int32) (x10 : Int32), 0 ≤ x9.toInt → (11 - x9.toInt).toNat < n15 → kw_AW l 5 kw_E0 KM mX8_areas (p_X8_areas_0 T σ i a) 19 [(5, .int x9), (4, .int x10), (3, .int z4), (0, .ref 0), (1, .int i), (2, .int a)] [] S2 := by
      intro n15
      induction n15 with
      | zero => intro x9 x10 v13 m14; exact absurd m14 (Nat.not_lt_zero _)
      | succ n15 ih12 =>
        intro x9 x10 v13 m14
        have r_x9 := kw_rng x9
        have r_x10 := kw_rng x10
        refine kw_iload (pc := 19) (i := 13) (k := 0) (n := 5) rfl rfl ?_
        refine kw_bipush (pc := 21) (i := 14) (v := 9) rfl rfl ?_
        refine kw_icmp_gt (pc := 23) (i := 15) (tgt := 61) rfl rfl (fun c16 => ?_) (fun c16 => ?_)
        · refine kw_iload (pc := 61) (i := 35) (k := 1) (n := 4) rfl rfl ?_
          exact kw_ireturn (pc := 63) (i := 36) (ty := .int) rfl rfl rfl ⟨⟨I5, F7⟩, _, rfl⟩
        · refine kw_iload (pc := 26) (i := 16) (k := 1) (n := 4) rfl rfl ?_
          refine kw_aload_n (pc := 28) (i := 17) (k := 3) (n := 0) rfl rfl rfl ?_
          refine kw_aload_n (pc := 29) (i := 18) (k := 3) (n := 0) rfl rfl rfl ?_
          refine kw_get (pc := 30) (i := 19) (v := .ref 8) rfl rfl rfl lkX8_39 (fun _ => rfl) ?_
          refine kw_iload_n (pc := 33) (i := 20) (k := 4) (n := 1) rfl rfl rfl ?_
          refine kw_iald (pc := 34) (i := 21) (n := 6) rfl rfl (by omega) (by omega) (fun z17 e_z17 => ?_)
          have t_z17 := congrArg Int32.toInt e_z17
          have r_z17 := kw_rng z17
          refine kw_iload (pc := 35) (i := 22) (k := 0) (n := 5) rfl rfl ?_
          refine kw_iload_n (pc := 37) (i := 23) (k := 5) (n := 2) rfl rfl rfl ?_
          refine kw_callV (pc := 38) (i := 24) (Y := mX8_pullsSo) (a := 0) (As := [.int z17, .int x9, .int a]) (st := [.int x10]) kw_hE rfl rfl lvX8_274 arX8_pullsSo (c_X8_pullsSo_0 l T (by omega) (by omega) S2 I5 z17 x9 a (by first | omega | decide) (by first | omega | decide) (by first | omega | decide)) (by decide) (Nat.le_of_ble_eq_true rfl) rfl (fun v S19 p18 => ?_)
          obtain ⟨e22, z21, rfl, f20⟩ := p18
          rw [e22]
          have r_z21 := kw_rng z21
          show kw_AW l 5 kw_E0 KM mX8_areas (p_X8_areas_0 T σ i a) 41 [(5, .int x9), (4, .int x10), (3, .int z4), (0, .ref 0), (1, .int i), (2, .int a)] [.int z21, .int x10] S2
          refine kw_if_eq (pc := 41) (i := 25) (tgt := 51) rfl rfl (fun c23 => ?_) (fun c23 => ?_)
          · refine kw_iconst (pc := 51) (i := 30) (v := 0) rfl rfl ?_
            refine kw_ior (pc := 52) (i := 31) rfl (fun z24 e_z24 => ?_)
            have r_z24 := kw_rng z24
            refine kw_istore (pc := 53) (i := 32) (n := 4) (lv' := [(4, .int z24), (5, .int x9), (3, .int z4), (0, .ref 0), (1, .int i), (2, .int a)]) rfl (by decide) rfl ?_
            refine kw_iinc' (pc := 55) (i := 33) (k := 1) (fun z => [(5, .int z), (4, .int z24), (3, .int z4), (0, .ref 0), (1, .int i), (2, .int a)]) rfl rfl (by decide) rfl (fun _ => rfl) (fun z25 e_z25 t_z25 => ?_)
            first | (have u_z25 : z25.toInt = x9.toInt + 1 := (by omega); clear t_z25) | skip
            refine kw_goto (pc := 58) (i := 34) (tgt := 19) rfl rfl ?_
            refine kw_sub (lv' := [(5, .int z25), (4, .int z24), (3, .int z4), (0, .ref 0), (1, .int i), (2, .int a)]) [0, 1, 2, 3, 4, 5] rfl ?_
            exact ih12 z25 z24 (by omega) (by omega)
          · refine kw_iconst (pc := 44) (i := 26) (v := 1) rfl rfl ?_
            refine kw_iload (pc := 45) (i := 27) (k := 0) (n := 5) rfl rfl ?_
            refine kw_ishl (pc := 47) (i := 28) rfl (fun z26 e_z26 => ?_)
            have r_z26 := kw_rng z26
            have t_z26 := kw_shlm x9 z26 e_z26
            have u_z26 := congrArg Int32.toInt e_z26
            refine kw_goto (pc := 48) (i := 29) (tgt := 52) rfl rfl ?_
            refine kw_ior (pc := 52) (i := 31) rfl (fun z27 e_z27 => ?_)
            have r_z27 := kw_rng z27
            refine kw_istore (pc := 53) (i := 32) (n := 4) (lv' := [(4, .int z27), (5, .int x9), (3, .int z4), (0, .ref 0), (1, .int i), (2, .int a)]) rfl (by decide) rfl ?_
            refine kw_iinc' (pc := 55) (i := 33) (k := 1) (fun z => [(5, .int z), (4, .int z27), (3, .int z4), (0, .ref 0), (1, .int i), (2, .int a)]) rfl rfl (by decide) rfl (fun _ => rfl) (fun z28 e_z28 t_z28 => ?_)
            first | (have u_z28 : z28.toInt = x9.toInt + 1 := (by omega); clear t_z28) | skip
            refine kw_goto (pc := 58) (i := 34) (tgt := 19) rfl rfl ?_
            refine kw_sub (lv' := [(5, .int z28), (4, .int z27), (3, .int z4), (0, .ref 0), (1, .int i), (2, .int a)]) [0, 1, 2, 3, 4, 5] rfl ?_
            exact ih12 z28 z27 (by omega) (by omega)
    exact L11 _ 1 0 (by omega) (Nat.lt_succ_self _)
  · refine kw_iload_n (pc := 11) (i := 7) (k := 0) (n := 3) rfl rfl rfl ?_
    exact kw_ireturn (pc := 12) (i := 8) (ty := .int) rfl rfl rfl ⟨⟨I5, F7⟩, _, rfl⟩
abbrev p_X8_power (T : Int) (σ : kw_S) (v : Int64) (n : Int32) : Option Value → kw_S → Prop := fun vv σ' => σ' = σ ∧ ∃ r : Int64, vv = some (.long r)
set_option maxRecDepth 100000 in
set_option maxHeartbeats 4000000 in
theorem c_X8_power (l : Launch) (T : Int) (hT0 : 0 ≤ T) (hT1 : T ≤ 3000) (σ : kw_S) (hI : kw_I (bM T) σ) (v : Int64) (n : Int32) : kw_Met l 1 KM mX8_power [.long v, .int n] σ (p_X8_power T σ v n) := by
  have r_n := kw_rng n
  have q_0 : (0 : Int32).toInt = 0 := rfl
  refine kw_Met.of (by decide) rfl tX8_power (Nat.le_of_ble_eq_true rfl) ?_
  show kw_AW l 1 kw_E0 KM mX8_power (p_X8_power T σ v n) 0 [(0, .long v), (2, .int n)] [] σ
  refine kw_lconst (pc := 0) (i := 0) (v := 1) rfl rfl ?_
  refine kw_lstore_n (pc := 1) (i := 1) (n := 3) (lv' := [(3, .long 1), (0, .long v), (2, .int n)]) rfl rfl (by decide) rfl ?_
  refine kw_iconst (pc := 2) (i := 2) (v := 0) rfl rfl ?_
  refine kw_istore (pc := 3) (i := 3) (n := 5) (lv' := [(5, .int 0), (3, .long 1), (0, .long v), (2, .int n)]) rfl (by decide) rfl ?_
  have L3 : ∀ (n7 : Nat) (x1 : Int32) (x2 : Int64), 0 ≤ x1.toInt → (n.toInt - x1.toInt).toNat < n7 → kw_AW l 1 kw_E0 KM mX8_power (p_X8_power T σ v n) 5 [(5, .int x1), (3, .long x2), (0, .long v), (2, .int n)] [] σ := by
    intro n7
    induction n7 with
    | zero => intro x1 x2 v5 m6; exact absurd m6 (Nat.not_lt_zero _)
    | succ n7 ih4 =>
      intro x1 x2 v5 m6
      have r_x1 := kw_rng x1
      refine kw_iload (pc := 5) (i := 4) (k := 0) (n := 5) rfl rfl ?_
      refine kw_iload_n (pc := 7) (i := 5) (k := 3) (n := 2) rfl rfl rfl ?_
      refine kw_icmp_ge (pc := 8) (i := 6) (tgt := 21) rfl rfl (fun c8 => ?_) (fun c8 => ?_)
      · refine kw_lload_n (pc := 21) (i := 13) (k := 1) (n := 3) rfl rfl rfl ?_
        exact kw_lreturn (pc := 22) (i := 14) rfl rfl ⟨rfl, _, rfl⟩
      · refine kw_lload_n (pc := 11) (i := 7) (k := 1) (n := 3) rfl rfl rfl ?_
        refine kw_lload_n (pc := 12) (i := 8) (k := 2) (n := 0) rfl rfl rfl ?_
        refine kw_lmul (pc := 13) (i := 9) rfl (fun z9 e_z9 => ?_)
        refine kw_lstore_n (pc := 14) (i := 10) (n := 3) (lv' := [(3, .long z9), (5, .int x1), (0, .long v), (2, .int n)]) rfl rfl (by decide) rfl ?_
        refine kw_iinc' (pc := 15) (i := 11) (k := 1) (fun z => [(5, .int z), (3, .long z9), (0, .long v), (2, .int n)]) rfl rfl (by decide) rfl (fun _ => rfl) (fun z10 e_z10 t_z10 => ?_)
        first | (have u_z10 : z10.toInt = x1.toInt + 1 := (by omega); clear t_z10) | skip
        refine kw_goto (pc := 18) (i := 12) (tgt := 5) rfl rfl ?_
        refine kw_sub (lv' := [(5, .int z10), (3, .long z9), (0, .long v), (2, .int n)]) [0, 1, 2, 3] rfl ?_
        exact ih4 z10 z9 (by omega) (by omega)
  exact L3 _ 0 1 (by omega) (Nat.lt_succ_self _)
abbrev p_X8_powerv12 (T : Int) (σ : kw_S) (v : Int64) (n : Int32) : Option Value → kw_S → Prop := fun vv σ' => σ' = σ ∧ ∃ r : Int64, vv = some (.long r) ∧ 1 ≤ r.toInt
set_option maxRecDepth 100000 in
set_option maxHeartbeats 4000000 in
theorem c_X8_powerv12 (l : Launch) (T : Int) (hT0 : 0 ≤ T) (hT1 : T ≤ 3000) (σ : kw_S) (hI : kw_I (bM T) σ) (v : Int64) (n : Int32) (hp0 : v.toInt = 12) (hp1 : 0 ≤ n.toInt) (hp2 : n.toInt ≤ 6) : kw_Met l 1 KM mX8_power [.long v, .int n] σ (p_X8_powerv12 T σ v n) := by
  have r_n := kw_rng n
  have q_0 : (0 : Int32).toInt = 0 := rfl
  refine kw_Met.of (by decide) rfl tX8_power (Nat.le_of_ble_eq_true rfl) ?_
  show kw_AW l 1 kw_E0 KM mX8_power (p_X8_powerv12 T σ v n) 0 [(0, .long v), (2, .int n)] [] σ
  refine kw_lconst (pc := 0) (i := 0) (v := 1) rfl rfl ?_
  refine kw_lstore_n (pc := 1) (i := 1) (n := 3) (lv' := [(3, .long 1), (0, .long v), (2, .int n)]) rfl rfl (by decide) rfl ?_
  refine kw_iconst (pc := 2) (i := 2) (v := 0) rfl rfl ?_
  refine kw_istore (pc := 3) (i := 3) (n := 5) (lv' := [(5, .int 0), (3, .long 1), (0, .long v), (2, .int n)]) rfl (by decide) rfl ?_
  have L3 : ∀ (n9 : Nat) (x1 : Int32) (x2 : Int64), 0 ≤ x1.toInt → x1.toInt ≤ n.toInt → kw_p12 x1.toInt x2.toInt → (n.toInt - x1.toInt).toNat < n9 → kw_AW l 1 kw_E0 KM mX8_power (p_X8_powerv12 T σ v n) 5 [(5, .int x1), (3, .long x2), (0, .long v), (2, .int n)] [] σ := by
    intro n9
    induction n9 with
    | zero => intro x1 x2 v5 v6 v7 m8; exact absurd m8 (Nat.not_lt_zero _)
    | succ n9 ih4 =>
      intro x1 x2 v5 v6 v7 m8
      have r_x1 := kw_rng x1
      have w_p := kw_p12B v7 (by omega) (by omega)
      refine kw_iload (pc := 5) (i := 4) (k := 0) (n := 5) rfl rfl ?_
      refine kw_iload_n (pc := 7) (i := 5) (k := 3) (n := 2) rfl rfl rfl ?_
      refine kw_icmp_ge (pc := 8) (i := 6) (tgt := 21) rfl rfl (fun c10 => ?_) (fun c10 => ?_)
      · refine kw_lload_n (pc := 21) (i := 13) (k := 1) (n := 3) rfl rfl rfl ?_
        exact kw_lreturn (pc := 22) (i := 14) rfl rfl ⟨rfl, _, rfl, by omega⟩
      · refine kw_lload_n (pc := 11) (i := 7) (k := 1) (n := 3) rfl rfl rfl ?_
        refine kw_lload_n (pc := 12) (i := 8) (k := 2) (n := 0) rfl rfl rfl ?_
        refine kw_lmul (pc := 13) (i := 9) rfl (fun z11 e_z11 => ?_)
        have t_z11 : z11.toInt = x2.toInt * 12 := by rw [kw_lmulI x2 v z11 e_z11, hp0]; omega
        refine kw_lstore_n (pc := 14) (i := 10) (n := 3) (lv' := [(3, .long z11), (5, .int x1), (0, .long v), (2, .int n)]) rfl rfl (by decide) rfl ?_
        refine kw_iinc' (pc := 15) (i := 11) (k := 1) (fun z => [(5, .int z), (3, .long z11), (0, .long v), (2, .int n)]) rfl rfl (by decide) rfl (fun _ => rfl) (fun z12 e_z12 t_z12 => ?_)
        first | (have u_z12 : z12.toInt = x1.toInt + 1 := (by omega); clear t_z12) | skip
        refine kw_goto (pc := 18) (i := 12) (tgt := 5) rfl rfl ?_
        refine kw_sub (lv' := [(5, .int z12), (3, .long z11), (0, .long v), (2, .int n)]) [0, 1, 2, 3] rfl ?_
        exact ih4 z12 z11 (by omega) (by omega) (show kw_p12 z12.toInt z11.toInt from by exact kw_p12S v7 (by omega) (by omega) (by omega)) (by omega)
  exact L3 _ 0 1 (by omega) (by omega) (show kw_p12 (0 : Int32).toInt (1 : Int64).toInt from by exact kw_p120) (Nat.lt_succ_self _)
abbrev p_X8_gustMiles_0 (T : Int) (σ : kw_S) (a : Int32) (g : Int32) : Option Value → kw_S → Prop := fun vv σ' => σ' = σ ∧ ∃ r : Int32, vv = some (.int r)
set_option maxRecDepth 100000 in
set_option maxHeartbeats 4000000 in
theorem c_X8_gustMiles_0 (l : Launch) (T : Int) (hT0 : 0 ≤ T) (hT1 : T ≤ 3000) (σ : kw_S) (hI : kw_I (bM T) σ) (a : Int32) (g : Int32) (hp0 : 0 ≤ a.toInt) (hp1 : a.toInt ≤ 5) : kw_Met l 4 KM mX8_gustMiles [.ref 0, .int a, .int g] σ (p_X8_gustMiles_0 T σ a g) := by
  have r_a := kw_rng a
  have r_g := kw_rng g
  have q_0 : (0 : Int32).toInt = 0 := rfl
  have q_1 : (1 : Int32).toInt = 1 := rfl
  refine kw_Met.of (by decide) rfl tX8_gustMiles (Nat.le_of_ble_eq_true rfl) ?_
  show kw_AW l 4 kw_E0 KM mX8_gustMiles (p_X8_gustMiles_0 T σ a g) 0 [(0, .ref 0), (1, .int a), (2, .int g)] [] σ
  refine kw_aload_n (pc := 0) (i := 0) (k := 0) (n := 0) rfl rfl rfl ?_
  refine kw_get (pc := 1) (i := 1) (v := .int (σ.1 0 23)) rfl rfl rfl lkX8_169 (fun _ => rfl) ?_
  have b1 := kw_rng (σ.1 0 23)
  refine kw_istore_n (pc := 4) (i := 2) (n := 3) (lv' := [(3, .int (σ.1 0 23)), (0, .ref 0), (1, .int a), (2, .int g)]) rfl rfl (by decide) rfl ?_
  refine kw_iconst (pc := 5) (i := 3) (v := 0) rfl rfl ?_
  refine kw_istore (pc := 6) (i := 4) (n := 4) (lv' := [(4, .int 0), (3, .int (σ.1 0 23)), (0, .ref 0), (1, .int a), (2, .int g)]) rfl (by decide) rfl ?_
  have L4 : ∀ (n8 : Nat) (x2 : Int32) (x3 : Int32), 0 ≤ x2.toInt → (41 - x2.toInt).toNat < n8 → kw_AW l 4 kw_E0 KM mX8_gustMiles (p_X8_gustMiles_0 T σ a g) 8 [(4, .int x2), (3, .int x3), (0, .ref 0), (1, .int a), (2, .int g)] [] σ := by
    intro n8
    induction n8 with
    | zero => intro x2 x3 v6 m7; exact absurd m7 (Nat.not_lt_zero _)
    | succ n8 ih5 =>
      intro x2 x3 v6 m7
      have r_x2 := kw_rng x2
      have r_x3 := kw_rng x3
      refine kw_iload (pc := 8) (i := 5) (k := 0) (n := 4) rfl rfl ?_
      refine kw_aload_n (pc := 10) (i := 6) (k := 2) (n := 0) rfl rfl rfl ?_
      refine kw_get (pc := 11) (i := 7) (v := .ref 2) rfl rfl rfl lkX8_17 (fun _ => rfl) ?_
      refine kw_iload_n (pc := 14) (i := 8) (k := 3) (n := 1) rfl rfl rfl ?_
      refine kw_iald (pc := 15) (i := 9) (n := 6) rfl rfl (by omega) (by omega) (fun z9 e_z9 => ?_)
      have t_z9 := congrArg Int32.toInt e_z9
      have b_z9 : -9 ≤ z9.toInt ∧ z9.toInt ≤ 40 := by rw [e_z9]; exact hI 2 _
      refine kw_icmp_ge (pc := 16) (i := 10) (tgt := 57) rfl rfl (fun c10 => ?_) (fun c10 => ?_)
      · refine kw_iload_n (pc := 57) (i := 34) (k := 1) (n := 3) rfl rfl rfl ?_
        exact kw_ireturn (pc := 58) (i := 35) (ty := .int) rfl rfl rfl ⟨rfl, _, rfl⟩
      · refine kw_iload_n (pc := 19) (i := 11) (k := 1) (n := 3) rfl rfl rfl ?_
        refine kw_aload_n (pc := 20) (i := 12) (k := 2) (n := 0) rfl rfl rfl ?_
        refine kw_aload_n (pc := 21) (i := 13) (k := 2) (n := 0) rfl rfl rfl ?_
        refine kw_iload_n (pc := 22) (i := 14) (k := 3) (n := 1) rfl rfl rfl ?_
        refine kw_iload (pc := 23) (i := 15) (k := 0) (n := 4) rfl rfl ?_
        refine kw_callV (pc := 25) (i := 16) (Y := mX8_rowAt) (a := 0) (As := [.int a, .int x2]) (st := [.ref 0, .int x3]) kw_hE rfl rfl lvX8_115 arX8_rowAt (c_X8_rowAt_0 l T (by omega) (by omega) σ hI a x2 (by first | omega | decide) (by first | omega | decide) (by first | omega | decide) (by first | omega | decide)) (by decide) (Nat.le_of_ble_eq_true rfl) rfl (fun v S12 p11 => ?_)
        obtain ⟨e14, z13, rfl⟩ := p11
        rw [e14]
        have r_z13 := kw_rng z13
        show kw_AW l 4 kw_E0 KM mX8_gustMiles (p_X8_gustMiles_0 T σ a g) 28 [(4, .int x2), (3, .int x3), (0, .ref 0), (1, .int a), (2, .int g)] [.int z13, .ref 0, .int x3] σ
        refine kw_aload_n (pc := 28) (i := 17) (k := 2) (n := 0) rfl rfl rfl ?_
        refine kw_aload_n (pc := 29) (i := 18) (k := 2) (n := 0) rfl rfl rfl ?_
        refine kw_get (pc := 30) (i := 19) (v := .int (σ.1 0 22)) rfl rfl rfl lkX8_166 (fun _ => rfl) ?_
        have b15 : 0 ≤ (σ.1 0 22).toInt ∧ (σ.1 0 22).toInt ≤ T := hI 0 22
        refine kw_iload (pc := 33) (i := 20) (k := 0) (n := 4) rfl rfl ?_
        refine kw_iadd (pc := 35) (i := 21) rfl (fun z16 e_z16 t_z16 => ?_)
        first | (have u_z16 : z16.toInt = (σ.1 0 22).toInt + x2.toInt := (by omega); clear t_z16) | skip
        refine kw_callV (pc := 36) (i := 22) (Y := mX8_windAt) (a := 0) (As := [.int z16]) (st := [.int z13, .ref 0, .int x3]) kw_hE rfl rfl lvX8_196 arX8_windAt (c_X8_windAt_0 l T (by omega) (by omega) σ hI z16 (by first | omega | decide)) (by decide) (Nat.le_of_ble_eq_true rfl) rfl (fun v S18 p17 => ?_)
        obtain ⟨e20, z19, rfl⟩ := p17
        rw [e20]
        have r_z19 := kw_rng z19
        show kw_AW l 4 kw_E0 KM mX8_gustMiles (p_X8_gustMiles_0 T σ a g) 39 [(4, .int x2), (3, .int x3), (0, .ref 0), (1, .int a), (2, .int g)] [.int z19, .int z13, .ref 0, .int x3] σ
        refine kw_iload_n (pc := 39) (i := 23) (k := 4) (n := 2) rfl rfl rfl ?_
        refine kw_iload (pc := 40) (i := 24) (k := 0) (n := 4) rfl rfl ?_
        refine kw_ishr (pc := 42) (i := 25) rfl (fun z21 e_z21 => ?_)
        have r_z21 := kw_rng z21
        refine kw_iconst (pc := 43) (i := 26) (v := 1) rfl rfl ?_
        refine kw_iand (pc := 44) (i := 27) rfl (fun z22 e_z22 => ?_)
        have r_z22 := kw_rng z22
        have t_z22 := kw_andI z21 (1 : Int32) z22 e_z22
        refine kw_iadd (pc := 45) (i := 28) rfl (fun z23 e_z23 t_z23 => ?_)
        first | (have u_z23 : z23.toInt = z19.toInt + z22.toInt := (by omega); clear t_z23) | skip
        refine kw_callV (pc := 46) (i := 29) (Y := mX8_milesBy) (a := 0) (As := [.int z13, .int z23]) (st := [.int x3]) kw_hE rfl rfl lvX8_199 arX8_milesBy (c_X8_milesBy_0 l T (by omega) (by omega) σ hI z13 z23 ) (by decide) (Nat.le_of_ble_eq_true rfl) rfl (fun v S25 p24 => ?_)
        obtain ⟨e27, z26, rfl⟩ := p24
        rw [e27]
        have r_z26 := kw_rng z26
        show kw_AW l 4 kw_E0 KM mX8_gustMiles (p_X8_gustMiles_0 T σ a g) 49 [(4, .int x2), (3, .int x3), (0, .ref 0), (1, .int a), (2, .int g)] [.int z26, .int x3] σ
        refine kw_iadd (pc := 49) (i := 30) rfl (fun z28 e_z28 t_z28 => ?_)
        first | (have u_z28 : z28.toInt = x3.toInt + z26.toInt := (by omega); clear t_z28) | skip
        refine kw_istore_n (pc := 50) (i := 31) (n := 3) (lv' := [(3, .int z28), (4, .int x2), (0, .ref 0), (1, .int a), (2, .int g)]) rfl rfl (by decide) rfl ?_
        refine kw_iinc' (pc := 51) (i := 32) (k := 1) (fun z => [(4, .int z), (3, .int z28), (0, .ref 0), (1, .int a), (2, .int g)]) rfl rfl (by decide) rfl (fun _ => rfl) (fun z29 e_z29 t_z29 => ?_)
        first | (have u_z29 : z29.toInt = x2.toInt + 1 := (by omega); clear t_z29) | skip
        refine kw_goto (pc := 54) (i := 33) (tgt := 8) rfl rfl ?_
        refine kw_sub (lv' := [(4, .int z29), (3, .int z28), (0, .ref 0), (1, .int a), (2, .int g)]) [0, 1, 2, 3, 4] rfl ?_
        exact ih5 z29 z28 (by omega) (by omega)
  exact L4 _ 0 (σ.1 0 23) (by omega) (Nat.lt_succ_self _)
abbrev p_X8_weightOf_0 (T : Int) (σ : kw_S) (g : Int32) (n : Int32) (p : Int32) : Option Value → kw_S → Prop := fun vv σ' => σ' = σ ∧ ∃ r : Int64, vv = some (.long r)
set_option maxRecDepth 100000 in
set_option maxHeartbeats 4000000 in
theorem c_X8_weightOf_0 (l : Launch) (T : Int) (hT0 : 0 ≤ T) (hT1 : T ≤ 3000) (σ : kw_S) (hI : kw_I (bM T) σ) (g : Int32) (n : Int32) (p : Int32) : kw_Met l 2 KM mX8_weightOf [.ref 0, .int g, .int n, .int p] σ (p_X8_weightOf_0 T σ g n p) := by
  have r_g := kw_rng g
  have r_n := kw_rng n
  have r_p := kw_rng p
  have q_12 : (12 : Int32).toInt = 12 := rfl
  refine kw_Met.of (by decide) rfl tX8_weightOf (Nat.le_of_ble_eq_true rfl) ?_
  show kw_AW l 2 kw_E0 KM mX8_weightOf (p_X8_weightOf_0 T σ g n p) 0 [(0, .ref 0), (1, .int g), (2, .int n), (3, .int p)] [] σ
  refine kw_iload_n (pc := 0) (i := 0) (k := 3) (n := 3) rfl rfl rfl ?_
  refine kw_i2l (pc := 1) (i := 1) rfl (fun z1 e_z1 t_z1 => ?_)
  refine kw_iload_n (pc := 2) (i := 2) (k := 1) (n := 1) rfl rfl rfl ?_
  refine kw_callS (pc := 3) (i := 3) (Y := mX8_bits) (As := [.int g]) (st := [.long z1]) kw_hE rfl lsX8_217 arX8_bits (c_X8_bits l T (by omega) (by omega) σ hI g ) (by decide) (Nat.le_of_ble_eq_true rfl) rfl (fun v S3 p2 => ?_)
  obtain ⟨e5, z4, rfl⟩ := p2
  rw [e5]
  have r_z4 := kw_rng z4
  show kw_AW l 2 kw_E0 KM mX8_weightOf (p_X8_weightOf_0 T σ g n p) 6 [(0, .ref 0), (1, .int g), (2, .int n), (3, .int p)] [.int z4, .long z1] σ
  refine kw_callS (pc := 6) (i := 4) (Y := mX8_power) (As := [.long z1, .int z4]) (st := []) kw_hE rfl lsX8_277 arX8_power (c_X8_power l T (by omega) (by omega) σ hI z1 z4 ) (by decide) (Nat.le_of_ble_eq_true rfl) rfl (fun v S7 p6 => ?_)
  obtain ⟨e9, z8, rfl⟩ := p6
  rw [e9]
  show kw_AW l 2 kw_E0 KM mX8_weightOf (p_X8_weightOf_0 T σ g n p) 9 [(0, .ref 0), (1, .int g), (2, .int n), (3, .int p)] [.long z8] σ
  refine kw_bipush (pc := 9) (i := 5) (v := 12) rfl rfl ?_
  refine kw_iload_n (pc := 11) (i := 6) (k := 3) (n := 3) rfl rfl rfl ?_
  refine kw_isub (pc := 12) (i := 7) rfl (fun z10 e_z10 t_z10 => ?_)
  first | (have u_z10 : z10.toInt = 12 - p.toInt := (by omega); clear t_z10) | skip
  refine kw_i2l (pc := 13) (i := 8) rfl (fun z11 e_z11 t_z11 => ?_)
  refine kw_iload_n (pc := 14) (i := 9) (k := 2) (n := 2) rfl rfl rfl ?_
  refine kw_iload_n (pc := 15) (i := 10) (k := 1) (n := 1) rfl rfl rfl ?_
  refine kw_callS (pc := 16) (i := 11) (Y := mX8_bits) (As := [.int g]) (st := [.int n, .long z11, .long z8]) kw_hE rfl lsX8_217 arX8_bits (c_X8_bits l T (by omega) (by omega) σ hI g ) (by decide) (Nat.le_of_ble_eq_true rfl) rfl (fun v S13 p12 => ?_)
  obtain ⟨e15, z14, rfl⟩ := p12
  rw [e15]
  have r_z14 := kw_rng z14
  show kw_AW l 2 kw_E0 KM mX8_weightOf (p_X8_weightOf_0 T σ g n p) 19 [(0, .ref 0), (1, .int g), (2, .int n), (3, .int p)] [.int z14, .int n, .long z11, .long z8] σ
  refine kw_isub (pc := 19) (i := 12) rfl (fun z16 e_z16 t_z16 => ?_)
  first | (have u_z16 : z16.toInt = n.toInt - z14.toInt := (by omega); clear t_z16) | skip
  refine kw_callS (pc := 20) (i := 13) (Y := mX8_power) (As := [.long z11, .int z16]) (st := [.long z8]) kw_hE rfl lsX8_277 arX8_power (c_X8_power l T (by omega) (by omega) σ hI z11 z16 ) (by decide) (Nat.le_of_ble_eq_true rfl) rfl (fun v S18 p17 => ?_)
  obtain ⟨e20, z19, rfl⟩ := p17
  rw [e20]
  show kw_AW l 2 kw_E0 KM mX8_weightOf (p_X8_weightOf_0 T σ g n p) 23 [(0, .ref 0), (1, .int g), (2, .int n), (3, .int p)] [.long z19, .long z8] σ
  refine kw_lmul (pc := 23) (i := 14) rfl (fun z21 e_z21 => ?_)
  exact kw_lreturn (pc := 24) (i := 15) rfl rfl ⟨rfl, _, rfl⟩
abbrev p_X8_mid_0 (T : Int) (σ : kw_S) (a : Int32) (p : Int32) : Option Value → kw_S → Prop := fun vv σ' => (kw_I (bM T) σ' ∧ kw_F [0, 1] σ σ') ∧ ∃ r : Int32, vv = some (.int r)
set_option maxRecDepth 100000 in
set_option maxHeartbeats 4000000 in
theorem c_X8_mid_0 (l : Launch) (T : Int) (hT0 : 0 ≤ T) (hT1 : T ≤ 3000) (σ : kw_S) (hI : kw_I (bM T) σ) (a : Int32) (p : Int32) : kw_Met l 5 KM mX8_mid [.ref 0, .int a, .int p] σ (p_X8_mid_0 T σ a p) := by
  have r_a := kw_rng a
  have r_p := kw_rng p
  have hF0 : kw_F [0, 1] σ σ := kw_F.rf
  have q_m1 : (-1 : Int32).toInt = -1 := rfl
  have q_0 : (0 : Int32).toInt = 0 := rfl
  have q_1 : (1 : Int32).toInt = 1 := rfl
  have q_12 : (12 : Int32).toInt = 12 := rfl
  refine kw_Met.of (by decide) rfl tX8_mid (Nat.le_of_ble_eq_true rfl) ?_
  show kw_AW l 5 kw_E0 KM mX8_mid (p_X8_mid_0 T σ a p) 0 [(0, .ref 0), (1, .int a), (2, .int p)] [] σ
  refine kw_iload_n (pc := 0) (i := 0) (k := 2) (n := 2) rfl rfl rfl ?_
  refine kw_iconst (pc := 1) (i := 1) (v := 0) rfl rfl ?_
  refine kw_bipush (pc := 2) (i := 2) (v := 12) rfl rfl ?_
  refine kw_callS (pc := 4) (i := 3) (Y := mX8_in) (As := [.int p, .int 0, .int 12]) (st := []) kw_hE rfl lsX8_93 arX8_in (c_X8_in l T (by omega) (by omega) σ hI p 0 12 ) (by decide) (Nat.le_of_ble_eq_true rfl) rfl (fun v S2 p1 => ?_)
  obtain ⟨e7, z6, rfl, f3, f4, f5⟩ := p1
  rw [e7]
  have r_z6 := kw_rng z6
  show kw_AW l 5 kw_E0 KM mX8_mid (p_X8_mid_0 T σ a p) 7 [(0, .ref 0), (1, .int a), (2, .int p)] [.int z6] σ
  refine kw_if_ne (pc := 7) (i := 4) (tgt := 14) rfl rfl (fun c8 => ?_) (fun c8 => ?_)
  · refine kw_aload_n (pc := 14) (i := 7) (k := 0) (n := 0) rfl rfl rfl ?_
    refine kw_iload_n (pc := 15) (i := 8) (k := 1) (n := 1) rfl rfl rfl ?_
    refine kw_callV (pc := 16) (i := 9) (Y := mX8_askedPlan) (a := 0) (As := [.int a]) (st := []) kw_hE rfl rfl lvX8_252 arX8_askedPlan (c_X8_askedPlan_0 l T (by omega) (by omega) σ hI a ) (by decide) (Nat.le_of_ble_eq_true rfl) rfl (fun v S10 p9 => ?_)
    obtain ⟨⟨I13, F14⟩, z12, rfl, f11⟩ := p9
    have F15 : kw_F [0, 1] σ S10 := kw_F.tr hF0 F14 (by decide)
    have r_z12 := kw_rng z12
    show kw_AW l 5 kw_E0 KM mX8_mid (p_X8_mid_0 T σ a p) 19 [(0, .ref 0), (1, .int a), (2, .int p)] [.int z12] S10
    refine kw_istore_n (pc := 19) (i := 10) (n := 3) (lv' := [(3, .int z12), (0, .ref 0), (1, .int a), (2, .int p)]) rfl rfl (by decide) rfl ?_
    refine kw_iload_n (pc := 20) (i := 11) (k := 0) (n := 3) rfl rfl rfl ?_
    refine kw_if_ge (pc := 21) (i := 12) (tgt := 26) rfl rfl (fun c16 => ?_) (fun c16 => ?_)
    · refine kw_aload_n (pc := 26) (i := 15) (k := 1) (n := 0) rfl rfl rfl ?_
      refine kw_get (pc := 27) (i := 16) (v := .ref 2) rfl rfl rfl lkX8_17 (fun _ => rfl) ?_
      refine kw_iload_n (pc := 30) (i := 17) (k := 2) (n := 1) rfl rfl rfl ?_
      refine kw_iald (pc := 31) (i := 18) (n := 6) rfl rfl (by omega) (by omega) (fun z17 e_z17 => ?_)
      have t_z17 := congrArg Int32.toInt e_z17
      have b_z17 : -9 ≤ z17.toInt ∧ z17.toInt ≤ 40 := by rw [e_z17]; exact I13 2 _
      refine kw_istore (pc := 32) (i := 19) (n := 4) (lv' := [(4, .int z17), (3, .int z12), (0, .ref 0), (1, .int a), (2, .int p)]) rfl (by decide) rfl ?_
      refine kw_lconst (pc := 34) (i := 20) (v := 0) rfl rfl ?_
      refine kw_lstore (pc := 35) (i := 21) (n := 5) (lv' := [(5, .long 0), (4, .int z17), (3, .int z12), (0, .ref 0), (1, .int a), (2, .int p)]) rfl (by decide) rfl ?_
      refine kw_iconst (pc := 37) (i := 22) (v := 0) rfl rfl ?_
      refine kw_istore (pc := 38) (i := 23) (n := 7) (lv' := [(7, .int 0), (5, .long 0), (4, .int z17), (3, .int z12), (0, .ref 0), (1, .int a), (2, .int p)]) rfl (by decide) rfl ?_
      have L20 : ∀ (n24 : Nat) (x18 : Int32) (x19 : Int64), 0 ≤ x18.toInt → (65 - x18.toInt).toNat < n24 → kw_AW l 5 kw_E0 KM mX8_mid (p_X8_mid_0 T σ a p) 40 [(7, .int x18), (5, .long x19), (4, .int z17), (3, .int z12), (0, .ref 0), (1, .int a), (2, .int p)] [] S10 := by
        intro n24
        induction n24 with
        | zero => intro x18 x19 v22 m23; exact absurd m23 (Nat.not_lt_zero _)
        | succ n24 ih21 =>
          intro x18 x19 v22 m23
          have r_x18 := kw_rng x18
          refine kw_iload (pc := 40) (i := 24) (k := 0) (n := 7) rfl rfl ?_
          refine kw_iconst (pc := 42) (i := 25) (v := 1) rfl rfl ?_
          refine kw_iload (pc := 43) (i := 26) (k := 2) (n := 4) rfl rfl ?_
          refine kw_ishl (pc := 45) (i := 27) rfl (fun z25 e_z25 => ?_)
          have r_z25 := kw_rng z25
          have t_z25 := kw_shlm z17 z25 e_z25
          have u_z25 := congrArg Int32.toInt e_z25
          refine kw_icmp_ge (pc := 46) (i := 28) (tgt := 78) rfl rfl (fun c26 => ?_) (fun c26 => ?_)
          · refine kw_aload_n (pc := 78) (i := 45) (k := 4) (n := 0) rfl rfl rfl ?_
            refine kw_lload (pc := 79) (i := 46) (k := 1) (n := 5) rfl rfl ?_
            refine kw_ldc2 (pc := 81) (i := 47) (v := 12) rfl ckX8_288 ?_
            refine kw_iload (pc := 84) (i := 48) (k := 2) (n := 4) rfl rfl ?_
            refine kw_callS (pc := 86) (i := 49) (Y := mX8_power) (As := [.long 12, .int z17]) (st := [.long x19, .ref 0]) kw_hE rfl lsX8_277 arX8_power (c_X8_powerv12 l T (by omega) (by omega) S10 I13 12 z17 (by first | omega | decide) (by first | omega | decide) (by first | omega | decide)) (by decide) (Nat.le_of_ble_eq_true rfl) rfl (fun v S28 p27 => ?_)
            obtain ⟨e31, z30, rfl, f29⟩ := p27
            rw [e31]
            show kw_AW l 5 kw_E0 KM mX8_mid (p_X8_mid_0 T σ a p) 89 [(7, .int x18), (5, .long x19), (4, .int z17), (3, .int z12), (0, .ref 0), (1, .int a), (2, .int p)] [.long z30, .long x19, .ref 0] S10
            refine kw_callV (pc := 89) (i := 50) (Y := mX8_part) (a := 0) (As := [.long x19, .long z30]) (st := []) kw_hE rfl rfl lvX8_223 arX8_part (c_X8_part_0 l T (by omega) (by omega) S10 I13 x19 z30 (by first | omega | decide)) (by decide) (Nat.le_of_ble_eq_true rfl) rfl (fun v S33 p32 => ?_)
            obtain ⟨⟨I36, F37⟩, z35, rfl, f34⟩ := p32
            have F38 : kw_F [0, 1] σ S33 := kw_F.tr F15 F37 (by decide)
            have r_z35 := kw_rng z35
            show kw_AW l 5 kw_E0 KM mX8_mid (p_X8_mid_0 T σ a p) 92 [(7, .int x18), (5, .long x19), (4, .int z17), (3, .int z12), (0, .ref 0), (1, .int a), (2, .int p)] [.int z35] S33
            exact kw_ireturn (pc := 92) (i := 51) (ty := .int) rfl rfl rfl ⟨⟨I36, F38⟩, _, rfl⟩
          · refine kw_lload (pc := 49) (i := 29) (k := 1) (n := 5) rfl rfl ?_
            refine kw_aload_n (pc := 51) (i := 30) (k := 4) (n := 0) rfl rfl rfl ?_
            refine kw_iload_n (pc := 52) (i := 31) (k := 5) (n := 1) rfl rfl rfl ?_
            refine kw_iload (pc := 53) (i := 32) (k := 0) (n := 7) rfl rfl ?_
            refine kw_callV (pc := 55) (i := 33) (Y := mX8_gustMiles) (a := 0) (As := [.int a, .int x18]) (st := [.long x19]) kw_hE rfl rfl lvX8_281 arX8_gustMiles (c_X8_gustMiles_0 l T (by omega) (by omega) S10 I13 a x18 (by first | omega | decide) (by first | omega | decide)) (by decide) (Nat.le_of_ble_eq_true rfl) rfl (fun v S40 p39 => ?_)
            obtain ⟨e42, z41, rfl⟩ := p39
            rw [e42]
            have r_z41 := kw_rng z41
            show kw_AW l 5 kw_E0 KM mX8_mid (p_X8_mid_0 T σ a p) 58 [(7, .int x18), (5, .long x19), (4, .int z17), (3, .int z12), (0, .ref 0), (1, .int a), (2, .int p)] [.int z41, .long x19] S10
            refine kw_i2l (pc := 58) (i := 34) rfl (fun z43 e_z43 t_z43 => ?_)
            refine kw_aload_n (pc := 59) (i := 35) (k := 4) (n := 0) rfl rfl rfl ?_
            refine kw_iload (pc := 60) (i := 36) (k := 0) (n := 7) rfl rfl ?_
            refine kw_iload (pc := 62) (i := 37) (k := 2) (n := 4) rfl rfl ?_
            refine kw_iload_n (pc := 64) (i := 38) (k := 6) (n := 2) rfl rfl rfl ?_
            refine kw_callV (pc := 65) (i := 39) (Y := mX8_weightOf) (a := 0) (As := [.int x18, .int z17, .int p]) (st := [.long z43, .long x19]) kw_hE rfl rfl lvX8_284 arX8_weightOf (c_X8_weightOf_0 l T (by omega) (by omega) S10 I13 x18 z17 p ) (by decide) (Nat.le_of_ble_eq_true rfl) rfl (fun v S45 p44 => ?_)
            obtain ⟨e47, z46, rfl⟩ := p44
            rw [e47]
            show kw_AW l 5 kw_E0 KM mX8_mid (p_X8_mid_0 T σ a p) 68 [(7, .int x18), (5, .long x19), (4, .int z17), (3, .int z12), (0, .ref 0), (1, .int a), (2, .int p)] [.long z46, .long z43, .long x19] S10
            refine kw_lmul (pc := 68) (i := 40) rfl (fun z48 e_z48 => ?_)
            refine kw_ladd (pc := 69) (i := 41) rfl (fun z49 e_z49 => ?_)
            have t_z49 := kw_laddI x19 z48 z49 e_z49
            first | (have u_z49 : z49.toInt = x19.toInt + z48.toInt := (by omega); clear t_z49) | skip
            refine kw_lstore (pc := 70) (i := 42) (n := 5) (lv' := [(5, .long z49), (7, .int x18), (4, .int z17), (3, .int z12), (0, .ref 0), (1, .int a), (2, .int p)]) rfl (by decide) rfl ?_
            refine kw_iinc' (pc := 72) (i := 43) (k := 1) (fun z => [(7, .int z), (5, .long z49), (4, .int z17), (3, .int z12), (0, .ref 0), (1, .int a), (2, .int p)]) rfl rfl (by decide) rfl (fun _ => rfl) (fun z50 e_z50 t_z50 => ?_)
            first | (have u_z50 : z50.toInt = x18.toInt + 1 := (by omega); clear t_z50) | skip
            refine kw_goto (pc := 75) (i := 44) (tgt := 40) rfl rfl ?_
            refine kw_sub (lv' := [(7, .int z50), (5, .long z49), (4, .int z17), (3, .int z12), (0, .ref 0), (1, .int a), (2, .int p)]) [0, 1, 2, 3, 4, 5, 6] rfl ?_
            exact ih21 z50 z49 (by omega) (by omega)
      exact L20 _ 0 0 (by omega) (Nat.lt_succ_self _)
    · refine kw_iload_n (pc := 24) (i := 13) (k := 0) (n := 3) rfl rfl rfl ?_
      exact kw_ireturn (pc := 25) (i := 14) (ty := .int) rfl rfl rfl ⟨⟨I13, F15⟩, _, rfl⟩
  · refine kw_iconst (pc := 10) (i := 5) (v := (-1)) rfl rfl ?_
    refine kw_goto (pc := 11) (i := 6) (tgt := 19) rfl rfl ?_
    refine kw_istore_n (pc := 19) (i := 10) (n := 3) (lv' := [(3, .int (-1)), (0, .ref 0), (1, .int a), (2, .int p)]) rfl rfl (by decide) rfl ?_
    refine kw_iload_n (pc := 20) (i := 11) (k := 0) (n := 3) rfl rfl rfl ?_
    refine kw_if_ge (pc := 21) (i := 12) (tgt := 26) rfl rfl (fun c51 => ?_) (fun c51 => ?_)
    · exfalso; omega
    · refine kw_iload_n (pc := 24) (i := 13) (k := 0) (n := 3) rfl rfl rfl ?_
      exact kw_ireturn (pc := 25) (i := 14) (ty := .int) rfl rfl rfl ⟨⟨hI, hF0⟩, _, rfl⟩
abbrev p_X8_odds_0 (T : Int) (σ : kw_S) (a : Int32) (m : Int32) (p : Int32) : Option Value → kw_S → Prop := fun vv σ' => (kw_I (bM T) σ' ∧ kw_F [0, 1] σ σ') ∧ ∃ r : Int32, vv = some (.int r)
set_option maxRecDepth 100000 in
set_option maxHeartbeats 4000000 in
theorem c_X8_odds_0 (l : Launch) (T : Int) (hT0 : 0 ≤ T) (hT1 : T ≤ 3000) (σ : kw_S) (hI : kw_I (bM T) σ) (a : Int32) (m : Int32) (p : Int32) : kw_Met l 5 KM mX8_odds [.ref 0, .int a, .int m, .int p] σ (p_X8_odds_0 T σ a m p) := by
  have r_a := kw_rng a
  have r_m := kw_rng m
  have r_p := kw_rng p
  have hF0 : kw_F [0, 1] σ σ := kw_F.rf
  have q_m999 : (-999 : Int32).toInt = -999 := rfl
  have q_m1 : (-1 : Int32).toInt = -1 := rfl
  have q_0 : (0 : Int32).toInt = 0 := rfl
  have q_1 : (1 : Int32).toInt = 1 := rfl
  have q_12 : (12 : Int32).toInt = 12 := rfl
  have q_999 : (999 : Int32).toInt = 999 := rfl
  refine kw_Met.of (by decide) rfl tX8_odds (Nat.le_of_ble_eq_true rfl) ?_
  show kw_AW l 5 kw_E0 KM mX8_odds (p_X8_odds_0 T σ a m p) 0 [(0, .ref 0), (1, .int a), (2, .int m), (3, .int p)] [] σ
  refine kw_iload_n (pc := 0) (i := 0) (k := 3) (n := 3) rfl rfl rfl ?_
  refine kw_iconst (pc := 1) (i := 1) (v := 0) rfl rfl ?_
  refine kw_bipush (pc := 2) (i := 2) (v := 12) rfl rfl ?_
  refine kw_callS (pc := 4) (i := 3) (Y := mX8_in) (As := [.int p, .int 0, .int 12]) (st := []) kw_hE rfl lsX8_93 arX8_in (c_X8_in l T (by omega) (by omega) σ hI p 0 12 ) (by decide) (Nat.le_of_ble_eq_true rfl) rfl (fun v S2 p1 => ?_)
  obtain ⟨e7, z6, rfl, f3, f4, f5⟩ := p1
  rw [e7]
  have r_z6 := kw_rng z6
  show kw_AW l 5 kw_E0 KM mX8_odds (p_X8_odds_0 T σ a m p) 7 [(0, .ref 0), (1, .int a), (2, .int m), (3, .int p)] [.int z6] σ
  refine kw_if_eq (pc := 7) (i := 4) (tgt := 23) rfl rfl (fun c8 => ?_) (fun c8 => ?_)
  · refine kw_iconst (pc := 23) (i := 10) (v := (-1)) rfl rfl ?_
    refine kw_goto (pc := 24) (i := 11) (tgt := 32) rfl rfl ?_
    refine kw_istore (pc := 32) (i := 15) (n := 4) (lv' := [(4, .int (-1)), (0, .ref 0), (1, .int a), (2, .int m), (3, .int p)]) rfl (by decide) rfl ?_
    refine kw_iload (pc := 34) (i := 16) (k := 0) (n := 4) rfl rfl ?_
    refine kw_if_ge (pc := 36) (i := 17) (tgt := 42) rfl rfl (fun c9 => ?_) (fun c9 => ?_)
    · exfalso; omega
    · refine kw_iload (pc := 39) (i := 18) (k := 0) (n := 4) rfl rfl ?_
      exact kw_ireturn (pc := 41) (i := 19) (ty := .int) rfl rfl rfl ⟨⟨hI, hF0⟩, _, rfl⟩
  · refine kw_iload_n (pc := 10) (i := 5) (k := 2) (n := 2) rfl rfl rfl ?_
    refine kw_sipush (pc := 11) (i := 6) (v := (-999)) rfl rfl ?_
    refine kw_sipush (pc := 14) (i := 7) (v := 999) rfl rfl ?_
    refine kw_callS (pc := 17) (i := 8) (Y := mX8_in) (As := [.int m, .int (-999), .int 999]) (st := []) kw_hE rfl lsX8_93 arX8_in (c_X8_in l T (by omega) (by omega) σ hI m (-999) 999 ) (by decide) (Nat.le_of_ble_eq_true rfl) rfl (fun v S11 p10 => ?_)
    obtain ⟨e16, z15, rfl, f12, f13, f14⟩ := p10
    rw [e16]
    have r_z15 := kw_rng z15
    show kw_AW l 5 kw_E0 KM mX8_odds (p_X8_odds_0 T σ a m p) 20 [(0, .ref 0), (1, .int a), (2, .int m), (3, .int p)] [.int z15] σ
    refine kw_if_ne (pc := 20) (i := 9) (tgt := 27) rfl rfl (fun c17 => ?_) (fun c17 => ?_)
    · refine kw_aload_n (pc := 27) (i := 12) (k := 0) (n := 0) rfl rfl rfl ?_
      refine kw_iload_n (pc := 28) (i := 13) (k := 1) (n := 1) rfl rfl rfl ?_
      refine kw_callV (pc := 29) (i := 14) (Y := mX8_askedPlan) (a := 0) (As := [.int a]) (st := []) kw_hE rfl rfl lvX8_252 arX8_askedPlan (c_X8_askedPlan_0 l T (by omega) (by omega) σ hI a ) (by decide) (Nat.le_of_ble_eq_true rfl) rfl (fun v S19 p18 => ?_)
      obtain ⟨⟨I22, F23⟩, z21, rfl, f20⟩ := p18
      have F24 : kw_F [0, 1] σ S19 := kw_F.tr hF0 F23 (by decide)
      have r_z21 := kw_rng z21
      show kw_AW l 5 kw_E0 KM mX8_odds (p_X8_odds_0 T σ a m p) 32 [(0, .ref 0), (1, .int a), (2, .int m), (3, .int p)] [.int z21] S19
      refine kw_istore (pc := 32) (i := 15) (n := 4) (lv' := [(4, .int z21), (0, .ref 0), (1, .int a), (2, .int m), (3, .int p)]) rfl (by decide) rfl ?_
      refine kw_iload (pc := 34) (i := 16) (k := 0) (n := 4) rfl rfl ?_
      refine kw_if_ge (pc := 36) (i := 17) (tgt := 42) rfl rfl (fun c25 => ?_) (fun c25 => ?_)
      · refine kw_aload_n (pc := 42) (i := 20) (k := 1) (n := 0) rfl rfl rfl ?_
        refine kw_get (pc := 43) (i := 21) (v := .ref 2) rfl rfl rfl lkX8_17 (fun _ => rfl) ?_
        refine kw_iload_n (pc := 46) (i := 22) (k := 2) (n := 1) rfl rfl rfl ?_
        refine kw_iald (pc := 47) (i := 23) (n := 6) rfl rfl (by omega) (by omega) (fun z26 e_z26 => ?_)
        have t_z26 := congrArg Int32.toInt e_z26
        have b_z26 : -9 ≤ z26.toInt ∧ z26.toInt ≤ 40 := by rw [e_z26]; exact I22 2 _
        refine kw_istore (pc := 48) (i := 24) (n := 5) (lv' := [(5, .int z26), (4, .int z21), (0, .ref 0), (1, .int a), (2, .int m), (3, .int p)]) rfl (by decide) rfl ?_
        refine kw_lconst (pc := 50) (i := 25) (v := 0) rfl rfl ?_
        refine kw_lstore (pc := 51) (i := 26) (n := 6) (lv' := [(6, .long 0), (5, .int z26), (4, .int z21), (0, .ref 0), (1, .int a), (2, .int m), (3, .int p)]) rfl (by decide) rfl ?_
        refine kw_iconst (pc := 53) (i := 27) (v := 0) rfl rfl ?_
        refine kw_istore (pc := 54) (i := 28) (n := 8) (lv' := [(8, .int 0), (6, .long 0), (5, .int z26), (4, .int z21), (0, .ref 0), (1, .int a), (2, .int m), (3, .int p)]) rfl (by decide) rfl ?_
        have L29 : ∀ (n33 : Nat) (x27 : Int32) (x28 : Int64), 0 ≤ x27.toInt → (65 - x27.toInt).toNat < n33 → kw_AW l 5 kw_E0 KM mX8_odds (p_X8_odds_0 T σ a m p) 56 [(8, .int x27), (6, .long x28), (5, .int z26), (4, .int z21), (0, .ref 0), (1, .int a), (2, .int m), (3, .int p)] [] S19 := by
          intro n33
          induction n33 with
          | zero => intro x27 x28 v31 m32; exact absurd m32 (Nat.not_lt_zero _)
          | succ n33 ih30 =>
            intro x27 x28 v31 m32
            have r_x27 := kw_rng x27
            refine kw_iload (pc := 56) (i := 29) (k := 0) (n := 8) rfl rfl ?_
            refine kw_iconst (pc := 58) (i := 30) (v := 1) rfl rfl ?_
            refine kw_iload (pc := 59) (i := 31) (k := 2) (n := 5) rfl rfl ?_
            refine kw_ishl (pc := 61) (i := 32) rfl (fun z34 e_z34 => ?_)
            have r_z34 := kw_rng z34
            have t_z34 := kw_shlm z26 z34 e_z34
            have u_z34 := congrArg Int32.toInt e_z34
            refine kw_icmp_ge (pc := 62) (i := 33) (tgt := 100) rfl rfl (fun c35 => ?_) (fun c35 => ?_)
            · refine kw_aload_n (pc := 100) (i := 52) (k := 4) (n := 0) rfl rfl rfl ?_
              refine kw_lload (pc := 101) (i := 53) (k := 1) (n := 6) rfl rfl ?_
              refine kw_ldc2 (pc := 103) (i := 54) (v := 12) rfl ckX8_288 ?_
              refine kw_iload (pc := 106) (i := 55) (k := 2) (n := 5) rfl rfl ?_
              refine kw_callS (pc := 108) (i := 56) (Y := mX8_power) (As := [.long 12, .int z26]) (st := [.long x28, .ref 0]) kw_hE rfl lsX8_277 arX8_power (c_X8_powerv12 l T (by omega) (by omega) S19 I22 12 z26 (by first | omega | decide) (by first | omega | decide) (by first | omega | decide)) (by decide) (Nat.le_of_ble_eq_true rfl) rfl (fun v S37 p36 => ?_)
              obtain ⟨e40, z39, rfl, f38⟩ := p36
              rw [e40]
              show kw_AW l 5 kw_E0 KM mX8_odds (p_X8_odds_0 T σ a m p) 111 [(8, .int x27), (6, .long x28), (5, .int z26), (4, .int z21), (0, .ref 0), (1, .int a), (2, .int m), (3, .int p)] [.long z39, .long x28, .ref 0] S19
              refine kw_callV (pc := 111) (i := 57) (Y := mX8_part) (a := 0) (As := [.long x28, .long z39]) (st := []) kw_hE rfl rfl lvX8_223 arX8_part (c_X8_part_0 l T (by omega) (by omega) S19 I22 x28 z39 (by first | omega | decide)) (by decide) (Nat.le_of_ble_eq_true rfl) rfl (fun v S42 p41 => ?_)
              obtain ⟨⟨I45, F46⟩, z44, rfl, f43⟩ := p41
              have F47 : kw_F [0, 1] σ S42 := kw_F.tr F24 F46 (by decide)
              have r_z44 := kw_rng z44
              show kw_AW l 5 kw_E0 KM mX8_odds (p_X8_odds_0 T σ a m p) 114 [(8, .int x27), (6, .long x28), (5, .int z26), (4, .int z21), (0, .ref 0), (1, .int a), (2, .int m), (3, .int p)] [.int z44] S42
              exact kw_ireturn (pc := 114) (i := 58) (ty := .int) rfl rfl rfl ⟨⟨I45, F47⟩, _, rfl⟩
            · refine kw_lload (pc := 65) (i := 34) (k := 1) (n := 6) rfl rfl ?_
              refine kw_aload_n (pc := 67) (i := 35) (k := 4) (n := 0) rfl rfl rfl ?_
              refine kw_iload_n (pc := 68) (i := 36) (k := 5) (n := 1) rfl rfl rfl ?_
              refine kw_iload (pc := 69) (i := 37) (k := 0) (n := 8) rfl rfl ?_
              refine kw_callV (pc := 71) (i := 38) (Y := mX8_gustMiles) (a := 0) (As := [.int a, .int x27]) (st := [.long x28]) kw_hE rfl rfl lvX8_281 arX8_gustMiles (c_X8_gustMiles_0 l T (by omega) (by omega) S19 I22 a x27 (by first | omega | decide) (by first | omega | decide)) (by decide) (Nat.le_of_ble_eq_true rfl) rfl (fun v S49 p48 => ?_)
              obtain ⟨e51, z50, rfl⟩ := p48
              rw [e51]
              have r_z50 := kw_rng z50
              show kw_AW l 5 kw_E0 KM mX8_odds (p_X8_odds_0 T σ a m p) 74 [(8, .int x27), (6, .long x28), (5, .int z26), (4, .int z21), (0, .ref 0), (1, .int a), (2, .int m), (3, .int p)] [.int z50, .long x28] S19
              refine kw_iload_n (pc := 74) (i := 39) (k := 6) (n := 2) rfl rfl rfl ?_
              refine kw_icmp_lt (pc := 75) (i := 40) (tgt := 90) rfl rfl (fun c52 => ?_) (fun c52 => ?_)
              · refine kw_lconst (pc := 90) (i := 47) (v := 0) rfl rfl ?_
                refine kw_ladd (pc := 91) (i := 48) rfl (fun z53 e_z53 => ?_)
                have t_z53 := kw_laddI x28 (0 : Int64) z53 e_z53
                rw [show (0 : Int64).toInt = 0 from rfl] at t_z53
                first | (have u_z53 : z53.toInt = x28.toInt + 0 := (by omega); clear t_z53) | skip
                refine kw_lstore (pc := 92) (i := 49) (n := 6) (lv' := [(6, .long z53), (8, .int x27), (5, .int z26), (4, .int z21), (0, .ref 0), (1, .int a), (2, .int m), (3, .int p)]) rfl (by decide) rfl ?_
                refine kw_iinc' (pc := 94) (i := 50) (k := 1) (fun z => [(8, .int z), (6, .long z53), (5, .int z26), (4, .int z21), (0, .ref 0), (1, .int a), (2, .int m), (3, .int p)]) rfl rfl (by decide) rfl (fun _ => rfl) (fun z54 e_z54 t_z54 => ?_)
                first | (have u_z54 : z54.toInt = x27.toInt + 1 := (by omega); clear t_z54) | skip
                refine kw_goto (pc := 97) (i := 51) (tgt := 56) rfl rfl ?_
                refine kw_sub (lv' := [(8, .int z54), (6, .long z53), (5, .int z26), (4, .int z21), (0, .ref 0), (1, .int a), (2, .int m), (3, .int p)]) [0, 1, 2, 3, 4, 5, 6, 7] rfl ?_
                exact ih30 z54 z53 (by omega) (by omega)
              · refine kw_aload_n (pc := 78) (i := 41) (k := 4) (n := 0) rfl rfl rfl ?_
                refine kw_iload (pc := 79) (i := 42) (k := 0) (n := 8) rfl rfl ?_
                refine kw_iload (pc := 81) (i := 43) (k := 2) (n := 5) rfl rfl ?_
                refine kw_iload_n (pc := 83) (i := 44) (k := 7) (n := 3) rfl rfl rfl ?_
                refine kw_callV (pc := 84) (i := 45) (Y := mX8_weightOf) (a := 0) (As := [.int x27, .int z26, .int p]) (st := [.long x28]) kw_hE rfl rfl lvX8_284 arX8_weightOf (c_X8_weightOf_0 l T (by omega) (by omega) S19 I22 x27 z26 p ) (by decide) (Nat.le_of_ble_eq_true rfl) rfl (fun v S56 p55 => ?_)
                obtain ⟨e58, z57, rfl⟩ := p55
                rw [e58]
                show kw_AW l 5 kw_E0 KM mX8_odds (p_X8_odds_0 T σ a m p) 87 [(8, .int x27), (6, .long x28), (5, .int z26), (4, .int z21), (0, .ref 0), (1, .int a), (2, .int m), (3, .int p)] [.long z57, .long x28] S19
                refine kw_goto (pc := 87) (i := 46) (tgt := 91) rfl rfl ?_
                refine kw_ladd (pc := 91) (i := 48) rfl (fun z59 e_z59 => ?_)
                have t_z59 := kw_laddI x28 z57 z59 e_z59
                first | (have u_z59 : z59.toInt = x28.toInt + z57.toInt := (by omega); clear t_z59) | skip
                refine kw_lstore (pc := 92) (i := 49) (n := 6) (lv' := [(6, .long z59), (8, .int x27), (5, .int z26), (4, .int z21), (0, .ref 0), (1, .int a), (2, .int m), (3, .int p)]) rfl (by decide) rfl ?_
                refine kw_iinc' (pc := 94) (i := 50) (k := 1) (fun z => [(8, .int z), (6, .long z59), (5, .int z26), (4, .int z21), (0, .ref 0), (1, .int a), (2, .int m), (3, .int p)]) rfl rfl (by decide) rfl (fun _ => rfl) (fun z60 e_z60 t_z60 => ?_)
                first | (have u_z60 : z60.toInt = x27.toInt + 1 := (by omega); clear t_z60) | skip
                refine kw_goto (pc := 97) (i := 51) (tgt := 56) rfl rfl ?_
                refine kw_sub (lv' := [(8, .int z60), (6, .long z59), (5, .int z26), (4, .int z21), (0, .ref 0), (1, .int a), (2, .int m), (3, .int p)]) [0, 1, 2, 3, 4, 5, 6, 7] rfl ?_
                exact ih30 z60 z59 (by omega) (by omega)
        exact L29 _ 0 0 (by omega) (Nat.lt_succ_self _)
      · refine kw_iload (pc := 39) (i := 18) (k := 0) (n := 4) rfl rfl ?_
        exact kw_ireturn (pc := 41) (i := 19) (ty := .int) rfl rfl rfl ⟨⟨I22, F24⟩, _, rfl⟩
    · refine kw_iconst (pc := 23) (i := 10) (v := (-1)) rfl rfl ?_
      refine kw_goto (pc := 24) (i := 11) (tgt := 32) rfl rfl ?_
      refine kw_istore (pc := 32) (i := 15) (n := 4) (lv' := [(4, .int (-1)), (0, .ref 0), (1, .int a), (2, .int m), (3, .int p)]) rfl (by decide) rfl ?_
      refine kw_iload (pc := 34) (i := 16) (k := 0) (n := 4) rfl rfl ?_
      refine kw_if_ge (pc := 36) (i := 17) (tgt := 42) rfl rfl (fun c61 => ?_) (fun c61 => ?_)
      · exfalso; omega
      · refine kw_iload (pc := 39) (i := 18) (k := 0) (n := 4) rfl rfl ?_
        exact kw_ireturn (pc := 41) (i := 19) (ty := .int) rfl rfl rfl ⟨⟨hI, hF0⟩, _, rfl⟩
abbrev p_X8_lots_0 (T : Int) (σ : kw_S) (n : Int32) (seed : Int32) : Option Value → kw_S → Prop := fun vv σ' => (kw_I (bM (T + 20)) σ' ∧ kw_F [0, 14, 15] σ σ') ∧ ∃ r : Int32, vv = some (.int r)
set_option maxRecDepth 100000 in
set_option maxHeartbeats 4000000 in
theorem c_X8_lots_0 (l : Launch) (T : Int) (hT0 : 0 ≤ T) (hT1 : T ≤ 3000) (σ : kw_S) (hI : kw_I (bM T) σ) (n : Int32) (seed : Int32) (hp0 : T ≤ 2000) : kw_Met l 5 KM mX8_lots [.ref 0, .int n, .int seed] σ (p_X8_lots_0 T σ n seed) := by
  have r_n := kw_rng n
  have r_seed := kw_rng seed
  have hF0 : kw_F [0, 14, 15] σ σ := kw_F.rf
  have q_m4 : (-4 : Int32).toInt = -4 := rfl
  have q_m2 : (-2 : Int32).toInt = -2 := rfl
  have q_m1 : (-1 : Int32).toInt = -1 := rfl
  have q_0 : (0 : Int32).toInt = 0 := rfl
  have q_1 : (1 : Int32).toInt = 1 := rfl
  have q_2 : (2 : Int32).toInt = 2 := rfl
  have q_20 : (20 : Int32).toInt = 20 := rfl
  have q_40 : (40 : Int32).toInt = 40 := rfl
  have q_2147483646 : (2147483646 : Int32).toInt = 2147483646 := rfl
  refine kw_Met.of (by decide) rfl tX8_lots (Nat.le_of_ble_eq_true rfl) ?_
  show kw_AW l 5 kw_E0 KM mX8_lots (p_X8_lots_0 T σ n seed) 0 [(0, .ref 0), (1, .int n), (2, .int seed)] [] σ
  refine kw_iload_n (pc := 0) (i := 0) (k := 1) (n := 1) rfl rfl rfl ?_
  refine kw_iconst (pc := 1) (i := 1) (v := 1) rfl rfl ?_
  refine kw_bipush (pc := 2) (i := 2) (v := 20) rfl rfl ?_
  refine kw_callS (pc := 4) (i := 3) (Y := mX8_in) (As := [.int n, .int 1, .int 20]) (st := []) kw_hE rfl lsX8_93 arX8_in (c_X8_in l T (by omega) (by omega) σ hI n 1 20 ) (by decide) (Nat.le_of_ble_eq_true rfl) rfl (fun v S2 p1 => ?_)
  obtain ⟨e7, z6, rfl, f3, f4, f5⟩ := p1
  rw [e7]
  have r_z6 := kw_rng z6
  show kw_AW l 5 kw_E0 KM mX8_lots (p_X8_lots_0 T σ n seed) 7 [(0, .ref 0), (1, .int n), (2, .int seed)] [.int z6] σ
  refine kw_if_eq (pc := 7) (i := 4) (tgt := 21) rfl rfl (fun c8 => ?_) (fun c8 => ?_)
  · refine kw_iconst (pc := 21) (i := 10) (v := (-1)) rfl rfl ?_
    exact kw_ireturn (pc := 22) (i := 11) (ty := .int) rfl rfl rfl ⟨⟨(kw_monoM (by omega) hI), hF0⟩, _, rfl⟩
  · refine kw_iload_n (pc := 10) (i := 5) (k := 2) (n := 2) rfl rfl rfl ?_
    refine kw_iconst (pc := 11) (i := 6) (v := 1) rfl rfl ?_
    refine kw_ldcw (pc := 12) (i := 7) (v := 2147483646) rfl ckX8_290 ?_
    refine kw_callS (pc := 15) (i := 8) (Y := mX8_in) (As := [.int seed, .int 1, .int 2147483646]) (st := []) kw_hE rfl lsX8_93 arX8_in (c_X8_in l T (by omega) (by omega) σ hI seed 1 2147483646 ) (by decide) (Nat.le_of_ble_eq_true rfl) rfl (fun v S10 p9 => ?_)
    obtain ⟨e15, z14, rfl, f11, f12, f13⟩ := p9
    rw [e15]
    have r_z14 := kw_rng z14
    show kw_AW l 5 kw_E0 KM mX8_lots (p_X8_lots_0 T σ n seed) 18 [(0, .ref 0), (1, .int n), (2, .int seed)] [.int z14] σ
    refine kw_if_ne (pc := 18) (i := 9) (tgt := 23) rfl rfl (fun c16 => ?_) (fun c16 => ?_)
    · refine kw_aload_n (pc := 23) (i := 12) (k := 0) (n := 0) rfl rfl rfl ?_
      refine kw_get (pc := 24) (i := 13) (v := .int (σ.1 0 10)) rfl rfl rfl lkX8_163 (fun _ => rfl) ?_
      have b17 : 0 ≤ (σ.1 0 10).toInt ∧ (σ.1 0 10).toInt ≤ 6 := hI 0 10
      refine kw_if_ne (pc := 27) (i := 14) (tgt := 33) rfl rfl (fun c18 => ?_) (fun c18 => ?_)
      · refine kw_aload_n (pc := 33) (i := 17) (k := 0) (n := 0) rfl rfl rfl ?_
        refine kw_get (pc := 34) (i := 18) (v := .int (σ.1 0 27)) rfl rfl rfl lkX8_178 (fun _ => rfl) ?_
        have b19 : 0 ≤ (σ.1 0 27).toInt ∧ (σ.1 0 27).toInt ≤ 40 := hI 0 27
        refine kw_iconst (pc := 37) (i := 19) (v := 2) rfl rfl ?_
        refine kw_iload_n (pc := 38) (i := 20) (k := 1) (n := 1) rfl rfl rfl ?_
        refine kw_imul (pc := 39) (i := 21) rfl (fun z20 e_z20 t_z20 => ?_)
        rw [show (2 : Int32).toInt = 2 from rfl] at t_z20
        first | (have u_z20 : z20.toInt = 2 * n.toInt := (by omega); clear t_z20) | skip
        refine kw_iadd (pc := 40) (i := 22) rfl (fun z21 e_z21 t_z21 => ?_)
        first | (have u_z21 : z21.toInt = (σ.1 0 27).toInt + z20.toInt := (by omega); clear t_z21) | skip
        refine kw_bipush (pc := 41) (i := 23) (v := 40) rfl rfl ?_
        refine kw_icmp_le (pc := 43) (i := 24) (tgt := 49) rfl rfl (fun c22 => ?_) (fun c22 => ?_)
        · refine kw_iload_n (pc := 49) (i := 27) (k := 2) (n := 2) rfl rfl rfl ?_
          refine kw_i2l (pc := 50) (i := 28) rfl (fun z23 e_z23 t_z23 => ?_)
          refine kw_lstore_n (pc := 51) (i := 29) (n := 3) (lv' := [(3, .long z23), (0, .ref 0), (1, .int n), (2, .int seed)]) rfl rfl (by decide) rfl ?_
          refine kw_iconst (pc := 52) (i := 30) (v := 0) rfl rfl ?_
          refine kw_istore (pc := 53) (i := 31) (n := 5) (lv' := [(5, .int 0), (3, .long z23), (0, .ref 0), (1, .int n), (2, .int seed)]) rfl (by decide) rfl ?_
          have L29 : ∀ (n38 : Nat) (x24 : Int32) (x25 : Int64) (S26 : kw_S), kw_I (bM (T + x24.toInt)) S26 → kw_F [0, 14, 15] σ S26 → 0 ≤ x24.toInt → x24.toInt ≤ n.toInt → 0 ≤ x25.toInt → x25.toInt ≤ 2147483646 → (S26.1 0 27).toInt + 2 * (n.toInt - x24.toInt) ≤ 40 → 1 ≤ (S26.1 0 10).toInt → (n.toInt - x24.toInt).toNat < n38 → kw_AW l 5 kw_E0 KM mX8_lots (p_X8_lots_0 T σ n seed) 55 [(5, .int x24), (3, .long x25), (0, .ref 0), (1, .int n), (2, .int seed)] [] S26 := by
            intro n38
            induction n38 with
            | zero => intro x24 x25 S26 I27 F28 v31 v32 v33 v34 v35 v36 m37; exact absurd m37 (Nat.not_lt_zero _)
            | succ n38 ih30 =>
              intro x24 x25 S26 I27 F28 v31 v32 v33 v34 v35 v36 m37
              have r_x24 := kw_rng x24
              refine kw_iload (pc := 55) (i := 32) (k := 0) (n := 5) rfl rfl ?_
              refine kw_iload_n (pc := 57) (i := 33) (k := 3) (n := 1) rfl rfl rfl ?_
              refine kw_icmp_ge (pc := 58) (i := 34) (tgt := 101) rfl rfl (fun c39 => ?_) (fun c39 => ?_)
              · refine kw_aload_n (pc := 101) (i := 57) (k := 2) (n := 0) rfl rfl rfl ?_
                refine kw_aload_n (pc := 102) (i := 58) (k := 2) (n := 0) rfl rfl rfl ?_
                refine kw_get (pc := 103) (i := 59) (v := .int (S26.1 0 23)) rfl rfl rfl lkX8_169 (fun _ => rfl) ?_
                have b40 := kw_rng (S26.1 0 23)
                refine kw_iconst (pc := 106) (i := 60) (v := 1) rfl rfl ?_
                refine kw_callV (pc := 107) (i := 61) (Y := mX8_ask) (a := 0) (As := [.int (S26.1 0 23), .int 1]) (st := []) kw_hE rfl rfl lvX8_119 arX8_ask (c_X8_ask_0 l (T + x24.toInt) (by omega) (by omega) S26 I27 (S26.1 0 23) 1 ) (by decide) (Nat.le_of_ble_eq_true rfl) rfl (fun v S42 p41 => ?_)
                obtain ⟨⟨I45, F46⟩, z44, rfl, f43⟩ := p41
                have F47 : kw_F [0, 14, 15] σ S42 := kw_F.tr F28 F46 (by decide)
                have r_z44 := kw_rng z44
                show kw_AW l 5 kw_E0 KM mX8_lots (p_X8_lots_0 T σ n seed) 110 [(5, .int x24), (3, .long x25), (0, .ref 0), (1, .int n), (2, .int seed)] [.int z44] S42
                exact kw_ireturn (pc := 110) (i := 62) (ty := .int) rfl rfl rfl ⟨⟨(kw_monoM (by omega) I45), F47⟩, _, rfl⟩
              · refine kw_ldc2 (pc := 61) (i := 35) (v := 48271) rfl ckX8_291 ?_
                refine kw_lload_n (pc := 64) (i := 36) (k := 1) (n := 3) rfl rfl rfl ?_
                refine kw_lmul (pc := 65) (i := 37) rfl (fun z48 e_z48 => ?_)
                have t_z48 := kw_lmulI (48271 : Int64) x25 z48 e_z48
                rw [show (48271 : Int64).toInt = 48271 from rfl] at t_z48
                first | (have u_z48 : z48.toInt = 48271 * x25.toInt := (by omega); clear t_z48) | skip
                refine kw_ldc2 (pc := 66) (i := 38) (v := 2147483647) rfl ckX8_293 ?_
                refine kw_lrem (pc := 69) (i := 39) rfl (by decide) (fun z49 e_z49 => ?_)
                have t_z49 := kw_lremI z48 (2147483647 : Int64) z49 e_z49
                rw [show (2147483647 : Int64).toInt = 2147483647 from rfl] at t_z49
                refine kw_lstore_n (pc := 70) (i := 40) (n := 3) (lv' := [(3, .long z49), (5, .int x24), (0, .ref 0), (1, .int n), (2, .int seed)]) rfl rfl (by decide) rfl ?_
                refine kw_aload_n (pc := 71) (i := 41) (k := 2) (n := 0) rfl rfl rfl ?_
                refine kw_lload_n (pc := 72) (i := 42) (k := 0) (n := 3) rfl rfl rfl ?_
                refine kw_aload_n (pc := 73) (i := 43) (k := 2) (n := 0) rfl rfl rfl ?_
                refine kw_get (pc := 74) (i := 44) (v := .int (S26.1 0 10)) rfl rfl rfl lkX8_163 (fun _ => rfl) ?_
                have b50 : 0 ≤ (S26.1 0 10).toInt ∧ (S26.1 0 10).toInt ≤ 6 := I27 0 10
                refine kw_i2l (pc := 77) (i := 45) rfl (fun z51 e_z51 t_z51 => ?_)
                refine kw_lrem (pc := 78) (i := 46) rfl (by omega) (fun z52 e_z52 => ?_)
                have t_z52 := kw_lremI z49 z51 z52 e_z52
                refine kw_l2i (pc := 79) (i := 47) rfl (fun z53 e_z53 => ?_)
                have r_z53 := kw_rng z53
                have t_z53 := kw_l2iI z52 z53 e_z53
                refine kw_callV (pc := 80) (i := 48) (Y := mX8_turnLine) (a := 0) (As := [.int z53]) (st := []) kw_hE rfl rfl lvX8_214 arX8_turnLine (c_X8_turnLine_0 l (T + x24.toInt) (by omega) (by omega) S26 I27 z53 (by first | omega | decide) (by first | omega | decide) (show (S26.1 0 27).toInt ≤ 39 from by omega)) (by decide) (Nat.le_of_ble_eq_true rfl) rfl (fun v S55 p54 => ?_)
                obtain ⟨⟨I59, F60⟩, rfl, f56, f57, f58⟩ := p54
                have F61 : kw_F [0, 14, 15] σ S55 := kw_F.tr F28 F60 (by decide)
                have f56 : (S55.1 0 27).toInt = (S26.1 0 27).toInt + 1 := f56
                have f57 : (S55.1 0 10).toInt = (S26.1 0 10).toInt := f57
                have f58 : (S55.1 0 22).toInt = (S26.1 0 22).toInt := f58
                show kw_AW l 5 kw_E0 KM mX8_lots (p_X8_lots_0 T σ n seed) 83 [(3, .long z49), (5, .int x24), (0, .ref 0), (1, .int n), (2, .int seed)] [] S55
                refine kw_aload_n (pc := 83) (i := 49) (k := 2) (n := 0) rfl rfl rfl ?_
                refine kw_callV (pc := 84) (i := 50) (Y := mX8_note) (a := 0) (As := []) (st := []) kw_hE rfl rfl lvX8_208 arX8_note (c_X8_note_0 l (T + x24.toInt) (by omega) (by omega) S55 I59  (show (S55.1 0 27).toInt ≤ 39 from by omega)) (by decide) (Nat.le_of_ble_eq_true rfl) rfl (fun v S63 p62 => ?_)
                obtain ⟨⟨I68, F69⟩, rfl, f64, f65, f66, f67⟩ := p62
                have F70 : kw_F [0, 14, 15] σ S63 := kw_F.tr F61 F69 (by decide)
                have f64 : (S63.1 0 27).toInt = (S55.1 0 27).toInt + 1 := f64
                have f65 : (S63.1 0 10).toInt = (S55.1 0 10).toInt := f65
                have f66 : (S63.1 0 22).toInt = (S55.1 0 22).toInt := f66
                have f67 : (S63.1 0 25).toInt = (S55.1 0 25).toInt := f67
                show kw_AW l 5 kw_E0 KM mX8_lots (p_X8_lots_0 T σ n seed) 87 [(3, .long z49), (5, .int x24), (0, .ref 0), (1, .int n), (2, .int seed)] [] S63
                refine kw_aload_n (pc := 87) (i := 51) (k := 2) (n := 0) rfl rfl rfl ?_
                refine kw_aload_n (pc := 88) (i := 52) (k := 2) (n := 0) rfl rfl rfl ?_
                refine kw_get (pc := 89) (i := 53) (v := .int (S63.1 0 25)) rfl rfl rfl lkX8_175 (fun _ => rfl) ?_
                have b71 : 0 ≤ (S63.1 0 25).toInt ∧ (S63.1 0 25).toInt ≤ 63 := I68 0 25
                refine kw_callV (pc := 92) (i := 54) (Y := mX8_pass) (a := 0) (As := [.int (S63.1 0 25)]) (st := []) kw_hE rfl rfl lvX8_220 arX8_pass (c_X8_pass_0 l (T + x24.toInt) (by omega) (by omega) S63 I68 (S63.1 0 25) ) (by decide) (Nat.le_of_ble_eq_true rfl) rfl (fun v S73 p72 => ?_)
                obtain ⟨⟨I77, F78⟩, rfl, f74, f75, f76⟩ := p72
                have F79 : kw_F [0, 14, 15] σ S73 := kw_F.tr F70 F78 (by decide)
                have f74 : (S73.1 0 10).toInt = (S63.1 0 10).toInt := f74
                have f75 : (S73.1 0 25).toInt = (S63.1 0 25).toInt := f75
                have f76 : (S73.1 0 27).toInt = (S63.1 0 27).toInt := f76
                show kw_AW l 5 kw_E0 KM mX8_lots (p_X8_lots_0 T σ n seed) 95 [(3, .long z49), (5, .int x24), (0, .ref 0), (1, .int n), (2, .int seed)] [] S73
                refine kw_iinc' (pc := 95) (i := 55) (k := 1) (fun z => [(5, .int z), (3, .long z49), (0, .ref 0), (1, .int n), (2, .int seed)]) rfl rfl (by decide) rfl (fun _ => rfl) (fun z80 e_z80 t_z80 => ?_)
                first | (have u_z80 : z80.toInt = x24.toInt + 1 := (by omega); clear t_z80) | skip
                refine kw_goto (pc := 98) (i := 56) (tgt := 55) rfl rfl ?_
                refine kw_sub (lv' := [(5, .int z80), (3, .long z49), (0, .ref 0), (1, .int n), (2, .int seed)]) [0, 1, 2, 3, 4] rfl ?_
                exact ih30 z80 z49 S73 (kw_monoM (by omega) I77) F79 (by omega) (by omega) (by omega) (by omega) (show (S73.1 0 27).toInt + 2 * (n.toInt - z80.toInt) ≤ 40 from by omega) (show 1 ≤ (S73.1 0 10).toInt from by omega) (by omega)
          exact L29 _ 0 z23 σ (kw_monoM (by omega) hI) hF0 (by omega) (by omega) (by omega) (by omega) (show (σ.1 0 27).toInt + 2 * (n.toInt - (0 : Int32).toInt) ≤ 40 from by omega) (show 1 ≤ (σ.1 0 10).toInt from by omega) (Nat.lt_succ_self _)
        · refine kw_bipush (pc := 46) (i := 25) (v := (-2)) rfl rfl ?_
          exact kw_ireturn (pc := 48) (i := 26) (ty := .int) rfl rfl rfl ⟨⟨(kw_monoM (by omega) hI), hF0⟩, _, rfl⟩
      · refine kw_bipush (pc := 30) (i := 15) (v := (-4)) rfl rfl ?_
        exact kw_ireturn (pc := 32) (i := 16) (ty := .int) rfl rfl rfl ⟨⟨(kw_monoM (by omega) hI), hF0⟩, _, rfl⟩
    · refine kw_iconst (pc := 21) (i := 10) (v := (-1)) rfl rfl ?_
      exact kw_ireturn (pc := 22) (i := 11) (ty := .int) rfl rfl rfl ⟨⟨(kw_monoM (by omega) hI), hF0⟩, _, rfl⟩
abbrev p_X8_asked_0 (T : Int) (σ : kw_S)  : Option Value → kw_S → Prop := fun vv σ' => σ' = σ ∧ ∃ r : Int32, vv = some (.int r)
set_option maxRecDepth 100000 in
set_option maxHeartbeats 4000000 in
theorem c_X8_asked_0 (l : Launch) (T : Int) (hT0 : 0 ≤ T) (hT1 : T ≤ 3000) (σ : kw_S) (hI : kw_I (bM T) σ)  : kw_Met l 1 KM mX8_asked [.ref 0] σ (p_X8_asked_0 T σ) := by
  refine kw_Met.of (by decide) rfl tX8_asked (Nat.le_of_ble_eq_true rfl) ?_
  show kw_AW l 1 kw_E0 KM mX8_asked (p_X8_asked_0 T σ) 0 [(0, .ref 0)] [] σ
  refine kw_aload_n (pc := 0) (i := 0) (k := 0) (n := 0) rfl rfl rfl ?_
  refine kw_get (pc := 1) (i := 1) (v := .int (σ.1 0 2)) rfl rfl rfl lkX8_87 (fun _ => rfl) ?_
  have b1 := kw_rng (σ.1 0 2)
  exact kw_ireturn (pc := 4) (i := 2) (ty := .int) rfl rfl rfl ⟨rfl, _, rfl⟩
abbrev p_X8_upper_0 (T : Int) (σ : kw_S)  : Option Value → kw_S → Prop := fun vv σ' => σ' = σ ∧ ∃ r : Int64, vv = some (.long r)
set_option maxRecDepth 100000 in
set_option maxHeartbeats 4000000 in
theorem c_X8_upper_0 (l : Launch) (T : Int) (hT0 : 0 ≤ T) (hT1 : T ≤ 3000) (σ : kw_S) (hI : kw_I (bM T) σ)  : kw_Met l 1 KM mX8_upper [.ref 0] σ (p_X8_upper_0 T σ) := by
  refine kw_Met.of (by decide) rfl tX8_upper (Nat.le_of_ble_eq_true rfl) ?_
  show kw_AW l 1 kw_E0 KM mX8_upper (p_X8_upper_0 T σ) 0 [(0, .ref 0)] [] σ
  refine kw_aload_n (pc := 0) (i := 0) (k := 0) (n := 0) rfl rfl rfl ?_
  refine kw_get (pc := 1) (i := 1) (v := .long (σ.2 0 3)) rfl rfl rfl lkX8_90 (fun _ => rfl) ?_
  exact kw_lreturn (pc := 4) (i := 2) rfl rfl ⟨rfl, _, rfl⟩
abbrev p_X8_lower_0 (T : Int) (σ : kw_S)  : Option Value → kw_S → Prop := fun vv σ' => σ' = σ ∧ ∃ r : Int64, vv = some (.long r)
set_option maxRecDepth 100000 in
set_option maxHeartbeats 4000000 in
theorem c_X8_lower_0 (l : Launch) (T : Int) (hT0 : 0 ≤ T) (hT1 : T ≤ 3000) (σ : kw_S) (hI : kw_I (bM T) σ)  : kw_Met l 1 KM mX8_lower [.ref 0] σ (p_X8_lower_0 T σ) := by
  refine kw_Met.of (by decide) rfl tX8_lower (Nat.le_of_ble_eq_true rfl) ?_
  show kw_AW l 1 kw_E0 KM mX8_lower (p_X8_lower_0 T σ) 0 [(0, .ref 0)] [] σ
  refine kw_aload_n (pc := 0) (i := 0) (k := 0) (n := 0) rfl rfl rfl ?_
  refine kw_get (pc := 1) (i := 1) (v := .long (σ.2 0 4)) rfl rfl rfl lkX8_13 (fun _ => rfl) ?_
  exact kw_lreturn (pc := 4) (i := 2) rfl rfl ⟨rfl, _, rfl⟩
abbrev p_X8_finding_0 (T : Int) (σ : kw_S)  : Option Value → kw_S → Prop := fun vv σ' => σ' = σ ∧ ∃ r : Int32, vv = some (.int r)
set_option maxRecDepth 100000 in
set_option maxHeartbeats 4000000 in
theorem c_X8_finding_0 (l : Launch) (T : Int) (hT0 : 0 ≤ T) (hT1 : T ≤ 3000) (σ : kw_S) (hI : kw_I (bM T) σ)  : kw_Met l 1 KM mX8_finding [.ref 0] σ (p_X8_finding_0 T σ) := by
  refine kw_Met.of (by decide) rfl tX8_finding (Nat.le_of_ble_eq_true rfl) ?_
  show kw_AW l 1 kw_E0 KM mX8_finding (p_X8_finding_0 T σ) 0 [(0, .ref 0)] [] σ
  refine kw_aload_n (pc := 0) (i := 0) (k := 0) (n := 0) rfl rfl rfl ?_
  refine kw_get (pc := 1) (i := 1) (v := .int (σ.1 0 0)) rfl rfl rfl lkX8_84 (fun _ => rfl) ?_
  have b1 := kw_rng (σ.1 0 0)
  exact kw_ireturn (pc := 4) (i := 2) (ty := .int) rfl rfl rfl ⟨rfl, _, rfl⟩
abbrev p_X8_there_0 (T : Int) (σ : kw_S) (w : Int32) : Option Value → kw_S → Prop := fun vv σ' => σ' = σ ∧ ∃ r : Int32, vv = some (.int r)
set_option maxRecDepth 100000 in
set_option maxHeartbeats 4000000 in
theorem c_X8_there_0 (l : Launch) (T : Int) (hT0 : 0 ≤ T) (hT1 : T ≤ 3000) (σ : kw_S) (hI : kw_I (bM T) σ) (w : Int32) : kw_Met l 1 KM mX8_there [.ref 0, .int w] σ (p_X8_there_0 T σ w) := by
  have r_w := kw_rng w
  have q_0 : (0 : Int32).toInt = 0 := rfl
  have q_1 : (1 : Int32).toInt = 1 := rfl
  have q_3 : (3 : Int32).toInt = 3 := rfl
  have q_4 : (4 : Int32).toInt = 4 := rfl
  have q_6 : (6 : Int32).toInt = 6 := rfl
  have q_7 : (7 : Int32).toInt = 7 := rfl
  have q_8 : (8 : Int32).toInt = 8 := rfl
  have q_9 : (9 : Int32).toInt = 9 := rfl
  refine kw_Met.of (by decide) rfl tX8_there (Nat.le_of_ble_eq_true rfl) ?_
  show kw_AW l 1 kw_E0 KM mX8_there (p_X8_there_0 T σ w) 0 [(0, .ref 0), (1, .int w)] [] σ
  refine kw_iconst (pc := 0) (i := 0) (v := 0) rfl rfl ?_
  refine kw_istore_n (pc := 1) (i := 1) (n := 2) (lv' := [(2, .int 0), (0, .ref 0), (1, .int w)]) rfl rfl (by decide) rfl ?_
  refine kw_iconst (pc := 2) (i := 2) (v := 0) rfl rfl ?_
  refine kw_istore_n (pc := 3) (i := 3) (n := 3) (lv' := [(3, .int 0), (2, .int 0), (0, .ref 0), (1, .int w)]) rfl rfl (by decide) rfl ?_
  have L3 : ∀ (n7 : Nat) (x1 : Int32) (x2 : Int32), 0 ≤ x1.toInt → (7 - x1.toInt).toNat < n7 → kw_AW l 1 kw_E0 KM mX8_there (p_X8_there_0 T σ w) 4 [(3, .int x1), (2, .int x2), (0, .ref 0), (1, .int w)] [] σ := by
    intro n7
    induction n7 with
    | zero => intro x1 x2 v5 m6; exact absurd m6 (Nat.not_lt_zero _)
    | succ n7 ih4 =>
      intro x1 x2 v5 m6
      have r_x1 := kw_rng x1
      have r_x2 := kw_rng x2
      refine kw_iload_n (pc := 4) (i := 4) (k := 0) (n := 3) rfl rfl rfl ?_
      refine kw_bipush (pc := 5) (i := 5) (v := 6) rfl rfl ?_
      refine kw_icmp_ge (pc := 7) (i := 6) (tgt := 80) rfl rfl (fun c8 => ?_) (fun c8 => ?_)
      · refine kw_iload_n (pc := 80) (i := 46) (k := 1) (n := 2) rfl rfl rfl ?_
        exact kw_ireturn (pc := 81) (i := 47) (ty := .int) rfl rfl rfl ⟨rfl, _, rfl⟩
      · refine kw_iload_n (pc := 10) (i := 7) (k := 1) (n := 2) rfl rfl rfl ?_
        refine kw_iload_n (pc := 11) (i := 8) (k := 3) (n := 1) rfl rfl rfl ?_
        refine kw_bipush (pc := 12) (i := 9) (v := 7) rfl rfl ?_
        refine kw_icmp_ne (pc := 14) (i := 10) (tgt := 26) rfl rfl (fun c9 => ?_) (fun c9 => ?_)
        · refine kw_iload_n (pc := 26) (i := 16) (k := 3) (n := 1) rfl rfl rfl ?_
          refine kw_bipush (pc := 27) (i := 17) (v := 8) rfl rfl ?_
          refine kw_icmp_ne (pc := 29) (i := 18) (tgt := 46) rfl rfl (fun c10 => ?_) (fun c10 => ?_)
          · refine kw_iload_n (pc := 46) (i := 27) (k := 3) (n := 1) rfl rfl rfl ?_
            refine kw_bipush (pc := 47) (i := 28) (v := 9) rfl rfl ?_
            refine kw_icmp_ne (pc := 49) (i := 29) (tgt := 71) rfl rfl (fun c11 => ?_) (fun c11 => ?_)
            · refine kw_iconst (pc := 71) (i := 41) (v := 0) rfl rfl ?_
              refine kw_iadd (pc := 72) (i := 42) rfl (fun z12 e_z12 t_z12 => ?_)
              first | (have u_z12 : z12.toInt = x2.toInt + 0 := (by omega); clear t_z12) | skip
              refine kw_istore_n (pc := 73) (i := 43) (n := 2) (lv' := [(2, .int z12), (3, .int x1), (0, .ref 0), (1, .int w)]) rfl rfl (by decide) rfl ?_
              refine kw_iinc' (pc := 74) (i := 44) (k := 1) (fun z => [(3, .int z), (2, .int z12), (0, .ref 0), (1, .int w)]) rfl rfl (by decide) rfl (fun _ => rfl) (fun z13 e_z13 t_z13 => ?_)
              first | (have u_z13 : z13.toInt = x1.toInt + 1 := (by omega); clear t_z13) | skip
              refine kw_goto (pc := 77) (i := 45) (tgt := 4) rfl rfl ?_
              refine kw_sub (lv' := [(3, .int z13), (2, .int z12), (0, .ref 0), (1, .int w)]) [0, 1, 2, 3] rfl ?_
              exact ih4 z13 z12 (by omega) (by omega)
            · refine kw_iload_n (pc := 52) (i := 30) (k := 0) (n := 3) rfl rfl rfl ?_
              refine kw_iconst (pc := 53) (i := 31) (v := 3) rfl rfl ?_
              refine kw_icmp_ge (pc := 54) (i := 32) (tgt := 71) rfl rfl (fun c14 => ?_) (fun c14 => ?_)
              · refine kw_iconst (pc := 71) (i := 41) (v := 0) rfl rfl ?_
                refine kw_iadd (pc := 72) (i := 42) rfl (fun z15 e_z15 t_z15 => ?_)
                first | (have u_z15 : z15.toInt = x2.toInt + 0 := (by omega); clear t_z15) | skip
                refine kw_istore_n (pc := 73) (i := 43) (n := 2) (lv' := [(2, .int z15), (3, .int x1), (0, .ref 0), (1, .int w)]) rfl rfl (by decide) rfl ?_
                refine kw_iinc' (pc := 74) (i := 44) (k := 1) (fun z => [(3, .int z), (2, .int z15), (0, .ref 0), (1, .int w)]) rfl rfl (by decide) rfl (fun _ => rfl) (fun z16 e_z16 t_z16 => ?_)
                first | (have u_z16 : z16.toInt = x1.toInt + 1 := (by omega); clear t_z16) | skip
                refine kw_goto (pc := 77) (i := 45) (tgt := 4) rfl rfl ?_
                refine kw_sub (lv' := [(3, .int z16), (2, .int z15), (0, .ref 0), (1, .int w)]) [0, 1, 2, 3] rfl ?_
                exact ih4 z16 z15 (by omega) (by omega)
              · refine kw_aload_n (pc := 57) (i := 33) (k := 2) (n := 0) rfl rfl rfl ?_
                refine kw_get (pc := 58) (i := 34) (v := .ref 16) rfl rfl rfl lkX8_63 (fun _ => rfl) ?_
                refine kw_iload_n (pc := 61) (i := 35) (k := 0) (n := 3) rfl rfl rfl ?_
                refine kw_iald (pc := 62) (i := 36) (n := 3) rfl rfl (by omega) (by omega) (fun z17 e_z17 => ?_)
                have t_z17 := congrArg Int32.toInt e_z17
                have r_z17 := kw_rng z17
                refine kw_iconst (pc := 63) (i := 37) (v := 1) rfl rfl ?_
                refine kw_icmp_ne (pc := 64) (i := 38) (tgt := 71) rfl rfl (fun c18 => ?_) (fun c18 => ?_)
                · refine kw_iconst (pc := 71) (i := 41) (v := 0) rfl rfl ?_
                  refine kw_iadd (pc := 72) (i := 42) rfl (fun z19 e_z19 t_z19 => ?_)
                  first | (have u_z19 : z19.toInt = x2.toInt + 0 := (by omega); clear t_z19) | skip
                  refine kw_istore_n (pc := 73) (i := 43) (n := 2) (lv' := [(2, .int z19), (3, .int x1), (0, .ref 0), (1, .int w)]) rfl rfl (by decide) rfl ?_
                  refine kw_iinc' (pc := 74) (i := 44) (k := 1) (fun z => [(3, .int z), (2, .int z19), (0, .ref 0), (1, .int w)]) rfl rfl (by decide) rfl (fun _ => rfl) (fun z20 e_z20 t_z20 => ?_)
                  first | (have u_z20 : z20.toInt = x1.toInt + 1 := (by omega); clear t_z20) | skip
                  refine kw_goto (pc := 77) (i := 45) (tgt := 4) rfl rfl ?_
                  refine kw_sub (lv' := [(3, .int z20), (2, .int z19), (0, .ref 0), (1, .int w)]) [0, 1, 2, 3] rfl ?_
                  exact ih4 z20 z19 (by omega) (by omega)
                · refine kw_iconst (pc := 67) (i := 39) (v := 1) rfl rfl ?_
                  refine kw_goto (pc := 68) (i := 40) (tgt := 72) rfl rfl ?_
                  refine kw_iadd (pc := 72) (i := 42) rfl (fun z21 e_z21 t_z21 => ?_)
                  first | (have u_z21 : z21.toInt = x2.toInt + 1 := (by omega); clear t_z21) | skip
                  refine kw_istore_n (pc := 73) (i := 43) (n := 2) (lv' := [(2, .int z21), (3, .int x1), (0, .ref 0), (1, .int w)]) rfl rfl (by decide) rfl ?_
                  refine kw_iinc' (pc := 74) (i := 44) (k := 1) (fun z => [(3, .int z), (2, .int z21), (0, .ref 0), (1, .int w)]) rfl rfl (by decide) rfl (fun _ => rfl) (fun z22 e_z22 t_z22 => ?_)
                  first | (have u_z22 : z22.toInt = x1.toInt + 1 := (by omega); clear t_z22) | skip
                  refine kw_goto (pc := 77) (i := 45) (tgt := 4) rfl rfl ?_
                  refine kw_sub (lv' := [(3, .int z22), (2, .int z21), (0, .ref 0), (1, .int w)]) [0, 1, 2, 3] rfl ?_
                  exact ih4 z22 z21 (by omega) (by omega)
          · refine kw_iload_n (pc := 32) (i := 19) (k := 0) (n := 3) rfl rfl rfl ?_
            refine kw_iconst (pc := 33) (i := 20) (v := 4) rfl rfl ?_
            refine kw_icmp_ge (pc := 34) (i := 21) (tgt := 46) rfl rfl (fun c23 => ?_) (fun c23 => ?_)
            · refine kw_iload_n (pc := 46) (i := 27) (k := 3) (n := 1) rfl rfl rfl ?_
              refine kw_bipush (pc := 47) (i := 28) (v := 9) rfl rfl ?_
              refine kw_icmp_ne (pc := 49) (i := 29) (tgt := 71) rfl rfl (fun c24 => ?_) (fun c24 => ?_)
              · refine kw_iconst (pc := 71) (i := 41) (v := 0) rfl rfl ?_
                refine kw_iadd (pc := 72) (i := 42) rfl (fun z25 e_z25 t_z25 => ?_)
                first | (have u_z25 : z25.toInt = x2.toInt + 0 := (by omega); clear t_z25) | skip
                refine kw_istore_n (pc := 73) (i := 43) (n := 2) (lv' := [(2, .int z25), (3, .int x1), (0, .ref 0), (1, .int w)]) rfl rfl (by decide) rfl ?_
                refine kw_iinc' (pc := 74) (i := 44) (k := 1) (fun z => [(3, .int z), (2, .int z25), (0, .ref 0), (1, .int w)]) rfl rfl (by decide) rfl (fun _ => rfl) (fun z26 e_z26 t_z26 => ?_)
                first | (have u_z26 : z26.toInt = x1.toInt + 1 := (by omega); clear t_z26) | skip
                refine kw_goto (pc := 77) (i := 45) (tgt := 4) rfl rfl ?_
                refine kw_sub (lv' := [(3, .int z26), (2, .int z25), (0, .ref 0), (1, .int w)]) [0, 1, 2, 3] rfl ?_
                exact ih4 z26 z25 (by omega) (by omega)
              · refine kw_iload_n (pc := 52) (i := 30) (k := 0) (n := 3) rfl rfl rfl ?_
                refine kw_iconst (pc := 53) (i := 31) (v := 3) rfl rfl ?_
                refine kw_icmp_ge (pc := 54) (i := 32) (tgt := 71) rfl rfl (fun c27 => ?_) (fun c27 => ?_)
                · refine kw_iconst (pc := 71) (i := 41) (v := 0) rfl rfl ?_
                  refine kw_iadd (pc := 72) (i := 42) rfl (fun z28 e_z28 t_z28 => ?_)
                  first | (have u_z28 : z28.toInt = x2.toInt + 0 := (by omega); clear t_z28) | skip
                  refine kw_istore_n (pc := 73) (i := 43) (n := 2) (lv' := [(2, .int z28), (3, .int x1), (0, .ref 0), (1, .int w)]) rfl rfl (by decide) rfl ?_
                  refine kw_iinc' (pc := 74) (i := 44) (k := 1) (fun z => [(3, .int z), (2, .int z28), (0, .ref 0), (1, .int w)]) rfl rfl (by decide) rfl (fun _ => rfl) (fun z29 e_z29 t_z29 => ?_)
                  first | (have u_z29 : z29.toInt = x1.toInt + 1 := (by omega); clear t_z29) | skip
                  refine kw_goto (pc := 77) (i := 45) (tgt := 4) rfl rfl ?_
                  refine kw_sub (lv' := [(3, .int z29), (2, .int z28), (0, .ref 0), (1, .int w)]) [0, 1, 2, 3] rfl ?_
                  exact ih4 z29 z28 (by omega) (by omega)
                · refine kw_aload_n (pc := 57) (i := 33) (k := 2) (n := 0) rfl rfl rfl ?_
                  refine kw_get (pc := 58) (i := 34) (v := .ref 16) rfl rfl rfl lkX8_63 (fun _ => rfl) ?_
                  refine kw_iload_n (pc := 61) (i := 35) (k := 0) (n := 3) rfl rfl rfl ?_
                  refine kw_iald (pc := 62) (i := 36) (n := 3) rfl rfl (by omega) (by omega) (fun z30 e_z30 => ?_)
                  have t_z30 := congrArg Int32.toInt e_z30
                  have r_z30 := kw_rng z30
                  refine kw_iconst (pc := 63) (i := 37) (v := 1) rfl rfl ?_
                  refine kw_icmp_ne (pc := 64) (i := 38) (tgt := 71) rfl rfl (fun c31 => ?_) (fun c31 => ?_)
                  · refine kw_iconst (pc := 71) (i := 41) (v := 0) rfl rfl ?_
                    refine kw_iadd (pc := 72) (i := 42) rfl (fun z32 e_z32 t_z32 => ?_)
                    first | (have u_z32 : z32.toInt = x2.toInt + 0 := (by omega); clear t_z32) | skip
                    refine kw_istore_n (pc := 73) (i := 43) (n := 2) (lv' := [(2, .int z32), (3, .int x1), (0, .ref 0), (1, .int w)]) rfl rfl (by decide) rfl ?_
                    refine kw_iinc' (pc := 74) (i := 44) (k := 1) (fun z => [(3, .int z), (2, .int z32), (0, .ref 0), (1, .int w)]) rfl rfl (by decide) rfl (fun _ => rfl) (fun z33 e_z33 t_z33 => ?_)
                    first | (have u_z33 : z33.toInt = x1.toInt + 1 := (by omega); clear t_z33) | skip
                    refine kw_goto (pc := 77) (i := 45) (tgt := 4) rfl rfl ?_
                    refine kw_sub (lv' := [(3, .int z33), (2, .int z32), (0, .ref 0), (1, .int w)]) [0, 1, 2, 3] rfl ?_
                    exact ih4 z33 z32 (by omega) (by omega)
                  · refine kw_iconst (pc := 67) (i := 39) (v := 1) rfl rfl ?_
                    refine kw_goto (pc := 68) (i := 40) (tgt := 72) rfl rfl ?_
                    refine kw_iadd (pc := 72) (i := 42) rfl (fun z34 e_z34 t_z34 => ?_)
                    first | (have u_z34 : z34.toInt = x2.toInt + 1 := (by omega); clear t_z34) | skip
                    refine kw_istore_n (pc := 73) (i := 43) (n := 2) (lv' := [(2, .int z34), (3, .int x1), (0, .ref 0), (1, .int w)]) rfl rfl (by decide) rfl ?_
                    refine kw_iinc' (pc := 74) (i := 44) (k := 1) (fun z => [(3, .int z), (2, .int z34), (0, .ref 0), (1, .int w)]) rfl rfl (by decide) rfl (fun _ => rfl) (fun z35 e_z35 t_z35 => ?_)
                    first | (have u_z35 : z35.toInt = x1.toInt + 1 := (by omega); clear t_z35) | skip
                    refine kw_goto (pc := 77) (i := 45) (tgt := 4) rfl rfl ?_
                    refine kw_sub (lv' := [(3, .int z35), (2, .int z34), (0, .ref 0), (1, .int w)]) [0, 1, 2, 3] rfl ?_
                    exact ih4 z35 z34 (by omega) (by omega)
            · refine kw_aload_n (pc := 37) (i := 22) (k := 2) (n := 0) rfl rfl rfl ?_
              refine kw_get (pc := 38) (i := 23) (v := .ref 5) rfl rfl rfl lkX8_26 (fun _ => rfl) ?_
              refine kw_iload_n (pc := 41) (i := 24) (k := 0) (n := 3) rfl rfl rfl ?_
              refine kw_iald (pc := 42) (i := 25) (n := 4) rfl rfl (by omega) (by omega) (fun z36 e_z36 => ?_)
              have t_z36 := congrArg Int32.toInt e_z36
              have b_z36 : -9 ≤ z36.toInt ∧ z36.toInt ≤ 60 := by rw [e_z36]; exact hI 5 _
              refine kw_if_ge (pc := 43) (i := 26) (tgt := 67) rfl rfl (fun c37 => ?_) (fun c37 => ?_)
              · refine kw_iconst (pc := 67) (i := 39) (v := 1) rfl rfl ?_
                refine kw_goto (pc := 68) (i := 40) (tgt := 72) rfl rfl ?_
                refine kw_iadd (pc := 72) (i := 42) rfl (fun z38 e_z38 t_z38 => ?_)
                first | (have u_z38 : z38.toInt = x2.toInt + 1 := (by omega); clear t_z38) | skip
                refine kw_istore_n (pc := 73) (i := 43) (n := 2) (lv' := [(2, .int z38), (3, .int x1), (0, .ref 0), (1, .int w)]) rfl rfl (by decide) rfl ?_
                refine kw_iinc' (pc := 74) (i := 44) (k := 1) (fun z => [(3, .int z), (2, .int z38), (0, .ref 0), (1, .int w)]) rfl rfl (by decide) rfl (fun _ => rfl) (fun z39 e_z39 t_z39 => ?_)
                first | (have u_z39 : z39.toInt = x1.toInt + 1 := (by omega); clear t_z39) | skip
                refine kw_goto (pc := 77) (i := 45) (tgt := 4) rfl rfl ?_
                refine kw_sub (lv' := [(3, .int z39), (2, .int z38), (0, .ref 0), (1, .int w)]) [0, 1, 2, 3] rfl ?_
                exact ih4 z39 z38 (by omega) (by omega)
              · refine kw_iload_n (pc := 46) (i := 27) (k := 3) (n := 1) rfl rfl rfl ?_
                refine kw_bipush (pc := 47) (i := 28) (v := 9) rfl rfl ?_
                refine kw_icmp_ne (pc := 49) (i := 29) (tgt := 71) rfl rfl (fun c40 => ?_) (fun c40 => ?_)
                · refine kw_iconst (pc := 71) (i := 41) (v := 0) rfl rfl ?_
                  refine kw_iadd (pc := 72) (i := 42) rfl (fun z41 e_z41 t_z41 => ?_)
                  first | (have u_z41 : z41.toInt = x2.toInt + 0 := (by omega); clear t_z41) | skip
                  refine kw_istore_n (pc := 73) (i := 43) (n := 2) (lv' := [(2, .int z41), (3, .int x1), (0, .ref 0), (1, .int w)]) rfl rfl (by decide) rfl ?_
                  refine kw_iinc' (pc := 74) (i := 44) (k := 1) (fun z => [(3, .int z), (2, .int z41), (0, .ref 0), (1, .int w)]) rfl rfl (by decide) rfl (fun _ => rfl) (fun z42 e_z42 t_z42 => ?_)
                  first | (have u_z42 : z42.toInt = x1.toInt + 1 := (by omega); clear t_z42) | skip
                  refine kw_goto (pc := 77) (i := 45) (tgt := 4) rfl rfl ?_
                  refine kw_sub (lv' := [(3, .int z42), (2, .int z41), (0, .ref 0), (1, .int w)]) [0, 1, 2, 3] rfl ?_
                  exact ih4 z42 z41 (by omega) (by omega)
                · refine kw_iload_n (pc := 52) (i := 30) (k := 0) (n := 3) rfl rfl rfl ?_
                  refine kw_iconst (pc := 53) (i := 31) (v := 3) rfl rfl ?_
                  refine kw_icmp_ge (pc := 54) (i := 32) (tgt := 71) rfl rfl (fun c43 => ?_) (fun c43 => ?_)
                  · refine kw_iconst (pc := 71) (i := 41) (v := 0) rfl rfl ?_
                    refine kw_iadd (pc := 72) (i := 42) rfl (fun z44 e_z44 t_z44 => ?_)
                    first | (have u_z44 : z44.toInt = x2.toInt + 0 := (by omega); clear t_z44) | skip
                    refine kw_istore_n (pc := 73) (i := 43) (n := 2) (lv' := [(2, .int z44), (3, .int x1), (0, .ref 0), (1, .int w)]) rfl rfl (by decide) rfl ?_
                    refine kw_iinc' (pc := 74) (i := 44) (k := 1) (fun z => [(3, .int z), (2, .int z44), (0, .ref 0), (1, .int w)]) rfl rfl (by decide) rfl (fun _ => rfl) (fun z45 e_z45 t_z45 => ?_)
                    first | (have u_z45 : z45.toInt = x1.toInt + 1 := (by omega); clear t_z45) | skip
                    refine kw_goto (pc := 77) (i := 45) (tgt := 4) rfl rfl ?_
                    refine kw_sub (lv' := [(3, .int z45), (2, .int z44), (0, .ref 0), (1, .int w)]) [0, 1, 2, 3] rfl ?_
                    exact ih4 z45 z44 (by omega) (by omega)
                  · refine kw_aload_n (pc := 57) (i := 33) (k := 2) (n := 0) rfl rfl rfl ?_
                    refine kw_get (pc := 58) (i := 34) (v := .ref 16) rfl rfl rfl lkX8_63 (fun _ => rfl) ?_
                    refine kw_iload_n (pc := 61) (i := 35) (k := 0) (n := 3) rfl rfl rfl ?_
                    refine kw_iald (pc := 62) (i := 36) (n := 3) rfl rfl (by omega) (by omega) (fun z46 e_z46 => ?_)
                    have t_z46 := congrArg Int32.toInt e_z46
                    have r_z46 := kw_rng z46
                    refine kw_iconst (pc := 63) (i := 37) (v := 1) rfl rfl ?_
                    refine kw_icmp_ne (pc := 64) (i := 38) (tgt := 71) rfl rfl (fun c47 => ?_) (fun c47 => ?_)
                    · refine kw_iconst (pc := 71) (i := 41) (v := 0) rfl rfl ?_
                      refine kw_iadd (pc := 72) (i := 42) rfl (fun z48 e_z48 t_z48 => ?_)
                      first | (have u_z48 : z48.toInt = x2.toInt + 0 := (by omega); clear t_z48) | skip
                      refine kw_istore_n (pc := 73) (i := 43) (n := 2) (lv' := [(2, .int z48), (3, .int x1), (0, .ref 0), (1, .int w)]) rfl rfl (by decide) rfl ?_
                      refine kw_iinc' (pc := 74) (i := 44) (k := 1) (fun z => [(3, .int z), (2, .int z48), (0, .ref 0), (1, .int w)]) rfl rfl (by decide) rfl (fun _ => rfl) (fun z49 e_z49 t_z49 => ?_)
                      first | (have u_z49 : z49.toInt = x1.toInt + 1 := (by omega); clear t_z49) | skip
                      refine kw_goto (pc := 77) (i := 45) (tgt := 4) rfl rfl ?_
                      refine kw_sub (lv' := [(3, .int z49), (2, .int z48), (0, .ref 0), (1, .int w)]) [0, 1, 2, 3] rfl ?_
                      exact ih4 z49 z48 (by omega) (by omega)
                    · refine kw_iconst (pc := 67) (i := 39) (v := 1) rfl rfl ?_
                      refine kw_goto (pc := 68) (i := 40) (tgt := 72) rfl rfl ?_
                      refine kw_iadd (pc := 72) (i := 42) rfl (fun z50 e_z50 t_z50 => ?_)
                      first | (have u_z50 : z50.toInt = x2.toInt + 1 := (by omega); clear t_z50) | skip
                      refine kw_istore_n (pc := 73) (i := 43) (n := 2) (lv' := [(2, .int z50), (3, .int x1), (0, .ref 0), (1, .int w)]) rfl rfl (by decide) rfl ?_
                      refine kw_iinc' (pc := 74) (i := 44) (k := 1) (fun z => [(3, .int z), (2, .int z50), (0, .ref 0), (1, .int w)]) rfl rfl (by decide) rfl (fun _ => rfl) (fun z51 e_z51 t_z51 => ?_)
                      first | (have u_z51 : z51.toInt = x1.toInt + 1 := (by omega); clear t_z51) | skip
                      refine kw_goto (pc := 77) (i := 45) (tgt := 4) rfl rfl ?_
                      refine kw_sub (lv' := [(3, .int z51), (2, .int z50), (0, .ref 0), (1, .int w)]) [0, 1, 2, 3] rfl ?_
                      exact ih4 z51 z50 (by omega) (by omega)
        · refine kw_aload_n (pc := 17) (i := 11) (k := 2) (n := 0) rfl rfl rfl ?_
          refine kw_get (pc := 18) (i := 12) (v := .ref 2) rfl rfl rfl lkX8_17 (fun _ => rfl) ?_
          refine kw_iload_n (pc := 21) (i := 13) (k := 0) (n := 3) rfl rfl rfl ?_
          refine kw_iald (pc := 22) (i := 14) (n := 6) rfl rfl (by omega) (by omega) (fun z52 e_z52 => ?_)
          have t_z52 := congrArg Int32.toInt e_z52
          have b_z52 : -9 ≤ z52.toInt ∧ z52.toInt ≤ 40 := by rw [e_z52]; exact hI 2 _
          refine kw_if_ge (pc := 23) (i := 15) (tgt := 67) rfl rfl (fun c53 => ?_) (fun c53 => ?_)
          · refine kw_iconst (pc := 67) (i := 39) (v := 1) rfl rfl ?_
            refine kw_goto (pc := 68) (i := 40) (tgt := 72) rfl rfl ?_
            refine kw_iadd (pc := 72) (i := 42) rfl (fun z54 e_z54 t_z54 => ?_)
            first | (have u_z54 : z54.toInt = x2.toInt + 1 := (by omega); clear t_z54) | skip
            refine kw_istore_n (pc := 73) (i := 43) (n := 2) (lv' := [(2, .int z54), (3, .int x1), (0, .ref 0), (1, .int w)]) rfl rfl (by decide) rfl ?_
            refine kw_iinc' (pc := 74) (i := 44) (k := 1) (fun z => [(3, .int z), (2, .int z54), (0, .ref 0), (1, .int w)]) rfl rfl (by decide) rfl (fun _ => rfl) (fun z55 e_z55 t_z55 => ?_)
            first | (have u_z55 : z55.toInt = x1.toInt + 1 := (by omega); clear t_z55) | skip
            refine kw_goto (pc := 77) (i := 45) (tgt := 4) rfl rfl ?_
            refine kw_sub (lv' := [(3, .int z55), (2, .int z54), (0, .ref 0), (1, .int w)]) [0, 1, 2, 3] rfl ?_
            exact ih4 z55 z54 (by omega) (by omega)
          · refine kw_iload_n (pc := 26) (i := 16) (k := 3) (n := 1) rfl rfl rfl ?_
            refine kw_bipush (pc := 27) (i := 17) (v := 8) rfl rfl ?_
            refine kw_icmp_ne (pc := 29) (i := 18) (tgt := 46) rfl rfl (fun c56 => ?_) (fun c56 => ?_)
            · refine kw_iload_n (pc := 46) (i := 27) (k := 3) (n := 1) rfl rfl rfl ?_
              refine kw_bipush (pc := 47) (i := 28) (v := 9) rfl rfl ?_
              refine kw_icmp_ne (pc := 49) (i := 29) (tgt := 71) rfl rfl (fun c57 => ?_) (fun c57 => ?_)
              · refine kw_iconst (pc := 71) (i := 41) (v := 0) rfl rfl ?_
                refine kw_iadd (pc := 72) (i := 42) rfl (fun z58 e_z58 t_z58 => ?_)
                first | (have u_z58 : z58.toInt = x2.toInt + 0 := (by omega); clear t_z58) | skip
                refine kw_istore_n (pc := 73) (i := 43) (n := 2) (lv' := [(2, .int z58), (3, .int x1), (0, .ref 0), (1, .int w)]) rfl rfl (by decide) rfl ?_
                refine kw_iinc' (pc := 74) (i := 44) (k := 1) (fun z => [(3, .int z), (2, .int z58), (0, .ref 0), (1, .int w)]) rfl rfl (by decide) rfl (fun _ => rfl) (fun z59 e_z59 t_z59 => ?_)
                first | (have u_z59 : z59.toInt = x1.toInt + 1 := (by omega); clear t_z59) | skip
                refine kw_goto (pc := 77) (i := 45) (tgt := 4) rfl rfl ?_
                refine kw_sub (lv' := [(3, .int z59), (2, .int z58), (0, .ref 0), (1, .int w)]) [0, 1, 2, 3] rfl ?_
                exact ih4 z59 z58 (by omega) (by omega)
              · refine kw_iload_n (pc := 52) (i := 30) (k := 0) (n := 3) rfl rfl rfl ?_
                refine kw_iconst (pc := 53) (i := 31) (v := 3) rfl rfl ?_
                refine kw_icmp_ge (pc := 54) (i := 32) (tgt := 71) rfl rfl (fun c60 => ?_) (fun c60 => ?_)
                · refine kw_iconst (pc := 71) (i := 41) (v := 0) rfl rfl ?_
                  refine kw_iadd (pc := 72) (i := 42) rfl (fun z61 e_z61 t_z61 => ?_)
                  first | (have u_z61 : z61.toInt = x2.toInt + 0 := (by omega); clear t_z61) | skip
                  refine kw_istore_n (pc := 73) (i := 43) (n := 2) (lv' := [(2, .int z61), (3, .int x1), (0, .ref 0), (1, .int w)]) rfl rfl (by decide) rfl ?_
                  refine kw_iinc' (pc := 74) (i := 44) (k := 1) (fun z => [(3, .int z), (2, .int z61), (0, .ref 0), (1, .int w)]) rfl rfl (by decide) rfl (fun _ => rfl) (fun z62 e_z62 t_z62 => ?_)
                  first | (have u_z62 : z62.toInt = x1.toInt + 1 := (by omega); clear t_z62) | skip
                  refine kw_goto (pc := 77) (i := 45) (tgt := 4) rfl rfl ?_
                  refine kw_sub (lv' := [(3, .int z62), (2, .int z61), (0, .ref 0), (1, .int w)]) [0, 1, 2, 3] rfl ?_
                  exact ih4 z62 z61 (by omega) (by omega)
                · refine kw_aload_n (pc := 57) (i := 33) (k := 2) (n := 0) rfl rfl rfl ?_
                  refine kw_get (pc := 58) (i := 34) (v := .ref 16) rfl rfl rfl lkX8_63 (fun _ => rfl) ?_
                  refine kw_iload_n (pc := 61) (i := 35) (k := 0) (n := 3) rfl rfl rfl ?_
                  refine kw_iald (pc := 62) (i := 36) (n := 3) rfl rfl (by omega) (by omega) (fun z63 e_z63 => ?_)
                  have t_z63 := congrArg Int32.toInt e_z63
                  have r_z63 := kw_rng z63
                  refine kw_iconst (pc := 63) (i := 37) (v := 1) rfl rfl ?_
                  refine kw_icmp_ne (pc := 64) (i := 38) (tgt := 71) rfl rfl (fun c64 => ?_) (fun c64 => ?_)
                  · refine kw_iconst (pc := 71) (i := 41) (v := 0) rfl rfl ?_
                    refine kw_iadd (pc := 72) (i := 42) rfl (fun z65 e_z65 t_z65 => ?_)
                    first | (have u_z65 : z65.toInt = x2.toInt + 0 := (by omega); clear t_z65) | skip
                    refine kw_istore_n (pc := 73) (i := 43) (n := 2) (lv' := [(2, .int z65), (3, .int x1), (0, .ref 0), (1, .int w)]) rfl rfl (by decide) rfl ?_
                    refine kw_iinc' (pc := 74) (i := 44) (k := 1) (fun z => [(3, .int z), (2, .int z65), (0, .ref 0), (1, .int w)]) rfl rfl (by decide) rfl (fun _ => rfl) (fun z66 e_z66 t_z66 => ?_)
                    first | (have u_z66 : z66.toInt = x1.toInt + 1 := (by omega); clear t_z66) | skip
                    refine kw_goto (pc := 77) (i := 45) (tgt := 4) rfl rfl ?_
                    refine kw_sub (lv' := [(3, .int z66), (2, .int z65), (0, .ref 0), (1, .int w)]) [0, 1, 2, 3] rfl ?_
                    exact ih4 z66 z65 (by omega) (by omega)
                  · refine kw_iconst (pc := 67) (i := 39) (v := 1) rfl rfl ?_
                    refine kw_goto (pc := 68) (i := 40) (tgt := 72) rfl rfl ?_
                    refine kw_iadd (pc := 72) (i := 42) rfl (fun z67 e_z67 t_z67 => ?_)
                    first | (have u_z67 : z67.toInt = x2.toInt + 1 := (by omega); clear t_z67) | skip
                    refine kw_istore_n (pc := 73) (i := 43) (n := 2) (lv' := [(2, .int z67), (3, .int x1), (0, .ref 0), (1, .int w)]) rfl rfl (by decide) rfl ?_
                    refine kw_iinc' (pc := 74) (i := 44) (k := 1) (fun z => [(3, .int z), (2, .int z67), (0, .ref 0), (1, .int w)]) rfl rfl (by decide) rfl (fun _ => rfl) (fun z68 e_z68 t_z68 => ?_)
                    first | (have u_z68 : z68.toInt = x1.toInt + 1 := (by omega); clear t_z68) | skip
                    refine kw_goto (pc := 77) (i := 45) (tgt := 4) rfl rfl ?_
                    refine kw_sub (lv' := [(3, .int z68), (2, .int z67), (0, .ref 0), (1, .int w)]) [0, 1, 2, 3] rfl ?_
                    exact ih4 z68 z67 (by omega) (by omega)
            · refine kw_iload_n (pc := 32) (i := 19) (k := 0) (n := 3) rfl rfl rfl ?_
              refine kw_iconst (pc := 33) (i := 20) (v := 4) rfl rfl ?_
              refine kw_icmp_ge (pc := 34) (i := 21) (tgt := 46) rfl rfl (fun c69 => ?_) (fun c69 => ?_)
              · refine kw_iload_n (pc := 46) (i := 27) (k := 3) (n := 1) rfl rfl rfl ?_
                refine kw_bipush (pc := 47) (i := 28) (v := 9) rfl rfl ?_
                refine kw_icmp_ne (pc := 49) (i := 29) (tgt := 71) rfl rfl (fun c70 => ?_) (fun c70 => ?_)
                · refine kw_iconst (pc := 71) (i := 41) (v := 0) rfl rfl ?_
                  refine kw_iadd (pc := 72) (i := 42) rfl (fun z71 e_z71 t_z71 => ?_)
                  first | (have u_z71 : z71.toInt = x2.toInt + 0 := (by omega); clear t_z71) | skip
                  refine kw_istore_n (pc := 73) (i := 43) (n := 2) (lv' := [(2, .int z71), (3, .int x1), (0, .ref 0), (1, .int w)]) rfl rfl (by decide) rfl ?_
                  refine kw_iinc' (pc := 74) (i := 44) (k := 1) (fun z => [(3, .int z), (2, .int z71), (0, .ref 0), (1, .int w)]) rfl rfl (by decide) rfl (fun _ => rfl) (fun z72 e_z72 t_z72 => ?_)
                  first | (have u_z72 : z72.toInt = x1.toInt + 1 := (by omega); clear t_z72) | skip
                  refine kw_goto (pc := 77) (i := 45) (tgt := 4) rfl rfl ?_
                  refine kw_sub (lv' := [(3, .int z72), (2, .int z71), (0, .ref 0), (1, .int w)]) [0, 1, 2, 3] rfl ?_
                  exact ih4 z72 z71 (by omega) (by omega)
                · refine kw_iload_n (pc := 52) (i := 30) (k := 0) (n := 3) rfl rfl rfl ?_
                  refine kw_iconst (pc := 53) (i := 31) (v := 3) rfl rfl ?_
                  refine kw_icmp_ge (pc := 54) (i := 32) (tgt := 71) rfl rfl (fun c73 => ?_) (fun c73 => ?_)
                  · refine kw_iconst (pc := 71) (i := 41) (v := 0) rfl rfl ?_
                    refine kw_iadd (pc := 72) (i := 42) rfl (fun z74 e_z74 t_z74 => ?_)
                    first | (have u_z74 : z74.toInt = x2.toInt + 0 := (by omega); clear t_z74) | skip
                    refine kw_istore_n (pc := 73) (i := 43) (n := 2) (lv' := [(2, .int z74), (3, .int x1), (0, .ref 0), (1, .int w)]) rfl rfl (by decide) rfl ?_
                    refine kw_iinc' (pc := 74) (i := 44) (k := 1) (fun z => [(3, .int z), (2, .int z74), (0, .ref 0), (1, .int w)]) rfl rfl (by decide) rfl (fun _ => rfl) (fun z75 e_z75 t_z75 => ?_)
                    first | (have u_z75 : z75.toInt = x1.toInt + 1 := (by omega); clear t_z75) | skip
                    refine kw_goto (pc := 77) (i := 45) (tgt := 4) rfl rfl ?_
                    refine kw_sub (lv' := [(3, .int z75), (2, .int z74), (0, .ref 0), (1, .int w)]) [0, 1, 2, 3] rfl ?_
                    exact ih4 z75 z74 (by omega) (by omega)
                  · refine kw_aload_n (pc := 57) (i := 33) (k := 2) (n := 0) rfl rfl rfl ?_
                    refine kw_get (pc := 58) (i := 34) (v := .ref 16) rfl rfl rfl lkX8_63 (fun _ => rfl) ?_
                    refine kw_iload_n (pc := 61) (i := 35) (k := 0) (n := 3) rfl rfl rfl ?_
                    refine kw_iald (pc := 62) (i := 36) (n := 3) rfl rfl (by omega) (by omega) (fun z76 e_z76 => ?_)
                    have t_z76 := congrArg Int32.toInt e_z76
                    have r_z76 := kw_rng z76
                    refine kw_iconst (pc := 63) (i := 37) (v := 1) rfl rfl ?_
                    refine kw_icmp_ne (pc := 64) (i := 38) (tgt := 71) rfl rfl (fun c77 => ?_) (fun c77 => ?_)
                    · refine kw_iconst (pc := 71) (i := 41) (v := 0) rfl rfl ?_
                      refine kw_iadd (pc := 72) (i := 42) rfl (fun z78 e_z78 t_z78 => ?_)
                      first | (have u_z78 : z78.toInt = x2.toInt + 0 := (by omega); clear t_z78) | skip
                      refine kw_istore_n (pc := 73) (i := 43) (n := 2) (lv' := [(2, .int z78), (3, .int x1), (0, .ref 0), (1, .int w)]) rfl rfl (by decide) rfl ?_
                      refine kw_iinc' (pc := 74) (i := 44) (k := 1) (fun z => [(3, .int z), (2, .int z78), (0, .ref 0), (1, .int w)]) rfl rfl (by decide) rfl (fun _ => rfl) (fun z79 e_z79 t_z79 => ?_)
                      first | (have u_z79 : z79.toInt = x1.toInt + 1 := (by omega); clear t_z79) | skip
                      refine kw_goto (pc := 77) (i := 45) (tgt := 4) rfl rfl ?_
                      refine kw_sub (lv' := [(3, .int z79), (2, .int z78), (0, .ref 0), (1, .int w)]) [0, 1, 2, 3] rfl ?_
                      exact ih4 z79 z78 (by omega) (by omega)
                    · refine kw_iconst (pc := 67) (i := 39) (v := 1) rfl rfl ?_
                      refine kw_goto (pc := 68) (i := 40) (tgt := 72) rfl rfl ?_
                      refine kw_iadd (pc := 72) (i := 42) rfl (fun z80 e_z80 t_z80 => ?_)
                      first | (have u_z80 : z80.toInt = x2.toInt + 1 := (by omega); clear t_z80) | skip
                      refine kw_istore_n (pc := 73) (i := 43) (n := 2) (lv' := [(2, .int z80), (3, .int x1), (0, .ref 0), (1, .int w)]) rfl rfl (by decide) rfl ?_
                      refine kw_iinc' (pc := 74) (i := 44) (k := 1) (fun z => [(3, .int z), (2, .int z80), (0, .ref 0), (1, .int w)]) rfl rfl (by decide) rfl (fun _ => rfl) (fun z81 e_z81 t_z81 => ?_)
                      first | (have u_z81 : z81.toInt = x1.toInt + 1 := (by omega); clear t_z81) | skip
                      refine kw_goto (pc := 77) (i := 45) (tgt := 4) rfl rfl ?_
                      refine kw_sub (lv' := [(3, .int z81), (2, .int z80), (0, .ref 0), (1, .int w)]) [0, 1, 2, 3] rfl ?_
                      exact ih4 z81 z80 (by omega) (by omega)
              · refine kw_aload_n (pc := 37) (i := 22) (k := 2) (n := 0) rfl rfl rfl ?_
                refine kw_get (pc := 38) (i := 23) (v := .ref 5) rfl rfl rfl lkX8_26 (fun _ => rfl) ?_
                refine kw_iload_n (pc := 41) (i := 24) (k := 0) (n := 3) rfl rfl rfl ?_
                refine kw_iald (pc := 42) (i := 25) (n := 4) rfl rfl (by omega) (by omega) (fun z82 e_z82 => ?_)
                have t_z82 := congrArg Int32.toInt e_z82
                have b_z82 : -9 ≤ z82.toInt ∧ z82.toInt ≤ 60 := by rw [e_z82]; exact hI 5 _
                refine kw_if_ge (pc := 43) (i := 26) (tgt := 67) rfl rfl (fun c83 => ?_) (fun c83 => ?_)
                · refine kw_iconst (pc := 67) (i := 39) (v := 1) rfl rfl ?_
                  refine kw_goto (pc := 68) (i := 40) (tgt := 72) rfl rfl ?_
                  refine kw_iadd (pc := 72) (i := 42) rfl (fun z84 e_z84 t_z84 => ?_)
                  first | (have u_z84 : z84.toInt = x2.toInt + 1 := (by omega); clear t_z84) | skip
                  refine kw_istore_n (pc := 73) (i := 43) (n := 2) (lv' := [(2, .int z84), (3, .int x1), (0, .ref 0), (1, .int w)]) rfl rfl (by decide) rfl ?_
                  refine kw_iinc' (pc := 74) (i := 44) (k := 1) (fun z => [(3, .int z), (2, .int z84), (0, .ref 0), (1, .int w)]) rfl rfl (by decide) rfl (fun _ => rfl) (fun z85 e_z85 t_z85 => ?_)
                  first | (have u_z85 : z85.toInt = x1.toInt + 1 := (by omega); clear t_z85) | skip
                  refine kw_goto (pc := 77) (i := 45) (tgt := 4) rfl rfl ?_
                  refine kw_sub (lv' := [(3, .int z85), (2, .int z84), (0, .ref 0), (1, .int w)]) [0, 1, 2, 3] rfl ?_
                  exact ih4 z85 z84 (by omega) (by omega)
                · refine kw_iload_n (pc := 46) (i := 27) (k := 3) (n := 1) rfl rfl rfl ?_
                  refine kw_bipush (pc := 47) (i := 28) (v := 9) rfl rfl ?_
                  refine kw_icmp_ne (pc := 49) (i := 29) (tgt := 71) rfl rfl (fun c86 => ?_) (fun c86 => ?_)
                  · refine kw_iconst (pc := 71) (i := 41) (v := 0) rfl rfl ?_
                    refine kw_iadd (pc := 72) (i := 42) rfl (fun z87 e_z87 t_z87 => ?_)
                    first | (have u_z87 : z87.toInt = x2.toInt + 0 := (by omega); clear t_z87) | skip
                    refine kw_istore_n (pc := 73) (i := 43) (n := 2) (lv' := [(2, .int z87), (3, .int x1), (0, .ref 0), (1, .int w)]) rfl rfl (by decide) rfl ?_
                    refine kw_iinc' (pc := 74) (i := 44) (k := 1) (fun z => [(3, .int z), (2, .int z87), (0, .ref 0), (1, .int w)]) rfl rfl (by decide) rfl (fun _ => rfl) (fun z88 e_z88 t_z88 => ?_)
                    first | (have u_z88 : z88.toInt = x1.toInt + 1 := (by omega); clear t_z88) | skip
                    refine kw_goto (pc := 77) (i := 45) (tgt := 4) rfl rfl ?_
                    refine kw_sub (lv' := [(3, .int z88), (2, .int z87), (0, .ref 0), (1, .int w)]) [0, 1, 2, 3] rfl ?_
                    exact ih4 z88 z87 (by omega) (by omega)
                  · refine kw_iload_n (pc := 52) (i := 30) (k := 0) (n := 3) rfl rfl rfl ?_
                    refine kw_iconst (pc := 53) (i := 31) (v := 3) rfl rfl ?_
                    refine kw_icmp_ge (pc := 54) (i := 32) (tgt := 71) rfl rfl (fun c89 => ?_) (fun c89 => ?_)
                    · refine kw_iconst (pc := 71) (i := 41) (v := 0) rfl rfl ?_
                      refine kw_iadd (pc := 72) (i := 42) rfl (fun z90 e_z90 t_z90 => ?_)
                      first | (have u_z90 : z90.toInt = x2.toInt + 0 := (by omega); clear t_z90) | skip
                      refine kw_istore_n (pc := 73) (i := 43) (n := 2) (lv' := [(2, .int z90), (3, .int x1), (0, .ref 0), (1, .int w)]) rfl rfl (by decide) rfl ?_
                      refine kw_iinc' (pc := 74) (i := 44) (k := 1) (fun z => [(3, .int z), (2, .int z90), (0, .ref 0), (1, .int w)]) rfl rfl (by decide) rfl (fun _ => rfl) (fun z91 e_z91 t_z91 => ?_)
                      first | (have u_z91 : z91.toInt = x1.toInt + 1 := (by omega); clear t_z91) | skip
                      refine kw_goto (pc := 77) (i := 45) (tgt := 4) rfl rfl ?_
                      refine kw_sub (lv' := [(3, .int z91), (2, .int z90), (0, .ref 0), (1, .int w)]) [0, 1, 2, 3] rfl ?_
                      exact ih4 z91 z90 (by omega) (by omega)
                    · refine kw_aload_n (pc := 57) (i := 33) (k := 2) (n := 0) rfl rfl rfl ?_
                      refine kw_get (pc := 58) (i := 34) (v := .ref 16) rfl rfl rfl lkX8_63 (fun _ => rfl) ?_
                      refine kw_iload_n (pc := 61) (i := 35) (k := 0) (n := 3) rfl rfl rfl ?_
                      refine kw_iald (pc := 62) (i := 36) (n := 3) rfl rfl (by omega) (by omega) (fun z92 e_z92 => ?_)
                      have t_z92 := congrArg Int32.toInt e_z92
                      have r_z92 := kw_rng z92
                      refine kw_iconst (pc := 63) (i := 37) (v := 1) rfl rfl ?_
                      refine kw_icmp_ne (pc := 64) (i := 38) (tgt := 71) rfl rfl (fun c93 => ?_) (fun c93 => ?_)
                      · refine kw_iconst (pc := 71) (i := 41) (v := 0) rfl rfl ?_
                        refine kw_iadd (pc := 72) (i := 42) rfl (fun z94 e_z94 t_z94 => ?_)
                        first | (have u_z94 : z94.toInt = x2.toInt + 0 := (by omega); clear t_z94) | skip
                        refine kw_istore_n (pc := 73) (i := 43) (n := 2) (lv' := [(2, .int z94), (3, .int x1), (0, .ref 0), (1, .int w)]) rfl rfl (by decide) rfl ?_
                        refine kw_iinc' (pc := 74) (i := 44) (k := 1) (fun z => [(3, .int z), (2, .int z94), (0, .ref 0), (1, .int w)]) rfl rfl (by decide) rfl (fun _ => rfl) (fun z95 e_z95 t_z95 => ?_)
                        first | (have u_z95 : z95.toInt = x1.toInt + 1 := (by omega); clear t_z95) | skip
                        refine kw_goto (pc := 77) (i := 45) (tgt := 4) rfl rfl ?_
                        refine kw_sub (lv' := [(3, .int z95), (2, .int z94), (0, .ref 0), (1, .int w)]) [0, 1, 2, 3] rfl ?_
                        exact ih4 z95 z94 (by omega) (by omega)
                      · refine kw_iconst (pc := 67) (i := 39) (v := 1) rfl rfl ?_
                        refine kw_goto (pc := 68) (i := 40) (tgt := 72) rfl rfl ?_
                        refine kw_iadd (pc := 72) (i := 42) rfl (fun z96 e_z96 t_z96 => ?_)
                        first | (have u_z96 : z96.toInt = x2.toInt + 1 := (by omega); clear t_z96) | skip
                        refine kw_istore_n (pc := 73) (i := 43) (n := 2) (lv' := [(2, .int z96), (3, .int x1), (0, .ref 0), (1, .int w)]) rfl rfl (by decide) rfl ?_
                        refine kw_iinc' (pc := 74) (i := 44) (k := 1) (fun z => [(3, .int z), (2, .int z96), (0, .ref 0), (1, .int w)]) rfl rfl (by decide) rfl (fun _ => rfl) (fun z97 e_z97 t_z97 => ?_)
                        first | (have u_z97 : z97.toInt = x1.toInt + 1 := (by omega); clear t_z97) | skip
                        refine kw_goto (pc := 77) (i := 45) (tgt := 4) rfl rfl ?_
                        refine kw_sub (lv' := [(3, .int z97), (2, .int z96), (0, .ref 0), (1, .int w)]) [0, 1, 2, 3] rfl ?_
                        exact ih4 z97 z96 (by omega) (by omega)
  exact L3 _ 0 0 (by omega) (Nat.lt_succ_self _)
abbrev p_X8_tells_0 (T : Int) (σ : kw_S) (w : Int32) : Option Value → kw_S → Prop := fun vv σ' => σ' = σ ∧ ∃ r : Int32, vv = some (.int r)
set_option maxRecDepth 100000 in
set_option maxHeartbeats 4000000 in
theorem c_X8_tells_0 (l : Launch) (T : Int) (hT0 : 0 ≤ T) (hT1 : T ≤ 3000) (σ : kw_S) (hI : kw_I (bM T) σ) (w : Int32) : kw_Met l 3 KM mX8_tells [.ref 0, .int w] σ (p_X8_tells_0 T σ w) := by
  have r_w := kw_rng w
  have q_1 : (1 : Int32).toInt = 1 := rfl
  have q_4 : (4 : Int32).toInt = 4 := rfl
  refine kw_Met.of (by decide) rfl tX8_tells (Nat.le_of_ble_eq_true rfl) ?_
  show kw_AW l 3 kw_E0 KM mX8_tells (p_X8_tells_0 T σ w) 0 [(0, .ref 0), (1, .int w)] [] σ
  refine kw_iload_n (pc := 0) (i := 0) (k := 1) (n := 1) rfl rfl rfl ?_
  by_cases c1 : w.toInt = 0
  · refine kw_tableIn (pc := 1) (i := 1) (k := 0) (tgt := 44) rfl (by omega) (by decide) rfl rfl ?_
    refine kw_aload_n (pc := 44) (i := 2) (k := 0) (n := 0) rfl rfl rfl ?_
    refine kw_get (pc := 45) (i := 3) (v := .int (σ.1 0 10)) rfl rfl rfl lkX8_163 (fun _ => rfl) ?_
    have b2 : 0 ≤ (σ.1 0 10).toInt ∧ (σ.1 0 10).toInt ≤ 6 := hI 0 10
    exact kw_ireturn (pc := 48) (i := 4) (ty := .int) rfl rfl rfl ⟨rfl, _, rfl⟩
  by_cases c3 : w.toInt = 1
  · refine kw_tableIn (pc := 1) (i := 1) (k := 1) (tgt := 49) rfl (by omega) (by decide) rfl rfl ?_
    refine kw_aload_n (pc := 49) (i := 5) (k := 0) (n := 0) rfl rfl rfl ?_
    refine kw_get (pc := 50) (i := 6) (v := .int (σ.1 0 22)) rfl rfl rfl lkX8_166 (fun _ => rfl) ?_
    have b4 : 0 ≤ (σ.1 0 22).toInt ∧ (σ.1 0 22).toInt ≤ T := hI 0 22
    exact kw_ireturn (pc := 53) (i := 7) (ty := .int) rfl rfl rfl ⟨rfl, _, rfl⟩
  by_cases c5 : w.toInt = 2
  · refine kw_tableIn (pc := 1) (i := 1) (k := 2) (tgt := 54) rfl (by omega) (by decide) rfl rfl ?_
    refine kw_aload_n (pc := 54) (i := 8) (k := 0) (n := 0) rfl rfl rfl ?_
    refine kw_get (pc := 55) (i := 9) (v := .int (σ.1 0 27)) rfl rfl rfl lkX8_178 (fun _ => rfl) ?_
    have b6 : 0 ≤ (σ.1 0 27).toInt ∧ (σ.1 0 27).toInt ≤ 40 := hI 0 27
    exact kw_ireturn (pc := 58) (i := 10) (ty := .int) rfl rfl rfl ⟨rfl, _, rfl⟩
  by_cases c7 : w.toInt = 3
  · refine kw_tableIn (pc := 1) (i := 1) (k := 3) (tgt := 59) rfl (by omega) (by decide) rfl rfl ?_
    refine kw_aload_n (pc := 59) (i := 11) (k := 0) (n := 0) rfl rfl rfl ?_
    refine kw_get (pc := 60) (i := 12) (v := .int (σ.1 0 25)) rfl rfl rfl lkX8_175 (fun _ => rfl) ?_
    have b8 : 0 ≤ (σ.1 0 25).toInt ∧ (σ.1 0 25).toInt ≤ 63 := hI 0 25
    refine kw_callS (pc := 63) (i := 13) (Y := mX8_bits) (As := [.int (σ.1 0 25)]) (st := []) kw_hE rfl lsX8_217 arX8_bits (c_X8_bits l T (by omega) (by omega) σ hI (σ.1 0 25) ) (by decide) (Nat.le_of_ble_eq_true rfl) rfl (fun v S10 p9 => ?_)
    obtain ⟨e12, z11, rfl⟩ := p9
    rw [e12]
    have r_z11 := kw_rng z11
    show kw_AW l 3 kw_E0 KM mX8_tells (p_X8_tells_0 T σ w) 66 [(0, .ref 0), (1, .int w)] [.int z11] σ
    exact kw_ireturn (pc := 66) (i := 14) (ty := .int) rfl rfl rfl ⟨rfl, _, rfl⟩
  by_cases c13 : w.toInt = 4
  · refine kw_tableIn (pc := 1) (i := 1) (k := 4) (tgt := 67) rfl (by omega) (by decide) rfl rfl ?_
    refine kw_aload_n (pc := 67) (i := 15) (k := 0) (n := 0) rfl rfl rfl ?_
    refine kw_callV (pc := 68) (i := 16) (Y := mX8_wetOfAll) (a := 0) (As := []) (st := []) kw_hE rfl rfl lvX8_249 arX8_wetOfAll (c_X8_wetOfAll_0 l T (by omega) (by omega) σ hI  ) (by decide) (Nat.le_of_ble_eq_true rfl) rfl (fun v S15 p14 => ?_)
    obtain ⟨e17, z16, rfl⟩ := p14
    rw [e17]
    have r_z16 := kw_rng z16
    show kw_AW l 3 kw_E0 KM mX8_tells (p_X8_tells_0 T σ w) 71 [(0, .ref 0), (1, .int w)] [.int z16] σ
    exact kw_ireturn (pc := 71) (i := 17) (ty := .int) rfl rfl rfl ⟨rfl, _, rfl⟩
  by_cases c18 : w.toInt = 5
  · refine kw_tableIn (pc := 1) (i := 1) (k := 5) (tgt := 72) rfl (by omega) (by decide) rfl rfl ?_
    refine kw_aload_n (pc := 72) (i := 18) (k := 0) (n := 0) rfl rfl rfl ?_
    refine kw_iconst (pc := 73) (i := 19) (v := 1) rfl rfl ?_
    refine kw_callV (pc := 74) (i := 20) (Y := mX8_howMany) (a := 0) (As := [.int 1]) (st := []) kw_hE rfl rfl lvX8_295 arX8_howMany (c_X8_howMany_0 l T (by omega) (by omega) σ hI 1 ) (by decide) (Nat.le_of_ble_eq_true rfl) rfl (fun v S20 p19 => ?_)
    obtain ⟨e22, z21, rfl⟩ := p19
    rw [e22]
    have r_z21 := kw_rng z21
    show kw_AW l 3 kw_E0 KM mX8_tells (p_X8_tells_0 T σ w) 77 [(0, .ref 0), (1, .int w)] [.int z21] σ
    exact kw_ireturn (pc := 77) (i := 21) (ty := .int) rfl rfl rfl ⟨rfl, _, rfl⟩
  by_cases c23 : w.toInt = 6
  · refine kw_tableIn (pc := 1) (i := 1) (k := 6) (tgt := 78) rfl (by omega) (by decide) rfl rfl ?_
    refine kw_aload_n (pc := 78) (i := 22) (k := 0) (n := 0) rfl rfl rfl ?_
    refine kw_iconst (pc := 79) (i := 23) (v := 4) rfl rfl ?_
    refine kw_callV (pc := 80) (i := 24) (Y := mX8_howMany) (a := 0) (As := [.int 4]) (st := []) kw_hE rfl rfl lvX8_295 arX8_howMany (c_X8_howMany_0 l T (by omega) (by omega) σ hI 4 ) (by decide) (Nat.le_of_ble_eq_true rfl) rfl (fun v S25 p24 => ?_)
    obtain ⟨e27, z26, rfl⟩ := p24
    rw [e27]
    have r_z26 := kw_rng z26
    show kw_AW l 3 kw_E0 KM mX8_tells (p_X8_tells_0 T σ w) 83 [(0, .ref 0), (1, .int w)] [.int z26] σ
    exact kw_ireturn (pc := 83) (i := 25) (ty := .int) rfl rfl rfl ⟨rfl, _, rfl⟩
  refine kw_tableOut (pc := 1) (i := 1) (tgt := 84) rfl (by omega) rfl ?_
  refine kw_aload_n (pc := 84) (i := 26) (k := 0) (n := 0) rfl rfl rfl ?_
  refine kw_iload_n (pc := 85) (i := 27) (k := 1) (n := 1) rfl rfl rfl ?_
  refine kw_callV (pc := 86) (i := 28) (Y := mX8_there) (a := 0) (As := [.int w]) (st := []) kw_hE rfl rfl lvX8_298 arX8_there (c_X8_there_0 l T (by omega) (by omega) σ hI w ) (by decide) (Nat.le_of_ble_eq_true rfl) rfl (fun v S29 p28 => ?_)
  obtain ⟨e31, z30, rfl⟩ := p28
  rw [e31]
  have r_z30 := kw_rng z30
  show kw_AW l 3 kw_E0 KM mX8_tells (p_X8_tells_0 T σ w) 89 [(0, .ref 0), (1, .int w)] [.int z30] σ
  exact kw_ireturn (pc := 89) (i := 29) (ty := .int) rfl rfl rfl ⟨rfl, _, rfl⟩
abbrev p_X8_count_0 (T : Int) (σ : kw_S) (w : Int32) : Option Value → kw_S → Prop := fun vv σ' => σ' = σ ∧ ∃ r : Int32, vv = some (.int r)
set_option maxRecDepth 100000 in
set_option maxHeartbeats 4000000 in
theorem c_X8_count_0 (l : Launch) (T : Int) (hT0 : 0 ≤ T) (hT1 : T ≤ 3000) (σ : kw_S) (hI : kw_I (bM T) σ) (w : Int32) : kw_Met l 4 KM mX8_count [.ref 0, .int w] σ (p_X8_count_0 T σ w) := by
  have r_w := kw_rng w
  have q_m1 : (-1 : Int32).toInt = -1 := rfl
  have q_0 : (0 : Int32).toInt = 0 := rfl
  have q_9 : (9 : Int32).toInt = 9 := rfl
  refine kw_Met.of (by decide) rfl tX8_count (Nat.le_of_ble_eq_true rfl) ?_
  show kw_AW l 4 kw_E0 KM mX8_count (p_X8_count_0 T σ w) 0 [(0, .ref 0), (1, .int w)] [] σ
  refine kw_iload_n (pc := 0) (i := 0) (k := 1) (n := 1) rfl rfl rfl ?_
  refine kw_iconst (pc := 1) (i := 1) (v := 0) rfl rfl ?_
  refine kw_bipush (pc := 2) (i := 2) (v := 9) rfl rfl ?_
  refine kw_callS (pc := 4) (i := 3) (Y := mX8_in) (As := [.int w, .int 0, .int 9]) (st := []) kw_hE rfl lsX8_93 arX8_in (c_X8_in l T (by omega) (by omega) σ hI w 0 9 ) (by decide) (Nat.le_of_ble_eq_true rfl) rfl (fun v S2 p1 => ?_)
  obtain ⟨e7, z6, rfl, f3, f4, f5⟩ := p1
  rw [e7]
  have r_z6 := kw_rng z6
  show kw_AW l 4 kw_E0 KM mX8_count (p_X8_count_0 T σ w) 7 [(0, .ref 0), (1, .int w)] [.int z6] σ
  refine kw_if_eq (pc := 7) (i := 4) (tgt := 18) rfl rfl (fun c8 => ?_) (fun c8 => ?_)
  · refine kw_iconst (pc := 18) (i := 9) (v := (-1)) rfl rfl ?_
    exact kw_ireturn (pc := 19) (i := 10) (ty := .int) rfl rfl rfl ⟨rfl, _, rfl⟩
  · refine kw_aload_n (pc := 10) (i := 5) (k := 0) (n := 0) rfl rfl rfl ?_
    refine kw_iload_n (pc := 11) (i := 6) (k := 1) (n := 1) rfl rfl rfl ?_
    refine kw_callV (pc := 12) (i := 7) (Y := mX8_tells) (a := 0) (As := [.int w]) (st := []) kw_hE rfl rfl lvX8_301 arX8_tells (c_X8_tells_0 l T (by omega) (by omega) σ hI w ) (by decide) (Nat.le_of_ble_eq_true rfl) rfl (fun v S10 p9 => ?_)
    obtain ⟨e12, z11, rfl⟩ := p9
    rw [e12]
    have r_z11 := kw_rng z11
    show kw_AW l 4 kw_E0 KM mX8_count (p_X8_count_0 T σ w) 15 [(0, .ref 0), (1, .int w)] [.int z11] σ
    refine kw_goto (pc := 15) (i := 8) (tgt := 19) rfl rfl ?_
    exact kw_ireturn (pc := 19) (i := 10) (ty := .int) rfl rfl rfl ⟨rfl, _, rfl⟩
abbrev p_X8_miles_0 (T : Int) (σ : kw_S)  : Option Value → kw_S → Prop := fun vv σ' => (kw_I (bM T) σ' ∧ kw_F [0] σ σ') ∧ ∃ r : Int32, vv = some (.int r)
set_option maxRecDepth 100000 in
set_option maxHeartbeats 4000000 in
theorem c_X8_miles_0 (l : Launch) (T : Int) (hT0 : 0 ≤ T) (hT1 : T ≤ 3000) (σ : kw_S) (hI : kw_I (bM T) σ)  : kw_Met l 2 KM mX8_miles [.ref 0] σ (p_X8_miles_0 T σ) := by
  have hF0 : kw_F [0] σ σ := kw_F.rf
  refine kw_Met.of (by decide) rfl tX8_miles (Nat.le_of_ble_eq_true rfl) ?_
  show kw_AW l 2 kw_E0 KM mX8_miles (p_X8_miles_0 T σ) 0 [(0, .ref 0)] [] σ
  refine kw_aload_n (pc := 0) (i := 0) (k := 0) (n := 0) rfl rfl rfl ?_
  refine kw_aload_n (pc := 1) (i := 1) (k := 0) (n := 0) rfl rfl rfl ?_
  refine kw_get (pc := 2) (i := 2) (v := .int (σ.1 0 24)) rfl rfl rfl lkX8_172 (fun _ => rfl) ?_
  have b1 := kw_rng (σ.1 0 24)
  refine kw_i2l (pc := 5) (i := 3) rfl (fun z2 e_z2 t_z2 => ?_)
  refine kw_lconst (pc := 6) (i := 4) (v := 1) rfl rfl ?_
  refine kw_callV (pc := 7) (i := 5) (Y := mX8_part) (a := 0) (As := [.long z2, .long 1]) (st := []) kw_hE rfl rfl lvX8_223 arX8_part (c_X8_part_0 l T (by omega) (by omega) σ hI z2 1 (by first | omega | decide)) (by decide) (Nat.le_of_ble_eq_true rfl) rfl (fun v S4 p3 => ?_)
  obtain ⟨⟨I7, F8⟩, z6, rfl, f5⟩ := p3
  have F9 : kw_F [0] σ S4 := kw_F.tr hF0 F8 (by decide)
  have r_z6 := kw_rng z6
  show kw_AW l 2 kw_E0 KM mX8_miles (p_X8_miles_0 T σ) 10 [(0, .ref 0)] [.int z6] S4
  refine kw_pop (pc := 10) (i := 6) rfl rfl ?_
  refine kw_aload_n (pc := 11) (i := 7) (k := 0) (n := 0) rfl rfl rfl ?_
  refine kw_get (pc := 12) (i := 8) (v := .int (S4.1 0 23)) rfl rfl rfl lkX8_169 (fun _ => rfl) ?_
  have b10 := kw_rng (S4.1 0 23)
  exact kw_ireturn (pc := 15) (i := 9) (ty := .int) rfl rfl rfl ⟨⟨I7, F9⟩, _, rfl⟩
abbrev p_X8_findings_0 (T : Int) (σ : kw_S) (f : Int32) : Option Value → kw_S → Prop := fun vv σ' => σ' = σ ∧ ∃ r : Int32, vv = some (.int r)
set_option maxRecDepth 100000 in
set_option maxHeartbeats 4000000 in
theorem c_X8_findings_0 (l : Launch) (T : Int) (hT0 : 0 ≤ T) (hT1 : T ≤ 3000) (σ : kw_S) (hI : kw_I (bM T) σ) (f : Int32) : kw_Met l 2 KM mX8_findings [.ref 0, .int f] σ (p_X8_findings_0 T σ f) := by
  have r_f := kw_rng f
  have q_m1 : (-1 : Int32).toInt = -1 := rfl
  have q_1 : (1 : Int32).toInt = 1 := rfl
  have q_5 : (5 : Int32).toInt = 5 := rfl
  refine kw_Met.of (by decide) rfl tX8_findings (Nat.le_of_ble_eq_true rfl) ?_
  show kw_AW l 2 kw_E0 KM mX8_findings (p_X8_findings_0 T σ f) 0 [(0, .ref 0), (1, .int f)] [] σ
  refine kw_iload_n (pc := 0) (i := 0) (k := 1) (n := 1) rfl rfl rfl ?_
  refine kw_iconst (pc := 1) (i := 1) (v := 1) rfl rfl ?_
  refine kw_iconst (pc := 2) (i := 2) (v := 5) rfl rfl ?_
  refine kw_callS (pc := 3) (i := 3) (Y := mX8_in) (As := [.int f, .int 1, .int 5]) (st := []) kw_hE rfl lsX8_93 arX8_in (c_X8_in l T (by omega) (by omega) σ hI f 1 5 ) (by decide) (Nat.le_of_ble_eq_true rfl) rfl (fun v S2 p1 => ?_)
  obtain ⟨e7, z6, rfl, f3, f4, f5⟩ := p1
  rw [e7]
  have r_z6 := kw_rng z6
  show kw_AW l 2 kw_E0 KM mX8_findings (p_X8_findings_0 T σ f) 6 [(0, .ref 0), (1, .int f)] [.int z6] σ
  refine kw_if_eq (pc := 6) (i := 4) (tgt := 18) rfl rfl (fun c8 => ?_) (fun c8 => ?_)
  · refine kw_iconst (pc := 18) (i := 10) (v := (-1)) rfl rfl ?_
    exact kw_ireturn (pc := 19) (i := 11) (ty := .int) rfl rfl rfl ⟨rfl, _, rfl⟩
  · refine kw_aload_n (pc := 9) (i := 5) (k := 0) (n := 0) rfl rfl rfl ?_
    refine kw_get (pc := 10) (i := 6) (v := .ref 1) rfl rfl rfl lkX8_7 (fun _ => rfl) ?_
    refine kw_iload_n (pc := 13) (i := 7) (k := 1) (n := 1) rfl rfl rfl ?_
    refine kw_iald (pc := 14) (i := 8) (n := 6) rfl rfl (by omega) (by omega) (fun z9 e_z9 => ?_)
    have t_z9 := congrArg Int32.toInt e_z9
    have r_z9 := kw_rng z9
    refine kw_goto (pc := 15) (i := 9) (tgt := 19) rfl rfl ?_
    exact kw_ireturn (pc := 19) (i := 11) (ty := .int) rfl rfl rfl ⟨rfl, _, rfl⟩
abbrev p_X8_mix_0 (T : Int) (σ : kw_S) (v : Int32) : Option Value → kw_S → Prop := fun vv σ' => (kw_I (bM T) σ' ∧ kw_F [0] σ σ') ∧ vv = none
set_option maxRecDepth 100000 in
set_option maxHeartbeats 4000000 in
theorem c_X8_mix_0 (l : Launch) (T : Int) (hT0 : 0 ≤ T) (hT1 : T ≤ 3000) (σ : kw_S) (hI : kw_I (bM T) σ) (v : Int32) : kw_Met l 1 KM mX8_mix [.ref 0, .int v] σ (p_X8_mix_0 T σ v) := by
  have r_v := kw_rng v
  have hF0 : kw_F [0] σ σ := kw_F.rf
  refine kw_Met.of (by decide) rfl tX8_mix (Nat.le_of_ble_eq_true rfl) ?_
  show kw_AW l 1 kw_E0 KM mX8_mix (p_X8_mix_0 T σ v) 0 [(0, .ref 0), (1, .int v)] [] σ
  refine kw_aload_n (pc := 0) (i := 0) (k := 0) (n := 0) rfl rfl rfl ?_
  refine kw_ldc2 (pc := 1) (i := 1) (v := 31) rfl ckX8_304 ?_
  refine kw_aload_n (pc := 4) (i := 2) (k := 0) (n := 0) rfl rfl rfl ?_
  refine kw_get (pc := 5) (i := 3) (v := .long (σ.2 0 36)) rfl rfl rfl lkX8_306 (fun _ => rfl) ?_
  refine kw_lmul (pc := 8) (i := 4) rfl (fun z1 e_z1 => ?_)
  have t_z1 := kw_lmulI (31 : Int64) (σ.2 0 36) z1 e_z1
  rw [show (31 : Int64).toInt = 31 from rfl] at t_z1
  first | (have u_z1 : z1.toInt = 31 * (σ.2 0 36).toInt := (by omega); clear t_z1) | skip
  refine kw_iload_n (pc := 9) (i := 5) (k := 1) (n := 1) rfl rfl rfl ?_
  refine kw_i2l (pc := 10) (i := 6) rfl (fun z2 e_z2 t_z2 => ?_)
  refine kw_ladd (pc := 11) (i := 7) rfl (fun z3 e_z3 => ?_)
  have t_z3 := kw_laddI z1 z2 z3 e_z3
  first | (have u_z3 : z3.toInt = z1.toInt + z2.toInt := (by omega); clear t_z3) | skip
  refine kw_putl (pc := 12) (i := 8) (z := 0) rfl rfl rfl lpX8_306 ?_
  have I4 : kw_I (bM T) (kw_ul σ 0 36 z3) := kw_I_ul hI _ _ _
  have F5 : kw_F [0] σ (kw_ul σ 0 36 z3) := kw_F_ul hF0 _ _ _
  exact kw_return (pc := 15) (i := 9) rfl rfl ⟨⟨I4, F5⟩, rfl⟩
abbrev p_X8_mixTown_0 (T : Int) (σ : kw_S)  : Option Value → kw_S → Prop := fun vv σ' => (kw_I (bM T) σ' ∧ kw_F [0] σ σ') ∧ vv = none
set_option maxRecDepth 100000 in
set_option maxHeartbeats 4000000 in
theorem c_X8_mixTown_0 (l : Launch) (T : Int) (hT0 : 0 ≤ T) (hT1 : T ≤ 3000) (σ : kw_S) (hI : kw_I (bM T) σ)  : kw_Met l 4 KM mX8_mixTown [.ref 0] σ (p_X8_mixTown_0 T σ) := by
  have hF0 : kw_F [0] σ σ := kw_F.rf
  have q_m1 : (-1 : Int32).toInt = -1 := rfl
  have q_0 : (0 : Int32).toInt = 0 := rfl
  have q_1 : (1 : Int32).toInt = 1 := rfl
  have q_3 : (3 : Int32).toInt = 3 := rfl
  have q_6 : (6 : Int32).toInt = 6 := rfl
  have q_410 : (410 : Int32).toInt = 410 := rfl
  have q_411 : (411 : Int32).toInt = 411 := rfl
  refine kw_Met.of (by decide) rfl tX8_mixTown (Nat.le_of_ble_eq_true rfl) ?_
  show kw_AW l 4 kw_E0 KM mX8_mixTown (p_X8_mixTown_0 T σ) 0 [(0, .ref 0)] [] σ
  refine kw_aload_n (pc := 0) (i := 0) (k := 0) (n := 0) rfl rfl rfl ?_
  refine kw_aload_n (pc := 1) (i := 1) (k := 0) (n := 0) rfl rfl rfl ?_
  refine kw_get (pc := 2) (i := 2) (v := .int (σ.1 0 23)) rfl rfl rfl lkX8_169 (fun _ => rfl) ?_
  have b1 := kw_rng (σ.1 0 23)
  refine kw_callV (pc := 5) (i := 3) (Y := mX8_mix) (a := 0) (As := [.int (σ.1 0 23)]) (st := []) kw_hE rfl rfl lvX8_309 arX8_mix (c_X8_mix_0 l T (by omega) (by omega) σ hI (σ.1 0 23) ) (by decide) (Nat.le_of_ble_eq_true rfl) rfl (fun v S3 p2 => ?_)
  obtain ⟨⟨I4, F5⟩, rfl⟩ := p2
  have F6 : kw_F [0] σ S3 := kw_F.tr hF0 F5 (by decide)
  show kw_AW l 4 kw_E0 KM mX8_mixTown (p_X8_mixTown_0 T σ) 8 [(0, .ref 0)] [] S3
  refine kw_aload_n (pc := 8) (i := 4) (k := 0) (n := 0) rfl rfl rfl ?_
  refine kw_aload_n (pc := 9) (i := 5) (k := 0) (n := 0) rfl rfl rfl ?_
  refine kw_get (pc := 10) (i := 6) (v := .int (S3.1 0 24)) rfl rfl rfl lkX8_172 (fun _ => rfl) ?_
  have b7 := kw_rng (S3.1 0 24)
  refine kw_callV (pc := 13) (i := 7) (Y := mX8_mix) (a := 0) (As := [.int (S3.1 0 24)]) (st := []) kw_hE rfl rfl lvX8_309 arX8_mix (c_X8_mix_0 l T (by omega) (by omega) S3 I4 (S3.1 0 24) ) (by decide) (Nat.le_of_ble_eq_true rfl) rfl (fun v S9 p8 => ?_)
  obtain ⟨⟨I10, F11⟩, rfl⟩ := p8
  have F12 : kw_F [0] σ S9 := kw_F.tr F6 F11 (by decide)
  show kw_AW l 4 kw_E0 KM mX8_mixTown (p_X8_mixTown_0 T σ) 16 [(0, .ref 0)] [] S9
  refine kw_iconst (pc := 16) (i := 8) (v := 0) rfl rfl ?_
  refine kw_istore_n (pc := 17) (i := 9) (n := 1) (lv' := [(1, .int 0), (0, .ref 0)]) rfl rfl (by decide) rfl ?_
  have L17 : ∀ (n21 : Nat) (x13 : Int32) (S14 : kw_S), kw_I (bM T) S14 → kw_F [0] σ S14 → 0 ≤ x13.toInt → (7 - x13.toInt).toNat < n21 → kw_AW l 4 kw_E0 KM mX8_mixTown (p_X8_mixTown_0 T σ) 18 [(1, .int x13), (0, .ref 0)] [] S14 := by
    intro n21
    induction n21 with
    | zero => intro x13 S14 I15 F16 v19 m20; exact absurd m20 (Nat.not_lt_zero _)
    | succ n21 ih18 =>
      intro x13 S14 I15 F16 v19 m20
      have r_x13 := kw_rng x13
      refine kw_iload_n (pc := 18) (i := 10) (k := 0) (n := 1) rfl rfl rfl ?_
      refine kw_aload_n (pc := 19) (i := 11) (k := 1) (n := 0) rfl rfl rfl ?_
      refine kw_get (pc := 20) (i := 12) (v := .int (S14.1 0 10)) rfl rfl rfl lkX8_163 (fun _ => rfl) ?_
      have b22 : 0 ≤ (S14.1 0 10).toInt ∧ (S14.1 0 10).toInt ≤ 6 := I15 0 10
      refine kw_icmp_ge (pc := 23) (i := 13) (tgt := 56) rfl rfl (fun c23 => ?_) (fun c23 => ?_)
      · refine kw_iconst (pc := 56) (i := 29) (v := 0) rfl rfl ?_
        refine kw_istore_n (pc := 57) (i := 30) (n := 1) (lv' := [(1, .int 0), (0, .ref 0)]) rfl rfl (by decide) rfl ?_
        have L28 : ∀ (n32 : Nat) (x24 : Int32) (S25 : kw_S), kw_I (bM T) S25 → kw_F [0] σ S25 → 0 ≤ x24.toInt → (4 - x24.toInt).toNat < n32 → kw_AW l 4 kw_E0 KM mX8_mixTown (p_X8_mixTown_0 T σ) 58 [(1, .int x24), (0, .ref 0)] [] S25 := by
          intro n32
          induction n32 with
          | zero => intro x24 S25 I26 F27 v30 m31; exact absurd m31 (Nat.not_lt_zero _)
          | succ n32 ih29 =>
            intro x24 S25 I26 F27 v30 m31
            have r_x24 := kw_rng x24
            refine kw_iload_n (pc := 58) (i := 31) (k := 0) (n := 1) rfl rfl rfl ?_
            refine kw_iconst (pc := 59) (i := 32) (v := 3) rfl rfl ?_
            refine kw_icmp_ge (pc := 60) (i := 33) (tgt := 101) rfl rfl (fun c33 => ?_) (fun c33 => ?_)
            · exact kw_return (pc := 101) (i := 54) rfl rfl ⟨⟨I26, F27⟩, rfl⟩
            · refine kw_aload_n (pc := 63) (i := 34) (k := 1) (n := 0) rfl rfl rfl ?_
              refine kw_aload_n (pc := 64) (i := 35) (k := 1) (n := 0) rfl rfl rfl ?_
              refine kw_get (pc := 65) (i := 36) (v := .ref 16) rfl rfl rfl lkX8_63 (fun _ => rfl) ?_
              refine kw_iload_n (pc := 68) (i := 37) (k := 0) (n := 1) rfl rfl rfl ?_
              refine kw_iald (pc := 69) (i := 38) (n := 3) rfl rfl (by omega) (by omega) (fun z34 e_z34 => ?_)
              have t_z34 := congrArg Int32.toInt e_z34
              have r_z34 := kw_rng z34
              refine kw_iconst (pc := 70) (i := 39) (v := 1) rfl rfl ?_
              refine kw_icmp_ne (pc := 71) (i := 40) (tgt := 91) rfl rfl (fun c35 => ?_) (fun c35 => ?_)
              · refine kw_iconst (pc := 91) (i := 50) (v := (-1)) rfl rfl ?_
                refine kw_callV (pc := 92) (i := 51) (Y := mX8_mix) (a := 0) (As := [.int (-1)]) (st := []) kw_hE rfl rfl lvX8_309 arX8_mix (c_X8_mix_0 l T (by omega) (by omega) S25 I26 (-1) ) (by decide) (Nat.le_of_ble_eq_true rfl) rfl (fun v S37 p36 => ?_)
                obtain ⟨⟨I38, F39⟩, rfl⟩ := p36
                have F40 : kw_F [0] σ S37 := kw_F.tr F27 F39 (by decide)
                show kw_AW l 4 kw_E0 KM mX8_mixTown (p_X8_mixTown_0 T σ) 95 [(1, .int x24), (0, .ref 0)] [] S37
                refine kw_iinc' (pc := 95) (i := 52) (k := 0) (fun z => [(1, .int z), (0, .ref 0)]) rfl rfl (by decide) rfl (fun _ => rfl) (fun z41 e_z41 t_z41 => ?_)
                first | (have u_z41 : z41.toInt = x24.toInt + 1 := (by omega); clear t_z41) | skip
                refine kw_goto (pc := 98) (i := 53) (tgt := 58) rfl rfl ?_
                refine kw_sub (lv' := [(1, .int z41), (0, .ref 0)]) [0, 1] rfl ?_
                exact ih29 z41 S37 I38 F40 (by omega) (by omega)
              · refine kw_aload_n (pc := 74) (i := 41) (k := 1) (n := 0) rfl rfl rfl ?_
                refine kw_get (pc := 75) (i := 42) (v := .ref 17) rfl rfl rfl lkX8_66 (fun _ => rfl) ?_
                refine kw_sipush (pc := 78) (i := 43) (v := 411) rfl rfl ?_
                refine kw_iload_n (pc := 81) (i := 44) (k := 0) (n := 1) rfl rfl rfl ?_
                refine kw_imul (pc := 82) (i := 45) rfl (fun z42 e_z42 t_z42 => ?_)
                rw [show (411 : Int32).toInt = 411 from rfl] at t_z42
                first | (have u_z42 : z42.toInt = 411 * x24.toInt := (by omega); clear t_z42) | skip
                refine kw_sipush (pc := 83) (i := 46) (v := 410) rfl rfl ?_
                refine kw_iadd (pc := 86) (i := 47) rfl (fun z43 e_z43 t_z43 => ?_)
                first | (have u_z43 : z43.toInt = z42.toInt + 410 := (by omega); clear t_z43) | skip
                refine kw_iald (pc := 87) (i := 48) (n := 1233) rfl rfl (by omega) (by omega) (fun z44 e_z44 => ?_)
                have t_z44 := congrArg Int32.toInt e_z44
                have r_z44 := kw_rng z44
                have b_z44 := kw_rI I26 (x := z43) z44 e_z44 (by omega) (410) (by omega)
                refine kw_goto (pc := 88) (i := 49) (tgt := 92) rfl rfl ?_
                refine kw_callV (pc := 92) (i := 51) (Y := mX8_mix) (a := 0) (As := [.int z44]) (st := []) kw_hE rfl rfl lvX8_309 arX8_mix (c_X8_mix_0 l T (by omega) (by omega) S25 I26 z44 ) (by decide) (Nat.le_of_ble_eq_true rfl) rfl (fun v S46 p45 => ?_)
                obtain ⟨⟨I47, F48⟩, rfl⟩ := p45
                have F49 : kw_F [0] σ S46 := kw_F.tr F27 F48 (by decide)
                show kw_AW l 4 kw_E0 KM mX8_mixTown (p_X8_mixTown_0 T σ) 95 [(1, .int x24), (0, .ref 0)] [] S46
                refine kw_iinc' (pc := 95) (i := 52) (k := 0) (fun z => [(1, .int z), (0, .ref 0)]) rfl rfl (by decide) rfl (fun _ => rfl) (fun z50 e_z50 t_z50 => ?_)
                first | (have u_z50 : z50.toInt = x24.toInt + 1 := (by omega); clear t_z50) | skip
                refine kw_goto (pc := 98) (i := 53) (tgt := 58) rfl rfl ?_
                refine kw_sub (lv' := [(1, .int z50), (0, .ref 0)]) [0, 1] rfl ?_
                exact ih29 z50 S46 I47 F49 (by omega) (by omega)
        exact L28 _ 0 S14 I15 F16 (by omega) (Nat.lt_succ_self _)
      · refine kw_iconst (pc := 26) (i := 14) (v := 0) rfl rfl ?_
        refine kw_istore_n (pc := 27) (i := 15) (n := 2) (lv' := [(2, .int 0), (1, .int x13), (0, .ref 0)]) rfl rfl (by decide) rfl ?_
        have L55 : ∀ (n59 : Nat) (x51 : Int32) (S52 : kw_S), kw_I (bM T) S52 → kw_F [0] σ S52 → 0 ≤ x51.toInt → (8 - x51.toInt).toNat < n59 → kw_AW l 4 kw_E0 KM mX8_mixTown (p_X8_mixTown_0 T σ) 28 [(2, .int x51), (1, .int x13), (0, .ref 0)] [] S52 := by
          intro n59
          induction n59 with
          | zero => intro x51 S52 I53 F54 v57 m58; exact absurd m58 (Nat.not_lt_zero _)
          | succ n59 ih56 =>
            intro x51 S52 I53 F54 v57 m58
            have r_x51 := kw_rng x51
            refine kw_iload_n (pc := 28) (i := 16) (k := 0) (n := 2) rfl rfl rfl ?_
            refine kw_bipush (pc := 29) (i := 17) (v := 6) rfl rfl ?_
            refine kw_icmp_gt (pc := 31) (i := 18) (tgt := 50) rfl rfl (fun c60 => ?_) (fun c60 => ?_)
            · refine kw_iinc' (pc := 50) (i := 27) (k := 1) (fun z => [(1, .int z), (2, .int x51), (0, .ref 0)]) rfl rfl (by decide) rfl (fun _ => rfl) (fun z61 e_z61 t_z61 => ?_)
              first | (have u_z61 : z61.toInt = x13.toInt + 1 := (by omega); clear t_z61) | skip
              refine kw_goto (pc := 53) (i := 28) (tgt := 18) rfl rfl ?_
              refine kw_sub (lv' := [(1, .int z61), (0, .ref 0)]) [0, 2] rfl ?_
              exact ih18 z61 S52 I53 F54 (by omega) (by omega)
            · refine kw_aload_n (pc := 34) (i := 19) (k := 2) (n := 0) rfl rfl rfl ?_
              refine kw_aload_n (pc := 35) (i := 20) (k := 2) (n := 0) rfl rfl rfl ?_
              refine kw_iload_n (pc := 36) (i := 21) (k := 1) (n := 1) rfl rfl rfl ?_
              refine kw_iload_n (pc := 37) (i := 22) (k := 0) (n := 2) rfl rfl rfl ?_
              refine kw_callV (pc := 38) (i := 23) (Y := mX8_lineOf) (a := 0) (As := [.int x13, .int x51]) (st := [.ref 0]) kw_hE rfl rfl lvX8_230 arX8_lineOf (c_X8_lineOf_0 l T (by omega) (by omega) S52 I53 x13 x51 (by first | omega | decide) (by first | omega | decide)) (by decide) (Nat.le_of_ble_eq_true rfl) rfl (fun v S63 p62 => ?_)
              obtain ⟨e65, z64, rfl⟩ := p62
              rw [e65]
              have r_z64 := kw_rng z64
              show kw_AW l 4 kw_E0 KM mX8_mixTown (p_X8_mixTown_0 T σ) 41 [(2, .int x51), (1, .int x13), (0, .ref 0)] [.int z64, .ref 0] S52
              refine kw_callV (pc := 41) (i := 24) (Y := mX8_mix) (a := 0) (As := [.int z64]) (st := []) kw_hE rfl rfl lvX8_309 arX8_mix (c_X8_mix_0 l T (by omega) (by omega) S52 I53 z64 ) (by decide) (Nat.le_of_ble_eq_true rfl) rfl (fun v S67 p66 => ?_)
              obtain ⟨⟨I68, F69⟩, rfl⟩ := p66
              have F70 : kw_F [0] σ S67 := kw_F.tr F54 F69 (by decide)
              show kw_AW l 4 kw_E0 KM mX8_mixTown (p_X8_mixTown_0 T σ) 44 [(2, .int x51), (1, .int x13), (0, .ref 0)] [] S67
              refine kw_iinc' (pc := 44) (i := 25) (k := 0) (fun z => [(2, .int z), (1, .int x13), (0, .ref 0)]) rfl rfl (by decide) rfl (fun _ => rfl) (fun z71 e_z71 t_z71 => ?_)
              first | (have u_z71 : z71.toInt = x51.toInt + 1 := (by omega); clear t_z71) | skip
              refine kw_goto (pc := 47) (i := 26) (tgt := 28) rfl rfl ?_
              refine kw_sub (lv' := [(2, .int z71), (1, .int x13), (0, .ref 0)]) [0, 1, 2] rfl ?_
              exact ih56 z71 S67 I68 F70 (by omega) (by omega)
        exact L55 _ 0 S14 I15 F16 (by omega) (Nat.lt_succ_self _)
  exact L17 _ 0 S9 I10 F12 (by omega) (Nat.lt_succ_self _)
abbrev p_X8_digest_0 (T : Int) (σ : kw_S)  : Option Value → kw_S → Prop := fun vv σ' => (kw_I (bM T) σ' ∧ kw_F [0] σ σ') ∧ ∃ r : Int64, vv = some (.long r)
set_option maxRecDepth 100000 in
set_option maxHeartbeats 4000000 in
theorem c_X8_digest_0 (l : Launch) (T : Int) (hT0 : 0 ≤ T) (hT1 : T ≤ 3000) (σ : kw_S) (hI : kw_I (bM T) σ)  : kw_Met l 5 KM mX8_digest [.ref 0] σ (p_X8_digest_0 T σ) := by
  have hF0 : kw_F [0] σ σ := kw_F.rf
  have q_m1 : (-1 : Int32).toInt = -1 := rfl
  have q_0 : (0 : Int32).toInt = 0 := rfl
  have q_4 : (4 : Int32).toInt = 4 := rfl
  have q_6 : (6 : Int32).toInt = 6 := rfl
  have q_9 : (9 : Int32).toInt = 9 := rfl
  have q_60 : (60 : Int32).toInt = 60 := rfl
  refine kw_Met.of (by decide) rfl tX8_digest (Nat.le_of_ble_eq_true rfl) ?_
  show kw_AW l 5 kw_E0 KM mX8_digest (p_X8_digest_0 T σ) 0 [(0, .ref 0)] [] σ
  refine kw_aload_n (pc := 0) (i := 0) (k := 0) (n := 0) rfl rfl rfl ?_
  refine kw_ldc2 (pc := 1) (i := 1) (v := 17) rfl ckX8_312 ?_
  refine kw_putl (pc := 4) (i := 2) (z := 0) rfl rfl rfl lpX8_306 ?_
  have I1 : kw_I (bM T) (kw_ul σ 0 36 17) := kw_I_ul hI _ _ _
  have F2 : kw_F [0] σ (kw_ul σ 0 36 17) := kw_F_ul hF0 _ _ _
  refine kw_iconst (pc := 7) (i := 3) (v := 0) rfl rfl ?_
  refine kw_istore_n (pc := 8) (i := 4) (n := 1) (lv' := [(1, .int 0), (0, .ref 0)]) rfl rfl (by decide) rfl ?_
  have L7 : ∀ (n11 : Nat) (x3 : Int32) (S4 : kw_S), kw_I (bM T) S4 → kw_F [0] σ S4 → 0 ≤ x3.toInt → (11 - x3.toInt).toNat < n11 → kw_AW l 5 kw_E0 KM mX8_digest (p_X8_digest_0 T σ) 9 [(1, .int x3), (0, .ref 0)] [] S4 := by
    intro n11
    induction n11 with
    | zero => intro x3 S4 I5 F6 v9 m10; exact absurd m10 (Nat.not_lt_zero _)
    | succ n11 ih8 =>
      intro x3 S4 I5 F6 v9 m10
      have r_x3 := kw_rng x3
      refine kw_iload_n (pc := 9) (i := 5) (k := 0) (n := 1) rfl rfl rfl ?_
      refine kw_bipush (pc := 10) (i := 6) (v := 9) rfl rfl ?_
      refine kw_icmp_gt (pc := 12) (i := 7) (tgt := 30) rfl rfl (fun c12 => ?_) (fun c12 => ?_)
      · refine kw_aload_n (pc := 30) (i := 15) (k := 1) (n := 0) rfl rfl rfl ?_
        refine kw_callV (pc := 31) (i := 16) (Y := mX8_mixTown) (a := 0) (As := []) (st := []) kw_hE rfl rfl lvX8_314 arX8_mixTown (c_X8_mixTown_0 l T (by omega) (by omega) S4 I5  ) (by decide) (Nat.le_of_ble_eq_true rfl) rfl (fun v S14 p13 => ?_)
        obtain ⟨⟨I15, F16⟩, rfl⟩ := p13
        have F17 : kw_F [0] σ S14 := kw_F.tr F6 F16 (by decide)
        show kw_AW l 5 kw_E0 KM mX8_digest (p_X8_digest_0 T σ) 34 [(1, .int x3), (0, .ref 0)] [] S14
        refine kw_iconst (pc := 34) (i := 17) (v := 0) rfl rfl ?_
        refine kw_istore_n (pc := 35) (i := 18) (n := 1) (lv' := [(1, .int 0), (0, .ref 0)]) rfl rfl (by decide) rfl ?_
        have L22 : ∀ (n26 : Nat) (x18 : Int32) (S19 : kw_S), kw_I (bM T) S19 → kw_F [0] σ S19 → 0 ≤ x18.toInt → (7 - x18.toInt).toNat < n26 → kw_AW l 5 kw_E0 KM mX8_digest (p_X8_digest_0 T σ) 36 [(1, .int x18), (0, .ref 0)] [] S19 := by
          intro n26
          induction n26 with
          | zero => intro x18 S19 I20 F21 v24 m25; exact absurd m25 (Nat.not_lt_zero _)
          | succ n26 ih23 =>
            intro x18 S19 I20 F21 v24 m25
            have r_x18 := kw_rng x18
            refine kw_iload_n (pc := 36) (i := 19) (k := 0) (n := 1) rfl rfl rfl ?_
            refine kw_bipush (pc := 37) (i := 20) (v := 6) rfl rfl ?_
            refine kw_icmp_ge (pc := 39) (i := 21) (tgt := 99) rfl rfl (fun c27 => ?_) (fun c27 => ?_)
            · refine kw_iconst (pc := 99) (i := 53) (v := 0) rfl rfl ?_
              refine kw_istore_n (pc := 100) (i := 54) (n := 1) (lv' := [(1, .int 0), (0, .ref 0)]) rfl rfl (by decide) rfl ?_
              have L32 : ∀ (n36 : Nat) (x28 : Int32) (S29 : kw_S), kw_I (bM T) S29 → kw_F [0] σ S29 → 0 ≤ x28.toInt → (5 - x28.toInt).toNat < n36 → kw_AW l 5 kw_E0 KM mX8_digest (p_X8_digest_0 T σ) 101 [(1, .int x28), (0, .ref 0)] [] S29 := by
                intro n36
                induction n36 with
                | zero => intro x28 S29 I30 F31 v34 m35; exact absurd m35 (Nat.not_lt_zero _)
                | succ n36 ih33 =>
                  intro x28 S29 I30 F31 v34 m35
                  have r_x28 := kw_rng x28
                  refine kw_iload_n (pc := 101) (i := 55) (k := 0) (n := 1) rfl rfl rfl ?_
                  refine kw_iconst (pc := 102) (i := 56) (v := 4) rfl rfl ?_
                  refine kw_icmp_ge (pc := 103) (i := 57) (tgt := 168) rfl rfl (fun c37 => ?_) (fun c37 => ?_)
                  · refine kw_aload_n (pc := 168) (i := 93) (k := 1) (n := 0) rfl rfl rfl ?_
                    refine kw_get (pc := 169) (i := 94) (v := .long (S29.2 0 36)) rfl rfl rfl lkX8_306 (fun _ => rfl) ?_
                    exact kw_lreturn (pc := 172) (i := 95) rfl rfl ⟨⟨I30, F31⟩, _, rfl⟩
                  · refine kw_aload_n (pc := 106) (i := 58) (k := 1) (n := 0) rfl rfl rfl ?_
                    refine kw_aload_n (pc := 107) (i := 59) (k := 1) (n := 0) rfl rfl rfl ?_
                    refine kw_get (pc := 108) (i := 60) (v := .ref 5) rfl rfl rfl lkX8_26 (fun _ => rfl) ?_
                    refine kw_iload_n (pc := 111) (i := 61) (k := 0) (n := 1) rfl rfl rfl ?_
                    refine kw_iald (pc := 112) (i := 62) (n := 4) rfl rfl (by omega) (by omega) (fun z38 e_z38 => ?_)
                    have t_z38 := congrArg Int32.toInt e_z38
                    have b_z38 : -9 ≤ z38.toInt ∧ z38.toInt ≤ 60 := by rw [e_z38]; exact I30 5 _
                    refine kw_if_ge (pc := 113) (i := 63) (tgt := 120) rfl rfl (fun c39 => ?_) (fun c39 => ?_)
                    · refine kw_aload_n (pc := 120) (i := 66) (k := 1) (n := 0) rfl rfl rfl ?_
                      refine kw_get (pc := 121) (i := 67) (v := .ref 5) rfl rfl rfl lkX8_26 (fun _ => rfl) ?_
                      refine kw_iload_n (pc := 124) (i := 68) (k := 0) (n := 1) rfl rfl rfl ?_
                      refine kw_iald (pc := 125) (i := 69) (n := 4) rfl rfl (by omega) (by omega) (fun z40 e_z40 => ?_)
                      have t_z40 := congrArg Int32.toInt e_z40
                      have b_z40 : -9 ≤ z40.toInt ∧ z40.toInt ≤ 60 := by rw [e_z40]; exact I30 5 _
                      refine kw_callV (pc := 126) (i := 70) (Y := mX8_mix) (a := 0) (As := [.int z40]) (st := []) kw_hE rfl rfl lvX8_309 arX8_mix (c_X8_mix_0 l T (by omega) (by omega) S29 I30 z40 ) (by decide) (Nat.le_of_ble_eq_true rfl) rfl (fun v S42 p41 => ?_)
                      obtain ⟨⟨I43, F44⟩, rfl⟩ := p41
                      have F45 : kw_F [0] σ S42 := kw_F.tr F31 F44 (by decide)
                      show kw_AW l 5 kw_E0 KM mX8_digest (p_X8_digest_0 T σ) 129 [(1, .int x28), (0, .ref 0)] [] S42
                      refine kw_iconst (pc := 129) (i := 71) (v := 0) rfl rfl ?_
                      refine kw_istore_n (pc := 130) (i := 72) (n := 2) (lv' := [(2, .int 0), (1, .int x28), (0, .ref 0)]) rfl rfl (by decide) rfl ?_
                      have L50 : ∀ (n54 : Nat) (x46 : Int32) (S47 : kw_S), kw_I (bM T) S47 → kw_F [0] σ S47 → 0 ≤ x46.toInt → (61 - x46.toInt).toNat < n54 → kw_AW l 5 kw_E0 KM mX8_digest (p_X8_digest_0 T σ) 131 [(2, .int x46), (1, .int x28), (0, .ref 0)] [] S47 := by
                        intro n54
                        induction n54 with
                        | zero => intro x46 S47 I48 F49 v52 m53; exact absurd m53 (Nat.not_lt_zero _)
                        | succ n54 ih51 =>
                          intro x46 S47 I48 F49 v52 m53
                          have r_x46 := kw_rng x46
                          refine kw_iload_n (pc := 131) (i := 73) (k := 0) (n := 2) rfl rfl rfl ?_
                          refine kw_aload_n (pc := 132) (i := 74) (k := 2) (n := 0) rfl rfl rfl ?_
                          refine kw_get (pc := 133) (i := 75) (v := .ref 5) rfl rfl rfl lkX8_26 (fun _ => rfl) ?_
                          refine kw_iload_n (pc := 136) (i := 76) (k := 1) (n := 1) rfl rfl rfl ?_
                          refine kw_iald (pc := 137) (i := 77) (n := 4) rfl rfl (by omega) (by omega) (fun z55 e_z55 => ?_)
                          have t_z55 := congrArg Int32.toInt e_z55
                          have b_z55 : -9 ≤ z55.toInt ∧ z55.toInt ≤ 60 := by rw [e_z55]; exact I48 5 _
                          refine kw_icmp_ge (pc := 138) (i := 78) (tgt := 162) rfl rfl (fun c56 => ?_) (fun c56 => ?_)
                          · refine kw_iinc' (pc := 162) (i := 91) (k := 1) (fun z => [(1, .int z), (2, .int x46), (0, .ref 0)]) rfl rfl (by decide) rfl (fun _ => rfl) (fun z57 e_z57 t_z57 => ?_)
                            first | (have u_z57 : z57.toInt = x28.toInt + 1 := (by omega); clear t_z57) | skip
                            refine kw_goto (pc := 165) (i := 92) (tgt := 101) rfl rfl ?_
                            refine kw_sub (lv' := [(1, .int z57), (0, .ref 0)]) [0, 2] rfl ?_
                            exact ih33 z57 S47 I48 F49 (by omega) (by omega)
                          · refine kw_aload_n (pc := 141) (i := 79) (k := 2) (n := 0) rfl rfl rfl ?_
                            refine kw_aload_n (pc := 142) (i := 80) (k := 2) (n := 0) rfl rfl rfl ?_
                            refine kw_get (pc := 143) (i := 81) (v := .ref 6) rfl rfl rfl lkX8_29 (fun _ => rfl) ?_
                            refine kw_bipush (pc := 146) (i := 82) (v := 60) rfl rfl ?_
                            refine kw_iload_n (pc := 148) (i := 83) (k := 1) (n := 1) rfl rfl rfl ?_
                            refine kw_imul (pc := 149) (i := 84) rfl (fun z58 e_z58 t_z58 => ?_)
                            rw [show (60 : Int32).toInt = 60 from rfl] at t_z58
                            first | (have u_z58 : z58.toInt = 60 * x28.toInt := (by omega); clear t_z58) | skip
                            refine kw_iload_n (pc := 150) (i := 85) (k := 0) (n := 2) rfl rfl rfl ?_
                            refine kw_iadd (pc := 151) (i := 86) rfl (fun z59 e_z59 t_z59 => ?_)
                            first | (have u_z59 : z59.toInt = z58.toInt + x46.toInt := (by omega); clear t_z59) | skip
                            refine kw_iald (pc := 152) (i := 87) (n := 240) rfl rfl (by omega) (by omega) (fun z60 e_z60 => ?_)
                            have t_z60 := congrArg Int32.toInt e_z60
                            have r_z60 := kw_rng z60
                            refine kw_callV (pc := 153) (i := 88) (Y := mX8_mix) (a := 0) (As := [.int z60]) (st := []) kw_hE rfl rfl lvX8_309 arX8_mix (c_X8_mix_0 l T (by omega) (by omega) S47 I48 z60 ) (by decide) (Nat.le_of_ble_eq_true rfl) rfl (fun v S62 p61 => ?_)
                            obtain ⟨⟨I63, F64⟩, rfl⟩ := p61
                            have F65 : kw_F [0] σ S62 := kw_F.tr F49 F64 (by decide)
                            show kw_AW l 5 kw_E0 KM mX8_digest (p_X8_digest_0 T σ) 156 [(2, .int x46), (1, .int x28), (0, .ref 0)] [] S62
                            refine kw_iinc' (pc := 156) (i := 89) (k := 0) (fun z => [(2, .int z), (1, .int x28), (0, .ref 0)]) rfl rfl (by decide) rfl (fun _ => rfl) (fun z66 e_z66 t_z66 => ?_)
                            first | (have u_z66 : z66.toInt = x46.toInt + 1 := (by omega); clear t_z66) | skip
                            refine kw_goto (pc := 159) (i := 90) (tgt := 131) rfl rfl ?_
                            refine kw_sub (lv' := [(2, .int z66), (1, .int x28), (0, .ref 0)]) [0, 1, 2] rfl ?_
                            exact ih51 z66 S62 I63 F65 (by omega) (by omega)
                      exact L50 _ 0 S42 I43 F45 (by omega) (Nat.lt_succ_self _)
                    · refine kw_iconst (pc := 116) (i := 64) (v := (-1)) rfl rfl ?_
                      refine kw_goto (pc := 117) (i := 65) (tgt := 126) rfl rfl ?_
                      refine kw_callV (pc := 126) (i := 70) (Y := mX8_mix) (a := 0) (As := [.int (-1)]) (st := []) kw_hE rfl rfl lvX8_309 arX8_mix (c_X8_mix_0 l T (by omega) (by omega) S29 I30 (-1) ) (by decide) (Nat.le_of_ble_eq_true rfl) rfl (fun v S68 p67 => ?_)
                      obtain ⟨⟨I69, F70⟩, rfl⟩ := p67
                      have F71 : kw_F [0] σ S68 := kw_F.tr F31 F70 (by decide)
                      show kw_AW l 5 kw_E0 KM mX8_digest (p_X8_digest_0 T σ) 129 [(1, .int x28), (0, .ref 0)] [] S68
                      refine kw_iconst (pc := 129) (i := 71) (v := 0) rfl rfl ?_
                      refine kw_istore_n (pc := 130) (i := 72) (n := 2) (lv' := [(2, .int 0), (1, .int x28), (0, .ref 0)]) rfl rfl (by decide) rfl ?_
                      have L76 : ∀ (n80 : Nat) (x72 : Int32) (S73 : kw_S), kw_I (bM T) S73 → kw_F [0] σ S73 → 0 ≤ x72.toInt → (61 - x72.toInt).toNat < n80 → kw_AW l 5 kw_E0 KM mX8_digest (p_X8_digest_0 T σ) 131 [(2, .int x72), (1, .int x28), (0, .ref 0)] [] S73 := by
                        intro n80
                        induction n80 with
                        | zero => intro x72 S73 I74 F75 v78 m79; exact absurd m79 (Nat.not_lt_zero _)
                        | succ n80 ih77 =>
                          intro x72 S73 I74 F75 v78 m79
                          have r_x72 := kw_rng x72
                          refine kw_iload_n (pc := 131) (i := 73) (k := 0) (n := 2) rfl rfl rfl ?_
                          refine kw_aload_n (pc := 132) (i := 74) (k := 2) (n := 0) rfl rfl rfl ?_
                          refine kw_get (pc := 133) (i := 75) (v := .ref 5) rfl rfl rfl lkX8_26 (fun _ => rfl) ?_
                          refine kw_iload_n (pc := 136) (i := 76) (k := 1) (n := 1) rfl rfl rfl ?_
                          refine kw_iald (pc := 137) (i := 77) (n := 4) rfl rfl (by omega) (by omega) (fun z81 e_z81 => ?_)
                          have t_z81 := congrArg Int32.toInt e_z81
                          have b_z81 : -9 ≤ z81.toInt ∧ z81.toInt ≤ 60 := by rw [e_z81]; exact I74 5 _
                          refine kw_icmp_ge (pc := 138) (i := 78) (tgt := 162) rfl rfl (fun c82 => ?_) (fun c82 => ?_)
                          · refine kw_iinc' (pc := 162) (i := 91) (k := 1) (fun z => [(1, .int z), (2, .int x72), (0, .ref 0)]) rfl rfl (by decide) rfl (fun _ => rfl) (fun z83 e_z83 t_z83 => ?_)
                            first | (have u_z83 : z83.toInt = x28.toInt + 1 := (by omega); clear t_z83) | skip
                            refine kw_goto (pc := 165) (i := 92) (tgt := 101) rfl rfl ?_
                            refine kw_sub (lv' := [(1, .int z83), (0, .ref 0)]) [0, 2] rfl ?_
                            exact ih33 z83 S73 I74 F75 (by omega) (by omega)
                          · refine kw_aload_n (pc := 141) (i := 79) (k := 2) (n := 0) rfl rfl rfl ?_
                            refine kw_aload_n (pc := 142) (i := 80) (k := 2) (n := 0) rfl rfl rfl ?_
                            refine kw_get (pc := 143) (i := 81) (v := .ref 6) rfl rfl rfl lkX8_29 (fun _ => rfl) ?_
                            refine kw_bipush (pc := 146) (i := 82) (v := 60) rfl rfl ?_
                            refine kw_iload_n (pc := 148) (i := 83) (k := 1) (n := 1) rfl rfl rfl ?_
                            refine kw_imul (pc := 149) (i := 84) rfl (fun z84 e_z84 t_z84 => ?_)
                            rw [show (60 : Int32).toInt = 60 from rfl] at t_z84
                            first | (have u_z84 : z84.toInt = 60 * x28.toInt := (by omega); clear t_z84) | skip
                            refine kw_iload_n (pc := 150) (i := 85) (k := 0) (n := 2) rfl rfl rfl ?_
                            refine kw_iadd (pc := 151) (i := 86) rfl (fun z85 e_z85 t_z85 => ?_)
                            first | (have u_z85 : z85.toInt = z84.toInt + x72.toInt := (by omega); clear t_z85) | skip
                            refine kw_iald (pc := 152) (i := 87) (n := 240) rfl rfl (by omega) (by omega) (fun z86 e_z86 => ?_)
                            have t_z86 := congrArg Int32.toInt e_z86
                            have r_z86 := kw_rng z86
                            refine kw_callV (pc := 153) (i := 88) (Y := mX8_mix) (a := 0) (As := [.int z86]) (st := []) kw_hE rfl rfl lvX8_309 arX8_mix (c_X8_mix_0 l T (by omega) (by omega) S73 I74 z86 ) (by decide) (Nat.le_of_ble_eq_true rfl) rfl (fun v S88 p87 => ?_)
                            obtain ⟨⟨I89, F90⟩, rfl⟩ := p87
                            have F91 : kw_F [0] σ S88 := kw_F.tr F75 F90 (by decide)
                            show kw_AW l 5 kw_E0 KM mX8_digest (p_X8_digest_0 T σ) 156 [(2, .int x72), (1, .int x28), (0, .ref 0)] [] S88
                            refine kw_iinc' (pc := 156) (i := 89) (k := 0) (fun z => [(2, .int z), (1, .int x28), (0, .ref 0)]) rfl rfl (by decide) rfl (fun _ => rfl) (fun z92 e_z92 t_z92 => ?_)
                            first | (have u_z92 : z92.toInt = x72.toInt + 1 := (by omega); clear t_z92) | skip
                            refine kw_goto (pc := 159) (i := 90) (tgt := 131) rfl rfl ?_
                            refine kw_sub (lv' := [(2, .int z92), (1, .int x28), (0, .ref 0)]) [0, 1, 2] rfl ?_
                            exact ih77 z92 S88 I89 F91 (by omega) (by omega)
                      exact L76 _ 0 S68 I69 F71 (by omega) (Nat.lt_succ_self _)
              exact L32 _ 0 S19 I20 F21 (by omega) (Nat.lt_succ_self _)
            · refine kw_aload_n (pc := 42) (i := 22) (k := 1) (n := 0) rfl rfl rfl ?_
              refine kw_aload_n (pc := 43) (i := 23) (k := 1) (n := 0) rfl rfl rfl ?_
              refine kw_get (pc := 44) (i := 24) (v := .ref 2) rfl rfl rfl lkX8_17 (fun _ => rfl) ?_
              refine kw_iload_n (pc := 47) (i := 25) (k := 0) (n := 1) rfl rfl rfl ?_
              refine kw_iald (pc := 48) (i := 26) (n := 6) rfl rfl (by omega) (by omega) (fun z93 e_z93 => ?_)
              have t_z93 := congrArg Int32.toInt e_z93
              have b_z93 : -9 ≤ z93.toInt ∧ z93.toInt ≤ 40 := by rw [e_z93]; exact I20 2 _
              refine kw_if_ge (pc := 49) (i := 27) (tgt := 56) rfl rfl (fun c94 => ?_) (fun c94 => ?_)
              · refine kw_aload_n (pc := 56) (i := 30) (k := 1) (n := 0) rfl rfl rfl ?_
                refine kw_get (pc := 57) (i := 31) (v := .ref 2) rfl rfl rfl lkX8_17 (fun _ => rfl) ?_
                refine kw_iload_n (pc := 60) (i := 32) (k := 0) (n := 1) rfl rfl rfl ?_
                refine kw_iald (pc := 61) (i := 33) (n := 6) rfl rfl (by omega) (by omega) (fun z95 e_z95 => ?_)
                have t_z95 := congrArg Int32.toInt e_z95
                have b_z95 : -9 ≤ z95.toInt ∧ z95.toInt ≤ 40 := by rw [e_z95]; exact I20 2 _
                refine kw_callV (pc := 62) (i := 34) (Y := mX8_mix) (a := 0) (As := [.int z95]) (st := []) kw_hE rfl rfl lvX8_309 arX8_mix (c_X8_mix_0 l T (by omega) (by omega) S19 I20 z95 ) (by decide) (Nat.le_of_ble_eq_true rfl) rfl (fun v S97 p96 => ?_)
                obtain ⟨⟨I98, F99⟩, rfl⟩ := p96
                have F100 : kw_F [0] σ S97 := kw_F.tr F21 F99 (by decide)
                show kw_AW l 5 kw_E0 KM mX8_digest (p_X8_digest_0 T σ) 65 [(1, .int x18), (0, .ref 0)] [] S97
                refine kw_iconst (pc := 65) (i := 35) (v := 0) rfl rfl ?_
                refine kw_istore_n (pc := 66) (i := 36) (n := 2) (lv' := [(2, .int 0), (1, .int x18), (0, .ref 0)]) rfl rfl (by decide) rfl ?_
                have L105 : ∀ (n109 : Nat) (x101 : Int32) (S102 : kw_S), kw_I (bM T) S102 → kw_F [0] σ S102 → 0 ≤ x101.toInt → (41 - x101.toInt).toNat < n109 → kw_AW l 5 kw_E0 KM mX8_digest (p_X8_digest_0 T σ) 67 [(2, .int x101), (1, .int x18), (0, .ref 0)] [] S102 := by
                  intro n109
                  induction n109 with
                  | zero => intro x101 S102 I103 F104 v107 m108; exact absurd m108 (Nat.not_lt_zero _)
                  | succ n109 ih106 =>
                    intro x101 S102 I103 F104 v107 m108
                    have r_x101 := kw_rng x101
                    refine kw_iload_n (pc := 67) (i := 37) (k := 0) (n := 2) rfl rfl rfl ?_
                    refine kw_aload_n (pc := 68) (i := 38) (k := 2) (n := 0) rfl rfl rfl ?_
                    refine kw_get (pc := 69) (i := 39) (v := .ref 2) rfl rfl rfl lkX8_17 (fun _ => rfl) ?_
                    refine kw_iload_n (pc := 72) (i := 40) (k := 1) (n := 1) rfl rfl rfl ?_
                    refine kw_iald (pc := 73) (i := 41) (n := 6) rfl rfl (by omega) (by omega) (fun z110 e_z110 => ?_)
                    have t_z110 := congrArg Int32.toInt e_z110
                    have b_z110 : -9 ≤ z110.toInt ∧ z110.toInt ≤ 40 := by rw [e_z110]; exact I103 2 _
                    refine kw_icmp_ge (pc := 74) (i := 42) (tgt := 93) rfl rfl (fun c111 => ?_) (fun c111 => ?_)
                    · refine kw_iinc' (pc := 93) (i := 51) (k := 1) (fun z => [(1, .int z), (2, .int x101), (0, .ref 0)]) rfl rfl (by decide) rfl (fun _ => rfl) (fun z112 e_z112 t_z112 => ?_)
                      first | (have u_z112 : z112.toInt = x18.toInt + 1 := (by omega); clear t_z112) | skip
                      refine kw_goto (pc := 96) (i := 52) (tgt := 36) rfl rfl ?_
                      refine kw_sub (lv' := [(1, .int z112), (0, .ref 0)]) [0, 2] rfl ?_
                      exact ih23 z112 S102 I103 F104 (by omega) (by omega)
                    · refine kw_aload_n (pc := 77) (i := 43) (k := 2) (n := 0) rfl rfl rfl ?_
                      refine kw_aload_n (pc := 78) (i := 44) (k := 2) (n := 0) rfl rfl rfl ?_
                      refine kw_iload_n (pc := 79) (i := 45) (k := 1) (n := 1) rfl rfl rfl ?_
                      refine kw_iload_n (pc := 80) (i := 46) (k := 0) (n := 2) rfl rfl rfl ?_
                      refine kw_callV (pc := 81) (i := 47) (Y := mX8_rowAt) (a := 0) (As := [.int x18, .int x101]) (st := [.ref 0]) kw_hE rfl rfl lvX8_115 arX8_rowAt (c_X8_rowAt_0 l T (by omega) (by omega) S102 I103 x18 x101 (by first | omega | decide) (by first | omega | decide) (by first | omega | decide) (by first | omega | decide)) (by decide) (Nat.le_of_ble_eq_true rfl) rfl (fun v S114 p113 => ?_)
                      obtain ⟨e116, z115, rfl⟩ := p113
                      rw [e116]
                      have r_z115 := kw_rng z115
                      show kw_AW l 5 kw_E0 KM mX8_digest (p_X8_digest_0 T σ) 84 [(2, .int x101), (1, .int x18), (0, .ref 0)] [.int z115, .ref 0] S102
                      refine kw_callV (pc := 84) (i := 48) (Y := mX8_mix) (a := 0) (As := [.int z115]) (st := []) kw_hE rfl rfl lvX8_309 arX8_mix (c_X8_mix_0 l T (by omega) (by omega) S102 I103 z115 ) (by decide) (Nat.le_of_ble_eq_true rfl) rfl (fun v S118 p117 => ?_)
                      obtain ⟨⟨I119, F120⟩, rfl⟩ := p117
                      have F121 : kw_F [0] σ S118 := kw_F.tr F104 F120 (by decide)
                      show kw_AW l 5 kw_E0 KM mX8_digest (p_X8_digest_0 T σ) 87 [(2, .int x101), (1, .int x18), (0, .ref 0)] [] S118
                      refine kw_iinc' (pc := 87) (i := 49) (k := 0) (fun z => [(2, .int z), (1, .int x18), (0, .ref 0)]) rfl rfl (by decide) rfl (fun _ => rfl) (fun z122 e_z122 t_z122 => ?_)
                      first | (have u_z122 : z122.toInt = x101.toInt + 1 := (by omega); clear t_z122) | skip
                      refine kw_goto (pc := 90) (i := 50) (tgt := 67) rfl rfl ?_
                      refine kw_sub (lv' := [(2, .int z122), (1, .int x18), (0, .ref 0)]) [0, 1, 2] rfl ?_
                      exact ih106 z122 S118 I119 F121 (by omega) (by omega)
                exact L105 _ 0 S97 I98 F100 (by omega) (Nat.lt_succ_self _)
              · refine kw_iconst (pc := 52) (i := 28) (v := (-1)) rfl rfl ?_
                refine kw_goto (pc := 53) (i := 29) (tgt := 62) rfl rfl ?_
                refine kw_callV (pc := 62) (i := 34) (Y := mX8_mix) (a := 0) (As := [.int (-1)]) (st := []) kw_hE rfl rfl lvX8_309 arX8_mix (c_X8_mix_0 l T (by omega) (by omega) S19 I20 (-1) ) (by decide) (Nat.le_of_ble_eq_true rfl) rfl (fun v S124 p123 => ?_)
                obtain ⟨⟨I125, F126⟩, rfl⟩ := p123
                have F127 : kw_F [0] σ S124 := kw_F.tr F21 F126 (by decide)
                show kw_AW l 5 kw_E0 KM mX8_digest (p_X8_digest_0 T σ) 65 [(1, .int x18), (0, .ref 0)] [] S124
                refine kw_iconst (pc := 65) (i := 35) (v := 0) rfl rfl ?_
                refine kw_istore_n (pc := 66) (i := 36) (n := 2) (lv' := [(2, .int 0), (1, .int x18), (0, .ref 0)]) rfl rfl (by decide) rfl ?_
                have L132 : ∀ (n136 : Nat) (x128 : Int32) (S129 : kw_S), kw_I (bM T) S129 → kw_F [0] σ S129 → 0 ≤ x128.toInt → (41 - x128.toInt).toNat < n136 → kw_AW l 5 kw_E0 KM mX8_digest (p_X8_digest_0 T σ) 67 [(2, .int x128), (1, .int x18), (0, .ref 0)] [] S129 := by
                  intro n136
                  induction n136 with
                  | zero => intro x128 S129 I130 F131 v134 m135; exact absurd m135 (Nat.not_lt_zero _)
                  | succ n136 ih133 =>
                    intro x128 S129 I130 F131 v134 m135
                    have r_x128 := kw_rng x128
                    refine kw_iload_n (pc := 67) (i := 37) (k := 0) (n := 2) rfl rfl rfl ?_
                    refine kw_aload_n (pc := 68) (i := 38) (k := 2) (n := 0) rfl rfl rfl ?_
                    refine kw_get (pc := 69) (i := 39) (v := .ref 2) rfl rfl rfl lkX8_17 (fun _ => rfl) ?_
                    refine kw_iload_n (pc := 72) (i := 40) (k := 1) (n := 1) rfl rfl rfl ?_
                    refine kw_iald (pc := 73) (i := 41) (n := 6) rfl rfl (by omega) (by omega) (fun z137 e_z137 => ?_)
                    have t_z137 := congrArg Int32.toInt e_z137
                    have b_z137 : -9 ≤ z137.toInt ∧ z137.toInt ≤ 40 := by rw [e_z137]; exact I130 2 _
                    refine kw_icmp_ge (pc := 74) (i := 42) (tgt := 93) rfl rfl (fun c138 => ?_) (fun c138 => ?_)
                    · refine kw_iinc' (pc := 93) (i := 51) (k := 1) (fun z => [(1, .int z), (2, .int x128), (0, .ref 0)]) rfl rfl (by decide) rfl (fun _ => rfl) (fun z139 e_z139 t_z139 => ?_)
                      first | (have u_z139 : z139.toInt = x18.toInt + 1 := (by omega); clear t_z139) | skip
                      refine kw_goto (pc := 96) (i := 52) (tgt := 36) rfl rfl ?_
                      refine kw_sub (lv' := [(1, .int z139), (0, .ref 0)]) [0, 2] rfl ?_
                      exact ih23 z139 S129 I130 F131 (by omega) (by omega)
                    · refine kw_aload_n (pc := 77) (i := 43) (k := 2) (n := 0) rfl rfl rfl ?_
                      refine kw_aload_n (pc := 78) (i := 44) (k := 2) (n := 0) rfl rfl rfl ?_
                      refine kw_iload_n (pc := 79) (i := 45) (k := 1) (n := 1) rfl rfl rfl ?_
                      refine kw_iload_n (pc := 80) (i := 46) (k := 0) (n := 2) rfl rfl rfl ?_
                      refine kw_callV (pc := 81) (i := 47) (Y := mX8_rowAt) (a := 0) (As := [.int x18, .int x128]) (st := [.ref 0]) kw_hE rfl rfl lvX8_115 arX8_rowAt (c_X8_rowAt_0 l T (by omega) (by omega) S129 I130 x18 x128 (by first | omega | decide) (by first | omega | decide) (by first | omega | decide) (by first | omega | decide)) (by decide) (Nat.le_of_ble_eq_true rfl) rfl (fun v S141 p140 => ?_)
                      obtain ⟨e143, z142, rfl⟩ := p140
                      rw [e143]
                      have r_z142 := kw_rng z142
                      show kw_AW l 5 kw_E0 KM mX8_digest (p_X8_digest_0 T σ) 84 [(2, .int x128), (1, .int x18), (0, .ref 0)] [.int z142, .ref 0] S129
                      refine kw_callV (pc := 84) (i := 48) (Y := mX8_mix) (a := 0) (As := [.int z142]) (st := []) kw_hE rfl rfl lvX8_309 arX8_mix (c_X8_mix_0 l T (by omega) (by omega) S129 I130 z142 ) (by decide) (Nat.le_of_ble_eq_true rfl) rfl (fun v S145 p144 => ?_)
                      obtain ⟨⟨I146, F147⟩, rfl⟩ := p144
                      have F148 : kw_F [0] σ S145 := kw_F.tr F131 F147 (by decide)
                      show kw_AW l 5 kw_E0 KM mX8_digest (p_X8_digest_0 T σ) 87 [(2, .int x128), (1, .int x18), (0, .ref 0)] [] S145
                      refine kw_iinc' (pc := 87) (i := 49) (k := 0) (fun z => [(2, .int z), (1, .int x18), (0, .ref 0)]) rfl rfl (by decide) rfl (fun _ => rfl) (fun z149 e_z149 t_z149 => ?_)
                      first | (have u_z149 : z149.toInt = x128.toInt + 1 := (by omega); clear t_z149) | skip
                      refine kw_goto (pc := 90) (i := 50) (tgt := 67) rfl rfl ?_
                      refine kw_sub (lv' := [(2, .int z149), (1, .int x18), (0, .ref 0)]) [0, 1, 2] rfl ?_
                      exact ih133 z149 S145 I146 F148 (by omega) (by omega)
                exact L132 _ 0 S124 I125 F127 (by omega) (Nat.lt_succ_self _)
        exact L22 _ 0 S14 I15 F17 (by omega) (Nat.lt_succ_self _)
      · refine kw_aload_n (pc := 15) (i := 8) (k := 1) (n := 0) rfl rfl rfl ?_
        refine kw_aload_n (pc := 16) (i := 9) (k := 1) (n := 0) rfl rfl rfl ?_
        refine kw_iload_n (pc := 17) (i := 10) (k := 0) (n := 1) rfl rfl rfl ?_
        refine kw_callV (pc := 18) (i := 11) (Y := mX8_tells) (a := 0) (As := [.int x3]) (st := [.ref 0]) kw_hE rfl rfl lvX8_301 arX8_tells (c_X8_tells_0 l T (by omega) (by omega) S4 I5 x3 ) (by decide) (Nat.le_of_ble_eq_true rfl) rfl (fun v S151 p150 => ?_)
        obtain ⟨e153, z152, rfl⟩ := p150
        rw [e153]
        have r_z152 := kw_rng z152
        show kw_AW l 5 kw_E0 KM mX8_digest (p_X8_digest_0 T σ) 21 [(1, .int x3), (0, .ref 0)] [.int z152, .ref 0] S4
        refine kw_callV (pc := 21) (i := 12) (Y := mX8_mix) (a := 0) (As := [.int z152]) (st := []) kw_hE rfl rfl lvX8_309 arX8_mix (c_X8_mix_0 l T (by omega) (by omega) S4 I5 z152 ) (by decide) (Nat.le_of_ble_eq_true rfl) rfl (fun v S155 p154 => ?_)
        obtain ⟨⟨I156, F157⟩, rfl⟩ := p154
        have F158 : kw_F [0] σ S155 := kw_F.tr F6 F157 (by decide)
        show kw_AW l 5 kw_E0 KM mX8_digest (p_X8_digest_0 T σ) 24 [(1, .int x3), (0, .ref 0)] [] S155
        refine kw_iinc' (pc := 24) (i := 13) (k := 0) (fun z => [(1, .int z), (0, .ref 0)]) rfl rfl (by decide) rfl (fun _ => rfl) (fun z159 e_z159 t_z159 => ?_)
        first | (have u_z159 : z159.toInt = x3.toInt + 1 := (by omega); clear t_z159) | skip
        refine kw_goto (pc := 27) (i := 14) (tgt := 9) rfl rfl ?_
        refine kw_sub (lv' := [(1, .int z159), (0, .ref 0)]) [0, 1] rfl ?_
        exact ih8 z159 S155 I156 F158 (by omega) (by omega)
  exact L7 _ 0 (kw_ul σ 0 36 17) I1 F2 (by omega) (Nat.lt_succ_self _)
