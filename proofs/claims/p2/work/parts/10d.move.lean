abbrev p_X3_move_1 (σ : kw_S) (k : Int32) (i : Int32) (t : Int32) (j : Int32) (n : Int32) : Option Value → kw_S → Prop := fun v σ' => (kw_I bX σ' ∧ kw_F [29, 30, 31, 32, 33, 34] σ σ') ∧ v = none
set_option maxRecDepth 100000 in
set_option maxHeartbeats 4000000 in
theorem c_X3_move_1 (l : Launch) (σ : kw_S) (hI : kw_I bX σ) (k : Int32) (i : Int32) (t : Int32) (j : Int32) (n : Int32) : kw_Met l 3 KX mX3_move [.ref 1, .int k, .int i, .int t, .int j, .int n] σ (p_X3_move_1 σ k i t j n) := by
  have r_k := kw_rng k
  have r_i := kw_rng i
  have r_t := kw_rng t
  have r_j := kw_rng j
  have r_n := kw_rng n
  have hF0 : kw_F [29, 30, 31, 32, 33, 34] σ σ := kw_F.rf
  refine kw_Met.of (by decide) rfl tX3_move (Nat.le_of_ble_eq_true rfl) ?_
  show kw_AW l 3 kw_E0 KX mX3_move (p_X3_move_1 σ k i t j n) 0 [(0, .ref 1), (1, .int k), (2, .int i), (3, .int t), (4, .int j), (5, .int n)] [] σ
  refine kw_aload_n (pc := 0) (i := 0) (k := 0) (n := 0) rfl rfl rfl ?_
  refine kw_iload_n (pc := 1) (i := 1) (k := 1) (n := 1) rfl rfl rfl ?_
  refine kw_iload_n (pc := 2) (i := 2) (k := 2) (n := 2) rfl rfl rfl ?_
  refine kw_iload (pc := 3) (i := 3) (k := 5) (n := 5) rfl rfl ?_
  refine kw_callV (pc := 5) (i := 4) (Y := mX3_hasPlaces) (a := 1) (As := [.int k, .int i, .int n]) (st := []) kw_hE rfl rfl lvX3_41 arX3_hasPlaces (c_X3_hasPlaces_1 l σ hI k i n ) (by decide) (Nat.le_of_ble_eq_true rfl) rfl (fun v S2 p1 => ?_)
  obtain ⟨e6, z5, rfl, f3, f4⟩ := p1
  rw [e6]
  have r_z5 := kw_rng z5
  show kw_AW l 3 kw_E0 KX mX3_move (p_X3_move_1 σ k i t j n) 8 [(0, .ref 1), (1, .int k), (2, .int i), (3, .int t), (4, .int j), (5, .int n)] [.int z5] σ
  refine kw_if_eq (pc := 8) (i := 5) (tgt := 43) rfl rfl (fun c7 => ?_) (fun c7 => ?_)
  · exact kw_return (pc := 43) (i := 24) rfl rfl ⟨⟨hI, hF0⟩, rfl⟩
  · refine kw_aload_n (pc := 11) (i := 6) (k := 0) (n := 0) rfl rfl rfl ?_
    refine kw_iload_n (pc := 12) (i := 7) (k := 3) (n := 3) rfl rfl rfl ?_
    refine kw_iload (pc := 13) (i := 8) (k := 4) (n := 4) rfl rfl ?_
    refine kw_iload (pc := 15) (i := 9) (k := 5) (n := 5) rfl rfl ?_
    refine kw_callV (pc := 17) (i := 10) (Y := mX3_hasPlaces) (a := 1) (As := [.int t, .int j, .int n]) (st := []) kw_hE rfl rfl lvX3_41 arX3_hasPlaces (c_X3_hasPlaces_1 l σ hI t j n ) (by decide) (Nat.le_of_ble_eq_true rfl) rfl (fun v S9 p8 => ?_)
    obtain ⟨e13, z12, rfl, f10, f11⟩ := p8
    rw [e13]
    have r_z12 := kw_rng z12
    show kw_AW l 3 kw_E0 KX mX3_move (p_X3_move_1 σ k i t j n) 20 [(0, .ref 1), (1, .int k), (2, .int i), (3, .int t), (4, .int j), (5, .int n)] [.int z12] σ
    refine kw_if_eq (pc := 20) (i := 11) (tgt := 43) rfl rfl (fun c14 => ?_) (fun c14 => ?_)
    · exact kw_return (pc := 43) (i := 24) rfl rfl ⟨⟨hI, hF0⟩, rfl⟩
    · refine kw_aload_n (pc := 23) (i := 12) (k := 0) (n := 0) rfl rfl rfl ?_
      refine kw_get (pc := 24) (i := 13) (v := .ref 12) rfl rfl rfl lkX3_17 (fun _ => rfl) ?_
      refine kw_iload_n (pc := 27) (i := 14) (k := 1) (n := 1) rfl rfl rfl ?_
      have w15 : k.toInt = 0 ∨ k.toInt = 1 ∨ k.toInt = 2 ∨ k.toInt = 3 ∨ k.toInt = 4 ∨ k.toInt = 5 := by omega
      rcases w15 with w15 | w15 | w15 | w15 | w15 | w15
      · have e_w15 : k.toNatClampNeg = 0 := by have := kw_clampI (x := k) (by omega); omega
        refine kw_aald (pc := 28) (i := 15) (b := 29) rfl rfl (by decide) (by omega) (by rw [e_w15]; rfl) ?_
        refine kw_iload_n (pc := 29) (i := 16) (k := 2) (n := 2) rfl rfl rfl ?_
        refine kw_aload_n (pc := 30) (i := 17) (k := 0) (n := 0) rfl rfl rfl ?_
        refine kw_get (pc := 31) (i := 18) (v := .ref 12) rfl rfl rfl lkX3_17 (fun _ => rfl) ?_
        refine kw_iload_n (pc := 34) (i := 19) (k := 3) (n := 3) rfl rfl rfl ?_
        have w16 : t.toInt = 0 ∨ t.toInt = 1 ∨ t.toInt = 2 ∨ t.toInt = 3 ∨ t.toInt = 4 ∨ t.toInt = 5 := by omega
        rcases w16 with w16 | w16 | w16 | w16 | w16 | w16
        · have e_w16 : t.toNatClampNeg = 0 := by have := kw_clampI (x := t) (by omega); omega
          refine kw_aald (pc := 35) (i := 20) (b := 29) rfl rfl (by decide) (by omega) (by rw [e_w16]; rfl) ?_
          refine kw_iload (pc := 36) (i := 21) (k := 4) (n := 4) rfl rfl ?_
          refine kw_iload (pc := 38) (i := 22) (k := 5) (n := 5) rfl rfl ?_
          refine kw_copy (pc := 40) (i := 23) (n := 40) (m_ := 40) rfl laX3_45 rfl rfl (by omega) (by omega) (by omega) (by omega) (by omega) (by omega) (Nat.le_of_ble_eq_true rfl) ?_
          have I17 : kw_I bX (kw_ua σ 29 (va_cpy (σ.1 29) (σ.1 29) (i.toNatClampNeg) (j.toNatClampNeg) (n.toNatClampNeg))) := kw_I_ua hI (fun j => ⟨(kw_rng _).1, Int.le_of_lt_add_one (kw_rng _).2⟩)
          have F18 : kw_F [29, 30, 31, 32, 33, 34] σ (kw_ua σ 29 (va_cpy (σ.1 29) (σ.1 29) (i.toNatClampNeg) (j.toNatClampNeg) (n.toNatClampNeg))) := kw_F_ua hF0 (by decide)
          generalize (kw_ua σ 29 (va_cpy (σ.1 29) (σ.1 29) (i.toNatClampNeg) (j.toNatClampNeg) (n.toNatClampNeg))) = S19 at I17 F18 ⊢
          exact kw_return (pc := 43) (i := 24) rfl rfl ⟨⟨I17, F18⟩, rfl⟩
        · have e_w16 : t.toNatClampNeg = 1 := by have := kw_clampI (x := t) (by omega); omega
          refine kw_aald (pc := 35) (i := 20) (b := 30) rfl rfl (by decide) (by omega) (by rw [e_w16]; rfl) ?_
          refine kw_iload (pc := 36) (i := 21) (k := 4) (n := 4) rfl rfl ?_
          refine kw_iload (pc := 38) (i := 22) (k := 5) (n := 5) rfl rfl ?_
          refine kw_copy (pc := 40) (i := 23) (n := 40) (m_ := 40) rfl laX3_45 rfl rfl (by omega) (by omega) (by omega) (by omega) (by omega) (by omega) (Nat.le_of_ble_eq_true rfl) ?_
          have I20 : kw_I bX (kw_ua σ 30 (va_cpy (σ.1 29) (σ.1 30) (i.toNatClampNeg) (j.toNatClampNeg) (n.toNatClampNeg))) := kw_I_ua hI (fun j => ⟨(kw_rng _).1, Int.le_of_lt_add_one (kw_rng _).2⟩)
          have F21 : kw_F [29, 30, 31, 32, 33, 34] σ (kw_ua σ 30 (va_cpy (σ.1 29) (σ.1 30) (i.toNatClampNeg) (j.toNatClampNeg) (n.toNatClampNeg))) := kw_F_ua hF0 (by decide)
          generalize (kw_ua σ 30 (va_cpy (σ.1 29) (σ.1 30) (i.toNatClampNeg) (j.toNatClampNeg) (n.toNatClampNeg))) = S22 at I20 F21 ⊢
          exact kw_return (pc := 43) (i := 24) rfl rfl ⟨⟨I20, F21⟩, rfl⟩
        · have e_w16 : t.toNatClampNeg = 2 := by have := kw_clampI (x := t) (by omega); omega
          refine kw_aald (pc := 35) (i := 20) (b := 31) rfl rfl (by decide) (by omega) (by rw [e_w16]; rfl) ?_
          refine kw_iload (pc := 36) (i := 21) (k := 4) (n := 4) rfl rfl ?_
          refine kw_iload (pc := 38) (i := 22) (k := 5) (n := 5) rfl rfl ?_
          refine kw_copy (pc := 40) (i := 23) (n := 40) (m_ := 40) rfl laX3_45 rfl rfl (by omega) (by omega) (by omega) (by omega) (by omega) (by omega) (Nat.le_of_ble_eq_true rfl) ?_
          have I23 : kw_I bX (kw_ua σ 31 (va_cpy (σ.1 29) (σ.1 31) (i.toNatClampNeg) (j.toNatClampNeg) (n.toNatClampNeg))) := kw_I_ua hI (fun j => ⟨(kw_rng _).1, Int.le_of_lt_add_one (kw_rng _).2⟩)
          have F24 : kw_F [29, 30, 31, 32, 33, 34] σ (kw_ua σ 31 (va_cpy (σ.1 29) (σ.1 31) (i.toNatClampNeg) (j.toNatClampNeg) (n.toNatClampNeg))) := kw_F_ua hF0 (by decide)
          generalize (kw_ua σ 31 (va_cpy (σ.1 29) (σ.1 31) (i.toNatClampNeg) (j.toNatClampNeg) (n.toNatClampNeg))) = S25 at I23 F24 ⊢
          exact kw_return (pc := 43) (i := 24) rfl rfl ⟨⟨I23, F24⟩, rfl⟩
        · have e_w16 : t.toNatClampNeg = 3 := by have := kw_clampI (x := t) (by omega); omega
          refine kw_aald (pc := 35) (i := 20) (b := 32) rfl rfl (by decide) (by omega) (by rw [e_w16]; rfl) ?_
          refine kw_iload (pc := 36) (i := 21) (k := 4) (n := 4) rfl rfl ?_
          refine kw_iload (pc := 38) (i := 22) (k := 5) (n := 5) rfl rfl ?_
          refine kw_copy (pc := 40) (i := 23) (n := 40) (m_ := 40) rfl laX3_45 rfl rfl (by omega) (by omega) (by omega) (by omega) (by omega) (by omega) (Nat.le_of_ble_eq_true rfl) ?_
          have I26 : kw_I bX (kw_ua σ 32 (va_cpy (σ.1 29) (σ.1 32) (i.toNatClampNeg) (j.toNatClampNeg) (n.toNatClampNeg))) := kw_I_ua hI (fun j => ⟨(kw_rng _).1, Int.le_of_lt_add_one (kw_rng _).2⟩)
          have F27 : kw_F [29, 30, 31, 32, 33, 34] σ (kw_ua σ 32 (va_cpy (σ.1 29) (σ.1 32) (i.toNatClampNeg) (j.toNatClampNeg) (n.toNatClampNeg))) := kw_F_ua hF0 (by decide)
          generalize (kw_ua σ 32 (va_cpy (σ.1 29) (σ.1 32) (i.toNatClampNeg) (j.toNatClampNeg) (n.toNatClampNeg))) = S28 at I26 F27 ⊢
          exact kw_return (pc := 43) (i := 24) rfl rfl ⟨⟨I26, F27⟩, rfl⟩
        · have e_w16 : t.toNatClampNeg = 4 := by have := kw_clampI (x := t) (by omega); omega
          refine kw_aald (pc := 35) (i := 20) (b := 33) rfl rfl (by decide) (by omega) (by rw [e_w16]; rfl) ?_
          refine kw_iload (pc := 36) (i := 21) (k := 4) (n := 4) rfl rfl ?_
          refine kw_iload (pc := 38) (i := 22) (k := 5) (n := 5) rfl rfl ?_
          refine kw_copy (pc := 40) (i := 23) (n := 40) (m_ := 40) rfl laX3_45 rfl rfl (by omega) (by omega) (by omega) (by omega) (by omega) (by omega) (Nat.le_of_ble_eq_true rfl) ?_
          have I29 : kw_I bX (kw_ua σ 33 (va_cpy (σ.1 29) (σ.1 33) (i.toNatClampNeg) (j.toNatClampNeg) (n.toNatClampNeg))) := kw_I_ua hI (fun j => ⟨(kw_rng _).1, Int.le_of_lt_add_one (kw_rng _).2⟩)
          have F30 : kw_F [29, 30, 31, 32, 33, 34] σ (kw_ua σ 33 (va_cpy (σ.1 29) (σ.1 33) (i.toNatClampNeg) (j.toNatClampNeg) (n.toNatClampNeg))) := kw_F_ua hF0 (by decide)
          generalize (kw_ua σ 33 (va_cpy (σ.1 29) (σ.1 33) (i.toNatClampNeg) (j.toNatClampNeg) (n.toNatClampNeg))) = S31 at I29 F30 ⊢
          exact kw_return (pc := 43) (i := 24) rfl rfl ⟨⟨I29, F30⟩, rfl⟩
        · have e_w16 : t.toNatClampNeg = 5 := by have := kw_clampI (x := t) (by omega); omega
          refine kw_aald (pc := 35) (i := 20) (b := 34) rfl rfl (by decide) (by omega) (by rw [e_w16]; rfl) ?_
          refine kw_iload (pc := 36) (i := 21) (k := 4) (n := 4) rfl rfl ?_
          refine kw_iload (pc := 38) (i := 22) (k := 5) (n := 5) rfl rfl ?_
          refine kw_copy (pc := 40) (i := 23) (n := 40) (m_ := 40) rfl laX3_45 rfl rfl (by omega) (by omega) (by omega) (by omega) (by omega) (by omega) (Nat.le_of_ble_eq_true rfl) ?_
          have I32 : kw_I bX (kw_ua σ 34 (va_cpy (σ.1 29) (σ.1 34) (i.toNatClampNeg) (j.toNatClampNeg) (n.toNatClampNeg))) := kw_I_ua hI (fun j => ⟨(kw_rng _).1, Int.le_of_lt_add_one (kw_rng _).2⟩)
          have F33 : kw_F [29, 30, 31, 32, 33, 34] σ (kw_ua σ 34 (va_cpy (σ.1 29) (σ.1 34) (i.toNatClampNeg) (j.toNatClampNeg) (n.toNatClampNeg))) := kw_F_ua hF0 (by decide)
          generalize (kw_ua σ 34 (va_cpy (σ.1 29) (σ.1 34) (i.toNatClampNeg) (j.toNatClampNeg) (n.toNatClampNeg))) = S34 at I32 F33 ⊢
          exact kw_return (pc := 43) (i := 24) rfl rfl ⟨⟨I32, F33⟩, rfl⟩
      · have e_w15 : k.toNatClampNeg = 1 := by have := kw_clampI (x := k) (by omega); omega
        refine kw_aald (pc := 28) (i := 15) (b := 30) rfl rfl (by decide) (by omega) (by rw [e_w15]; rfl) ?_
        refine kw_iload_n (pc := 29) (i := 16) (k := 2) (n := 2) rfl rfl rfl ?_
        refine kw_aload_n (pc := 30) (i := 17) (k := 0) (n := 0) rfl rfl rfl ?_
        refine kw_get (pc := 31) (i := 18) (v := .ref 12) rfl rfl rfl lkX3_17 (fun _ => rfl) ?_
        refine kw_iload_n (pc := 34) (i := 19) (k := 3) (n := 3) rfl rfl rfl ?_
        have w35 : t.toInt = 0 ∨ t.toInt = 1 ∨ t.toInt = 2 ∨ t.toInt = 3 ∨ t.toInt = 4 ∨ t.toInt = 5 := by omega
        rcases w35 with w35 | w35 | w35 | w35 | w35 | w35
        · have e_w35 : t.toNatClampNeg = 0 := by have := kw_clampI (x := t) (by omega); omega
          refine kw_aald (pc := 35) (i := 20) (b := 29) rfl rfl (by decide) (by omega) (by rw [e_w35]; rfl) ?_
          refine kw_iload (pc := 36) (i := 21) (k := 4) (n := 4) rfl rfl ?_
          refine kw_iload (pc := 38) (i := 22) (k := 5) (n := 5) rfl rfl ?_
          refine kw_copy (pc := 40) (i := 23) (n := 40) (m_ := 40) rfl laX3_45 rfl rfl (by omega) (by omega) (by omega) (by omega) (by omega) (by omega) (Nat.le_of_ble_eq_true rfl) ?_
          have I36 : kw_I bX (kw_ua σ 29 (va_cpy (σ.1 30) (σ.1 29) (i.toNatClampNeg) (j.toNatClampNeg) (n.toNatClampNeg))) := kw_I_ua hI (fun j => ⟨(kw_rng _).1, Int.le_of_lt_add_one (kw_rng _).2⟩)
          have F37 : kw_F [29, 30, 31, 32, 33, 34] σ (kw_ua σ 29 (va_cpy (σ.1 30) (σ.1 29) (i.toNatClampNeg) (j.toNatClampNeg) (n.toNatClampNeg))) := kw_F_ua hF0 (by decide)
          generalize (kw_ua σ 29 (va_cpy (σ.1 30) (σ.1 29) (i.toNatClampNeg) (j.toNatClampNeg) (n.toNatClampNeg))) = S38 at I36 F37 ⊢
          exact kw_return (pc := 43) (i := 24) rfl rfl ⟨⟨I36, F37⟩, rfl⟩
        · have e_w35 : t.toNatClampNeg = 1 := by have := kw_clampI (x := t) (by omega); omega
          refine kw_aald (pc := 35) (i := 20) (b := 30) rfl rfl (by decide) (by omega) (by rw [e_w35]; rfl) ?_
          refine kw_iload (pc := 36) (i := 21) (k := 4) (n := 4) rfl rfl ?_
          refine kw_iload (pc := 38) (i := 22) (k := 5) (n := 5) rfl rfl ?_
          refine kw_copy (pc := 40) (i := 23) (n := 40) (m_ := 40) rfl laX3_45 rfl rfl (by omega) (by omega) (by omega) (by omega) (by omega) (by omega) (Nat.le_of_ble_eq_true rfl) ?_
          have I39 : kw_I bX (kw_ua σ 30 (va_cpy (σ.1 30) (σ.1 30) (i.toNatClampNeg) (j.toNatClampNeg) (n.toNatClampNeg))) := kw_I_ua hI (fun j => ⟨(kw_rng _).1, Int.le_of_lt_add_one (kw_rng _).2⟩)
          have F40 : kw_F [29, 30, 31, 32, 33, 34] σ (kw_ua σ 30 (va_cpy (σ.1 30) (σ.1 30) (i.toNatClampNeg) (j.toNatClampNeg) (n.toNatClampNeg))) := kw_F_ua hF0 (by decide)
          generalize (kw_ua σ 30 (va_cpy (σ.1 30) (σ.1 30) (i.toNatClampNeg) (j.toNatClampNeg) (n.toNatClampNeg))) = S41 at I39 F40 ⊢
          exact kw_return (pc := 43) (i := 24) rfl rfl ⟨⟨I39, F40⟩, rfl⟩
        · have e_w35 : t.toNatClampNeg = 2 := by have := kw_clampI (x := t) (by omega); omega
          refine kw_aald (pc := 35) (i := 20) (b := 31) rfl rfl (by decide) (by omega) (by rw [e_w35]; rfl) ?_
          refine kw_iload (pc := 36) (i := 21) (k := 4) (n := 4) rfl rfl ?_
          refine kw_iload (pc := 38) (i := 22) (k := 5) (n := 5) rfl rfl ?_
          refine kw_copy (pc := 40) (i := 23) (n := 40) (m_ := 40) rfl laX3_45 rfl rfl (by omega) (by omega) (by omega) (by omega) (by omega) (by omega) (Nat.le_of_ble_eq_true rfl) ?_
          have I42 : kw_I bX (kw_ua σ 31 (va_cpy (σ.1 30) (σ.1 31) (i.toNatClampNeg) (j.toNatClampNeg) (n.toNatClampNeg))) := kw_I_ua hI (fun j => ⟨(kw_rng _).1, Int.le_of_lt_add_one (kw_rng _).2⟩)
          have F43 : kw_F [29, 30, 31, 32, 33, 34] σ (kw_ua σ 31 (va_cpy (σ.1 30) (σ.1 31) (i.toNatClampNeg) (j.toNatClampNeg) (n.toNatClampNeg))) := kw_F_ua hF0 (by decide)
          generalize (kw_ua σ 31 (va_cpy (σ.1 30) (σ.1 31) (i.toNatClampNeg) (j.toNatClampNeg) (n.toNatClampNeg))) = S44 at I42 F43 ⊢
          exact kw_return (pc := 43) (i := 24) rfl rfl ⟨⟨I42, F43⟩, rfl⟩
        · have e_w35 : t.toNatClampNeg = 3 := by have := kw_clampI (x := t) (by omega); omega
          refine kw_aald (pc := 35) (i := 20) (b := 32) rfl rfl (by decide) (by omega) (by rw [e_w35]; rfl) ?_
          refine kw_iload (pc := 36) (i := 21) (k := 4) (n := 4) rfl rfl ?_
          refine kw_iload (pc := 38) (i := 22) (k := 5) (n := 5) rfl rfl ?_
          refine kw_copy (pc := 40) (i := 23) (n := 40) (m_ := 40) rfl laX3_45 rfl rfl (by omega) (by omega) (by omega) (by omega) (by omega) (by omega) (Nat.le_of_ble_eq_true rfl) ?_
          have I45 : kw_I bX (kw_ua σ 32 (va_cpy (σ.1 30) (σ.1 32) (i.toNatClampNeg) (j.toNatClampNeg) (n.toNatClampNeg))) := kw_I_ua hI (fun j => ⟨(kw_rng _).1, Int.le_of_lt_add_one (kw_rng _).2⟩)
          have F46 : kw_F [29, 30, 31, 32, 33, 34] σ (kw_ua σ 32 (va_cpy (σ.1 30) (σ.1 32) (i.toNatClampNeg) (j.toNatClampNeg) (n.toNatClampNeg))) := kw_F_ua hF0 (by decide)
          generalize (kw_ua σ 32 (va_cpy (σ.1 30) (σ.1 32) (i.toNatClampNeg) (j.toNatClampNeg) (n.toNatClampNeg))) = S47 at I45 F46 ⊢
          exact kw_return (pc := 43) (i := 24) rfl rfl ⟨⟨I45, F46⟩, rfl⟩
        · have e_w35 : t.toNatClampNeg = 4 := by have := kw_clampI (x := t) (by omega); omega
          refine kw_aald (pc := 35) (i := 20) (b := 33) rfl rfl (by decide) (by omega) (by rw [e_w35]; rfl) ?_
          refine kw_iload (pc := 36) (i := 21) (k := 4) (n := 4) rfl rfl ?_
          refine kw_iload (pc := 38) (i := 22) (k := 5) (n := 5) rfl rfl ?_
          refine kw_copy (pc := 40) (i := 23) (n := 40) (m_ := 40) rfl laX3_45 rfl rfl (by omega) (by omega) (by omega) (by omega) (by omega) (by omega) (Nat.le_of_ble_eq_true rfl) ?_
          have I48 : kw_I bX (kw_ua σ 33 (va_cpy (σ.1 30) (σ.1 33) (i.toNatClampNeg) (j.toNatClampNeg) (n.toNatClampNeg))) := kw_I_ua hI (fun j => ⟨(kw_rng _).1, Int.le_of_lt_add_one (kw_rng _).2⟩)
          have F49 : kw_F [29, 30, 31, 32, 33, 34] σ (kw_ua σ 33 (va_cpy (σ.1 30) (σ.1 33) (i.toNatClampNeg) (j.toNatClampNeg) (n.toNatClampNeg))) := kw_F_ua hF0 (by decide)
          generalize (kw_ua σ 33 (va_cpy (σ.1 30) (σ.1 33) (i.toNatClampNeg) (j.toNatClampNeg) (n.toNatClampNeg))) = S50 at I48 F49 ⊢
          exact kw_return (pc := 43) (i := 24) rfl rfl ⟨⟨I48, F49⟩, rfl⟩
        · have e_w35 : t.toNatClampNeg = 5 := by have := kw_clampI (x := t) (by omega); omega
          refine kw_aald (pc := 35) (i := 20) (b := 34) rfl rfl (by decide) (by omega) (by rw [e_w35]; rfl) ?_
          refine kw_iload (pc := 36) (i := 21) (k := 4) (n := 4) rfl rfl ?_
          refine kw_iload (pc := 38) (i := 22) (k := 5) (n := 5) rfl rfl ?_
          refine kw_copy (pc := 40) (i := 23) (n := 40) (m_ := 40) rfl laX3_45 rfl rfl (by omega) (by omega) (by omega) (by omega) (by omega) (by omega) (Nat.le_of_ble_eq_true rfl) ?_
          have I51 : kw_I bX (kw_ua σ 34 (va_cpy (σ.1 30) (σ.1 34) (i.toNatClampNeg) (j.toNatClampNeg) (n.toNatClampNeg))) := kw_I_ua hI (fun j => ⟨(kw_rng _).1, Int.le_of_lt_add_one (kw_rng _).2⟩)
          have F52 : kw_F [29, 30, 31, 32, 33, 34] σ (kw_ua σ 34 (va_cpy (σ.1 30) (σ.1 34) (i.toNatClampNeg) (j.toNatClampNeg) (n.toNatClampNeg))) := kw_F_ua hF0 (by decide)
          generalize (kw_ua σ 34 (va_cpy (σ.1 30) (σ.1 34) (i.toNatClampNeg) (j.toNatClampNeg) (n.toNatClampNeg))) = S53 at I51 F52 ⊢
          exact kw_return (pc := 43) (i := 24) rfl rfl ⟨⟨I51, F52⟩, rfl⟩
      · have e_w15 : k.toNatClampNeg = 2 := by have := kw_clampI (x := k) (by omega); omega
        refine kw_aald (pc := 28) (i := 15) (b := 31) rfl rfl (by decide) (by omega) (by rw [e_w15]; rfl) ?_
        refine kw_iload_n (pc := 29) (i := 16) (k := 2) (n := 2) rfl rfl rfl ?_
        refine kw_aload_n (pc := 30) (i := 17) (k := 0) (n := 0) rfl rfl rfl ?_
        refine kw_get (pc := 31) (i := 18) (v := .ref 12) rfl rfl rfl lkX3_17 (fun _ => rfl) ?_
        refine kw_iload_n (pc := 34) (i := 19) (k := 3) (n := 3) rfl rfl rfl ?_
        have w54 : t.toInt = 0 ∨ t.toInt = 1 ∨ t.toInt = 2 ∨ t.toInt = 3 ∨ t.toInt = 4 ∨ t.toInt = 5 := by omega
        rcases w54 with w54 | w54 | w54 | w54 | w54 | w54
        · have e_w54 : t.toNatClampNeg = 0 := by have := kw_clampI (x := t) (by omega); omega
          refine kw_aald (pc := 35) (i := 20) (b := 29) rfl rfl (by decide) (by omega) (by rw [e_w54]; rfl) ?_
          refine kw_iload (pc := 36) (i := 21) (k := 4) (n := 4) rfl rfl ?_
          refine kw_iload (pc := 38) (i := 22) (k := 5) (n := 5) rfl rfl ?_
          refine kw_copy (pc := 40) (i := 23) (n := 40) (m_ := 40) rfl laX3_45 rfl rfl (by omega) (by omega) (by omega) (by omega) (by omega) (by omega) (Nat.le_of_ble_eq_true rfl) ?_
          have I55 : kw_I bX (kw_ua σ 29 (va_cpy (σ.1 31) (σ.1 29) (i.toNatClampNeg) (j.toNatClampNeg) (n.toNatClampNeg))) := kw_I_ua hI (fun j => ⟨(kw_rng _).1, Int.le_of_lt_add_one (kw_rng _).2⟩)
          have F56 : kw_F [29, 30, 31, 32, 33, 34] σ (kw_ua σ 29 (va_cpy (σ.1 31) (σ.1 29) (i.toNatClampNeg) (j.toNatClampNeg) (n.toNatClampNeg))) := kw_F_ua hF0 (by decide)
          generalize (kw_ua σ 29 (va_cpy (σ.1 31) (σ.1 29) (i.toNatClampNeg) (j.toNatClampNeg) (n.toNatClampNeg))) = S57 at I55 F56 ⊢
          exact kw_return (pc := 43) (i := 24) rfl rfl ⟨⟨I55, F56⟩, rfl⟩
        · have e_w54 : t.toNatClampNeg = 1 := by have := kw_clampI (x := t) (by omega); omega
          refine kw_aald (pc := 35) (i := 20) (b := 30) rfl rfl (by decide) (by omega) (by rw [e_w54]; rfl) ?_
          refine kw_iload (pc := 36) (i := 21) (k := 4) (n := 4) rfl rfl ?_
          refine kw_iload (pc := 38) (i := 22) (k := 5) (n := 5) rfl rfl ?_
          refine kw_copy (pc := 40) (i := 23) (n := 40) (m_ := 40) rfl laX3_45 rfl rfl (by omega) (by omega) (by omega) (by omega) (by omega) (by omega) (Nat.le_of_ble_eq_true rfl) ?_
          have I58 : kw_I bX (kw_ua σ 30 (va_cpy (σ.1 31) (σ.1 30) (i.toNatClampNeg) (j.toNatClampNeg) (n.toNatClampNeg))) := kw_I_ua hI (fun j => ⟨(kw_rng _).1, Int.le_of_lt_add_one (kw_rng _).2⟩)
          have F59 : kw_F [29, 30, 31, 32, 33, 34] σ (kw_ua σ 30 (va_cpy (σ.1 31) (σ.1 30) (i.toNatClampNeg) (j.toNatClampNeg) (n.toNatClampNeg))) := kw_F_ua hF0 (by decide)
          generalize (kw_ua σ 30 (va_cpy (σ.1 31) (σ.1 30) (i.toNatClampNeg) (j.toNatClampNeg) (n.toNatClampNeg))) = S60 at I58 F59 ⊢
          exact kw_return (pc := 43) (i := 24) rfl rfl ⟨⟨I58, F59⟩, rfl⟩
        · have e_w54 : t.toNatClampNeg = 2 := by have := kw_clampI (x := t) (by omega); omega
          refine kw_aald (pc := 35) (i := 20) (b := 31) rfl rfl (by decide) (by omega) (by rw [e_w54]; rfl) ?_
          refine kw_iload (pc := 36) (i := 21) (k := 4) (n := 4) rfl rfl ?_
          refine kw_iload (pc := 38) (i := 22) (k := 5) (n := 5) rfl rfl ?_
          refine kw_copy (pc := 40) (i := 23) (n := 40) (m_ := 40) rfl laX3_45 rfl rfl (by omega) (by omega) (by omega) (by omega) (by omega) (by omega) (Nat.le_of_ble_eq_true rfl) ?_
          have I61 : kw_I bX (kw_ua σ 31 (va_cpy (σ.1 31) (σ.1 31) (i.toNatClampNeg) (j.toNatClampNeg) (n.toNatClampNeg))) := kw_I_ua hI (fun j => ⟨(kw_rng _).1, Int.le_of_lt_add_one (kw_rng _).2⟩)
          have F62 : kw_F [29, 30, 31, 32, 33, 34] σ (kw_ua σ 31 (va_cpy (σ.1 31) (σ.1 31) (i.toNatClampNeg) (j.toNatClampNeg) (n.toNatClampNeg))) := kw_F_ua hF0 (by decide)
          generalize (kw_ua σ 31 (va_cpy (σ.1 31) (σ.1 31) (i.toNatClampNeg) (j.toNatClampNeg) (n.toNatClampNeg))) = S63 at I61 F62 ⊢
          exact kw_return (pc := 43) (i := 24) rfl rfl ⟨⟨I61, F62⟩, rfl⟩
        · have e_w54 : t.toNatClampNeg = 3 := by have := kw_clampI (x := t) (by omega); omega
          refine kw_aald (pc := 35) (i := 20) (b := 32) rfl rfl (by decide) (by omega) (by rw [e_w54]; rfl) ?_
          refine kw_iload (pc := 36) (i := 21) (k := 4) (n := 4) rfl rfl ?_
          refine kw_iload (pc := 38) (i := 22) (k := 5) (n := 5) rfl rfl ?_
          refine kw_copy (pc := 40) (i := 23) (n := 40) (m_ := 40) rfl laX3_45 rfl rfl (by omega) (by omega) (by omega) (by omega) (by omega) (by omega) (Nat.le_of_ble_eq_true rfl) ?_
          have I64 : kw_I bX (kw_ua σ 32 (va_cpy (σ.1 31) (σ.1 32) (i.toNatClampNeg) (j.toNatClampNeg) (n.toNatClampNeg))) := kw_I_ua hI (fun j => ⟨(kw_rng _).1, Int.le_of_lt_add_one (kw_rng _).2⟩)
          have F65 : kw_F [29, 30, 31, 32, 33, 34] σ (kw_ua σ 32 (va_cpy (σ.1 31) (σ.1 32) (i.toNatClampNeg) (j.toNatClampNeg) (n.toNatClampNeg))) := kw_F_ua hF0 (by decide)
          generalize (kw_ua σ 32 (va_cpy (σ.1 31) (σ.1 32) (i.toNatClampNeg) (j.toNatClampNeg) (n.toNatClampNeg))) = S66 at I64 F65 ⊢
          exact kw_return (pc := 43) (i := 24) rfl rfl ⟨⟨I64, F65⟩, rfl⟩
        · have e_w54 : t.toNatClampNeg = 4 := by have := kw_clampI (x := t) (by omega); omega
          refine kw_aald (pc := 35) (i := 20) (b := 33) rfl rfl (by decide) (by omega) (by rw [e_w54]; rfl) ?_
          refine kw_iload (pc := 36) (i := 21) (k := 4) (n := 4) rfl rfl ?_
          refine kw_iload (pc := 38) (i := 22) (k := 5) (n := 5) rfl rfl ?_
          refine kw_copy (pc := 40) (i := 23) (n := 40) (m_ := 40) rfl laX3_45 rfl rfl (by omega) (by omega) (by omega) (by omega) (by omega) (by omega) (Nat.le_of_ble_eq_true rfl) ?_
          have I67 : kw_I bX (kw_ua σ 33 (va_cpy (σ.1 31) (σ.1 33) (i.toNatClampNeg) (j.toNatClampNeg) (n.toNatClampNeg))) := kw_I_ua hI (fun j => ⟨(kw_rng _).1, Int.le_of_lt_add_one (kw_rng _).2⟩)
          have F68 : kw_F [29, 30, 31, 32, 33, 34] σ (kw_ua σ 33 (va_cpy (σ.1 31) (σ.1 33) (i.toNatClampNeg) (j.toNatClampNeg) (n.toNatClampNeg))) := kw_F_ua hF0 (by decide)
          generalize (kw_ua σ 33 (va_cpy (σ.1 31) (σ.1 33) (i.toNatClampNeg) (j.toNatClampNeg) (n.toNatClampNeg))) = S69 at I67 F68 ⊢
          exact kw_return (pc := 43) (i := 24) rfl rfl ⟨⟨I67, F68⟩, rfl⟩
        · have e_w54 : t.toNatClampNeg = 5 := by have := kw_clampI (x := t) (by omega); omega
          refine kw_aald (pc := 35) (i := 20) (b := 34) rfl rfl (by decide) (by omega) (by rw [e_w54]; rfl) ?_
          refine kw_iload (pc := 36) (i := 21) (k := 4) (n := 4) rfl rfl ?_
          refine kw_iload (pc := 38) (i := 22) (k := 5) (n := 5) rfl rfl ?_
          refine kw_copy (pc := 40) (i := 23) (n := 40) (m_ := 40) rfl laX3_45 rfl rfl (by omega) (by omega) (by omega) (by omega) (by omega) (by omega) (Nat.le_of_ble_eq_true rfl) ?_
          have I70 : kw_I bX (kw_ua σ 34 (va_cpy (σ.1 31) (σ.1 34) (i.toNatClampNeg) (j.toNatClampNeg) (n.toNatClampNeg))) := kw_I_ua hI (fun j => ⟨(kw_rng _).1, Int.le_of_lt_add_one (kw_rng _).2⟩)
          have F71 : kw_F [29, 30, 31, 32, 33, 34] σ (kw_ua σ 34 (va_cpy (σ.1 31) (σ.1 34) (i.toNatClampNeg) (j.toNatClampNeg) (n.toNatClampNeg))) := kw_F_ua hF0 (by decide)
          generalize (kw_ua σ 34 (va_cpy (σ.1 31) (σ.1 34) (i.toNatClampNeg) (j.toNatClampNeg) (n.toNatClampNeg))) = S72 at I70 F71 ⊢
          exact kw_return (pc := 43) (i := 24) rfl rfl ⟨⟨I70, F71⟩, rfl⟩
      · have e_w15 : k.toNatClampNeg = 3 := by have := kw_clampI (x := k) (by omega); omega
        refine kw_aald (pc := 28) (i := 15) (b := 32) rfl rfl (by decide) (by omega) (by rw [e_w15]; rfl) ?_
        refine kw_iload_n (pc := 29) (i := 16) (k := 2) (n := 2) rfl rfl rfl ?_
        refine kw_aload_n (pc := 30) (i := 17) (k := 0) (n := 0) rfl rfl rfl ?_
        refine kw_get (pc := 31) (i := 18) (v := .ref 12) rfl rfl rfl lkX3_17 (fun _ => rfl) ?_
        refine kw_iload_n (pc := 34) (i := 19) (k := 3) (n := 3) rfl rfl rfl ?_
        have w73 : t.toInt = 0 ∨ t.toInt = 1 ∨ t.toInt = 2 ∨ t.toInt = 3 ∨ t.toInt = 4 ∨ t.toInt = 5 := by omega
        rcases w73 with w73 | w73 | w73 | w73 | w73 | w73
        · have e_w73 : t.toNatClampNeg = 0 := by have := kw_clampI (x := t) (by omega); omega
          refine kw_aald (pc := 35) (i := 20) (b := 29) rfl rfl (by decide) (by omega) (by rw [e_w73]; rfl) ?_
          refine kw_iload (pc := 36) (i := 21) (k := 4) (n := 4) rfl rfl ?_
          refine kw_iload (pc := 38) (i := 22) (k := 5) (n := 5) rfl rfl ?_
          refine kw_copy (pc := 40) (i := 23) (n := 40) (m_ := 40) rfl laX3_45 rfl rfl (by omega) (by omega) (by omega) (by omega) (by omega) (by omega) (Nat.le_of_ble_eq_true rfl) ?_
          have I74 : kw_I bX (kw_ua σ 29 (va_cpy (σ.1 32) (σ.1 29) (i.toNatClampNeg) (j.toNatClampNeg) (n.toNatClampNeg))) := kw_I_ua hI (fun j => ⟨(kw_rng _).1, Int.le_of_lt_add_one (kw_rng _).2⟩)
          have F75 : kw_F [29, 30, 31, 32, 33, 34] σ (kw_ua σ 29 (va_cpy (σ.1 32) (σ.1 29) (i.toNatClampNeg) (j.toNatClampNeg) (n.toNatClampNeg))) := kw_F_ua hF0 (by decide)
          generalize (kw_ua σ 29 (va_cpy (σ.1 32) (σ.1 29) (i.toNatClampNeg) (j.toNatClampNeg) (n.toNatClampNeg))) = S76 at I74 F75 ⊢
          exact kw_return (pc := 43) (i := 24) rfl rfl ⟨⟨I74, F75⟩, rfl⟩
        · have e_w73 : t.toNatClampNeg = 1 := by have := kw_clampI (x := t) (by omega); omega
          refine kw_aald (pc := 35) (i := 20) (b := 30) rfl rfl (by decide) (by omega) (by rw [e_w73]; rfl) ?_
          refine kw_iload (pc := 36) (i := 21) (k := 4) (n := 4) rfl rfl ?_
          refine kw_iload (pc := 38) (i := 22) (k := 5) (n := 5) rfl rfl ?_
          refine kw_copy (pc := 40) (i := 23) (n := 40) (m_ := 40) rfl laX3_45 rfl rfl (by omega) (by omega) (by omega) (by omega) (by omega) (by omega) (Nat.le_of_ble_eq_true rfl) ?_
          have I77 : kw_I bX (kw_ua σ 30 (va_cpy (σ.1 32) (σ.1 30) (i.toNatClampNeg) (j.toNatClampNeg) (n.toNatClampNeg))) := kw_I_ua hI (fun j => ⟨(kw_rng _).1, Int.le_of_lt_add_one (kw_rng _).2⟩)
          have F78 : kw_F [29, 30, 31, 32, 33, 34] σ (kw_ua σ 30 (va_cpy (σ.1 32) (σ.1 30) (i.toNatClampNeg) (j.toNatClampNeg) (n.toNatClampNeg))) := kw_F_ua hF0 (by decide)
          generalize (kw_ua σ 30 (va_cpy (σ.1 32) (σ.1 30) (i.toNatClampNeg) (j.toNatClampNeg) (n.toNatClampNeg))) = S79 at I77 F78 ⊢
          exact kw_return (pc := 43) (i := 24) rfl rfl ⟨⟨I77, F78⟩, rfl⟩
        · have e_w73 : t.toNatClampNeg = 2 := by have := kw_clampI (x := t) (by omega); omega
          refine kw_aald (pc := 35) (i := 20) (b := 31) rfl rfl (by decide) (by omega) (by rw [e_w73]; rfl) ?_
          refine kw_iload (pc := 36) (i := 21) (k := 4) (n := 4) rfl rfl ?_
          refine kw_iload (pc := 38) (i := 22) (k := 5) (n := 5) rfl rfl ?_
          refine kw_copy (pc := 40) (i := 23) (n := 40) (m_ := 40) rfl laX3_45 rfl rfl (by omega) (by omega) (by omega) (by omega) (by omega) (by omega) (Nat.le_of_ble_eq_true rfl) ?_
          have I80 : kw_I bX (kw_ua σ 31 (va_cpy (σ.1 32) (σ.1 31) (i.toNatClampNeg) (j.toNatClampNeg) (n.toNatClampNeg))) := kw_I_ua hI (fun j => ⟨(kw_rng _).1, Int.le_of_lt_add_one (kw_rng _).2⟩)
          have F81 : kw_F [29, 30, 31, 32, 33, 34] σ (kw_ua σ 31 (va_cpy (σ.1 32) (σ.1 31) (i.toNatClampNeg) (j.toNatClampNeg) (n.toNatClampNeg))) := kw_F_ua hF0 (by decide)
          generalize (kw_ua σ 31 (va_cpy (σ.1 32) (σ.1 31) (i.toNatClampNeg) (j.toNatClampNeg) (n.toNatClampNeg))) = S82 at I80 F81 ⊢
          exact kw_return (pc := 43) (i := 24) rfl rfl ⟨⟨I80, F81⟩, rfl⟩
        · have e_w73 : t.toNatClampNeg = 3 := by have := kw_clampI (x := t) (by omega); omega
          refine kw_aald (pc := 35) (i := 20) (b := 32) rfl rfl (by decide) (by omega) (by rw [e_w73]; rfl) ?_
          refine kw_iload (pc := 36) (i := 21) (k := 4) (n := 4) rfl rfl ?_
          refine kw_iload (pc := 38) (i := 22) (k := 5) (n := 5) rfl rfl ?_
          refine kw_copy (pc := 40) (i := 23) (n := 40) (m_ := 40) rfl laX3_45 rfl rfl (by omega) (by omega) (by omega) (by omega) (by omega) (by omega) (Nat.le_of_ble_eq_true rfl) ?_
          have I83 : kw_I bX (kw_ua σ 32 (va_cpy (σ.1 32) (σ.1 32) (i.toNatClampNeg) (j.toNatClampNeg) (n.toNatClampNeg))) := kw_I_ua hI (fun j => ⟨(kw_rng _).1, Int.le_of_lt_add_one (kw_rng _).2⟩)
          have F84 : kw_F [29, 30, 31, 32, 33, 34] σ (kw_ua σ 32 (va_cpy (σ.1 32) (σ.1 32) (i.toNatClampNeg) (j.toNatClampNeg) (n.toNatClampNeg))) := kw_F_ua hF0 (by decide)
          generalize (kw_ua σ 32 (va_cpy (σ.1 32) (σ.1 32) (i.toNatClampNeg) (j.toNatClampNeg) (n.toNatClampNeg))) = S85 at I83 F84 ⊢
          exact kw_return (pc := 43) (i := 24) rfl rfl ⟨⟨I83, F84⟩, rfl⟩
        · have e_w73 : t.toNatClampNeg = 4 := by have := kw_clampI (x := t) (by omega); omega
          refine kw_aald (pc := 35) (i := 20) (b := 33) rfl rfl (by decide) (by omega) (by rw [e_w73]; rfl) ?_
          refine kw_iload (pc := 36) (i := 21) (k := 4) (n := 4) rfl rfl ?_
          refine kw_iload (pc := 38) (i := 22) (k := 5) (n := 5) rfl rfl ?_
          refine kw_copy (pc := 40) (i := 23) (n := 40) (m_ := 40) rfl laX3_45 rfl rfl (by omega) (by omega) (by omega) (by omega) (by omega) (by omega) (Nat.le_of_ble_eq_true rfl) ?_
          have I86 : kw_I bX (kw_ua σ 33 (va_cpy (σ.1 32) (σ.1 33) (i.toNatClampNeg) (j.toNatClampNeg) (n.toNatClampNeg))) := kw_I_ua hI (fun j => ⟨(kw_rng _).1, Int.le_of_lt_add_one (kw_rng _).2⟩)
          have F87 : kw_F [29, 30, 31, 32, 33, 34] σ (kw_ua σ 33 (va_cpy (σ.1 32) (σ.1 33) (i.toNatClampNeg) (j.toNatClampNeg) (n.toNatClampNeg))) := kw_F_ua hF0 (by decide)
          generalize (kw_ua σ 33 (va_cpy (σ.1 32) (σ.1 33) (i.toNatClampNeg) (j.toNatClampNeg) (n.toNatClampNeg))) = S88 at I86 F87 ⊢
          exact kw_return (pc := 43) (i := 24) rfl rfl ⟨⟨I86, F87⟩, rfl⟩
        · have e_w73 : t.toNatClampNeg = 5 := by have := kw_clampI (x := t) (by omega); omega
          refine kw_aald (pc := 35) (i := 20) (b := 34) rfl rfl (by decide) (by omega) (by rw [e_w73]; rfl) ?_
          refine kw_iload (pc := 36) (i := 21) (k := 4) (n := 4) rfl rfl ?_
          refine kw_iload (pc := 38) (i := 22) (k := 5) (n := 5) rfl rfl ?_
          refine kw_copy (pc := 40) (i := 23) (n := 40) (m_ := 40) rfl laX3_45 rfl rfl (by omega) (by omega) (by omega) (by omega) (by omega) (by omega) (Nat.le_of_ble_eq_true rfl) ?_
          have I89 : kw_I bX (kw_ua σ 34 (va_cpy (σ.1 32) (σ.1 34) (i.toNatClampNeg) (j.toNatClampNeg) (n.toNatClampNeg))) := kw_I_ua hI (fun j => ⟨(kw_rng _).1, Int.le_of_lt_add_one (kw_rng _).2⟩)
          have F90 : kw_F [29, 30, 31, 32, 33, 34] σ (kw_ua σ 34 (va_cpy (σ.1 32) (σ.1 34) (i.toNatClampNeg) (j.toNatClampNeg) (n.toNatClampNeg))) := kw_F_ua hF0 (by decide)
          generalize (kw_ua σ 34 (va_cpy (σ.1 32) (σ.1 34) (i.toNatClampNeg) (j.toNatClampNeg) (n.toNatClampNeg))) = S91 at I89 F90 ⊢
          exact kw_return (pc := 43) (i := 24) rfl rfl ⟨⟨I89, F90⟩, rfl⟩
      · have e_w15 : k.toNatClampNeg = 4 := by have := kw_clampI (x := k) (by omega); omega
        refine kw_aald (pc := 28) (i := 15) (b := 33) rfl rfl (by decide) (by omega) (by rw [e_w15]; rfl) ?_
        refine kw_iload_n (pc := 29) (i := 16) (k := 2) (n := 2) rfl rfl rfl ?_
        refine kw_aload_n (pc := 30) (i := 17) (k := 0) (n := 0) rfl rfl rfl ?_
        refine kw_get (pc := 31) (i := 18) (v := .ref 12) rfl rfl rfl lkX3_17 (fun _ => rfl) ?_
        refine kw_iload_n (pc := 34) (i := 19) (k := 3) (n := 3) rfl rfl rfl ?_
        have w92 : t.toInt = 0 ∨ t.toInt = 1 ∨ t.toInt = 2 ∨ t.toInt = 3 ∨ t.toInt = 4 ∨ t.toInt = 5 := by omega
        rcases w92 with w92 | w92 | w92 | w92 | w92 | w92
        · have e_w92 : t.toNatClampNeg = 0 := by have := kw_clampI (x := t) (by omega); omega
          refine kw_aald (pc := 35) (i := 20) (b := 29) rfl rfl (by decide) (by omega) (by rw [e_w92]; rfl) ?_
          refine kw_iload (pc := 36) (i := 21) (k := 4) (n := 4) rfl rfl ?_
          refine kw_iload (pc := 38) (i := 22) (k := 5) (n := 5) rfl rfl ?_
          refine kw_copy (pc := 40) (i := 23) (n := 40) (m_ := 40) rfl laX3_45 rfl rfl (by omega) (by omega) (by omega) (by omega) (by omega) (by omega) (Nat.le_of_ble_eq_true rfl) ?_
          have I93 : kw_I bX (kw_ua σ 29 (va_cpy (σ.1 33) (σ.1 29) (i.toNatClampNeg) (j.toNatClampNeg) (n.toNatClampNeg))) := kw_I_ua hI (fun j => ⟨(kw_rng _).1, Int.le_of_lt_add_one (kw_rng _).2⟩)
          have F94 : kw_F [29, 30, 31, 32, 33, 34] σ (kw_ua σ 29 (va_cpy (σ.1 33) (σ.1 29) (i.toNatClampNeg) (j.toNatClampNeg) (n.toNatClampNeg))) := kw_F_ua hF0 (by decide)
          generalize (kw_ua σ 29 (va_cpy (σ.1 33) (σ.1 29) (i.toNatClampNeg) (j.toNatClampNeg) (n.toNatClampNeg))) = S95 at I93 F94 ⊢
          exact kw_return (pc := 43) (i := 24) rfl rfl ⟨⟨I93, F94⟩, rfl⟩
        · have e_w92 : t.toNatClampNeg = 1 := by have := kw_clampI (x := t) (by omega); omega
          refine kw_aald (pc := 35) (i := 20) (b := 30) rfl rfl (by decide) (by omega) (by rw [e_w92]; rfl) ?_
          refine kw_iload (pc := 36) (i := 21) (k := 4) (n := 4) rfl rfl ?_
          refine kw_iload (pc := 38) (i := 22) (k := 5) (n := 5) rfl rfl ?_
          refine kw_copy (pc := 40) (i := 23) (n := 40) (m_ := 40) rfl laX3_45 rfl rfl (by omega) (by omega) (by omega) (by omega) (by omega) (by omega) (Nat.le_of_ble_eq_true rfl) ?_
          have I96 : kw_I bX (kw_ua σ 30 (va_cpy (σ.1 33) (σ.1 30) (i.toNatClampNeg) (j.toNatClampNeg) (n.toNatClampNeg))) := kw_I_ua hI (fun j => ⟨(kw_rng _).1, Int.le_of_lt_add_one (kw_rng _).2⟩)
          have F97 : kw_F [29, 30, 31, 32, 33, 34] σ (kw_ua σ 30 (va_cpy (σ.1 33) (σ.1 30) (i.toNatClampNeg) (j.toNatClampNeg) (n.toNatClampNeg))) := kw_F_ua hF0 (by decide)
          generalize (kw_ua σ 30 (va_cpy (σ.1 33) (σ.1 30) (i.toNatClampNeg) (j.toNatClampNeg) (n.toNatClampNeg))) = S98 at I96 F97 ⊢
          exact kw_return (pc := 43) (i := 24) rfl rfl ⟨⟨I96, F97⟩, rfl⟩
        · have e_w92 : t.toNatClampNeg = 2 := by have := kw_clampI (x := t) (by omega); omega
          refine kw_aald (pc := 35) (i := 20) (b := 31) rfl rfl (by decide) (by omega) (by rw [e_w92]; rfl) ?_
          refine kw_iload (pc := 36) (i := 21) (k := 4) (n := 4) rfl rfl ?_
          refine kw_iload (pc := 38) (i := 22) (k := 5) (n := 5) rfl rfl ?_
          refine kw_copy (pc := 40) (i := 23) (n := 40) (m_ := 40) rfl laX3_45 rfl rfl (by omega) (by omega) (by omega) (by omega) (by omega) (by omega) (Nat.le_of_ble_eq_true rfl) ?_
          have I99 : kw_I bX (kw_ua σ 31 (va_cpy (σ.1 33) (σ.1 31) (i.toNatClampNeg) (j.toNatClampNeg) (n.toNatClampNeg))) := kw_I_ua hI (fun j => ⟨(kw_rng _).1, Int.le_of_lt_add_one (kw_rng _).2⟩)
          have F100 : kw_F [29, 30, 31, 32, 33, 34] σ (kw_ua σ 31 (va_cpy (σ.1 33) (σ.1 31) (i.toNatClampNeg) (j.toNatClampNeg) (n.toNatClampNeg))) := kw_F_ua hF0 (by decide)
          generalize (kw_ua σ 31 (va_cpy (σ.1 33) (σ.1 31) (i.toNatClampNeg) (j.toNatClampNeg) (n.toNatClampNeg))) = S101 at I99 F100 ⊢
          exact kw_return (pc := 43) (i := 24) rfl rfl ⟨⟨I99, F100⟩, rfl⟩
        · have e_w92 : t.toNatClampNeg = 3 := by have := kw_clampI (x := t) (by omega); omega
          refine kw_aald (pc := 35) (i := 20) (b := 32) rfl rfl (by decide) (by omega) (by rw [e_w92]; rfl) ?_
          refine kw_iload (pc := 36) (i := 21) (k := 4) (n := 4) rfl rfl ?_
          refine kw_iload (pc := 38) (i := 22) (k := 5) (n := 5) rfl rfl ?_
          refine kw_copy (pc := 40) (i := 23) (n := 40) (m_ := 40) rfl laX3_45 rfl rfl (by omega) (by omega) (by omega) (by omega) (by omega) (by omega) (Nat.le_of_ble_eq_true rfl) ?_
          have I102 : kw_I bX (kw_ua σ 32 (va_cpy (σ.1 33) (σ.1 32) (i.toNatClampNeg) (j.toNatClampNeg) (n.toNatClampNeg))) := kw_I_ua hI (fun j => ⟨(kw_rng _).1, Int.le_of_lt_add_one (kw_rng _).2⟩)
          have F103 : kw_F [29, 30, 31, 32, 33, 34] σ (kw_ua σ 32 (va_cpy (σ.1 33) (σ.1 32) (i.toNatClampNeg) (j.toNatClampNeg) (n.toNatClampNeg))) := kw_F_ua hF0 (by decide)
          generalize (kw_ua σ 32 (va_cpy (σ.1 33) (σ.1 32) (i.toNatClampNeg) (j.toNatClampNeg) (n.toNatClampNeg))) = S104 at I102 F103 ⊢
          exact kw_return (pc := 43) (i := 24) rfl rfl ⟨⟨I102, F103⟩, rfl⟩
        · have e_w92 : t.toNatClampNeg = 4 := by have := kw_clampI (x := t) (by omega); omega
          refine kw_aald (pc := 35) (i := 20) (b := 33) rfl rfl (by decide) (by omega) (by rw [e_w92]; rfl) ?_
          refine kw_iload (pc := 36) (i := 21) (k := 4) (n := 4) rfl rfl ?_
          refine kw_iload (pc := 38) (i := 22) (k := 5) (n := 5) rfl rfl ?_
          refine kw_copy (pc := 40) (i := 23) (n := 40) (m_ := 40) rfl laX3_45 rfl rfl (by omega) (by omega) (by omega) (by omega) (by omega) (by omega) (Nat.le_of_ble_eq_true rfl) ?_
          have I105 : kw_I bX (kw_ua σ 33 (va_cpy (σ.1 33) (σ.1 33) (i.toNatClampNeg) (j.toNatClampNeg) (n.toNatClampNeg))) := kw_I_ua hI (fun j => ⟨(kw_rng _).1, Int.le_of_lt_add_one (kw_rng _).2⟩)
          have F106 : kw_F [29, 30, 31, 32, 33, 34] σ (kw_ua σ 33 (va_cpy (σ.1 33) (σ.1 33) (i.toNatClampNeg) (j.toNatClampNeg) (n.toNatClampNeg))) := kw_F_ua hF0 (by decide)
          generalize (kw_ua σ 33 (va_cpy (σ.1 33) (σ.1 33) (i.toNatClampNeg) (j.toNatClampNeg) (n.toNatClampNeg))) = S107 at I105 F106 ⊢
          exact kw_return (pc := 43) (i := 24) rfl rfl ⟨⟨I105, F106⟩, rfl⟩
        · have e_w92 : t.toNatClampNeg = 5 := by have := kw_clampI (x := t) (by omega); omega
          refine kw_aald (pc := 35) (i := 20) (b := 34) rfl rfl (by decide) (by omega) (by rw [e_w92]; rfl) ?_
          refine kw_iload (pc := 36) (i := 21) (k := 4) (n := 4) rfl rfl ?_
          refine kw_iload (pc := 38) (i := 22) (k := 5) (n := 5) rfl rfl ?_
          refine kw_copy (pc := 40) (i := 23) (n := 40) (m_ := 40) rfl laX3_45 rfl rfl (by omega) (by omega) (by omega) (by omega) (by omega) (by omega) (Nat.le_of_ble_eq_true rfl) ?_
          have I108 : kw_I bX (kw_ua σ 34 (va_cpy (σ.1 33) (σ.1 34) (i.toNatClampNeg) (j.toNatClampNeg) (n.toNatClampNeg))) := kw_I_ua hI (fun j => ⟨(kw_rng _).1, Int.le_of_lt_add_one (kw_rng _).2⟩)
          have F109 : kw_F [29, 30, 31, 32, 33, 34] σ (kw_ua σ 34 (va_cpy (σ.1 33) (σ.1 34) (i.toNatClampNeg) (j.toNatClampNeg) (n.toNatClampNeg))) := kw_F_ua hF0 (by decide)
          generalize (kw_ua σ 34 (va_cpy (σ.1 33) (σ.1 34) (i.toNatClampNeg) (j.toNatClampNeg) (n.toNatClampNeg))) = S110 at I108 F109 ⊢
          exact kw_return (pc := 43) (i := 24) rfl rfl ⟨⟨I108, F109⟩, rfl⟩
      · have e_w15 : k.toNatClampNeg = 5 := by have := kw_clampI (x := k) (by omega); omega
        refine kw_aald (pc := 28) (i := 15) (b := 34) rfl rfl (by decide) (by omega) (by rw [e_w15]; rfl) ?_
        refine kw_iload_n (pc := 29) (i := 16) (k := 2) (n := 2) rfl rfl rfl ?_
        refine kw_aload_n (pc := 30) (i := 17) (k := 0) (n := 0) rfl rfl rfl ?_
        refine kw_get (pc := 31) (i := 18) (v := .ref 12) rfl rfl rfl lkX3_17 (fun _ => rfl) ?_
        refine kw_iload_n (pc := 34) (i := 19) (k := 3) (n := 3) rfl rfl rfl ?_
        have w111 : t.toInt = 0 ∨ t.toInt = 1 ∨ t.toInt = 2 ∨ t.toInt = 3 ∨ t.toInt = 4 ∨ t.toInt = 5 := by omega
        rcases w111 with w111 | w111 | w111 | w111 | w111 | w111
        · have e_w111 : t.toNatClampNeg = 0 := by have := kw_clampI (x := t) (by omega); omega
          refine kw_aald (pc := 35) (i := 20) (b := 29) rfl rfl (by decide) (by omega) (by rw [e_w111]; rfl) ?_
          refine kw_iload (pc := 36) (i := 21) (k := 4) (n := 4) rfl rfl ?_
          refine kw_iload (pc := 38) (i := 22) (k := 5) (n := 5) rfl rfl ?_
          refine kw_copy (pc := 40) (i := 23) (n := 40) (m_ := 40) rfl laX3_45 rfl rfl (by omega) (by omega) (by omega) (by omega) (by omega) (by omega) (Nat.le_of_ble_eq_true rfl) ?_
          have I112 : kw_I bX (kw_ua σ 29 (va_cpy (σ.1 34) (σ.1 29) (i.toNatClampNeg) (j.toNatClampNeg) (n.toNatClampNeg))) := kw_I_ua hI (fun j => ⟨(kw_rng _).1, Int.le_of_lt_add_one (kw_rng _).2⟩)
          have F113 : kw_F [29, 30, 31, 32, 33, 34] σ (kw_ua σ 29 (va_cpy (σ.1 34) (σ.1 29) (i.toNatClampNeg) (j.toNatClampNeg) (n.toNatClampNeg))) := kw_F_ua hF0 (by decide)
          generalize (kw_ua σ 29 (va_cpy (σ.1 34) (σ.1 29) (i.toNatClampNeg) (j.toNatClampNeg) (n.toNatClampNeg))) = S114 at I112 F113 ⊢
          exact kw_return (pc := 43) (i := 24) rfl rfl ⟨⟨I112, F113⟩, rfl⟩
        · have e_w111 : t.toNatClampNeg = 1 := by have := kw_clampI (x := t) (by omega); omega
          refine kw_aald (pc := 35) (i := 20) (b := 30) rfl rfl (by decide) (by omega) (by rw [e_w111]; rfl) ?_
          refine kw_iload (pc := 36) (i := 21) (k := 4) (n := 4) rfl rfl ?_
          refine kw_iload (pc := 38) (i := 22) (k := 5) (n := 5) rfl rfl ?_
          refine kw_copy (pc := 40) (i := 23) (n := 40) (m_ := 40) rfl laX3_45 rfl rfl (by omega) (by omega) (by omega) (by omega) (by omega) (by omega) (Nat.le_of_ble_eq_true rfl) ?_
          have I115 : kw_I bX (kw_ua σ 30 (va_cpy (σ.1 34) (σ.1 30) (i.toNatClampNeg) (j.toNatClampNeg) (n.toNatClampNeg))) := kw_I_ua hI (fun j => ⟨(kw_rng _).1, Int.le_of_lt_add_one (kw_rng _).2⟩)
          have F116 : kw_F [29, 30, 31, 32, 33, 34] σ (kw_ua σ 30 (va_cpy (σ.1 34) (σ.1 30) (i.toNatClampNeg) (j.toNatClampNeg) (n.toNatClampNeg))) := kw_F_ua hF0 (by decide)
          generalize (kw_ua σ 30 (va_cpy (σ.1 34) (σ.1 30) (i.toNatClampNeg) (j.toNatClampNeg) (n.toNatClampNeg))) = S117 at I115 F116 ⊢
          exact kw_return (pc := 43) (i := 24) rfl rfl ⟨⟨I115, F116⟩, rfl⟩
        · have e_w111 : t.toNatClampNeg = 2 := by have := kw_clampI (x := t) (by omega); omega
          refine kw_aald (pc := 35) (i := 20) (b := 31) rfl rfl (by decide) (by omega) (by rw [e_w111]; rfl) ?_
          refine kw_iload (pc := 36) (i := 21) (k := 4) (n := 4) rfl rfl ?_
          refine kw_iload (pc := 38) (i := 22) (k := 5) (n := 5) rfl rfl ?_
          refine kw_copy (pc := 40) (i := 23) (n := 40) (m_ := 40) rfl laX3_45 rfl rfl (by omega) (by omega) (by omega) (by omega) (by omega) (by omega) (Nat.le_of_ble_eq_true rfl) ?_
          have I118 : kw_I bX (kw_ua σ 31 (va_cpy (σ.1 34) (σ.1 31) (i.toNatClampNeg) (j.toNatClampNeg) (n.toNatClampNeg))) := kw_I_ua hI (fun j => ⟨(kw_rng _).1, Int.le_of_lt_add_one (kw_rng _).2⟩)
          have F119 : kw_F [29, 30, 31, 32, 33, 34] σ (kw_ua σ 31 (va_cpy (σ.1 34) (σ.1 31) (i.toNatClampNeg) (j.toNatClampNeg) (n.toNatClampNeg))) := kw_F_ua hF0 (by decide)
          generalize (kw_ua σ 31 (va_cpy (σ.1 34) (σ.1 31) (i.toNatClampNeg) (j.toNatClampNeg) (n.toNatClampNeg))) = S120 at I118 F119 ⊢
          exact kw_return (pc := 43) (i := 24) rfl rfl ⟨⟨I118, F119⟩, rfl⟩
        · have e_w111 : t.toNatClampNeg = 3 := by have := kw_clampI (x := t) (by omega); omega
          refine kw_aald (pc := 35) (i := 20) (b := 32) rfl rfl (by decide) (by omega) (by rw [e_w111]; rfl) ?_
          refine kw_iload (pc := 36) (i := 21) (k := 4) (n := 4) rfl rfl ?_
          refine kw_iload (pc := 38) (i := 22) (k := 5) (n := 5) rfl rfl ?_
          refine kw_copy (pc := 40) (i := 23) (n := 40) (m_ := 40) rfl laX3_45 rfl rfl (by omega) (by omega) (by omega) (by omega) (by omega) (by omega) (Nat.le_of_ble_eq_true rfl) ?_
          have I121 : kw_I bX (kw_ua σ 32 (va_cpy (σ.1 34) (σ.1 32) (i.toNatClampNeg) (j.toNatClampNeg) (n.toNatClampNeg))) := kw_I_ua hI (fun j => ⟨(kw_rng _).1, Int.le_of_lt_add_one (kw_rng _).2⟩)
          have F122 : kw_F [29, 30, 31, 32, 33, 34] σ (kw_ua σ 32 (va_cpy (σ.1 34) (σ.1 32) (i.toNatClampNeg) (j.toNatClampNeg) (n.toNatClampNeg))) := kw_F_ua hF0 (by decide)
          generalize (kw_ua σ 32 (va_cpy (σ.1 34) (σ.1 32) (i.toNatClampNeg) (j.toNatClampNeg) (n.toNatClampNeg))) = S123 at I121 F122 ⊢
          exact kw_return (pc := 43) (i := 24) rfl rfl ⟨⟨I121, F122⟩, rfl⟩
        · have e_w111 : t.toNatClampNeg = 4 := by have := kw_clampI (x := t) (by omega); omega
          refine kw_aald (pc := 35) (i := 20) (b := 33) rfl rfl (by decide) (by omega) (by rw [e_w111]; rfl) ?_
          refine kw_iload (pc := 36) (i := 21) (k := 4) (n := 4) rfl rfl ?_
          refine kw_iload (pc := 38) (i := 22) (k := 5) (n := 5) rfl rfl ?_
          refine kw_copy (pc := 40) (i := 23) (n := 40) (m_ := 40) rfl laX3_45 rfl rfl (by omega) (by omega) (by omega) (by omega) (by omega) (by omega) (Nat.le_of_ble_eq_true rfl) ?_
          have I124 : kw_I bX (kw_ua σ 33 (va_cpy (σ.1 34) (σ.1 33) (i.toNatClampNeg) (j.toNatClampNeg) (n.toNatClampNeg))) := kw_I_ua hI (fun j => ⟨(kw_rng _).1, Int.le_of_lt_add_one (kw_rng _).2⟩)
          have F125 : kw_F [29, 30, 31, 32, 33, 34] σ (kw_ua σ 33 (va_cpy (σ.1 34) (σ.1 33) (i.toNatClampNeg) (j.toNatClampNeg) (n.toNatClampNeg))) := kw_F_ua hF0 (by decide)
          generalize (kw_ua σ 33 (va_cpy (σ.1 34) (σ.1 33) (i.toNatClampNeg) (j.toNatClampNeg) (n.toNatClampNeg))) = S126 at I124 F125 ⊢
          exact kw_return (pc := 43) (i := 24) rfl rfl ⟨⟨I124, F125⟩, rfl⟩
        · have e_w111 : t.toNatClampNeg = 5 := by have := kw_clampI (x := t) (by omega); omega
          refine kw_aald (pc := 35) (i := 20) (b := 34) rfl rfl (by decide) (by omega) (by rw [e_w111]; rfl) ?_
          refine kw_iload (pc := 36) (i := 21) (k := 4) (n := 4) rfl rfl ?_
          refine kw_iload (pc := 38) (i := 22) (k := 5) (n := 5) rfl rfl ?_
          refine kw_copy (pc := 40) (i := 23) (n := 40) (m_ := 40) rfl laX3_45 rfl rfl (by omega) (by omega) (by omega) (by omega) (by omega) (by omega) (Nat.le_of_ble_eq_true rfl) ?_
          have I127 : kw_I bX (kw_ua σ 34 (va_cpy (σ.1 34) (σ.1 34) (i.toNatClampNeg) (j.toNatClampNeg) (n.toNatClampNeg))) := kw_I_ua hI (fun j => ⟨(kw_rng _).1, Int.le_of_lt_add_one (kw_rng _).2⟩)
          have F128 : kw_F [29, 30, 31, 32, 33, 34] σ (kw_ua σ 34 (va_cpy (σ.1 34) (σ.1 34) (i.toNatClampNeg) (j.toNatClampNeg) (n.toNatClampNeg))) := kw_F_ua hF0 (by decide)
          generalize (kw_ua σ 34 (va_cpy (σ.1 34) (σ.1 34) (i.toNatClampNeg) (j.toNatClampNeg) (n.toNatClampNeg))) = S129 at I127 F128 ⊢
          exact kw_return (pc := 43) (i := 24) rfl rfl ⟨⟨I127, F128⟩, rfl⟩
