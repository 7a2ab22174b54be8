abbrev p_X3_move_1 (σ : kw_S) (k : Int32) (i : Int32) (t : Int32) (j : Int32) (n : Int32) : Option Value → kw_S → Prop := fun v σ' => (kw_I bX σ' ∧ kw_F [29, 30, 31, 32, 33, 34] σ σ') ∧ v = none
set_option maxRecDepth 100000 in
set_option maxHeartbeats 4000000 in
theorem c_X3_move_1 (l : Launch) (σ : kw_S) (hI : kw_I bX σ) (k : Int32) (i : Int32) (t : Int32) (j : Int32) (n : Int32) : kw_Met l 3 KX mX3_move [.ref 1, .int k, .int i, .int t, .int j, .int n] σ (p_X3_move_1 σ k i t j n) := by
  have r_k := kw_rng k
  have r_i := kw_rng i
  have r_t := kw_rng t
  have r_j := kw_rng j
  have r_n := kw_rng n
  have hF0 : kw_F [29, 30, 31, 32, 33, 34] σ σ := kw_F.rf
  refine kw_Met.of (by decide) rfl tX3_move (Nat.le_of_ble_eq_true rfl) ?_
  show kw_AW l 3 kw_E0 KX mX3_move (p_X3_move_1 σ k i t j n) 0 [(0, .ref 1), (1, .int k), (2, .int i), (3, .int t), (4, .int j), (5, .int n)] [] σ
  refine kw_aload_n (pc := 0) (i := 0) (k := 0) (n := 0) rfl rfl rfl ?_
  refine kw_iload_n (pc := 1) (i := 1) (k := 1) (n := 1) rfl rfl rfl ?_
  refine kw_iload_n (pc := 2) (i := 2) (k := 2) (n := 2) rfl rfl rfl ?_
  refine kw_iload (pc := 3) (i := 3) (k := 5) (n := 5) rfl rfl ?_
  refine kw_callV (pc := 5) (i := 4) (Y := mX3_hasPlaces) (a := 1) (As := [.int k, .int i, .int n]) (st := []) kw_hE rfl rfl lvX3_41 arX3_hasPlaces (c_X3_hasPlaces_1 l σ hI k i n ) (by decide) (by decide) rfl (fun v S2 p1 => ?_)
  obtain ⟨e6, z5, rfl, f3, f4⟩ := p1
  rw [e6]
  have r_z5 := kw_rng z5
  show kw_AW l 3 kw_E0 KX mX3_move (p_X3_move_1 σ k i t j n) 8 [(0, .ref 1), (1, .int k), (2, .int i), (3, .int t), (4, .int j), (5, .int n)] [.int z5] σ
  refine kw_if_eq (pc := 8) (i := 5) (tgt := 43) rfl rfl (fun c7 => ?_) (fun c7 => ?_)
  · exact kw_return (pc := 43) (i := 24) rfl rfl ⟨⟨hI, hF0⟩, rfl⟩
  · refine kw_aload_n (pc := 11) (i := 6) (k := 0) (n := 0) rfl rfl rfl ?_
    refine kw_iload_n (pc := 12) (i := 7) (k := 3) (n := 3) rfl rfl rfl ?_
    refine kw_iload (pc := 13) (i := 8) (k := 4) (n := 4) rfl rfl ?_
    refine kw_iload (pc := 15) (i := 9) (k := 5) (n := 5) rfl rfl ?_
    refine kw_callV (pc := 17) (i := 10) (Y := mX3_hasPlaces) (a := 1) (As := [.int t, .int j, .int n]) (st := []) kw_hE rfl rfl lvX3_41 arX3_hasPlaces (c_X3_hasPlaces_1 l σ hI t j n ) (by decide) (by decide) rfl (fun v S9 p8 => ?_)
    obtain ⟨e13, z12, rfl, f10, f11⟩ := p8
    rw [e13]
    have r_z12 := kw_rng z12
    show kw_AW l 3 kw_E0 KX mX3_move (p_X3_move_1 σ k i t j n) 20 [(0, .ref 1), (1, .int k), (2, .int i), (3, .int t), (4, .int j), (5, .int n)] [.int z12] σ
    refine kw_if_eq (pc := 20) (i := 11) (tgt := 43) rfl rfl (fun c14 => ?_) (fun c14 => ?_)
    · exact kw_return (pc := 43) (i := 24) rfl rfl ⟨⟨hI, hF0⟩, rfl⟩
    · refine kw_aload_n (pc := 23) (i := 12) (k := 0) (n := 0) rfl rfl rfl ?_
      refine kw_get (pc := 24) (i := 13) (v := .ref 12) rfl rfl rfl lkX3_17 (fun _ => rfl) ?_
      refine kw_iload_n (pc := 27) (i := 14) (k := 1) (n := 1) rfl rfl rfl ?_
      have w15 : k.toInt = 0 ∨ k.toInt = 1 ∨ k.toInt = 2 ∨ k.toInt = 3 ∨ k.toInt = 4 ∨ k.toInt = 5 := by omega
      rcases w15 with w15 | w15 | w15 | w15 | w15 | w15
      · have e_w15 : k.toNatClampNeg = 0 := by have := kw_clampI (x := k) (by omega); omega
        refine kw_aald (pc := 28) (i := 15) (b := 29) rfl rfl (by decide) (by omega) (by rw [e_w15]; rfl) ?_
        refine kw_iload_n (pc := 29) (i := 16) (k := 2) (n := 2) rfl rfl rfl ?_
        refine kw_aload_n (pc := 30) (i := 17) (k := 0) (n := 0) rfl rfl rfl ?_
        refine kw_get (pc := 31) (i := 18) (v := .ref 12) rfl rfl rfl lkX3_17 (fun _ => rfl) ?_
        refine kw_iload_n (pc := 34) (i := 19) (k := 3) (n := 3) rfl rfl rfl ?_
        have w16 : t.toInt = 0 ∨ t.toInt = 1 ∨ t.toInt = 2 ∨ t.toInt = 3 ∨ t.toInt = 4 ∨ t.toInt = 5 := by omega
        rcases w16 with w16 | w16 | w16 | w16 | w16 | w16
        · have e_w16 : t.toNatClampNeg = 0 := by have := kw_clampI (x := t) (by omega); omega
          refine kw_aald (pc := 35) (i := 20) (b := 29) rfl rfl (by decide) (by omega) (by rw [e_w16]; rfl) ?_
          refine kw_iload (pc := 36) (i := 21) (k := 4) (n := 4) rfl rfl ?_
          refine kw_iload (pc := 38) (i := 22) (k := 5) (n := 5) rfl rfl ?_
          refine kw_copy (pc := 40) (i := 23) (n := 40) (m_ := 40) rfl laX3_45 rfl rfl (by omega) (by omega) (by omega) (by omega) (by omega) (by decide) (by decide) ?_
          have I17 : kw_I bX (kw_ua σ 29 (va_cpy (σ.1 29) (σ.1 29) (i.toNatClampNeg) (j.toNatClampNeg) (n.toNatClampNeg))) := kw_I_ua hI (fun j => ⟨(kw_rng _).1, Int.le_of_lt_add_one (kw_rng _).2⟩)
          have F18 : kw_F [29, 30, 31, 32, 33, 34] σ (kw_ua σ 29 (va_cpy (σ.1 29) (σ.1 29) (i.toNatClampNeg) (j.toNatClampNeg) (n.toNatClampNeg))) := kw_F_ua hF0 (by decide)
          exact kw_return (pc := 43) (i := 24) rfl rfl ⟨⟨I17, F18⟩, rfl⟩
        · have e_w16 : t.toNatClampNeg = 1 := by have := kw_clampI (x := t) (by omega); omega
          refine kw_aald (pc := 35) (i := 20) (b := 30) rfl rfl (by decide) (by omega) (by rw [e_w16]; rfl) ?_
          refine kw_iload (pc := 36) (i := 21) (k := 4) (n := 4) rfl rfl ?_
          refine kw_iload (pc := 38) (i := 22) (k := 5) (n := 5) rfl rfl ?_
          refine kw_copy (pc := 40) (i := 23) (n := 40) (m_ := 40) rfl laX3_45 rfl rfl (by omega) (by omega) (by omega) (by omega) (by omega) (by decide) (by decide) ?_
          have I19 : kw_I bX (kw_ua σ 30 (va_cpy (σ.1 29) (σ.1 30) (i.toNatClampNeg) (j.toNatClampNeg) (n.toNatClampNeg))) := kw_I_ua hI (fun j => ⟨(kw_rng _).1, Int.le_of_lt_add_one (kw_rng _).2⟩)
          have F20 : kw_F [29, 30, 31, 32, 33, 34] σ (kw_ua σ 30 (va_cpy (σ.1 29) (σ.1 30) (i.toNatClampNeg) (j.toNatClampNeg) (n.toNatClampNeg))) := kw_F_ua hF0 (by decide)
          exact kw_return (pc := 43) (i := 24) rfl rfl ⟨⟨I19, F20⟩, rfl⟩
        · have e_w16 : t.toNatClampNeg = 2 := by have := kw_clampI (x := t) (by omega); omega
          refine kw_aald (pc := 35) (i := 20) (b := 31) rfl rfl (by decide) (by omega) (by rw [e_w16]; rfl) ?_
          refine kw_iload (pc := 36) (i := 21) (k := 4) (n := 4) rfl rfl ?_
          refine kw_iload (pc := 38) (i := 22) (k := 5) (n := 5) rfl rfl ?_
          refine kw_copy (pc := 40) (i := 23) (n := 40) (m_ := 40) rfl laX3_45 rfl rfl (by omega) (by omega) (by omega) (by omega) (by omega) (by decide) (by decide) ?_
          have I21 : kw_I bX (kw_ua σ 31 (va_cpy (σ.1 29) (σ.1 31) (i.toNatClampNeg) (j.toNatClampNeg) (n.toNatClampNeg))) := kw_I_ua hI (fun j => ⟨(kw_rng _).1, Int.le_of_lt_add_one (kw_rng _).2⟩)
          have F22 : kw_F [29, 30, 31, 32, 33, 34] σ (kw_ua σ 31 (va_cpy (σ.1 29) (σ.1 31) (i.toNatClampNeg) (j.toNatClampNeg) (n.toNatClampNeg))) := kw_F_ua hF0 (by decide)
          exact kw_return (pc := 43) (i := 24) rfl rfl ⟨⟨I21, F22⟩, rfl⟩
        · have e_w16 : t.toNatClampNeg = 3 := by have := kw_clampI (x := t) (by omega); omega
          refine kw_aald (pc := 35) (i := 20) (b := 32) rfl rfl (by decide) (by omega) (by rw [e_w16]; rfl) ?_
          refine kw_iload (pc := 36) (i := 21) (k := 4) (n := 4) rfl rfl ?_
          refine kw_iload (pc := 38) (i := 22) (k := 5) (n := 5) rfl rfl ?_
          refine kw_copy (pc := 40) (i := 23) (n := 40) (m_ := 40) rfl laX3_45 rfl rfl (by omega) (by omega) (by omega) (by omega) (by omega) (by decide) (by decide) ?_
          have I23 : kw_I bX (kw_ua σ 32 (va_cpy (σ.1 29) (σ.1 32) (i.toNatClampNeg) (j.toNatClampNeg) (n.toNatClampNeg))) := kw_I_ua hI (fun j => ⟨(kw_rng _).1, Int.le_of_lt_add_one (kw_rng _).2⟩)
          have F24 : kw_F [29, 30, 31, 32, 33, 34] σ (kw_ua σ 32 (va_cpy (σ.1 29) (σ.1 32) (i.toNatClampNeg) (j.toNatClampNeg) (n.toNatClampNeg))) := kw_F_ua hF0 (by decide)
          exact kw_return (pc := 43) (i := 24) rfl rfl ⟨⟨I23, F24⟩, rfl⟩
        · have e_w16 : t.toNatClampNeg = 4 := by have := kw_clampI (x := t) (by omega); omega
          refine kw_aald (pc := 35) (i := 20) (b := 33) rfl rfl (by decide) (by omega) (by rw [e_w16]; rfl) ?_
          refine kw_iload (pc := 36) (i := 21) (k := 4) (n := 4) rfl rfl ?_
          refine kw_iload (pc := 38) (i := 22) (k := 5) (n := 5) rfl rfl ?_
          refine kw_copy (pc := 40) (i := 23) (n := 40) (m_ := 40) rfl laX3_45 rfl rfl (by omega) (by omega) (by omega) (by omega) (by omega) (by decide) (by decide) ?_
          have I25 : kw_I bX (kw_ua σ 33 (va_cpy (σ.1 29) (σ.1 33) (i.toNatClampNeg) (j.toNatClampNeg) (n.toNatClampNeg))) := kw_I_ua hI (fun j => ⟨(kw_rng _).1, Int.le_of_lt_add_one (kw_rng _).2⟩)
          have F26 : kw_F [29, 30, 31, 32, 33, 34] σ (kw_ua σ 33 (va_cpy (σ.1 29) (σ.1 33) (i.toNatClampNeg) (j.toNatClampNeg) (n.toNatClampNeg))) := kw_F_ua hF0 (by decide)
          exact kw_return (pc := 43) (i := 24) rfl rfl ⟨⟨I25, F26⟩, rfl⟩
        · have e_w16 : t.toNatClampNeg = 5 := by have := kw_clampI (x := t) (by omega); omega
          refine kw_aald (pc := 35) (i := 20) (b := 34) rfl rfl (by decide) (by omega) (by rw [e_w16]; rfl) ?_
          refine kw_iload (pc := 36) (i := 21) (k := 4) (n := 4) rfl rfl ?_
          refine kw_iload (pc := 38) (i := 22) (k := 5) (n := 5) rfl rfl ?_
          refine kw_copy (pc := 40) (i := 23) (n := 40) (m_ := 40) rfl laX3_45 rfl rfl (by omega) (by omega) (by omega) (by omega) (by omega) (by decide) (by decide) ?_
          have I27 : kw_I bX (kw_ua σ 34 (va_cpy (σ.1 29) (σ.1 34) (i.toNatClampNeg) (j.toNatClampNeg) (n.toNatClampNeg))) := kw_I_ua hI (fun j => ⟨(kw_rng _).1, Int.le_of_lt_add_one (kw_rng _).2⟩)
          have F28 : kw_F [29, 30, 31, 32, 33, 34] σ (kw_ua σ 34 (va_cpy (σ.1 29) (σ.1 34) (i.toNatClampNeg) (j.toNatClampNeg) (n.toNatClampNeg))) := kw_F_ua hF0 (by decide)
          exact kw_return (pc := 43) (i := 24) rfl rfl ⟨⟨I27, F28⟩, rfl⟩
      · have e_w15 : k.toNatClampNeg = 1 := by have := kw_clampI (x := k) (by omega); omega
        refine kw_aald (pc := 28) (i := 15) (b := 30) rfl rfl (by decide) (by omega) (by rw [e_w15]; rfl) ?_
        refine kw_iload_n (pc := 29) (i := 16) (k := 2) (n := 2) rfl rfl rfl ?_
        refine kw_aload_n (pc := 30) (i := 17) (k := 0) (n := 0) rfl rfl rfl ?_
        refine kw_get (pc := 31) (i := 18) (v := .ref 12) rfl rfl rfl lkX3_17 (fun _ => rfl) ?_
        refine kw_iload_n (pc := 34) (i := 19) (k := 3) (n := 3) rfl rfl rfl ?_
        have w29 : t.toInt = 0 ∨ t.toInt = 1 ∨ t.toInt = 2 ∨ t.toInt = 3 ∨ t.toInt = 4 ∨ t.toInt = 5 := by omega
        rcases w29 with w29 | w29 | w29 | w29 | w29 | w29
        · have e_w29 : t.toNatClampNeg = 0 := by have := kw_clampI (x := t) (by omega); omega
          refine kw_aald (pc := 35) (i := 20) (b := 29) rfl rfl (by decide) (by omega) (by rw [e_w29]; rfl) ?_
          refine kw_iload (pc := 36) (i := 21) (k := 4) (n := 4) rfl rfl ?_
          refine kw_iload (pc := 38) (i := 22) (k := 5) (n := 5) rfl rfl ?_
          refine kw_copy (pc := 40) (i := 23) (n := 40) (m_ := 40) rfl laX3_45 rfl rfl (by omega) (by omega) (by omega) (by omega) (by omega) (by decide) (by decide) ?_
          have I30 : kw_I bX (kw_ua σ 29 (va_cpy (σ.1 30) (σ.1 29) (i.toNatClampNeg) (j.toNatClampNeg) (n.toNatClampNeg))) := kw_I_ua hI (fun j => ⟨(kw_rng _).1, Int.le_of_lt_add_one (kw_rng _).2⟩)
          have F31 : kw_F [29, 30, 31, 32, 33, 34] σ (kw_ua σ 29 (va_cpy (σ.1 30) (σ.1 29) (i.toNatClampNeg) (j.toNatClampNeg) (n.toNatClampNeg))) := kw_F_ua hF0 (by decide)
          exact kw_return (pc := 43) (i := 24) rfl rfl ⟨⟨I30, F31⟩, rfl⟩
        · have e_w29 : t.toNatClampNeg = 1 := by have := kw_clampI (x := t) (by omega); omega
          refine kw_aald (pc := 35) (i := 20) (b := 30) rfl rfl (by decide) (by omega) (by rw [e_w29]; rfl) ?_
          refine kw_iload (pc := 36) (i := 21) (k := 4) (n := 4) rfl rfl ?_
          refine kw_iload (pc := 38) (i := 22) (k := 5) (n := 5) rfl rfl ?_
          refine kw_copy (pc := 40) (i := 23) (n := 40) (m_ := 40) rfl laX3_45 rfl rfl (by omega) (by omega) (by omega) (by omega) (by omega) (by decide) (by decide) ?_
          have I32 : kw_I bX (kw_ua σ 30 (va_cpy (σ.1 30) (σ.1 30) (i.toNatClampNeg) (j.toNatClampNeg) (n.toNatClampNeg))) := kw_I_ua hI (fun j => ⟨(kw_rng _).1, Int.le_of_lt_add_one (kw_rng _).2⟩)
          have F33 : kw_F [29, 30, 31, 32, 33, 34] σ (kw_ua σ 30 (va_cpy (σ.1 30) (σ.1 30) (i.toNatClampNeg) (j.toNatClampNeg) (n.toNatClampNeg))) := kw_F_ua hF0 (by decide)
          exact kw_return (pc := 43) (i := 24) rfl rfl ⟨⟨I32, F33⟩, rfl⟩
        · have e_w29 : t.toNatClampNeg = 2 := by have := kw_clampI (x := t) (by omega); omega
          refine kw_aald (pc := 35) (i := 20) (b := 31) rfl rfl (by decide) (by omega) (by rw [e_w29]; rfl) ?_
          refine kw_iload (pc := 36) (i := 21) (k := 4) (n := 4) rfl rfl ?_
          refine kw_iload (pc := 38) (i := 22) (k := 5) (n := 5) rfl rfl ?_
          refine kw_copy (pc := 40) (i := 23) (n := 40) (m_ := 40) rfl laX3_45 rfl rfl (by omega) (by omega) (by omega) (by omega) (by omega) (by decide) (by decide) ?_
          have I34 : kw_I bX (kw_ua σ 31 (va_cpy (σ.1 30) (σ.1 31) (i.toNatClampNeg) (j.toNatClampNeg) (n.toNatClampNeg))) := kw_I_ua hI (fun j => ⟨(kw_rng _).1, Int.le_of_lt_add_one (kw_rng _).2⟩)
          have F35 : kw_F [29, 30, 31, 32, 33, 34] σ (kw_ua σ 31 (va_cpy (σ.1 30) (σ.1 31) (i.toNatClampNeg) (j.toNatClampNeg) (n.toNatClampNeg))) := kw_F_ua hF0 (by decide)
          exact kw_return (pc := 43) (i := 24) rfl rfl ⟨⟨I34, F35⟩, rfl⟩
        · have e_w29 : t.toNatClampNeg = 3 := by have := kw_clampI (x := t) (by omega); omega
          refine kw_aald (pc := 35) (i := 20) (b := 32) rfl rfl (by decide) (by omega) (by rw [e_w29]; rfl) ?_
          refine kw_iload (pc := 36) (i := 21) (k := 4) (n := 4) rfl rfl ?_
          refine kw_iload (pc := 38) (i := 22) (k := 5) (n := 5) rfl rfl ?_
          refine kw_copy (pc := 40) (i := 23) (n := 40) (m_ := 40) rfl laX3_45 rfl rfl (by omega) (by omega) (by omega) (by omega) (by omega) (by decide) (by decide) ?_
          have I36 : kw_I bX (kw_ua σ 32 (va_cpy (σ.1 30) (σ.1 32) (i.toNatClampNeg) (j.toNatClampNeg) (n.toNatClampNeg))) := kw_I_ua hI (fun j => ⟨(kw_rng _).1, Int.le_of_lt_add_one (kw_rng _).2⟩)
          have F37 : kw_F [29, 30, 31, 32, 33, 34] σ (kw_ua σ 32 (va_cpy (σ.1 30) (σ.1 32) (i.toNatClampNeg) (j.toNatClampNeg) (n.toNatClampNeg))) := kw_F_ua hF0 (by decide)
          exact kw_return (pc := 43) (i := 24) rfl rfl ⟨⟨I36, F37⟩, rfl⟩
        · have e_w29 : t.toNatClampNeg = 4 := by have := kw_clampI (x := t) (by omega); omega
          refine kw_aald (pc := 35) (i := 20) (b := 33) rfl rfl (by decide) (by omega) (by rw [e_w29]; rfl) ?_
          refine kw_iload (pc := 36) (i := 21) (k := 4) (n := 4) rfl rfl ?_
          refine kw_iload (pc := 38) (i := 22) (k := 5) (n := 5) rfl rfl ?_
          refine kw_copy (pc := 40) (i := 23) (n := 40) (m_ := 40) rfl laX3_45 rfl rfl (by omega) (by omega) (by omega) (by omega) (by omega) (by decide) (by decide) ?_
          have I38 : kw_I bX (kw_ua σ 33 (va_cpy (σ.1 30) (σ.1 33) (i.toNatClampNeg) (j.toNatClampNeg) (n.toNatClampNeg))) := kw_I_ua hI (fun j => ⟨(kw_rng _).1, Int.le_of_lt_add_one (kw_rng _).2⟩)
          have F39 : kw_F [29, 30, 31, 32, 33, 34] σ (kw_ua σ 33 (va_cpy (σ.1 30) (σ.1 33) (i.toNatClampNeg) (j.toNatClampNeg) (n.toNatClampNeg))) := kw_F_ua hF0 (by decide)
          exact kw_return (pc := 43) (i := 24) rfl rfl ⟨⟨I38, F39⟩, rfl⟩
        · have e_w29 : t.toNatClampNeg = 5 := by have := kw_clampI (x := t) (by omega); omega
          refine kw_aald (pc := 35) (i := 20) (b := 34) rfl rfl (by decide) (by omega) (by rw [e_w29]; rfl) ?_
          refine kw_iload (pc := 36) (i := 21) (k := 4) (n := 4) rfl rfl ?_
          refine kw_iload (pc := 38) (i := 22) (k := 5) (n := 5) rfl rfl ?_
          refine kw_copy (pc := 40) (i := 23) (n := 40) (m_ := 40) rfl laX3_45 rfl rfl (by omega) (by omega) (by omega) (by omega) (by omega) (by decide) (by decide) ?_
          have I40 : kw_I bX (kw_ua σ 34 (va_cpy (σ.1 30) (σ.1 34) (i.toNatClampNeg) (j.toNatClampNeg) (n.toNatClampNeg))) := kw_I_ua hI (fun j => ⟨(kw_rng _).1, Int.le_of_lt_add_one (kw_rng _).2⟩)
          have F41 : kw_F [29, 30, 31, 32, 33, 34] σ (kw_ua σ 34 (va_cpy (σ.1 30) (σ.1 34) (i.toNatClampNeg) (j.toNatClampNeg) (n.toNatClampNeg))) := kw_F_ua hF0 (by decide)
          exact kw_return (pc := 43) (i := 24) rfl rfl ⟨⟨I40, F41⟩, rfl⟩
      · have e_w15 : k.toNatClampNeg = 2 := by have := kw_clampI (x := k) (by omega); omega
        refine kw_aald (pc := 28) (i := 15) (b := 31) rfl rfl (by decide) (by omega) (by rw [e_w15]; rfl) ?_
        refine kw_iload_n (pc := 29) (i := 16) (k := 2) (n := 2) rfl rfl rfl ?_
        refine kw_aload_n (pc := 30) (i := 17) (k := 0) (n := 0) rfl rfl rfl ?_
        refine kw_get (pc := 31) (i := 18) (v := .ref 12) rfl rfl rfl lkX3_17 (fun _ => rfl) ?_
        refine kw_iload_n (pc := 34) (i := 19) (k := 3) (n := 3) rfl rfl rfl ?_
        have w42 : t.toInt = 0 ∨ t.toInt = 1 ∨ t.toInt = 2 ∨ t.toInt = 3 ∨ t.toInt = 4 ∨ t.toInt = 5 := by omega
        rcases w42 with w42 | w42 | w42 | w42 | w42 | w42
        · have e_w42 : t.toNatClampNeg = 0 := by have := kw_clampI (x := t) (by omega); omega
          refine kw_aald (pc := 35) (i := 20) (b := 29) rfl rfl (by decide) (by omega) (by rw [e_w42]; rfl) ?_
          refine kw_iload (pc := 36) (i := 21) (k := 4) (n := 4) rfl rfl ?_
          refine kw_iload (pc := 38) (i := 22) (k := 5) (n := 5) rfl rfl ?_
          refine kw_copy (pc := 40) (i := 23) (n := 40) (m_ := 40) rfl laX3_45 rfl rfl (by omega) (by omega) (by omega) (by omega) (by omega) (by decide) (by decide) ?_
          have I43 : kw_I bX (kw_ua σ 29 (va_cpy (σ.1 31) (σ.1 29) (i.toNatClampNeg) (j.toNatClampNeg) (n.toNatClampNeg))) := kw_I_ua hI (fun j => ⟨(kw_rng _).1, Int.le_of_lt_add_one (kw_rng _).2⟩)
          have F44 : kw_F [29, 30, 31, 32, 33, 34] σ (kw_ua σ 29 (va_cpy (σ.1 31) (σ.1 29) (i.toNatClampNeg) (j.toNatClampNeg) (n.toNatClampNeg))) := kw_F_ua hF0 (by decide)
          exact kw_return (pc := 43) (i := 24) rfl rfl ⟨⟨I43, F44⟩, rfl⟩
        · have e_w42 : t.toNatClampNeg = 1 := by have := kw_clampI (x := t) (by omega); omega
          refine kw_aald (pc := 35) (i := 20) (b := 30) rfl rfl (by decide) (by omega) (by rw [e_w42]; rfl) ?_
          refine kw_iload (pc := 36) (i := 21) (k := 4) (n := 4) rfl rfl ?_
          refine kw_iload (pc := 38) (i := 22) (k := 5) (n := 5) rfl rfl ?_
          refine kw_copy (pc := 40) (i := 23) (n := 40) (m_ := 40) rfl laX3_45 rfl rfl (by omega) (by omega) (by omega) (by omega) (by omega) (by decide) (by decide) ?_
          have I45 : kw_I bX (kw_ua σ 30 (va_cpy (σ.1 31) (σ.1 30) (i.toNatClampNeg) (j.toNatClampNeg) (n.toNatClampNeg))) := kw_I_ua hI (fun j => ⟨(kw_rng _).1, Int.le_of_lt_add_one (kw_rng _).2⟩)
          have F46 : kw_F [29, 30, 31, 32, 33, 34] σ (kw_ua σ 30 (va_cpy (σ.1 31) (σ.1 30) (i.toNatClampNeg) (j.toNatClampNeg) (n.toNatClampNeg))) := kw_F_ua hF0 (by decide)
          exact kw_return (pc := 43) (i := 24) rfl rfl ⟨⟨I45, F46⟩, rfl⟩
        · have e_w42 : t.toNatClampNeg = 2 := by have := kw_clampI (x := t) (by omega); omega
          refine kw_aald (pc := 35) (i := 20) (b := 31) rfl rfl (by decide) (by omega) (by rw [e_w42]; rfl) ?_
          refine kw_iload (pc := 36) (i := 21) (k := 4) (n := 4) rfl rfl ?_
          refine kw_iload (pc := 38) (i := 22) (k := 5) (n := 5) rfl rfl ?_
          refine kw_copy (pc := 40) (i := 23) (n := 40) (m_ := 40) rfl laX3_45 rfl rfl (by omega) (by omega) (by omega) (by omega) (by omega) (by decide) (by decide) ?_
          have I47 : kw_I bX (kw_ua σ 31 (va_cpy (σ.1 31) (σ.1 31) (i.toNatClampNeg) (j.toNatClampNeg) (n.toNatClampNeg))) := kw_I_ua hI (fun j => ⟨(kw_rng _).1, Int.le_of_lt_add_one (kw_rng _).2⟩)
          have F48 : kw_F [29, 30, 31, 32, 33, 34] σ (kw_ua σ 31 (va_cpy (σ.1 31) (σ.1 31) (i.toNatClampNeg) (j.toNatClampNeg) (n.toNatClampNeg))) := kw_F_ua hF0 (by decide)
          exact kw_return (pc := 43) (i := 24) rfl rfl ⟨⟨I47, F48⟩, rfl⟩
        · have e_w42 : t.toNatClampNeg = 3 := by have := kw_clampI (x := t) (by omega); omega
          refine kw_aald (pc := 35) (i := 20) (b := 32) rfl rfl (by decide) (by omega) (by rw [e_w42]; rfl) ?_
          refine kw_iload (pc := 36) (i := 21) (k := 4) (n := 4) rfl rfl ?_
          refine kw_iload (pc := 38) (i := 22) (k := 5) (n := 5) rfl rfl ?_
          refine kw_copy (pc := 40) (i := 23) (n := 40) (m_ := 40) rfl laX3_45 rfl rfl (by omega) (by omega) (by omega) (by omega) (by omega) (by decide) (by decide) ?_
          have I49 : kw_I bX (kw_ua σ 32 (va_cpy (σ.1 31) (σ.1 32) (i.toNatClampNeg) (j.toNatClampNeg) (n.toNatClampNeg))) := kw_I_ua hI (fun j => ⟨(kw_rng _).1, Int.le_of_lt_add_one (kw_rng _).2⟩)
          have F50 : kw_F [29, 30, 31, 32, 33, 34] σ (kw_ua σ 32 (va_cpy (σ.1 31) (σ.1 32) (i.toNatClampNeg) (j.toNatClampNeg) (n.toNatClampNeg))) := kw_F_ua hF0 (by decide)
          exact kw_return (pc := 43) (i := 24) rfl rfl ⟨⟨I49, F50⟩, rfl⟩
        · have e_w42 : t.toNatClampNeg = 4 := by have := kw_clampI (x := t) (by omega); omega
          refine kw_aald (pc := 35) (i := 20) (b := 33) rfl rfl (by decide) (by omega) (by rw [e_w42]; rfl) ?_
          refine kw_iload (pc := 36) (i := 21) (k := 4) (n := 4) rfl rfl ?_
          refine kw_iload (pc := 38) (i := 22) (k := 5) (n := 5) rfl rfl ?_
          refine kw_copy (pc := 40) (i := 23) (n := 40) (m_ := 40) rfl laX3_45 rfl rfl (by omega) (by omega) (by omega) (by omega) (by omega) (by decide) (by decide) ?_
          have I51 : kw_I bX (kw_ua σ 33 (va_cpy (σ.1 31) (σ.1 33) (i.toNatClampNeg) (j.toNatClampNeg) (n.toNatClampNeg))) := kw_I_ua hI (fun j => ⟨(kw_rng _).1, Int.le_of_lt_add_one (kw_rng _).2⟩)
          have F52 : kw_F [29, 30, 31, 32, 33, 34] σ (kw_ua σ 33 (va_cpy (σ.1 31) (σ.1 33) (i.toNatClampNeg) (j.toNatClampNeg) (n.toNatClampNeg))) := kw_F_ua hF0 (by decide)
          exact kw_return (pc := 43) (i := 24) rfl rfl ⟨⟨I51, F52⟩, rfl⟩
        · have e_w42 : t.toNatClampNeg = 5 := by have := kw_clampI (x := t) (by omega); omega
          refine kw_aald (pc := 35) (i := 20) (b := 34) rfl rfl (by decide) (by omega) (by rw [e_w42]; rfl) ?_
          refine kw_iload (pc := 36) (i := 21) (k := 4) (n := 4) rfl rfl ?_
          refine kw_iload (pc := 38) (i := 22) (k := 5) (n := 5) rfl rfl ?_
          refine kw_copy (pc := 40) (i := 23) (n := 40) (m_ := 40) rfl laX3_45 rfl rfl (by omega) (by omega) (by omega) (by omega) (by omega) (by decide) (by decide) ?_
          have I53 : kw_I bX (kw_ua σ 34 (va_cpy (σ.1 31) (σ.1 34) (i.toNatClampNeg) (j.toNatClampNeg) (n.toNatClampNeg))) := kw_I_ua hI (fun j => ⟨(kw_rng _).1, Int.le_of_lt_add_one (kw_rng _).2⟩)
          have F54 : kw_F [29, 30, 31, 32, 33, 34] σ (kw_ua σ 34 (va_cpy (σ.1 31) (σ.1 34) (i.toNatClampNeg) (j.toNatClampNeg) (n.toNatClampNeg))) := kw_F_ua hF0 (by decide)
          exact kw_return (pc := 43) (i := 24) rfl rfl ⟨⟨I53, F54⟩, rfl⟩
      · have e_w15 : k.toNatClampNeg = 3 := by have := kw_clampI (x := k) (by omega); omega
        refine kw_aald (pc := 28) (i := 15) (b := 32) rfl rfl (by decide) (by omega) (by rw [e_w15]; rfl) ?_
        refine kw_iload_n (pc := 29) (i := 16) (k := 2) (n := 2) rfl rfl rfl ?_
        refine kw_aload_n (pc := 30) (i := 17) (k := 0) (n := 0) rfl rfl rfl ?_
        refine kw_get (pc := 31) (i := 18) (v := .ref 12) rfl rfl rfl lkX3_17 (fun _ => rfl) ?_
        refine kw_iload_n (pc := 34) (i := 19) (k := 3) (n := 3) rfl rfl rfl ?_
        have w55 : t.toInt = 0 ∨ t.toInt = 1 ∨ t.toInt = 2 ∨ t.toInt = 3 ∨ t.toInt = 4 ∨ t.toInt = 5 := by omega
        rcases w55 with w55 | w55 | w55 | w55 | w55 | w55
        · have e_w55 : t.toNatClampNeg = 0 := by have := kw_clampI (x := t) (by omega); omega
          refine kw_aald (pc := 35) (i := 20) (b := 29) rfl rfl (by decide) (by omega) (by rw [e_w55]; rfl) ?_
          refine kw_iload (pc := 36) (i := 21) (k := 4) (n := 4) rfl rfl ?_
          refine kw_iload (pc := 38) (i := 22) (k := 5) (n := 5) rfl rfl ?_
          refine kw_copy (pc := 40) (i := 23) (n := 40) (m_ := 40) rfl laX3_45 rfl rfl (by omega) (by omega) (by omega) (by omega) (by omega) (by decide) (by decide) ?_
          have I56 : kw_I bX (kw_ua σ 29 (va_cpy (σ.1 32) (σ.1 29) (i.toNatClampNeg) (j.toNatClampNeg) (n.toNatClampNeg))) := kw_I_ua hI (fun j => ⟨(kw_rng _).1, Int.le_of_lt_add_one (kw_rng _).2⟩)
          have F57 : kw_F [29, 30, 31, 32, 33, 34] σ (kw_ua σ 29 (va_cpy (σ.1 32) (σ.1 29) (i.toNatClampNeg) (j.toNatClampNeg) (n.toNatClampNeg))) := kw_F_ua hF0 (by decide)
          exact kw_return (pc := 43) (i := 24) rfl rfl ⟨⟨I56, F57⟩, rfl⟩
        · have e_w55 : t.toNatClampNeg = 1 := by have := kw_clampI (x := t) (by omega); omega
          refine kw_aald (pc := 35) (i := 20) (b := 30) rfl rfl (by decide) (by omega) (by rw [e_w55]; rfl) ?_
          refine kw_iload (pc := 36) (i := 21) (k := 4) (n := 4) rfl rfl ?_
          refine kw_iload (pc := 38) (i := 22) (k := 5) (n := 5) rfl rfl ?_
          refine kw_copy (pc := 40) (i := 23) (n := 40) (m_ := 40) rfl laX3_45 rfl rfl (by omega) (by omega) (by omega) (by omega) (by omega) (by decide) (by decide) ?_
          have I58 : kw_I bX (kw_ua σ 30 (va_cpy (σ.1 32) (σ.1 30) (i.toNatClampNeg) (j.toNatClampNeg) (n.toNatClampNeg))) := kw_I_ua hI (fun j => ⟨(kw_rng _).1, Int.le_of_lt_add_one (kw_rng _).2⟩)
          have F59 : kw_F [29, 30, 31, 32, 33, 34] σ (kw_ua σ 30 (va_cpy (σ.1 32) (σ.1 30) (i.toNatClampNeg) (j.toNatClampNeg) (n.toNatClampNeg))) := kw_F_ua hF0 (by decide)
          exact kw_return (pc := 43) (i := 24) rfl rfl ⟨⟨I58, F59⟩, rfl⟩
        · have e_w55 : t.toNatClampNeg = 2 := by have := kw_clampI (x := t) (by omega); omega
          refine kw_aald (pc := 35) (i := 20) (b := 31) rfl rfl (by decide) (by omega) (by rw [e_w55]; rfl) ?_
          refine kw_iload (pc := 36) (i := 21) (k := 4) (n := 4) rfl rfl ?_
          refine kw_iload (pc := 38) (i := 22) (k := 5) (n := 5) rfl rfl ?_
          refine kw_copy (pc := 40) (i := 23) (n := 40) (m_ := 40) rfl laX3_45 rfl rfl (by omega) (by omega) (by omega) (by omega) (by omega) (by decide) (by decide) ?_
          have I60 : kw_I bX (kw_ua σ 31 (va_cpy (σ.1 32) (σ.1 31) (i.toNatClampNeg) (j.toNatClampNeg) (n.toNatClampNeg))) := kw_I_ua hI (fun j => ⟨(kw_rng _).1, Int.le_of_lt_add_one (kw_rng _).2⟩)
          have F61 : kw_F [29, 30, 31, 32, 33, 34] σ (kw_ua σ 31 (va_cpy (σ.1 32) (σ.1 31) (i.toNatClampNeg) (j.toNatClampNeg) (n.toNatClampNeg))) := kw_F_ua hF0 (by decide)
          exact kw_return (pc := 43) (i := 24) rfl rfl ⟨⟨I60, F61⟩, rfl⟩
        · have e_w55 : t.toNatClampNeg = 3 := by have := kw_clampI (x := t) (by omega); omega
          refine kw_aald (pc := 35) (i := 20) (b := 32) rfl rfl (by decide) (by omega) (by rw [e_w55]; rfl) ?_
          refine kw_iload (pc := 36) (i := 21) (k := 4) (n := 4) rfl rfl ?_
          refine kw_iload (pc := 38) (i := 22) (k := 5) (n := 5) rfl rfl ?_
          refine kw_copy (pc := 40) (i := 23) (n := 40) (m_ := 40) rfl laX3_45 rfl rfl (by omega) (by omega) (by omega) (by omega) (by omega) (by decide) (by decide) ?_
          have I62 : kw_I bX (kw_ua σ 32 (va_cpy (σ.1 32) (σ.1 32) (i.toNatClampNeg) (j.toNatClampNeg) (n.toNatClampNeg))) := kw_I_ua hI (fun j => ⟨(kw_rng _).1, Int.le_of_lt_add_one (kw_rng _).2⟩)
          have F63 : kw_F [29, 30, 31, 32, 33, 34] σ (kw_ua σ 32 (va_cpy (σ.1 32) (σ.1 32) (i.toNatClampNeg) (j.toNatClampNeg) (n.toNatClampNeg))) := kw_F_ua hF0 (by decide)
          exact kw_return (pc := 43) (i := 24) rfl rfl ⟨⟨I62, F63⟩, rfl⟩
        · have e_w55 : t.toNatClampNeg = 4 := by have := kw_clampI (x := t) (by omega); omega
          refine kw_aald (pc := 35) (i := 20) (b := 33) rfl rfl (by decide) (by omega) (by rw [e_w55]; rfl) ?_
          refine kw_iload (pc := 36) (i := 21) (k := 4) (n := 4) rfl rfl ?_
          refine kw_iload (pc := 38) (i := 22) (k := 5) (n := 5) rfl rfl ?_
          refine kw_copy (pc := 40) (i := 23) (n := 40) (m_ := 40) rfl laX3_45 rfl rfl (by omega) (by omega) (by omega) (by omega) (by omega) (by decide) (by decide) ?_
          have I64 : kw_I bX (kw_ua σ 33 (va_cpy (σ.1 32) (σ.1 33) (i.toNatClampNeg) (j.toNatClampNeg) (n.toNatClampNeg))) := kw_I_ua hI (fun j => ⟨(kw_rng _).1, Int.le_of_lt_add_one (kw_rng _).2⟩)
          have F65 : kw_F [29, 30, 31, 32, 33, 34] σ (kw_ua σ 33 (va_cpy (σ.1 32) (σ.1 33) (i.toNatClampNeg) (j.toNatClampNeg) (n.toNatClampNeg))) := kw_F_ua hF0 (by decide)
          exact kw_return (pc := 43) (i := 24) rfl rfl ⟨⟨I64, F65⟩, rfl⟩
        · have e_w55 : t.toNatClampNeg = 5 := by have := kw_clampI (x := t) (by omega); omega
          refine kw_aald (pc := 35) (i := 20) (b := 34) rfl rfl (by decide) (by omega) (by rw [e_w55]; rfl) ?_
          refine kw_iload (pc := 36) (i := 21) (k := 4) (n := 4) rfl rfl ?_
          refine kw_iload (pc := 38) (i := 22) (k := 5) (n := 5) rfl rfl ?_
          refine kw_copy (pc := 40) (i := 23) (n := 40) (m_ := 40) rfl laX3_45 rfl rfl (by omega) (by omega) (by omega) (by omega) (by omega) (by decide) (by decide) ?_
          have I66 : kw_I bX (kw_ua σ 34 (va_cpy (σ.1 32) (σ.1 34) (i.toNatClampNeg) (j.toNatClampNeg) (n.toNatClampNeg))) := kw_I_ua hI (fun j => ⟨(kw_rng _).1, Int.le_of_lt_add_one (kw_rng _).2⟩)
          have F67 : kw_F [29, 30, 31, 32, 33, 34] σ (kw_ua σ 34 (va_cpy (σ.1 32) (σ.1 34) (i.toNatClampNeg) (j.toNatClampNeg) (n.toNatClampNeg))) := kw_F_ua hF0 (by decide)
          exact kw_return (pc := 43) (i := 24) rfl rfl ⟨⟨I66, F67⟩, rfl⟩
      · have e_w15 : k.toNatClampNeg = 4 := by have := kw_clampI (x := k) (by omega); omega
        refine kw_aald (pc := 28) (i := 15) (b := 33) rfl rfl (by decide) (by omega) (by rw [e_w15]; rfl) ?_
        refine kw_iload_n (pc := 29) (i := 16) (k := 2) (n := 2) rfl rfl rfl ?_
        refine kw_aload_n (pc := 30) (i := 17) (k := 0) (n := 0) rfl rfl rfl ?_
        refine kw_get (pc := 31) (i := 18) (v := .ref 12) rfl rfl rfl lkX3_17 (fun _ => rfl) ?_
        refine kw_iload_n (pc := 34) (i := 19) (k := 3) (n := 3) rfl rfl rfl ?_
        have w68 : t.toInt = 0 ∨ t.toInt = 1 ∨ t.toInt = 2 ∨ t.toInt = 3 ∨ t.toInt = 4 ∨ t.toInt = 5 := by omega
        rcases w68 with w68 | w68 | w68 | w68 | w68 | w68
        · have e_w68 : t.toNatClampNeg = 0 := by have := kw_clampI (x := t) (by omega); omega
          refine kw_aald (pc := 35) (i := 20) (b := 29) rfl rfl (by decide) (by omega) (by rw [e_w68]; rfl) ?_
          refine kw_iload (pc := 36) (i := 21) (k := 4) (n := 4) rfl rfl ?_
          refine kw_iload (pc := 38) (i := 22) (k := 5) (n := 5) rfl rfl ?_
          refine kw_copy (pc := 40) (i := 23) (n := 40) (m_ := 40) rfl laX3_45 rfl rfl (by omega) (by omega) (by omega) (by omega) (by omega) (by decide) (by decide) ?_
          have I69 : kw_I bX (kw_ua σ 29 (va_cpy (σ.1 33) (σ.1 29) (i.toNatClampNeg) (j.toNatClampNeg) (n.toNatClampNeg))) := kw_I_ua hI (fun j => ⟨(kw_rng _).1, Int.le_of_lt_add_one (kw_rng _).2⟩)
          have F70 : kw_F [29, 30, 31, 32, 33, 34] σ (kw_ua σ 29 (va_cpy (σ.1 33) (σ.1 29) (i.toNatClampNeg) (j.toNatClampNeg) (n.toNatClampNeg))) := kw_F_ua hF0 (by decide)
          exact kw_return (pc := 43) (i := 24) rfl rfl ⟨⟨I69, F70⟩, rfl⟩
        · have e_w68 : t.toNatClampNeg = 1 := by have := kw_clampI (x := t) (by omega); omega
          refine kw_aald (pc := 35) (i := 20) (b := 30) rfl rfl (by decide) (by omega) (by rw [e_w68]; rfl) ?_
          refine kw_iload (pc := 36) (i := 21) (k := 4) (n := 4) rfl rfl ?_
          refine kw_iload (pc := 38) (i := 22) (k := 5) (n := 5) rfl rfl ?_
          refine kw_copy (pc := 40) (i := 23) (n := 40) (m_ := 40) rfl laX3_45 rfl rfl (by omega) (by omega) (by omega) (by omega) (by omega) (by decide) (by decide) ?_
          have I71 : kw_I bX (kw_ua σ 30 (va_cpy (σ.1 33) (σ.1 30) (i.toNatClampNeg) (j.toNatClampNeg) (n.toNatClampNeg))) := kw_I_ua hI (fun j => ⟨(kw_rng _).1, Int.le_of_lt_add_one (kw_rng _).2⟩)
          have F72 : kw_F [29, 30, 31, 32, 33, 34] σ (kw_ua σ 30 (va_cpy (σ.1 33) (σ.1 30) (i.toNatClampNeg) (j.toNatClampNeg) (n.toNatClampNeg))) := kw_F_ua hF0 (by decide)
          exact kw_return (pc := 43) (i := 24) rfl rfl ⟨⟨I71, F72⟩, rfl⟩
        · have e_w68 : t.toNatClampNeg = 2 := by have := kw_clampI (x := t) (by omega); omega
          refine kw_aald (pc := 35) (i := 20) (b := 31) rfl rfl (by decide) (by omega) (by rw [e_w68]; rfl) ?_
          refine kw_iload (pc := 36) (i := 21) (k := 4) (n := 4) rfl rfl ?_
          refine kw_iload (pc := 38) (i := 22) (k := 5) (n := 5) rfl rfl ?_
          refine kw_copy (pc := 40) (i := 23) (n := 40) (m_ := 40) rfl laX3_45 rfl rfl (by omega) (by omega) (by omega) (by omega) (by omega) (by decide) (by decide) ?_
          have I73 : kw_I bX (kw_ua σ 31 (va_cpy (σ.1 33) (σ.1 31) (i.toNatClampNeg) (j.toNatClampNeg) (n.toNatClampNeg))) := kw_I_ua hI (fun j => ⟨(kw_rng _).1, Int.le_of_lt_add_one (kw_rng _).2⟩)
          have F74 : kw_F [29, 30, 31, 32, 33, 34] σ (kw_ua σ 31 (va_cpy (σ.1 33) (σ.1 31) (i.toNatClampNeg) (j.toNatClampNeg) (n.toNatClampNeg))) := kw_F_ua hF0 (by decide)
          exact kw_return (pc := 43) (i := 24) rfl rfl ⟨⟨I73, F74⟩, rfl⟩
        · have e_w68 : t.toNatClampNeg = 3 := by have := kw_clampI (x := t) (by omega); omega
          refine kw_aald (pc := 35) (i := 20) (b := 32) rfl rfl (by decide) (by omega) (by rw [e_w68]; rfl) ?_
          refine kw_iload (pc := 36) (i := 21) (k := 4) (n := 4) rfl rfl ?_
          refine kw_iload (pc := 38) (i := 22) (k := 5) (n := 5) rfl rfl ?_
          refine kw_copy (pc := 40) (i := 23) (n := 40) (m_ := 40) rfl laX3_45 rfl rfl (by omega) (by omega) (by omega) (by omega) (by omega) (by decide) (by decide) ?_
          have I75 : kw_I bX (kw_ua σ 32 (va_cpy (σ.1 33) (σ.1 32) (i.toNatClampNeg) (j.toNatClampNeg) (n.toNatClampNeg))) := kw_I_ua hI (fun j => ⟨(kw_rng _).1, Int.le_of_lt_add_one (kw_rng _).2⟩)
          have F76 : kw_F [29, 30, 31, 32, 33, 34] σ (kw_ua σ 32 (va_cpy (σ.1 33) (σ.1 32) (i.toNatClampNeg) (j.toNatClampNeg) (n.toNatClampNeg))) := kw_F_ua hF0 (by decide)
          exact kw_return (pc := 43) (i := 24) rfl rfl ⟨⟨I75, F76⟩, rfl⟩
        · have e_w68 : t.toNatClampNeg = 4 := by have := kw_clampI (x := t) (by omega); omega
          refine kw_aald (pc := 35) (i := 20) (b := 33) rfl rfl (by decide) (by omega) (by rw [e_w68]; rfl) ?_
          refine kw_iload (pc := 36) (i := 21) (k := 4) (n := 4) rfl rfl ?_
          refine kw_iload (pc := 38) (i := 22) (k := 5) (n := 5) rfl rfl ?_
          refine kw_copy (pc := 40) (i := 23) (n := 40) (m_ := 40) rfl laX3_45 rfl rfl (by omega) (by omega) (by omega) (by omega) (by omega) (by decide) (by decide) ?_
          have I77 : kw_I bX (kw_ua σ 33 (va_cpy (σ.1 33) (σ.1 33) (i.toNatClampNeg) (j.toNatClampNeg) (n.toNatClampNeg))) := kw_I_ua hI (fun j => ⟨(kw_rng _).1, Int.le_of_lt_add_one (kw_rng _).2⟩)
          have F78 : kw_F [29, 30, 31, 32, 33, 34] σ (kw_ua σ 33 (va_cpy (σ.1 33) (σ.1 33) (i.toNatClampNeg) (j.toNatClampNeg) (n.toNatClampNeg))) := kw_F_ua hF0 (by decide)
          exact kw_return (pc := 43) (i := 24) rfl rfl ⟨⟨I77, F78⟩, rfl⟩
        · have e_w68 : t.toNatClampNeg = 5 := by have := kw_clampI (x := t) (by omega); omega
          refine kw_aald (pc := 35) (i := 20) (b := 34) rfl rfl (by decide) (by omega) (by rw [e_w68]; rfl) ?_
          refine kw_iload (pc := 36) (i := 21) (k := 4) (n := 4) rfl rfl ?_
          refine kw_iload (pc := 38) (i := 22) (k := 5) (n := 5) rfl rfl ?_
          refine kw_copy (pc := 40) (i := 23) (n := 40) (m_ := 40) rfl laX3_45 rfl rfl (by omega) (by omega) (by omega) (by omega) (by omega) (by decide) (by decide) ?_
          have I79 : kw_I bX (kw_ua σ 34 (va_cpy (σ.1 33) (σ.1 34) (i.toNatClampNeg) (j.toNatClampNeg) (n.toNatClampNeg))) := kw_I_ua hI (fun j => ⟨(kw_rng _).1, Int.le_of_lt_add_one (kw_rng _).2⟩)
          have F80 : kw_F [29, 30, 31, 32, 33, 34] σ (kw_ua σ 34 (va_cpy (σ.1 33) (σ.1 34) (i.toNatClampNeg) (j.toNatClampNeg) (n.toNatClampNeg))) := kw_F_ua hF0 (by decide)
          exact kw_return (pc := 43) (i := 24) rfl rfl ⟨⟨I79, F80⟩, rfl⟩
      · have e_w15 : k.toNatClampNeg = 5 := by have := kw_clampI (x := k) (by omega); omega
        refine kw_aald (pc := 28) (i := 15) (b := 34) rfl rfl (by decide) (by omega) (by rw [e_w15]; rfl) ?_
        refine kw_iload_n (pc := 29) (i := 16) (k := 2) (n := 2) rfl rfl rfl ?_
        refine kw_aload_n (pc := 30) (i := 17) (k := 0) (n := 0) rfl rfl rfl ?_
        refine kw_get (pc := 31) (i := 18) (v := .ref 12) rfl rfl rfl lkX3_17 (fun _ => rfl) ?_
        refine kw_iload_n (pc := 34) (i := 19) (k := 3) (n := 3) rfl rfl rfl ?_
        have w81 : t.toInt = 0 ∨ t.toInt = 1 ∨ t.toInt = 2 ∨ t.toInt = 3 ∨ t.toInt = 4 ∨ t.toInt = 5 := by omega
        rcases w81 with w81 | w81 | w81 | w81 | w81 | w81
        · have e_w81 : t.toNatClampNeg = 0 := by have := kw_clampI (x := t) (by omega); omega
          refine kw_aald (pc := 35) (i := 20) (b := 29) rfl rfl (by decide) (by omega) (by rw [e_w81]; rfl) ?_
          refine kw_iload (pc := 36) (i := 21) (k := 4) (n := 4) rfl rfl ?_
          refine kw_iload (pc := 38) (i := 22) (k := 5) (n := 5) rfl rfl ?_
          refine kw_copy (pc := 40) (i := 23) (n := 40) (m_ := 40) rfl laX3_45 rfl rfl (by omega) (by omega) (by omega) (by omega) (by omega) (by decide) (by decide) ?_
          have I82 : kw_I bX (kw_ua σ 29 (va_cpy (σ.1 34) (σ.1 29) (i.toNatClampNeg) (j.toNatClampNeg) (n.toNatClampNeg))) := kw_I_ua hI (fun j => ⟨(kw_rng _).1, Int.le_of_lt_add_one (kw_rng _).2⟩)
          have F83 : kw_F [29, 30, 31, 32, 33, 34] σ (kw_ua σ 29 (va_cpy (σ.1 34) (σ.1 29) (i.toNatClampNeg) (j.toNatClampNeg) (n.toNatClampNeg))) := kw_F_ua hF0 (by decide)
          exact kw_return (pc := 43) (i := 24) rfl rfl ⟨⟨I82, F83⟩, rfl⟩
        · have e_w81 : t.toNatClampNeg = 1 := by have := kw_clampI (x := t) (by omega); omega
          refine kw_aald (pc := 35) (i := 20) (b := 30) rfl rfl (by decide) (by omega) (by rw [e_w81]; rfl) ?_
          refine kw_iload (pc := 36) (i := 21) (k := 4) (n := 4) rfl rfl ?_
          refine kw_iload (pc := 38) (i := 22) (k := 5) (n := 5) rfl rfl ?_
          refine kw_copy (pc := 40) (i := 23) (n := 40) (m_ := 40) rfl laX3_45 rfl rfl (by omega) (by omega) (by omega) (by omega) (by omega) (by decide) (by decide) ?_
          have I84 : kw_I bX (kw_ua σ 30 (va_cpy (σ.1 34) (σ.1 30) (i.toNatClampNeg) (j.toNatClampNeg) (n.toNatClampNeg))) := kw_I_ua hI (fun j => ⟨(kw_rng _).1, Int.le_of_lt_add_one (kw_rng _).2⟩)
          have F85 : kw_F [29, 30, 31, 32, 33, 34] σ (kw_ua σ 30 (va_cpy (σ.1 34) (σ.1 30) (i.toNatClampNeg) (j.toNatClampNeg) (n.toNatClampNeg))) := kw_F_ua hF0 (by decide)
          exact kw_return (pc := 43) (i := 24) rfl rfl ⟨⟨I84, F85⟩, rfl⟩
        · have e_w81 : t.toNatClampNeg = 2 := by have := kw_clampI (x := t) (by omega); omega
          refine kw_aald (pc := 35) (i := 20) (b := 31) rfl rfl (by decide) (by omega) (by rw [e_w81]; rfl) ?_
          refine kw_iload (pc := 36) (i := 21) (k := 4) (n := 4) rfl rfl ?_
          refine kw_iload (pc := 38) (i := 22) (k := 5) (n := 5) rfl rfl ?_
          refine kw_copy (pc := 40) (i := 23) (n := 40) (m_ := 40) rfl laX3_45 rfl rfl (by omega) (by omega) (by omega) (by omega) (by omega) (by decide) (by decide) ?_
          have I86 : kw_I bX (kw_ua σ 31 (va_cpy (σ.1 34) (σ.1 31) (i.toNatClampNeg) (j.toNatClampNeg) (n.toNatClampNeg))) := kw_I_ua hI (fun j => ⟨(kw_rng _).1, Int.le_of_lt_add_one (kw_rng _).2⟩)
          have F87 : kw_F [29, 30, 31, 32, 33, 34] σ (kw_ua σ 31 (va_cpy (σ.1 34) (σ.1 31) (i.toNatClampNeg) (j.toNatClampNeg) (n.toNatClampNeg))) := kw_F_ua hF0 (by decide)
          exact kw_return (pc := 43) (i := 24) rfl rfl ⟨⟨I86, F87⟩, rfl⟩
        · have e_w81 : t.toNatClampNeg = 3 := by have := kw_clampI (x := t) (by omega); omega
          refine kw_aald (pc := 35) (i := 20) (b := 32) rfl rfl (by decide) (by omega) (by rw [e_w81]; rfl) ?_
          refine kw_iload (pc := 36) (i := 21) (k := 4) (n := 4) rfl rfl ?_
          refine kw_iload (pc := 38) (i := 22) (k := 5) (n := 5) rfl rfl ?_
          refine kw_copy (pc := 40) (i := 23) (n := 40) (m_ := 40) rfl laX3_45 rfl rfl (by omega) (by omega) (by omega) (by omega) (by omega) (by decide) (by decide) ?_
          have I88 : kw_I bX (kw_ua σ 32 (va_cpy (σ.1 34) (σ.1 32) (i.toNatClampNeg) (j.toNatClampNeg) (n.toNatClampNeg))) := kw_I_ua hI (fun j => ⟨(kw_rng _).1, Int.le_of_lt_add_one (kw_rng _).2⟩)
          have F89 : kw_F [29, 30, 31, 32, 33, 34] σ (kw_ua σ 32 (va_cpy (σ.1 34) (σ.1 32) (i.toNatClampNeg) (j.toNatClampNeg) (n.toNatClampNeg))) := kw_F_ua hF0 (by decide)
          exact kw_return (pc := 43) (i := 24) rfl rfl ⟨⟨I88, F89⟩, rfl⟩
        · have e_w81 : t.toNatClampNeg = 4 := by have := kw_clampI (x := t) (by omega); omega
          refine kw_aald (pc := 35) (i := 20) (b := 33) rfl rfl (by decide) (by omega) (by rw [e_w81]; rfl) ?_
          refine kw_iload (pc := 36) (i := 21) (k := 4) (n := 4) rfl rfl ?_
          refine kw_iload (pc := 38) (i := 22) (k := 5) (n := 5) rfl rfl ?_
          refine kw_copy (pc := 40) (i := 23) (n := 40) (m_ := 40) rfl laX3_45 rfl rfl (by omega) (by omega) (by omega) (by omega) (by omega) (by decide) (by decide) ?_
          have I90 : kw_I bX (kw_ua σ 33 (va_cpy (σ.1 34) (σ.1 33) (i.toNatClampNeg) (j.toNatClampNeg) (n.toNatClampNeg))) := kw_I_ua hI (fun j => ⟨(kw_rng _).1, Int.le_of_lt_add_one (kw_rng _).2⟩)
          have F91 : kw_F [29, 30, 31, 32, 33, 34] σ (kw_ua σ 33 (va_cpy (σ.1 34) (σ.1 33) (i.toNatClampNeg) (j.toNatClampNeg) (n.toNatClampNeg))) := kw_F_ua hF0 (by decide)
          exact kw_return (pc := 43) (i := 24) rfl rfl ⟨⟨I90, F91⟩, rfl⟩
        · have e_w81 : t.toNatClampNeg = 5 := by have := kw_clampI (x := t) (by omega); omega
          refine kw_aald (pc := 35) (i := 20) (b := 34) rfl rfl (by decide) (by omega) (by rw [e_w81]; rfl) ?_
          refine kw_iload (pc := 36) (i := 21) (k := 4) (n := 4) rfl rfl ?_
          refine kw_iload (pc := 38) (i := 22) (k := 5) (n := 5) rfl rfl ?_
          refine kw_copy (pc := 40) (i := 23) (n := 40) (m_ := 40) rfl laX3_45 rfl rfl (by omega) (by omega) (by omega) (by omega) (by omega) (by decide) (by decide) ?_
          have I92 : kw_I bX (kw_ua σ 34 (va_cpy (σ.1 34) (σ.1 34) (i.toNatClampNeg) (j.toNatClampNeg) (n.toNatClampNeg))) := kw_I_ua hI (fun j => ⟨(kw_rng _).1, Int.le_of_lt_add_one (kw_rng _).2⟩)
          have F93 : kw_F [29, 30, 31, 32, 33, 34] σ (kw_ua σ 34 (va_cpy (σ.1 34) (σ.1 34) (i.toNatClampNeg) (j.toNatClampNeg) (n.toNatClampNeg))) := kw_F_ua hF0 (by decide)
          exact kw_return (pc := 43) (i := 24) rfl rfl ⟨⟨I92, F93⟩, rfl⟩
