noncomputable def f_X3_move_1 (σ : kw_S) (k : Int32) (i : Int32) (t : Int32) (j : Int32) (n : Int32) : kw_S := kf_l (f_X3_hasPlaces_1 σ k i n) fun z1 => if z1.toInt = 0 then (σ) else (kf_l (f_X3_hasPlaces_1 σ t j n) fun z2 => if z2.toInt = 0 then (σ) else (if k.toInt = 0 then (if t.toInt = 0 then (kf_l (kw_ua σ 29 (va_cpy (σ.1 29) (σ.1 29) (i.toNatClampNeg) (j.toNatClampNeg) (n.toNatClampNeg))) fun S3 => S3) else if t.toInt = 1 then (kf_l (kw_ua σ 30 (va_cpy (σ.1 29) (σ.1 30) (i.toNatClampNeg) (j.toNatClampNeg) (n.toNatClampNeg))) fun S4 => S4) else if t.toInt = 2 then (kf_l (kw_ua σ 31 (va_cpy (σ.1 29) (σ.1 31) (i.toNatClampNeg) (j.toNatClampNeg) (n.toNatClampNeg))) fun S5 => S5) else if t.toInt = 3 then (kf_l (kw_ua σ 32 (va_cpy (σ.1 29) (σ.1 32) (i.toNatClampNeg) (j.toNatClampNeg) (n.toNatClampNeg))) fun S6 => S6) else if t.toInt = 4 then (kf_l (kw_ua σ 33 (va_cpy (σ.1 29) (σ.1 33) (i.toNatClampNeg) (j.toNatClampNeg) (n.toNatClampNeg))) fun S7 => S7) else if t.toInt = 5 then (kf_l (kw_ua σ 34 (va_cpy (σ.1 29) (σ.1 34) (i.toNatClampNeg) (j.toNatClampNeg) (n.toNatClampNeg))) fun S8 => S8) else σ) else if k.toInt = 1 then (if t.toInt = 0 then (kf_l (kw_ua σ 29 (va_cpy (σ.1 30) (σ.1 29) (i.toNatClampNeg) (j.toNatClampNeg) (n.toNatClampNeg))) fun S9 => S9) else if t.toInt = 1 then (kf_l (kw_ua σ 30 (va_cpy (σ.1 30) (σ.1 30) (i.toNatClampNeg) (j.toNatClampNeg) (n.toNatClampNeg))) fun S10 => S10) else if t.toInt = 2 then (kf_l (kw_ua σ 31 (va_cpy (σ.1 30) (σ.1 31) (i.toNatClampNeg) (j.toNatClampNeg) (n.toNatClampNeg))) fun S11 => S11) else if t.toInt = 3 then (kf_l (kw_ua σ 32 (va_cpy (σ.1 30) (σ.1 32) (i.toNatClampNeg) (j.toNatClampNeg) (n.toNatClampNeg))) fun S12 => S12) else if t.toInt = 4 then (kf_l (kw_ua σ 33 (va_cpy (σ.1 30) (σ.1 33) (i.toNatClampNeg) (j.toNatClampNeg) (n.toNatClampNeg))) fun S13 => S13) else if t.toInt = 5 then (kf_l (kw_ua σ 34 (va_cpy (σ.1 30) (σ.1 34) (i.toNatClampNeg) (j.toNatClampNeg) (n.toNatClampNeg))) fun S14 => S14) else σ) else if k.toInt = 2 then (if t.toInt = 0 then (kf_l (kw_ua σ 29 (va_cpy (σ.1 31) (σ.1 29) (i.toNatClampNeg) (j.toNatClampNeg) (n.toNatClampNeg))) fun S15 => S15) else if t.toInt = 1 then (kf_l (kw_ua σ 30 (va_cpy (σ.1 31) (σ.1 30) (i.toNatClampNeg) (j.toNatClampNeg) (n.toNatClampNeg))) fun S16 => S16) else if t.toInt = 2 then (kf_l (kw_ua σ 31 (va_cpy (σ.1 31) (σ.1 31) (i.toNatClampNeg) (j.toNatClampNeg) (n.toNatClampNeg))) fun S17 => S17) else if t.toInt = 3 then (kf_l (kw_ua σ 32 (va_cpy (σ.1 31) (σ.1 32) (i.toNatClampNeg) (j.toNatClampNeg) (n.toNatClampNeg))) fun S18 => S18) else if t.toInt = 4 then (kf_l (kw_ua σ 33 (va_cpy (σ.1 31) (σ.1 33) (i.toNatClampNeg) (j.toNatClampNeg) (n.toNatClampNeg))) fun S19 => S19) else if t.toInt = 5 then (kf_l (kw_ua σ 34 (va_cpy (σ.1 31) (σ.1 34) (i.toNatClampNeg) (j.toNatClampNeg) (n.toNatClampNeg))) fun S20 => S20) else σ) else if k.toInt = 3 then (if t.toInt = 0 then (kf_l (kw_ua σ 29 (va_cpy (σ.1 32) (σ.1 29) (i.toNatClampNeg) (j.toNatClampNeg) (n.toNatClampNeg))) fun S21 => S21) else if t.toInt = 1 then (kf_l (kw_ua σ 30 (va_cpy (σ.1 32) (σ.1 30) (i.toNatClampNeg) (j.toNatClampNeg) (n.toNatClampNeg))) fun S22 => S22) else if t.toInt = 2 then (kf_l (kw_ua σ 31 (va_cpy (σ.1 32) (σ.1 31) (i.toNatClampNeg) (j.toNatClampNeg) (n.toNatClampNeg))) fun S23 => S23) else if t.toInt = 3 then (kf_l (kw_ua σ 32 (va_cpy (σ.1 32) (σ.1 32) (i.toNatClampNeg) (j.toNatClampNeg) (n.toNatClampNeg))) fun S24 => S24) else if t.toInt = 4 then (kf_l (kw_ua σ 33 (va_cpy (σ.1 32) (σ.1 33) (i.toNatClampNeg) (j.toNatClampNeg) (n.toNatClampNeg))) fun S25 => S25) else if t.toInt = 5 then (kf_l (kw_ua σ 34 (va_cpy (σ.1 32) (σ.1 34) (i.toNatClampNeg) (j.toNatClampNeg) (n.toNatClampNeg))) fun S26 => S26) else σ) else if k.toInt = 4 then (if t.toInt = 0 then (kf_l (kw_ua σ 29 (va_cpy (σ.1 33) (σ.1 29) (i.toNatClampNeg) (j.toNatClampNeg) (n.toNatClampNeg))) fun S27 => S27) else if t.toInt = 1 then (kf_l (kw_ua σ 30 (va_cpy (σ.1 33) (σ.1 30) (i.toNatClampNeg) (j.toNatClampNeg) (n.toNatClampNeg))) fun S28 => S28) else if t.toInt = 2 then (kf_l (kw_ua σ 31 (va_cpy (σ.1 33) (σ.1 31) (i.toNatClampNeg) (j.toNatClampNeg) (n.toNatClampNeg))) fun S29 => S29) else if t.toInt = 3 then (kf_l (kw_ua σ 32 (va_cpy (σ.1 33) (σ.1 32) (i.toNatClampNeg) (j.toNatClampNeg) (n.toNatClampNeg))) fun S30 => S30) else if t.toInt = 4 then (kf_l (kw_ua σ 33 (va_cpy (σ.1 33) (σ.1 33) (i.toNatClampNeg) (j.toNatClampNeg) (n.toNatClampNeg))) fun S31 => S31) else if t.toInt = 5 then (kf_l (kw_ua σ 34 (va_cpy (σ.1 33) (σ.1 34) (i.toNatClampNeg) (j.toNatClampNeg) (n.toNatClampNeg))) fun S32 => S32) else σ) else if k.toInt = 5 then (if t.toInt = 0 then (kf_l (kw_ua σ 29 (va_cpy (σ.1 34) (σ.1 29) (i.toNatClampNeg) (j.toNatClampNeg) (n.toNatClampNeg))) fun S33 => S33) else if t.toInt = 1 then (kf_l (kw_ua σ 30 (va_cpy (σ.1 34) (σ.1 30) (i.toNatClampNeg) (j.toNatClampNeg) (n.toNatClampNeg))) fun S34 => S34) else if t.toInt = 2 then (kf_l (kw_ua σ 31 (va_cpy (σ.1 34) (σ.1 31) (i.toNatClampNeg) (j.toNatClampNeg) (n.toNatClampNeg))) fun S35 => S35) else if t.toInt = 3 then (kf_l (kw_ua σ 32 (va_cpy (σ.1 34) (σ.1 32) (i.toNatClampNeg) (j.toNatClampNeg) (n.toNatClampNeg))) fun S36 => S36) else if t.toInt = 4 then (kf_l (kw_ua σ 33 (va_cpy (σ.1 34) (σ.1 33) (i.toNatClampNeg) (j.toNatClampNeg) (n.toNatClampNeg))) fun S37 => S37) else if t.toInt = 5 then (kf_l (kw_ua σ 34 (va_cpy (σ.1 34) (σ.1 34) (i.toNatClampNeg) (j.toNatClampNeg) (n.toNatClampNeg))) fun S38 => S38) else σ) else σ))
theorem f_X3_move_1_u (σ : kw_S) (k : Int32) (i : Int32) (t : Int32) (j : Int32) (n : Int32) : f_X3_move_1 σ k i t j n = kf_l (f_X3_hasPlaces_1 σ k i n) fun z1 => if z1.toInt = 0 then (σ) else (kf_l (f_X3_hasPlaces_1 σ t j n) fun z2 => if z2.toInt = 0 then (σ) else (if k.toInt = 0 then (if t.toInt = 0 then (kf_l (kw_ua σ 29 (va_cpy (σ.1 29) (σ.1 29) (i.toNatClampNeg) (j.toNatClampNeg) (n.toNatClampNeg))) fun S3 => S3) else if t.toInt = 1 then (kf_l (kw_ua σ 30 (va_cpy (σ.1 29) (σ.1 30) (i.toNatClampNeg) (j.toNatClampNeg) (n.toNatClampNeg))) fun S4 => S4) else if t.toInt = 2 then (kf_l (kw_ua σ 31 (va_cpy (σ.1 29) (σ.1 31) (i.toNatClampNeg) (j.toNatClampNeg) (n.toNatClampNeg))) fun S5 => S5) else if t.toInt = 3 then (kf_l (kw_ua σ 32 (va_cpy (σ.1 29) (σ.1 32) (i.toNatClampNeg) (j.toNatClampNeg) (n.toNatClampNeg))) fun S6 => S6) else if t.toInt = 4 then (kf_l (kw_ua σ 33 (va_cpy (σ.1 29) (σ.1 33) (i.toNatClampNeg) (j.toNatClampNeg) (n.toNatClampNeg))) fun S7 => S7) else if t.toInt = 5 then (kf_l (kw_ua σ 34 (va_cpy (σ.1 29) (σ.1 34) (i.toNatClampNeg) (j.toNatClampNeg) (n.toNatClampNeg))) fun S8 => S8) else σ) else if k.toInt = 1 then (if t.toInt = 0 then (kf_l (kw_ua σ 29 (va_cpy (σ.1 30) (σ.1 29) (i.toNatClampNeg) (j.toNatClampNeg) (n.toNatClampNeg))) fun S9 => S9) else if t.toInt = 1 then (kf_l (kw_ua σ 30 (va_cpy (σ.1 30) (σ.1 30) (i.toNatClampNeg) (j.toNatClampNeg) (n.toNatClampNeg))) fun S10 => S10) else if t.toInt = 2 then (kf_l (kw_ua σ 31 (va_cpy (σ.1 30) (σ.1 31) (i.toNatClampNeg) (j.toNatClampNeg) (n.toNatClampNeg))) fun S11 => S11) else if t.toInt = 3 then (kf_l (kw_ua σ 32 (va_cpy (σ.1 30) (σ.1 32) (i.toNatClampNeg) (j.toNatClampNeg) (n.toNatClampNeg))) fun S12 => S12) else if t.toInt = 4 then (kf_l (kw_ua σ 33 (va_cpy (σ.1 30) (σ.1 33) (i.toNatClampNeg) (j.toNatClampNeg) (n.toNatClampNeg))) fun S13 => S13) else if t.toInt = 5 then (kf_l (kw_ua σ 34 (va_cpy (σ.1 30) (σ.1 34) (i.toNatClampNeg) (j.toNatClampNeg) (n.toNatClampNeg))) fun S14 => S14) else σ) else if k.toInt = 2 then (if t.toInt = 0 then (kf_l (kw_ua σ 29 (va_cpy (σ.1 31) (σ.1 29) (i.toNatClampNeg) (j.toNatClampNeg) (n.toNatClampNeg))) fun S15 => S15) else if t.toInt = 1 then (kf_l (kw_ua σ 30 (va_cpy (σ.1 31) (σ.1 30) (i.toNatClampNeg) (j.toNatClampNeg) (n.toNatClampNeg))) fun S16 => S16) else if t.toInt = 2 then (kf_l (kw_ua σ 31 (va_cpy (σ.1 31) (σ.1 31) (i.toNatClampNeg) (j.toNatClampNeg) (n.toNatClampNeg))) fun S17 => S17) else if t.toInt = 3 then (kf_l (kw_ua σ 32 (va_cpy (σ.1 31) (σ.1 32) (i.toNatClampNeg) (j.toNatClampNeg) (n.toNatClampNeg))) fun S18 => S18) else if t.toInt = 4 then (kf_l (kw_ua σ 33 (va_cpy (σ.1 31) (σ.1 33) (i.toNatClampNeg) (j.toNatClampNeg) (n.toNatClampNeg))) fun S19 => S19) else if t.toInt = 5 then (kf_l (kw_ua σ 34 (va_cpy (σ.1 31) (σ.1 34) (i.toNatClampNeg) (j.toNatClampNeg) (n.toNatClampNeg))) fun S20 => S20) else σ) else if k.toInt = 3 then (if t.toInt = 0 then (kf_l (kw_ua σ 29 (va_cpy (σ.1 32) (σ.1 29) (i.toNatClampNeg) (j.toNatClampNeg) (n.toNatClampNeg))) fun S21 => S21) else if t.toInt = 1 then (kf_l (kw_ua σ 30 (va_cpy (σ.1 32) (σ.1 30) (i.toNatClampNeg) (j.toNatClampNeg) (n.toNatClampNeg))) fun S22 => S22) else if t.toInt = 2 then (kf_l (kw_ua σ 31 (va_cpy (σ.1 32) (σ.1 31) (i.toNatClampNeg) (j.toNatClampNeg) (n.toNatClampNeg))) fun S23 => S23) else if t.toInt = 3 then (kf_l (kw_ua σ 32 (va_cpy (σ.1 32) (σ.1 32) (i.toNatClampNeg) (j.toNatClampNeg) (n.toNatClampNeg))) fun S24 => S24) else if t.toInt = 4 then (kf_l (kw_ua σ 33 (va_cpy (σ.1 32) (σ.1 33) (i.toNatClampNeg) (j.toNatClampNeg) (n.toNatClampNeg))) fun S25 => S25) else if t.toInt = 5 then (kf_l (kw_ua σ 34 (va_cpy (σ.1 32) (σ.1 34) (i.toNatClampNeg) (j.toNatClampNeg) (n.toNatClampNeg))) fun S26 => S26) else σ) else if k.toInt = 4 then (if t.toInt = 0 then (kf_l (kw_ua σ 29 (va_cpy (σ.1 33) (σ.1 29) (i.toNatClampNeg) (j.toNatClampNeg) (n.toNatClampNeg))) fun S27 => S27) else if t.toInt = 1 then (kf_l (kw_ua σ 30 (va_cpy (σ.1 33) (σ.1 30) (i.toNatClampNeg) (j.toNatClampNeg) (n.toNatClampNeg))) fun S28 => S28) else if t.toInt = 2 then (kf_l (kw_ua σ 31 (va_cpy (σ.1 33) (σ.1 31) (i.toNatClampNeg) (j.toNatClampNeg) (n.toNatClampNeg))) fun S29 => S29) else if t.toInt = 3 then (kf_l (kw_ua σ 32 (va_cpy (σ.1 33) (σ.1 32) (i.toNatClampNeg) (j.toNatClampNeg) (n.toNatClampNeg))) fun S30 => S30) else if t.toInt = 4 then (kf_l (kw_ua σ 33 (va_cpy (σ.1 33) (σ.1 33) (i.toNatClampNeg) (j.toNatClampNeg) (n.toNatClampNeg))) fun S31 => S31) else if t.toInt = 5 then (kf_l (kw_ua σ 34 (va_cpy (σ.1 33) (σ.1 34) (i.toNatClampNeg) (j.toNatClampNeg) (n.toNatClampNeg))) fun S32 => S32) else σ) else if k.toInt = 5 then (if t.toInt = 0 then (kf_l (kw_ua σ 29 (va_cpy (σ.1 34) (σ.1 29) (i.toNatClampNeg) (j.toNatClampNeg) (n.toNatClampNeg))) fun S33 => S33) else if t.toInt = 1 then (kf_l (kw_ua σ 30 (va_cpy (σ.1 34) (σ.1 30) (i.toNatClampNeg) (j.toNatClampNeg) (n.toNatClampNeg))) fun S34 => S34) else if t.toInt = 2 then (kf_l (kw_ua σ 31 (va_cpy (σ.1 34) (σ.1 31) (i.toNatClampNeg) (j.toNatClampNeg) (n.toNatClampNeg))) fun S35 => S35) else if t.toInt = 3 then (kf_l (kw_ua σ 32 (va_cpy (σ.1 34) (σ.1 32) (i.toNatClampNeg) (j.toNatClampNeg) (n.toNatClampNeg))) fun S36 => S36) else if t.toInt = 4 then (kf_l (kw_ua σ 33 (va_cpy (σ.1 34) (σ.1 33) (i.toNatClampNeg) (j.toNatClampNeg) (n.toNatClampNeg))) fun S37 => S37) else if t.toInt = 5 then (kf_l (kw_ua σ 34 (va_cpy (σ.1 34) (σ.1 34) (i.toNatClampNeg) (j.toNatClampNeg) (n.toNatClampNeg))) fun S38 => S38) else σ) else σ)) := rfl
abbrev p_X3_move_1 (σ : kw_S) (k : Int32) (i : Int32) (t : Int32) (j : Int32) (n : Int32) : Option Value → kw_S → Prop := fun vv σ' => (kw_I bX σ' ∧ kw_F [29, 30, 31, 32, 33, 34] σ σ') ∧ vv = none ∧ σ' = f_X3_move_1 σ k i t j n
set_option maxRecDepth 100000 in
set_option maxHeartbeats 4000000 in
theorem c_X3_move_1 (l : Launch) (σ : kw_S) (hI : kw_I bX σ) (k : Int32) (i : Int32) (t : Int32) (j : Int32) (n : Int32) : kw_Met l 3 KX mX3_move [.ref 1, .int k, .int i, .int t, .int j, .int n] σ (p_X3_move_1 σ k i t j n) := by
  have r_k := kw_rng k
  have r_i := kw_rng i
  have r_t := kw_rng t
  have r_j := kw_rng j
  have r_n := kw_rng n
  have hF0 : kw_F [29, 30, 31, 32, 33, 34] σ σ := kw_F.rf
  have hF := (f_X3_move_1_u σ k i t j n).symm
  refine kw_Met.of (by decide) rfl tX3_move (Nat.le_of_ble_eq_true rfl) ?_
  show kw_AW l 3 kw_E0 KX mX3_move (p_X3_move_1 σ k i t j n) 0 [(0, .ref 1), (1, .int k), (2, .int i), (3, .int t), (4, .int j), (5, .int n)] [] σ
  refine kw_aload_n (pc := 0) (i := 0) (k := 0) (n := 0) rfl rfl rfl ?_
  refine kw_iload_n (pc := 1) (i := 1) (k := 1) (n := 1) rfl rfl rfl ?_
  refine kw_iload_n (pc := 2) (i := 2) (k := 2) (n := 2) rfl rfl rfl ?_
  refine kw_iload (pc := 3) (i := 3) (k := 5) (n := 5) rfl rfl ?_
  refine kw_callV (pc := 5) (i := 4) (Y := mX3_hasPlaces) (a := 1) (As := [.int k, .int i, .int n]) (st := []) kw_hE rfl rfl lvX3_41 arX3_hasPlaces (c_X3_hasPlaces_1 l σ hI k i n ) (by decide) (Nat.le_of_ble_eq_true rfl) rfl (fun v S2 p1 => ?_)
  obtain ⟨e7, z6, rfl, f3, f4, ef5⟩ := p1
  rw [e7]
  replace hF := kf_le ef5 hF
  have r_z6 := kw_rng z6
  show kw_AW l 3 kw_E0 KX mX3_move (p_X3_move_1 σ k i t j n) 8 [(0, .ref 1), (1, .int k), (2, .int i), (3, .int t), (4, .int j), (5, .int n)] [.int z6] σ
  refine kw_if_eq (pc := 8) (i := 5) (tgt := 43) rfl rfl (fun c8 => ?_) (fun c8 => ?_)
  · replace hF := kf_p c8 hF
    exact kw_return (pc := 43) (i := 24) rfl rfl ⟨⟨hI, hF0⟩, rfl, hF⟩
  · replace hF := kf_n c8 hF
    refine kw_aload_n (pc := 11) (i := 6) (k := 0) (n := 0) rfl rfl rfl ?_
    refine kw_iload_n (pc := 12) (i := 7) (k := 3) (n := 3) rfl rfl rfl ?_
    refine kw_iload (pc := 13) (i := 8) (k := 4) (n := 4) rfl rfl ?_
    refine kw_iload (pc := 15) (i := 9) (k := 5) (n := 5) rfl rfl ?_
    refine kw_callV (pc := 17) (i := 10) (Y := mX3_hasPlaces) (a := 1) (As := [.int t, .int j, .int n]) (st := []) kw_hE rfl rfl lvX3_41 arX3_hasPlaces (c_X3_hasPlaces_1 l σ hI t j n ) (by decide) (Nat.le_of_ble_eq_true rfl) rfl (fun v S10 p9 => ?_)
    obtain ⟨e15, z14, rfl, f11, f12, ef13⟩ := p9
    rw [e15]
    replace hF := kf_le ef13 hF
    have r_z14 := kw_rng z14
    show kw_AW l 3 kw_E0 KX mX3_move (p_X3_move_1 σ k i t j n) 20 [(0, .ref 1), (1, .int k), (2, .int i), (3, .int t), (4, .int j), (5, .int n)] [.int z14] σ
    refine kw_if_eq (pc := 20) (i := 11) (tgt := 43) rfl rfl (fun c16 => ?_) (fun c16 => ?_)
    · replace hF := kf_p c16 hF
      exact kw_return (pc := 43) (i := 24) rfl rfl ⟨⟨hI, hF0⟩, rfl, hF⟩
    · replace hF := kf_n c16 hF
      refine kw_aload_n (pc := 23) (i := 12) (k := 0) (n := 0) rfl rfl rfl ?_
      refine kw_get (pc := 24) (i := 13) (v := .ref 12) rfl rfl rfl lkX3_17 (fun _ => rfl) ?_
      refine kw_iload_n (pc := 27) (i := 14) (k := 1) (n := 1) rfl rfl rfl ?_
      have w17 : k.toInt = 0 ∨ k.toInt = 1 ∨ k.toInt = 2 ∨ k.toInt = 3 ∨ k.toInt = 4 ∨ k.toInt = 5 := by omega
      rcases w17 with w17 | w17 | w17 | w17 | w17 | w17
      · replace hF := kf_p w17 hF
        have e_w17 : k.toNatClampNeg = 0 := by have := kw_clampI (x := k) (by omega); omega
        refine kw_aald (pc := 28) (i := 15) (b := 29) rfl rfl (by decide) (by omega) (by rw [e_w17]; rfl) ?_
        refine kw_iload_n (pc := 29) (i := 16) (k := 2) (n := 2) rfl rfl rfl ?_
        refine kw_aload_n (pc := 30) (i := 17) (k := 0) (n := 0) rfl rfl rfl ?_
        refine kw_get (pc := 31) (i := 18) (v := .ref 12) rfl rfl rfl lkX3_17 (fun _ => rfl) ?_
        refine kw_iload_n (pc := 34) (i := 19) (k := 3) (n := 3) rfl rfl rfl ?_
        have w18 : t.toInt = 0 ∨ t.toInt = 1 ∨ t.toInt = 2 ∨ t.toInt = 3 ∨ t.toInt = 4 ∨ t.toInt = 5 := by omega
        rcases w18 with w18 | w18 | w18 | w18 | w18 | w18
        · replace hF := kf_p w18 hF
          have e_w18 : t.toNatClampNeg = 0 := by have := kw_clampI (x := t) (by omega); omega
          refine kw_aald (pc := 35) (i := 20) (b := 29) rfl rfl (by decide) (by omega) (by rw [e_w18]; rfl) ?_
          refine kw_iload (pc := 36) (i := 21) (k := 4) (n := 4) rfl rfl ?_
          refine kw_iload (pc := 38) (i := 22) (k := 5) (n := 5) rfl rfl ?_
          refine kw_copy (pc := 40) (i := 23) (n := 40) (m_ := 40) rfl laX3_45 rfl rfl (by omega) (by omega) (by omega) (by omega) (by omega) (by omega) (Nat.le_of_ble_eq_true rfl) ?_
          have I19 : kw_I bX (kw_ua σ 29 (va_cpy (σ.1 29) (σ.1 29) (i.toNatClampNeg) (j.toNatClampNeg) (n.toNatClampNeg))) := kw_I_ua hI (fun j => ⟨(kw_rng _).1, Int.le_of_lt_add_one (kw_rng _).2⟩)
          have F20 : kw_F [29, 30, 31, 32, 33, 34] σ (kw_ua σ 29 (va_cpy (σ.1 29) (σ.1 29) (i.toNatClampNeg) (j.toNatClampNeg) (n.toNatClampNeg))) := kw_F_ua hF0 (by decide)
          generalize hS21 : (kw_ua σ 29 (va_cpy (σ.1 29) (σ.1 29) (i.toNatClampNeg) (j.toNatClampNeg) (n.toNatClampNeg))) = S21 at I19 F20 ⊢
          replace hF := kf_le hS21.symm hF
          exact kw_return (pc := 43) (i := 24) rfl rfl ⟨⟨I19, F20⟩, rfl, hF⟩
        · replace hF := kf_n (fun q => absurd (w18.symm.trans q) (by decide)) hF
          replace hF := kf_p w18 hF
          have e_w18 : t.toNatClampNeg = 1 := by have := kw_clampI (x := t) (by omega); omega
          refine kw_aald (pc := 35) (i := 20) (b := 30) rfl rfl (by decide) (by omega) (by rw [e_w18]; rfl) ?_
          refine kw_iload (pc := 36) (i := 21) (k := 4) (n := 4) rfl rfl ?_
          refine kw_iload (pc := 38) (i := 22) (k := 5) (n := 5) rfl rfl ?_
          refine kw_copy (pc := 40) (i := 23) (n := 40) (m_ := 40) rfl laX3_45 rfl rfl (by omega) (by omega) (by omega) (by omega) (by omega) (by omega) (Nat.le_of_ble_eq_true rfl) ?_
          have I22 : kw_I bX (kw_ua σ 30 (va_cpy (σ.1 29) (σ.1 30) (i.toNatClampNeg) (j.toNatClampNeg) (n.toNatClampNeg))) := kw_I_ua hI (fun j => ⟨(kw_rng _).1, Int.le_of_lt_add_one (kw_rng _).2⟩)
          have F23 : kw_F [29, 30, 31, 32, 33, 34] σ (kw_ua σ 30 (va_cpy (σ.1 29) (σ.1 30) (i.toNatClampNeg) (j.toNatClampNeg) (n.toNatClampNeg))) := kw_F_ua hF0 (by decide)
          generalize hS24 : (kw_ua σ 30 (va_cpy (σ.1 29) (σ.1 30) (i.toNatClampNeg) (j.toNatClampNeg) (n.toNatClampNeg))) = S24 at I22 F23 ⊢
          replace hF := kf_le hS24.symm hF
          exact kw_return (pc := 43) (i := 24) rfl rfl ⟨⟨I22, F23⟩, rfl, hF⟩
        · replace hF := kf_n (fun q => absurd (w18.symm.trans q) (by decide)) hF
          replace hF := kf_n (fun q => absurd (w18.symm.trans q) (by decide)) hF
          replace hF := kf_p w18 hF
          have e_w18 : t.toNatClampNeg = 2 := by have := kw_clampI (x := t) (by omega); omega
          refine kw_aald (pc := 35) (i := 20) (b := 31) rfl rfl (by decide) (by omega) (by rw [e_w18]; rfl) ?_
          refine kw_iload (pc := 36) (i := 21) (k := 4) (n := 4) rfl rfl ?_
          refine kw_iload (pc := 38) (i := 22) (k := 5) (n := 5) rfl rfl ?_
          refine kw_copy (pc := 40) (i := 23) (n := 40) (m_ := 40) rfl laX3_45 rfl rfl (by omega) (by omega) (by omega) (by omega) (by omega) (by omega) (Nat.le_of_ble_eq_true rfl) ?_
          have I25 : kw_I bX (kw_ua σ 31 (va_cpy (σ.1 29) (σ.1 31) (i.toNatClampNeg) (j.toNatClampNeg) (n.toNatClampNeg))) := kw_I_ua hI (fun j => ⟨(kw_rng _).1, Int.le_of_lt_add_one (kw_rng _).2⟩)
          have F26 : kw_F [29, 30, 31, 32, 33, 34] σ (kw_ua σ 31 (va_cpy (σ.1 29) (σ.1 31) (i.toNatClampNeg) (j.toNatClampNeg) (n.toNatClampNeg))) := kw_F_ua hF0 (by decide)
          generalize hS27 : (kw_ua σ 31 (va_cpy (σ.1 29) (σ.1 31) (i.toNatClampNeg) (j.toNatClampNeg) (n.toNatClampNeg))) = S27 at I25 F26 ⊢
          replace hF := kf_le hS27.symm hF
          exact kw_return (pc := 43) (i := 24) rfl rfl ⟨⟨I25, F26⟩, rfl, hF⟩
        · replace hF := kf_n (fun q => absurd (w18.symm.trans q) (by decide)) hF
          replace hF := kf_n (fun q => absurd (w18.symm.trans q) (by decide)) hF
          replace hF := kf_n (fun q => absurd (w18.symm.trans q) (by decide)) hF
          replace hF := kf_p w18 hF
          have e_w18 : t.toNatClampNeg = 3 := by have := kw_clampI (x := t) (by omega); omega
          refine kw_aald (pc := 35) (i := 20) (b := 32) rfl rfl (by decide) (by omega) (by rw [e_w18]; rfl) ?_
          refine kw_iload (pc := 36) (i := 21) (k := 4) (n := 4) rfl rfl ?_
          refine kw_iload (pc := 38) (i := 22) (k := 5) (n := 5) rfl rfl ?_
          refine kw_copy (pc := 40) (i := 23) (n := 40) (m_ := 40) rfl laX3_45 rfl rfl (by omega) (by omega) (by omega) (by omega) (by omega) (by omega) (Nat.le_of_ble_eq_true rfl) ?_
          have I28 : kw_I bX (kw_ua σ 32 (va_cpy (σ.1 29) (σ.1 32) (i.toNatClampNeg) (j.toNatClampNeg) (n.toNatClampNeg))) := kw_I_ua hI (fun j => ⟨(kw_rng _).1, Int.le_of_lt_add_one (kw_rng _).2⟩)
          have F29 : kw_F [29, 30, 31, 32, 33, 34] σ (kw_ua σ 32 (va_cpy (σ.1 29) (σ.1 32) (i.toNatClampNeg) (j.toNatClampNeg) (n.toNatClampNeg))) := kw_F_ua hF0 (by decide)
          generalize hS30 : (kw_ua σ 32 (va_cpy (σ.1 29) (σ.1 32) (i.toNatClampNeg) (j.toNatClampNeg) (n.toNatClampNeg))) = S30 at I28 F29 ⊢
          replace hF := kf_le hS30.symm hF
          exact kw_return (pc := 43) (i := 24) rfl rfl ⟨⟨I28, F29⟩, rfl, hF⟩
        · replace hF := kf_n (fun q => absurd (w18.symm.trans q) (by decide)) hF
          replace hF := kf_n (fun q => absurd (w18.symm.trans q) (by decide)) hF
          replace hF := kf_n (fun q => absurd (w18.symm.trans q) (by decide)) hF
          replace hF := kf_n (fun q => absurd (w18.symm.trans q) (by decide)) hF
          replace hF := kf_p w18 hF
          have e_w18 : t.toNatClampNeg = 4 := by have := kw_clampI (x := t) (by omega); omega
          refine kw_aald (pc := 35) (i := 20) (b := 33) rfl rfl (by decide) (by omega) (by rw [e_w18]; rfl) ?_
          refine kw_iload (pc := 36) (i := 21) (k := 4) (n := 4) rfl rfl ?_
          refine kw_iload (pc := 38) (i := 22) (k := 5) (n := 5) rfl rfl ?_
          refine kw_copy (pc := 40) (i := 23) (n := 40) (m_ := 40) rfl laX3_45 rfl rfl (by omega) (by omega) (by omega) (by omega) (by omega) (by omega) (Nat.le_of_ble_eq_true rfl) ?_
          have I31 : kw_I bX (kw_ua σ 33 (va_cpy (σ.1 29) (σ.1 33) (i.toNatClampNeg) (j.toNatClampNeg) (n.toNatClampNeg))) := kw_I_ua hI (fun j => ⟨(kw_rng _).1, Int.le_of_lt_add_one (kw_rng _).2⟩)
          have F32 : kw_F [29, 30, 31, 32, 33, 34] σ (kw_ua σ 33 (va_cpy (σ.1 29) (σ.1 33) (i.toNatClampNeg) (j.toNatClampNeg) (n.toNatClampNeg))) := kw_F_ua hF0 (by decide)
          generalize hS33 : (kw_ua σ 33 (va_cpy (σ.1 29) (σ.1 33) (i.toNatClampNeg) (j.toNatClampNeg) (n.toNatClampNeg))) = S33 at I31 F32 ⊢
          replace hF := kf_le hS33.symm hF
          exact kw_return (pc := 43) (i := 24) rfl rfl ⟨⟨I31, F32⟩, rfl, hF⟩
        · replace hF := kf_n (fun q => absurd (w18.symm.trans q) (by decide)) hF
          replace hF := kf_n (fun q => absurd (w18.symm.trans q) (by decide)) hF
          replace hF := kf_n (fun q => absurd (w18.symm.trans q) (by decide)) hF
          replace hF := kf_n (fun q => absurd (w18.symm.trans q) (by decide)) hF
          replace hF := kf_n (fun q => absurd (w18.symm.trans q) (by decide)) hF
          replace hF := kf_p w18 hF
          have e_w18 : t.toNatClampNeg = 5 := by have := kw_clampI (x := t) (by omega); omega
          refine kw_aald (pc := 35) (i := 20) (b := 34) rfl rfl (by decide) (by omega) (by rw [e_w18]; rfl) ?_
          refine kw_iload (pc := 36) (i := 21) (k := 4) (n := 4) rfl rfl ?_
          refine kw_iload (pc := 38) (i := 22) (k := 5) (n := 5) rfl rfl ?_
          refine kw_copy (pc := 40) (i := 23) (n := 40) (m_ := 40) rfl laX3_45 rfl rfl (by omega) (by omega) (by omega) (by omega) (by omega) (by omega) (Nat.le_of_ble_eq_true rfl) ?_
          have I34 : kw_I bX (kw_ua σ 34 (va_cpy (σ.1 29) (σ.1 34) (i.toNatClampNeg) (j.toNatClampNeg) (n.toNatClampNeg))) := kw_I_ua hI (fun j => ⟨(kw_rng _).1, Int.le_of_lt_add_one (kw_rng _).2⟩)
          have F35 : kw_F [29, 30, 31, 32, 33, 34] σ (kw_ua σ 34 (va_cpy (σ.1 29) (σ.1 34) (i.toNatClampNeg) (j.toNatClampNeg) (n.toNatClampNeg))) := kw_F_ua hF0 (by decide)
          generalize hS36 : (kw_ua σ 34 (va_cpy (σ.1 29) (σ.1 34) (i.toNatClampNeg) (j.toNatClampNeg) (n.toNatClampNeg))) = S36 at I34 F35 ⊢
          replace hF := kf_le hS36.symm hF
          exact kw_return (pc := 43) (i := 24) rfl rfl ⟨⟨I34, F35⟩, rfl, hF⟩
      · replace hF := kf_n (fun q => absurd (w17.symm.trans q) (by decide)) hF
        replace hF := kf_p w17 hF
        have e_w17 : k.toNatClampNeg = 1 := by have := kw_clampI (x := k) (by omega); omega
        refine kw_aald (pc := 28) (i := 15) (b := 30) rfl rfl (by decide) (by omega) (by rw [e_w17]; rfl) ?_
        refine kw_iload_n (pc := 29) (i := 16) (k := 2) (n := 2) rfl rfl rfl ?_
        refine kw_aload_n (pc := 30) (i := 17) (k := 0) (n := 0) rfl rfl rfl ?_
        refine kw_get (pc := 31) (i := 18) (v := .ref 12) rfl rfl rfl lkX3_17 (fun _ => rfl) ?_
        refine kw_iload_n (pc := 34) (i := 19) (k := 3) (n := 3) rfl rfl rfl ?_
        have w37 : t.toInt = 0 ∨ t.toInt = 1 ∨ t.toInt = 2 ∨ t.toInt = 3 ∨ t.toInt = 4 ∨ t.toInt = 5 := by omega
        rcases w37 with w37 | w37 | w37 | w37 | w37 | w37
        · replace hF := kf_p w37 hF
          have e_w37 : t.toNatClampNeg = 0 := by have := kw_clampI (x := t) (by omega); omega
          refine kw_aald (pc := 35) (i := 20) (b := 29) rfl rfl (by decide) (by omega) (by rw [e_w37]; rfl) ?_
          refine kw_iload (pc := 36) (i := 21) (k := 4) (n := 4) rfl rfl ?_
          refine kw_iload (pc := 38) (i := 22) (k := 5) (n := 5) rfl rfl ?_
          refine kw_copy (pc := 40) (i := 23) (n := 40) (m_ := 40) rfl laX3_45 rfl rfl (by omega) (by omega) (by omega) (by omega) (by omega) (by omega) (Nat.le_of_ble_eq_true rfl) ?_
          have I38 : kw_I bX (kw_ua σ 29 (va_cpy (σ.1 30) (σ.1 29) (i.toNatClampNeg) (j.toNatClampNeg) (n.toNatClampNeg))) := kw_I_ua hI (fun j => ⟨(kw_rng _).1, Int.le_of_lt_add_one (kw_rng _).2⟩)
          have F39 : kw_F [29, 30, 31, 32, 33, 34] σ (kw_ua σ 29 (va_cpy (σ.1 30) (σ.1 29) (i.toNatClampNeg) (j.toNatClampNeg) (n.toNatClampNeg))) := kw_F_ua hF0 (by decide)
          generalize hS40 : (kw_ua σ 29 (va_cpy (σ.1 30) (σ.1 29) (i.toNatClampNeg) (j.toNatClampNeg) (n.toNatClampNeg))) = S40 at I38 F39 ⊢
          replace hF := kf_le hS40.symm hF
          exact kw_return (pc := 43) (i := 24) rfl rfl ⟨⟨I38, F39⟩, rfl, hF⟩
        · replace hF := kf_n (fun q => absurd (w37.symm.trans q) (by decide)) hF
          replace hF := kf_p w37 hF
          have e_w37 : t.toNatClampNeg = 1 := by have := kw_clampI (x := t) (by omega); omega
          refine kw_aald (pc := 35) (i := 20) (b := 30) rfl rfl (by decide) (by omega) (by rw [e_w37]; rfl) ?_
          refine kw_iload (pc := 36) (i := 21) (k := 4) (n := 4) rfl rfl ?_
          refine kw_iload (pc := 38) (i := 22) (k := 5) (n := 5) rfl rfl ?_
          refine kw_copy (pc := 40) (i := 23) (n := 40) (m_ := 40) rfl laX3_45 rfl rfl (by omega) (by omega) (by omega) (by omega) (by omega) (by omega) (Nat.le_of_ble_eq_true rfl) ?_
          have I41 : kw_I bX (kw_ua σ 30 (va_cpy (σ.1 30) (σ.1 30) (i.toNatClampNeg) (j.toNatClampNeg) (n.toNatClampNeg))) := kw_I_ua hI (fun j => ⟨(kw_rng _).1, Int.le_of_lt_add_one (kw_rng _).2⟩)
          have F42 : kw_F [29, 30, 31, 32, 33, 34] σ (kw_ua σ 30 (va_cpy (σ.1 30) (σ.1 30) (i.toNatClampNeg) (j.toNatClampNeg) (n.toNatClampNeg))) := kw_F_ua hF0 (by decide)
          generalize hS43 : (kw_ua σ 30 (va_cpy (σ.1 30) (σ.1 30) (i.toNatClampNeg) (j.toNatClampNeg) (n.toNatClampNeg))) = S43 at I41 F42 ⊢
          replace hF := kf_le hS43.symm hF
          exact kw_return (pc := 43) (i := 24) rfl rfl ⟨⟨I41, F42⟩, rfl, hF⟩
        · replace hF := kf_n (fun q => absurd (w37.symm.trans q) (by decide)) hF
          replace hF := kf_n (fun q => absurd (w37.symm.trans q) (by decide)) hF
          replace hF := kf_p w37 hF
          have e_w37 : t.toNatClampNeg = 2 := by have := kw_clampI (x := t) (by omega); omega
          refine kw_aald (pc := 35) (i := 20) (b := 31) rfl rfl (by decide) (by omega) (by rw [e_w37]; rfl) ?_
          refine kw_iload (pc := 36) (i := 21) (k := 4) (n := 4) rfl rfl ?_
          refine kw_iload (pc := 38) (i := 22) (k := 5) (n := 5) rfl rfl ?_
          refine kw_copy (pc := 40) (i := 23) (n := 40) (m_ := 40) rfl laX3_45 rfl rfl (by omega) (by omega) (by omega) (by omega) (by omega) (by omega) (Nat.le_of_ble_eq_true rfl) ?_
          have I44 : kw_I bX (kw_ua σ 31 (va_cpy (σ.1 30) (σ.1 31) (i.toNatClampNeg) (j.toNatClampNeg) (n.toNatClampNeg))) := kw_I_ua hI (fun j => ⟨(kw_rng _).1, Int.le_of_lt_add_one (kw_rng _).2⟩)
          have F45 : kw_F [29, 30, 31, 32, 33, 34] σ (kw_ua σ 31 (va_cpy (σ.1 30) (σ.1 31) (i.toNatClampNeg) (j.toNatClampNeg) (n.toNatClampNeg))) := kw_F_ua hF0 (by decide)
          generalize hS46 : (kw_ua σ 31 (va_cpy (σ.1 30) (σ.1 31) (i.toNatClampNeg) (j.toNatClampNeg) (n.toNatClampNeg))) = S46 at I44 F45 ⊢
          replace hF := kf_le hS46.symm hF
          exact kw_return (pc := 43) (i := 24) rfl rfl ⟨⟨I44, F45⟩, rfl, hF⟩
        · replace hF := kf_n (fun q => absurd (w37.symm.trans q) (by decide)) hF
          replace hF := kf_n (fun q => absurd (w37.symm.trans q) (by decide)) hF
          replace hF := kf_n (fun q => absurd (w37.symm.trans q) (by decide)) hF
          replace hF := kf_p w37 hF
          have e_w37 : t.toNatClampNeg = 3 := by have := kw_clampI (x := t) (by omega); omega
          refine kw_aald (pc := 35) (i := 20) (b := 32) rfl rfl (by decide) (by omega) (by rw [e_w37]; rfl) ?_
          refine kw_iload (pc := 36) (i := 21) (k := 4) (n := 4) rfl rfl ?_
          refine kw_iload (pc := 38) (i := 22) (k := 5) (n := 5) rfl rfl ?_
          refine kw_copy (pc := 40) (i := 23) (n := 40) (m_ := 40) rfl laX3_45 rfl rfl (by omega) (by omega) (by omega) (by omega) (by omega) (by omega) (Nat.le_of_ble_eq_true rfl) ?_
          have I47 : kw_I bX (kw_ua σ 32 (va_cpy (σ.1 30) (σ.1 32) (i.toNatClampNeg) (j.toNatClampNeg) (n.toNatClampNeg))) := kw_I_ua hI (fun j => ⟨(kw_rng _).1, Int.le_of_lt_add_one (kw_rng _).2⟩)
          have F48 : kw_F [29, 30, 31, 32, 33, 34] σ (kw_ua σ 32 (va_cpy (σ.1 30) (σ.1 32) (i.toNatClampNeg) (j.toNatClampNeg) (n.toNatClampNeg))) := kw_F_ua hF0 (by decide)
          generalize hS49 : (kw_ua σ 32 (va_cpy (σ.1 30) (σ.1 32) (i.toNatClampNeg) (j.toNatClampNeg) (n.toNatClampNeg))) = S49 at I47 F48 ⊢
          replace hF := kf_le hS49.symm hF
          exact kw_return (pc := 43) (i := 24) rfl rfl ⟨⟨I47, F48⟩, rfl, hF⟩
        · replace hF := kf_n (fun q => absurd (w37.symm.trans q) (by decide)) hF
          replace hF := kf_n (fun q => absurd (w37.symm.trans q) (by decide)) hF
          replace hF := kf_n (fun q => absurd (w37.symm.trans q) (by decide)) hF
          replace hF := kf_n (fun q => absurd (w37.symm.trans q) (by decide)) hF
          replace hF := kf_p w37 hF
          have e_w37 : t.toNatClampNeg = 4 := by have := kw_clampI (x := t) (by omega); omega
          refine kw_aald (pc := 35) (i := 20) (b := 33) rfl rfl (by decide) (by omega) (by rw [e_w37]; rfl) ?_
          refine kw_iload (pc := 36) (i := 21) (k := 4) (n := 4) rfl rfl ?_
          refine kw_iload (pc := 38) (i := 22) (k := 5) (n := 5) rfl rfl ?_
          refine kw_copy (pc := 40) (i := 23) (n := 40) (m_ := 40) rfl laX3_45 rfl rfl (by omega) (by omega) (by omega) (by omega) (by omega) (by omega) (Nat.le_of_ble_eq_true rfl) ?_
          have I50 : kw_I bX (kw_ua σ 33 (va_cpy (σ.1 30) (σ.1 33) (i.toNatClampNeg) (j.toNatClampNeg) (n.toNatClampNeg))) := kw_I_ua hI (fun j => ⟨(kw_rng _).1, Int.le_of_lt_add_one (kw_rng _).2⟩)
          have F51 : kw_F [29, 30, 31, 32, 33, 34] σ (kw_ua σ 33 (va_cpy (σ.1 30) (σ.1 33) (i.toNatClampNeg) (j.toNatClampNeg) (n.toNatClampNeg))) := kw_F_ua hF0 (by decide)
          generalize hS52 : (kw_ua σ 33 (va_cpy (σ.1 30) (σ.1 33) (i.toNatClampNeg) (j.toNatClampNeg) (n.toNatClampNeg))) = S52 at I50 F51 ⊢
          replace hF := kf_le hS52.symm hF
          exact kw_return (pc := 43) (i := 24) rfl rfl ⟨⟨I50, F51⟩, rfl, hF⟩
        · replace hF := kf_n (fun q => absurd (w37.symm.trans q) (by decide)) hF
          replace hF := kf_n (fun q => absurd (w37.symm.trans q) (by decide)) hF
          replace hF := kf_n (fun q => absurd (w37.symm.trans q) (by decide)) hF
          replace hF := kf_n (fun q => absurd (w37.symm.trans q) (by decide)) hF
          replace hF := kf_n (fun q => absurd (w37.symm.trans q) (by decide)) hF
          replace hF := kf_p w37 hF
          have e_w37 : t.toNatClampNeg = 5 := by have := kw_clampI (x := t) (by omega); omega
          refine kw_aald (pc := 35) (i := 20) (b := 34) rfl rfl (by decide) (by omega) (by rw [e_w37]; rfl) ?_
          refine kw_iload (pc := 36) (i := 21) (k := 4) (n := 4) rfl rfl ?_
          refine kw_iload (pc := 38) (i := 22) (k := 5) (n := 5) rfl rfl ?_
          refine kw_copy (pc := 40) (i := 23) (n := 40) (m_ := 40) rfl laX3_45 rfl rfl (by omega) (by omega) (by omega) (by omega) (by omega) (by omega) (Nat.le_of_ble_eq_true rfl) ?_
          have I53 : kw_I bX (kw_ua σ 34 (va_cpy (σ.1 30) (σ.1 34) (i.toNatClampNeg) (j.toNatClampNeg) (n.toNatClampNeg))) := kw_I_ua hI (fun j => ⟨(kw_rng _).1, Int.le_of_lt_add_one (kw_rng _).2⟩)
          have F54 : kw_F [29, 30, 31, 32, 33, 34] σ (kw_ua σ 34 (va_cpy (σ.1 30) (σ.1 34) (i.toNatClampNeg) (j.toNatClampNeg) (n.toNatClampNeg))) := kw_F_ua hF0 (by decide)
          generalize hS55 : (kw_ua σ 34 (va_cpy (σ.1 30) (σ.1 34) (i.toNatClampNeg) (j.toNatClampNeg) (n.toNatClampNeg))) = S55 at I53 F54 ⊢
          replace hF := kf_le hS55.symm hF
          exact kw_return (pc := 43) (i := 24) rfl rfl ⟨⟨I53, F54⟩, rfl, hF⟩
      · replace hF := kf_n (fun q => absurd (w17.symm.trans q) (by decide)) hF
        replace hF := kf_n (fun q => absurd (w17.symm.trans q) (by decide)) hF
        replace hF := kf_p w17 hF
        have e_w17 : k.toNatClampNeg = 2 := by have := kw_clampI (x := k) (by omega); omega
        refine kw_aald (pc := 28) (i := 15) (b := 31) rfl rfl (by decide) (by omega) (by rw [e_w17]; rfl) ?_
        refine kw_iload_n (pc := 29) (i := 16) (k := 2) (n := 2) rfl rfl rfl ?_
        refine kw_aload_n (pc := 30) (i := 17) (k := 0) (n := 0) rfl rfl rfl ?_
        refine kw_get (pc := 31) (i := 18) (v := .ref 12) rfl rfl rfl lkX3_17 (fun _ => rfl) ?_
        refine kw_iload_n (pc := 34) (i := 19) (k := 3) (n := 3) rfl rfl rfl ?_
        have w56 : t.toInt = 0 ∨ t.toInt = 1 ∨ t.toInt = 2 ∨ t.toInt = 3 ∨ t.toInt = 4 ∨ t.toInt = 5 := by omega
        rcases w56 with w56 | w56 | w56 | w56 | w56 | w56
        · replace hF := kf_p w56 hF
          have e_w56 : t.toNatClampNeg = 0 := by have := kw_clampI (x := t) (by omega); omega
          refine kw_aald (pc := 35) (i := 20) (b := 29) rfl rfl (by decide) (by omega) (by rw [e_w56]; rfl) ?_
          refine kw_iload (pc := 36) (i := 21) (k := 4) (n := 4) rfl rfl ?_
          refine kw_iload (pc := 38) (i := 22) (k := 5) (n := 5) rfl rfl ?_
          refine kw_copy (pc := 40) (i := 23) (n := 40) (m_ := 40) rfl laX3_45 rfl rfl (by omega) (by omega) (by omega) (by omega) (by omega) (by omega) (Nat.le_of_ble_eq_true rfl) ?_
          have I57 : kw_I bX (kw_ua σ 29 (va_cpy (σ.1 31) (σ.1 29) (i.toNatClampNeg) (j.toNatClampNeg) (n.toNatClampNeg))) := kw_I_ua hI (fun j => ⟨(kw_rng _).1, Int.le_of_lt_add_one (kw_rng _).2⟩)
          have F58 : kw_F [29, 30, 31, 32, 33, 34] σ (kw_ua σ 29 (va_cpy (σ.1 31) (σ.1 29) (i.toNatClampNeg) (j.toNatClampNeg) (n.toNatClampNeg))) := kw_F_ua hF0 (by decide)
          generalize hS59 : (kw_ua σ 29 (va_cpy (σ.1 31) (σ.1 29) (i.toNatClampNeg) (j.toNatClampNeg) (n.toNatClampNeg))) = S59 at I57 F58 ⊢
          replace hF := kf_le hS59.symm hF
          exact kw_return (pc := 43) (i := 24) rfl rfl ⟨⟨I57, F58⟩, rfl, hF⟩
        · replace hF := kf_n (fun q => absurd (w56.symm.trans q) (by decide)) hF
          replace hF := kf_p w56 hF
          have e_w56 : t.toNatClampNeg = 1 := by have := kw_clampI (x := t) (by omega); omega
          refine kw_aald (pc := 35) (i := 20) (b := 30) rfl rfl (by decide) (by omega) (by rw [e_w56]; rfl) ?_
          refine kw_iload (pc := 36) (i := 21) (k := 4) (n := 4) rfl rfl ?_
          refine kw_iload (pc := 38) (i := 22) (k := 5) (n := 5) rfl rfl ?_
          refine kw_copy (pc := 40) (i := 23) (n := 40) (m_ := 40) rfl laX3_45 rfl rfl (by omega) (by omega) (by omega) (by omega) (by omega) (by omega) (Nat.le_of_ble_eq_true rfl) ?_
          have I60 : kw_I bX (kw_ua σ 30 (va_cpy (σ.1 31) (σ.1 30) (i.toNatClampNeg) (j.toNatClampNeg) (n.toNatClampNeg))) := kw_I_ua hI (fun j => ⟨(kw_rng _).1, Int.le_of_lt_add_one (kw_rng _).2⟩)
          have F61 : kw_F [29, 30, 31, 32, 33, 34] σ (kw_ua σ 30 (va_cpy (σ.1 31) (σ.1 30) (i.toNatClampNeg) (j.toNatClampNeg) (n.toNatClampNeg))) := kw_F_ua hF0 (by decide)
          generalize hS62 : (kw_ua σ 30 (va_cpy (σ.1 31) (σ.1 30) (i.toNatClampNeg) (j.toNatClampNeg) (n.toNatClampNeg))) = S62 at I60 F61 ⊢
          replace hF := kf_le hS62.symm hF
          exact kw_return (pc := 43) (i := 24) rfl rfl ⟨⟨I60, F61⟩, rfl, hF⟩
        · replace hF := kf_n (fun q => absurd (w56.symm.trans q) (by decide)) hF
          replace hF := kf_n (fun q => absurd (w56.symm.trans q) (by decide)) hF
          replace hF := kf_p w56 hF
          have e_w56 : t.toNatClampNeg = 2 := by have := kw_clampI (x := t) (by omega); omega
          refine kw_aald (pc := 35) (i := 20) (b := 31) rfl rfl (by decide) (by omega) (by rw [e_w56]; rfl) ?_
          refine kw_iload (pc := 36) (i := 21) (k := 4) (n := 4) rfl rfl ?_
          refine kw_iload (pc := 38) (i := 22) (k := 5) (n := 5) rfl rfl ?_
          refine kw_copy (pc := 40) (i := 23) (n := 40) (m_ := 40) rfl laX3_45 rfl rfl (by omega) (by omega) (by omega) (by omega) (by omega) (by omega) (Nat.le_of_ble_eq_true rfl) ?_
          have I63 : kw_I bX (kw_ua σ 31 (va_cpy (σ.1 31) (σ.1 31) (i.toNatClampNeg) (j.toNatClampNeg) (n.toNatClampNeg))) := kw_I_ua hI (fun j => ⟨(kw_rng _).1, Int.le_of_lt_add_one (kw_rng _).2⟩)
          have F64 : kw_F [29, 30, 31, 32, 33, 34] σ (kw_ua σ 31 (va_cpy (σ.1 31) (σ.1 31) (i.toNatClampNeg) (j.toNatClampNeg) (n.toNatClampNeg))) := kw_F_ua hF0 (by decide)
          generalize hS65 : (kw_ua σ 31 (va_cpy (σ.1 31) (σ.1 31) (i.toNatClampNeg) (j.toNatClampNeg) (n.toNatClampNeg))) = S65 at I63 F64 ⊢
          replace hF := kf_le hS65.symm hF
          exact kw_return (pc := 43) (i := 24) rfl rfl ⟨⟨I63, F64⟩, rfl, hF⟩
        · replace hF := kf_n (fun q => absurd (w56.symm.trans q) (by decide)) hF
          replace hF := kf_n (fun q => absurd (w56.symm.trans q) (by decide)) hF
          replace hF := kf_n (fun q => absurd (w56.symm.trans q) (by decide)) hF
          replace hF := kf_p w56 hF
          have e_w56 : t.toNatClampNeg = 3 := by have := kw_clampI (x := t) (by omega); omega
          refine kw_aald (pc := 35) (i := 20) (b := 32) rfl rfl (by decide) (by omega) (by rw [e_w56]; rfl) ?_
          refine kw_iload (pc := 36) (i := 21) (k := 4) (n := 4) rfl rfl ?_
          refine kw_iload (pc := 38) (i := 22) (k := 5) (n := 5) rfl rfl ?_
          refine kw_copy (pc := 40) (i := 23) (n := 40) (m_ := 40) rfl laX3_45 rfl rfl (by omega) (by omega) (by omega) (by omega) (by omega) (by omega) (Nat.le_of_ble_eq_true rfl) ?_
          have I66 : kw_I bX (kw_ua σ 32 (va_cpy (σ.1 31) (σ.1 32) (i.toNatClampNeg) (j.toNatClampNeg) (n.toNatClampNeg))) := kw_I_ua hI (fun j => ⟨(kw_rng _).1, Int.le_of_lt_add_one (kw_rng _).2⟩)
          have F67 : kw_F [29, 30, 31, 32, 33, 34] σ (kw_ua σ 32 (va_cpy (σ.1 31) (σ.1 32) (i.toNatClampNeg) (j.toNatClampNeg) (n.toNatClampNeg))) := kw_F_ua hF0 (by decide)
          generalize hS68 : (kw_ua σ 32 (va_cpy (σ.1 31) (σ.1 32) (i.toNatClampNeg) (j.toNatClampNeg) (n.toNatClampNeg))) = S68 at I66 F67 ⊢
          replace hF := kf_le hS68.symm hF
          exact kw_return (pc := 43) (i := 24) rfl rfl ⟨⟨I66, F67⟩, rfl, hF⟩
        · replace hF := kf_n (fun q => absurd (w56.symm.trans q) (by decide)) hF
          replace hF := kf_n (fun q => absurd (w56.symm.trans q) (by decide)) hF
          replace hF := kf_n (fun q => absurd (w56.symm.trans q) (by decide)) hF
          replace hF := kf_n (fun q => absurd (w56.symm.trans q) (by decide)) hF
          replace hF := kf_p w56 hF
          have e_w56 : t.toNatClampNeg = 4 := by have := kw_clampI (x := t) (by omega); omega
          refine kw_aald (pc := 35) (i := 20) (b := 33) rfl rfl (by decide) (by omega) (by rw [e_w56]; rfl) ?_
          refine kw_iload (pc := 36) (i := 21) (k := 4) (n := 4) rfl rfl ?_
          refine kw_iload (pc := 38) (i := 22) (k := 5) (n := 5) rfl rfl ?_
          refine kw_copy (pc := 40) (i := 23) (n := 40) (m_ := 40) rfl laX3_45 rfl rfl (by omega) (by omega) (by omega) (by omega) (by omega) (by omega) (Nat.le_of_ble_eq_true rfl) ?_
          have I69 : kw_I bX (kw_ua σ 33 (va_cpy (σ.1 31) (σ.1 33) (i.toNatClampNeg) (j.toNatClampNeg) (n.toNatClampNeg))) := kw_I_ua hI (fun j => ⟨(kw_rng _).1, Int.le_of_lt_add_one (kw_rng _).2⟩)
          have F70 : kw_F [29, 30, 31, 32, 33, 34] σ (kw_ua σ 33 (va_cpy (σ.1 31) (σ.1 33) (i.toNatClampNeg) (j.toNatClampNeg) (n.toNatClampNeg))) := kw_F_ua hF0 (by decide)
          generalize hS71 : (kw_ua σ 33 (va_cpy (σ.1 31) (σ.1 33) (i.toNatClampNeg) (j.toNatClampNeg) (n.toNatClampNeg))) = S71 at I69 F70 ⊢
          replace hF := kf_le hS71.symm hF
          exact kw_return (pc := 43) (i := 24) rfl rfl ⟨⟨I69, F70⟩, rfl, hF⟩
        · replace hF := kf_n (fun q => absurd (w56.symm.trans q) (by decide)) hF
          replace hF := kf_n (fun q => absurd (w56.symm.trans q) (by decide)) hF
          replace hF := kf_n (fun q => absurd (w56.symm.trans q) (by decide)) hF
          replace hF := kf_n (fun q => absurd (w56.symm.trans q) (by decide)) hF
          replace hF := kf_n (fun q => absurd (w56.symm.trans q) (by decide)) hF
          replace hF := kf_p w56 hF
          have e_w56 : t.toNatClampNeg = 5 := by have := kw_clampI (x := t) (by omega); omega
          refine kw_aald (pc := 35) (i := 20) (b := 34) rfl rfl (by decide) (by omega) (by rw [e_w56]; rfl) ?_
          refine kw_iload (pc := 36) (i := 21) (k := 4) (n := 4) rfl rfl ?_
          refine kw_iload (pc := 38) (i := 22) (k := 5) (n := 5) rfl rfl ?_
          refine kw_copy (pc := 40) (i := 23) (n := 40) (m_ := 40) rfl laX3_45 rfl rfl (by omega) (by omega) (by omega) (by omega) (by omega) (by omega) (Nat.le_of_ble_eq_true rfl) ?_
          have I72 : kw_I bX (kw_ua σ 34 (va_cpy (σ.1 31) (σ.1 34) (i.toNatClampNeg) (j.toNatClampNeg) (n.toNatClampNeg))) := kw_I_ua hI (fun j => ⟨(kw_rng _).1, Int.le_of_lt_add_one (kw_rng _).2⟩)
          have F73 : kw_F [29, 30, 31, 32, 33, 34] σ (kw_ua σ 34 (va_cpy (σ.1 31) (σ.1 34) (i.toNatClampNeg) (j.toNatClampNeg) (n.toNatClampNeg))) := kw_F_ua hF0 (by decide)
          generalize hS74 : (kw_ua σ 34 (va_cpy (σ.1 31) (σ.1 34) (i.toNatClampNeg) (j.toNatClampNeg) (n.toNatClampNeg))) = S74 at I72 F73 ⊢
          replace hF := kf_le hS74.symm hF
          exact kw_return (pc := 43) (i := 24) rfl rfl ⟨⟨I72, F73⟩, rfl, hF⟩
      · replace hF := kf_n (fun q => absurd (w17.symm.trans q) (by decide)) hF
        replace hF := kf_n (fun q => absurd (w17.symm.trans q) (by decide)) hF
        replace hF := kf_n (fun q => absurd (w17.symm.trans q) (by decide)) hF
        replace hF := kf_p w17 hF
        have e_w17 : k.toNatClampNeg = 3 := by have := kw_clampI (x := k) (by omega); omega
        refine kw_aald (pc := 28) (i := 15) (b := 32) rfl rfl (by decide) (by omega) (by rw [e_w17]; rfl) ?_
        refine kw_iload_n (pc := 29) (i := 16) (k := 2) (n := 2) rfl rfl rfl ?_
        refine kw_aload_n (pc := 30) (i := 17) (k := 0) (n := 0) rfl rfl rfl ?_
        refine kw_get (pc := 31) (i := 18) (v := .ref 12) rfl rfl rfl lkX3_17 (fun _ => rfl) ?_
        refine kw_iload_n (pc := 34) (i := 19) (k := 3) (n := 3) rfl rfl rfl ?_
        have w75 : t.toInt = 0 ∨ t.toInt = 1 ∨ t.toInt = 2 ∨ t.toInt = 3 ∨ t.toInt = 4 ∨ t.toInt = 5 := by omega
        rcases w75 with w75 | w75 | w75 | w75 | w75 | w75
        · replace hF := kf_p w75 hF
          have e_w75 : t.toNatClampNeg = 0 := by have := kw_clampI (x := t) (by omega); omega
          refine kw_aald (pc := 35) (i := 20) (b := 29) rfl rfl (by decide) (by omega) (by rw [e_w75]; rfl) ?_
          refine kw_iload (pc := 36) (i := 21) (k := 4) (n := 4) rfl rfl ?_
          refine kw_iload (pc := 38) (i := 22) (k := 5) (n := 5) rfl rfl ?_
          refine kw_copy (pc := 40) (i := 23) (n := 40) (m_ := 40) rfl laX3_45 rfl rfl (by omega) (by omega) (by omega) (by omega) (by omega) (by omega) (Nat.le_of_ble_eq_true rfl) ?_
          have I76 : kw_I bX (kw_ua σ 29 (va_cpy (σ.1 32) (σ.1 29) (i.toNatClampNeg) (j.toNatClampNeg) (n.toNatClampNeg))) := kw_I_ua hI (fun j => ⟨(kw_rng _).1, Int.le_of_lt_add_one (kw_rng _).2⟩)
          have F77 : kw_F [29, 30, 31, 32, 33, 34] σ (kw_ua σ 29 (va_cpy (σ.1 32) (σ.1 29) (i.toNatClampNeg) (j.toNatClampNeg) (n.toNatClampNeg))) := kw_F_ua hF0 (by decide)
          generalize hS78 : (kw_ua σ 29 (va_cpy (σ.1 32) (σ.1 29) (i.toNatClampNeg) (j.toNatClampNeg) (n.toNatClampNeg))) = S78 at I76 F77 ⊢
          replace hF := kf_le hS78.symm hF
          exact kw_return (pc := 43) (i := 24) rfl rfl ⟨⟨I76, F77⟩, rfl, hF⟩
        · replace hF := kf_n (fun q => absurd (w75.symm.trans q) (by decide)) hF
          replace hF := kf_p w75 hF
          have e_w75 : t.toNatClampNeg = 1 := by have := kw_clampI (x := t) (by omega); omega
          refine kw_aald (pc := 35) (i := 20) (b := 30) rfl rfl (by decide) (by omega) (by rw [e_w75]; rfl) ?_
          refine kw_iload (pc := 36) (i := 21) (k := 4) (n := 4) rfl rfl ?_
          refine kw_iload (pc := 38) (i := 22) (k := 5) (n := 5) rfl rfl ?_
          refine kw_copy (pc := 40) (i := 23) (n := 40) (m_ := 40) rfl laX3_45 rfl rfl (by omega) (by omega) (by omega) (by omega) (by omega) (by omega) (Nat.le_of_ble_eq_true rfl) ?_
          have I79 : kw_I bX (kw_ua σ 30 (va_cpy (σ.1 32) (σ.1 30) (i.toNatClampNeg) (j.toNatClampNeg) (n.toNatClampNeg))) := kw_I_ua hI (fun j => ⟨(kw_rng _).1, Int.le_of_lt_add_one (kw_rng _).2⟩)
          have F80 : kw_F [29, 30, 31, 32, 33, 34] σ (kw_ua σ 30 (va_cpy (σ.1 32) (σ.1 30) (i.toNatClampNeg) (j.toNatClampNeg) (n.toNatClampNeg))) := kw_F_ua hF0 (by decide)
          generalize hS81 : (kw_ua σ 30 (va_cpy (σ.1 32) (σ.1 30) (i.toNatClampNeg) (j.toNatClampNeg) (n.toNatClampNeg))) = S81 at I79 F80 ⊢
          replace hF := kf_le hS81.symm hF
          exact kw_return (pc := 43) (i := 24) rfl rfl ⟨⟨I79, F80⟩, rfl, hF⟩
        · replace hF := kf_n (fun q => absurd (w75.symm.trans q) (by decide)) hF
          replace hF := kf_n (fun q => absurd (w75.symm.trans q) (by decide)) hF
          replace hF := kf_p w75 hF
          have e_w75 : t.toNatClampNeg = 2 := by have := kw_clampI (x := t) (by omega); omega
          refine kw_aald (pc := 35) (i := 20) (b := 31) rfl rfl (by decide) (by omega) (by rw [e_w75]; rfl) ?_
          refine kw_iload (pc := 36) (i := 21) (k := 4) (n := 4) rfl rfl ?_
          refine kw_iload (pc := 38) (i := 22) (k := 5) (n := 5) rfl rfl ?_
          refine kw_copy (pc := 40) (i := 23) (n := 40) (m_ := 40) rfl laX3_45 rfl rfl (by omega) (by omega) (by omega) (by omega) (by omega) (by omega) (Nat.le_of_ble_eq_true rfl) ?_
          have I82 : kw_I bX (kw_ua σ 31 (va_cpy (σ.1 32) (σ.1 31) (i.toNatClampNeg) (j.toNatClampNeg) (n.toNatClampNeg))) := kw_I_ua hI (fun j => ⟨(kw_rng _).1, Int.le_of_lt_add_one (kw_rng _).2⟩)
          have F83 : kw_F [29, 30, 31, 32, 33, 34] σ (kw_ua σ 31 (va_cpy (σ.1 32) (σ.1 31) (i.toNatClampNeg) (j.toNatClampNeg) (n.toNatClampNeg))) := kw_F_ua hF0 (by decide)
          generalize hS84 : (kw_ua σ 31 (va_cpy (σ.1 32) (σ.1 31) (i.toNatClampNeg) (j.toNatClampNeg) (n.toNatClampNeg))) = S84 at I82 F83 ⊢
          replace hF := kf_le hS84.symm hF
          exact kw_return (pc := 43) (i := 24) rfl rfl ⟨⟨I82, F83⟩, rfl, hF⟩
        · replace hF := kf_n (fun q => absurd (w75.symm.trans q) (by decide)) hF
          replace hF := kf_n (fun q => absurd (w75.symm.trans q) (by decide)) hF
          replace hF := kf_n (fun q => absurd (w75.symm.trans q) (by decide)) hF
          replace hF := kf_p w75 hF
          have e_w75 : t.toNatClampNeg = 3 := by have := kw_clampI (x := t) (by omega); omega
          refine kw_aald (pc := 35) (i := 20) (b := 32) rfl rfl (by decide) (by omega) (by rw [e_w75]; rfl) ?_
          refine kw_iload (pc := 36) (i := 21) (k := 4) (n := 4) rfl rfl ?_
          refine kw_iload (pc := 38) (i := 22) (k := 5) (n := 5) rfl rfl ?_
          refine kw_copy (pc := 40) (i := 23) (n := 40) (m_ := 40) rfl laX3_45 rfl rfl (by omega) (by omega) (by omega) (by omega) (by omega) (by omega) (Nat.le_of_ble_eq_true rfl) ?_
          have I85 : kw_I bX (kw_ua σ 32 (va_cpy (σ.1 32) (σ.1 32) (i.toNatClampNeg) (j.toNatClampNeg) (n.toNatClampNeg))) := kw_I_ua hI (fun j => ⟨(kw_rng _).1, Int.le_of_lt_add_one (kw_rng _).2⟩)
          have F86 : kw_F [29, 30, 31, 32, 33, 34] σ (kw_ua σ 32 (va_cpy (σ.1 32) (σ.1 32) (i.toNatClampNeg) (j.toNatClampNeg) (n.toNatClampNeg))) := kw_F_ua hF0 (by decide)
          generalize hS87 : (kw_ua σ 32 (va_cpy (σ.1 32) (σ.1 32) (i.toNatClampNeg) (j.toNatClampNeg) (n.toNatClampNeg))) = S87 at I85 F86 ⊢
          replace hF := kf_le hS87.symm hF
          exact kw_return (pc := 43) (i := 24) rfl rfl ⟨⟨I85, F86⟩, rfl, hF⟩
        · replace hF := kf_n (fun q => absurd (w75.symm.trans q) (by decide)) hF
          replace hF := kf_n (fun q => absurd (w75.symm.trans q) (by decide)) hF
          replace hF := kf_n (fun q => absurd (w75.symm.trans q) (by decide)) hF
          replace hF := kf_n (fun q => absurd (w75.symm.trans q) (by decide)) hF
          replace hF := kf_p w75 hF
          have e_w75 : t.toNatClampNeg = 4 := by have := kw_clampI (x := t) (by omega); omega
          refine kw_aald (pc := 35) (i := 20) (b := 33) rfl rfl (by decide) (by omega) (by rw [e_w75]; rfl) ?_
          refine kw_iload (pc := 36) (i := 21) (k := 4) (n := 4) rfl rfl ?_
          refine kw_iload (pc := 38) (i := 22) (k := 5) (n := 5) rfl rfl ?_
          refine kw_copy (pc := 40) (i := 23) (n := 40) (m_ := 40) rfl laX3_45 rfl rfl (by omega) (by omega) (by omega) (by omega) (by omega) (by omega) (Nat.le_of_ble_eq_true rfl) ?_
          have I88 : kw_I bX (kw_ua σ 33 (va_cpy (σ.1 32) (σ.1 33) (i.toNatClampNeg) (j.toNatClampNeg) (n.toNatClampNeg))) := kw_I_ua hI (fun j => ⟨(kw_rng _).1, Int.le_of_lt_add_one (kw_rng _).2⟩)
          have F89 : kw_F [29, 30, 31, 32, 33, 34] σ (kw_ua σ 33 (va_cpy (σ.1 32) (σ.1 33) (i.toNatClampNeg) (j.toNatClampNeg) (n.toNatClampNeg))) := kw_F_ua hF0 (by decide)
          generalize hS90 : (kw_ua σ 33 (va_cpy (σ.1 32) (σ.1 33) (i.toNatClampNeg) (j.toNatClampNeg) (n.toNatClampNeg))) = S90 at I88 F89 ⊢
          replace hF := kf_le hS90.symm hF
          exact kw_return (pc := 43) (i := 24) rfl rfl ⟨⟨I88, F89⟩, rfl, hF⟩
        · replace hF := kf_n (fun q => absurd (w75.symm.trans q) (by decide)) hF
          replace hF := kf_n (fun q => absurd (w75.symm.trans q) (by decide)) hF
          replace hF := kf_n (fun q => absurd (w75.symm.trans q) (by decide)) hF
          replace hF := kf_n (fun q => absurd (w75.symm.trans q) (by decide)) hF
          replace hF := kf_n (fun q => absurd (w75.symm.trans q) (by decide)) hF
          replace hF := kf_p w75 hF
          have e_w75 : t.toNatClampNeg = 5 := by have := kw_clampI (x := t) (by omega); omega
          refine kw_aald (pc := 35) (i := 20) (b := 34) rfl rfl (by decide) (by omega) (by rw [e_w75]; rfl) ?_
          refine kw_iload (pc := 36) (i := 21) (k := 4) (n := 4) rfl rfl ?_
          refine kw_iload (pc := 38) (i := 22) (k := 5) (n := 5) rfl rfl ?_
          refine kw_copy (pc := 40) (i := 23) (n := 40) (m_ := 40) rfl laX3_45 rfl rfl (by omega) (by omega) (by omega) (by omega) (by omega) (by omega) (Nat.le_of_ble_eq_true rfl) ?_
          have I91 : kw_I bX (kw_ua σ 34 (va_cpy (σ.1 32) (σ.1 34) (i.toNatClampNeg) (j.toNatClampNeg) (n.toNatClampNeg))) := kw_I_ua hI (fun j => ⟨(kw_rng _).1, Int.le_of_lt_add_one (kw_rng _).2⟩)
          have F92 : kw_F [29, 30, 31, 32, 33, 34] σ (kw_ua σ 34 (va_cpy (σ.1 32) (σ.1 34) (i.toNatClampNeg) (j.toNatClampNeg) (n.toNatClampNeg))) := kw_F_ua hF0 (by decide)
          generalize hS93 : (kw_ua σ 34 (va_cpy (σ.1 32) (σ.1 34) (i.toNatClampNeg) (j.toNatClampNeg) (n.toNatClampNeg))) = S93 at I91 F92 ⊢
          replace hF := kf_le hS93.symm hF
          exact kw_return (pc := 43) (i := 24) rfl rfl ⟨⟨I91, F92⟩, rfl, hF⟩
      · replace hF := kf_n (fun q => absurd (w17.symm.trans q) (by decide)) hF
        replace hF := kf_n (fun q => absurd (w17.symm.trans q) (by decide)) hF
        replace hF := kf_n (fun q => absurd (w17.symm.trans q) (by decide)) hF
        replace hF := kf_n (fun q => absurd (w17.symm.trans q) (by decide)) hF
        replace hF := kf_p w17 hF
        have e_w17 : k.toNatClampNeg = 4 := by have := kw_clampI (x := k) (by omega); omega
        refine kw_aald (pc := 28) (i := 15) (b := 33) rfl rfl (by decide) (by omega) (by rw [e_w17]; rfl) ?_
        refine kw_iload_n (pc := 29) (i := 16) (k := 2) (n := 2) rfl rfl rfl ?_
        refine kw_aload_n (pc := 30) (i := 17) (k := 0) (n := 0) rfl rfl rfl ?_
        refine kw_get (pc := 31) (i := 18) (v := .ref 12) rfl rfl rfl lkX3_17 (fun _ => rfl) ?_
        refine kw_iload_n (pc := 34) (i := 19) (k := 3) (n := 3) rfl rfl rfl ?_
        have w94 : t.toInt = 0 ∨ t.toInt = 1 ∨ t.toInt = 2 ∨ t.toInt = 3 ∨ t.toInt = 4 ∨ t.toInt = 5 := by omega
        rcases w94 with w94 | w94 | w94 | w94 | w94 | w94
        · replace hF := kf_p w94 hF
          have e_w94 : t.toNatClampNeg = 0 := by have := kw_clampI (x := t) (by omega); omega
          refine kw_aald (pc := 35) (i := 20) (b := 29) rfl rfl (by decide) (by omega) (by rw [e_w94]; rfl) ?_
          refine kw_iload (pc := 36) (i := 21) (k := 4) (n := 4) rfl rfl ?_
          refine kw_iload (pc := 38) (i := 22) (k := 5) (n := 5) rfl rfl ?_
          refine kw_copy (pc := 40) (i := 23) (n := 40) (m_ := 40) rfl laX3_45 rfl rfl (by omega) (by omega) (by omega) (by omega) (by omega) (by omega) (Nat.le_of_ble_eq_true rfl) ?_
          have I95 : kw_I bX (kw_ua σ 29 (va_cpy (σ.1 33) (σ.1 29) (i.toNatClampNeg) (j.toNatClampNeg) (n.toNatClampNeg))) := kw_I_ua hI (fun j => ⟨(kw_rng _).1, Int.le_of_lt_add_one (kw_rng _).2⟩)
          have F96 : kw_F [29, 30, 31, 32, 33, 34] σ (kw_ua σ 29 (va_cpy (σ.1 33) (σ.1 29) (i.toNatClampNeg) (j.toNatClampNeg) (n.toNatClampNeg))) := kw_F_ua hF0 (by decide)
          generalize hS97 : (kw_ua σ 29 (va_cpy (σ.1 33) (σ.1 29) (i.toNatClampNeg) (j.toNatClampNeg) (n.toNatClampNeg))) = S97 at I95 F96 ⊢
          replace hF := kf_le hS97.symm hF
          exact kw_return (pc := 43) (i := 24) rfl rfl ⟨⟨I95, F96⟩, rfl, hF⟩
        · replace hF := kf_n (fun q => absurd (w94.symm.trans q) (by decide)) hF
          replace hF := kf_p w94 hF
          have e_w94 : t.toNatClampNeg = 1 := by have := kw_clampI (x := t) (by omega); omega
          refine kw_aald (pc := 35) (i := 20) (b := 30) rfl rfl (by decide) (by omega) (by rw [e_w94]; rfl) ?_
          refine kw_iload (pc := 36) (i := 21) (k := 4) (n := 4) rfl rfl ?_
          refine kw_iload (pc := 38) (i := 22) (k := 5) (n := 5) rfl rfl ?_
          refine kw_copy (pc := 40) (i := 23) (n := 40) (m_ := 40) rfl laX3_45 rfl rfl (by omega) (by omega) (by omega) (by omega) (by omega) (by omega) (Nat.le_of_ble_eq_true rfl) ?_
          have I98 : kw_I bX (kw_ua σ 30 (va_cpy (σ.1 33) (σ.1 30) (i.toNatClampNeg) (j.toNatClampNeg) (n.toNatClampNeg))) := kw_I_ua hI (fun j => ⟨(kw_rng _).1, Int.le_of_lt_add_one (kw_rng _).2⟩)
          have F99 : kw_F [29, 30, 31, 32, 33, 34] σ (kw_ua σ 30 (va_cpy (σ.1 33) (σ.1 30) (i.toNatClampNeg) (j.toNatClampNeg) (n.toNatClampNeg))) := kw_F_ua hF0 (by decide)
          generalize hS100 : (kw_ua σ 30 (va_cpy (σ.1 33) (σ.1 30) (i.toNatClampNeg) (j.toNatClampNeg) (n.toNatClampNeg))) = S100 at I98 F99 ⊢
          replace hF := kf_le hS100.symm hF
          exact kw_return (pc := 43) (i := 24) rfl rfl ⟨⟨I98, F99⟩, rfl, hF⟩
        · replace hF := kf_n (fun q => absurd (w94.symm.trans q) (by decide)) hF
          replace hF := kf_n (fun q => absurd (w94.symm.trans q) (by decide)) hF
          replace hF := kf_p w94 hF
          have e_w94 : t.toNatClampNeg = 2 := by have := kw_clampI (x := t) (by omega); omega
          refine kw_aald (pc := 35) (i := 20) (b := 31) rfl rfl (by decide) (by omega) (by rw [e_w94]; rfl) ?_
          refine kw_iload (pc := 36) (i := 21) (k := 4) (n := 4) rfl rfl ?_
          refine kw_iload (pc := 38) (i := 22) (k := 5) (n := 5) rfl rfl ?_
          refine kw_copy (pc := 40) (i := 23) (n := 40) (m_ := 40) rfl laX3_45 rfl rfl (by omega) (by omega) (by omega) (by omega) (by omega) (by omega) (Nat.le_of_ble_eq_true rfl) ?_
          have I101 : kw_I bX (kw_ua σ 31 (va_cpy (σ.1 33) (σ.1 31) (i.toNatClampNeg) (j.toNatClampNeg) (n.toNatClampNeg))) := kw_I_ua hI (fun j => ⟨(kw_rng _).1, Int.le_of_lt_add_one (kw_rng _).2⟩)
          have F102 : kw_F [29, 30, 31, 32, 33, 34] σ (kw_ua σ 31 (va_cpy (σ.1 33) (σ.1 31) (i.toNatClampNeg) (j.toNatClampNeg) (n.toNatClampNeg))) := kw_F_ua hF0 (by decide)
          generalize hS103 : (kw_ua σ 31 (va_cpy (σ.1 33) (σ.1 31) (i.toNatClampNeg) (j.toNatClampNeg) (n.toNatClampNeg))) = S103 at I101 F102 ⊢
          replace hF := kf_le hS103.symm hF
          exact kw_return (pc := 43) (i := 24) rfl rfl ⟨⟨I101, F102⟩, rfl, hF⟩
        · replace hF := kf_n (fun q => absurd (w94.symm.trans q) (by decide)) hF
          replace hF := kf_n (fun q => absurd (w94.symm.trans q) (by decide)) hF
          replace hF := kf_n (fun q => absurd (w94.symm.trans q) (by decide)) hF
          replace hF := kf_p w94 hF
          have e_w94 : t.toNatClampNeg = 3 := by have := kw_clampI (x := t) (by omega); omega
          refine kw_aald (pc := 35) (i := 20) (b := 32) rfl rfl (by decide) (by omega) (by rw [e_w94]; rfl) ?_
          refine kw_iload (pc := 36) (i := 21) (k := 4) (n := 4) rfl rfl ?_
          refine kw_iload (pc := 38) (i := 22) (k := 5) (n := 5) rfl rfl ?_
          refine kw_copy (pc := 40) (i := 23) (n := 40) (m_ := 40) rfl laX3_45 rfl rfl (by omega) (by omega) (by omega) (by omega) (by omega) (by omega) (Nat.le_of_ble_eq_true rfl) ?_
          have I104 : kw_I bX (kw_ua σ 32 (va_cpy (σ.1 33) (σ.1 32) (i.toNatClampNeg) (j.toNatClampNeg) (n.toNatClampNeg))) := kw_I_ua hI (fun j => ⟨(kw_rng _).1, Int.le_of_lt_add_one (kw_rng _).2⟩)
          have F105 : kw_F [29, 30, 31, 32, 33, 34] σ (kw_ua σ 32 (va_cpy (σ.1 33) (σ.1 32) (i.toNatClampNeg) (j.toNatClampNeg) (n.toNatClampNeg))) := kw_F_ua hF0 (by decide)
          generalize hS106 : (kw_ua σ 32 (va_cpy (σ.1 33) (σ.1 32) (i.toNatClampNeg) (j.toNatClampNeg) (n.toNatClampNeg))) = S106 at I104 F105 ⊢
          replace hF := kf_le hS106.symm hF
          exact kw_return (pc := 43) (i := 24) rfl rfl ⟨⟨I104, F105⟩, rfl, hF⟩
        · replace hF := kf_n (fun q => absurd (w94.symm.trans q) (by decide)) hF
          replace hF := kf_n (fun q => absurd (w94.symm.trans q) (by decide)) hF
          replace hF := kf_n (fun q => absurd (w94.symm.trans q) (by decide)) hF
          replace hF := kf_n (fun q => absurd (w94.symm.trans q) (by decide)) hF
          replace hF := kf_p w94 hF
          have e_w94 : t.toNatClampNeg = 4 := by have := kw_clampI (x := t) (by omega); omega
          refine kw_aald (pc := 35) (i := 20) (b := 33) rfl rfl (by decide) (by omega) (by rw [e_w94]; rfl) ?_
          refine kw_iload (pc := 36) (i := 21) (k := 4) (n := 4) rfl rfl ?_
          refine kw_iload (pc := 38) (i := 22) (k := 5) (n := 5) rfl rfl ?_
          refine kw_copy (pc := 40) (i := 23) (n := 40) (m_ := 40) rfl laX3_45 rfl rfl (by omega) (by omega) (by omega) (by omega) (by omega) (by omega) (Nat.le_of_ble_eq_true rfl) ?_
          have I107 : kw_I bX (kw_ua σ 33 (va_cpy (σ.1 33) (σ.1 33) (i.toNatClampNeg) (j.toNatClampNeg) (n.toNatClampNeg))) := kw_I_ua hI (fun j => ⟨(kw_rng _).1, Int.le_of_lt_add_one (kw_rng _).2⟩)
          have F108 : kw_F [29, 30, 31, 32, 33, 34] σ (kw_ua σ 33 (va_cpy (σ.1 33) (σ.1 33) (i.toNatClampNeg) (j.toNatClampNeg) (n.toNatClampNeg))) := kw_F_ua hF0 (by decide)
          generalize hS109 : (kw_ua σ 33 (va_cpy (σ.1 33) (σ.1 33) (i.toNatClampNeg) (j.toNatClampNeg) (n.toNatClampNeg))) = S109 at I107 F108 ⊢
          replace hF := kf_le hS109.symm hF
          exact kw_return (pc := 43) (i := 24) rfl rfl ⟨⟨I107, F108⟩, rfl, hF⟩
        · replace hF := kf_n (fun q => absurd (w94.symm.trans q) (by decide)) hF
          replace hF := kf_n (fun q => absurd (w94.symm.trans q) (by decide)) hF
          replace hF := kf_n (fun q => absurd (w94.symm.trans q) (by decide)) hF
          replace hF := kf_n (fun q => absurd (w94.symm.trans q) (by decide)) hF
          replace hF := kf_n (fun q => absurd (w94.symm.trans q) (by decide)) hF
          replace hF := kf_p w94 hF
          have e_w94 : t.toNatClampNeg = 5 := by have := kw_clampI (x := t) (by omega); omega
          refine kw_aald (pc := 35) (i := 20) (b := 34) rfl rfl (by decide) (by omega) (by rw [e_w94]; rfl) ?_
          refine kw_iload (pc := 36) (i := 21) (k := 4) (n := 4) rfl rfl ?_
          refine kw_iload (pc := 38) (i := 22) (k := 5) (n := 5) rfl rfl ?_
          refine kw_copy (pc := 40) (i := 23) (n := 40) (m_ := 40) rfl laX3_45 rfl rfl (by omega) (by omega) (by omega) (by omega) (by omega) (by omega) (Nat.le_of_ble_eq_true rfl) ?_
          have I110 : kw_I bX (kw_ua σ 34 (va_cpy (σ.1 33) (σ.1 34) (i.toNatClampNeg) (j.toNatClampNeg) (n.toNatClampNeg))) := kw_I_ua hI (fun j => ⟨(kw_rng _).1, Int.le_of_lt_add_one (kw_rng _).2⟩)
          have F111 : kw_F [29, 30, 31, 32, 33, 34] σ (kw_ua σ 34 (va_cpy (σ.1 33) (σ.1 34) (i.toNatClampNeg) (j.toNatClampNeg) (n.toNatClampNeg))) := kw_F_ua hF0 (by decide)
          generalize hS112 : (kw_ua σ 34 (va_cpy (σ.1 33) (σ.1 34) (i.toNatClampNeg) (j.toNatClampNeg) (n.toNatClampNeg))) = S112 at I110 F111 ⊢
          replace hF := kf_le hS112.symm hF
          exact kw_return (pc := 43) (i := 24) rfl rfl ⟨⟨I110, F111⟩, rfl, hF⟩
      · replace hF := kf_n (fun q => absurd (w17.symm.trans q) (by decide)) hF
        replace hF := kf_n (fun q => absurd (w17.symm.trans q) (by decide)) hF
        replace hF := kf_n (fun q => absurd (w17.symm.trans q) (by decide)) hF
        replace hF := kf_n (fun q => absurd (w17.symm.trans q) (by decide)) hF
        replace hF := kf_n (fun q => absurd (w17.symm.trans q) (by decide)) hF
        replace hF := kf_p w17 hF
        have e_w17 : k.toNatClampNeg = 5 := by have := kw_clampI (x := k) (by omega); omega
        refine kw_aald (pc := 28) (i := 15) (b := 34) rfl rfl (by decide) (by omega) (by rw [e_w17]; rfl) ?_
        refine kw_iload_n (pc := 29) (i := 16) (k := 2) (n := 2) rfl rfl rfl ?_
        refine kw_aload_n (pc := 30) (i := 17) (k := 0) (n := 0) rfl rfl rfl ?_
        refine kw_get (pc := 31) (i := 18) (v := .ref 12) rfl rfl rfl lkX3_17 (fun _ => rfl) ?_
        refine kw_iload_n (pc := 34) (i := 19) (k := 3) (n := 3) rfl rfl rfl ?_
        have w113 : t.toInt = 0 ∨ t.toInt = 1 ∨ t.toInt = 2 ∨ t.toInt = 3 ∨ t.toInt = 4 ∨ t.toInt = 5 := by omega
        rcases w113 with w113 | w113 | w113 | w113 | w113 | w113
        · replace hF := kf_p w113 hF
          have e_w113 : t.toNatClampNeg = 0 := by have := kw_clampI (x := t) (by omega); omega
          refine kw_aald (pc := 35) (i := 20) (b := 29) rfl rfl (by decide) (by omega) (by rw [e_w113]; rfl) ?_
          refine kw_iload (pc := 36) (i := 21) (k := 4) (n := 4) rfl rfl ?_
          refine kw_iload (pc := 38) (i := 22) (k := 5) (n := 5) rfl rfl ?_
          refine kw_copy (pc := 40) (i := 23) (n := 40) (m_ := 40) rfl laX3_45 rfl rfl (by omega) (by omega) (by omega) (by omega) (by omega) (by omega) (Nat.le_of_ble_eq_true rfl) ?_
          have I114 : kw_I bX (kw_ua σ 29 (va_cpy (σ.1 34) (σ.1 29) (i.toNatClampNeg) (j.toNatClampNeg) (n.toNatClampNeg))) := kw_I_ua hI (fun j => ⟨(kw_rng _).1, Int.le_of_lt_add_one (kw_rng _).2⟩)
          have F115 : kw_F [29, 30, 31, 32, 33, 34] σ (kw_ua σ 29 (va_cpy (σ.1 34) (σ.1 29) (i.toNatClampNeg) (j.toNatClampNeg) (n.toNatClampNeg))) := kw_F_ua hF0 (by decide)
          generalize hS116 : (kw_ua σ 29 (va_cpy (σ.1 34) (σ.1 29) (i.toNatClampNeg) (j.toNatClampNeg) (n.toNatClampNeg))) = S116 at I114 F115 ⊢
          replace hF := kf_le hS116.symm hF
          exact kw_return (pc := 43) (i := 24) rfl rfl ⟨⟨I114, F115⟩, rfl, hF⟩
        · replace hF := kf_n (fun q => absurd (w113.symm.trans q) (by decide)) hF
          replace hF := kf_p w113 hF
          have e_w113 : t.toNatClampNeg = 1 := by have := kw_clampI (x := t) (by omega); omega
          refine kw_aald (pc := 35) (i := 20) (b := 30) rfl rfl (by decide) (by omega) (by rw [e_w113]; rfl) ?_
          refine kw_iload (pc := 36) (i := 21) (k := 4) (n := 4) rfl rfl ?_
          refine kw_iload (pc := 38) (i := 22) (k := 5) (n := 5) rfl rfl ?_
          refine kw_copy (pc := 40) (i := 23) (n := 40) (m_ := 40) rfl laX3_45 rfl rfl (by omega) (by omega) (by omega) (by omega) (by omega) (by omega) (Nat.le_of_ble_eq_true rfl) ?_
          have I117 : kw_I bX (kw_ua σ 30 (va_cpy (σ.1 34) (σ.1 30) (i.toNatClampNeg) (j.toNatClampNeg) (n.toNatClampNeg))) := kw_I_ua hI (fun j => ⟨(kw_rng _).1, Int.le_of_lt_add_one (kw_rng _).2⟩)
          have F118 : kw_F [29, 30, 31, 32, 33, 34] σ (kw_ua σ 30 (va_cpy (σ.1 34) (σ.1 30) (i.toNatClampNeg) (j.toNatClampNeg) (n.toNatClampNeg))) := kw_F_ua hF0 (by decide)
          generalize hS119 : (kw_ua σ 30 (va_cpy (σ.1 34) (σ.1 30) (i.toNatClampNeg) (j.toNatClampNeg) (n.toNatClampNeg))) = S119 at I117 F118 ⊢
          replace hF := kf_le hS119.symm hF
          exact kw_return (pc := 43) (i := 24) rfl rfl ⟨⟨I117, F118⟩, rfl, hF⟩
        · replace hF := kf_n (fun q => absurd (w113.symm.trans q) (by decide)) hF
          replace hF := kf_n (fun q => absurd (w113.symm.trans q) (by decide)) hF
          replace hF := kf_p w113 hF
          have e_w113 : t.toNatClampNeg = 2 := by have := kw_clampI (x := t) (by omega); omega
          refine kw_aald (pc := 35) (i := 20) (b := 31) rfl rfl (by decide) (by omega) (by rw [e_w113]; rfl) ?_
          refine kw_iload (pc := 36) (i := 21) (k := 4) (n := 4) rfl rfl ?_
          refine kw_iload (pc := 38) (i := 22) (k := 5) (n := 5) rfl rfl ?_
          refine kw_copy (pc := 40) (i := 23) (n := 40) (m_ := 40) rfl laX3_45 rfl rfl (by omega) (by omega) (by omega) (by omega) (by omega) (by omega) (Nat.le_of_ble_eq_true rfl) ?_
          have I120 : kw_I bX (kw_ua σ 31 (va_cpy (σ.1 34) (σ.1 31) (i.toNatClampNeg) (j.toNatClampNeg) (n.toNatClampNeg))) := kw_I_ua hI (fun j => ⟨(kw_rng _).1, Int.le_of_lt_add_one (kw_rng _).2⟩)
          have F121 : kw_F [29, 30, 31, 32, 33, 34] σ (kw_ua σ 31 (va_cpy (σ.1 34) (σ.1 31) (i.toNatClampNeg) (j.toNatClampNeg) (n.toNatClampNeg))) := kw_F_ua hF0 (by decide)
          generalize hS122 : (kw_ua σ 31 (va_cpy (σ.1 34) (σ.1 31) (i.toNatClampNeg) (j.toNatClampNeg) (n.toNatClampNeg))) = S122 at I120 F121 ⊢
          replace hF := kf_le hS122.symm hF
          exact kw_return (pc := 43) (i := 24) rfl rfl ⟨⟨I120, F121⟩, rfl, hF⟩
        · replace hF := kf_n (fun q => absurd (w113.symm.trans q) (by decide)) hF
          replace hF := kf_n (fun q => absurd (w113.symm.trans q) (by decide)) hF
          replace hF := kf_n (fun q => absurd (w113.symm.trans q) (by decide)) hF
          replace hF := kf_p w113 hF
          have e_w113 : t.toNatClampNeg = 3 := by have := kw_clampI (x := t) (by omega); omega
          refine kw_aald (pc := 35) (i := 20) (b := 32) rfl rfl (by decide) (by omega) (by rw [e_w113]; rfl) ?_
          refine kw_iload (pc := 36) (i := 21) (k := 4) (n := 4) rfl rfl ?_
          refine kw_iload (pc := 38) (i := 22) (k := 5) (n := 5) rfl rfl ?_
          refine kw_copy (pc := 40) (i := 23) (n := 40) (m_ := 40) rfl laX3_45 rfl rfl (by omega) (by omega) (by omega) (by omega) (by omega) (by omega) (Nat.le_of_ble_eq_true rfl) ?_
          have I123 : kw_I bX (kw_ua σ 32 (va_cpy (σ.1 34) (σ.1 32) (i.toNatClampNeg) (j.toNatClampNeg) (n.toNatClampNeg))) := kw_I_ua hI (fun j => ⟨(kw_rng _).1, Int.le_of_lt_add_one (kw_rng _).2⟩)
          have F124 : kw_F [29, 30, 31, 32, 33, 34] σ (kw_ua σ 32 (va_cpy (σ.1 34) (σ.1 32) (i.toNatClampNeg) (j.toNatClampNeg) (n.toNatClampNeg))) := kw_F_ua hF0 (by decide)
          generalize hS125 : (kw_ua σ 32 (va_cpy (σ.1 34) (σ.1 32) (i.toNatClampNeg) (j.toNatClampNeg) (n.toNatClampNeg))) = S125 at I123 F124 ⊢
          replace hF := kf_le hS125.symm hF
          exact kw_return (pc := 43) (i := 24) rfl rfl ⟨⟨I123, F124⟩, rfl, hF⟩
        · replace hF := kf_n (fun q => absurd (w113.symm.trans q) (by decide)) hF
          replace hF := kf_n (fun q => absurd (w113.symm.trans q) (by decide)) hF
          replace hF := kf_n (fun q => absurd (w113.symm.trans q) (by decide)) hF
          replace hF := kf_n (fun q => absurd (w113.symm.trans q) (by decide)) hF
          replace hF := kf_p w113 hF
          have e_w113 : t.toNatClampNeg = 4 := by have := kw_clampI (x := t) (by omega); omega
          refine kw_aald (pc := 35) (i := 20) (b := 33) rfl rfl (by decide) (by omega) (by rw [e_w113]; rfl) ?_
          refine kw_iload (pc := 36) (i := 21) (k := 4) (n := 4) rfl rfl ?_
          refine kw_iload (pc := 38) (i := 22) (k := 5) (n := 5) rfl rfl ?_
          refine kw_copy (pc := 40) (i := 23) (n := 40) (m_ := 40) rfl laX3_45 rfl rfl (by omega) (by omega) (by omega) (by omega) (by omega) (by omega) (Nat.le_of_ble_eq_true rfl) ?_
          have I126 : kw_I bX (kw_ua σ 33 (va_cpy (σ.1 34) (σ.1 33) (i.toNatClampNeg) (j.toNatClampNeg) (n.toNatClampNeg))) := kw_I_ua hI (fun j => ⟨(kw_rng _).1, Int.le_of_lt_add_one (kw_rng _).2⟩)
          have F127 : kw_F [29, 30, 31, 32, 33, 34] σ (kw_ua σ 33 (va_cpy (σ.1 34) (σ.1 33) (i.toNatClampNeg) (j.toNatClampNeg) (n.toNatClampNeg))) := kw_F_ua hF0 (by decide)
          generalize hS128 : (kw_ua σ 33 (va_cpy (σ.1 34) (σ.1 33) (i.toNatClampNeg) (j.toNatClampNeg) (n.toNatClampNeg))) = S128 at I126 F127 ⊢
          replace hF := kf_le hS128.symm hF
          exact kw_return (pc := 43) (i := 24) rfl rfl ⟨⟨I126, F127⟩, rfl, hF⟩
        · replace hF := kf_n (fun q => absurd (w113.symm.trans q) (by decide)) hF
          replace hF := kf_n (fun q => absurd (w113.symm.trans q) (by decide)) hF
          replace hF := kf_n (fun q => absurd (w113.symm.trans q) (by decide)) hF
          replace hF := kf_n (fun q => absurd (w113.symm.trans q) (by decide)) hF
          replace hF := kf_n (fun q => absurd (w113.symm.trans q) (by decide)) hF
          replace hF := kf_p w113 hF
          have e_w113 : t.toNatClampNeg = 5 := by have := kw_clampI (x := t) (by omega); omega
          refine kw_aald (pc := 35) (i := 20) (b := 34) rfl rfl (by decide) (by omega) (by rw [e_w113]; rfl) ?_
          refine kw_iload (pc := 36) (i := 21) (k := 4) (n := 4) rfl rfl ?_
          refine kw_iload (pc := 38) (i := 22) (k := 5) (n := 5) rfl rfl ?_
          refine kw_copy (pc := 40) (i := 23) (n := 40) (m_ := 40) rfl laX3_45 rfl rfl (by omega) (by omega) (by omega) (by omega) (by omega) (by omega) (Nat.le_of_ble_eq_true rfl) ?_
          have I129 : kw_I bX (kw_ua σ 34 (va_cpy (σ.1 34) (σ.1 34) (i.toNatClampNeg) (j.toNatClampNeg) (n.toNatClampNeg))) := kw_I_ua hI (fun j => ⟨(kw_rng _).1, Int.le_of_lt_add_one (kw_rng _).2⟩)
          have F130 : kw_F [29, 30, 31, 32, 33, 34] σ (kw_ua σ 34 (va_cpy (σ.1 34) (σ.1 34) (i.toNatClampNeg) (j.toNatClampNeg) (n.toNatClampNeg))) := kw_F_ua hF0 (by decide)
          generalize hS131 : (kw_ua σ 34 (va_cpy (σ.1 34) (σ.1 34) (i.toNatClampNeg) (j.toNatClampNeg) (n.toNatClampNeg))) = S131 at I129 F130 ⊢
          replace hF := kf_le hS131.symm hF
          exact kw_return (pc := 43) (i := 24) rfl rfl ⟨⟨I129, F130⟩, rfl, hF⟩
