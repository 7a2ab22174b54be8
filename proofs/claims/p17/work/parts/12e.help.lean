noncomputable def f_X7_makeOn_0_1 (σ : kw_S) (k : Int32) (n : Int32) (v : Int32) : Int32 × kw_S := kf_l (f_X3_has_1 σ k) fun z1 => if z1.toInt = 0 then ((((-1) : Int32), σ)) else (if (σ.1 1 0).toInt < n.toInt then ((((-1) : Int32), σ)) else (if n.toInt < 0 then (kf_b (f_X4_refuse_8 σ (5 : Int32)) fun z3 S4 => (z3, S4)) else (kf_l (f_X3_make_1 σ k n v) fun S2 => (n, S2))))
theorem f_X7_makeOn_0_1_u (σ : kw_S) (k : Int32) (n : Int32) (v : Int32) : f_X7_makeOn_0_1 σ k n v = kf_l (f_X3_has_1 σ k) fun z1 => if z1.toInt = 0 then ((((-1) : Int32), σ)) else (if (σ.1 1 0).toInt < n.toInt then ((((-1) : Int32), σ)) else (if n.toInt < 0 then (kf_b (f_X4_refuse_8 σ (5 : Int32)) fun z3 S4 => (z3, S4)) else (kf_l (f_X3_make_1 σ k n v) fun S2 => (n, S2)))) := rfl
abbrev p_X7_makeOn_0_1 (σ : kw_S) (k : Int32) (n : Int32) (v : Int32) : Option Value → kw_S → Prop := fun vv σ' => (kw_I bX σ' ∧ kw_F [8, 28, 13, 29, 30, 31, 32, 33, 34] σ σ') ∧ ∃ r : Int32, vv = some (.int r) ∧ ((k.toInt < 0 ∨ 6 ≤ k.toInt ∨ 40 < n.toInt) ∧ r.toInt = -1 ∨ 0 ≤ k.toInt ∧ k.toInt < 6 ∧ n.toInt < 0 ∧ r.toInt = -3 ∨ 0 ≤ k.toInt ∧ k.toInt < 6 ∧ 0 ≤ n.toInt ∧ n.toInt ≤ 40 ∧ r.toInt = n.toInt) ∧ (r, σ') = f_X7_makeOn_0_1 σ k n v
set_option maxRecDepth 100000 in
set_option maxHeartbeats 4000000 in
theorem c_X7_makeOn_0_1 (l : Launch) (σ : kw_S) (hI : kw_I bX σ) (k : Int32) (n : Int32) (v : Int32) : kw_Met l 3 KX mX7_makeOn [.ref 0, .ref 1, .int k, .int n, .int v] σ (p_X7_makeOn_0_1 σ k n v) := by
  have r_k := kw_rng k
  have r_n := kw_rng n
  have r_v := kw_rng v
  have hF0 : kw_F [8, 28, 13, 29, 30, 31, 32, 33, 34] σ σ := kw_F.rf
  have hF := (f_X7_makeOn_0_1_u σ k n v).symm
  have q_m1 : (-1 : Int32).toInt = -1 := rfl
  have q_5 : (5 : Int32).toInt = 5 := rfl
  refine kw_Met.of (by decide) rfl tX7_makeOn (Nat.le_of_ble_eq_true rfl) ?_
  show kw_AW l 3 kw_E0 KX mX7_makeOn (p_X7_makeOn_0_1 σ k n v) 0 [(0, .ref 0), (1, .ref 1), (2, .int k), (3, .int n), (4, .int v)] [] σ
  refine kw_aload_n (pc := 0) (i := 0) (k := 1) (n := 1) rfl rfl rfl ?_
  refine kw_iload_n (pc := 1) (i := 1) (k := 2) (n := 2) rfl rfl rfl ?_
  refine kw_callV (pc := 2) (i := 2) (Y := mX3_has) (a := 1) (As := [.int k]) (st := []) kw_hE rfl rfl lvX7_73 arX3_has (c_X3_has_1 l σ hI k ) (by decide) (Nat.le_of_ble_eq_true rfl) rfl (fun v S2 p1 => ?_)
  obtain ⟨e8, z7, rfl, f3, f4, f5, ef6⟩ := p1
  rw [e8]
  replace hF := kf_le ef6 hF
  have r_z7 := kw_rng z7
  show kw_AW l 3 kw_E0 KX mX7_makeOn (p_X7_makeOn_0_1 σ k n v) 5 [(0, .ref 0), (1, .ref 1), (2, .int k), (3, .int n), (4, .int v)] [.int z7] σ
  refine kw_if_eq (pc := 5) (i := 3) (tgt := 16) rfl rfl (fun c9 => ?_) (fun c9 => ?_)
  · replace hF := kf_p c9 hF
    refine kw_iconst (pc := 16) (i := 8) (v := (-1)) rfl rfl ?_
    exact kw_ireturn (pc := 17) (i := 9) (ty := .int) rfl rfl rfl ⟨⟨hI, hF0⟩, _, rfl, by omega, hF⟩
  · replace hF := kf_n c9 hF
    refine kw_iload_n (pc := 8) (i := 4) (k := 3) (n := 3) rfl rfl rfl ?_
    refine kw_aload_n (pc := 9) (i := 5) (k := 1) (n := 1) rfl rfl rfl ?_
    refine kw_get (pc := 10) (i := 6) (v := .int (σ.1 1 0)) rfl rfl rfl lkX7_348 (fun _ => rfl) ?_
    have b10 : 40 ≤ (σ.1 1 0).toInt ∧ (σ.1 1 0).toInt ≤ 40 := hI 1 0
    refine kw_icmp_le (pc := 13) (i := 7) (tgt := 18) rfl rfl (fun c11 => ?_) (fun c11 => ?_)
    · replace hF := kf_nl c11 hF
      refine kw_iload_n (pc := 18) (i := 10) (k := 3) (n := 3) rfl rfl rfl ?_
      refine kw_if_ge (pc := 19) (i := 11) (tgt := 31) rfl rfl (fun c12 => ?_) (fun c12 => ?_)
      · replace hF := kf_nl c12 hF
        refine kw_aload_n (pc := 31) (i := 17) (k := 1) (n := 1) rfl rfl rfl ?_
        refine kw_iload_n (pc := 32) (i := 18) (k := 2) (n := 2) rfl rfl rfl ?_
        refine kw_iload_n (pc := 33) (i := 19) (k := 3) (n := 3) rfl rfl rfl ?_
        refine kw_iload (pc := 34) (i := 20) (k := 4) (n := 4) rfl rfl ?_
        refine kw_callV (pc := 36) (i := 21) (Y := mX3_make) (a := 1) (As := [.int k, .int n, .int v]) (st := []) kw_hE rfl rfl lvX7_210 arX3_make (c_X3_make_1 l σ hI k n v ) (by decide) (Nat.le_of_ble_eq_true rfl) rfl (fun v S14 p13 => ?_)
        obtain ⟨⟨I16, F17⟩, rfl, ef15⟩ := p13
        have F18 : kw_F [8, 28, 13, 29, 30, 31, 32, 33, 34] σ S14 := kw_F.tr hF0 F17 (by decide)
        replace hF := kf_le ef15 hF
        show kw_AW l 3 kw_E0 KX mX7_makeOn (p_X7_makeOn_0_1 σ k n v) 39 [(0, .ref 0), (1, .ref 1), (2, .int k), (3, .int n), (4, .int v)] [] S14
        refine kw_iload_n (pc := 39) (i := 22) (k := 3) (n := 3) rfl rfl rfl ?_
        exact kw_ireturn (pc := 40) (i := 23) (ty := .int) rfl rfl rfl ⟨⟨I16, F18⟩, _, rfl, by omega, hF⟩
      · replace hF := kf_p c12 hF
        refine kw_aload_n (pc := 22) (i := 12) (k := 0) (n := 0) rfl rfl rfl ?_
        refine kw_get (pc := 23) (i := 13) (v := .ref 8) rfl rfl rfl lkX7_55 (fun _ => rfl) ?_
        refine kw_iconst (pc := 26) (i := 14) (v := 5) rfl rfl ?_
        refine kw_callV (pc := 27) (i := 15) (Y := mX4_refuse) (a := 8) (As := [.int 5]) (st := []) kw_hE rfl rfl lvX7_81 arX4_refuse (c_X4_refuse_8 l σ hI 5 ) (by decide) (Nat.le_of_ble_eq_true rfl) rfl (fun v S20 p19 => ?_)
        obtain ⟨⟨I24, F25⟩, z23, rfl, f21, ef22⟩ := p19
        have F26 : kw_F [8, 28, 13, 29, 30, 31, 32, 33, 34] σ S20 := kw_F.tr hF0 F25 (by decide)
        replace hF := kf_be ef22 hF
        have r_z23 := kw_rng z23
        show kw_AW l 3 kw_E0 KX mX7_makeOn (p_X7_makeOn_0_1 σ k n v) 30 [(0, .ref 0), (1, .ref 1), (2, .int k), (3, .int n), (4, .int v)] [.int z23] S20
        exact kw_ireturn (pc := 30) (i := 16) (ty := .int) rfl rfl rfl ⟨⟨I24, F26⟩, _, rfl, by omega, hF⟩
    · replace hF := kf_p c11 hF
      refine kw_iconst (pc := 16) (i := 8) (v := (-1)) rfl rfl ?_
      exact kw_ireturn (pc := 17) (i := 9) (ty := .int) rfl rfl rfl ⟨⟨hI, hF0⟩, _, rfl, by omega, hF⟩
noncomputable def f_X7_makeOn_0_2 (σ : kw_S) (k : Int32) (n : Int32) (v : Int32) : Int32 × kw_S := kf_l (f_X3_has_2 σ k) fun z1 => if z1.toInt = 0 then ((((-1) : Int32), σ)) else (if (σ.1 2 0).toInt < n.toInt then ((((-1) : Int32), σ)) else (if n.toInt < 0 then (kf_b (f_X4_refuse_8 σ (5 : Int32)) fun z3 S4 => (z3, S4)) else (kf_l (f_X3_make_2 σ k n v) fun S2 => (n, S2))))
theorem f_X7_makeOn_0_2_u (σ : kw_S) (k : Int32) (n : Int32) (v : Int32) : f_X7_makeOn_0_2 σ k n v = kf_l (f_X3_has_2 σ k) fun z1 => if z1.toInt = 0 then ((((-1) : Int32), σ)) else (if (σ.1 2 0).toInt < n.toInt then ((((-1) : Int32), σ)) else (if n.toInt < 0 then (kf_b (f_X4_refuse_8 σ (5 : Int32)) fun z3 S4 => (z3, S4)) else (kf_l (f_X3_make_2 σ k n v) fun S2 => (n, S2)))) := rfl
abbrev p_X7_makeOn_0_2 (σ : kw_S) (k : Int32) (n : Int32) (v : Int32) : Option Value → kw_S → Prop := fun vv σ' => (kw_I bX σ' ∧ kw_F [8, 28, 15, 35, 36, 37, 38] σ σ') ∧ ∃ r : Int32, vv = some (.int r) ∧ ((k.toInt < 0 ∨ 4 ≤ k.toInt ∨ 60 < n.toInt) ∧ r.toInt = -1 ∨ 0 ≤ k.toInt ∧ k.toInt < 4 ∧ n.toInt < 0 ∧ r.toInt = -3 ∨ 0 ≤ k.toInt ∧ k.toInt < 4 ∧ 0 ≤ n.toInt ∧ n.toInt ≤ 60 ∧ r.toInt = n.toInt) ∧ (r, σ') = f_X7_makeOn_0_2 σ k n v
set_option maxRecDepth 100000 in
set_option maxHeartbeats 4000000 in
theorem c_X7_makeOn_0_2 (l : Launch) (σ : kw_S) (hI : kw_I bX σ) (k : Int32) (n : Int32) (v : Int32) : kw_Met l 3 KX mX7_makeOn [.ref 0, .ref 2, .int k, .int n, .int v] σ (p_X7_makeOn_0_2 σ k n v) := by
  have r_k := kw_rng k
  have r_n := kw_rng n
  have r_v := kw_rng v
  have hF0 : kw_F [8, 28, 15, 35, 36, 37, 38] σ σ := kw_F.rf
  have hF := (f_X7_makeOn_0_2_u σ k n v).symm
  have q_m1 : (-1 : Int32).toInt = -1 := rfl
  have q_5 : (5 : Int32).toInt = 5 := rfl
  refine kw_Met.of (by decide) rfl tX7_makeOn (Nat.le_of_ble_eq_true rfl) ?_
  show kw_AW l 3 kw_E0 KX mX7_makeOn (p_X7_makeOn_0_2 σ k n v) 0 [(0, .ref 0), (1, .ref 2), (2, .int k), (3, .int n), (4, .int v)] [] σ
  refine kw_aload_n (pc := 0) (i := 0) (k := 1) (n := 1) rfl rfl rfl ?_
  refine kw_iload_n (pc := 1) (i := 1) (k := 2) (n := 2) rfl rfl rfl ?_
  refine kw_callV (pc := 2) (i := 2) (Y := mX3_has) (a := 2) (As := [.int k]) (st := []) kw_hE rfl rfl lvX7_73 arX3_has (c_X3_has_2 l σ hI k ) (by decide) (Nat.le_of_ble_eq_true rfl) rfl (fun v S2 p1 => ?_)
  obtain ⟨e8, z7, rfl, f3, f4, f5, ef6⟩ := p1
  rw [e8]
  replace hF := kf_le ef6 hF
  have r_z7 := kw_rng z7
  show kw_AW l 3 kw_E0 KX mX7_makeOn (p_X7_makeOn_0_2 σ k n v) 5 [(0, .ref 0), (1, .ref 2), (2, .int k), (3, .int n), (4, .int v)] [.int z7] σ
  refine kw_if_eq (pc := 5) (i := 3) (tgt := 16) rfl rfl (fun c9 => ?_) (fun c9 => ?_)
  · replace hF := kf_p c9 hF
    refine kw_iconst (pc := 16) (i := 8) (v := (-1)) rfl rfl ?_
    exact kw_ireturn (pc := 17) (i := 9) (ty := .int) rfl rfl rfl ⟨⟨hI, hF0⟩, _, rfl, by omega, hF⟩
  · replace hF := kf_n c9 hF
    refine kw_iload_n (pc := 8) (i := 4) (k := 3) (n := 3) rfl rfl rfl ?_
    refine kw_aload_n (pc := 9) (i := 5) (k := 1) (n := 1) rfl rfl rfl ?_
    refine kw_get (pc := 10) (i := 6) (v := .int (σ.1 2 0)) rfl rfl rfl lkX7_348 (fun _ => rfl) ?_
    have b10 : 60 ≤ (σ.1 2 0).toInt ∧ (σ.1 2 0).toInt ≤ 60 := hI 2 0
    refine kw_icmp_le (pc := 13) (i := 7) (tgt := 18) rfl rfl (fun c11 => ?_) (fun c11 => ?_)
    · replace hF := kf_nl c11 hF
      refine kw_iload_n (pc := 18) (i := 10) (k := 3) (n := 3) rfl rfl rfl ?_
      refine kw_if_ge (pc := 19) (i := 11) (tgt := 31) rfl rfl (fun c12 => ?_) (fun c12 => ?_)
      · replace hF := kf_nl c12 hF
        refine kw_aload_n (pc := 31) (i := 17) (k := 1) (n := 1) rfl rfl rfl ?_
        refine kw_iload_n (pc := 32) (i := 18) (k := 2) (n := 2) rfl rfl rfl ?_
        refine kw_iload_n (pc := 33) (i := 19) (k := 3) (n := 3) rfl rfl rfl ?_
        refine kw_iload (pc := 34) (i := 20) (k := 4) (n := 4) rfl rfl ?_
        refine kw_callV (pc := 36) (i := 21) (Y := mX3_make) (a := 2) (As := [.int k, .int n, .int v]) (st := []) kw_hE rfl rfl lvX7_210 arX3_make (c_X3_make_2 l σ hI k n v ) (by decide) (Nat.le_of_ble_eq_true rfl) rfl (fun v S14 p13 => ?_)
        obtain ⟨⟨I16, F17⟩, rfl, ef15⟩ := p13
        have F18 : kw_F [8, 28, 15, 35, 36, 37, 38] σ S14 := kw_F.tr hF0 F17 (by decide)
        replace hF := kf_le ef15 hF
        show kw_AW l 3 kw_E0 KX mX7_makeOn (p_X7_makeOn_0_2 σ k n v) 39 [(0, .ref 0), (1, .ref 2), (2, .int k), (3, .int n), (4, .int v)] [] S14
        refine kw_iload_n (pc := 39) (i := 22) (k := 3) (n := 3) rfl rfl rfl ?_
        exact kw_ireturn (pc := 40) (i := 23) (ty := .int) rfl rfl rfl ⟨⟨I16, F18⟩, _, rfl, by omega, hF⟩
      · replace hF := kf_p c12 hF
        refine kw_aload_n (pc := 22) (i := 12) (k := 0) (n := 0) rfl rfl rfl ?_
        refine kw_get (pc := 23) (i := 13) (v := .ref 8) rfl rfl rfl lkX7_55 (fun _ => rfl) ?_
        refine kw_iconst (pc := 26) (i := 14) (v := 5) rfl rfl ?_
        refine kw_callV (pc := 27) (i := 15) (Y := mX4_refuse) (a := 8) (As := [.int 5]) (st := []) kw_hE rfl rfl lvX7_81 arX4_refuse (c_X4_refuse_8 l σ hI 5 ) (by decide) (Nat.le_of_ble_eq_true rfl) rfl (fun v S20 p19 => ?_)
        obtain ⟨⟨I24, F25⟩, z23, rfl, f21, ef22⟩ := p19
        have F26 : kw_F [8, 28, 15, 35, 36, 37, 38] σ S20 := kw_F.tr hF0 F25 (by decide)
        replace hF := kf_be ef22 hF
        have r_z23 := kw_rng z23
        show kw_AW l 3 kw_E0 KX mX7_makeOn (p_X7_makeOn_0_2 σ k n v) 30 [(0, .ref 0), (1, .ref 2), (2, .int k), (3, .int n), (4, .int v)] [.int z23] S20
        exact kw_ireturn (pc := 30) (i := 16) (ty := .int) rfl rfl rfl ⟨⟨I24, F26⟩, _, rfl, by omega, hF⟩
    · replace hF := kf_p c11 hF
      refine kw_iconst (pc := 16) (i := 8) (v := (-1)) rfl rfl ?_
      exact kw_ireturn (pc := 17) (i := 9) (ty := .int) rfl rfl rfl ⟨⟨hI, hF0⟩, _, rfl, by omega, hF⟩
noncomputable def l_X7_planRefusal_0_70 (a1 : Int32) (S : kw_S) : Nat → Int32 → Int32 × kw_S
  | 0, _ => (0, S)
  | n + 1, x2 => kf_l (f_X3_sizeOf_1 S a1) fun z5 => if x2.toInt < z5.toInt then (kf_l (f_X3_valueAt_1 S a1 x2) fun z6 => kf_l (f_X1_hasSet_17 S z6) fun z7 => if z7.toInt = 0 then (kf_b (f_X4_refuse_8 S (3 : Int32)) fun z9 S10 => (z9, S10)) else (kf_l (x2 + Int32.ofInt 1) fun z8 => l_X7_planRefusal_0_70 a1 S n z8)) else (((0 : Int32), S))
theorem l_X7_planRefusal_0_70_s (a1 : Int32) (S : kw_S) (n : Nat) (x2 : Int32) : l_X7_planRefusal_0_70 a1 S (n + 1) x2 = kf_l (f_X3_sizeOf_1 S a1) fun z5 => if x2.toInt < z5.toInt then (kf_l (f_X3_valueAt_1 S a1 x2) fun z6 => kf_l (f_X1_hasSet_17 S z6) fun z7 => if z7.toInt = 0 then (kf_b (f_X4_refuse_8 S (3 : Int32)) fun z9 S10 => (z9, S10)) else (kf_l (x2 + Int32.ofInt 1) fun z8 => l_X7_planRefusal_0_70 a1 S n z8)) else (((0 : Int32), S)) := rfl
noncomputable def f_X7_planRefusal_0 (σ : kw_S) (a : Int32) : Int32 × kw_S := kf_l (f_X3_has_1 σ a) fun z1 => if z1.toInt = 0 then ((((-1) : Int32), σ)) else (kf_l (f_X5_isEmpty_4 σ) fun z2 => if z2.toInt = 0 then (kf_l (f_X3_isMissing_1 σ a) fun z3 => if z3.toInt = 0 then (kf_l (f_X3_sizeOf_1 σ a) fun z4 => if (6 : Int32).toInt < z4.toInt then (kf_b (f_X4_refuse_8 σ (5 : Int32)) fun z11 S12 => (z11, S12)) else (l_X7_planRefusal_0_70 a σ ((41 - (0 : Int32).toInt).toNat + 1) (0 : Int32))) else (kf_b (f_X4_refuse_8 σ (1 : Int32)) fun z13 S14 => (z13, S14))) else ((((-4) : Int32), σ)))
theorem f_X7_planRefusal_0_u (σ : kw_S) (a : Int32) : f_X7_planRefusal_0 σ a = kf_l (f_X3_has_1 σ a) fun z1 => if z1.toInt = 0 then ((((-1) : Int32), σ)) else (kf_l (f_X5_isEmpty_4 σ) fun z2 => if z2.toInt = 0 then (kf_l (f_X3_isMissing_1 σ a) fun z3 => if z3.toInt = 0 then (kf_l (f_X3_sizeOf_1 σ a) fun z4 => if (6 : Int32).toInt < z4.toInt then (kf_b (f_X4_refuse_8 σ (5 : Int32)) fun z11 S12 => (z11, S12)) else (l_X7_planRefusal_0_70 a σ ((41 - (0 : Int32).toInt).toNat + 1) (0 : Int32))) else (kf_b (f_X4_refuse_8 σ (1 : Int32)) fun z13 S14 => (z13, S14))) else ((((-4) : Int32), σ))) := rfl
abbrev p_X7_planRefusal_0 (σ : kw_S) (a : Int32) : Option Value → kw_S → Prop := fun vv σ' => (kw_I bX σ' ∧ kw_F [8, 28] σ σ') ∧ ∃ r : Int32, vv = some (.int r) ∧ (r.toInt ≠ 0 ∨ 0 ≤ a.toInt ∧ a.toInt < 6 ∧ (σ'.1 13 a.toNatClampNeg).toInt ≤ 6) ∧ (r, σ') = f_X7_planRefusal_0 σ a
set_option maxRecDepth 100000 in
set_option maxHeartbeats 4000000 in
theorem c_X7_planRefusal_0 (l : Launch) (σ : kw_S) (hI : kw_I bX σ) (a : Int32) : kw_Met l 4 KX mX7_planRefusal [.ref 0, .int a] σ (p_X7_planRefusal_0 σ a) := by
  have r_a := kw_rng a
  have hF0 : kw_F [8, 28] σ σ := kw_F.rf
  have hF := (f_X7_planRefusal_0_u σ a).symm
  have q_m4 : (-4 : Int32).toInt = -4 := rfl
  have q_m1 : (-1 : Int32).toInt = -1 := rfl
  have q_0 : (0 : Int32).toInt = 0 := rfl
  have q_1 : (1 : Int32).toInt = 1 := rfl
  have q_3 : (3 : Int32).toInt = 3 := rfl
  have q_5 : (5 : Int32).toInt = 5 := rfl
  have q_6 : (6 : Int32).toInt = 6 := rfl
  refine kw_Met.of (by decide) rfl tX7_planRefusal (Nat.le_of_ble_eq_true rfl) ?_
  show kw_AW l 4 kw_E0 KX mX7_planRefusal (p_X7_planRefusal_0 σ a) 0 [(0, .ref 0), (1, .int a)] [] σ
  refine kw_aload_n (pc := 0) (i := 0) (k := 0) (n := 0) rfl rfl rfl ?_
  refine kw_get (pc := 1) (i := 1) (v := .ref 1) rfl rfl rfl lkX7_14 (fun _ => rfl) ?_
  refine kw_iload_n (pc := 4) (i := 2) (k := 1) (n := 1) rfl rfl rfl ?_
  refine kw_callV (pc := 5) (i := 3) (Y := mX3_has) (a := 1) (As := [.int a]) (st := []) kw_hE rfl rfl lvX7_73 arX3_has (c_X3_has_1 l σ hI a ) (by decide) (Nat.le_of_ble_eq_true rfl) rfl (fun v S2 p1 => ?_)
  obtain ⟨e8, z7, rfl, f3, f4, f5, ef6⟩ := p1
  rw [e8]
  replace hF := kf_le ef6 hF
  have r_z7 := kw_rng z7
  show kw_AW l 4 kw_E0 KX mX7_planRefusal (p_X7_planRefusal_0 σ a) 8 [(0, .ref 0), (1, .int a)] [.int z7] σ
  refine kw_if_ne (pc := 8) (i := 4) (tgt := 13) rfl rfl (fun c9 => ?_) (fun c9 => ?_)
  · replace hF := kf_n c9 hF
    refine kw_aload_n (pc := 13) (i := 7) (k := 0) (n := 0) rfl rfl rfl ?_
    refine kw_get (pc := 14) (i := 8) (v := .ref 4) rfl rfl rfl lkX7_31 (fun _ => rfl) ?_
    refine kw_callV (pc := 17) (i := 9) (Y := mX5_isEmpty) (a := 4) (As := []) (st := []) kw_hE rfl rfl lvX7_178 arX5_isEmpty (c_X5_isEmpty_4 l σ hI  ) (by decide) (Nat.le_of_ble_eq_true rfl) rfl (fun v S11 p10 => ?_)
    obtain ⟨e17, z16, rfl, f12, f13, f14, ef15⟩ := p10
    rw [e17]
    replace hF := kf_le ef15 hF
    have r_z16 := kw_rng z16
    show kw_AW l 4 kw_E0 KX mX7_planRefusal (p_X7_planRefusal_0 σ a) 20 [(0, .ref 0), (1, .int a)] [.int z16] σ
    refine kw_if_eq (pc := 20) (i := 10) (tgt := 26) rfl rfl (fun c18 => ?_) (fun c18 => ?_)
    · replace hF := kf_p c18 hF
      refine kw_aload_n (pc := 26) (i := 13) (k := 0) (n := 0) rfl rfl rfl ?_
      refine kw_get (pc := 27) (i := 14) (v := .ref 1) rfl rfl rfl lkX7_14 (fun _ => rfl) ?_
      refine kw_iload_n (pc := 30) (i := 15) (k := 1) (n := 1) rfl rfl rfl ?_
      refine kw_callV (pc := 31) (i := 16) (Y := mX3_isMissing) (a := 1) (As := [.int a]) (st := []) kw_hE rfl rfl lvX7_95 arX3_isMissing (c_X3_isMissing_1 l σ hI a ) (by decide) (Nat.le_of_ble_eq_true rfl) rfl (fun v S20 p19 => ?_)
      obtain ⟨e25, z24, rfl, f21, f22, ef23⟩ := p19
      rw [e25]
      replace hF := kf_le ef23 hF
      have r_z24 := kw_rng z24
      show kw_AW l 4 kw_E0 KX mX7_planRefusal (p_X7_planRefusal_0 σ a) 34 [(0, .ref 0), (1, .int a)] [.int z24] σ
      refine kw_if_eq (pc := 34) (i := 17) (tgt := 46) rfl rfl (fun c26 => ?_) (fun c26 => ?_)
      · replace hF := kf_p c26 hF
        refine kw_aload_n (pc := 46) (i := 23) (k := 0) (n := 0) rfl rfl rfl ?_
        refine kw_get (pc := 47) (i := 24) (v := .ref 1) rfl rfl rfl lkX7_14 (fun _ => rfl) ?_
        refine kw_iload_n (pc := 50) (i := 25) (k := 1) (n := 1) rfl rfl rfl ?_
        refine kw_callV (pc := 51) (i := 26) (Y := mX3_sizeOf) (a := 1) (As := [.int a]) (st := []) kw_hE rfl rfl lvX7_110 arX3_sizeOf (c_X3_sizeOf_1 l σ hI a ) (by decide) (Nat.le_of_ble_eq_true rfl) rfl (fun v S28 p27 => ?_)
        obtain ⟨e35, z34, rfl, f29, f30, f31, f32, ef33⟩ := p27
        rw [e35]
        replace hF := kf_le ef33 hF
        have r_z34 := kw_rng z34
        show kw_AW l 4 kw_E0 KX mX7_planRefusal (p_X7_planRefusal_0 σ a) 54 [(0, .ref 0), (1, .int a)] [.int z34] σ
        refine kw_bipush (pc := 54) (i := 27) (v := 6) rfl rfl ?_
        refine kw_icmp_le (pc := 56) (i := 28) (tgt := 68) rfl rfl (fun c36 => ?_) (fun c36 => ?_)
        · replace hF := kf_nl c36 hF
          refine kw_iconst (pc := 68) (i := 34) (v := 0) rfl rfl ?_
          refine kw_istore_n (pc := 69) (i := 35) (n := 2) (lv' := [(2, .int 0), (0, .ref 0), (1, .int a)]) rfl rfl (by decide) rfl ?_
          have L38 : ∀ (n42 : Nat) (x37 : Int32), 0 ≤ x37.toInt → l_X7_planRefusal_0_70 a σ n42 x37 = (f_X7_planRefusal_0 σ a) → (41 - x37.toInt).toNat < n42 → kw_AW l 4 kw_E0 KX mX7_planRefusal (p_X7_planRefusal_0 σ a) 70 [(2, .int x37), (0, .ref 0), (1, .int a)] [] σ := by
            intro n42
            induction n42 with
            | zero => intro x37 v40 hF m41; exact absurd m41 (Nat.not_lt_zero _)
            | succ n42 ih39 =>
              intro x37 v40 hF m41
              replace hF := kf_st (l_X7_planRefusal_0_70_s _ _ _ _) hF
              have r_x37 := kw_rng x37
              refine kw_iload_n (pc := 70) (i := 36) (k := 0) (n := 2) rfl rfl rfl ?_
              refine kw_aload_n (pc := 71) (i := 37) (k := 1) (n := 0) rfl rfl rfl ?_
              refine kw_get (pc := 72) (i := 38) (v := .ref 1) rfl rfl rfl lkX7_14 (fun _ => rfl) ?_
              refine kw_iload_n (pc := 75) (i := 39) (k := 2) (n := 1) rfl rfl rfl ?_
              refine kw_callV (pc := 76) (i := 40) (Y := mX3_sizeOf) (a := 1) (As := [.int a]) (st := [.int x37]) kw_hE rfl rfl lvX7_110 arX3_sizeOf (c_X3_sizeOf_1 l σ hI a ) (by decide) (Nat.le_of_ble_eq_true rfl) rfl (fun v S44 p43 => ?_)
              obtain ⟨e51, z50, rfl, f45, f46, f47, f48, ef49⟩ := p43
              rw [e51]
              replace hF := kf_le ef49 hF
              have r_z50 := kw_rng z50
              show kw_AW l 4 kw_E0 KX mX7_planRefusal (p_X7_planRefusal_0 σ a) 79 [(2, .int x37), (0, .ref 0), (1, .int a)] [.int z50, .int x37] σ
              refine kw_icmp_ge (pc := 79) (i := 41) (tgt := 119) rfl rfl (fun c52 => ?_) (fun c52 => ?_)
              · replace hF := kf_nl c52 hF
                refine kw_iconst (pc := 119) (i := 59) (v := 0) rfl rfl ?_
                exact kw_ireturn (pc := 120) (i := 60) (ty := .int) rfl rfl rfl ⟨⟨hI, hF0⟩, _, rfl, by omega, hF⟩
              · replace hF := kf_p c52 hF
                refine kw_aload_n (pc := 82) (i := 42) (k := 1) (n := 0) rfl rfl rfl ?_
                refine kw_get (pc := 83) (i := 43) (v := .ref 4) rfl rfl rfl lkX7_31 (fun _ => rfl) ?_
                refine kw_get (pc := 86) (i := 44) (v := .ref 17) rfl rfl rfl lkX7_117 (fun _ => rfl) ?_
                refine kw_aload_n (pc := 89) (i := 45) (k := 1) (n := 0) rfl rfl rfl ?_
                refine kw_get (pc := 90) (i := 46) (v := .ref 1) rfl rfl rfl lkX7_14 (fun _ => rfl) ?_
                refine kw_iload_n (pc := 93) (i := 47) (k := 2) (n := 1) rfl rfl rfl ?_
                refine kw_iload_n (pc := 94) (i := 48) (k := 0) (n := 2) rfl rfl rfl ?_
                refine kw_callV (pc := 95) (i := 49) (Y := mX3_valueAt) (a := 1) (As := [.int a, .int x37]) (st := [.ref 17]) kw_hE rfl rfl lvX7_85 arX3_valueAt (c_X3_valueAt_1 l σ hI a x37 ) (by decide) (Nat.le_of_ble_eq_true rfl) rfl (fun v S54 p53 => ?_)
                obtain ⟨e57, z56, rfl, ef55⟩ := p53
                rw [e57]
                replace hF := kf_le ef55 hF
                have r_z56 := kw_rng z56
                show kw_AW l 4 kw_E0 KX mX7_planRefusal (p_X7_planRefusal_0 σ a) 98 [(2, .int x37), (0, .ref 0), (1, .int a)] [.int z56, .ref 17] σ
                refine kw_callV (pc := 98) (i := 50) (Y := mX1_hasSet) (a := 17) (As := [.int z56]) (st := []) kw_hE rfl rfl lvX7_216 arX1_hasSet (c_X1_hasSet_17 l σ hI z56 ) (by decide) (Nat.le_of_ble_eq_true rfl) rfl (fun v S59 p58 => ?_)
                obtain ⟨e63, z62, rfl, f60, ef61⟩ := p58
                rw [e63]
                replace hF := kf_le ef61 hF
                have r_z62 := kw_rng z62
                show kw_AW l 4 kw_E0 KX mX7_planRefusal (p_X7_planRefusal_0 σ a) 101 [(2, .int x37), (0, .ref 0), (1, .int a)] [.int z62] σ
                refine kw_if_ne (pc := 101) (i := 51) (tgt := 113) rfl rfl (fun c64 => ?_) (fun c64 => ?_)
                · replace hF := kf_n c64 hF
                  refine kw_iinc' (pc := 113) (i := 57) (k := 0) (fun z => [(2, .int z), (0, .ref 0), (1, .int a)]) rfl rfl (by decide) rfl (fun _ => rfl) (fun z65 e_z65 t_z65 => ?_)
                  replace hF := kf_le e_z65 hF
                  refine kw_goto (pc := 116) (i := 58) (tgt := 70) rfl rfl ?_
                  refine kw_sub (lv' := [(2, .int z65), (0, .ref 0), (1, .int a)]) [0, 1, 2] rfl ?_
                  exact ih39 z65 (by omega) hF (by omega)
                · replace hF := kf_p c64 hF
                  refine kw_aload_n (pc := 104) (i := 52) (k := 1) (n := 0) rfl rfl rfl ?_
                  refine kw_get (pc := 105) (i := 53) (v := .ref 8) rfl rfl rfl lkX7_55 (fun _ => rfl) ?_
                  refine kw_iconst (pc := 108) (i := 54) (v := 3) rfl rfl ?_
                  refine kw_callV (pc := 109) (i := 55) (Y := mX4_refuse) (a := 8) (As := [.int 3]) (st := []) kw_hE rfl rfl lvX7_81 arX4_refuse (c_X4_refuse_8 l σ hI 3 ) (by decide) (Nat.le_of_ble_eq_true rfl) rfl (fun v S67 p66 => ?_)
                  obtain ⟨⟨I71, F72⟩, z70, rfl, f68, ef69⟩ := p66
                  have F73 : kw_F [8, 28] σ S67 := kw_F.tr hF0 F72 (by decide)
                  replace hF := kf_be ef69 hF
                  have r_z70 := kw_rng z70
                  show kw_AW l 4 kw_E0 KX mX7_planRefusal (p_X7_planRefusal_0 σ a) 112 [(2, .int x37), (0, .ref 0), (1, .int a)] [.int z70] S67
                  exact kw_ireturn (pc := 112) (i := 56) (ty := .int) rfl rfl rfl ⟨⟨I71, F73⟩, _, rfl, by omega, hF⟩
          exact L38 _ 0 (by omega) hF (Nat.lt_succ_self _)
        · replace hF := kf_p c36 hF
          refine kw_aload_n (pc := 59) (i := 29) (k := 0) (n := 0) rfl rfl rfl ?_
          refine kw_get (pc := 60) (i := 30) (v := .ref 8) rfl rfl rfl lkX7_55 (fun _ => rfl) ?_
          refine kw_iconst (pc := 63) (i := 31) (v := 5) rfl rfl ?_
          refine kw_callV (pc := 64) (i := 32) (Y := mX4_refuse) (a := 8) (As := [.int 5]) (st := []) kw_hE rfl rfl lvX7_81 arX4_refuse (c_X4_refuse_8 l σ hI 5 ) (by decide) (Nat.le_of_ble_eq_true rfl) rfl (fun v S75 p74 => ?_)
          obtain ⟨⟨I79, F80⟩, z78, rfl, f76, ef77⟩ := p74
          have F81 : kw_F [8, 28] σ S75 := kw_F.tr hF0 F80 (by decide)
          replace hF := kf_be ef77 hF
          have r_z78 := kw_rng z78
          show kw_AW l 4 kw_E0 KX mX7_planRefusal (p_X7_planRefusal_0 σ a) 67 [(0, .ref 0), (1, .int a)] [.int z78] S75
          exact kw_ireturn (pc := 67) (i := 33) (ty := .int) rfl rfl rfl ⟨⟨I79, F81⟩, _, rfl, by omega, hF⟩
      · replace hF := kf_n c26 hF
        refine kw_aload_n (pc := 37) (i := 18) (k := 0) (n := 0) rfl rfl rfl ?_
        refine kw_get (pc := 38) (i := 19) (v := .ref 8) rfl rfl rfl lkX7_55 (fun _ => rfl) ?_
        refine kw_iconst (pc := 41) (i := 20) (v := 1) rfl rfl ?_
        refine kw_callV (pc := 42) (i := 21) (Y := mX4_refuse) (a := 8) (As := [.int 1]) (st := []) kw_hE rfl rfl lvX7_81 arX4_refuse (c_X4_refuse_8 l σ hI 1 ) (by decide) (Nat.le_of_ble_eq_true rfl) rfl (fun v S83 p82 => ?_)
        obtain ⟨⟨I87, F88⟩, z86, rfl, f84, ef85⟩ := p82
        have F89 : kw_F [8, 28] σ S83 := kw_F.tr hF0 F88 (by decide)
        replace hF := kf_be ef85 hF
        have r_z86 := kw_rng z86
        show kw_AW l 4 kw_E0 KX mX7_planRefusal (p_X7_planRefusal_0 σ a) 45 [(0, .ref 0), (1, .int a)] [.int z86] S83
        exact kw_ireturn (pc := 45) (i := 22) (ty := .int) rfl rfl rfl ⟨⟨I87, F89⟩, _, rfl, by omega, hF⟩
    · replace hF := kf_n c18 hF
      refine kw_bipush (pc := 23) (i := 11) (v := (-4)) rfl rfl ?_
      exact kw_ireturn (pc := 25) (i := 12) (ty := .int) rfl rfl rfl ⟨⟨hI, hF0⟩, _, rfl, by omega, hF⟩
  · replace hF := kf_p c9 hF
    refine kw_iconst (pc := 11) (i := 5) (v := (-1)) rfl rfl ?_
    exact kw_ireturn (pc := 12) (i := 6) (ty := .int) rfl rfl rfl ⟨⟨hI, hF0⟩, _, rfl, by omega, hF⟩
noncomputable def l_X7_pairsRefusal_0_80 (a1 : Int32) (a2 : Int32) (a3 : Int32) (S : kw_S) : Nat → Int32 → Int32 × kw_S
  | 0, _ => (0, S)
  | n + 1, x4 => if x4.toInt < a3.toInt then (kf_l (f_X3_valueAt_1 S a2 x4) fun z8 => if z8.toInt < 0 then (kf_b (f_X4_refuse_8 S (3 : Int32)) fun z9 S10 => (z9, S10)) else (if (6 : Int32).toInt < z8.toInt then (kf_b (f_X4_refuse_8 S (3 : Int32)) fun z12 S13 => (z12, S13)) else (kf_l (x4 + Int32.ofInt 2) fun z11 => l_X7_pairsRefusal_0_80 a1 a2 a3 S n z11))) else (((0 : Int32), S))
theorem l_X7_pairsRefusal_0_80_s (a1 : Int32) (a2 : Int32) (a3 : Int32) (S : kw_S) (n : Nat) (x4 : Int32) : l_X7_pairsRefusal_0_80 a1 a2 a3 S (n + 1) x4 = if x4.toInt < a3.toInt then (kf_l (f_X3_valueAt_1 S a2 x4) fun z8 => if z8.toInt < 0 then (kf_b (f_X4_refuse_8 S (3 : Int32)) fun z9 S10 => (z9, S10)) else (if (6 : Int32).toInt < z8.toInt then (kf_b (f_X4_refuse_8 S (3 : Int32)) fun z12 S13 => (z12, S13)) else (kf_l (x4 + Int32.ofInt 2) fun z11 => l_X7_pairsRefusal_0_80 a1 a2 a3 S n z11))) else (((0 : Int32), S)) := rfl
noncomputable def f_X7_pairsRefusal_0 (σ : kw_S) (i : Int32) (a : Int32) : Int32 × kw_S := kf_l (f_X1_hasLine_17 σ i) fun z1 => if z1.toInt = 0 then ((((-1) : Int32), σ)) else (kf_l (f_X3_has_1 σ a) fun z2 => if z2.toInt = 0 then ((((-1) : Int32), σ)) else (kf_l (f_X3_isMissing_1 σ a) fun z3 => if z3.toInt = 0 then (kf_l (f_X3_sizeOf_1 σ a) fun z4 => kf_l (z4 - z4 / (2 : Int32) * (2 : Int32)) fun z5 => if z5.toInt = 0 then (if (20 : Int32).toInt < z4.toInt then (kf_b (f_X4_refuse_8 σ (5 : Int32)) fun z14 S15 => (z14, S15)) else (l_X7_pairsRefusal_0_80 i a z4 σ ((z4.toInt - (0 : Int32).toInt).toNat + 1) (0 : Int32))) else (kf_b (f_X4_refuse_8 σ (5 : Int32)) fun z6 S7 => (z6, S7))) else (kf_b (f_X4_refuse_8 σ (1 : Int32)) fun z16 S17 => (z16, S17))))
theorem f_X7_pairsRefusal_0_u (σ : kw_S) (i : Int32) (a : Int32) : f_X7_pairsRefusal_0 σ i a = kf_l (f_X1_hasLine_17 σ i) fun z1 => if z1.toInt = 0 then ((((-1) : Int32), σ)) else (kf_l (f_X3_has_1 σ a) fun z2 => if z2.toInt = 0 then ((((-1) : Int32), σ)) else (kf_l (f_X3_isMissing_1 σ a) fun z3 => if z3.toInt = 0 then (kf_l (f_X3_sizeOf_1 σ a) fun z4 => kf_l (z4 - z4 / (2 : Int32) * (2 : Int32)) fun z5 => if z5.toInt = 0 then (if (20 : Int32).toInt < z4.toInt then (kf_b (f_X4_refuse_8 σ (5 : Int32)) fun z14 S15 => (z14, S15)) else (l_X7_pairsRefusal_0_80 i a z4 σ ((z4.toInt - (0 : Int32).toInt).toNat + 1) (0 : Int32))) else (kf_b (f_X4_refuse_8 σ (5 : Int32)) fun z6 S7 => (z6, S7))) else (kf_b (f_X4_refuse_8 σ (1 : Int32)) fun z16 S17 => (z16, S17)))) := rfl
abbrev p_X7_pairsRefusal_0 (σ : kw_S) (i : Int32) (a : Int32) : Option Value → kw_S → Prop := fun vv σ' => (kw_I bX σ' ∧ kw_F [8, 28] σ σ') ∧ ∃ r : Int32, vv = some (.int r) ∧ (r.toInt ≠ 0 ∨ 0 ≤ i.toInt ∧ i.toInt < 6) ∧ (r, σ') = f_X7_pairsRefusal_0 σ i a
set_option maxRecDepth 100000 in
set_option maxHeartbeats 4000000 in
theorem c_X7_pairsRefusal_0 (l : Launch) (σ : kw_S) (hI : kw_I bX σ) (i : Int32) (a : Int32) : kw_Met l 4 KX mX7_pairsRefusal [.ref 0, .int i, .int a] σ (p_X7_pairsRefusal_0 σ i a) := by
  have r_i := kw_rng i
  have r_a := kw_rng a
  have hF0 : kw_F [8, 28] σ σ := kw_F.rf
  have hF := (f_X7_pairsRefusal_0_u σ i a).symm
  have q_m1 : (-1 : Int32).toInt = -1 := rfl
  have q_0 : (0 : Int32).toInt = 0 := rfl
  have q_1 : (1 : Int32).toInt = 1 := rfl
  have q_2 : (2 : Int32).toInt = 2 := rfl
  have q_3 : (3 : Int32).toInt = 3 := rfl
  have q_5 : (5 : Int32).toInt = 5 := rfl
  have q_6 : (6 : Int32).toInt = 6 := rfl
  have q_20 : (20 : Int32).toInt = 20 := rfl
  refine kw_Met.of (by decide) rfl tX7_pairsRefusal (Nat.le_of_ble_eq_true rfl) ?_
  show kw_AW l 4 kw_E0 KX mX7_pairsRefusal (p_X7_pairsRefusal_0 σ i a) 0 [(0, .ref 0), (1, .int i), (2, .int a)] [] σ
  refine kw_aload_n (pc := 0) (i := 0) (k := 0) (n := 0) rfl rfl rfl ?_
  refine kw_get (pc := 1) (i := 1) (v := .ref 4) rfl rfl rfl lkX7_31 (fun _ => rfl) ?_
  refine kw_get (pc := 4) (i := 2) (v := .ref 17) rfl rfl rfl lkX7_117 (fun _ => rfl) ?_
  refine kw_iload_n (pc := 7) (i := 3) (k := 1) (n := 1) rfl rfl rfl ?_
  refine kw_callV (pc := 8) (i := 4) (Y := mX1_hasLine) (a := 17) (As := [.int i]) (st := []) kw_hE rfl rfl lvX7_137 arX1_hasLine (c_X1_hasLine_17 l σ hI i ) (by decide) (Nat.le_of_ble_eq_true rfl) rfl (fun v S2 p1 => ?_)
  obtain ⟨e7, z6, rfl, f3, f4, ef5⟩ := p1
  rw [e7]
  replace hF := kf_le ef5 hF
  have r_z6 := kw_rng z6
  show kw_AW l 4 kw_E0 KX mX7_pairsRefusal (p_X7_pairsRefusal_0 σ i a) 11 [(0, .ref 0), (1, .int i), (2, .int a)] [.int z6] σ
  refine kw_if_eq (pc := 11) (i := 5) (tgt := 25) rfl rfl (fun c8 => ?_) (fun c8 => ?_)
  · replace hF := kf_p c8 hF
    refine kw_iconst (pc := 25) (i := 11) (v := (-1)) rfl rfl ?_
    exact kw_ireturn (pc := 26) (i := 12) (ty := .int) rfl rfl rfl ⟨⟨hI, hF0⟩, _, rfl, by omega, hF⟩
  · replace hF := kf_n c8 hF
    refine kw_aload_n (pc := 14) (i := 6) (k := 0) (n := 0) rfl rfl rfl ?_
    refine kw_get (pc := 15) (i := 7) (v := .ref 1) rfl rfl rfl lkX7_14 (fun _ => rfl) ?_
    refine kw_iload_n (pc := 18) (i := 8) (k := 2) (n := 2) rfl rfl rfl ?_
    refine kw_callV (pc := 19) (i := 9) (Y := mX3_has) (a := 1) (As := [.int a]) (st := []) kw_hE rfl rfl lvX7_73 arX3_has (c_X3_has_1 l σ hI a ) (by decide) (Nat.le_of_ble_eq_true rfl) rfl (fun v S10 p9 => ?_)
    obtain ⟨e16, z15, rfl, f11, f12, f13, ef14⟩ := p9
    rw [e16]
    replace hF := kf_le ef14 hF
    have r_z15 := kw_rng z15
    show kw_AW l 4 kw_E0 KX mX7_pairsRefusal (p_X7_pairsRefusal_0 σ i a) 22 [(0, .ref 0), (1, .int i), (2, .int a)] [.int z15] σ
    refine kw_if_ne (pc := 22) (i := 10) (tgt := 27) rfl rfl (fun c17 => ?_) (fun c17 => ?_)
    · replace hF := kf_n c17 hF
      refine kw_aload_n (pc := 27) (i := 13) (k := 0) (n := 0) rfl rfl rfl ?_
      refine kw_get (pc := 28) (i := 14) (v := .ref 1) rfl rfl rfl lkX7_14 (fun _ => rfl) ?_
      refine kw_iload_n (pc := 31) (i := 15) (k := 2) (n := 2) rfl rfl rfl ?_
      refine kw_callV (pc := 32) (i := 16) (Y := mX3_isMissing) (a := 1) (As := [.int a]) (st := []) kw_hE rfl rfl lvX7_95 arX3_isMissing (c_X3_isMissing_1 l σ hI a ) (by decide) (Nat.le_of_ble_eq_true rfl) rfl (fun v S19 p18 => ?_)
      obtain ⟨e24, z23, rfl, f20, f21, ef22⟩ := p18
      rw [e24]
      replace hF := kf_le ef22 hF
      have r_z23 := kw_rng z23
      show kw_AW l 4 kw_E0 KX mX7_pairsRefusal (p_X7_pairsRefusal_0 σ i a) 35 [(0, .ref 0), (1, .int i), (2, .int a)] [.int z23] σ
      refine kw_if_eq (pc := 35) (i := 17) (tgt := 47) rfl rfl (fun c25 => ?_) (fun c25 => ?_)
      · replace hF := kf_p c25 hF
        refine kw_aload_n (pc := 47) (i := 23) (k := 0) (n := 0) rfl rfl rfl ?_
        refine kw_get (pc := 48) (i := 24) (v := .ref 1) rfl rfl rfl lkX7_14 (fun _ => rfl) ?_
        refine kw_iload_n (pc := 51) (i := 25) (k := 2) (n := 2) rfl rfl rfl ?_
        refine kw_callV (pc := 52) (i := 26) (Y := mX3_sizeOf) (a := 1) (As := [.int a]) (st := []) kw_hE rfl rfl lvX7_110 arX3_sizeOf (c_X3_sizeOf_1 l σ hI a ) (by decide) (Nat.le_of_ble_eq_true rfl) rfl (fun v S27 p26 => ?_)
        obtain ⟨e34, z33, rfl, f28, f29, f30, f31, ef32⟩ := p26
        rw [e34]
        replace hF := kf_le ef32 hF
        have r_z33 := kw_rng z33
        show kw_AW l 4 kw_E0 KX mX7_pairsRefusal (p_X7_pairsRefusal_0 σ i a) 55 [(0, .ref 0), (1, .int i), (2, .int a)] [.int z33] σ
        refine kw_istore_n (pc := 55) (i := 27) (n := 3) (lv' := [(3, .int z33), (0, .ref 0), (1, .int i), (2, .int a)]) rfl rfl (by decide) rfl ?_
        refine kw_iload_n (pc := 56) (i := 28) (k := 0) (n := 3) rfl rfl rfl ?_
        refine kw_iconst (pc := 57) (i := 29) (v := 2) rfl rfl ?_
        refine kw_irem (pc := 58) (i := 30) rfl (by omega) (fun z35 e_z35 => ?_)
        have r_z35 := kw_rng z35
        replace hF := kf_le e_z35 hF
        have t_z35 := kw_remI z33 2 z35 e_z35
        refine kw_if_ne (pc := 59) (i := 31) (tgt := 68) rfl rfl (fun c36 => ?_) (fun c36 => ?_)
        · replace hF := kf_n c36 hF
          refine kw_aload_n (pc := 68) (i := 35) (k := 1) (n := 0) rfl rfl rfl ?_
          refine kw_get (pc := 69) (i := 36) (v := .ref 8) rfl rfl rfl lkX7_55 (fun _ => rfl) ?_
          refine kw_iconst (pc := 72) (i := 37) (v := 5) rfl rfl ?_
          refine kw_callV (pc := 73) (i := 38) (Y := mX4_refuse) (a := 8) (As := [.int 5]) (st := []) kw_hE rfl rfl lvX7_81 arX4_refuse (c_X4_refuse_8 l σ hI 5 ) (by decide) (Nat.le_of_ble_eq_true rfl) rfl (fun v S38 p37 => ?_)
          obtain ⟨⟨I42, F43⟩, z41, rfl, f39, ef40⟩ := p37
          have F44 : kw_F [8, 28] σ S38 := kw_F.tr hF0 F43 (by decide)
          replace hF := kf_be ef40 hF
          have r_z41 := kw_rng z41
          show kw_AW l 4 kw_E0 KX mX7_pairsRefusal (p_X7_pairsRefusal_0 σ i a) 76 [(3, .int z33), (0, .ref 0), (1, .int i), (2, .int a)] [.int z41] S38
          exact kw_ireturn (pc := 76) (i := 39) (ty := .int) rfl rfl rfl ⟨⟨I42, F44⟩, _, rfl, by omega, hF⟩
        · replace hF := kf_p c36 hF
          refine kw_iload_n (pc := 62) (i := 32) (k := 0) (n := 3) rfl rfl rfl ?_
          refine kw_bipush (pc := 63) (i := 33) (v := 20) rfl rfl ?_
          refine kw_icmp_le (pc := 65) (i := 34) (tgt := 77) rfl rfl (fun c45 => ?_) (fun c45 => ?_)
          · replace hF := kf_nl c45 hF
            refine kw_iconst (pc := 77) (i := 40) (v := 0) rfl rfl ?_
            refine kw_istore (pc := 78) (i := 41) (n := 4) (lv' := [(4, .int 0), (3, .int z33), (0, .ref 0), (1, .int i), (2, .int a)]) rfl (by decide) rfl ?_
            have L47 : ∀ (n51 : Nat) (x46 : Int32), 0 ≤ x46.toInt → l_X7_pairsRefusal_0_80 i a z33 σ n51 x46 = (f_X7_pairsRefusal_0 σ i a) → (z33.toInt - x46.toInt).toNat < n51 → kw_AW l 4 kw_E0 KX mX7_pairsRefusal (p_X7_pairsRefusal_0 σ i a) 80 [(4, .int x46), (3, .int z33), (0, .ref 0), (1, .int i), (2, .int a)] [] σ := by
              intro n51
              induction n51 with
              | zero => intro x46 v49 hF m50; exact absurd m50 (Nat.not_lt_zero _)
              | succ n51 ih48 =>
                intro x46 v49 hF m50
                replace hF := kf_st (l_X7_pairsRefusal_0_80_s _ _ _ _ _ _) hF
                have r_x46 := kw_rng x46
                refine kw_iload (pc := 80) (i := 42) (k := 0) (n := 4) rfl rfl ?_
                refine kw_iload_n (pc := 82) (i := 43) (k := 1) (n := 3) rfl rfl rfl ?_
                refine kw_icmp_ge (pc := 83) (i := 44) (tgt := 125) rfl rfl (fun c52 => ?_) (fun c52 => ?_)
                · replace hF := kf_nl c52 hF
                  refine kw_iconst (pc := 125) (i := 63) (v := 0) rfl rfl ?_
                  exact kw_ireturn (pc := 126) (i := 64) (ty := .int) rfl rfl rfl ⟨⟨hI, hF0⟩, _, rfl, by omega, hF⟩
                · replace hF := kf_p c52 hF
                  refine kw_aload_n (pc := 86) (i := 45) (k := 2) (n := 0) rfl rfl rfl ?_
                  refine kw_get (pc := 87) (i := 46) (v := .ref 1) rfl rfl rfl lkX7_14 (fun _ => rfl) ?_
                  refine kw_iload_n (pc := 90) (i := 47) (k := 4) (n := 2) rfl rfl rfl ?_
                  refine kw_iload (pc := 91) (i := 48) (k := 0) (n := 4) rfl rfl ?_
                  refine kw_callV (pc := 93) (i := 49) (Y := mX3_valueAt) (a := 1) (As := [.int a, .int x46]) (st := []) kw_hE rfl rfl lvX7_85 arX3_valueAt (c_X3_valueAt_1 l σ hI a x46 ) (by decide) (Nat.le_of_ble_eq_true rfl) rfl (fun v S54 p53 => ?_)
                  obtain ⟨e57, z56, rfl, ef55⟩ := p53
                  rw [e57]
                  replace hF := kf_le ef55 hF
                  have r_z56 := kw_rng z56
                  show kw_AW l 4 kw_E0 KX mX7_pairsRefusal (p_X7_pairsRefusal_0 σ i a) 96 [(4, .int x46), (3, .int z33), (0, .ref 0), (1, .int i), (2, .int a)] [.int z56] σ
                  refine kw_istore (pc := 96) (i := 50) (n := 5) (lv' := [(5, .int z56), (4, .int x46), (3, .int z33), (0, .ref 0), (1, .int i), (2, .int a)]) rfl (by decide) rfl ?_
                  refine kw_iload (pc := 98) (i := 51) (k := 0) (n := 5) rfl rfl ?_
                  refine kw_if_lt (pc := 100) (i := 52) (tgt := 110) rfl rfl (fun c58 => ?_) (fun c58 => ?_)
                  · replace hF := kf_p c58 hF
                    refine kw_aload_n (pc := 110) (i := 56) (k := 3) (n := 0) rfl rfl rfl ?_
                    refine kw_get (pc := 111) (i := 57) (v := .ref 8) rfl rfl rfl lkX7_55 (fun _ => rfl) ?_
                    refine kw_iconst (pc := 114) (i := 58) (v := 3) rfl rfl ?_
                    refine kw_callV (pc := 115) (i := 59) (Y := mX4_refuse) (a := 8) (As := [.int 3]) (st := []) kw_hE rfl rfl lvX7_81 arX4_refuse (c_X4_refuse_8 l σ hI 3 ) (by decide) (Nat.le_of_ble_eq_true rfl) rfl (fun v S60 p59 => ?_)
                    obtain ⟨⟨I64, F65⟩, z63, rfl, f61, ef62⟩ := p59
                    have F66 : kw_F [8, 28] σ S60 := kw_F.tr hF0 F65 (by decide)
                    replace hF := kf_be ef62 hF
                    have r_z63 := kw_rng z63
                    show kw_AW l 4 kw_E0 KX mX7_pairsRefusal (p_X7_pairsRefusal_0 σ i a) 118 [(5, .int z56), (4, .int x46), (3, .int z33), (0, .ref 0), (1, .int i), (2, .int a)] [.int z63] S60
                    exact kw_ireturn (pc := 118) (i := 60) (ty := .int) rfl rfl rfl ⟨⟨I64, F66⟩, _, rfl, by omega, hF⟩
                  · replace hF := kf_nl c58 hF
                    refine kw_iload (pc := 103) (i := 53) (k := 0) (n := 5) rfl rfl ?_
                    refine kw_bipush (pc := 105) (i := 54) (v := 6) rfl rfl ?_
                    refine kw_icmp_le (pc := 107) (i := 55) (tgt := 119) rfl rfl (fun c67 => ?_) (fun c67 => ?_)
                    · replace hF := kf_nl c67 hF
                      refine kw_iinc' (pc := 119) (i := 61) (k := 1) (fun z => [(4, .int z), (5, .int z56), (3, .int z33), (0, .ref 0), (1, .int i), (2, .int a)]) rfl rfl (by decide) rfl (fun _ => rfl) (fun z68 e_z68 t_z68 => ?_)
                      replace hF := kf_le e_z68 hF
                      refine kw_goto (pc := 122) (i := 62) (tgt := 80) rfl rfl ?_
                      refine kw_sub (lv' := [(4, .int z68), (3, .int z33), (0, .ref 0), (1, .int i), (2, .int a)]) [0, 2, 3, 4, 5] rfl ?_
                      exact ih48 z68 (by omega) hF (by omega)
                    · replace hF := kf_p c67 hF
                      refine kw_aload_n (pc := 110) (i := 56) (k := 3) (n := 0) rfl rfl rfl ?_
                      refine kw_get (pc := 111) (i := 57) (v := .ref 8) rfl rfl rfl lkX7_55 (fun _ => rfl) ?_
                      refine kw_iconst (pc := 114) (i := 58) (v := 3) rfl rfl ?_
                      refine kw_callV (pc := 115) (i := 59) (Y := mX4_refuse) (a := 8) (As := [.int 3]) (st := []) kw_hE rfl rfl lvX7_81 arX4_refuse (c_X4_refuse_8 l σ hI 3 ) (by decide) (Nat.le_of_ble_eq_true rfl) rfl (fun v S70 p69 => ?_)
                      obtain ⟨⟨I74, F75⟩, z73, rfl, f71, ef72⟩ := p69
                      have F76 : kw_F [8, 28] σ S70 := kw_F.tr hF0 F75 (by decide)
                      replace hF := kf_be ef72 hF
                      have r_z73 := kw_rng z73
                      show kw_AW l 4 kw_E0 KX mX7_pairsRefusal (p_X7_pairsRefusal_0 σ i a) 118 [(5, .int z56), (4, .int x46), (3, .int z33), (0, .ref 0), (1, .int i), (2, .int a)] [.int z73] S70
                      exact kw_ireturn (pc := 118) (i := 60) (ty := .int) rfl rfl rfl ⟨⟨I74, F76⟩, _, rfl, by omega, hF⟩
            exact L47 _ 0 (by omega) hF (Nat.lt_succ_self _)
          · replace hF := kf_p c45 hF
            refine kw_aload_n (pc := 68) (i := 35) (k := 1) (n := 0) rfl rfl rfl ?_
            refine kw_get (pc := 69) (i := 36) (v := .ref 8) rfl rfl rfl lkX7_55 (fun _ => rfl) ?_
            refine kw_iconst (pc := 72) (i := 37) (v := 5) rfl rfl ?_
            refine kw_callV (pc := 73) (i := 38) (Y := mX4_refuse) (a := 8) (As := [.int 5]) (st := []) kw_hE rfl rfl lvX7_81 arX4_refuse (c_X4_refuse_8 l σ hI 5 ) (by decide) (Nat.le_of_ble_eq_true rfl) rfl (fun v S78 p77 => ?_)
            obtain ⟨⟨I82, F83⟩, z81, rfl, f79, ef80⟩ := p77
            have F84 : kw_F [8, 28] σ S78 := kw_F.tr hF0 F83 (by decide)
            replace hF := kf_be ef80 hF
            have r_z81 := kw_rng z81
            show kw_AW l 4 kw_E0 KX mX7_pairsRefusal (p_X7_pairsRefusal_0 σ i a) 76 [(3, .int z33), (0, .ref 0), (1, .int i), (2, .int a)] [.int z81] S78
            exact kw_ireturn (pc := 76) (i := 39) (ty := .int) rfl rfl rfl ⟨⟨I82, F84⟩, _, rfl, by omega, hF⟩
      · replace hF := kf_n c25 hF
        refine kw_aload_n (pc := 38) (i := 18) (k := 0) (n := 0) rfl rfl rfl ?_
        refine kw_get (pc := 39) (i := 19) (v := .ref 8) rfl rfl rfl lkX7_55 (fun _ => rfl) ?_
        refine kw_iconst (pc := 42) (i := 20) (v := 1) rfl rfl ?_
        refine kw_callV (pc := 43) (i := 21) (Y := mX4_refuse) (a := 8) (As := [.int 1]) (st := []) kw_hE rfl rfl lvX7_81 arX4_refuse (c_X4_refuse_8 l σ hI 1 ) (by decide) (Nat.le_of_ble_eq_true rfl) rfl (fun v S86 p85 => ?_)
        obtain ⟨⟨I90, F91⟩, z89, rfl, f87, ef88⟩ := p85
        have F92 : kw_F [8, 28] σ S86 := kw_F.tr hF0 F91 (by decide)
        replace hF := kf_be ef88 hF
        have r_z89 := kw_rng z89
        show kw_AW l 4 kw_E0 KX mX7_pairsRefusal (p_X7_pairsRefusal_0 σ i a) 46 [(0, .ref 0), (1, .int i), (2, .int a)] [.int z89] S86
        exact kw_ireturn (pc := 46) (i := 22) (ty := .int) rfl rfl rfl ⟨⟨I90, F92⟩, _, rfl, by omega, hF⟩
    · replace hF := kf_p c17 hF
      refine kw_iconst (pc := 25) (i := 11) (v := (-1)) rfl rfl ?_
      exact kw_ireturn (pc := 26) (i := 12) (ty := .int) rfl rfl rfl ⟨⟨hI, hF0⟩, _, rfl, by omega, hF⟩
noncomputable def l_X7_pulledSo_0_3 (a1 : Int32) (a2 : Int32) (a3 : Int32) (S : kw_S) : Nat → Int32 → Int32
  | 0, _ => 0
  | n + 1, x4 => kf_l (x4 + (1 : Int32)) fun z1 => kf_l (f_X3_sizeOf_1 S a1) fun z2 => if z1.toInt < z2.toInt then (kf_l (f_X3_valueAt_1 S a1 x4) fun z3 => kf_l (f_X7_pull S a2 a3 z3) fun z4 => kf_l (x4 + (1 : Int32)) fun z5 => kf_l (f_X3_valueAt_1 S a1 z5) fun z6 => if z4.toInt = z6.toInt then (kf_l (x4 + Int32.ofInt 2) fun z7 => l_X7_pulledSo_0_3 a1 a2 a3 S n z7) else ((0 : Int32))) else ((1 : Int32))
theorem l_X7_pulledSo_0_3_s (a1 : Int32) (a2 : Int32) (a3 : Int32) (S : kw_S) (n : Nat) (x4 : Int32) : l_X7_pulledSo_0_3 a1 a2 a3 S (n + 1) x4 = kf_l (x4 + (1 : Int32)) fun z1 => kf_l (f_X3_sizeOf_1 S a1) fun z2 => if z1.toInt < z2.toInt then (kf_l (f_X3_valueAt_1 S a1 x4) fun z3 => kf_l (f_X7_pull S a2 a3 z3) fun z4 => kf_l (x4 + (1 : Int32)) fun z5 => kf_l (f_X3_valueAt_1 S a1 z5) fun z6 => if z4.toInt = z6.toInt then (kf_l (x4 + Int32.ofInt 2) fun z7 => l_X7_pulledSo_0_3 a1 a2 a3 S n z7) else ((0 : Int32))) else ((1 : Int32)) := rfl
noncomputable def f_X7_pulledSo_0 (σ : kw_S) (a : Int32) (kind : Int32) (area : Int32) : Int32 := l_X7_pulledSo_0_3 a kind area σ ((60 - (0 : Int32).toInt).toNat + 1) (0 : Int32)
theorem f_X7_pulledSo_0_u (σ : kw_S) (a : Int32) (kind : Int32) (area : Int32) : f_X7_pulledSo_0 σ a kind area = l_X7_pulledSo_0_3 a kind area σ ((60 - (0 : Int32).toInt).toNat + 1) (0 : Int32) := rfl
abbrev p_X7_pulledSo_0 (σ : kw_S) (a : Int32) (kind : Int32) (area : Int32) : Option Value → kw_S → Prop := fun vv σ' => σ' = σ ∧ ∃ r : Int32, vv = some (.int r) ∧ (r.toInt = 0 ∨ r.toInt = 1) ∧ r = f_X7_pulledSo_0 σ a kind area
set_option maxRecDepth 100000 in
set_option maxHeartbeats 4000000 in
theorem c_X7_pulledSo_0 (l : Launch) (σ : kw_S) (hI : kw_I bX σ) (a : Int32) (kind : Int32) (area : Int32) : kw_Met l 4 KX mX7_pulledSo [.ref 0, .int a, .int kind, .int area] σ (p_X7_pulledSo_0 σ a kind area) := by
  have r_a := kw_rng a
  have r_kind := kw_rng kind
  have r_area := kw_rng area
  have hF := (f_X7_pulledSo_0_u σ a kind area).symm
  have q_0 : (0 : Int32).toInt = 0 := rfl
  have q_1 : (1 : Int32).toInt = 1 := rfl
  refine kw_Met.of (by decide) rfl tX7_pulledSo (Nat.le_of_ble_eq_true rfl) ?_
  show kw_AW l 4 kw_E0 KX mX7_pulledSo (p_X7_pulledSo_0 σ a kind area) 0 [(0, .ref 0), (1, .int a), (2, .int kind), (3, .int area)] [] σ
  refine kw_iconst (pc := 0) (i := 0) (v := 0) rfl rfl ?_
  refine kw_istore (pc := 1) (i := 1) (n := 4) (lv' := [(4, .int 0), (0, .ref 0), (1, .int a), (2, .int kind), (3, .int area)]) rfl (by decide) rfl ?_
  have L2 : ∀ (n7 : Nat) (x1 : Int32), 0 ≤ x1.toInt → x1.toInt ≤ 50 → l_X7_pulledSo_0_3 a kind area σ n7 x1 = (f_X7_pulledSo_0 σ a kind area) → (60 - x1.toInt).toNat < n7 → kw_AW l 4 kw_E0 KX mX7_pulledSo (p_X7_pulledSo_0 σ a kind area) 3 [(4, .int x1), (0, .ref 0), (1, .int a), (2, .int kind), (3, .int area)] [] σ := by
    intro n7
    induction n7 with
    | zero => intro x1 v4 v5 hF m6; exact absurd m6 (Nat.not_lt_zero _)
    | succ n7 ih3 =>
      intro x1 v4 v5 hF m6
      replace hF := kf_st (l_X7_pulledSo_0_3_s _ _ _ _ _ _) hF
      have r_x1 := kw_rng x1
      refine kw_iload (pc := 3) (i := 2) (k := 0) (n := 4) rfl rfl ?_
      refine kw_iconst (pc := 5) (i := 3) (v := 1) rfl rfl ?_
      refine kw_iadd (pc := 6) (i := 4) rfl (fun z8 e_z8 t_z8 => ?_)
      replace hF := kf_le e_z8 hF
      refine kw_aload_n (pc := 7) (i := 5) (k := 1) (n := 0) rfl rfl rfl ?_
      refine kw_get (pc := 8) (i := 6) (v := .ref 1) rfl rfl rfl lkX7_14 (fun _ => rfl) ?_
      refine kw_iload_n (pc := 11) (i := 7) (k := 2) (n := 1) rfl rfl rfl ?_
      refine kw_callV (pc := 12) (i := 8) (Y := mX3_sizeOf) (a := 1) (As := [.int a]) (st := [.int z8]) kw_hE rfl rfl lvX7_110 arX3_sizeOf (c_X3_sizeOf_1 l σ hI a ) (by decide) (Nat.le_of_ble_eq_true rfl) rfl (fun v S10 p9 => ?_)
      obtain ⟨e17, z16, rfl, f11, f12, f13, f14, ef15⟩ := p9
      rw [e17]
      replace hF := kf_le ef15 hF
      have r_z16 := kw_rng z16
      show kw_AW l 4 kw_E0 KX mX7_pulledSo (p_X7_pulledSo_0 σ a kind area) 15 [(4, .int x1), (0, .ref 0), (1, .int a), (2, .int kind), (3, .int area)] [.int z16, .int z8] σ
      refine kw_icmp_ge (pc := 15) (i := 9) (tgt := 56) rfl rfl (fun c18 => ?_) (fun c18 => ?_)
      · replace hF := kf_nl c18 hF
        refine kw_iconst (pc := 56) (i := 30) (v := 1) rfl rfl ?_
        exact kw_ireturn (pc := 57) (i := 31) (ty := .boolean) rfl rfl rfl ⟨rfl, _, rfl, by omega, hF⟩
      · replace hF := kf_p c18 hF
        refine kw_iload_n (pc := 18) (i := 10) (k := 3) (n := 2) rfl rfl rfl ?_
        refine kw_iload_n (pc := 19) (i := 11) (k := 4) (n := 3) rfl rfl rfl ?_
        refine kw_aload_n (pc := 20) (i := 12) (k := 1) (n := 0) rfl rfl rfl ?_
        refine kw_get (pc := 21) (i := 13) (v := .ref 1) rfl rfl rfl lkX7_14 (fun _ => rfl) ?_
        refine kw_iload_n (pc := 24) (i := 14) (k := 2) (n := 1) rfl rfl rfl ?_
        refine kw_iload (pc := 25) (i := 15) (k := 0) (n := 4) rfl rfl ?_
        refine kw_callV (pc := 27) (i := 16) (Y := mX3_valueAt) (a := 1) (As := [.int a, .int x1]) (st := [.int area, .int kind]) kw_hE rfl rfl lvX7_85 arX3_valueAt (c_X3_valueAt_1 l σ hI a x1 ) (by decide) (Nat.le_of_ble_eq_true rfl) rfl (fun v S20 p19 => ?_)
        obtain ⟨e23, z22, rfl, ef21⟩ := p19
        rw [e23]
        replace hF := kf_le ef21 hF
        have r_z22 := kw_rng z22
        show kw_AW l 4 kw_E0 KX mX7_pulledSo (p_X7_pulledSo_0 σ a kind area) 30 [(4, .int x1), (0, .ref 0), (1, .int a), (2, .int kind), (3, .int area)] [.int z22, .int area, .int kind] σ
        refine kw_callS (pc := 30) (i := 17) (Y := mX7_pull) (As := [.int kind, .int area, .int z22]) (st := []) kw_hE rfl lsX7_174 arX7_pull (c_X7_pull l σ hI kind area z22 ) (by decide) (Nat.le_of_ble_eq_true rfl) rfl (fun v S25 p24 => ?_)
        obtain ⟨e28, z27, rfl, ef26⟩ := p24
        rw [e28]
        replace hF := kf_le ef26 hF
        have r_z27 := kw_rng z27
        show kw_AW l 4 kw_E0 KX mX7_pulledSo (p_X7_pulledSo_0 σ a kind area) 33 [(4, .int x1), (0, .ref 0), (1, .int a), (2, .int kind), (3, .int area)] [.int z27] σ
        refine kw_aload_n (pc := 33) (i := 18) (k := 1) (n := 0) rfl rfl rfl ?_
        refine kw_get (pc := 34) (i := 19) (v := .ref 1) rfl rfl rfl lkX7_14 (fun _ => rfl) ?_
        refine kw_iload_n (pc := 37) (i := 20) (k := 2) (n := 1) rfl rfl rfl ?_
        refine kw_iload (pc := 38) (i := 21) (k := 0) (n := 4) rfl rfl ?_
        refine kw_iconst (pc := 40) (i := 22) (v := 1) rfl rfl ?_
        refine kw_iadd (pc := 41) (i := 23) rfl (fun z29 e_z29 t_z29 => ?_)
        replace hF := kf_le e_z29 hF
        refine kw_callV (pc := 42) (i := 24) (Y := mX3_valueAt) (a := 1) (As := [.int a, .int z29]) (st := [.int z27]) kw_hE rfl rfl lvX7_85 arX3_valueAt (c_X3_valueAt_1 l σ hI a z29 ) (by decide) (Nat.le_of_ble_eq_true rfl) rfl (fun v S31 p30 => ?_)
        obtain ⟨e34, z33, rfl, ef32⟩ := p30
        rw [e34]
        replace hF := kf_le ef32 hF
        have r_z33 := kw_rng z33
        show kw_AW l 4 kw_E0 KX mX7_pulledSo (p_X7_pulledSo_0 σ a kind area) 45 [(4, .int x1), (0, .ref 0), (1, .int a), (2, .int kind), (3, .int area)] [.int z33, .int z27] σ
        refine kw_icmp_eq (pc := 45) (i := 25) (tgt := 50) rfl rfl (fun c35 => ?_) (fun c35 => ?_)
        · replace hF := kf_p c35 hF
          refine kw_iinc' (pc := 50) (i := 28) (k := 0) (fun z => [(4, .int z), (0, .ref 0), (1, .int a), (2, .int kind), (3, .int area)]) rfl rfl (by decide) rfl (fun _ => rfl) (fun z36 e_z36 t_z36 => ?_)
          replace hF := kf_le e_z36 hF
          refine kw_goto (pc := 53) (i := 29) (tgt := 3) rfl rfl ?_
          refine kw_sub (lv' := [(4, .int z36), (0, .ref 0), (1, .int a), (2, .int kind), (3, .int area)]) [0, 1, 2, 3, 4] rfl ?_
          exact ih3 z36 (by omega) (by omega) hF (by omega)
        · replace hF := kf_n c35 hF
          refine kw_iconst (pc := 48) (i := 26) (v := 0) rfl rfl ?_
          exact kw_ireturn (pc := 49) (i := 27) (ty := .boolean) rfl rfl rfl ⟨rfl, _, rfl, by omega, hF⟩
  exact L2 _ 0 (by omega) (by omega) hF (Nat.lt_succ_self _)
noncomputable def l_X7_mostMilesBehind_0_11 (a1 : Int32) (a2 : Int32) (S : kw_S) : Nat → Int32 → Int32 → Int32
  | 0, _, _ => 0
  | n + 1, x3, x4 => if x4.toInt < a1.toInt then (kf_l (f_X5_windAhead_4 S x4) fun z1 => kf_l (f_X1_mostMilesOf_17 S a2 z1) fun z2 => kf_l (x3 + z2) fun z3 => kf_l (x4 + Int32.ofInt 1) fun z4 => l_X7_mostMilesBehind_0_11 a1 a2 S n z3 z4) else (x3)
theorem l_X7_mostMilesBehind_0_11_s (a1 : Int32) (a2 : Int32) (S : kw_S) (n : Nat) (x3 : Int32) (x4 : Int32) : l_X7_mostMilesBehind_0_11 a1 a2 S (n + 1) x3 x4 = if x4.toInt < a1.toInt then (kf_l (f_X5_windAhead_4 S x4) fun z1 => kf_l (f_X1_mostMilesOf_17 S a2 z1) fun z2 => kf_l (x3 + z2) fun z3 => kf_l (x4 + Int32.ofInt 1) fun z4 => l_X7_mostMilesBehind_0_11 a1 a2 S n z3 z4) else (x3) := rfl
noncomputable def f_X7_mostMilesBehind_0 (σ : kw_S) (h : Int32) (u : Int32) : Int32 := l_X7_mostMilesBehind_0_11 h u σ ((h.toInt - (0 : Int32).toInt).toNat + 1) (σ.1 4 6) (0 : Int32)
theorem f_X7_mostMilesBehind_0_u (σ : kw_S) (h : Int32) (u : Int32) : f_X7_mostMilesBehind_0 σ h u = l_X7_mostMilesBehind_0_11 h u σ ((h.toInt - (0 : Int32).toInt).toNat + 1) (σ.1 4 6) (0 : Int32) := rfl
abbrev p_X7_mostMilesBehind_0 (σ : kw_S) (h : Int32) (u : Int32) : Option Value → kw_S → Prop := fun vv σ' => σ' = σ ∧ ∃ r : Int32, vv = some (.int r) ∧ r = f_X7_mostMilesBehind_0 σ h u
set_option maxRecDepth 100000 in
set_option maxHeartbeats 4000000 in
theorem c_X7_mostMilesBehind_0 (l : Launch) (σ : kw_S) (hI : kw_I bX σ) (h : Int32) (u : Int32) : kw_Met l 4 KX mX7_mostMilesBehind [.ref 0, .int h, .int u] σ (p_X7_mostMilesBehind_0 σ h u) := by
  have r_h := kw_rng h
  have r_u := kw_rng u
  have hF := (f_X7_mostMilesBehind_0_u σ h u).symm
  have q_0 : (0 : Int32).toInt = 0 := rfl
  refine kw_Met.of (by decide) rfl tX7_mostMilesBehind (Nat.le_of_ble_eq_true rfl) ?_
  show kw_AW l 4 kw_E0 KX mX7_mostMilesBehind (p_X7_mostMilesBehind_0 σ h u) 0 [(0, .ref 0), (1, .int h), (2, .int u)] [] σ
  refine kw_aload_n (pc := 0) (i := 0) (k := 0) (n := 0) rfl rfl rfl ?_
  refine kw_get (pc := 1) (i := 1) (v := .ref 4) rfl rfl rfl lkX7_31 (fun _ => rfl) ?_
  refine kw_get (pc := 4) (i := 2) (v := .int (σ.1 4 6)) rfl rfl rfl lkX7_204 (fun _ => rfl) ?_
  have b1 := kw_rng (σ.1 4 6)
  refine kw_istore_n (pc := 7) (i := 3) (n := 3) (lv' := [(3, .int (σ.1 4 6)), (0, .ref 0), (1, .int h), (2, .int u)]) rfl rfl (by decide) rfl ?_
  refine kw_iconst (pc := 8) (i := 4) (v := 0) rfl rfl ?_
  refine kw_istore (pc := 9) (i := 5) (n := 4) (lv' := [(4, .int 0), (3, .int (σ.1 4 6)), (0, .ref 0), (1, .int h), (2, .int u)]) rfl (by decide) rfl ?_
  have L4 : ∀ (n8 : Nat) (x2 : Int32) (x3 : Int32), 0 ≤ x2.toInt → l_X7_mostMilesBehind_0_11 h u σ n8 x3 x2 = (f_X7_mostMilesBehind_0 σ h u) → (h.toInt - x2.toInt).toNat < n8 → kw_AW l 4 kw_E0 KX mX7_mostMilesBehind (p_X7_mostMilesBehind_0 σ h u) 11 [(4, .int x2), (3, .int x3), (0, .ref 0), (1, .int h), (2, .int u)] [] σ := by
    intro n8
    induction n8 with
    | zero => intro x2 x3 v6 hF m7; exact absurd m7 (Nat.not_lt_zero _)
    | succ n8 ih5 =>
      intro x2 x3 v6 hF m7
      replace hF := kf_st (l_X7_mostMilesBehind_0_11_s _ _ _ _ _ _) hF
      have r_x2 := kw_rng x2
      have r_x3 := kw_rng x3
      refine kw_iload (pc := 11) (i := 6) (k := 0) (n := 4) rfl rfl ?_
      refine kw_iload_n (pc := 13) (i := 7) (k := 3) (n := 1) rfl rfl rfl ?_
      refine kw_icmp_ge (pc := 14) (i := 8) (tgt := 46) rfl rfl (fun c9 => ?_) (fun c9 => ?_)
      · replace hF := kf_nl c9 hF
        refine kw_iload_n (pc := 46) (i := 23) (k := 1) (n := 3) rfl rfl rfl ?_
        exact kw_ireturn (pc := 47) (i := 24) (ty := .int) rfl rfl rfl ⟨rfl, _, rfl, hF⟩
      · replace hF := kf_p c9 hF
        refine kw_iload_n (pc := 17) (i := 9) (k := 1) (n := 3) rfl rfl rfl ?_
        refine kw_aload_n (pc := 18) (i := 10) (k := 2) (n := 0) rfl rfl rfl ?_
        refine kw_get (pc := 19) (i := 11) (v := .ref 4) rfl rfl rfl lkX7_31 (fun _ => rfl) ?_
        refine kw_get (pc := 22) (i := 12) (v := .ref 17) rfl rfl rfl lkX7_117 (fun _ => rfl) ?_
        refine kw_iload_n (pc := 25) (i := 13) (k := 4) (n := 2) rfl rfl rfl ?_
        refine kw_aload_n (pc := 26) (i := 14) (k := 2) (n := 0) rfl rfl rfl ?_
        refine kw_get (pc := 27) (i := 15) (v := .ref 4) rfl rfl rfl lkX7_31 (fun _ => rfl) ?_
        refine kw_iload (pc := 30) (i := 16) (k := 0) (n := 4) rfl rfl ?_
        refine kw_callV (pc := 32) (i := 17) (Y := mX5_windAhead) (a := 4) (As := [.int x2]) (st := [.int u, .ref 17, .int x3]) kw_hE rfl rfl lvX7_253 arX5_windAhead (c_X5_windAhead_4 l σ hI x2 ) (by decide) (Nat.le_of_ble_eq_true rfl) rfl (fun v S11 p10 => ?_)
        obtain ⟨e14, z13, rfl, ef12⟩ := p10
        rw [e14]
        replace hF := kf_le ef12 hF
        have r_z13 := kw_rng z13
        show kw_AW l 4 kw_E0 KX mX7_mostMilesBehind (p_X7_mostMilesBehind_0 σ h u) 35 [(4, .int x2), (3, .int x3), (0, .ref 0), (1, .int h), (2, .int u)] [.int z13, .int u, .ref 17, .int x3] σ
        refine kw_callV (pc := 35) (i := 18) (Y := mX1_mostMilesOf) (a := 17) (As := [.int u, .int z13]) (st := [.int x3]) kw_hE rfl rfl lvX7_276 arX1_mostMilesOf (c_X1_mostMilesOf_17 l σ hI u z13 ) (by decide) (Nat.le_of_ble_eq_true rfl) rfl (fun v S16 p15 => ?_)
        obtain ⟨e19, z18, rfl, ef17⟩ := p15
        rw [e19]
        replace hF := kf_le ef17 hF
        have r_z18 := kw_rng z18
        show kw_AW l 4 kw_E0 KX mX7_mostMilesBehind (p_X7_mostMilesBehind_0 σ h u) 38 [(4, .int x2), (3, .int x3), (0, .ref 0), (1, .int h), (2, .int u)] [.int z18, .int x3] σ
        refine kw_iadd (pc := 38) (i := 19) rfl (fun z20 e_z20 t_z20 => ?_)
        replace hF := kf_le e_z20 hF
        refine kw_istore_n (pc := 39) (i := 20) (n := 3) (lv' := [(3, .int z20), (4, .int x2), (0, .ref 0), (1, .int h), (2, .int u)]) rfl rfl (by decide) rfl ?_
        refine kw_iinc' (pc := 40) (i := 21) (k := 1) (fun z => [(4, .int z), (3, .int z20), (0, .ref 0), (1, .int h), (2, .int u)]) rfl rfl (by decide) rfl (fun _ => rfl) (fun z21 e_z21 t_z21 => ?_)
        replace hF := kf_le e_z21 hF
        refine kw_goto (pc := 43) (i := 22) (tgt := 11) rfl rfl ?_
        refine kw_sub (lv' := [(4, .int z21), (3, .int z20), (0, .ref 0), (1, .int h), (2, .int u)]) [0, 1, 2, 3, 4] rfl ?_
        exact ih5 z21 z20 (by omega) hF (by omega)
  exact L4 _ 0 (σ.1 4 6) (by omega) hF (Nat.lt_succ_self _)
noncomputable def l_X7_foresee_0_2 (a1 : Int32) : Nat → Int32 → kw_S → kw_S
  | 0, _, S => S
  | n + 1, x2, S => kf_l (f_X3_sizeOf_1 S a1) fun z1 => if x2.toInt < z1.toInt then (if x2.toInt < (6 : Int32).toInt then (kf_l (f_X3_valueAt_1 S a1 x2) fun z2 => kf_l (f_X5_windAhead_4 S x2) fun z3 => kf_l (f_X1_milesOf_17 S z2 z3) fun z4 => kf_l (f_X5_windAhead_4 (kw_ui S 10 x2.toNatClampNeg z4) x2) fun z5 => kf_l (z5 + (1 : Int32)) fun z6 => kf_l (f_X1_milesOf_17 (kw_ui S 10 x2.toNatClampNeg z4) z2 z6) fun z7 => kf_l (x2 + Int32.ofInt 1) fun z8 => l_X7_foresee_0_2 a1 n z8 (kw_ui (kw_ui S 10 x2.toNatClampNeg z4) 11 x2.toNatClampNeg z7)) else (S)) else (S)
theorem l_X7_foresee_0_2_s (a1 : Int32) (n : Nat) (x2 : Int32) (S : kw_S) : l_X7_foresee_0_2 a1 (n + 1) x2 S = kf_l (f_X3_sizeOf_1 S a1) fun z1 => if x2.toInt < z1.toInt then (if x2.toInt < (6 : Int32).toInt then (kf_l (f_X3_valueAt_1 S a1 x2) fun z2 => kf_l (f_X5_windAhead_4 S x2) fun z3 => kf_l (f_X1_milesOf_17 S z2 z3) fun z4 => kf_l (f_X5_windAhead_4 (kw_ui S 10 x2.toNatClampNeg z4) x2) fun z5 => kf_l (z5 + (1 : Int32)) fun z6 => kf_l (f_X1_milesOf_17 (kw_ui S 10 x2.toNatClampNeg z4) z2 z6) fun z7 => kf_l (x2 + Int32.ofInt 1) fun z8 => l_X7_foresee_0_2 a1 n z8 (kw_ui (kw_ui S 10 x2.toNatClampNeg z4) 11 x2.toNatClampNeg z7)) else (S)) else (S) := rfl
noncomputable def f_X7_foresee_0 (σ : kw_S) (a : Int32) : kw_S := l_X7_foresee_0_2 a ((7 - (0 : Int32).toInt).toNat + 1) (0 : Int32) σ
theorem f_X7_foresee_0_u (σ : kw_S) (a : Int32) : f_X7_foresee_0 σ a = l_X7_foresee_0_2 a ((7 - (0 : Int32).toInt).toNat + 1) (0 : Int32) σ := rfl
abbrev p_X7_foresee_0 (σ : kw_S) (a : Int32) : Option Value → kw_S → Prop := fun vv σ' => (kw_I bX σ' ∧ kw_F [10, 11] σ σ') ∧ vv = none ∧ σ' = f_X7_foresee_0 σ a
set_option maxRecDepth 100000 in
set_option maxHeartbeats 4000000 in
theorem c_X7_foresee_0 (l : Launch) (σ : kw_S) (hI : kw_I bX σ) (a : Int32) : kw_Met l 4 KX mX7_foresee [.ref 0, .int a] σ (p_X7_foresee_0 σ a) := by
  have r_a := kw_rng a
  have hF0 : kw_F [10, 11] σ σ := kw_F.rf
  have hF := (f_X7_foresee_0_u σ a).symm
  have q_0 : (0 : Int32).toInt = 0 := rfl
  have q_1 : (1 : Int32).toInt = 1 := rfl
  have q_6 : (6 : Int32).toInt = 6 := rfl
  refine kw_Met.of (by decide) rfl tX7_foresee (Nat.le_of_ble_eq_true rfl) ?_
  show kw_AW l 4 kw_E0 KX mX7_foresee (p_X7_foresee_0 σ a) 0 [(0, .ref 0), (1, .int a)] [] σ
  refine kw_iconst (pc := 0) (i := 0) (v := 0) rfl rfl ?_
  refine kw_istore_n (pc := 1) (i := 1) (n := 2) (lv' := [(2, .int 0), (0, .ref 0), (1, .int a)]) rfl rfl (by decide) rfl ?_
  have L5 : ∀ (n9 : Nat) (x1 : Int32) (S2 : kw_S), kw_I bX S2 → kw_F [10, 11] σ S2 → 0 ≤ x1.toInt → l_X7_foresee_0_2 a n9 x1 S2 = (f_X7_foresee_0 σ a) → (7 - x1.toInt).toNat < n9 → kw_AW l 4 kw_E0 KX mX7_foresee (p_X7_foresee_0 σ a) 2 [(2, .int x1), (0, .ref 0), (1, .int a)] [] S2 := by
    intro n9
    induction n9 with
    | zero => intro x1 S2 I3 F4 v7 hF m8; exact absurd m8 (Nat.not_lt_zero _)
    | succ n9 ih6 =>
      intro x1 S2 I3 F4 v7 hF m8
      replace hF := kf_st (l_X7_foresee_0_2_s _ _ _ _) hF
      have r_x1 := kw_rng x1
      refine kw_iload_n (pc := 2) (i := 2) (k := 0) (n := 2) rfl rfl rfl ?_
      refine kw_aload_n (pc := 3) (i := 3) (k := 1) (n := 0) rfl rfl rfl ?_
      refine kw_get (pc := 4) (i := 4) (v := .ref 1) rfl rfl rfl lkX7_14 (fun _ => rfl) ?_
      refine kw_iload_n (pc := 7) (i := 5) (k := 2) (n := 1) rfl rfl rfl ?_
      refine kw_callV (pc := 8) (i := 6) (Y := mX3_sizeOf) (a := 1) (As := [.int a]) (st := [.int x1]) kw_hE rfl rfl lvX7_110 arX3_sizeOf (c_X3_sizeOf_1 l S2 I3 a ) (by decide) (Nat.le_of_ble_eq_true rfl) rfl (fun v S11 p10 => ?_)
      obtain ⟨e18, z17, rfl, f12, f13, f14, f15, ef16⟩ := p10
      rw [e18]
      replace hF := kf_le ef16 hF
      have r_z17 := kw_rng z17
      show kw_AW l 4 kw_E0 KX mX7_foresee (p_X7_foresee_0 σ a) 11 [(2, .int x1), (0, .ref 0), (1, .int a)] [.int z17, .int x1] S2
      refine kw_icmp_ge (pc := 11) (i := 7) (tgt := 88) rfl rfl (fun c19 => ?_) (fun c19 => ?_)
      · replace hF := kf_nl c19 hF
        exact kw_return (pc := 88) (i := 47) rfl rfl ⟨⟨I3, F4⟩, rfl, hF⟩
      · replace hF := kf_p c19 hF
        refine kw_iload_n (pc := 14) (i := 8) (k := 0) (n := 2) rfl rfl rfl ?_
        refine kw_bipush (pc := 15) (i := 9) (v := 6) rfl rfl ?_
        refine kw_icmp_ge (pc := 17) (i := 10) (tgt := 88) rfl rfl (fun c20 => ?_) (fun c20 => ?_)
        · replace hF := kf_nl c20 hF
          exact kw_return (pc := 88) (i := 47) rfl rfl ⟨⟨I3, F4⟩, rfl, hF⟩
        · replace hF := kf_p c20 hF
          refine kw_aload_n (pc := 20) (i := 11) (k := 1) (n := 0) rfl rfl rfl ?_
          refine kw_get (pc := 21) (i := 12) (v := .ref 1) rfl rfl rfl lkX7_14 (fun _ => rfl) ?_
          refine kw_iload_n (pc := 24) (i := 13) (k := 2) (n := 1) rfl rfl rfl ?_
          refine kw_iload_n (pc := 25) (i := 14) (k := 0) (n := 2) rfl rfl rfl ?_
          refine kw_callV (pc := 26) (i := 15) (Y := mX3_valueAt) (a := 1) (As := [.int a, .int x1]) (st := []) kw_hE rfl rfl lvX7_85 arX3_valueAt (c_X3_valueAt_1 l S2 I3 a x1 ) (by decide) (Nat.le_of_ble_eq_true rfl) rfl (fun v S22 p21 => ?_)
          obtain ⟨e25, z24, rfl, ef23⟩ := p21
          rw [e25]
          replace hF := kf_le ef23 hF
          have r_z24 := kw_rng z24
          show kw_AW l 4 kw_E0 KX mX7_foresee (p_X7_foresee_0 σ a) 29 [(2, .int x1), (0, .ref 0), (1, .int a)] [.int z24] S2
          refine kw_istore_n (pc := 29) (i := 16) (n := 3) (lv' := [(3, .int z24), (2, .int x1), (0, .ref 0), (1, .int a)]) rfl rfl (by decide) rfl ?_
          refine kw_aload_n (pc := 30) (i := 17) (k := 2) (n := 0) rfl rfl rfl ?_
          refine kw_get (pc := 31) (i := 18) (v := .ref 10) rfl rfl rfl lkX7_63 (fun _ => rfl) ?_
          refine kw_iload_n (pc := 34) (i := 19) (k := 1) (n := 2) rfl rfl rfl ?_
          refine kw_aload_n (pc := 35) (i := 20) (k := 2) (n := 0) rfl rfl rfl ?_
          refine kw_get (pc := 36) (i := 21) (v := .ref 4) rfl rfl rfl lkX7_31 (fun _ => rfl) ?_
          refine kw_get (pc := 39) (i := 22) (v := .ref 17) rfl rfl rfl lkX7_117 (fun _ => rfl) ?_
          refine kw_iload_n (pc := 42) (i := 23) (k := 0) (n := 3) rfl rfl rfl ?_
          refine kw_aload_n (pc := 43) (i := 24) (k := 2) (n := 0) rfl rfl rfl ?_
          refine kw_get (pc := 44) (i := 25) (v := .ref 4) rfl rfl rfl lkX7_31 (fun _ => rfl) ?_
          refine kw_iload_n (pc := 47) (i := 26) (k := 1) (n := 2) rfl rfl rfl ?_
          refine kw_callV (pc := 48) (i := 27) (Y := mX5_windAhead) (a := 4) (As := [.int x1]) (st := [.int z24, .ref 17, .int x1, .ref 10]) kw_hE rfl rfl lvX7_253 arX5_windAhead (c_X5_windAhead_4 l S2 I3 x1 ) (by decide) (Nat.le_of_ble_eq_true rfl) rfl (fun v S27 p26 => ?_)
          obtain ⟨e30, z29, rfl, ef28⟩ := p26
          rw [e30]
          replace hF := kf_le ef28 hF
          have r_z29 := kw_rng z29
          show kw_AW l 4 kw_E0 KX mX7_foresee (p_X7_foresee_0 σ a) 51 [(3, .int z24), (2, .int x1), (0, .ref 0), (1, .int a)] [.int z29, .int z24, .ref 17, .int x1, .ref 10] S2
          refine kw_callV (pc := 51) (i := 28) (Y := mX1_milesOf) (a := 17) (As := [.int z24, .int z29]) (st := [.int x1, .ref 10]) kw_hE rfl rfl lvX7_222 arX1_milesOf (c_X1_milesOf_17 l S2 I3 z24 z29 ) (by decide) (Nat.le_of_ble_eq_true rfl) rfl (fun v S32 p31 => ?_)
          obtain ⟨e35, z34, rfl, ef33⟩ := p31
          rw [e35]
          replace hF := kf_le ef33 hF
          have r_z34 := kw_rng z34
          show kw_AW l 4 kw_E0 KX mX7_foresee (p_X7_foresee_0 σ a) 54 [(3, .int z24), (2, .int x1), (0, .ref 0), (1, .int a)] [.int z34, .int x1, .ref 10] S2
          refine kw_iast (pc := 54) (i := 29) (n := 6) rfl rfl (by omega) (by omega) ?_
          have I36 : kw_I bX (kw_ui S2 10 x1.toNatClampNeg z34) := kw_I_ui I3 (kw_rng z34).1 (Int.le_of_lt_add_one (kw_rng z34).2)
          have F37 : kw_F [10, 11] σ (kw_ui S2 10 x1.toNatClampNeg z34) := kw_F_ui F4 (by decide)
          refine kw_aload_n (pc := 55) (i := 30) (k := 2) (n := 0) rfl rfl rfl ?_
          refine kw_get (pc := 56) (i := 31) (v := .ref 11) rfl rfl rfl lkX7_66 (fun _ => rfl) ?_
          refine kw_iload_n (pc := 59) (i := 32) (k := 1) (n := 2) rfl rfl rfl ?_
          refine kw_aload_n (pc := 60) (i := 33) (k := 2) (n := 0) rfl rfl rfl ?_
          refine kw_get (pc := 61) (i := 34) (v := .ref 4) rfl rfl rfl lkX7_31 (fun _ => rfl) ?_
          refine kw_get (pc := 64) (i := 35) (v := .ref 17) rfl rfl rfl lkX7_117 (fun _ => rfl) ?_
          refine kw_iload_n (pc := 67) (i := 36) (k := 0) (n := 3) rfl rfl rfl ?_
          refine kw_aload_n (pc := 68) (i := 37) (k := 2) (n := 0) rfl rfl rfl ?_
          refine kw_get (pc := 69) (i := 38) (v := .ref 4) rfl rfl rfl lkX7_31 (fun _ => rfl) ?_
          refine kw_iload_n (pc := 72) (i := 39) (k := 1) (n := 2) rfl rfl rfl ?_
          refine kw_callV (pc := 73) (i := 40) (Y := mX5_windAhead) (a := 4) (As := [.int x1]) (st := [.int z24, .ref 17, .int x1, .ref 11]) kw_hE rfl rfl lvX7_253 arX5_windAhead (c_X5_windAhead_4 l (kw_ui S2 10 x1.toNatClampNeg z34) I36 x1 ) (by decide) (Nat.le_of_ble_eq_true rfl) rfl (fun v S39 p38 => ?_)
          obtain ⟨e42, z41, rfl, ef40⟩ := p38
          rw [e42]
          replace hF := kf_le ef40 hF
          have r_z41 := kw_rng z41
          show kw_AW l 4 kw_E0 KX mX7_foresee (p_X7_foresee_0 σ a) 76 [(3, .int z24), (2, .int x1), (0, .ref 0), (1, .int a)] [.int z41, .int z24, .ref 17, .int x1, .ref 11] (kw_ui S2 10 x1.toNatClampNeg z34)
          refine kw_iconst (pc := 76) (i := 41) (v := 1) rfl rfl ?_
          refine kw_iadd (pc := 77) (i := 42) rfl (fun z43 e_z43 t_z43 => ?_)
          replace hF := kf_le e_z43 hF
          refine kw_callV (pc := 78) (i := 43) (Y := mX1_milesOf) (a := 17) (As := [.int z24, .int z43]) (st := [.int x1, .ref 11]) kw_hE rfl rfl lvX7_222 arX1_milesOf (c_X1_milesOf_17 l (kw_ui S2 10 x1.toNatClampNeg z34) I36 z24 z43 ) (by decide) (Nat.le_of_ble_eq_true rfl) rfl (fun v S45 p44 => ?_)
          obtain ⟨e48, z47, rfl, ef46⟩ := p44
          rw [e48]
          replace hF := kf_le ef46 hF
          have r_z47 := kw_rng z47
          show kw_AW l 4 kw_E0 KX mX7_foresee (p_X7_foresee_0 σ a) 81 [(3, .int z24), (2, .int x1), (0, .ref 0), (1, .int a)] [.int z47, .int x1, .ref 11] (kw_ui S2 10 x1.toNatClampNeg z34)
          refine kw_iast (pc := 81) (i := 44) (n := 6) rfl rfl (by omega) (by omega) ?_
          have I49 : kw_I bX (kw_ui (kw_ui S2 10 x1.toNatClampNeg z34) 11 x1.toNatClampNeg z47) := kw_I_ui I36 (kw_rng z47).1 (Int.le_of_lt_add_one (kw_rng z47).2)
          have F50 : kw_F [10, 11] σ (kw_ui (kw_ui S2 10 x1.toNatClampNeg z34) 11 x1.toNatClampNeg z47) := kw_F_ui F37 (by decide)
          refine kw_iinc' (pc := 82) (i := 45) (k := 1) (fun z => [(2, .int z), (3, .int z24), (0, .ref 0), (1, .int a)]) rfl rfl (by decide) rfl (fun _ => rfl) (fun z51 e_z51 t_z51 => ?_)
          replace hF := kf_le e_z51 hF
          refine kw_goto (pc := 85) (i := 46) (tgt := 2) rfl rfl ?_
          refine kw_sub (lv' := [(2, .int z51), (0, .ref 0), (1, .int a)]) [0, 2, 3] rfl ?_
          exact ih6 z51 (kw_ui (kw_ui S2 10 x1.toNatClampNeg z34) 11 x1.toNatClampNeg z47) I49 F50 (by omega) hF (by omega)
  exact L5 _ 0 σ hI hF0 (by omega) hF (Nat.lt_succ_self _)
noncomputable def l_X7_milesByGusts_0_11 (a1 : Int32) (a2 : Int32) (S : kw_S) : Nat → Int32 → Int32 → Int32
  | 0, _, _ => 0
  | n + 1, x3, x4 => if x4.toInt < a1.toInt then (kf_l (a2 >>> (x4 &&& 31)) fun z1 => kf_l (z1 &&& (1 : Int32)) fun z2 => if z2.toInt = (1 : Int32).toInt then (kf_l (S.1 11 x4.toNatClampNeg) fun z6 => kf_l (x3 + z6) fun z7 => kf_l (x4 + Int32.ofInt 1) fun z8 => l_X7_milesByGusts_0_11 a1 a2 S n z7 z8) else (kf_l (S.1 10 x4.toNatClampNeg) fun z3 => kf_l (x3 + z3) fun z4 => kf_l (x4 + Int32.ofInt 1) fun z5 => l_X7_milesByGusts_0_11 a1 a2 S n z4 z5)) else (x3)
theorem l_X7_milesByGusts_0_11_s (a1 : Int32) (a2 : Int32) (S : kw_S) (n : Nat) (x3 : Int32) (x4 : Int32) : l_X7_milesByGusts_0_11 a1 a2 S (n + 1) x3 x4 = if x4.toInt < a1.toInt then (kf_l (a2 >>> (x4 &&& 31)) fun z1 => kf_l (z1 &&& (1 : Int32)) fun z2 => if z2.toInt = (1 : Int32).toInt then (kf_l (S.1 11 x4.toNatClampNeg) fun z6 => kf_l (x3 + z6) fun z7 => kf_l (x4 + Int32.ofInt 1) fun z8 => l_X7_milesByGusts_0_11 a1 a2 S n z7 z8) else (kf_l (S.1 10 x4.toNatClampNeg) fun z3 => kf_l (x3 + z3) fun z4 => kf_l (x4 + Int32.ofInt 1) fun z5 => l_X7_milesByGusts_0_11 a1 a2 S n z4 z5)) else (x3) := rfl
noncomputable def f_X7_milesByGusts_0 (σ : kw_S) (h : Int32) (u : Int32) : Int32 := l_X7_milesByGusts_0_11 h u σ ((h.toInt - (0 : Int32).toInt).toNat + 1) (σ.1 4 6) (0 : Int32)
theorem f_X7_milesByGusts_0_u (σ : kw_S) (h : Int32) (u : Int32) : f_X7_milesByGusts_0 σ h u = l_X7_milesByGusts_0_11 h u σ ((h.toInt - (0 : Int32).toInt).toNat + 1) (σ.1 4 6) (0 : Int32) := rfl
abbrev p_X7_milesByGusts_0 (σ : kw_S) (h : Int32) (u : Int32) : Option Value → kw_S → Prop := fun vv σ' => σ' = σ ∧ ∃ r : Int32, vv = some (.int r) ∧ r = f_X7_milesByGusts_0 σ h u
set_option maxRecDepth 100000 in
set_option maxHeartbeats 4000000 in
theorem c_X7_milesByGusts_0 (l : Launch) (σ : kw_S) (hI : kw_I bX σ) (h : Int32) (u : Int32) (hp0 : h.toInt ≤ 6) : kw_Met l 1 KX mX7_milesByGusts [.ref 0, .int h, .int u] σ (p_X7_milesByGusts_0 σ h u) := by
  have r_h := kw_rng h
  have r_u := kw_rng u
  have hF := (f_X7_milesByGusts_0_u σ h u).symm
  have q_0 : (0 : Int32).toInt = 0 := rfl
  have q_1 : (1 : Int32).toInt = 1 := rfl
  refine kw_Met.of (by decide) rfl tX7_milesByGusts (Nat.le_of_ble_eq_true rfl) ?_
  show kw_AW l 1 kw_E0 KX mX7_milesByGusts (p_X7_milesByGusts_0 σ h u) 0 [(0, .ref 0), (1, .int h), (2, .int u)] [] σ
  refine kw_aload_n (pc := 0) (i := 0) (k := 0) (n := 0) rfl rfl rfl ?_
  refine kw_get (pc := 1) (i := 1) (v := .ref 4) rfl rfl rfl lkX7_31 (fun _ => rfl) ?_
  refine kw_get (pc := 4) (i := 2) (v := .int (σ.1 4 6)) rfl rfl rfl lkX7_204 (fun _ => rfl) ?_
  have b1 := kw_rng (σ.1 4 6)
  refine kw_istore_n (pc := 7) (i := 3) (n := 3) (lv' := [(3, .int (σ.1 4 6)), (0, .ref 0), (1, .int h), (2, .int u)]) rfl rfl (by decide) rfl ?_
  refine kw_iconst (pc := 8) (i := 4) (v := 0) rfl rfl ?_
  refine kw_istore (pc := 9) (i := 5) (n := 4) (lv' := [(4, .int 0), (3, .int (σ.1 4 6)), (0, .ref 0), (1, .int h), (2, .int u)]) rfl (by decide) rfl ?_
  have L4 : ∀ (n8 : Nat) (x2 : Int32) (x3 : Int32), 0 ≤ x2.toInt → l_X7_milesByGusts_0_11 h u σ n8 x3 x2 = (f_X7_milesByGusts_0 σ h u) → (h.toInt - x2.toInt).toNat < n8 → kw_AW l 1 kw_E0 KX mX7_milesByGusts (p_X7_milesByGusts_0 σ h u) 11 [(4, .int x2), (3, .int x3), (0, .ref 0), (1, .int h), (2, .int u)] [] σ := by
    intro n8
    induction n8 with
    | zero => intro x2 x3 v6 hF m7; exact absurd m7 (Nat.not_lt_zero _)
    | succ n8 ih5 =>
      intro x2 x3 v6 hF m7
      replace hF := kf_st (l_X7_milesByGusts_0_11_s _ _ _ _ _ _) hF
      have r_x2 := kw_rng x2
      have r_x3 := kw_rng x3
      refine kw_iload (pc := 11) (i := 6) (k := 0) (n := 4) rfl rfl ?_
      refine kw_iload_n (pc := 13) (i := 7) (k := 3) (n := 1) rfl rfl rfl ?_
      refine kw_icmp_ge (pc := 14) (i := 8) (tgt := 53) rfl rfl (fun c9 => ?_) (fun c9 => ?_)
      · replace hF := kf_nl c9 hF
        refine kw_iload_n (pc := 53) (i := 30) (k := 1) (n := 3) rfl rfl rfl ?_
        exact kw_ireturn (pc := 54) (i := 31) (ty := .int) rfl rfl rfl ⟨rfl, _, rfl, hF⟩
      · replace hF := kf_p c9 hF
        refine kw_iload_n (pc := 17) (i := 9) (k := 1) (n := 3) rfl rfl rfl ?_
        refine kw_iload_n (pc := 18) (i := 10) (k := 4) (n := 2) rfl rfl rfl ?_
        refine kw_iload (pc := 19) (i := 11) (k := 0) (n := 4) rfl rfl ?_
        refine kw_ishr (pc := 21) (i := 12) rfl (fun z10 e_z10 => ?_)
        have r_z10 := kw_rng z10
        replace hF := kf_le e_z10 hF
        refine kw_iconst (pc := 22) (i := 13) (v := 1) rfl rfl ?_
        refine kw_iand (pc := 23) (i := 14) rfl (fun z11 e_z11 => ?_)
        have r_z11 := kw_rng z11
        replace hF := kf_le e_z11 hF
        refine kw_iconst (pc := 24) (i := 15) (v := 1) rfl rfl ?_
        refine kw_icmp_ne (pc := 25) (i := 16) (tgt := 38) rfl rfl (fun c12 => ?_) (fun c12 => ?_)
        · replace hF := kf_n c12 hF
          refine kw_aload_n (pc := 38) (i := 22) (k := 2) (n := 0) rfl rfl rfl ?_
          refine kw_get (pc := 39) (i := 23) (v := .ref 10) rfl rfl rfl lkX7_63 (fun _ => rfl) ?_
          refine kw_iload (pc := 42) (i := 24) (k := 0) (n := 4) rfl rfl ?_
          refine kw_iald (pc := 44) (i := 25) (n := 6) rfl rfl (by omega) (by omega) (fun z13 e_z13 => ?_)
          replace hF := kf_le e_z13 hF
          have t_z13 := congrArg Int32.toInt e_z13
          have r_z13 := kw_rng z13
          refine kw_iadd (pc := 45) (i := 26) rfl (fun z14 e_z14 t_z14 => ?_)
          replace hF := kf_le e_z14 hF
          refine kw_istore_n (pc := 46) (i := 27) (n := 3) (lv' := [(3, .int z14), (4, .int x2), (0, .ref 0), (1, .int h), (2, .int u)]) rfl rfl (by decide) rfl ?_
          refine kw_iinc' (pc := 47) (i := 28) (k := 1) (fun z => [(4, .int z), (3, .int z14), (0, .ref 0), (1, .int h), (2, .int u)]) rfl rfl (by decide) rfl (fun _ => rfl) (fun z15 e_z15 t_z15 => ?_)
          replace hF := kf_le e_z15 hF
          refine kw_goto (pc := 50) (i := 29) (tgt := 11) rfl rfl ?_
          refine kw_sub (lv' := [(4, .int z15), (3, .int z14), (0, .ref 0), (1, .int h), (2, .int u)]) [0, 1, 2, 3, 4] rfl ?_
          exact ih5 z15 z14 (by omega) hF (by omega)
        · replace hF := kf_p c12 hF
          refine kw_aload_n (pc := 28) (i := 17) (k := 2) (n := 0) rfl rfl rfl ?_
          refine kw_get (pc := 29) (i := 18) (v := .ref 11) rfl rfl rfl lkX7_66 (fun _ => rfl) ?_
          refine kw_iload (pc := 32) (i := 19) (k := 0) (n := 4) rfl rfl ?_
          refine kw_iald (pc := 34) (i := 20) (n := 6) rfl rfl (by omega) (by omega) (fun z16 e_z16 => ?_)
          replace hF := kf_le e_z16 hF
          have t_z16 := congrArg Int32.toInt e_z16
          have r_z16 := kw_rng z16
          refine kw_goto (pc := 35) (i := 21) (tgt := 45) rfl rfl ?_
          refine kw_iadd (pc := 45) (i := 26) rfl (fun z17 e_z17 t_z17 => ?_)
          replace hF := kf_le e_z17 hF
          refine kw_istore_n (pc := 46) (i := 27) (n := 3) (lv' := [(3, .int z17), (4, .int x2), (0, .ref 0), (1, .int h), (2, .int u)]) rfl rfl (by decide) rfl ?_
          refine kw_iinc' (pc := 47) (i := 28) (k := 1) (fun z => [(4, .int z), (3, .int z17), (0, .ref 0), (1, .int h), (2, .int u)]) rfl rfl (by decide) rfl (fun _ => rfl) (fun z18 e_z18 t_z18 => ?_)
          replace hF := kf_le e_z18 hF
          refine kw_goto (pc := 50) (i := 29) (tgt := 11) rfl rfl ?_
          refine kw_sub (lv' := [(4, .int z18), (3, .int z17), (0, .ref 0), (1, .int h), (2, .int u)]) [0, 1, 2, 3, 4] rfl ?_
          exact ih5 z18 z17 (by omega) hF (by omega)
  exact L4 _ 0 (σ.1 4 6) (by omega) hF (Nat.lt_succ_self _)
noncomputable def l_X7_drySet_0_19_4 (S : kw_S) : Nat → Int32 → Int32 → Int32
  | 0, _, _ => 0
  | n + 1, x2, x3 => if x3.toInt < (S.1 17 5).toInt then (kf_l (S.1 19 x3.toNatClampNeg) fun z1 => if z1.toInt = 0 then (kf_l ((1 : Int32) <<< (x3 &&& 31)) fun z3 => kf_l (x2 ||| z3) fun z4 => kf_l (x3 + Int32.ofInt 1) fun z5 => l_X7_drySet_0_19_4 S n z4 z5) else (kf_l (x3 + Int32.ofInt 1) fun z2 => l_X7_drySet_0_19_4 S n x2 z2)) else (x2)
theorem l_X7_drySet_0_19_4_s (S : kw_S) (n : Nat) (x2 : Int32) (x3 : Int32) : l_X7_drySet_0_19_4 S (n + 1) x2 x3 = if x3.toInt < (S.1 17 5).toInt then (kf_l (S.1 19 x3.toNatClampNeg) fun z1 => if z1.toInt = 0 then (kf_l ((1 : Int32) <<< (x3 &&& 31)) fun z3 => kf_l (x2 ||| z3) fun z4 => kf_l (x3 + Int32.ofInt 1) fun z5 => l_X7_drySet_0_19_4 S n z4 z5) else (kf_l (x3 + Int32.ofInt 1) fun z2 => l_X7_drySet_0_19_4 S n x2 z2)) else (x2) := rfl
noncomputable def f_X7_drySet_0_19 (σ : kw_S)  : Int32 := l_X7_drySet_0_19_4 σ ((7 - (0 : Int32).toInt).toNat + 1) (0 : Int32) (0 : Int32)
theorem f_X7_drySet_0_19_u (σ : kw_S)  : f_X7_drySet_0_19 σ  = l_X7_drySet_0_19_4 σ ((7 - (0 : Int32).toInt).toNat + 1) (0 : Int32) (0 : Int32) := rfl
abbrev p_X7_drySet_0_19 (σ : kw_S)  : Option Value → kw_S → Prop := fun vv σ' => σ' = σ ∧ ∃ r : Int32, vv = some (.int r) ∧ r = f_X7_drySet_0_19 σ
set_option maxRecDepth 100000 in
set_option maxHeartbeats 4000000 in
theorem c_X7_drySet_0_19 (l : Launch) (σ : kw_S) (hI : kw_I bX σ)  : kw_Met l 1 KX mX7_drySet [.ref 0, .ref 19] σ (p_X7_drySet_0_19 σ) := by
  have hF := (f_X7_drySet_0_19_u σ).symm
  have q_0 : (0 : Int32).toInt = 0 := rfl
  have q_1 : (1 : Int32).toInt = 1 := rfl
  refine kw_Met.of (by decide) rfl tX7_drySet (Nat.le_of_ble_eq_true rfl) ?_
  show kw_AW l 1 kw_E0 KX mX7_drySet (p_X7_drySet_0_19 σ) 0 [(0, .ref 0), (1, .ref 19)] [] σ
  refine kw_iconst (pc := 0) (i := 0) (v := 0) rfl rfl ?_
  refine kw_istore_n (pc := 1) (i := 1) (n := 2) (lv' := [(2, .int 0), (0, .ref 0), (1, .ref 19)]) rfl rfl (by decide) rfl ?_
  refine kw_iconst (pc := 2) (i := 2) (v := 0) rfl rfl ?_
  refine kw_istore_n (pc := 3) (i := 3) (n := 3) (lv' := [(3, .int 0), (2, .int 0), (0, .ref 0), (1, .ref 19)]) rfl rfl (by decide) rfl ?_
  have L3 : ∀ (n7 : Nat) (x1 : Int32) (x2 : Int32), 0 ≤ x1.toInt → l_X7_drySet_0_19_4 σ n7 x2 x1 = (f_X7_drySet_0_19 σ) → (7 - x1.toInt).toNat < n7 → kw_AW l 1 kw_E0 KX mX7_drySet (p_X7_drySet_0_19 σ) 4 [(3, .int x1), (2, .int x2), (0, .ref 0), (1, .ref 19)] [] σ := by
    intro n7
    induction n7 with
    | zero => intro x1 x2 v5 hF m6; exact absurd m6 (Nat.not_lt_zero _)
    | succ n7 ih4 =>
      intro x1 x2 v5 hF m6
      replace hF := kf_st (l_X7_drySet_0_19_4_s _ _ _ _) hF
      have r_x1 := kw_rng x1
      have r_x2 := kw_rng x2
      refine kw_iload_n (pc := 4) (i := 4) (k := 0) (n := 3) rfl rfl rfl ?_
      refine kw_aload_n (pc := 5) (i := 5) (k := 2) (n := 0) rfl rfl rfl ?_
      refine kw_get (pc := 6) (i := 6) (v := .ref 4) rfl rfl rfl lkX7_31 (fun _ => rfl) ?_
      refine kw_get (pc := 9) (i := 7) (v := .ref 17) rfl rfl rfl lkX7_117 (fun _ => rfl) ?_
      refine kw_get (pc := 12) (i := 8) (v := .int (σ.1 17 5)) rfl rfl rfl lkX7_133 (fun _ => rfl) ?_
      have b8 : 0 ≤ (σ.1 17 5).toInt ∧ (σ.1 17 5).toInt ≤ 6 := hI 17 5
      refine kw_icmp_ge (pc := 15) (i := 9) (tgt := 36) rfl rfl (fun c9 => ?_) (fun c9 => ?_)
      · replace hF := kf_nl c9 hF
        refine kw_iload_n (pc := 36) (i := 22) (k := 1) (n := 2) rfl rfl rfl ?_
        exact kw_ireturn (pc := 37) (i := 23) (ty := .int) rfl rfl rfl ⟨rfl, _, rfl, hF⟩
      · replace hF := kf_p c9 hF
        refine kw_aload_n (pc := 18) (i := 10) (k := 3) (n := 1) rfl rfl rfl ?_
        refine kw_iload_n (pc := 19) (i := 11) (k := 0) (n := 3) rfl rfl rfl ?_
        refine kw_iald (pc := 20) (i := 12) (n := 6) rfl rfl (by omega) (by omega) (fun z10 e_z10 => ?_)
        replace hF := kf_le e_z10 hF
        have t_z10 := congrArg Int32.toInt e_z10
        have r_z10 := kw_rng z10
        refine kw_if_ne (pc := 21) (i := 13) (tgt := 30) rfl rfl (fun c11 => ?_) (fun c11 => ?_)
        · replace hF := kf_n c11 hF
          refine kw_iinc' (pc := 30) (i := 20) (k := 0) (fun z => [(3, .int z), (2, .int x2), (0, .ref 0), (1, .ref 19)]) rfl rfl (by decide) rfl (fun _ => rfl) (fun z12 e_z12 t_z12 => ?_)
          replace hF := kf_le e_z12 hF
          refine kw_goto (pc := 33) (i := 21) (tgt := 4) rfl rfl ?_
          refine kw_sub (lv' := [(3, .int z12), (2, .int x2), (0, .ref 0), (1, .ref 19)]) [0, 1, 2, 3] rfl ?_
          exact ih4 z12 x2 (by omega) hF (by omega)
        · replace hF := kf_p c11 hF
          refine kw_iload_n (pc := 24) (i := 14) (k := 1) (n := 2) rfl rfl rfl ?_
          refine kw_iconst (pc := 25) (i := 15) (v := 1) rfl rfl ?_
          refine kw_iload_n (pc := 26) (i := 16) (k := 0) (n := 3) rfl rfl rfl ?_
          refine kw_ishl (pc := 27) (i := 17) rfl (fun z13 e_z13 => ?_)
          have r_z13 := kw_rng z13
          replace hF := kf_le e_z13 hF
          refine kw_ior (pc := 28) (i := 18) rfl (fun z14 e_z14 => ?_)
          have r_z14 := kw_rng z14
          replace hF := kf_le e_z14 hF
          refine kw_istore_n (pc := 29) (i := 19) (n := 2) (lv' := [(2, .int z14), (3, .int x1), (0, .ref 0), (1, .ref 19)]) rfl rfl (by decide) rfl ?_
          refine kw_iinc' (pc := 30) (i := 20) (k := 1) (fun z => [(3, .int z), (2, .int z14), (0, .ref 0), (1, .ref 19)]) rfl rfl (by decide) rfl (fun _ => rfl) (fun z15 e_z15 t_z15 => ?_)
          replace hF := kf_le e_z15 hF
          refine kw_goto (pc := 33) (i := 21) (tgt := 4) rfl rfl ?_
          refine kw_sub (lv' := [(3, .int z15), (2, .int z14), (0, .ref 0), (1, .ref 19)]) [0, 1, 2, 3] rfl ?_
          exact ih4 z15 z14 (by omega) hF (by omega)
  exact L3 _ 0 0 (by omega) hF (Nat.lt_succ_self _)
noncomputable def l_X7_drySet_0_9_4 (S : kw_S) : Nat → Int32 → Int32 → Int32
  | 0, _, _ => 0
  | n + 1, x2, x3 => if x3.toInt < (S.1 17 5).toInt then (kf_l (S.1 9 x3.toNatClampNeg) fun z1 => if z1.toInt = 0 then (kf_l ((1 : Int32) <<< (x3 &&& 31)) fun z3 => kf_l (x2 ||| z3) fun z4 => kf_l (x3 + Int32.ofInt 1) fun z5 => l_X7_drySet_0_9_4 S n z4 z5) else (kf_l (x3 + Int32.ofInt 1) fun z2 => l_X7_drySet_0_9_4 S n x2 z2)) else (x2)
theorem l_X7_drySet_0_9_4_s (S : kw_S) (n : Nat) (x2 : Int32) (x3 : Int32) : l_X7_drySet_0_9_4 S (n + 1) x2 x3 = if x3.toInt < (S.1 17 5).toInt then (kf_l (S.1 9 x3.toNatClampNeg) fun z1 => if z1.toInt = 0 then (kf_l ((1 : Int32) <<< (x3 &&& 31)) fun z3 => kf_l (x2 ||| z3) fun z4 => kf_l (x3 + Int32.ofInt 1) fun z5 => l_X7_drySet_0_9_4 S n z4 z5) else (kf_l (x3 + Int32.ofInt 1) fun z2 => l_X7_drySet_0_9_4 S n x2 z2)) else (x2) := rfl
noncomputable def f_X7_drySet_0_9 (σ : kw_S)  : Int32 := l_X7_drySet_0_9_4 σ ((7 - (0 : Int32).toInt).toNat + 1) (0 : Int32) (0 : Int32)
theorem f_X7_drySet_0_9_u (σ : kw_S)  : f_X7_drySet_0_9 σ  = l_X7_drySet_0_9_4 σ ((7 - (0 : Int32).toInt).toNat + 1) (0 : Int32) (0 : Int32) := rfl
abbrev p_X7_drySet_0_9 (σ : kw_S)  : Option Value → kw_S → Prop := fun vv σ' => σ' = σ ∧ ∃ r : Int32, vv = some (.int r) ∧ r = f_X7_drySet_0_9 σ
set_option maxRecDepth 100000 in
set_option maxHeartbeats 4000000 in
theorem c_X7_drySet_0_9 (l : Launch) (σ : kw_S) (hI : kw_I bX σ)  : kw_Met l 1 KX mX7_drySet [.ref 0, .ref 9] σ (p_X7_drySet_0_9 σ) := by
  have hF := (f_X7_drySet_0_9_u σ).symm
  have q_0 : (0 : Int32).toInt = 0 := rfl
  have q_1 : (1 : Int32).toInt = 1 := rfl
  refine kw_Met.of (by decide) rfl tX7_drySet (Nat.le_of_ble_eq_true rfl) ?_
  show kw_AW l 1 kw_E0 KX mX7_drySet (p_X7_drySet_0_9 σ) 0 [(0, .ref 0), (1, .ref 9)] [] σ
  refine kw_iconst (pc := 0) (i := 0) (v := 0) rfl rfl ?_
  refine kw_istore_n (pc := 1) (i := 1) (n := 2) (lv' := [(2, .int 0), (0, .ref 0), (1, .ref 9)]) rfl rfl (by decide) rfl ?_
  refine kw_iconst (pc := 2) (i := 2) (v := 0) rfl rfl ?_
  refine kw_istore_n (pc := 3) (i := 3) (n := 3) (lv' := [(3, .int 0), (2, .int 0), (0, .ref 0), (1, .ref 9)]) rfl rfl (by decide) rfl ?_
  have L3 : ∀ (n7 : Nat) (x1 : Int32) (x2 : Int32), 0 ≤ x1.toInt → l_X7_drySet_0_9_4 σ n7 x2 x1 = (f_X7_drySet_0_9 σ) → (7 - x1.toInt).toNat < n7 → kw_AW l 1 kw_E0 KX mX7_drySet (p_X7_drySet_0_9 σ) 4 [(3, .int x1), (2, .int x2), (0, .ref 0), (1, .ref 9)] [] σ := by
    intro n7
    induction n7 with
    | zero => intro x1 x2 v5 hF m6; exact absurd m6 (Nat.not_lt_zero _)
    | succ n7 ih4 =>
      intro x1 x2 v5 hF m6
      replace hF := kf_st (l_X7_drySet_0_9_4_s _ _ _ _) hF
      have r_x1 := kw_rng x1
      have r_x2 := kw_rng x2
      refine kw_iload_n (pc := 4) (i := 4) (k := 0) (n := 3) rfl rfl rfl ?_
      refine kw_aload_n (pc := 5) (i := 5) (k := 2) (n := 0) rfl rfl rfl ?_
      refine kw_get (pc := 6) (i := 6) (v := .ref 4) rfl rfl rfl lkX7_31 (fun _ => rfl) ?_
      refine kw_get (pc := 9) (i := 7) (v := .ref 17) rfl rfl rfl lkX7_117 (fun _ => rfl) ?_
      refine kw_get (pc := 12) (i := 8) (v := .int (σ.1 17 5)) rfl rfl rfl lkX7_133 (fun _ => rfl) ?_
      have b8 : 0 ≤ (σ.1 17 5).toInt ∧ (σ.1 17 5).toInt ≤ 6 := hI 17 5
      refine kw_icmp_ge (pc := 15) (i := 9) (tgt := 36) rfl rfl (fun c9 => ?_) (fun c9 => ?_)
      · replace hF := kf_nl c9 hF
        refine kw_iload_n (pc := 36) (i := 22) (k := 1) (n := 2) rfl rfl rfl ?_
        exact kw_ireturn (pc := 37) (i := 23) (ty := .int) rfl rfl rfl ⟨rfl, _, rfl, hF⟩
      · replace hF := kf_p c9 hF
        refine kw_aload_n (pc := 18) (i := 10) (k := 3) (n := 1) rfl rfl rfl ?_
        refine kw_iload_n (pc := 19) (i := 11) (k := 0) (n := 3) rfl rfl rfl ?_
        refine kw_iald (pc := 20) (i := 12) (n := 6) rfl rfl (by omega) (by omega) (fun z10 e_z10 => ?_)
        replace hF := kf_le e_z10 hF
        have t_z10 := congrArg Int32.toInt e_z10
        have r_z10 := kw_rng z10
        refine kw_if_ne (pc := 21) (i := 13) (tgt := 30) rfl rfl (fun c11 => ?_) (fun c11 => ?_)
        · replace hF := kf_n c11 hF
          refine kw_iinc' (pc := 30) (i := 20) (k := 0) (fun z => [(3, .int z), (2, .int x2), (0, .ref 0), (1, .ref 9)]) rfl rfl (by decide) rfl (fun _ => rfl) (fun z12 e_z12 t_z12 => ?_)
          replace hF := kf_le e_z12 hF
          refine kw_goto (pc := 33) (i := 21) (tgt := 4) rfl rfl ?_
          refine kw_sub (lv' := [(3, .int z12), (2, .int x2), (0, .ref 0), (1, .ref 9)]) [0, 1, 2, 3] rfl ?_
          exact ih4 z12 x2 (by omega) hF (by omega)
        · replace hF := kf_p c11 hF
          refine kw_iload_n (pc := 24) (i := 14) (k := 1) (n := 2) rfl rfl rfl ?_
          refine kw_iconst (pc := 25) (i := 15) (v := 1) rfl rfl ?_
          refine kw_iload_n (pc := 26) (i := 16) (k := 0) (n := 3) rfl rfl rfl ?_
          refine kw_ishl (pc := 27) (i := 17) rfl (fun z13 e_z13 => ?_)
          have r_z13 := kw_rng z13
          replace hF := kf_le e_z13 hF
          refine kw_ior (pc := 28) (i := 18) rfl (fun z14 e_z14 => ?_)
          have r_z14 := kw_rng z14
          replace hF := kf_le e_z14 hF
          refine kw_istore_n (pc := 29) (i := 19) (n := 2) (lv' := [(2, .int z14), (3, .int x1), (0, .ref 0), (1, .ref 9)]) rfl rfl (by decide) rfl ?_
          refine kw_iinc' (pc := 30) (i := 20) (k := 1) (fun z => [(3, .int z), (2, .int z14), (0, .ref 0), (1, .ref 9)]) rfl rfl (by decide) rfl (fun _ => rfl) (fun z15 e_z15 t_z15 => ?_)
          replace hF := kf_le e_z15 hF
          refine kw_goto (pc := 33) (i := 21) (tgt := 4) rfl rfl ?_
          refine kw_sub (lv' := [(3, .int z15), (2, .int z14), (0, .ref 0), (1, .ref 9)]) [0, 1, 2, 3] rfl ?_
          exact ih4 z15 z14 (by omega) hF (by omega)
  exact L3 _ 0 0 (by omega) hF (Nat.lt_succ_self _)
noncomputable def l_X7_weightOfGusts_5 (a0 : Int32) (a1 : Int32) (a2 : Int32) (S : kw_S) : Nat → Int64 → Int32 → Int64
  | 0, _, _ => 0
  | n + 1, x3, x5 => if x5.toInt < a0.toInt then (kf_l (a1 >>> (x5 &&& 31)) fun z1 => kf_l (z1 &&& (1 : Int32)) fun z2 => if z2.toInt = (1 : Int32).toInt then (kf_l a2.toInt64 fun z7 => kf_l (x3 * z7) fun z8 => kf_l (x5 + Int32.ofInt 1) fun z9 => l_X7_weightOfGusts_5 a0 a1 a2 S n z8 z9) else (kf_l ((12 : Int32) - a2) fun z3 => kf_l z3.toInt64 fun z4 => kf_l (x3 * z4) fun z5 => kf_l (x5 + Int32.ofInt 1) fun z6 => l_X7_weightOfGusts_5 a0 a1 a2 S n z5 z6)) else (x3)
theorem l_X7_weightOfGusts_5_s (a0 : Int32) (a1 : Int32) (a2 : Int32) (S : kw_S) (n : Nat) (x3 : Int64) (x5 : Int32) : l_X7_weightOfGusts_5 a0 a1 a2 S (n + 1) x3 x5 = if x5.toInt < a0.toInt then (kf_l (a1 >>> (x5 &&& 31)) fun z1 => kf_l (z1 &&& (1 : Int32)) fun z2 => if z2.toInt = (1 : Int32).toInt then (kf_l a2.toInt64 fun z7 => kf_l (x3 * z7) fun z8 => kf_l (x5 + Int32.ofInt 1) fun z9 => l_X7_weightOfGusts_5 a0 a1 a2 S n z8 z9) else (kf_l ((12 : Int32) - a2) fun z3 => kf_l z3.toInt64 fun z4 => kf_l (x3 * z4) fun z5 => kf_l (x5 + Int32.ofInt 1) fun z6 => l_X7_weightOfGusts_5 a0 a1 a2 S n z5 z6)) else (x3) := rfl
noncomputable def f_X7_weightOfGusts (σ : kw_S) (h : Int32) (u : Int32) (p : Int32) : Int64 := l_X7_weightOfGusts_5 h u p σ ((h.toInt - (0 : Int32).toInt).toNat + 1) (1 : Int64) (0 : Int32)
theorem f_X7_weightOfGusts_u (σ : kw_S) (h : Int32) (u : Int32) (p : Int32) : f_X7_weightOfGusts σ h u p = l_X7_weightOfGusts_5 h u p σ ((h.toInt - (0 : Int32).toInt).toNat + 1) (1 : Int64) (0 : Int32) := rfl
abbrev p_X7_weightOfGusts (σ : kw_S) (h : Int32) (u : Int32) (p : Int32) : Option Value → kw_S → Prop := fun vv σ' => σ' = σ ∧ ∃ r : Int64, vv = some (.long r) ∧ r = f_X7_weightOfGusts σ h u p
set_option maxRecDepth 100000 in
set_option maxHeartbeats 4000000 in
theorem c_X7_weightOfGusts (l : Launch) (σ : kw_S) (hI : kw_I bX σ) (h : Int32) (u : Int32) (p : Int32) : kw_Met l 1 KX mX7_weightOfGusts [.int h, .int u, .int p] σ (p_X7_weightOfGusts σ h u p) := by
  have r_h := kw_rng h
  have r_u := kw_rng u
  have r_p := kw_rng p
  have hF := (f_X7_weightOfGusts_u σ h u p).symm
  have q_0 : (0 : Int32).toInt = 0 := rfl
  have q_1 : (1 : Int32).toInt = 1 := rfl
  have q_12 : (12 : Int32).toInt = 12 := rfl
  refine kw_Met.of (by decide) rfl tX7_weightOfGusts (Nat.le_of_ble_eq_true rfl) ?_
  show kw_AW l 1 kw_E0 KX mX7_weightOfGusts (p_X7_weightOfGusts σ h u p) 0 [(0, .int h), (1, .int u), (2, .int p)] [] σ
  refine kw_lconst (pc := 0) (i := 0) (v := 1) rfl rfl ?_
  refine kw_lstore_n (pc := 1) (i := 1) (n := 3) (lv' := [(3, .long 1), (0, .int h), (1, .int u), (2, .int p)]) rfl rfl (by decide) rfl ?_
  refine kw_iconst (pc := 2) (i := 2) (v := 0) rfl rfl ?_
  refine kw_istore (pc := 3) (i := 3) (n := 5) (lv' := [(5, .int 0), (3, .long 1), (0, .int h), (1, .int u), (2, .int p)]) rfl (by decide) rfl ?_
  have L3 : ∀ (n7 : Nat) (x1 : Int32) (x2 : Int64), 0 ≤ x1.toInt → l_X7_weightOfGusts_5 h u p σ n7 x2 x1 = (f_X7_weightOfGusts σ h u p) → (h.toInt - x1.toInt).toNat < n7 → kw_AW l 1 kw_E0 KX mX7_weightOfGusts (p_X7_weightOfGusts σ h u p) 5 [(5, .int x1), (3, .long x2), (0, .int h), (1, .int u), (2, .int p)] [] σ := by
    intro n7
    induction n7 with
    | zero => intro x1 x2 v5 hF m6; exact absurd m6 (Nat.not_lt_zero _)
    | succ n7 ih4 =>
      intro x1 x2 v5 hF m6
      replace hF := kf_st (l_X7_weightOfGusts_5_s _ _ _ _ _ _ _) hF
      have r_x1 := kw_rng x1
      refine kw_iload (pc := 5) (i := 4) (k := 0) (n := 5) rfl rfl ?_
      refine kw_iload_n (pc := 7) (i := 5) (k := 2) (n := 0) rfl rfl rfl ?_
      refine kw_icmp_ge (pc := 8) (i := 6) (tgt := 40) rfl rfl (fun c8 => ?_) (fun c8 => ?_)
      · replace hF := kf_nl c8 hF
        refine kw_lload_n (pc := 40) (i := 26) (k := 1) (n := 3) rfl rfl rfl ?_
        exact kw_lreturn (pc := 41) (i := 27) rfl rfl ⟨rfl, _, rfl, hF⟩
      · replace hF := kf_p c8 hF
        refine kw_lload_n (pc := 11) (i := 7) (k := 1) (n := 3) rfl rfl rfl ?_
        refine kw_iload_n (pc := 12) (i := 8) (k := 3) (n := 1) rfl rfl rfl ?_
        refine kw_iload (pc := 13) (i := 9) (k := 0) (n := 5) rfl rfl ?_
        refine kw_ishr (pc := 15) (i := 10) rfl (fun z9 e_z9 => ?_)
        have r_z9 := kw_rng z9
        replace hF := kf_le e_z9 hF
        refine kw_iconst (pc := 16) (i := 11) (v := 1) rfl rfl ?_
        refine kw_iand (pc := 17) (i := 12) rfl (fun z10 e_z10 => ?_)
        have r_z10 := kw_rng z10
        replace hF := kf_le e_z10 hF
        refine kw_iconst (pc := 18) (i := 13) (v := 1) rfl rfl ?_
        refine kw_icmp_ne (pc := 19) (i := 14) (tgt := 27) rfl rfl (fun c11 => ?_) (fun c11 => ?_)
        · replace hF := kf_n c11 hF
          refine kw_bipush (pc := 27) (i := 18) (v := 12) rfl rfl ?_
          refine kw_iload_n (pc := 29) (i := 19) (k := 4) (n := 2) rfl rfl rfl ?_
          refine kw_isub (pc := 30) (i := 20) rfl (fun z12 e_z12 t_z12 => ?_)
          replace hF := kf_le e_z12 hF
          refine kw_i2l (pc := 31) (i := 21) rfl (fun z13 e_z13 t_z13 => ?_)
          replace hF := kf_le e_z13 hF
          refine kw_lmul (pc := 32) (i := 22) rfl (fun z14 e_z14 => ?_)
          replace hF := kf_le e_z14 hF
          refine kw_lstore_n (pc := 33) (i := 23) (n := 3) (lv' := [(3, .long z14), (5, .int x1), (0, .int h), (1, .int u), (2, .int p)]) rfl rfl (by decide) rfl ?_
          refine kw_iinc' (pc := 34) (i := 24) (k := 1) (fun z => [(5, .int z), (3, .long z14), (0, .int h), (1, .int u), (2, .int p)]) rfl rfl (by decide) rfl (fun _ => rfl) (fun z15 e_z15 t_z15 => ?_)
          replace hF := kf_le e_z15 hF
          refine kw_goto (pc := 37) (i := 25) (tgt := 5) rfl rfl ?_
          refine kw_sub (lv' := [(5, .int z15), (3, .long z14), (0, .int h), (1, .int u), (2, .int p)]) [0, 1, 2, 3, 4] rfl ?_
          exact ih4 z15 z14 (by omega) hF (by omega)
        · replace hF := kf_p c11 hF
          refine kw_iload_n (pc := 22) (i := 15) (k := 4) (n := 2) rfl rfl rfl ?_
          refine kw_i2l (pc := 23) (i := 16) rfl (fun z16 e_z16 t_z16 => ?_)
          replace hF := kf_le e_z16 hF
          refine kw_goto (pc := 24) (i := 17) (tgt := 32) rfl rfl ?_
          refine kw_lmul (pc := 32) (i := 22) rfl (fun z17 e_z17 => ?_)
          replace hF := kf_le e_z17 hF
          refine kw_lstore_n (pc := 33) (i := 23) (n := 3) (lv' := [(3, .long z17), (5, .int x1), (0, .int h), (1, .int u), (2, .int p)]) rfl rfl (by decide) rfl ?_
          refine kw_iinc' (pc := 34) (i := 24) (k := 1) (fun z => [(5, .int z), (3, .long z17), (0, .int h), (1, .int u), (2, .int p)]) rfl rfl (by decide) rfl (fun _ => rfl) (fun z18 e_z18 t_z18 => ?_)
          replace hF := kf_le e_z18 hF
          refine kw_goto (pc := 37) (i := 25) (tgt := 5) rfl rfl ?_
          refine kw_sub (lv' := [(5, .int z18), (3, .long z17), (0, .int h), (1, .int u), (2, .int p)]) [0, 1, 2, 3, 4] rfl ?_
          exact ih4 z18 z17 (by omega) hF (by omega)
  exact L3 _ 0 1 (by omega) hF (Nat.lt_succ_self _)
