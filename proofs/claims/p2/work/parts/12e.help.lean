abbrev p_X7_makeOn_0_1 (σ : kw_S) (k : Int32) (n : Int32) (v : Int32) : Option Value → kw_S → Prop := fun v σ' => (kw_I bX σ' ∧ kw_F [8, 28, 13, 29, 30, 31, 32, 33, 34] σ σ') ∧ ∃ r : Int32, v = some (.int r) ∧ ((k.toInt < 0 ∨ 6 ≤ k.toInt ∨ 40 < n.toInt) ∧ r.toInt = -1 ∨ 0 ≤ k.toInt ∧ k.toInt < 6 ∧ n.toInt < 0 ∧ r.toInt = -3 ∨ 0 ≤ k.toInt ∧ k.toInt < 6 ∧ 0 ≤ n.toInt ∧ n.toInt ≤ 40 ∧ r.toInt = n.toInt)
set_option maxRecDepth 100000 in
set_option maxHeartbeats 4000000 in
theorem c_X7_makeOn_0_1 (l : Launch) (σ : kw_S) (hI : kw_I bX σ) (k : Int32) (n : Int32) (v : Int32) : kw_Met l 3 KX mX7_makeOn [.ref 0, .ref 1, .int k, .int n, .int v] σ (p_X7_makeOn_0_1 σ k n v) := by
  have r_k := kw_rng k
  have r_n := kw_rng n
  have r_v := kw_rng v
  have hF0 : kw_F [8, 28, 13, 29, 30, 31, 32, 33, 34] σ σ := kw_F.rf
  have q_m1 : (-1 : Int32).toInt = -1 := rfl
  have q_5 : (5 : Int32).toInt = 5 := rfl
  refine kw_Met.of (by decide) rfl tX7_makeOn (Nat.le_of_ble_eq_true rfl) ?_
  show kw_AW l 3 kw_E0 KX mX7_makeOn (p_X7_makeOn_0_1 σ k n v) 0 [(0, .ref 0), (1, .ref 1), (2, .int k), (3, .int n), (4, .int v)] [] σ
  refine kw_aload_n (pc := 0) (i := 0) (k := 1) (n := 1) rfl rfl rfl ?_
  refine kw_iload_n (pc := 1) (i := 1) (k := 2) (n := 2) rfl rfl rfl ?_
  refine kw_callV (pc := 2) (i := 2) (Y := mX3_has) (a := 1) (As := [.int k]) (st := []) kw_hE rfl rfl lvX7_73 arX3_has (c_X3_has_1 l σ hI k ) (by decide) (Nat.le_of_ble_eq_true rfl) rfl (fun v S2 p1 => ?_)
  obtain ⟨e7, z6, rfl, f3, f4, f5⟩ := p1
  rw [e7]
  have r_z6 := kw_rng z6
  show kw_AW l 3 kw_E0 KX mX7_makeOn (p_X7_makeOn_0_1 σ k n v) 5 [(0, .ref 0), (1, .ref 1), (2, .int k), (3, .int n), (4, .int v)] [.int z6] σ
  refine kw_if_eq (pc := 5) (i := 3) (tgt := 16) rfl rfl (fun c8 => ?_) (fun c8 => ?_)
  · refine kw_iconst (pc := 16) (i := 8) (v := (-1)) rfl rfl ?_
    exact kw_ireturn (pc := 17) (i := 9) (ty := .int) rfl rfl rfl ⟨⟨hI, hF0⟩, _, rfl, by omega⟩
  · refine kw_iload_n (pc := 8) (i := 4) (k := 3) (n := 3) rfl rfl rfl ?_
    refine kw_aload_n (pc := 9) (i := 5) (k := 1) (n := 1) rfl rfl rfl ?_
    refine kw_get (pc := 10) (i := 6) (v := .int (σ.1 1 0)) rfl rfl rfl lkX7_348 (fun _ => rfl) ?_
    have b9 : 40 ≤ (σ.1 1 0).toInt ∧ (σ.1 1 0).toInt ≤ 40 := hI 1 0
    refine kw_icmp_le (pc := 13) (i := 7) (tgt := 18) rfl rfl (fun c10 => ?_) (fun c10 => ?_)
    · refine kw_iload_n (pc := 18) (i := 10) (k := 3) (n := 3) rfl rfl rfl ?_
      refine kw_if_ge (pc := 19) (i := 11) (tgt := 31) rfl rfl (fun c11 => ?_) (fun c11 => ?_)
      · refine kw_aload_n (pc := 31) (i := 17) (k := 1) (n := 1) rfl rfl rfl ?_
        refine kw_iload_n (pc := 32) (i := 18) (k := 2) (n := 2) rfl rfl rfl ?_
        refine kw_iload_n (pc := 33) (i := 19) (k := 3) (n := 3) rfl rfl rfl ?_
        refine kw_iload (pc := 34) (i := 20) (k := 4) (n := 4) rfl rfl ?_
        refine kw_callV (pc := 36) (i := 21) (Y := mX3_make) (a := 1) (As := [.int k, .int n, .int v]) (st := []) kw_hE rfl rfl lvX7_210 arX3_make (c_X3_make_1 l σ hI k n v ) (by decide) (Nat.le_of_ble_eq_true rfl) rfl (fun v S13 p12 => ?_)
        obtain ⟨⟨I14, F15⟩, rfl⟩ := p12
        have F16 : kw_F [8, 28, 13, 29, 30, 31, 32, 33, 34] σ S13 := kw_F.tr hF0 F15 (by decide)
        show kw_AW l 3 kw_E0 KX mX7_makeOn (p_X7_makeOn_0_1 σ k n v) 39 [(0, .ref 0), (1, .ref 1), (2, .int k), (3, .int n), (4, .int v)] [] S13
        refine kw_iload_n (pc := 39) (i := 22) (k := 3) (n := 3) rfl rfl rfl ?_
        exact kw_ireturn (pc := 40) (i := 23) (ty := .int) rfl rfl rfl ⟨⟨I14, F16⟩, _, rfl, by omega⟩
      · refine kw_aload_n (pc := 22) (i := 12) (k := 0) (n := 0) rfl rfl rfl ?_
        refine kw_get (pc := 23) (i := 13) (v := .ref 8) rfl rfl rfl lkX7_55 (fun _ => rfl) ?_
        refine kw_iconst (pc := 26) (i := 14) (v := 5) rfl rfl ?_
        refine kw_callV (pc := 27) (i := 15) (Y := mX4_refuse) (a := 8) (As := [.int 5]) (st := []) kw_hE rfl rfl lvX7_81 arX4_refuse (c_X4_refuse_8 l σ hI 5 ) (by decide) (Nat.le_of_ble_eq_true rfl) rfl (fun v S18 p17 => ?_)
        obtain ⟨⟨I21, F22⟩, z20, rfl, f19⟩ := p17
        have F23 : kw_F [8, 28, 13, 29, 30, 31, 32, 33, 34] σ S18 := kw_F.tr hF0 F22 (by decide)
        have r_z20 := kw_rng z20
        show kw_AW l 3 kw_E0 KX mX7_makeOn (p_X7_makeOn_0_1 σ k n v) 30 [(0, .ref 0), (1, .ref 1), (2, .int k), (3, .int n), (4, .int v)] [.int z20] S18
        exact kw_ireturn (pc := 30) (i := 16) (ty := .int) rfl rfl rfl ⟨⟨I21, F23⟩, _, rfl, by omega⟩
    · refine kw_iconst (pc := 16) (i := 8) (v := (-1)) rfl rfl ?_
      exact kw_ireturn (pc := 17) (i := 9) (ty := .int) rfl rfl rfl ⟨⟨hI, hF0⟩, _, rfl, by omega⟩
abbrev p_X7_makeOn_0_2 (σ : kw_S) (k : Int32) (n : Int32) (v : Int32) : Option Value → kw_S → Prop := fun v σ' => (kw_I bX σ' ∧ kw_F [8, 28, 15, 35, 36, 37, 38] σ σ') ∧ ∃ r : Int32, v = some (.int r) ∧ ((k.toInt < 0 ∨ 4 ≤ k.toInt ∨ 60 < n.toInt) ∧ r.toInt = -1 ∨ 0 ≤ k.toInt ∧ k.toInt < 4 ∧ n.toInt < 0 ∧ r.toInt = -3 ∨ 0 ≤ k.toInt ∧ k.toInt < 4 ∧ 0 ≤ n.toInt ∧ n.toInt ≤ 60 ∧ r.toInt = n.toInt)
set_option maxRecDepth 100000 in
set_option maxHeartbeats 4000000 in
theorem c_X7_makeOn_0_2 (l : Launch) (σ : kw_S) (hI : kw_I bX σ) (k : Int32) (n : Int32) (v : Int32) : kw_Met l 3 KX mX7_makeOn [.ref 0, .ref 2, .int k, .int n, .int v] σ (p_X7_makeOn_0_2 σ k n v) := by
  have r_k := kw_rng k
  have r_n := kw_rng n
  have r_v := kw_rng v
  have hF0 : kw_F [8, 28, 15, 35, 36, 37, 38] σ σ := kw_F.rf
  have q_m1 : (-1 : Int32).toInt = -1 := rfl
  have q_5 : (5 : Int32).toInt = 5 := rfl
  refine kw_Met.of (by decide) rfl tX7_makeOn (Nat.le_of_ble_eq_true rfl) ?_
  show kw_AW l 3 kw_E0 KX mX7_makeOn (p_X7_makeOn_0_2 σ k n v) 0 [(0, .ref 0), (1, .ref 2), (2, .int k), (3, .int n), (4, .int v)] [] σ
  refine kw_aload_n (pc := 0) (i := 0) (k := 1) (n := 1) rfl rfl rfl ?_
  refine kw_iload_n (pc := 1) (i := 1) (k := 2) (n := 2) rfl rfl rfl ?_
  refine kw_callV (pc := 2) (i := 2) (Y := mX3_has) (a := 2) (As := [.int k]) (st := []) kw_hE rfl rfl lvX7_73 arX3_has (c_X3_has_2 l σ hI k ) (by decide) (Nat.le_of_ble_eq_true rfl) rfl (fun v S2 p1 => ?_)
  obtain ⟨e7, z6, rfl, f3, f4, f5⟩ := p1
  rw [e7]
  have r_z6 := kw_rng z6
  show kw_AW l 3 kw_E0 KX mX7_makeOn (p_X7_makeOn_0_2 σ k n v) 5 [(0, .ref 0), (1, .ref 2), (2, .int k), (3, .int n), (4, .int v)] [.int z6] σ
  refine kw_if_eq (pc := 5) (i := 3) (tgt := 16) rfl rfl (fun c8 => ?_) (fun c8 => ?_)
  · refine kw_iconst (pc := 16) (i := 8) (v := (-1)) rfl rfl ?_
    exact kw_ireturn (pc := 17) (i := 9) (ty := .int) rfl rfl rfl ⟨⟨hI, hF0⟩, _, rfl, by omega⟩
  · refine kw_iload_n (pc := 8) (i := 4) (k := 3) (n := 3) rfl rfl rfl ?_
    refine kw_aload_n (pc := 9) (i := 5) (k := 1) (n := 1) rfl rfl rfl ?_
    refine kw_get (pc := 10) (i := 6) (v := .int (σ.1 2 0)) rfl rfl rfl lkX7_348 (fun _ => rfl) ?_
    have b9 : 60 ≤ (σ.1 2 0).toInt ∧ (σ.1 2 0).toInt ≤ 60 := hI 2 0
    refine kw_icmp_le (pc := 13) (i := 7) (tgt := 18) rfl rfl (fun c10 => ?_) (fun c10 => ?_)
    · refine kw_iload_n (pc := 18) (i := 10) (k := 3) (n := 3) rfl rfl rfl ?_
      refine kw_if_ge (pc := 19) (i := 11) (tgt := 31) rfl rfl (fun c11 => ?_) (fun c11 => ?_)
      · refine kw_aload_n (pc := 31) (i := 17) (k := 1) (n := 1) rfl rfl rfl ?_
        refine kw_iload_n (pc := 32) (i := 18) (k := 2) (n := 2) rfl rfl rfl ?_
        refine kw_iload_n (pc := 33) (i := 19) (k := 3) (n := 3) rfl rfl rfl ?_
        refine kw_iload (pc := 34) (i := 20) (k := 4) (n := 4) rfl rfl ?_
        refine kw_callV (pc := 36) (i := 21) (Y := mX3_make) (a := 2) (As := [.int k, .int n, .int v]) (st := []) kw_hE rfl rfl lvX7_210 arX3_make (c_X3_make_2 l σ hI k n v ) (by decide) (Nat.le_of_ble_eq_true rfl) rfl (fun v S13 p12 => ?_)
        obtain ⟨⟨I14, F15⟩, rfl⟩ := p12
        have F16 : kw_F [8, 28, 15, 35, 36, 37, 38] σ S13 := kw_F.tr hF0 F15 (by decide)
        show kw_AW l 3 kw_E0 KX mX7_makeOn (p_X7_makeOn_0_2 σ k n v) 39 [(0, .ref 0), (1, .ref 2), (2, .int k), (3, .int n), (4, .int v)] [] S13
        refine kw_iload_n (pc := 39) (i := 22) (k := 3) (n := 3) rfl rfl rfl ?_
        exact kw_ireturn (pc := 40) (i := 23) (ty := .int) rfl rfl rfl ⟨⟨I14, F16⟩, _, rfl, by omega⟩
      · refine kw_aload_n (pc := 22) (i := 12) (k := 0) (n := 0) rfl rfl rfl ?_
        refine kw_get (pc := 23) (i := 13) (v := .ref 8) rfl rfl rfl lkX7_55 (fun _ => rfl) ?_
        refine kw_iconst (pc := 26) (i := 14) (v := 5) rfl rfl ?_
        refine kw_callV (pc := 27) (i := 15) (Y := mX4_refuse) (a := 8) (As := [.int 5]) (st := []) kw_hE rfl rfl lvX7_81 arX4_refuse (c_X4_refuse_8 l σ hI 5 ) (by decide) (Nat.le_of_ble_eq_true rfl) rfl (fun v S18 p17 => ?_)
        obtain ⟨⟨I21, F22⟩, z20, rfl, f19⟩ := p17
        have F23 : kw_F [8, 28, 15, 35, 36, 37, 38] σ S18 := kw_F.tr hF0 F22 (by decide)
        have r_z20 := kw_rng z20
        show kw_AW l 3 kw_E0 KX mX7_makeOn (p_X7_makeOn_0_2 σ k n v) 30 [(0, .ref 0), (1, .ref 2), (2, .int k), (3, .int n), (4, .int v)] [.int z20] S18
        exact kw_ireturn (pc := 30) (i := 16) (ty := .int) rfl rfl rfl ⟨⟨I21, F23⟩, _, rfl, by omega⟩
    · refine kw_iconst (pc := 16) (i := 8) (v := (-1)) rfl rfl ?_
      exact kw_ireturn (pc := 17) (i := 9) (ty := .int) rfl rfl rfl ⟨⟨hI, hF0⟩, _, rfl, by omega⟩
abbrev p_X7_planRefusal_0 (σ : kw_S) (a : Int32) : Option Value → kw_S → Prop := fun v σ' => (kw_I bX σ' ∧ kw_F [8, 28] σ σ') ∧ ∃ r : Int32, v = some (.int r) ∧ (r.toInt ≠ 0 ∨ 0 ≤ a.toInt ∧ a.toInt < 6 ∧ (σ'.1 13 a.toNatClampNeg).toInt ≤ 6)
set_option maxRecDepth 100000 in
set_option maxHeartbeats 4000000 in
theorem c_X7_planRefusal_0 (l : Launch) (σ : kw_S) (hI : kw_I bX σ) (a : Int32) : kw_Met l 4 KX mX7_planRefusal [.ref 0, .int a] σ (p_X7_planRefusal_0 σ a) := by
  have r_a := kw_rng a
  have hF0 : kw_F [8, 28] σ σ := kw_F.rf
  have q_m4 : (-4 : Int32).toInt = -4 := rfl
  have q_m1 : (-1 : Int32).toInt = -1 := rfl
  have q_0 : (0 : Int32).toInt = 0 := rfl
  have q_1 : (1 : Int32).toInt = 1 := rfl
  have q_3 : (3 : Int32).toInt = 3 := rfl
  have q_5 : (5 : Int32).toInt = 5 := rfl
  have q_6 : (6 : Int32).toInt = 6 := rfl
  refine kw_Met.of (by decide) rfl tX7_planRefusal (Nat.le_of_ble_eq_true rfl) ?_
  show kw_AW l 4 kw_E0 KX mX7_planRefusal (p_X7_planRefusal_0 σ a) 0 [(0, .ref 0), (1, .int a)] [] σ
  refine kw_aload_n (pc := 0) (i := 0) (k := 0) (n := 0) rfl rfl rfl ?_
  refine kw_get (pc := 1) (i := 1) (v := .ref 1) rfl rfl rfl lkX7_14 (fun _ => rfl) ?_
  refine kw_iload_n (pc := 4) (i := 2) (k := 1) (n := 1) rfl rfl rfl ?_
  refine kw_callV (pc := 5) (i := 3) (Y := mX3_has) (a := 1) (As := [.int a]) (st := []) kw_hE rfl rfl lvX7_73 arX3_has (c_X3_has_1 l σ hI a ) (by decide) (Nat.le_of_ble_eq_true rfl) rfl (fun v S2 p1 => ?_)
  obtain ⟨e7, z6, rfl, f3, f4, f5⟩ := p1
  rw [e7]
  have r_z6 := kw_rng z6
  show kw_AW l 4 kw_E0 KX mX7_planRefusal (p_X7_planRefusal_0 σ a) 8 [(0, .ref 0), (1, .int a)] [.int z6] σ
  refine kw_if_ne (pc := 8) (i := 4) (tgt := 13) rfl rfl (fun c8 => ?_) (fun c8 => ?_)
  · refine kw_aload_n (pc := 13) (i := 7) (k := 0) (n := 0) rfl rfl rfl ?_
    refine kw_get (pc := 14) (i := 8) (v := .ref 4) rfl rfl rfl lkX7_31 (fun _ => rfl) ?_
    refine kw_callV (pc := 17) (i := 9) (Y := mX5_isEmpty) (a := 4) (As := []) (st := []) kw_hE rfl rfl lvX7_178 arX5_isEmpty (c_X5_isEmpty_4 l σ hI  ) (by decide) (Nat.le_of_ble_eq_true rfl) rfl (fun v S10 p9 => ?_)
    obtain ⟨e14, z13, rfl, f11, f12⟩ := p9
    rw [e14]
    have r_z13 := kw_rng z13
    show kw_AW l 4 kw_E0 KX mX7_planRefusal (p_X7_planRefusal_0 σ a) 20 [(0, .ref 0), (1, .int a)] [.int z13] σ
    refine kw_if_eq (pc := 20) (i := 10) (tgt := 26) rfl rfl (fun c15 => ?_) (fun c15 => ?_)
    · refine kw_aload_n (pc := 26) (i := 13) (k := 0) (n := 0) rfl rfl rfl ?_
      refine kw_get (pc := 27) (i := 14) (v := .ref 1) rfl rfl rfl lkX7_14 (fun _ => rfl) ?_
      refine kw_iload_n (pc := 30) (i := 15) (k := 1) (n := 1) rfl rfl rfl ?_
      refine kw_callV (pc := 31) (i := 16) (Y := mX3_isMissing) (a := 1) (As := [.int a]) (st := []) kw_hE rfl rfl lvX7_95 arX3_isMissing (c_X3_isMissing_1 l σ hI a ) (by decide) (Nat.le_of_ble_eq_true rfl) rfl (fun v S17 p16 => ?_)
      obtain ⟨e21, z20, rfl, f18, f19⟩ := p16
      rw [e21]
      have r_z20 := kw_rng z20
      show kw_AW l 4 kw_E0 KX mX7_planRefusal (p_X7_planRefusal_0 σ a) 34 [(0, .ref 0), (1, .int a)] [.int z20] σ
      refine kw_if_eq (pc := 34) (i := 17) (tgt := 46) rfl rfl (fun c22 => ?_) (fun c22 => ?_)
      · refine kw_aload_n (pc := 46) (i := 23) (k := 0) (n := 0) rfl rfl rfl ?_
        refine kw_get (pc := 47) (i := 24) (v := .ref 1) rfl rfl rfl lkX7_14 (fun _ => rfl) ?_
        refine kw_iload_n (pc := 50) (i := 25) (k := 1) (n := 1) rfl rfl rfl ?_
        refine kw_callV (pc := 51) (i := 26) (Y := mX3_sizeOf) (a := 1) (As := [.int a]) (st := []) kw_hE rfl rfl lvX7_110 arX3_sizeOf (c_X3_sizeOf_1 l σ hI a ) (by decide) (Nat.le_of_ble_eq_true rfl) rfl (fun v S24 p23 => ?_)
        obtain ⟨e30, z29, rfl, f25, f26, f27, f28⟩ := p23
        rw [e30]
        have r_z29 := kw_rng z29
        show kw_AW l 4 kw_E0 KX mX7_planRefusal (p_X7_planRefusal_0 σ a) 54 [(0, .ref 0), (1, .int a)] [.int z29] σ
        refine kw_bipush (pc := 54) (i := 27) (v := 6) rfl rfl ?_
        refine kw_icmp_le (pc := 56) (i := 28) (tgt := 68) rfl rfl (fun c31 => ?_) (fun c31 => ?_)
        · refine kw_iconst (pc := 68) (i := 34) (v := 0) rfl rfl ?_
          refine kw_istore_n (pc := 69) (i := 35) (n := 2) (lv' := [(2, .int 0), (0, .ref 0), (1, .int a)]) rfl rfl (by decide) rfl ?_
          have L33 : ∀ (n37 : Nat) (x32 : Int32), 0 ≤ x32.toInt → (41 - x32.toInt).toNat < n37 → kw_AW l 4 kw_E0 KX mX7_planRefusal (p_X7_planRefusal_0 σ a) 70 [(2, .int x32), (0, .ref 0), (1, .int a)] [] σ := by
            intro n37
            induction n37 with
            | zero => intro x32 v35 m36; exact absurd m36 (Nat.not_lt_zero _)
            | succ n37 ih34 =>
              intro x32 v35 m36
              have r_x32 := kw_rng x32
              refine kw_iload_n (pc := 70) (i := 36) (k := 0) (n := 2) rfl rfl rfl ?_
              refine kw_aload_n (pc := 71) (i := 37) (k := 1) (n := 0) rfl rfl rfl ?_
              refine kw_get (pc := 72) (i := 38) (v := .ref 1) rfl rfl rfl lkX7_14 (fun _ => rfl) ?_
              refine kw_iload_n (pc := 75) (i := 39) (k := 2) (n := 1) rfl rfl rfl ?_
              refine kw_callV (pc := 76) (i := 40) (Y := mX3_sizeOf) (a := 1) (As := [.int a]) (st := [.int x32]) kw_hE rfl rfl lvX7_110 arX3_sizeOf (c_X3_sizeOf_1 l σ hI a ) (by decide) (Nat.le_of_ble_eq_true rfl) rfl (fun v S39 p38 => ?_)
              obtain ⟨e45, z44, rfl, f40, f41, f42, f43⟩ := p38
              rw [e45]
              have r_z44 := kw_rng z44
              show kw_AW l 4 kw_E0 KX mX7_planRefusal (p_X7_planRefusal_0 σ a) 79 [(2, .int x32), (0, .ref 0), (1, .int a)] [.int z44, .int x32] σ
              refine kw_icmp_ge (pc := 79) (i := 41) (tgt := 119) rfl rfl (fun c46 => ?_) (fun c46 => ?_)
              · refine kw_iconst (pc := 119) (i := 59) (v := 0) rfl rfl ?_
                exact kw_ireturn (pc := 120) (i := 60) (ty := .int) rfl rfl rfl ⟨⟨hI, hF0⟩, _, rfl, by omega⟩
              · refine kw_aload_n (pc := 82) (i := 42) (k := 1) (n := 0) rfl rfl rfl ?_
                refine kw_get (pc := 83) (i := 43) (v := .ref 4) rfl rfl rfl lkX7_31 (fun _ => rfl) ?_
                refine kw_get (pc := 86) (i := 44) (v := .ref 17) rfl rfl rfl lkX7_117 (fun _ => rfl) ?_
                refine kw_aload_n (pc := 89) (i := 45) (k := 1) (n := 0) rfl rfl rfl ?_
                refine kw_get (pc := 90) (i := 46) (v := .ref 1) rfl rfl rfl lkX7_14 (fun _ => rfl) ?_
                refine kw_iload_n (pc := 93) (i := 47) (k := 2) (n := 1) rfl rfl rfl ?_
                refine kw_iload_n (pc := 94) (i := 48) (k := 0) (n := 2) rfl rfl rfl ?_
                refine kw_callV (pc := 95) (i := 49) (Y := mX3_valueAt) (a := 1) (As := [.int a, .int x32]) (st := [.ref 17]) kw_hE rfl rfl lvX7_85 arX3_valueAt (c_X3_valueAt_1 l σ hI a x32 ) (by decide) (Nat.le_of_ble_eq_true rfl) rfl (fun v S48 p47 => ?_)
                obtain ⟨e50, z49, rfl⟩ := p47
                rw [e50]
                have r_z49 := kw_rng z49
                show kw_AW l 4 kw_E0 KX mX7_planRefusal (p_X7_planRefusal_0 σ a) 98 [(2, .int x32), (0, .ref 0), (1, .int a)] [.int z49, .ref 17] σ
                refine kw_callV (pc := 98) (i := 50) (Y := mX1_hasSet) (a := 17) (As := [.int z49]) (st := []) kw_hE rfl rfl lvX7_216 arX1_hasSet (c_X1_hasSet_17 l σ hI z49 ) (by decide) (Nat.le_of_ble_eq_true rfl) rfl (fun v S52 p51 => ?_)
                obtain ⟨e55, z54, rfl, f53⟩ := p51
                rw [e55]
                have r_z54 := kw_rng z54
                show kw_AW l 4 kw_E0 KX mX7_planRefusal (p_X7_planRefusal_0 σ a) 101 [(2, .int x32), (0, .ref 0), (1, .int a)] [.int z54] σ
                refine kw_if_ne (pc := 101) (i := 51) (tgt := 113) rfl rfl (fun c56 => ?_) (fun c56 => ?_)
                · refine kw_iinc' (pc := 113) (i := 57) (k := 0) (fun z => [(2, .int z), (0, .ref 0), (1, .int a)]) rfl rfl (by decide) rfl (fun _ => rfl) (fun z57 e_z57 t_z57 => ?_)
                  refine kw_goto (pc := 116) (i := 58) (tgt := 70) rfl rfl ?_
                  refine kw_sub (lv' := [(2, .int z57), (0, .ref 0), (1, .int a)]) [0, 1, 2] rfl ?_
                  exact ih34 z57 (by omega) (by omega)
                · refine kw_aload_n (pc := 104) (i := 52) (k := 1) (n := 0) rfl rfl rfl ?_
                  refine kw_get (pc := 105) (i := 53) (v := .ref 8) rfl rfl rfl lkX7_55 (fun _ => rfl) ?_
                  refine kw_iconst (pc := 108) (i := 54) (v := 3) rfl rfl ?_
                  refine kw_callV (pc := 109) (i := 55) (Y := mX4_refuse) (a := 8) (As := [.int 3]) (st := []) kw_hE rfl rfl lvX7_81 arX4_refuse (c_X4_refuse_8 l σ hI 3 ) (by decide) (Nat.le_of_ble_eq_true rfl) rfl (fun v S59 p58 => ?_)
                  obtain ⟨⟨I62, F63⟩, z61, rfl, f60⟩ := p58
                  have F64 : kw_F [8, 28] σ S59 := kw_F.tr hF0 F63 (by decide)
                  have r_z61 := kw_rng z61
                  show kw_AW l 4 kw_E0 KX mX7_planRefusal (p_X7_planRefusal_0 σ a) 112 [(2, .int x32), (0, .ref 0), (1, .int a)] [.int z61] S59
                  exact kw_ireturn (pc := 112) (i := 56) (ty := .int) rfl rfl rfl ⟨⟨I62, F64⟩, _, rfl, by omega⟩
          exact L33 _ 0 (by omega) (Nat.lt_succ_self _)
        · refine kw_aload_n (pc := 59) (i := 29) (k := 0) (n := 0) rfl rfl rfl ?_
          refine kw_get (pc := 60) (i := 30) (v := .ref 8) rfl rfl rfl lkX7_55 (fun _ => rfl) ?_
          refine kw_iconst (pc := 63) (i := 31) (v := 5) rfl rfl ?_
          refine kw_callV (pc := 64) (i := 32) (Y := mX4_refuse) (a := 8) (As := [.int 5]) (st := []) kw_hE rfl rfl lvX7_81 arX4_refuse (c_X4_refuse_8 l σ hI 5 ) (by decide) (Nat.le_of_ble_eq_true rfl) rfl (fun v S66 p65 => ?_)
          obtain ⟨⟨I69, F70⟩, z68, rfl, f67⟩ := p65
          have F71 : kw_F [8, 28] σ S66 := kw_F.tr hF0 F70 (by decide)
          have r_z68 := kw_rng z68
          show kw_AW l 4 kw_E0 KX mX7_planRefusal (p_X7_planRefusal_0 σ a) 67 [(0, .ref 0), (1, .int a)] [.int z68] S66
          exact kw_ireturn (pc := 67) (i := 33) (ty := .int) rfl rfl rfl ⟨⟨I69, F71⟩, _, rfl, by omega⟩
      · refine kw_aload_n (pc := 37) (i := 18) (k := 0) (n := 0) rfl rfl rfl ?_
        refine kw_get (pc := 38) (i := 19) (v := .ref 8) rfl rfl rfl lkX7_55 (fun _ => rfl) ?_
        refine kw_iconst (pc := 41) (i := 20) (v := 1) rfl rfl ?_
        refine kw_callV (pc := 42) (i := 21) (Y := mX4_refuse) (a := 8) (As := [.int 1]) (st := []) kw_hE rfl rfl lvX7_81 arX4_refuse (c_X4_refuse_8 l σ hI 1 ) (by decide) (Nat.le_of_ble_eq_true rfl) rfl (fun v S73 p72 => ?_)
        obtain ⟨⟨I76, F77⟩, z75, rfl, f74⟩ := p72
        have F78 : kw_F [8, 28] σ S73 := kw_F.tr hF0 F77 (by decide)
        have r_z75 := kw_rng z75
        show kw_AW l 4 kw_E0 KX mX7_planRefusal (p_X7_planRefusal_0 σ a) 45 [(0, .ref 0), (1, .int a)] [.int z75] S73
        exact kw_ireturn (pc := 45) (i := 22) (ty := .int) rfl rfl rfl ⟨⟨I76, F78⟩, _, rfl, by omega⟩
    · refine kw_bipush (pc := 23) (i := 11) (v := (-4)) rfl rfl ?_
      exact kw_ireturn (pc := 25) (i := 12) (ty := .int) rfl rfl rfl ⟨⟨hI, hF0⟩, _, rfl, by omega⟩
  · refine kw_iconst (pc := 11) (i := 5) (v := (-1)) rfl rfl ?_
    exact kw_ireturn (pc := 12) (i := 6) (ty := .int) rfl rfl rfl ⟨⟨hI, hF0⟩, _, rfl, by omega⟩
abbrev p_X7_pairsRefusal_0 (σ : kw_S) (i : Int32) (a : Int32) : Option Value → kw_S → Prop := fun v σ' => (kw_I bX σ' ∧ kw_F [8, 28] σ σ') ∧ ∃ r : Int32, v = some (.int r) ∧ (r.toInt ≠ 0 ∨ 0 ≤ i.toInt ∧ i.toInt < 6)
set_option maxRecDepth 100000 in
set_option maxHeartbeats 4000000 in
theorem c_X7_pairsRefusal_0 (l : Launch) (σ : kw_S) (hI : kw_I bX σ) (i : Int32) (a : Int32) : kw_Met l 4 KX mX7_pairsRefusal [.ref 0, .int i, .int a] σ (p_X7_pairsRefusal_0 σ i a) := by
  have r_i := kw_rng i
  have r_a := kw_rng a
  have hF0 : kw_F [8, 28] σ σ := kw_F.rf
  have q_m1 : (-1 : Int32).toInt = -1 := rfl
  have q_0 : (0 : Int32).toInt = 0 := rfl
  have q_1 : (1 : Int32).toInt = 1 := rfl
  have q_2 : (2 : Int32).toInt = 2 := rfl
  have q_3 : (3 : Int32).toInt = 3 := rfl
  have q_5 : (5 : Int32).toInt = 5 := rfl
  have q_6 : (6 : Int32).toInt = 6 := rfl
  have q_20 : (20 : Int32).toInt = 20 := rfl
  refine kw_Met.of (by decide) rfl tX7_pairsRefusal (Nat.le_of_ble_eq_true rfl) ?_
  show kw_AW l 4 kw_E0 KX mX7_pairsRefusal (p_X7_pairsRefusal_0 σ i a) 0 [(0, .ref 0), (1, .int i), (2, .int a)] [] σ
  refine kw_aload_n (pc := 0) (i := 0) (k := 0) (n := 0) rfl rfl rfl ?_
  refine kw_get (pc := 1) (i := 1) (v := .ref 4) rfl rfl rfl lkX7_31 (fun _ => rfl) ?_
  refine kw_get (pc := 4) (i := 2) (v := .ref 17) rfl rfl rfl lkX7_117 (fun _ => rfl) ?_
  refine kw_iload_n (pc := 7) (i := 3) (k := 1) (n := 1) rfl rfl rfl ?_
  refine kw_callV (pc := 8) (i := 4) (Y := mX1_hasLine) (a := 17) (As := [.int i]) (st := []) kw_hE rfl rfl lvX7_137 arX1_hasLine (c_X1_hasLine_17 l σ hI i ) (by decide) (Nat.le_of_ble_eq_true rfl) rfl (fun v S2 p1 => ?_)
  obtain ⟨e6, z5, rfl, f3, f4⟩ := p1
  rw [e6]
  have r_z5 := kw_rng z5
  show kw_AW l 4 kw_E0 KX mX7_pairsRefusal (p_X7_pairsRefusal_0 σ i a) 11 [(0, .ref 0), (1, .int i), (2, .int a)] [.int z5] σ
  refine kw_if_eq (pc := 11) (i := 5) (tgt := 25) rfl rfl (fun c7 => ?_) (fun c7 => ?_)
  · refine kw_iconst (pc := 25) (i := 11) (v := (-1)) rfl rfl ?_
    exact kw_ireturn (pc := 26) (i := 12) (ty := .int) rfl rfl rfl ⟨⟨hI, hF0⟩, _, rfl, by omega⟩
  · refine kw_aload_n (pc := 14) (i := 6) (k := 0) (n := 0) rfl rfl rfl ?_
    refine kw_get (pc := 15) (i := 7) (v := .ref 1) rfl rfl rfl lkX7_14 (fun _ => rfl) ?_
    refine kw_iload_n (pc := 18) (i := 8) (k := 2) (n := 2) rfl rfl rfl ?_
    refine kw_callV (pc := 19) (i := 9) (Y := mX3_has) (a := 1) (As := [.int a]) (st := []) kw_hE rfl rfl lvX7_73 arX3_has (c_X3_has_1 l σ hI a ) (by decide) (Nat.le_of_ble_eq_true rfl) rfl (fun v S9 p8 => ?_)
    obtain ⟨e14, z13, rfl, f10, f11, f12⟩ := p8
    rw [e14]
    have r_z13 := kw_rng z13
    show kw_AW l 4 kw_E0 KX mX7_pairsRefusal (p_X7_pairsRefusal_0 σ i a) 22 [(0, .ref 0), (1, .int i), (2, .int a)] [.int z13] σ
    refine kw_if_ne (pc := 22) (i := 10) (tgt := 27) rfl rfl (fun c15 => ?_) (fun c15 => ?_)
    · refine kw_aload_n (pc := 27) (i := 13) (k := 0) (n := 0) rfl rfl rfl ?_
      refine kw_get (pc := 28) (i := 14) (v := .ref 1) rfl rfl rfl lkX7_14 (fun _ => rfl) ?_
      refine kw_iload_n (pc := 31) (i := 15) (k := 2) (n := 2) rfl rfl rfl ?_
      refine kw_callV (pc := 32) (i := 16) (Y := mX3_isMissing) (a := 1) (As := [.int a]) (st := []) kw_hE rfl rfl lvX7_95 arX3_isMissing (c_X3_isMissing_1 l σ hI a ) (by decide) (Nat.le_of_ble_eq_true rfl) rfl (fun v S17 p16 => ?_)
      obtain ⟨e21, z20, rfl, f18, f19⟩ := p16
      rw [e21]
      have r_z20 := kw_rng z20
      show kw_AW l 4 kw_E0 KX mX7_pairsRefusal (p_X7_pairsRefusal_0 σ i a) 35 [(0, .ref 0), (1, .int i), (2, .int a)] [.int z20] σ
      refine kw_if_eq (pc := 35) (i := 17) (tgt := 47) rfl rfl (fun c22 => ?_) (fun c22 => ?_)
      · refine kw_aload_n (pc := 47) (i := 23) (k := 0) (n := 0) rfl rfl rfl ?_
        refine kw_get (pc := 48) (i := 24) (v := .ref 1) rfl rfl rfl lkX7_14 (fun _ => rfl) ?_
        refine kw_iload_n (pc := 51) (i := 25) (k := 2) (n := 2) rfl rfl rfl ?_
        refine kw_callV (pc := 52) (i := 26) (Y := mX3_sizeOf) (a := 1) (As := [.int a]) (st := []) kw_hE rfl rfl lvX7_110 arX3_sizeOf (c_X3_sizeOf_1 l σ hI a ) (by decide) (Nat.le_of_ble_eq_true rfl) rfl (fun v S24 p23 => ?_)
        obtain ⟨e30, z29, rfl, f25, f26, f27, f28⟩ := p23
        rw [e30]
        have r_z29 := kw_rng z29
        show kw_AW l 4 kw_E0 KX mX7_pairsRefusal (p_X7_pairsRefusal_0 σ i a) 55 [(0, .ref 0), (1, .int i), (2, .int a)] [.int z29] σ
        refine kw_istore_n (pc := 55) (i := 27) (n := 3) (lv' := [(3, .int z29), (0, .ref 0), (1, .int i), (2, .int a)]) rfl rfl (by decide) rfl ?_
        refine kw_iload_n (pc := 56) (i := 28) (k := 0) (n := 3) rfl rfl rfl ?_
        refine kw_iconst (pc := 57) (i := 29) (v := 2) rfl rfl ?_
        refine kw_irem (pc := 58) (i := 30) rfl (by omega) (fun z31 e_z31 => ?_)
        have r_z31 := kw_rng z31
        have t_z31 := kw_remI z29 2 z31 e_z31
        refine kw_if_ne (pc := 59) (i := 31) (tgt := 68) rfl rfl (fun c32 => ?_) (fun c32 => ?_)
        · refine kw_aload_n (pc := 68) (i := 35) (k := 1) (n := 0) rfl rfl rfl ?_
          refine kw_get (pc := 69) (i := 36) (v := .ref 8) rfl rfl rfl lkX7_55 (fun _ => rfl) ?_
          refine kw_iconst (pc := 72) (i := 37) (v := 5) rfl rfl ?_
          refine kw_callV (pc := 73) (i := 38) (Y := mX4_refuse) (a := 8) (As := [.int 5]) (st := []) kw_hE rfl rfl lvX7_81 arX4_refuse (c_X4_refuse_8 l σ hI 5 ) (by decide) (Nat.le_of_ble_eq_true rfl) rfl (fun v S34 p33 => ?_)
          obtain ⟨⟨I37, F38⟩, z36, rfl, f35⟩ := p33
          have F39 : kw_F [8, 28] σ S34 := kw_F.tr hF0 F38 (by decide)
          have r_z36 := kw_rng z36
          show kw_AW l 4 kw_E0 KX mX7_pairsRefusal (p_X7_pairsRefusal_0 σ i a) 76 [(3, .int z29), (0, .ref 0), (1, .int i), (2, .int a)] [.int z36] S34
          exact kw_ireturn (pc := 76) (i := 39) (ty := .int) rfl rfl rfl ⟨⟨I37, F39⟩, _, rfl, by omega⟩
        · refine kw_iload_n (pc := 62) (i := 32) (k := 0) (n := 3) rfl rfl rfl ?_
          refine kw_bipush (pc := 63) (i := 33) (v := 20) rfl rfl ?_
          refine kw_icmp_le (pc := 65) (i := 34) (tgt := 77) rfl rfl (fun c40 => ?_) (fun c40 => ?_)
          · refine kw_iconst (pc := 77) (i := 40) (v := 0) rfl rfl ?_
            refine kw_istore (pc := 78) (i := 41) (n := 4) (lv' := [(4, .int 0), (3, .int z29), (0, .ref 0), (1, .int i), (2, .int a)]) rfl (by decide) rfl ?_
            have L42 : ∀ (n46 : Nat) (x41 : Int32), 0 ≤ x41.toInt → (z29.toInt - x41.toInt).toNat < n46 → kw_AW l 4 kw_E0 KX mX7_pairsRefusal (p_X7_pairsRefusal_0 σ i a) 80 [(4, .int x41), (3, .int z29), (0, .ref 0), (1, .int i), (2, .int a)] [] σ := by
              intro n46
              induction n46 with
              | zero => intro x41 v44 m45; exact absurd m45 (Nat.not_lt_zero _)
              | succ n46 ih43 =>
                intro x41 v44 m45
                have r_x41 := kw_rng x41
                refine kw_iload (pc := 80) (i := 42) (k := 0) (n := 4) rfl rfl ?_
                refine kw_iload_n (pc := 82) (i := 43) (k := 1) (n := 3) rfl rfl rfl ?_
                refine kw_icmp_ge (pc := 83) (i := 44) (tgt := 125) rfl rfl (fun c47 => ?_) (fun c47 => ?_)
                · refine kw_iconst (pc := 125) (i := 63) (v := 0) rfl rfl ?_
                  exact kw_ireturn (pc := 126) (i := 64) (ty := .int) rfl rfl rfl ⟨⟨hI, hF0⟩, _, rfl, by omega⟩
                · refine kw_aload_n (pc := 86) (i := 45) (k := 2) (n := 0) rfl rfl rfl ?_
                  refine kw_get (pc := 87) (i := 46) (v := .ref 1) rfl rfl rfl lkX7_14 (fun _ => rfl) ?_
                  refine kw_iload_n (pc := 90) (i := 47) (k := 4) (n := 2) rfl rfl rfl ?_
                  refine kw_iload (pc := 91) (i := 48) (k := 0) (n := 4) rfl rfl ?_
                  refine kw_callV (pc := 93) (i := 49) (Y := mX3_valueAt) (a := 1) (As := [.int a, .int x41]) (st := []) kw_hE rfl rfl lvX7_85 arX3_valueAt (c_X3_valueAt_1 l σ hI a x41 ) (by decide) (Nat.le_of_ble_eq_true rfl) rfl (fun v S49 p48 => ?_)
                  obtain ⟨e51, z50, rfl⟩ := p48
                  rw [e51]
                  have r_z50 := kw_rng z50
                  show kw_AW l 4 kw_E0 KX mX7_pairsRefusal (p_X7_pairsRefusal_0 σ i a) 96 [(4, .int x41), (3, .int z29), (0, .ref 0), (1, .int i), (2, .int a)] [.int z50] σ
                  refine kw_istore (pc := 96) (i := 50) (n := 5) (lv' := [(5, .int z50), (4, .int x41), (3, .int z29), (0, .ref 0), (1, .int i), (2, .int a)]) rfl (by decide) rfl ?_
                  refine kw_iload (pc := 98) (i := 51) (k := 0) (n := 5) rfl rfl ?_
                  refine kw_if_lt (pc := 100) (i := 52) (tgt := 110) rfl rfl (fun c52 => ?_) (fun c52 => ?_)
                  · refine kw_aload_n (pc := 110) (i := 56) (k := 3) (n := 0) rfl rfl rfl ?_
                    refine kw_get (pc := 111) (i := 57) (v := .ref 8) rfl rfl rfl lkX7_55 (fun _ => rfl) ?_
                    refine kw_iconst (pc := 114) (i := 58) (v := 3) rfl rfl ?_
                    refine kw_callV (pc := 115) (i := 59) (Y := mX4_refuse) (a := 8) (As := [.int 3]) (st := []) kw_hE rfl rfl lvX7_81 arX4_refuse (c_X4_refuse_8 l σ hI 3 ) (by decide) (Nat.le_of_ble_eq_true rfl) rfl (fun v S54 p53 => ?_)
                    obtain ⟨⟨I57, F58⟩, z56, rfl, f55⟩ := p53
                    have F59 : kw_F [8, 28] σ S54 := kw_F.tr hF0 F58 (by decide)
                    have r_z56 := kw_rng z56
                    show kw_AW l 4 kw_E0 KX mX7_pairsRefusal (p_X7_pairsRefusal_0 σ i a) 118 [(5, .int z50), (4, .int x41), (3, .int z29), (0, .ref 0), (1, .int i), (2, .int a)] [.int z56] S54
                    exact kw_ireturn (pc := 118) (i := 60) (ty := .int) rfl rfl rfl ⟨⟨I57, F59⟩, _, rfl, by omega⟩
                  · refine kw_iload (pc := 103) (i := 53) (k := 0) (n := 5) rfl rfl ?_
                    refine kw_bipush (pc := 105) (i := 54) (v := 6) rfl rfl ?_
                    refine kw_icmp_le (pc := 107) (i := 55) (tgt := 119) rfl rfl (fun c60 => ?_) (fun c60 => ?_)
                    · refine kw_iinc' (pc := 119) (i := 61) (k := 1) (fun z => [(4, .int z), (5, .int z50), (3, .int z29), (0, .ref 0), (1, .int i), (2, .int a)]) rfl rfl (by decide) rfl (fun _ => rfl) (fun z61 e_z61 t_z61 => ?_)
                      refine kw_goto (pc := 122) (i := 62) (tgt := 80) rfl rfl ?_
                      refine kw_sub (lv' := [(4, .int z61), (3, .int z29), (0, .ref 0), (1, .int i), (2, .int a)]) [0, 2, 3, 4, 5] rfl ?_
                      exact ih43 z61 (by omega) (by omega)
                    · refine kw_aload_n (pc := 110) (i := 56) (k := 3) (n := 0) rfl rfl rfl ?_
                      refine kw_get (pc := 111) (i := 57) (v := .ref 8) rfl rfl rfl lkX7_55 (fun _ => rfl) ?_
                      refine kw_iconst (pc := 114) (i := 58) (v := 3) rfl rfl ?_
                      refine kw_callV (pc := 115) (i := 59) (Y := mX4_refuse) (a := 8) (As := [.int 3]) (st := []) kw_hE rfl rfl lvX7_81 arX4_refuse (c_X4_refuse_8 l σ hI 3 ) (by decide) (Nat.le_of_ble_eq_true rfl) rfl (fun v S63 p62 => ?_)
                      obtain ⟨⟨I66, F67⟩, z65, rfl, f64⟩ := p62
                      have F68 : kw_F [8, 28] σ S63 := kw_F.tr hF0 F67 (by decide)
                      have r_z65 := kw_rng z65
                      show kw_AW l 4 kw_E0 KX mX7_pairsRefusal (p_X7_pairsRefusal_0 σ i a) 118 [(5, .int z50), (4, .int x41), (3, .int z29), (0, .ref 0), (1, .int i), (2, .int a)] [.int z65] S63
                      exact kw_ireturn (pc := 118) (i := 60) (ty := .int) rfl rfl rfl ⟨⟨I66, F68⟩, _, rfl, by omega⟩
            exact L42 _ 0 (by omega) (Nat.lt_succ_self _)
          · refine kw_aload_n (pc := 68) (i := 35) (k := 1) (n := 0) rfl rfl rfl ?_
            refine kw_get (pc := 69) (i := 36) (v := .ref 8) rfl rfl rfl lkX7_55 (fun _ => rfl) ?_
            refine kw_iconst (pc := 72) (i := 37) (v := 5) rfl rfl ?_
            refine kw_callV (pc := 73) (i := 38) (Y := mX4_refuse) (a := 8) (As := [.int 5]) (st := []) kw_hE rfl rfl lvX7_81 arX4_refuse (c_X4_refuse_8 l σ hI 5 ) (by decide) (Nat.le_of_ble_eq_true rfl) rfl (fun v S70 p69 => ?_)
            obtain ⟨⟨I73, F74⟩, z72, rfl, f71⟩ := p69
            have F75 : kw_F [8, 28] σ S70 := kw_F.tr hF0 F74 (by decide)
            have r_z72 := kw_rng z72
            show kw_AW l 4 kw_E0 KX mX7_pairsRefusal (p_X7_pairsRefusal_0 σ i a) 76 [(3, .int z29), (0, .ref 0), (1, .int i), (2, .int a)] [.int z72] S70
            exact kw_ireturn (pc := 76) (i := 39) (ty := .int) rfl rfl rfl ⟨⟨I73, F75⟩, _, rfl, by omega⟩
      · refine kw_aload_n (pc := 38) (i := 18) (k := 0) (n := 0) rfl rfl rfl ?_
        refine kw_get (pc := 39) (i := 19) (v := .ref 8) rfl rfl rfl lkX7_55 (fun _ => rfl) ?_
        refine kw_iconst (pc := 42) (i := 20) (v := 1) rfl rfl ?_
        refine kw_callV (pc := 43) (i := 21) (Y := mX4_refuse) (a := 8) (As := [.int 1]) (st := []) kw_hE rfl rfl lvX7_81 arX4_refuse (c_X4_refuse_8 l σ hI 1 ) (by decide) (Nat.le_of_ble_eq_true rfl) rfl (fun v S77 p76 => ?_)
        obtain ⟨⟨I80, F81⟩, z79, rfl, f78⟩ := p76
        have F82 : kw_F [8, 28] σ S77 := kw_F.tr hF0 F81 (by decide)
        have r_z79 := kw_rng z79
        show kw_AW l 4 kw_E0 KX mX7_pairsRefusal (p_X7_pairsRefusal_0 σ i a) 46 [(0, .ref 0), (1, .int i), (2, .int a)] [.int z79] S77
        exact kw_ireturn (pc := 46) (i := 22) (ty := .int) rfl rfl rfl ⟨⟨I80, F82⟩, _, rfl, by omega⟩
    · refine kw_iconst (pc := 25) (i := 11) (v := (-1)) rfl rfl ?_
      exact kw_ireturn (pc := 26) (i := 12) (ty := .int) rfl rfl rfl ⟨⟨hI, hF0⟩, _, rfl, by omega⟩
abbrev p_X7_pulledSo_0 (σ : kw_S) (a : Int32) (kind : Int32) (area : Int32) : Option Value → kw_S → Prop := fun v σ' => σ' = σ ∧ ∃ r : Int32, v = some (.int r) ∧ (r.toInt = 0 ∨ r.toInt = 1)
set_option maxRecDepth 100000 in
set_option maxHeartbeats 4000000 in
theorem c_X7_pulledSo_0 (l : Launch) (σ : kw_S) (hI : kw_I bX σ) (a : Int32) (kind : Int32) (area : Int32) : kw_Met l 4 KX mX7_pulledSo [.ref 0, .int a, .int kind, .int area] σ (p_X7_pulledSo_0 σ a kind area) := by
  have r_a := kw_rng a
  have r_kind := kw_rng kind
  have r_area := kw_rng area
  have q_0 : (0 : Int32).toInt = 0 := rfl
  have q_1 : (1 : Int32).toInt = 1 := rfl
  refine kw_Met.of (by decide) rfl tX7_pulledSo (Nat.le_of_ble_eq_true rfl) ?_
  show kw_AW l 4 kw_E0 KX mX7_pulledSo (p_X7_pulledSo_0 σ a kind area) 0 [(0, .ref 0), (1, .int a), (2, .int kind), (3, .int area)] [] σ
  refine kw_iconst (pc := 0) (i := 0) (v := 0) rfl rfl ?_
  refine kw_istore (pc := 1) (i := 1) (n := 4) (lv' := [(4, .int 0), (0, .ref 0), (1, .int a), (2, .int kind), (3, .int area)]) rfl (by decide) rfl ?_
  have L2 : ∀ (n7 : Nat) (x1 : Int32), 0 ≤ x1.toInt → x1.toInt ≤ 50 → (60 - x1.toInt).toNat < n7 → kw_AW l 4 kw_E0 KX mX7_pulledSo (p_X7_pulledSo_0 σ a kind area) 3 [(4, .int x1), (0, .ref 0), (1, .int a), (2, .int kind), (3, .int area)] [] σ := by
    intro n7
    induction n7 with
    | zero => intro x1 v4 v5 m6; exact absurd m6 (Nat.not_lt_zero _)
    | succ n7 ih3 =>
      intro x1 v4 v5 m6
      have r_x1 := kw_rng x1
      refine kw_iload (pc := 3) (i := 2) (k := 0) (n := 4) rfl rfl ?_
      refine kw_iconst (pc := 5) (i := 3) (v := 1) rfl rfl ?_
      refine kw_iadd (pc := 6) (i := 4) rfl (fun z8 e_z8 t_z8 => ?_)
      refine kw_aload_n (pc := 7) (i := 5) (k := 1) (n := 0) rfl rfl rfl ?_
      refine kw_get (pc := 8) (i := 6) (v := .ref 1) rfl rfl rfl lkX7_14 (fun _ => rfl) ?_
      refine kw_iload_n (pc := 11) (i := 7) (k := 2) (n := 1) rfl rfl rfl ?_
      refine kw_callV (pc := 12) (i := 8) (Y := mX3_sizeOf) (a := 1) (As := [.int a]) (st := [.int z8]) kw_hE rfl rfl lvX7_110 arX3_sizeOf (c_X3_sizeOf_1 l σ hI a ) (by decide) (Nat.le_of_ble_eq_true rfl) rfl (fun v S10 p9 => ?_)
      obtain ⟨e16, z15, rfl, f11, f12, f13, f14⟩ := p9
      rw [e16]
      have r_z15 := kw_rng z15
      show kw_AW l 4 kw_E0 KX mX7_pulledSo (p_X7_pulledSo_0 σ a kind area) 15 [(4, .int x1), (0, .ref 0), (1, .int a), (2, .int kind), (3, .int area)] [.int z15, .int z8] σ
      refine kw_icmp_ge (pc := 15) (i := 9) (tgt := 56) rfl rfl (fun c17 => ?_) (fun c17 => ?_)
      · refine kw_iconst (pc := 56) (i := 30) (v := 1) rfl rfl ?_
        exact kw_ireturn (pc := 57) (i := 31) (ty := .boolean) rfl rfl rfl ⟨rfl, _, rfl, by omega⟩
      · refine kw_iload_n (pc := 18) (i := 10) (k := 3) (n := 2) rfl rfl rfl ?_
        refine kw_iload_n (pc := 19) (i := 11) (k := 4) (n := 3) rfl rfl rfl ?_
        refine kw_aload_n (pc := 20) (i := 12) (k := 1) (n := 0) rfl rfl rfl ?_
        refine kw_get (pc := 21) (i := 13) (v := .ref 1) rfl rfl rfl lkX7_14 (fun _ => rfl) ?_
        refine kw_iload_n (pc := 24) (i := 14) (k := 2) (n := 1) rfl rfl rfl ?_
        refine kw_iload (pc := 25) (i := 15) (k := 0) (n := 4) rfl rfl ?_
        refine kw_callV (pc := 27) (i := 16) (Y := mX3_valueAt) (a := 1) (As := [.int a, .int x1]) (st := [.int area, .int kind]) kw_hE rfl rfl lvX7_85 arX3_valueAt (c_X3_valueAt_1 l σ hI a x1 ) (by decide) (Nat.le_of_ble_eq_true rfl) rfl (fun v S19 p18 => ?_)
        obtain ⟨e21, z20, rfl⟩ := p18
        rw [e21]
        have r_z20 := kw_rng z20
        show kw_AW l 4 kw_E0 KX mX7_pulledSo (p_X7_pulledSo_0 σ a kind area) 30 [(4, .int x1), (0, .ref 0), (1, .int a), (2, .int kind), (3, .int area)] [.int z20, .int area, .int kind] σ
        refine kw_callS (pc := 30) (i := 17) (Y := mX7_pull) (As := [.int kind, .int area, .int z20]) (st := []) kw_hE rfl lsX7_174 arX7_pull (c_X7_pull l σ hI kind area z20 ) (by decide) (Nat.le_of_ble_eq_true rfl) rfl (fun v S23 p22 => ?_)
        obtain ⟨e25, z24, rfl⟩ := p22
        rw [e25]
        have r_z24 := kw_rng z24
        show kw_AW l 4 kw_E0 KX mX7_pulledSo (p_X7_pulledSo_0 σ a kind area) 33 [(4, .int x1), (0, .ref 0), (1, .int a), (2, .int kind), (3, .int area)] [.int z24] σ
        refine kw_aload_n (pc := 33) (i := 18) (k := 1) (n := 0) rfl rfl rfl ?_
        refine kw_get (pc := 34) (i := 19) (v := .ref 1) rfl rfl rfl lkX7_14 (fun _ => rfl) ?_
        refine kw_iload_n (pc := 37) (i := 20) (k := 2) (n := 1) rfl rfl rfl ?_
        refine kw_iload (pc := 38) (i := 21) (k := 0) (n := 4) rfl rfl ?_
        refine kw_iconst (pc := 40) (i := 22) (v := 1) rfl rfl ?_
        refine kw_iadd (pc := 41) (i := 23) rfl (fun z26 e_z26 t_z26 => ?_)
        refine kw_callV (pc := 42) (i := 24) (Y := mX3_valueAt) (a := 1) (As := [.int a, .int z26]) (st := [.int z24]) kw_hE rfl rfl lvX7_85 arX3_valueAt (c_X3_valueAt_1 l σ hI a z26 ) (by decide) (Nat.le_of_ble_eq_true rfl) rfl (fun v S28 p27 => ?_)
        obtain ⟨e30, z29, rfl⟩ := p27
        rw [e30]
        have r_z29 := kw_rng z29
        show kw_AW l 4 kw_E0 KX mX7_pulledSo (p_X7_pulledSo_0 σ a kind area) 45 [(4, .int x1), (0, .ref 0), (1, .int a), (2, .int kind), (3, .int area)] [.int z29, .int z24] σ
        refine kw_icmp_eq (pc := 45) (i := 25) (tgt := 50) rfl rfl (fun c31 => ?_) (fun c31 => ?_)
        · refine kw_iinc' (pc := 50) (i := 28) (k := 0) (fun z => [(4, .int z), (0, .ref 0), (1, .int a), (2, .int kind), (3, .int area)]) rfl rfl (by decide) rfl (fun _ => rfl) (fun z32 e_z32 t_z32 => ?_)
          refine kw_goto (pc := 53) (i := 29) (tgt := 3) rfl rfl ?_
          refine kw_sub (lv' := [(4, .int z32), (0, .ref 0), (1, .int a), (2, .int kind), (3, .int area)]) [0, 1, 2, 3, 4] rfl ?_
          exact ih3 z32 (by omega) (by omega) (by omega)
        · refine kw_iconst (pc := 48) (i := 26) (v := 0) rfl rfl ?_
          exact kw_ireturn (pc := 49) (i := 27) (ty := .boolean) rfl rfl rfl ⟨rfl, _, rfl, by omega⟩
  exact L2 _ 0 (by omega) (by omega) (Nat.lt_succ_self _)
abbrev p_X7_mostMilesBehind_0 (σ : kw_S) (h : Int32) (u : Int32) : Option Value → kw_S → Prop := fun v σ' => σ' = σ ∧ ∃ r : Int32, v = some (.int r)
set_option maxRecDepth 100000 in
set_option maxHeartbeats 4000000 in
theorem c_X7_mostMilesBehind_0 (l : Launch) (σ : kw_S) (hI : kw_I bX σ) (h : Int32) (u : Int32) : kw_Met l 4 KX mX7_mostMilesBehind [.ref 0, .int h, .int u] σ (p_X7_mostMilesBehind_0 σ h u) := by
  have r_h := kw_rng h
  have r_u := kw_rng u
  have q_0 : (0 : Int32).toInt = 0 := rfl
  refine kw_Met.of (by decide) rfl tX7_mostMilesBehind (Nat.le_of_ble_eq_true rfl) ?_
  show kw_AW l 4 kw_E0 KX mX7_mostMilesBehind (p_X7_mostMilesBehind_0 σ h u) 0 [(0, .ref 0), (1, .int h), (2, .int u)] [] σ
  refine kw_aload_n (pc := 0) (i := 0) (k := 0) (n := 0) rfl rfl rfl ?_
  refine kw_get (pc := 1) (i := 1) (v := .ref 4) rfl rfl rfl lkX7_31 (fun _ => rfl) ?_
  refine kw_get (pc := 4) (i := 2) (v := .int (σ.1 4 6)) rfl rfl rfl lkX7_204 (fun _ => rfl) ?_
  have b1 := kw_rng (σ.1 4 6)
  refine kw_istore_n (pc := 7) (i := 3) (n := 3) (lv' := [(3, .int (σ.1 4 6)), (0, .ref 0), (1, .int h), (2, .int u)]) rfl rfl (by decide) rfl ?_
  refine kw_iconst (pc := 8) (i := 4) (v := 0) rfl rfl ?_
  refine kw_istore (pc := 9) (i := 5) (n := 4) (lv' := [(4, .int 0), (3, .int (σ.1 4 6)), (0, .ref 0), (1, .int h), (2, .int u)]) rfl (by decide) rfl ?_
  have L4 : ∀ (n8 : Nat) (x2 : Int32) (x3 : Int32), 0 ≤ x2.toInt → (h.toInt - x2.toInt).toNat < n8 → kw_AW l 4 kw_E0 KX mX7_mostMilesBehind (p_X7_mostMilesBehind_0 σ h u) 11 [(4, .int x2), (3, .int x3), (0, .ref 0), (1, .int h), (2, .int u)] [] σ := by
    intro n8
    induction n8 with
    | zero => intro x2 x3 v6 m7; exact absurd m7 (Nat.not_lt_zero _)
    | succ n8 ih5 =>
      intro x2 x3 v6 m7
      have r_x2 := kw_rng x2
      have r_x3 := kw_rng x3
      refine kw_iload (pc := 11) (i := 6) (k := 0) (n := 4) rfl rfl ?_
      refine kw_iload_n (pc := 13) (i := 7) (k := 3) (n := 1) rfl rfl rfl ?_
      refine kw_icmp_ge (pc := 14) (i := 8) (tgt := 46) rfl rfl (fun c9 => ?_) (fun c9 => ?_)
      · refine kw_iload_n (pc := 46) (i := 23) (k := 1) (n := 3) rfl rfl rfl ?_
        exact kw_ireturn (pc := 47) (i := 24) (ty := .int) rfl rfl rfl ⟨rfl, _, rfl⟩
      · refine kw_iload_n (pc := 17) (i := 9) (k := 1) (n := 3) rfl rfl rfl ?_
        refine kw_aload_n (pc := 18) (i := 10) (k := 2) (n := 0) rfl rfl rfl ?_
        refine kw_get (pc := 19) (i := 11) (v := .ref 4) rfl rfl rfl lkX7_31 (fun _ => rfl) ?_
        refine kw_get (pc := 22) (i := 12) (v := .ref 17) rfl rfl rfl lkX7_117 (fun _ => rfl) ?_
        refine kw_iload_n (pc := 25) (i := 13) (k := 4) (n := 2) rfl rfl rfl ?_
        refine kw_aload_n (pc := 26) (i := 14) (k := 2) (n := 0) rfl rfl rfl ?_
        refine kw_get (pc := 27) (i := 15) (v := .ref 4) rfl rfl rfl lkX7_31 (fun _ => rfl) ?_
        refine kw_iload (pc := 30) (i := 16) (k := 0) (n := 4) rfl rfl ?_
        refine kw_callV (pc := 32) (i := 17) (Y := mX5_windAhead) (a := 4) (As := [.int x2]) (st := [.int u, .ref 17, .int x3]) kw_hE rfl rfl lvX7_253 arX5_windAhead (c_X5_windAhead_4 l σ hI x2 ) (by decide) (Nat.le_of_ble_eq_true rfl) rfl (fun v S11 p10 => ?_)
        obtain ⟨e13, z12, rfl⟩ := p10
        rw [e13]
        have r_z12 := kw_rng z12
        show kw_AW l 4 kw_E0 KX mX7_mostMilesBehind (p_X7_mostMilesBehind_0 σ h u) 35 [(4, .int x2), (3, .int x3), (0, .ref 0), (1, .int h), (2, .int u)] [.int z12, .int u, .ref 17, .int x3] σ
        refine kw_callV (pc := 35) (i := 18) (Y := mX1_mostMilesOf) (a := 17) (As := [.int u, .int z12]) (st := [.int x3]) kw_hE rfl rfl lvX7_276 arX1_mostMilesOf (c_X1_mostMilesOf_17 l σ hI u z12 ) (by decide) (Nat.le_of_ble_eq_true rfl) rfl (fun v S15 p14 => ?_)
        obtain ⟨e17, z16, rfl⟩ := p14
        rw [e17]
        have r_z16 := kw_rng z16
        show kw_AW l 4 kw_E0 KX mX7_mostMilesBehind (p_X7_mostMilesBehind_0 σ h u) 38 [(4, .int x2), (3, .int x3), (0, .ref 0), (1, .int h), (2, .int u)] [.int z16, .int x3] σ
        refine kw_iadd (pc := 38) (i := 19) rfl (fun z18 e_z18 t_z18 => ?_)
        refine kw_istore_n (pc := 39) (i := 20) (n := 3) (lv' := [(3, .int z18), (4, .int x2), (0, .ref 0), (1, .int h), (2, .int u)]) rfl rfl (by decide) rfl ?_
        refine kw_iinc' (pc := 40) (i := 21) (k := 1) (fun z => [(4, .int z), (3, .int z18), (0, .ref 0), (1, .int h), (2, .int u)]) rfl rfl (by decide) rfl (fun _ => rfl) (fun z19 e_z19 t_z19 => ?_)
        refine kw_goto (pc := 43) (i := 22) (tgt := 11) rfl rfl ?_
        refine kw_sub (lv' := [(4, .int z19), (3, .int z18), (0, .ref 0), (1, .int h), (2, .int u)]) [0, 1, 2, 3, 4] rfl ?_
        exact ih5 z19 z18 (by omega) (by omega)
  exact L4 _ 0 (σ.1 4 6) (by omega) (Nat.lt_succ_self _)
abbrev p_X7_foresee_0 (σ : kw_S) (a : Int32) : Option Value → kw_S → Prop := fun v σ' => (kw_I bX σ' ∧ kw_F [10, 11] σ σ') ∧ v = none
set_option maxRecDepth 100000 in
set_option maxHeartbeats 4000000 in
theorem c_X7_foresee_0 (l : Launch) (σ : kw_S) (hI : kw_I bX σ) (a : Int32) : kw_Met l 4 KX mX7_foresee [.ref 0, .int a] σ (p_X7_foresee_0 σ a) := by
  have r_a := kw_rng a
  have hF0 : kw_F [10, 11] σ σ := kw_F.rf
  have q_0 : (0 : Int32).toInt = 0 := rfl
  have q_1 : (1 : Int32).toInt = 1 := rfl
  have q_6 : (6 : Int32).toInt = 6 := rfl
  refine kw_Met.of (by decide) rfl tX7_foresee (Nat.le_of_ble_eq_true rfl) ?_
  show kw_AW l 4 kw_E0 KX mX7_foresee (p_X7_foresee_0 σ a) 0 [(0, .ref 0), (1, .int a)] [] σ
  refine kw_iconst (pc := 0) (i := 0) (v := 0) rfl rfl ?_
  refine kw_istore_n (pc := 1) (i := 1) (n := 2) (lv' := [(2, .int 0), (0, .ref 0), (1, .int a)]) rfl rfl (by decide) rfl ?_
  have L5 : ∀ (n9 : Nat) (x1 : Int32) (S2 : kw_S), kw_I bX S2 → kw_F [10, 11] σ S2 → 0 ≤ x1.toInt → (7 - x1.toInt).toNat < n9 → kw_AW l 4 kw_E0 KX mX7_foresee (p_X7_foresee_0 σ a) 2 [(2, .int x1), (0, .ref 0), (1, .int a)] [] S2 := by
    intro n9
    induction n9 with
    | zero => intro x1 S2 I3 F4 v7 m8; exact absurd m8 (Nat.not_lt_zero _)
    | succ n9 ih6 =>
      intro x1 S2 I3 F4 v7 m8
      have r_x1 := kw_rng x1
      refine kw_iload_n (pc := 2) (i := 2) (k := 0) (n := 2) rfl rfl rfl ?_
      refine kw_aload_n (pc := 3) (i := 3) (k := 1) (n := 0) rfl rfl rfl ?_
      refine kw_get (pc := 4) (i := 4) (v := .ref 1) rfl rfl rfl lkX7_14 (fun _ => rfl) ?_
      refine kw_iload_n (pc := 7) (i := 5) (k := 2) (n := 1) rfl rfl rfl ?_
      refine kw_callV (pc := 8) (i := 6) (Y := mX3_sizeOf) (a := 1) (As := [.int a]) (st := [.int x1]) kw_hE rfl rfl lvX7_110 arX3_sizeOf (c_X3_sizeOf_1 l S2 I3 a ) (by decide) (Nat.le_of_ble_eq_true rfl) rfl (fun v S11 p10 => ?_)
      obtain ⟨e17, z16, rfl, f12, f13, f14, f15⟩ := p10
      rw [e17]
      have r_z16 := kw_rng z16
      show kw_AW l 4 kw_E0 KX mX7_foresee (p_X7_foresee_0 σ a) 11 [(2, .int x1), (0, .ref 0), (1, .int a)] [.int z16, .int x1] S2
      refine kw_icmp_ge (pc := 11) (i := 7) (tgt := 88) rfl rfl (fun c18 => ?_) (fun c18 => ?_)
      · exact kw_return (pc := 88) (i := 47) rfl rfl ⟨⟨I3, F4⟩, rfl⟩
      · refine kw_iload_n (pc := 14) (i := 8) (k := 0) (n := 2) rfl rfl rfl ?_
        refine kw_bipush (pc := 15) (i := 9) (v := 6) rfl rfl ?_
        refine kw_icmp_ge (pc := 17) (i := 10) (tgt := 88) rfl rfl (fun c19 => ?_) (fun c19 => ?_)
        · exact kw_return (pc := 88) (i := 47) rfl rfl ⟨⟨I3, F4⟩, rfl⟩
        · refine kw_aload_n (pc := 20) (i := 11) (k := 1) (n := 0) rfl rfl rfl ?_
          refine kw_get (pc := 21) (i := 12) (v := .ref 1) rfl rfl rfl lkX7_14 (fun _ => rfl) ?_
          refine kw_iload_n (pc := 24) (i := 13) (k := 2) (n := 1) rfl rfl rfl ?_
          refine kw_iload_n (pc := 25) (i := 14) (k := 0) (n := 2) rfl rfl rfl ?_
          refine kw_callV (pc := 26) (i := 15) (Y := mX3_valueAt) (a := 1) (As := [.int a, .int x1]) (st := []) kw_hE rfl rfl lvX7_85 arX3_valueAt (c_X3_valueAt_1 l S2 I3 a x1 ) (by decide) (Nat.le_of_ble_eq_true rfl) rfl (fun v S21 p20 => ?_)
          obtain ⟨e23, z22, rfl⟩ := p20
          rw [e23]
          have r_z22 := kw_rng z22
          show kw_AW l 4 kw_E0 KX mX7_foresee (p_X7_foresee_0 σ a) 29 [(2, .int x1), (0, .ref 0), (1, .int a)] [.int z22] S2
          refine kw_istore_n (pc := 29) (i := 16) (n := 3) (lv' := [(3, .int z22), (2, .int x1), (0, .ref 0), (1, .int a)]) rfl rfl (by decide) rfl ?_
          refine kw_aload_n (pc := 30) (i := 17) (k := 2) (n := 0) rfl rfl rfl ?_
          refine kw_get (pc := 31) (i := 18) (v := .ref 10) rfl rfl rfl lkX7_63 (fun _ => rfl) ?_
          refine kw_iload_n (pc := 34) (i := 19) (k := 1) (n := 2) rfl rfl rfl ?_
          refine kw_aload_n (pc := 35) (i := 20) (k := 2) (n := 0) rfl rfl rfl ?_
          refine kw_get (pc := 36) (i := 21) (v := .ref 4) rfl rfl rfl lkX7_31 (fun _ => rfl) ?_
          refine kw_get (pc := 39) (i := 22) (v := .ref 17) rfl rfl rfl lkX7_117 (fun _ => rfl) ?_
          refine kw_iload_n (pc := 42) (i := 23) (k := 0) (n := 3) rfl rfl rfl ?_
          refine kw_aload_n (pc := 43) (i := 24) (k := 2) (n := 0) rfl rfl rfl ?_
          refine kw_get (pc := 44) (i := 25) (v := .ref 4) rfl rfl rfl lkX7_31 (fun _ => rfl) ?_
          refine kw_iload_n (pc := 47) (i := 26) (k := 1) (n := 2) rfl rfl rfl ?_
          refine kw_callV (pc := 48) (i := 27) (Y := mX5_windAhead) (a := 4) (As := [.int x1]) (st := [.int z22, .ref 17, .int x1, .ref 10]) kw_hE rfl rfl lvX7_253 arX5_windAhead (c_X5_windAhead_4 l S2 I3 x1 ) (by decide) (Nat.le_of_ble_eq_true rfl) rfl (fun v S25 p24 => ?_)
          obtain ⟨e27, z26, rfl⟩ := p24
          rw [e27]
          have r_z26 := kw_rng z26
          show kw_AW l 4 kw_E0 KX mX7_foresee (p_X7_foresee_0 σ a) 51 [(3, .int z22), (2, .int x1), (0, .ref 0), (1, .int a)] [.int z26, .int z22, .ref 17, .int x1, .ref 10] S2
          refine kw_callV (pc := 51) (i := 28) (Y := mX1_milesOf) (a := 17) (As := [.int z22, .int z26]) (st := [.int x1, .ref 10]) kw_hE rfl rfl lvX7_222 arX1_milesOf (c_X1_milesOf_17 l S2 I3 z22 z26 ) (by decide) (Nat.le_of_ble_eq_true rfl) rfl (fun v S29 p28 => ?_)
          obtain ⟨e31, z30, rfl⟩ := p28
          rw [e31]
          have r_z30 := kw_rng z30
          show kw_AW l 4 kw_E0 KX mX7_foresee (p_X7_foresee_0 σ a) 54 [(3, .int z22), (2, .int x1), (0, .ref 0), (1, .int a)] [.int z30, .int x1, .ref 10] S2
          refine kw_iast (pc := 54) (i := 29) (n := 6) rfl rfl (by omega) (by omega) ?_
          have I32 : kw_I bX (kw_ui S2 10 x1.toNatClampNeg z30) := kw_I_ui I3 (kw_rng z30).1 (Int.le_of_lt_add_one (kw_rng z30).2)
          have F33 : kw_F [10, 11] σ (kw_ui S2 10 x1.toNatClampNeg z30) := kw_F_ui F4 (by decide)
          refine kw_aload_n (pc := 55) (i := 30) (k := 2) (n := 0) rfl rfl rfl ?_
          refine kw_get (pc := 56) (i := 31) (v := .ref 11) rfl rfl rfl lkX7_66 (fun _ => rfl) ?_
          refine kw_iload_n (pc := 59) (i := 32) (k := 1) (n := 2) rfl rfl rfl ?_
          refine kw_aload_n (pc := 60) (i := 33) (k := 2) (n := 0) rfl rfl rfl ?_
          refine kw_get (pc := 61) (i := 34) (v := .ref 4) rfl rfl rfl lkX7_31 (fun _ => rfl) ?_
          refine kw_get (pc := 64) (i := 35) (v := .ref 17) rfl rfl rfl lkX7_117 (fun _ => rfl) ?_
          refine kw_iload_n (pc := 67) (i := 36) (k := 0) (n := 3) rfl rfl rfl ?_
          refine kw_aload_n (pc := 68) (i := 37) (k := 2) (n := 0) rfl rfl rfl ?_
          refine kw_get (pc := 69) (i := 38) (v := .ref 4) rfl rfl rfl lkX7_31 (fun _ => rfl) ?_
          refine kw_iload_n (pc := 72) (i := 39) (k := 1) (n := 2) rfl rfl rfl ?_
          refine kw_callV (pc := 73) (i := 40) (Y := mX5_windAhead) (a := 4) (As := [.int x1]) (st := [.int z22, .ref 17, .int x1, .ref 11]) kw_hE rfl rfl lvX7_253 arX5_windAhead (c_X5_windAhead_4 l (kw_ui S2 10 x1.toNatClampNeg z30) I32 x1 ) (by decide) (Nat.le_of_ble_eq_true rfl) rfl (fun v S35 p34 => ?_)
          obtain ⟨e37, z36, rfl⟩ := p34
          rw [e37]
          have r_z36 := kw_rng z36
          show kw_AW l 4 kw_E0 KX mX7_foresee (p_X7_foresee_0 σ a) 76 [(3, .int z22), (2, .int x1), (0, .ref 0), (1, .int a)] [.int z36, .int z22, .ref 17, .int x1, .ref 11] (kw_ui S2 10 x1.toNatClampNeg z30)
          refine kw_iconst (pc := 76) (i := 41) (v := 1) rfl rfl ?_
          refine kw_iadd (pc := 77) (i := 42) rfl (fun z38 e_z38 t_z38 => ?_)
          refine kw_callV (pc := 78) (i := 43) (Y := mX1_milesOf) (a := 17) (As := [.int z22, .int z38]) (st := [.int x1, .ref 11]) kw_hE rfl rfl lvX7_222 arX1_milesOf (c_X1_milesOf_17 l (kw_ui S2 10 x1.toNatClampNeg z30) I32 z22 z38 ) (by decide) (Nat.le_of_ble_eq_true rfl) rfl (fun v S40 p39 => ?_)
          obtain ⟨e42, z41, rfl⟩ := p39
          rw [e42]
          have r_z41 := kw_rng z41
          show kw_AW l 4 kw_E0 KX mX7_foresee (p_X7_foresee_0 σ a) 81 [(3, .int z22), (2, .int x1), (0, .ref 0), (1, .int a)] [.int z41, .int x1, .ref 11] (kw_ui S2 10 x1.toNatClampNeg z30)
          refine kw_iast (pc := 81) (i := 44) (n := 6) rfl rfl (by omega) (by omega) ?_
          have I43 : kw_I bX (kw_ui (kw_ui S2 10 x1.toNatClampNeg z30) 11 x1.toNatClampNeg z41) := kw_I_ui I32 (kw_rng z41).1 (Int.le_of_lt_add_one (kw_rng z41).2)
          have F44 : kw_F [10, 11] σ (kw_ui (kw_ui S2 10 x1.toNatClampNeg z30) 11 x1.toNatClampNeg z41) := kw_F_ui F33 (by decide)
          refine kw_iinc' (pc := 82) (i := 45) (k := 1) (fun z => [(2, .int z), (3, .int z22), (0, .ref 0), (1, .int a)]) rfl rfl (by decide) rfl (fun _ => rfl) (fun z45 e_z45 t_z45 => ?_)
          refine kw_goto (pc := 85) (i := 46) (tgt := 2) rfl rfl ?_
          refine kw_sub (lv' := [(2, .int z45), (0, .ref 0), (1, .int a)]) [0, 2, 3] rfl ?_
          exact ih6 z45 (kw_ui (kw_ui S2 10 x1.toNatClampNeg z30) 11 x1.toNatClampNeg z41) I43 F44 (by omega) (by omega)
  exact L5 _ 0 σ hI hF0 (by omega) (Nat.lt_succ_self _)
abbrev p_X7_milesByGusts_0 (σ : kw_S) (h : Int32) (u : Int32) : Option Value → kw_S → Prop := fun v σ' => σ' = σ ∧ ∃ r : Int32, v = some (.int r)
set_option maxRecDepth 100000 in
set_option maxHeartbeats 4000000 in
theorem c_X7_milesByGusts_0 (l : Launch) (σ : kw_S) (hI : kw_I bX σ) (h : Int32) (u : Int32) (hp0 : h.toInt ≤ 6) : kw_Met l 1 KX mX7_milesByGusts [.ref 0, .int h, .int u] σ (p_X7_milesByGusts_0 σ h u) := by
  have r_h := kw_rng h
  have r_u := kw_rng u
  have q_0 : (0 : Int32).toInt = 0 := rfl
  have q_1 : (1 : Int32).toInt = 1 := rfl
  refine kw_Met.of (by decide) rfl tX7_milesByGusts (Nat.le_of_ble_eq_true rfl) ?_
  show kw_AW l 1 kw_E0 KX mX7_milesByGusts (p_X7_milesByGusts_0 σ h u) 0 [(0, .ref 0), (1, .int h), (2, .int u)] [] σ
  refine kw_aload_n (pc := 0) (i := 0) (k := 0) (n := 0) rfl rfl rfl ?_
  refine kw_get (pc := 1) (i := 1) (v := .ref 4) rfl rfl rfl lkX7_31 (fun _ => rfl) ?_
  refine kw_get (pc := 4) (i := 2) (v := .int (σ.1 4 6)) rfl rfl rfl lkX7_204 (fun _ => rfl) ?_
  have b1 := kw_rng (σ.1 4 6)
  refine kw_istore_n (pc := 7) (i := 3) (n := 3) (lv' := [(3, .int (σ.1 4 6)), (0, .ref 0), (1, .int h), (2, .int u)]) rfl rfl (by decide) rfl ?_
  refine kw_iconst (pc := 8) (i := 4) (v := 0) rfl rfl ?_
  refine kw_istore (pc := 9) (i := 5) (n := 4) (lv' := [(4, .int 0), (3, .int (σ.1 4 6)), (0, .ref 0), (1, .int h), (2, .int u)]) rfl (by decide) rfl ?_
  have L4 : ∀ (n8 : Nat) (x2 : Int32) (x3 : Int32), 0 ≤ x2.toInt → (h.toInt - x2.toInt).toNat < n8 → kw_AW l 1 kw_E0 KX mX7_milesByGusts (p_X7_milesByGusts_0 σ h u) 11 [(4, .int x2), (3, .int x3), (0, .ref 0), (1, .int h), (2, .int u)] [] σ := by
    intro n8
    induction n8 with
    | zero => intro x2 x3 v6 m7; exact absurd m7 (Nat.not_lt_zero _)
    | succ n8 ih5 =>
      intro x2 x3 v6 m7
      have r_x2 := kw_rng x2
      have r_x3 := kw_rng x3
      refine kw_iload (pc := 11) (i := 6) (k := 0) (n := 4) rfl rfl ?_
      refine kw_iload_n (pc := 13) (i := 7) (k := 3) (n := 1) rfl rfl rfl ?_
      refine kw_icmp_ge (pc := 14) (i := 8) (tgt := 53) rfl rfl (fun c9 => ?_) (fun c9 => ?_)
      · refine kw_iload_n (pc := 53) (i := 30) (k := 1) (n := 3) rfl rfl rfl ?_
        exact kw_ireturn (pc := 54) (i := 31) (ty := .int) rfl rfl rfl ⟨rfl, _, rfl⟩
      · refine kw_iload_n (pc := 17) (i := 9) (k := 1) (n := 3) rfl rfl rfl ?_
        refine kw_iload_n (pc := 18) (i := 10) (k := 4) (n := 2) rfl rfl rfl ?_
        refine kw_iload (pc := 19) (i := 11) (k := 0) (n := 4) rfl rfl ?_
        refine kw_ishr (pc := 21) (i := 12) rfl (fun z10 e_z10 => ?_)
        have r_z10 := kw_rng z10
        refine kw_iconst (pc := 22) (i := 13) (v := 1) rfl rfl ?_
        refine kw_iand (pc := 23) (i := 14) rfl (fun z11 e_z11 => ?_)
        have r_z11 := kw_rng z11
        refine kw_iconst (pc := 24) (i := 15) (v := 1) rfl rfl ?_
        refine kw_icmp_ne (pc := 25) (i := 16) (tgt := 38) rfl rfl (fun c12 => ?_) (fun c12 => ?_)
        · refine kw_aload_n (pc := 38) (i := 22) (k := 2) (n := 0) rfl rfl rfl ?_
          refine kw_get (pc := 39) (i := 23) (v := .ref 10) rfl rfl rfl lkX7_63 (fun _ => rfl) ?_
          refine kw_iload (pc := 42) (i := 24) (k := 0) (n := 4) rfl rfl ?_
          refine kw_iald (pc := 44) (i := 25) (n := 6) rfl rfl (by omega) (by omega) (fun z13 e_z13 => ?_)
          have t_z13 := congrArg Int32.toInt e_z13
          have r_z13 := kw_rng z13
          refine kw_iadd (pc := 45) (i := 26) rfl (fun z14 e_z14 t_z14 => ?_)
          refine kw_istore_n (pc := 46) (i := 27) (n := 3) (lv' := [(3, .int z14), (4, .int x2), (0, .ref 0), (1, .int h), (2, .int u)]) rfl rfl (by decide) rfl ?_
          refine kw_iinc' (pc := 47) (i := 28) (k := 1) (fun z => [(4, .int z), (3, .int z14), (0, .ref 0), (1, .int h), (2, .int u)]) rfl rfl (by decide) rfl (fun _ => rfl) (fun z15 e_z15 t_z15 => ?_)
          refine kw_goto (pc := 50) (i := 29) (tgt := 11) rfl rfl ?_
          refine kw_sub (lv' := [(4, .int z15), (3, .int z14), (0, .ref 0), (1, .int h), (2, .int u)]) [0, 1, 2, 3, 4] rfl ?_
          exact ih5 z15 z14 (by omega) (by omega)
        · refine kw_aload_n (pc := 28) (i := 17) (k := 2) (n := 0) rfl rfl rfl ?_
          refine kw_get (pc := 29) (i := 18) (v := .ref 11) rfl rfl rfl lkX7_66 (fun _ => rfl) ?_
          refine kw_iload (pc := 32) (i := 19) (k := 0) (n := 4) rfl rfl ?_
          refine kw_iald (pc := 34) (i := 20) (n := 6) rfl rfl (by omega) (by omega) (fun z16 e_z16 => ?_)
          have t_z16 := congrArg Int32.toInt e_z16
          have r_z16 := kw_rng z16
          refine kw_goto (pc := 35) (i := 21) (tgt := 45) rfl rfl ?_
          refine kw_iadd (pc := 45) (i := 26) rfl (fun z17 e_z17 t_z17 => ?_)
          refine kw_istore_n (pc := 46) (i := 27) (n := 3) (lv' := [(3, .int z17), (4, .int x2), (0, .ref 0), (1, .int h), (2, .int u)]) rfl rfl (by decide) rfl ?_
          refine kw_iinc' (pc := 47) (i := 28) (k := 1) (fun z => [(4, .int z), (3, .int z17), (0, .ref 0), (1, .int h), (2, .int u)]) rfl rfl (by decide) rfl (fun _ => rfl) (fun z18 e_z18 t_z18 => ?_)
          refine kw_goto (pc := 50) (i := 29) (tgt := 11) rfl rfl ?_
          refine kw_sub (lv' := [(4, .int z18), (3, .int z17), (0, .ref 0), (1, .int h), (2, .int u)]) [0, 1, 2, 3, 4] rfl ?_
          exact ih5 z18 z17 (by omega) (by omega)
  exact L4 _ 0 (σ.1 4 6) (by omega) (Nat.lt_succ_self _)
abbrev p_X7_drySet_0_19 (σ : kw_S)  : Option Value → kw_S → Prop := fun v σ' => σ' = σ ∧ ∃ r : Int32, v = some (.int r)
set_option maxRecDepth 100000 in
set_option maxHeartbeats 4000000 in
theorem c_X7_drySet_0_19 (l : Launch) (σ : kw_S) (hI : kw_I bX σ)  : kw_Met l 1 KX mX7_drySet [.ref 0, .ref 19] σ (p_X7_drySet_0_19 σ) := by
  have q_0 : (0 : Int32).toInt = 0 := rfl
  have q_1 : (1 : Int32).toInt = 1 := rfl
  refine kw_Met.of (by decide) rfl tX7_drySet (Nat.le_of_ble_eq_true rfl) ?_
  show kw_AW l 1 kw_E0 KX mX7_drySet (p_X7_drySet_0_19 σ) 0 [(0, .ref 0), (1, .ref 19)] [] σ
  refine kw_iconst (pc := 0) (i := 0) (v := 0) rfl rfl ?_
  refine kw_istore_n (pc := 1) (i := 1) (n := 2) (lv' := [(2, .int 0), (0, .ref 0), (1, .ref 19)]) rfl rfl (by decide) rfl ?_
  refine kw_iconst (pc := 2) (i := 2) (v := 0) rfl rfl ?_
  refine kw_istore_n (pc := 3) (i := 3) (n := 3) (lv' := [(3, .int 0), (2, .int 0), (0, .ref 0), (1, .ref 19)]) rfl rfl (by decide) rfl ?_
  have L3 : ∀ (n7 : Nat) (x1 : Int32) (x2 : Int32), 0 ≤ x1.toInt → (7 - x1.toInt).toNat < n7 → kw_AW l 1 kw_E0 KX mX7_drySet (p_X7_drySet_0_19 σ) 4 [(3, .int x1), (2, .int x2), (0, .ref 0), (1, .ref 19)] [] σ := by
    intro n7
    induction n7 with
    | zero => intro x1 x2 v5 m6; exact absurd m6 (Nat.not_lt_zero _)
    | succ n7 ih4 =>
      intro x1 x2 v5 m6
      have r_x1 := kw_rng x1
      have r_x2 := kw_rng x2
      refine kw_iload_n (pc := 4) (i := 4) (k := 0) (n := 3) rfl rfl rfl ?_
      refine kw_aload_n (pc := 5) (i := 5) (k := 2) (n := 0) rfl rfl rfl ?_
      refine kw_get (pc := 6) (i := 6) (v := .ref 4) rfl rfl rfl lkX7_31 (fun _ => rfl) ?_
      refine kw_get (pc := 9) (i := 7) (v := .ref 17) rfl rfl rfl lkX7_117 (fun _ => rfl) ?_
      refine kw_get (pc := 12) (i := 8) (v := .int (σ.1 17 5)) rfl rfl rfl lkX7_133 (fun _ => rfl) ?_
      have b8 : 0 ≤ (σ.1 17 5).toInt ∧ (σ.1 17 5).toInt ≤ 6 := hI 17 5
      refine kw_icmp_ge (pc := 15) (i := 9) (tgt := 36) rfl rfl (fun c9 => ?_) (fun c9 => ?_)
      · refine kw_iload_n (pc := 36) (i := 22) (k := 1) (n := 2) rfl rfl rfl ?_
        exact kw_ireturn (pc := 37) (i := 23) (ty := .int) rfl rfl rfl ⟨rfl, _, rfl⟩
      · refine kw_aload_n (pc := 18) (i := 10) (k := 3) (n := 1) rfl rfl rfl ?_
        refine kw_iload_n (pc := 19) (i := 11) (k := 0) (n := 3) rfl rfl rfl ?_
        refine kw_iald (pc := 20) (i := 12) (n := 6) rfl rfl (by omega) (by omega) (fun z10 e_z10 => ?_)
        have t_z10 := congrArg Int32.toInt e_z10
        have r_z10 := kw_rng z10
        refine kw_if_ne (pc := 21) (i := 13) (tgt := 30) rfl rfl (fun c11 => ?_) (fun c11 => ?_)
        · refine kw_iinc' (pc := 30) (i := 20) (k := 0) (fun z => [(3, .int z), (2, .int x2), (0, .ref 0), (1, .ref 19)]) rfl rfl (by decide) rfl (fun _ => rfl) (fun z12 e_z12 t_z12 => ?_)
          refine kw_goto (pc := 33) (i := 21) (tgt := 4) rfl rfl ?_
          refine kw_sub (lv' := [(3, .int z12), (2, .int x2), (0, .ref 0), (1, .ref 19)]) [0, 1, 2, 3] rfl ?_
          exact ih4 z12 x2 (by omega) (by omega)
        · refine kw_iload_n (pc := 24) (i := 14) (k := 1) (n := 2) rfl rfl rfl ?_
          refine kw_iconst (pc := 25) (i := 15) (v := 1) rfl rfl ?_
          refine kw_iload_n (pc := 26) (i := 16) (k := 0) (n := 3) rfl rfl rfl ?_
          refine kw_ishl (pc := 27) (i := 17) rfl (fun z13 e_z13 => ?_)
          have r_z13 := kw_rng z13
          refine kw_ior (pc := 28) (i := 18) rfl (fun z14 e_z14 => ?_)
          have r_z14 := kw_rng z14
          refine kw_istore_n (pc := 29) (i := 19) (n := 2) (lv' := [(2, .int z14), (3, .int x1), (0, .ref 0), (1, .ref 19)]) rfl rfl (by decide) rfl ?_
          refine kw_iinc' (pc := 30) (i := 20) (k := 1) (fun z => [(3, .int z), (2, .int z14), (0, .ref 0), (1, .ref 19)]) rfl rfl (by decide) rfl (fun _ => rfl) (fun z15 e_z15 t_z15 => ?_)
          refine kw_goto (pc := 33) (i := 21) (tgt := 4) rfl rfl ?_
          refine kw_sub (lv' := [(3, .int z15), (2, .int z14), (0, .ref 0), (1, .ref 19)]) [0, 1, 2, 3] rfl ?_
          exact ih4 z15 z14 (by omega) (by omega)
  exact L3 _ 0 0 (by omega) (Nat.lt_succ_self _)
abbrev p_X7_drySet_0_9 (σ : kw_S)  : Option Value → kw_S → Prop := fun v σ' => σ' = σ ∧ ∃ r : Int32, v = some (.int r)
set_option maxRecDepth 100000 in
set_option maxHeartbeats 4000000 in
theorem c_X7_drySet_0_9 (l : Launch) (σ : kw_S) (hI : kw_I bX σ)  : kw_Met l 1 KX mX7_drySet [.ref 0, .ref 9] σ (p_X7_drySet_0_9 σ) := by
  have q_0 : (0 : Int32).toInt = 0 := rfl
  have q_1 : (1 : Int32).toInt = 1 := rfl
  refine kw_Met.of (by decide) rfl tX7_drySet (Nat.le_of_ble_eq_true rfl) ?_
  show kw_AW l 1 kw_E0 KX mX7_drySet (p_X7_drySet_0_9 σ) 0 [(0, .ref 0), (1, .ref 9)] [] σ
  refine kw_iconst (pc := 0) (i := 0) (v := 0) rfl rfl ?_
  refine kw_istore_n (pc := 1) (i := 1) (n := 2) (lv' := [(2, .int 0), (0, .ref 0), (1, .ref 9)]) rfl rfl (by decide) rfl ?_
  refine kw_iconst (pc := 2) (i := 2) (v := 0) rfl rfl ?_
  refine kw_istore_n (pc := 3) (i := 3) (n := 3) (lv' := [(3, .int 0), (2, .int 0), (0, .ref 0), (1, .ref 9)]) rfl rfl (by decide) rfl ?_
  have L3 : ∀ (n7 : Nat) (x1 : Int32) (x2 : Int32), 0 ≤ x1.toInt → (7 - x1.toInt).toNat < n7 → kw_AW l 1 kw_E0 KX mX7_drySet (p_X7_drySet_0_9 σ) 4 [(3, .int x1), (2, .int x2), (0, .ref 0), (1, .ref 9)] [] σ := by
    intro n7
    induction n7 with
    | zero => intro x1 x2 v5 m6; exact absurd m6 (Nat.not_lt_zero _)
    | succ n7 ih4 =>
      intro x1 x2 v5 m6
      have r_x1 := kw_rng x1
      have r_x2 := kw_rng x2
      refine kw_iload_n (pc := 4) (i := 4) (k := 0) (n := 3) rfl rfl rfl ?_
      refine kw_aload_n (pc := 5) (i := 5) (k := 2) (n := 0) rfl rfl rfl ?_
      refine kw_get (pc := 6) (i := 6) (v := .ref 4) rfl rfl rfl lkX7_31 (fun _ => rfl) ?_
      refine kw_get (pc := 9) (i := 7) (v := .ref 17) rfl rfl rfl lkX7_117 (fun _ => rfl) ?_
      refine kw_get (pc := 12) (i := 8) (v := .int (σ.1 17 5)) rfl rfl rfl lkX7_133 (fun _ => rfl) ?_
      have b8 : 0 ≤ (σ.1 17 5).toInt ∧ (σ.1 17 5).toInt ≤ 6 := hI 17 5
      refine kw_icmp_ge (pc := 15) (i := 9) (tgt := 36) rfl rfl (fun c9 => ?_) (fun c9 => ?_)
      · refine kw_iload_n (pc := 36) (i := 22) (k := 1) (n := 2) rfl rfl rfl ?_
        exact kw_ireturn (pc := 37) (i := 23) (ty := .int) rfl rfl rfl ⟨rfl, _, rfl⟩
      · refine kw_aload_n (pc := 18) (i := 10) (k := 3) (n := 1) rfl rfl rfl ?_
        refine kw_iload_n (pc := 19) (i := 11) (k := 0) (n := 3) rfl rfl rfl ?_
        refine kw_iald (pc := 20) (i := 12) (n := 6) rfl rfl (by omega) (by omega) (fun z10 e_z10 => ?_)
        have t_z10 := congrArg Int32.toInt e_z10
        have r_z10 := kw_rng z10
        refine kw_if_ne (pc := 21) (i := 13) (tgt := 30) rfl rfl (fun c11 => ?_) (fun c11 => ?_)
        · refine kw_iinc' (pc := 30) (i := 20) (k := 0) (fun z => [(3, .int z), (2, .int x2), (0, .ref 0), (1, .ref 9)]) rfl rfl (by decide) rfl (fun _ => rfl) (fun z12 e_z12 t_z12 => ?_)
          refine kw_goto (pc := 33) (i := 21) (tgt := 4) rfl rfl ?_
          refine kw_sub (lv' := [(3, .int z12), (2, .int x2), (0, .ref 0), (1, .ref 9)]) [0, 1, 2, 3] rfl ?_
          exact ih4 z12 x2 (by omega) (by omega)
        · refine kw_iload_n (pc := 24) (i := 14) (k := 1) (n := 2) rfl rfl rfl ?_
          refine kw_iconst (pc := 25) (i := 15) (v := 1) rfl rfl ?_
          refine kw_iload_n (pc := 26) (i := 16) (k := 0) (n := 3) rfl rfl rfl ?_
          refine kw_ishl (pc := 27) (i := 17) rfl (fun z13 e_z13 => ?_)
          have r_z13 := kw_rng z13
          refine kw_ior (pc := 28) (i := 18) rfl (fun z14 e_z14 => ?_)
          have r_z14 := kw_rng z14
          refine kw_istore_n (pc := 29) (i := 19) (n := 2) (lv' := [(2, .int z14), (3, .int x1), (0, .ref 0), (1, .ref 9)]) rfl rfl (by decide) rfl ?_
          refine kw_iinc' (pc := 30) (i := 20) (k := 1) (fun z => [(3, .int z), (2, .int z14), (0, .ref 0), (1, .ref 9)]) rfl rfl (by decide) rfl (fun _ => rfl) (fun z15 e_z15 t_z15 => ?_)
          refine kw_goto (pc := 33) (i := 21) (tgt := 4) rfl rfl ?_
          refine kw_sub (lv' := [(3, .int z15), (2, .int z14), (0, .ref 0), (1, .ref 9)]) [0, 1, 2, 3] rfl ?_
          exact ih4 z15 z14 (by omega) (by omega)
  exact L3 _ 0 0 (by omega) (Nat.lt_succ_self _)
abbrev p_X7_weightOfGusts (σ : kw_S) (h : Int32) (u : Int32) (p : Int32) : Option Value → kw_S → Prop := fun v σ' => σ' = σ ∧ ∃ r : Int64, v = some (.long r)
set_option maxRecDepth 100000 in
set_option maxHeartbeats 4000000 in
theorem c_X7_weightOfGusts (l : Launch) (σ : kw_S) (hI : kw_I bX σ) (h : Int32) (u : Int32) (p : Int32) : kw_Met l 1 KX mX7_weightOfGusts [.int h, .int u, .int p] σ (p_X7_weightOfGusts σ h u p) := by
  have r_h := kw_rng h
  have r_u := kw_rng u
  have r_p := kw_rng p
  have q_0 : (0 : Int32).toInt = 0 := rfl
  have q_1 : (1 : Int32).toInt = 1 := rfl
  have q_12 : (12 : Int32).toInt = 12 := rfl
  refine kw_Met.of (by decide) rfl tX7_weightOfGusts (Nat.le_of_ble_eq_true rfl) ?_
  show kw_AW l 1 kw_E0 KX mX7_weightOfGusts (p_X7_weightOfGusts σ h u p) 0 [(0, .int h), (1, .int u), (2, .int p)] [] σ
  refine kw_lconst (pc := 0) (i := 0) (v := 1) rfl rfl ?_
  refine kw_lstore_n (pc := 1) (i := 1) (n := 3) (lv' := [(3, .long 1), (0, .int h), (1, .int u), (2, .int p)]) rfl rfl (by decide) rfl ?_
  refine kw_iconst (pc := 2) (i := 2) (v := 0) rfl rfl ?_
  refine kw_istore (pc := 3) (i := 3) (n := 5) (lv' := [(5, .int 0), (3, .long 1), (0, .int h), (1, .int u), (2, .int p)]) rfl (by decide) rfl ?_
  have L3 : ∀ (n7 : Nat) (x1 : Int32) (x2 : Int64), 0 ≤ x1.toInt → (h.toInt - x1.toInt).toNat < n7 → kw_AW l 1 kw_E0 KX mX7_weightOfGusts (p_X7_weightOfGusts σ h u p) 5 [(5, .int x1), (3, .long x2), (0, .int h), (1, .int u), (2, .int p)] [] σ := by
    intro n7
    induction n7 with
    | zero => intro x1 x2 v5 m6; exact absurd m6 (Nat.not_lt_zero _)
    | succ n7 ih4 =>
      intro x1 x2 v5 m6
      have r_x1 := kw_rng x1
      refine kw_iload (pc := 5) (i := 4) (k := 0) (n := 5) rfl rfl ?_
      refine kw_iload_n (pc := 7) (i := 5) (k := 2) (n := 0) rfl rfl rfl ?_
      refine kw_icmp_ge (pc := 8) (i := 6) (tgt := 40) rfl rfl (fun c8 => ?_) (fun c8 => ?_)
      · refine kw_lload_n (pc := 40) (i := 26) (k := 1) (n := 3) rfl rfl rfl ?_
        exact kw_lreturn (pc := 41) (i := 27) rfl rfl ⟨rfl, _, rfl⟩
      · refine kw_lload_n (pc := 11) (i := 7) (k := 1) (n := 3) rfl rfl rfl ?_
        refine kw_iload_n (pc := 12) (i := 8) (k := 3) (n := 1) rfl rfl rfl ?_
        refine kw_iload (pc := 13) (i := 9) (k := 0) (n := 5) rfl rfl ?_
        refine kw_ishr (pc := 15) (i := 10) rfl (fun z9 e_z9 => ?_)
        have r_z9 := kw_rng z9
        refine kw_iconst (pc := 16) (i := 11) (v := 1) rfl rfl ?_
        refine kw_iand (pc := 17) (i := 12) rfl (fun z10 e_z10 => ?_)
        have r_z10 := kw_rng z10
        refine kw_iconst (pc := 18) (i := 13) (v := 1) rfl rfl ?_
        refine kw_icmp_ne (pc := 19) (i := 14) (tgt := 27) rfl rfl (fun c11 => ?_) (fun c11 => ?_)
        · refine kw_bipush (pc := 27) (i := 18) (v := 12) rfl rfl ?_
          refine kw_iload_n (pc := 29) (i := 19) (k := 4) (n := 2) rfl rfl rfl ?_
          refine kw_isub (pc := 30) (i := 20) rfl (fun z12 e_z12 t_z12 => ?_)
          refine kw_i2l (pc := 31) (i := 21) rfl (fun z13 e_z13 t_z13 => ?_)
          refine kw_lmul (pc := 32) (i := 22) rfl (fun z14 e_z14 => ?_)
          refine kw_lstore_n (pc := 33) (i := 23) (n := 3) (lv' := [(3, .long z14), (5, .int x1), (0, .int h), (1, .int u), (2, .int p)]) rfl rfl (by decide) rfl ?_
          refine kw_iinc' (pc := 34) (i := 24) (k := 1) (fun z => [(5, .int z), (3, .long z14), (0, .int h), (1, .int u), (2, .int p)]) rfl rfl (by decide) rfl (fun _ => rfl) (fun z15 e_z15 t_z15 => ?_)
          refine kw_goto (pc := 37) (i := 25) (tgt := 5) rfl rfl ?_
          refine kw_sub (lv' := [(5, .int z15), (3, .long z14), (0, .int h), (1, .int u), (2, .int p)]) [0, 1, 2, 3, 4] rfl ?_
          exact ih4 z15 z14 (by omega) (by omega)
        · refine kw_iload_n (pc := 22) (i := 15) (k := 4) (n := 2) rfl rfl rfl ?_
          refine kw_i2l (pc := 23) (i := 16) rfl (fun z16 e_z16 t_z16 => ?_)
          refine kw_goto (pc := 24) (i := 17) (tgt := 32) rfl rfl ?_
          refine kw_lmul (pc := 32) (i := 22) rfl (fun z17 e_z17 => ?_)
          refine kw_lstore_n (pc := 33) (i := 23) (n := 3) (lv' := [(3, .long z17), (5, .int x1), (0, .int h), (1, .int u), (2, .int p)]) rfl rfl (by decide) rfl ?_
          refine kw_iinc' (pc := 34) (i := 24) (k := 1) (fun z => [(5, .int z), (3, .long z17), (0, .int h), (1, .int u), (2, .int p)]) rfl rfl (by decide) rfl (fun _ => rfl) (fun z18 e_z18 t_z18 => ?_)
          refine kw_goto (pc := 37) (i := 25) (tgt := 5) rfl rfl ?_
          refine kw_sub (lv' := [(5, .int z18), (3, .long z17), (0, .int h), (1, .int u), (2, .int p)]) [0, 1, 2, 3, 4] rfl ?_
          exact ih4 z18 z17 (by omega) (by omega)
  exact L3 _ 0 1 (by omega) (Nat.lt_succ_self _)
