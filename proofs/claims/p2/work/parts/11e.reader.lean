abbrev p_X2_kindOf (σ : kw_S) (c : Int32) : Option Value → kw_S → Prop := fun v σ' => σ' = σ ∧ ∃ r : Int32, v = some (.int r)
set_option maxRecDepth 100000 in
set_option maxHeartbeats 4000000 in
theorem c_X2_kindOf (l : Launch) (σ : kw_S) (hI : kw_I bX σ) (c : Int32) : kw_Met l 1 KX mX2_kindOf [.int c] σ (p_X2_kindOf σ c) := by
  have r_c := kw_rng c
  have q_m1 : (-1 : Int32).toInt = -1 := rfl
  have q_0 : (0 : Int32).toInt = 0 := rfl
  have q_6 : (6 : Int32).toInt = 6 := rfl
  refine kw_Met.of (by decide) rfl tX2_kindOf (Nat.le_of_ble_eq_true rfl) ?_
  show kw_AW l 1 kw_E0 KX mX2_kindOf (p_X2_kindOf σ c) 0 [(0, .int c)] [] σ
  refine kw_iconst (pc := 0) (i := 0) (v := 0) rfl rfl ?_
  refine kw_istore_n (pc := 1) (i := 1) (n := 1) (lv' := [(1, .int 0), (0, .int c)]) rfl rfl (by decide) rfl ?_
  have L2 : ∀ (n6 : Nat) (x1 : Int32), 0 ≤ x1.toInt → (7 - x1.toInt).toNat < n6 → kw_AW l 1 kw_E0 KX mX2_kindOf (p_X2_kindOf σ c) 2 [(1, .int x1), (0, .int c)] [] σ := by
    intro n6
    induction n6 with
    | zero => intro x1 v4 m5; exact absurd m5 (Nat.not_lt_zero _)
    | succ n6 ih3 =>
      intro x1 v4 m5
      have r_x1 := kw_rng x1
      refine kw_iload_n (pc := 2) (i := 2) (k := 0) (n := 1) rfl rfl rfl ?_
      refine kw_bipush (pc := 3) (i := 3) (v := 6) rfl rfl ?_
      refine kw_icmp_ge (pc := 5) (i := 4) (tgt := 25) rfl rfl (fun c7 => ?_) (fun c7 => ?_)
      · refine kw_iconst (pc := 25) (i := 14) (v := (-1)) rfl rfl ?_
        exact kw_ireturn (pc := 26) (i := 15) (ty := .int) rfl rfl rfl ⟨rfl, _, rfl⟩
      · refine kw_getsL (pc := 8) (i := 5) rfl ⟨rfl, rfl⟩ ?_
        refine kw_iload_n (pc := 11) (i := 6) (k := 0) (n := 1) rfl rfl rfl ?_
        refine kw_tld (pc := 12) (i := 7) (k := 0) (n := 6) rfl rfl (by omega) (by omega) (fun z8 e_z8 => ?_)
        have r_z8 := kw_rng z8
        refine kw_iload_n (pc := 13) (i := 8) (k := 1) (n := 0) rfl rfl rfl ?_
        refine kw_icmp_ne (pc := 14) (i := 9) (tgt := 19) rfl rfl (fun c9 => ?_) (fun c9 => ?_)
        · refine kw_iinc' (pc := 19) (i := 12) (k := 0) (fun z => [(1, .int z), (0, .int c)]) rfl rfl (by decide) rfl (fun _ => rfl) (fun z10 e_z10 t_z10 => ?_)
          refine kw_goto (pc := 22) (i := 13) (tgt := 2) rfl rfl ?_
          refine kw_sub (lv' := [(1, .int z10), (0, .int c)]) [0, 1] rfl ?_
          exact ih3 z10 (by omega) (by omega)
        · refine kw_iload_n (pc := 17) (i := 10) (k := 0) (n := 1) rfl rfl rfl ?_
          exact kw_ireturn (pc := 18) (i := 11) (ty := .int) rfl rfl rfl ⟨rfl, _, rfl⟩
  exact L2 _ 0 (by omega) (Nat.lt_succ_self _)
abbrev p_X2_readFigure_3_2 (σ : kw_S) (t : Int32) (lo : Int32) (hi : Int32) : Option Value → kw_S → Prop := fun v σ' => (kw_I bX σ' ∧ kw_F [3] σ σ') ∧ ∃ r : Int32, v = some (.int r)
set_option maxRecDepth 100000 in
set_option maxHeartbeats 4000000 in
theorem c_X2_readFigure_3_2 (l : Launch) (σ : kw_S) (hI : kw_I bX σ) (t : Int32) (lo : Int32) (hi : Int32) : kw_Met l 4 KX mX2_readFigure [.ref 3, .ref 2, .int t, .int lo, .int hi] σ (p_X2_readFigure_3_2 σ t lo hi) := by
  have r_t := kw_rng t
  have r_lo := kw_rng lo
  have r_hi := kw_rng hi
  have hF0 : kw_F [3] σ σ := kw_F.rf
  have q_m1 : (-1 : Int32).toInt = -1 := rfl
  have q_1 : (1 : Int32).toInt = 1 := rfl
  have q_48 : (48 : Int32).toInt = 48 := rfl
  refine kw_Met.of (by decide) rfl tX2_readFigure (Nat.le_of_ble_eq_true rfl) ?_
  show kw_AW l 4 kw_E0 KX mX2_readFigure (p_X2_readFigure_3_2 σ t lo hi) 0 [(0, .ref 3), (1, .ref 2), (2, .int t), (3, .int lo), (4, .int hi)] [] σ
  refine kw_aload_n (pc := 0) (i := 0) (k := 1) (n := 1) rfl rfl rfl ?_
  refine kw_iload_n (pc := 1) (i := 1) (k := 2) (n := 2) rfl rfl rfl ?_
  refine kw_aload_n (pc := 2) (i := 2) (k := 0) (n := 0) rfl rfl rfl ?_
  refine kw_get (pc := 3) (i := 3) (v := .int (σ.1 3 1)) rfl rfl rfl lkX2_25 (fun _ => rfl) ?_
  have b1 := kw_rng (σ.1 3 1)
  refine kw_callV (pc := 6) (i := 4) (Y := mX3_valueAt) (a := 2) (As := [.int t, .int (σ.1 3 1)]) (st := []) kw_hE rfl rfl lvX2_32 arX3_valueAt (c_X3_valueAt_2 l σ hI t (σ.1 3 1) ) (by decide) (Nat.le_of_ble_eq_true rfl) rfl (fun v S3 p2 => ?_)
  obtain ⟨e5, z4, rfl⟩ := p2
  rw [e5]
  have r_z4 := kw_rng z4
  show kw_AW l 4 kw_E0 KX mX2_readFigure (p_X2_readFigure_3_2 σ t lo hi) 9 [(0, .ref 3), (1, .ref 2), (2, .int t), (3, .int lo), (4, .int hi)] [.int z4] σ
  refine kw_bipush (pc := 9) (i := 5) (v := 48) rfl rfl ?_
  refine kw_isub (pc := 11) (i := 6) rfl (fun z6 e_z6 t_z6 => ?_)
  refine kw_istore (pc := 12) (i := 7) (n := 5) (lv' := [(5, .int z6), (0, .ref 3), (1, .ref 2), (2, .int t), (3, .int lo), (4, .int hi)]) rfl (by decide) rfl ?_
  refine kw_iload (pc := 14) (i := 8) (k := 0) (n := 5) rfl rfl ?_
  refine kw_iload_n (pc := 16) (i := 9) (k := 4) (n := 3) rfl rfl rfl ?_
  refine kw_icmp_lt (pc := 17) (i := 10) (tgt := 27) rfl rfl (fun c7 => ?_) (fun c7 => ?_)
  · refine kw_iconst (pc := 27) (i := 14) (v := (-1)) rfl rfl ?_
    exact kw_ireturn (pc := 28) (i := 15) (ty := .int) rfl rfl rfl ⟨⟨hI, hF0⟩, _, rfl⟩
  · refine kw_iload (pc := 20) (i := 11) (k := 0) (n := 5) rfl rfl ?_
    refine kw_iload (pc := 22) (i := 12) (k := 5) (n := 4) rfl rfl ?_
    refine kw_icmp_le (pc := 24) (i := 13) (tgt := 29) rfl rfl (fun c8 => ?_) (fun c8 => ?_)
    · refine kw_aload_n (pc := 29) (i := 16) (k := 1) (n := 0) rfl rfl rfl ?_
      refine kw_dup (pc := 30) (i := 17) rfl rfl ?_
      refine kw_get (pc := 31) (i := 18) (v := .int (σ.1 3 1)) rfl rfl rfl lkX2_25 (fun _ => rfl) ?_
      refine kw_iconst (pc := 34) (i := 19) (v := 1) rfl rfl ?_
      refine kw_iadd (pc := 35) (i := 20) rfl (fun z9 e_z9 t_z9 => ?_)
      refine kw_puti (pc := 36) (i := 21) (z := 0) rfl rfl rfl lpX2_25 rfl rfl ?_
      have I10 : kw_I bX (kw_ui σ 3 1 z9) := kw_I_ui hI (kw_rng z9).1 (Int.le_of_lt_add_one (kw_rng z9).2)
      have F11 : kw_F [3] σ (kw_ui σ 3 1 z9) := kw_F_ui hF0 (by decide)
      refine kw_iload (pc := 39) (i := 22) (k := 0) (n := 5) rfl rfl ?_
      exact kw_ireturn (pc := 41) (i := 23) (ty := .int) rfl rfl rfl ⟨⟨I10, F11⟩, _, rfl⟩
    · refine kw_iconst (pc := 27) (i := 14) (v := (-1)) rfl rfl ?_
      exact kw_ireturn (pc := 28) (i := 15) (ty := .int) rfl rfl rfl ⟨⟨hI, hF0⟩, _, rfl⟩
abbrev p_X2_skipBlanks_3_2 (σ : kw_S) (t : Int32) : Option Value → kw_S → Prop := fun v σ' => (kw_I bX σ' ∧ kw_F [3] σ σ') ∧ v = none
set_option maxRecDepth 100000 in
set_option maxHeartbeats 4000000 in
theorem c_X2_skipBlanks_3_2 (l : Launch) (σ : kw_S) (hI : kw_I bX σ) (t : Int32) : kw_Met l 4 KX mX2_skipBlanks [.ref 3, .ref 2, .int t] σ (p_X2_skipBlanks_3_2 σ t) := by
  have r_t := kw_rng t
  have hF0 : kw_F [3] σ σ := kw_F.rf
  have q_0 : (0 : Int32).toInt = 0 := rfl
  have q_1 : (1 : Int32).toInt = 1 := rfl
  have q_32 : (32 : Int32).toInt = 32 := rfl
  have q_60 : (60 : Int32).toInt = 60 := rfl
  refine kw_Met.of (by decide) rfl tX2_skipBlanks (Nat.le_of_ble_eq_true rfl) ?_
  show kw_AW l 4 kw_E0 KX mX2_skipBlanks (p_X2_skipBlanks_3_2 σ t) 0 [(0, .ref 3), (1, .ref 2), (2, .int t)] [] σ
  refine kw_iconst (pc := 0) (i := 0) (v := 0) rfl rfl ?_
  refine kw_istore_n (pc := 1) (i := 1) (n := 3) (lv' := [(3, .int 0), (0, .ref 3), (1, .ref 2), (2, .int t)]) rfl rfl (by decide) rfl ?_
  have L5 : ∀ (n9 : Nat) (x1 : Int32) (S2 : kw_S), kw_I bX S2 → kw_F [3] σ S2 → 0 ≤ x1.toInt → (61 - x1.toInt).toNat < n9 → kw_AW l 4 kw_E0 KX mX2_skipBlanks (p_X2_skipBlanks_3_2 σ t) 2 [(3, .int x1), (0, .ref 3), (1, .ref 2), (2, .int t)] [] S2 := by
    intro n9
    induction n9 with
    | zero => intro x1 S2 I3 F4 v7 m8; exact absurd m8 (Nat.not_lt_zero _)
    | succ n9 ih6 =>
      intro x1 S2 I3 F4 v7 m8
      have r_x1 := kw_rng x1
      refine kw_iload_n (pc := 2) (i := 2) (k := 0) (n := 3) rfl rfl rfl ?_
      refine kw_bipush (pc := 3) (i := 3) (v := 60) rfl rfl ?_
      refine kw_icmp_ge (pc := 5) (i := 4) (tgt := 38) rfl rfl (fun c10 => ?_) (fun c10 => ?_)
      · exact kw_return (pc := 38) (i := 20) rfl rfl ⟨⟨I3, F4⟩, rfl⟩
      · refine kw_aload_n (pc := 8) (i := 5) (k := 2) (n := 1) rfl rfl rfl ?_
        refine kw_iload_n (pc := 9) (i := 6) (k := 3) (n := 2) rfl rfl rfl ?_
        refine kw_aload_n (pc := 10) (i := 7) (k := 1) (n := 0) rfl rfl rfl ?_
        refine kw_get (pc := 11) (i := 8) (v := .int (S2.1 3 1)) rfl rfl rfl lkX2_25 (fun _ => rfl) ?_
        have b11 := kw_rng (S2.1 3 1)
        refine kw_callV (pc := 14) (i := 9) (Y := mX3_valueAt) (a := 2) (As := [.int t, .int (S2.1 3 1)]) (st := []) kw_hE rfl rfl lvX2_32 arX3_valueAt (c_X3_valueAt_2 l S2 I3 t (S2.1 3 1) ) (by decide) (Nat.le_of_ble_eq_true rfl) rfl (fun v S13 p12 => ?_)
        obtain ⟨e15, z14, rfl⟩ := p12
        rw [e15]
        have r_z14 := kw_rng z14
        show kw_AW l 4 kw_E0 KX mX2_skipBlanks (p_X2_skipBlanks_3_2 σ t) 17 [(3, .int x1), (0, .ref 3), (1, .ref 2), (2, .int t)] [.int z14] S2
        refine kw_bipush (pc := 17) (i := 10) (v := 32) rfl rfl ?_
        refine kw_icmp_ne (pc := 19) (i := 11) (tgt := 38) rfl rfl (fun c16 => ?_) (fun c16 => ?_)
        · exact kw_return (pc := 38) (i := 20) rfl rfl ⟨⟨I3, F4⟩, rfl⟩
        · refine kw_aload_n (pc := 22) (i := 12) (k := 1) (n := 0) rfl rfl rfl ?_
          refine kw_dup (pc := 23) (i := 13) rfl rfl ?_
          refine kw_get (pc := 24) (i := 14) (v := .int (S2.1 3 1)) rfl rfl rfl lkX2_25 (fun _ => rfl) ?_
          refine kw_iconst (pc := 27) (i := 15) (v := 1) rfl rfl ?_
          refine kw_iadd (pc := 28) (i := 16) rfl (fun z17 e_z17 t_z17 => ?_)
          refine kw_puti (pc := 29) (i := 17) (z := 0) rfl rfl rfl lpX2_25 rfl rfl ?_
          have I18 : kw_I bX (kw_ui S2 3 1 z17) := kw_I_ui I3 (kw_rng z17).1 (Int.le_of_lt_add_one (kw_rng z17).2)
          have F19 : kw_F [3] σ (kw_ui S2 3 1 z17) := kw_F_ui F4 (by decide)
          refine kw_iinc' (pc := 32) (i := 18) (k := 0) (fun z => [(3, .int z), (0, .ref 3), (1, .ref 2), (2, .int t)]) rfl rfl (by decide) rfl (fun _ => rfl) (fun z20 e_z20 t_z20 => ?_)
          refine kw_goto (pc := 35) (i := 19) (tgt := 2) rfl rfl ?_
          refine kw_sub (lv' := [(3, .int z20), (0, .ref 3), (1, .ref 2), (2, .int t)]) [0, 1, 2, 3] rfl ?_
          exact ih6 z20 (kw_ui S2 3 1 z17) I18 F19 (by omega) (by omega)
  exact L5 _ 0 σ hI hF0 (by omega) (Nat.lt_succ_self _)
abbrev p_X2_readWinds_3_2 (σ : kw_S) (t : Int32) : Option Value → kw_S → Prop := fun v σ' => (kw_I bX σ' ∧ kw_F [3, 16, 43] σ σ') ∧ v = none
set_option maxRecDepth 100000 in
set_option maxHeartbeats 4000000 in
theorem c_X2_readWinds_3_2 (l : Launch) (σ : kw_S) (hI : kw_I bX σ) (t : Int32) : kw_Met l 4 KX mX2_readWinds [.ref 3, .ref 2, .int t] σ (p_X2_readWinds_3_2 σ t) := by
  have r_t := kw_rng t
  have hF0 : kw_F [3, 16, 43] σ σ := kw_F.rf
  have q_0 : (0 : Int32).toInt = 0 := rfl
  have q_1 : (1 : Int32).toInt = 1 := rfl
  have q_5 : (5 : Int32).toInt = 5 := rfl
  have q_8 : (8 : Int32).toInt = 8 := rfl
  have q_48 : (48 : Int32).toInt = 48 := rfl
  refine kw_Met.of (by decide) rfl tX2_readWinds (Nat.le_of_ble_eq_true rfl) ?_
  show kw_AW l 4 kw_E0 KX mX2_readWinds (p_X2_readWinds_3_2 σ t) 0 [(0, .ref 3), (1, .ref 2), (2, .int t)] [] σ
  refine kw_iconst (pc := 0) (i := 0) (v := 0) rfl rfl ?_
  refine kw_istore_n (pc := 1) (i := 1) (n := 3) (lv' := [(3, .int 0), (0, .ref 3), (1, .ref 2), (2, .int t)]) rfl rfl (by decide) rfl ?_
  have L5 : ∀ (n9 : Nat) (x1 : Int32) (S2 : kw_S), kw_I bX S2 → kw_F [3, 16, 43] σ S2 → 0 ≤ x1.toInt → (9 - x1.toInt).toNat < n9 → kw_AW l 4 kw_E0 KX mX2_readWinds (p_X2_readWinds_3_2 σ t) 2 [(3, .int x1), (0, .ref 3), (1, .ref 2), (2, .int t)] [] S2 := by
    intro n9
    induction n9 with
    | zero => intro x1 S2 I3 F4 v7 m8; exact absurd m8 (Nat.not_lt_zero _)
    | succ n9 ih6 =>
      intro x1 S2 I3 F4 v7 m8
      have r_x1 := kw_rng x1
      refine kw_iload_n (pc := 2) (i := 2) (k := 0) (n := 3) rfl rfl rfl ?_
      refine kw_bipush (pc := 3) (i := 3) (v := 8) rfl rfl ?_
      refine kw_icmp_ge (pc := 5) (i := 4) (tgt := 71) rfl rfl (fun c10 => ?_) (fun c10 => ?_)
      · exact kw_return (pc := 71) (i := 39) rfl rfl ⟨⟨I3, F4⟩, rfl⟩
      · refine kw_aload_n (pc := 8) (i := 5) (k := 2) (n := 1) rfl rfl rfl ?_
        refine kw_iload_n (pc := 9) (i := 6) (k := 3) (n := 2) rfl rfl rfl ?_
        refine kw_aload_n (pc := 10) (i := 7) (k := 1) (n := 0) rfl rfl rfl ?_
        refine kw_get (pc := 11) (i := 8) (v := .int (S2.1 3 1)) rfl rfl rfl lkX2_25 (fun _ => rfl) ?_
        have b11 := kw_rng (S2.1 3 1)
        refine kw_callV (pc := 14) (i := 9) (Y := mX3_valueAt) (a := 2) (As := [.int t, .int (S2.1 3 1)]) (st := []) kw_hE rfl rfl lvX2_32 arX3_valueAt (c_X3_valueAt_2 l S2 I3 t (S2.1 3 1) ) (by decide) (Nat.le_of_ble_eq_true rfl) rfl (fun v S13 p12 => ?_)
        obtain ⟨e15, z14, rfl⟩ := p12
        rw [e15]
        have r_z14 := kw_rng z14
        show kw_AW l 4 kw_E0 KX mX2_readWinds (p_X2_readWinds_3_2 σ t) 17 [(3, .int x1), (0, .ref 3), (1, .ref 2), (2, .int t)] [.int z14] S2
        refine kw_bipush (pc := 17) (i := 10) (v := 48) rfl rfl ?_
        refine kw_isub (pc := 19) (i := 11) rfl (fun z16 e_z16 t_z16 => ?_)
        refine kw_istore (pc := 20) (i := 12) (n := 4) (lv' := [(4, .int z16), (3, .int x1), (0, .ref 3), (1, .ref 2), (2, .int t)]) rfl (by decide) rfl ?_
        refine kw_iload (pc := 22) (i := 13) (k := 0) (n := 4) rfl rfl ?_
        refine kw_if_lt (pc := 24) (i := 14) (tgt := 33) rfl rfl (fun c17 => ?_) (fun c17 => ?_)
        · exact kw_return (pc := 33) (i := 18) rfl rfl ⟨⟨I3, F4⟩, rfl⟩
        · refine kw_iload (pc := 27) (i := 15) (k := 0) (n := 4) rfl rfl ?_
          refine kw_iconst (pc := 29) (i := 16) (v := 5) rfl rfl ?_
          refine kw_icmp_le (pc := 30) (i := 17) (tgt := 34) rfl rfl (fun c18 => ?_) (fun c18 => ?_)
          · refine kw_aload_n (pc := 34) (i := 19) (k := 2) (n := 0) rfl rfl rfl ?_
            refine kw_get (pc := 35) (i := 20) (v := .ref 16) rfl rfl rfl lkX2_12 (fun _ => rfl) ?_
            refine kw_get (pc := 38) (i := 21) (v := .ref 43) rfl rfl rfl lkX2_49 (fun _ => rfl) ?_
            refine kw_iload_n (pc := 41) (i := 22) (k := 1) (n := 3) rfl rfl rfl ?_
            refine kw_iload (pc := 42) (i := 23) (k := 0) (n := 4) rfl rfl ?_
            refine kw_iast (pc := 44) (i := 24) (n := 8) rfl rfl (by omega) (by omega) ?_
            have I19 : kw_I bX (kw_ui S2 43 x1.toNatClampNeg z16) := kw_I_ui I3 (kw_rng z16).1 (Int.le_of_lt_add_one (kw_rng z16).2)
            have F20 : kw_F [3, 16, 43] σ (kw_ui S2 43 x1.toNatClampNeg z16) := kw_F_ui F4 (by decide)
            refine kw_aload_n (pc := 45) (i := 25) (k := 2) (n := 0) rfl rfl rfl ?_
            refine kw_get (pc := 46) (i := 26) (v := .ref 16) rfl rfl rfl lkX2_12 (fun _ => rfl) ?_
            refine kw_iload_n (pc := 49) (i := 27) (k := 1) (n := 3) rfl rfl rfl ?_
            refine kw_iconst (pc := 50) (i := 28) (v := 1) rfl rfl ?_
            refine kw_iadd (pc := 51) (i := 29) rfl (fun z21 e_z21 t_z21 => ?_)
            refine kw_puti (pc := 52) (i := 30) (z := 0) rfl rfl rfl lpX2_22 rfl rfl ?_
            have I22 : kw_I bX (kw_ui (kw_ui S2 43 x1.toNatClampNeg z16) 16 6 z21) := kw_I_ui I19 (show 0 ≤ z21.toInt by omega) (show z21.toInt ≤ 8 by omega)
            have F23 : kw_F [3, 16, 43] σ (kw_ui (kw_ui S2 43 x1.toNatClampNeg z16) 16 6 z21) := kw_F_ui F20 (by decide)
            refine kw_aload_n (pc := 55) (i := 31) (k := 2) (n := 0) rfl rfl rfl ?_
            refine kw_dup (pc := 56) (i := 32) rfl rfl ?_
            refine kw_get (pc := 57) (i := 33) (v := .int (S2.1 3 1)) rfl rfl rfl lkX2_25 (fun _ => rfl) ?_
            refine kw_iconst (pc := 60) (i := 34) (v := 1) rfl rfl ?_
            refine kw_iadd (pc := 61) (i := 35) rfl (fun z24 e_z24 t_z24 => ?_)
            refine kw_puti (pc := 62) (i := 36) (z := 0) rfl rfl rfl lpX2_25 rfl rfl ?_
            have I25 : kw_I bX (kw_ui (kw_ui (kw_ui S2 43 x1.toNatClampNeg z16) 16 6 z21) 3 1 z24) := kw_I_ui I22 (kw_rng z24).1 (Int.le_of_lt_add_one (kw_rng z24).2)
            have F26 : kw_F [3, 16, 43] σ (kw_ui (kw_ui (kw_ui S2 43 x1.toNatClampNeg z16) 16 6 z21) 3 1 z24) := kw_F_ui F23 (by decide)
            refine kw_iinc' (pc := 65) (i := 37) (k := 1) (fun z => [(3, .int z), (4, .int z16), (0, .ref 3), (1, .ref 2), (2, .int t)]) rfl rfl (by decide) rfl (fun _ => rfl) (fun z27 e_z27 t_z27 => ?_)
            refine kw_goto (pc := 68) (i := 38) (tgt := 2) rfl rfl ?_
            refine kw_sub (lv' := [(3, .int z27), (0, .ref 3), (1, .ref 2), (2, .int t)]) [0, 2, 3, 4] rfl ?_
            exact ih6 z27 (kw_ui (kw_ui (kw_ui S2 43 x1.toNatClampNeg z16) 16 6 z21) 3 1 z24) I25 F26 (by omega) (by omega)
          · exact kw_return (pc := 33) (i := 18) rfl rfl ⟨⟨I3, F4⟩, rfl⟩
  exact L5 _ 0 σ hI hF0 (by omega) (Nat.lt_succ_self _)
abbrev p_X2_readLine_3_2 (σ : kw_S) (t : Int32) : Option Value → kw_S → Prop := fun v σ' => (kw_I bX σ' ∧ kw_F [3, 16, 39, 40, 41, 42] σ σ') ∧ ∃ r : Int32, v = some (.int r) ∧ (r.toInt = 0 ∨ r.toInt = 1)
set_option maxRecDepth 100000 in
set_option maxHeartbeats 4000000 in
theorem c_X2_readLine_3_2 (l : Launch) (σ : kw_S) (hI : kw_I bX σ) (t : Int32) : kw_Met l 5 KX mX2_readLine [.ref 3, .ref 2, .int t] σ (p_X2_readLine_3_2 σ t) := by
  have r_t := kw_rng t
  have hF0 : kw_F [3, 16, 39, 40, 41, 42] σ σ := kw_F.rf
  have q_m4 : (-4 : Int32).toInt = -4 := rfl
  have q_0 : (0 : Int32).toInt = 0 := rfl
  have q_1 : (1 : Int32).toInt = 1 := rfl
  have q_4 : (4 : Int32).toInt = 4 := rfl
  have q_6 : (6 : Int32).toInt = 6 := rfl
  have q_8 : (8 : Int32).toInt = 8 := rfl
  have q_9 : (9 : Int32).toInt = 9 := rfl
  refine kw_Met.of (by decide) rfl tX2_readLine (Nat.le_of_ble_eq_true rfl) ?_
  show kw_AW l 5 kw_E0 KX mX2_readLine (p_X2_readLine_3_2 σ t) 0 [(0, .ref 3), (1, .ref 2), (2, .int t)] [] σ
  refine kw_aload_n (pc := 0) (i := 0) (k := 0) (n := 0) rfl rfl rfl ?_
  refine kw_get (pc := 1) (i := 1) (v := .ref 16) rfl rfl rfl lkX2_12 (fun _ => rfl) ?_
  refine kw_get (pc := 4) (i := 2) (v := .int (σ.1 16 5)) rfl rfl rfl lkX2_18 (fun _ => rfl) ?_
  have b1 : 0 ≤ (σ.1 16 5).toInt ∧ (σ.1 16 5).toInt ≤ 6 := hI 16 5
  refine kw_istore_n (pc := 7) (i := 3) (n := 3) (lv' := [(3, .int (σ.1 16 5)), (0, .ref 3), (1, .ref 2), (2, .int t)]) rfl rfl (by decide) rfl ?_
  refine kw_aload_n (pc := 8) (i := 4) (k := 2) (n := 1) rfl rfl rfl ?_
  refine kw_iload_n (pc := 9) (i := 5) (k := 3) (n := 2) rfl rfl rfl ?_
  refine kw_aload_n (pc := 10) (i := 6) (k := 1) (n := 0) rfl rfl rfl ?_
  refine kw_get (pc := 11) (i := 7) (v := .int (σ.1 3 1)) rfl rfl rfl lkX2_25 (fun _ => rfl) ?_
  have b2 := kw_rng (σ.1 3 1)
  refine kw_callV (pc := 14) (i := 8) (Y := mX3_valueAt) (a := 2) (As := [.int t, .int (σ.1 3 1)]) (st := []) kw_hE rfl rfl lvX2_32 arX3_valueAt (c_X3_valueAt_2 l σ hI t (σ.1 3 1) ) (by decide) (Nat.le_of_ble_eq_true rfl) rfl (fun v S4 p3 => ?_)
  obtain ⟨e6, z5, rfl⟩ := p3
  rw [e6]
  have r_z5 := kw_rng z5
  show kw_AW l 5 kw_E0 KX mX2_readLine (p_X2_readLine_3_2 σ t) 17 [(3, .int (σ.1 16 5)), (0, .ref 3), (1, .ref 2), (2, .int t)] [.int z5] σ
  refine kw_callS (pc := 17) (i := 9) (Y := mX2_kindOf) (As := [.int z5]) (st := []) kw_hE rfl lsX2_53 arX2_kindOf (c_X2_kindOf l σ hI z5 ) (by decide) (Nat.le_of_ble_eq_true rfl) rfl (fun v S8 p7 => ?_)
  obtain ⟨e10, z9, rfl⟩ := p7
  rw [e10]
  have r_z9 := kw_rng z9
  show kw_AW l 5 kw_E0 KX mX2_readLine (p_X2_readLine_3_2 σ t) 20 [(3, .int (σ.1 16 5)), (0, .ref 3), (1, .ref 2), (2, .int t)] [.int z9] σ
  refine kw_istore (pc := 20) (i := 10) (n := 4) (lv' := [(4, .int z9), (3, .int (σ.1 16 5)), (0, .ref 3), (1, .ref 2), (2, .int t)]) rfl (by decide) rfl ?_
  refine kw_iload_n (pc := 22) (i := 11) (k := 1) (n := 3) rfl rfl rfl ?_
  refine kw_if_lt (pc := 23) (i := 12) (tgt := 37) rfl rfl (fun c11 => ?_) (fun c11 => ?_)
  · refine kw_iconst (pc := 37) (i := 18) (v := 0) rfl rfl ?_
    exact kw_ireturn (pc := 38) (i := 19) (ty := .boolean) rfl rfl rfl ⟨⟨hI, hF0⟩, _, rfl, by omega⟩
  · refine kw_iload_n (pc := 26) (i := 13) (k := 1) (n := 3) rfl rfl rfl ?_
    refine kw_bipush (pc := 27) (i := 14) (v := 6) rfl rfl ?_
    refine kw_icmp_ge (pc := 29) (i := 15) (tgt := 37) rfl rfl (fun c12 => ?_) (fun c12 => ?_)
    · refine kw_iconst (pc := 37) (i := 18) (v := 0) rfl rfl ?_
      exact kw_ireturn (pc := 38) (i := 19) (ty := .boolean) rfl rfl rfl ⟨⟨hI, hF0⟩, _, rfl, by omega⟩
    · refine kw_iload (pc := 32) (i := 16) (k := 0) (n := 4) rfl rfl ?_
      refine kw_if_ge (pc := 34) (i := 17) (tgt := 39) rfl rfl (fun c13 => ?_) (fun c13 => ?_)
      · refine kw_aload_n (pc := 39) (i := 20) (k := 2) (n := 0) rfl rfl rfl ?_
        refine kw_dup (pc := 40) (i := 21) rfl rfl ?_
        refine kw_get (pc := 41) (i := 22) (v := .int (σ.1 3 1)) rfl rfl rfl lkX2_25 (fun _ => rfl) ?_
        refine kw_iconst (pc := 44) (i := 23) (v := 1) rfl rfl ?_
        refine kw_iadd (pc := 45) (i := 24) rfl (fun z14 e_z14 t_z14 => ?_)
        refine kw_puti (pc := 46) (i := 25) (z := 0) rfl rfl rfl lpX2_25 rfl rfl ?_
        have I15 : kw_I bX (kw_ui σ 3 1 z14) := kw_I_ui hI (kw_rng z14).1 (Int.le_of_lt_add_one (kw_rng z14).2)
        have F16 : kw_F [3, 16, 39, 40, 41, 42] σ (kw_ui σ 3 1 z14) := kw_F_ui hF0 (by decide)
        refine kw_aload_n (pc := 49) (i := 26) (k := 2) (n := 0) rfl rfl rfl ?_
        refine kw_get (pc := 50) (i := 27) (v := .ref 16) rfl rfl rfl lkX2_12 (fun _ => rfl) ?_
        refine kw_get (pc := 53) (i := 28) (v := .ref 39) rfl rfl rfl lkX2_56 (fun _ => rfl) ?_
        refine kw_iload_n (pc := 56) (i := 29) (k := 1) (n := 3) rfl rfl rfl ?_
        refine kw_iload (pc := 57) (i := 30) (k := 0) (n := 4) rfl rfl ?_
        refine kw_iast (pc := 59) (i := 31) (n := 6) rfl rfl (by omega) (by omega) ?_
        have I17 : kw_I bX (kw_ui (kw_ui σ 3 1 z14) 39 (σ.1 16 5).toNatClampNeg z9) := kw_I_ui I15 (kw_rng z9).1 (Int.le_of_lt_add_one (kw_rng z9).2)
        have F18 : kw_F [3, 16, 39, 40, 41, 42] σ (kw_ui (kw_ui σ 3 1 z14) 39 (σ.1 16 5).toNatClampNeg z9) := kw_F_ui F16 (by decide)
        refine kw_aload_n (pc := 60) (i := 32) (k := 2) (n := 0) rfl rfl rfl ?_
        refine kw_get (pc := 61) (i := 33) (v := .ref 16) rfl rfl rfl lkX2_12 (fun _ => rfl) ?_
        refine kw_get (pc := 64) (i := 34) (v := .ref 40) rfl rfl rfl lkX2_59 (fun _ => rfl) ?_
        refine kw_iload_n (pc := 67) (i := 35) (k := 1) (n := 3) rfl rfl rfl ?_
        refine kw_aload_n (pc := 68) (i := 36) (k := 2) (n := 0) rfl rfl rfl ?_
        refine kw_aload_n (pc := 69) (i := 37) (k := 3) (n := 1) rfl rfl rfl ?_
        refine kw_iload_n (pc := 70) (i := 38) (k := 4) (n := 2) rfl rfl rfl ?_
        refine kw_iconst (pc := 71) (i := 39) (v := 0) rfl rfl ?_
        refine kw_bipush (pc := 72) (i := 40) (v := 8) rfl rfl ?_
        refine kw_callV (pc := 74) (i := 41) (Y := mX2_readFigure) (a := 3) (As := [.ref 2, .int t, .int 0, .int 8]) (st := [.int (σ.1 16 5), .ref 40]) kw_hE rfl rfl lvX2_62 arX2_readFigure (c_X2_readFigure_3_2 l (kw_ui (kw_ui σ 3 1 z14) 39 (σ.1 16 5).toNatClampNeg z9) I17 t 0 8 ) (by decide) (Nat.le_of_ble_eq_true rfl) rfl (fun v S20 p19 => ?_)
        obtain ⟨⟨I22, F23⟩, z21, rfl⟩ := p19
        have F24 : kw_F [3, 16, 39, 40, 41, 42] σ S20 := kw_F.tr F18 F23 (by decide)
        have r_z21 := kw_rng z21
        show kw_AW l 5 kw_E0 KX mX2_readLine (p_X2_readLine_3_2 σ t) 77 [(4, .int z9), (3, .int (σ.1 16 5)), (0, .ref 3), (1, .ref 2), (2, .int t)] [.int z21, .int (σ.1 16 5), .ref 40] S20
        refine kw_iconst (pc := 77) (i := 42) (v := 4) rfl rfl ?_
        refine kw_isub (pc := 78) (i := 43) rfl (fun z25 e_z25 t_z25 => ?_)
        refine kw_iast (pc := 79) (i := 44) (n := 6) rfl rfl (by omega) (by omega) ?_
        have I26 : kw_I bX (kw_ui S20 40 (σ.1 16 5).toNatClampNeg z25) := kw_I_ui I22 (kw_rng z25).1 (Int.le_of_lt_add_one (kw_rng z25).2)
        have F27 : kw_F [3, 16, 39, 40, 41, 42] σ (kw_ui S20 40 (σ.1 16 5).toNatClampNeg z25) := kw_F_ui F24 (by decide)
        refine kw_aload_n (pc := 80) (i := 45) (k := 2) (n := 0) rfl rfl rfl ?_
        refine kw_get (pc := 81) (i := 46) (v := .ref 16) rfl rfl rfl lkX2_12 (fun _ => rfl) ?_
        refine kw_get (pc := 84) (i := 47) (v := .ref 40) rfl rfl rfl lkX2_59 (fun _ => rfl) ?_
        refine kw_iload_n (pc := 87) (i := 48) (k := 1) (n := 3) rfl rfl rfl ?_
        refine kw_iald (pc := 88) (i := 49) (n := 6) rfl rfl (by omega) (by omega) (fun z28 e_z28 => ?_)
        have t_z28 := congrArg Int32.toInt e_z28
        have r_z28 := kw_rng z28
        refine kw_bipush (pc := 89) (i := 50) (v := (-4)) rfl rfl ?_
        refine kw_icmp_ge (pc := 91) (i := 51) (tgt := 96) rfl rfl (fun c29 => ?_) (fun c29 => ?_)
        · refine kw_aload_n (pc := 96) (i := 54) (k := 2) (n := 0) rfl rfl rfl ?_
          refine kw_get (pc := 97) (i := 55) (v := .ref 16) rfl rfl rfl lkX2_12 (fun _ => rfl) ?_
          refine kw_get (pc := 100) (i := 56) (v := .ref 41) rfl rfl rfl lkX2_66 (fun _ => rfl) ?_
          refine kw_iload_n (pc := 103) (i := 57) (k := 1) (n := 3) rfl rfl rfl ?_
          refine kw_aload_n (pc := 104) (i := 58) (k := 2) (n := 0) rfl rfl rfl ?_
          refine kw_aload_n (pc := 105) (i := 59) (k := 3) (n := 1) rfl rfl rfl ?_
          refine kw_iload_n (pc := 106) (i := 60) (k := 4) (n := 2) rfl rfl rfl ?_
          refine kw_iconst (pc := 107) (i := 61) (v := 1) rfl rfl ?_
          refine kw_bipush (pc := 108) (i := 62) (v := 9) rfl rfl ?_
          refine kw_callV (pc := 110) (i := 63) (Y := mX2_readFigure) (a := 3) (As := [.ref 2, .int t, .int 1, .int 9]) (st := [.int (σ.1 16 5), .ref 41]) kw_hE rfl rfl lvX2_62 arX2_readFigure (c_X2_readFigure_3_2 l (kw_ui S20 40 (σ.1 16 5).toNatClampNeg z25) I26 t 1 9 ) (by decide) (Nat.le_of_ble_eq_true rfl) rfl (fun v S31 p30 => ?_)
          obtain ⟨⟨I33, F34⟩, z32, rfl⟩ := p30
          have F35 : kw_F [3, 16, 39, 40, 41, 42] σ S31 := kw_F.tr F27 F34 (by decide)
          have r_z32 := kw_rng z32
          show kw_AW l 5 kw_E0 KX mX2_readLine (p_X2_readLine_3_2 σ t) 113 [(4, .int z9), (3, .int (σ.1 16 5)), (0, .ref 3), (1, .ref 2), (2, .int t)] [.int z32, .int (σ.1 16 5), .ref 41] S31
          refine kw_iast (pc := 113) (i := 64) (n := 6) rfl rfl (by omega) (by omega) ?_
          have I36 : kw_I bX (kw_ui S31 41 (σ.1 16 5).toNatClampNeg z32) := kw_I_ui I33 (kw_rng z32).1 (Int.le_of_lt_add_one (kw_rng z32).2)
          have F37 : kw_F [3, 16, 39, 40, 41, 42] σ (kw_ui S31 41 (σ.1 16 5).toNatClampNeg z32) := kw_F_ui F35 (by decide)
          refine kw_aload_n (pc := 114) (i := 65) (k := 2) (n := 0) rfl rfl rfl ?_
          refine kw_get (pc := 115) (i := 66) (v := .ref 16) rfl rfl rfl lkX2_12 (fun _ => rfl) ?_
          refine kw_get (pc := 118) (i := 67) (v := .ref 41) rfl rfl rfl lkX2_66 (fun _ => rfl) ?_
          refine kw_iload_n (pc := 121) (i := 68) (k := 1) (n := 3) rfl rfl rfl ?_
          refine kw_iald (pc := 122) (i := 69) (n := 6) rfl rfl (by omega) (by omega) (fun z38 e_z38 => ?_)
          have t_z38 := congrArg Int32.toInt e_z38
          have r_z38 := kw_rng z38
          refine kw_if_ge (pc := 123) (i := 70) (tgt := 128) rfl rfl (fun c39 => ?_) (fun c39 => ?_)
          · refine kw_aload_n (pc := 128) (i := 73) (k := 2) (n := 0) rfl rfl rfl ?_
            refine kw_get (pc := 129) (i := 74) (v := .ref 16) rfl rfl rfl lkX2_12 (fun _ => rfl) ?_
            refine kw_get (pc := 132) (i := 75) (v := .ref 42) rfl rfl rfl lkX2_69 (fun _ => rfl) ?_
            refine kw_iload_n (pc := 135) (i := 76) (k := 1) (n := 3) rfl rfl rfl ?_
            refine kw_aload_n (pc := 136) (i := 77) (k := 2) (n := 0) rfl rfl rfl ?_
            refine kw_aload_n (pc := 137) (i := 78) (k := 3) (n := 1) rfl rfl rfl ?_
            refine kw_iload_n (pc := 138) (i := 79) (k := 4) (n := 2) rfl rfl rfl ?_
            refine kw_iconst (pc := 139) (i := 80) (v := 0) rfl rfl ?_
            refine kw_bipush (pc := 140) (i := 81) (v := 9) rfl rfl ?_
            refine kw_callV (pc := 142) (i := 82) (Y := mX2_readFigure) (a := 3) (As := [.ref 2, .int t, .int 0, .int 9]) (st := [.int (σ.1 16 5), .ref 42]) kw_hE rfl rfl lvX2_62 arX2_readFigure (c_X2_readFigure_3_2 l (kw_ui S31 41 (σ.1 16 5).toNatClampNeg z32) I36 t 0 9 ) (by decide) (Nat.le_of_ble_eq_true rfl) rfl (fun v S41 p40 => ?_)
            obtain ⟨⟨I43, F44⟩, z42, rfl⟩ := p40
            have F45 : kw_F [3, 16, 39, 40, 41, 42] σ S41 := kw_F.tr F37 F44 (by decide)
            have r_z42 := kw_rng z42
            show kw_AW l 5 kw_E0 KX mX2_readLine (p_X2_readLine_3_2 σ t) 145 [(4, .int z9), (3, .int (σ.1 16 5)), (0, .ref 3), (1, .ref 2), (2, .int t)] [.int z42, .int (σ.1 16 5), .ref 42] S41
            refine kw_iast (pc := 145) (i := 83) (n := 6) rfl rfl (by omega) (by omega) ?_
            have I46 : kw_I bX (kw_ui S41 42 (σ.1 16 5).toNatClampNeg z42) := kw_I_ui I43 (kw_rng z42).1 (Int.le_of_lt_add_one (kw_rng z42).2)
            have F47 : kw_F [3, 16, 39, 40, 41, 42] σ (kw_ui S41 42 (σ.1 16 5).toNatClampNeg z42) := kw_F_ui F45 (by decide)
            refine kw_aload_n (pc := 146) (i := 84) (k := 2) (n := 0) rfl rfl rfl ?_
            refine kw_get (pc := 147) (i := 85) (v := .ref 16) rfl rfl rfl lkX2_12 (fun _ => rfl) ?_
            refine kw_get (pc := 150) (i := 86) (v := .ref 42) rfl rfl rfl lkX2_69 (fun _ => rfl) ?_
            refine kw_iload_n (pc := 153) (i := 87) (k := 1) (n := 3) rfl rfl rfl ?_
            refine kw_iald (pc := 154) (i := 88) (n := 6) rfl rfl (by omega) (by omega) (fun z48 e_z48 => ?_)
            have t_z48 := congrArg Int32.toInt e_z48
            have r_z48 := kw_rng z48
            refine kw_if_ge (pc := 155) (i := 89) (tgt := 160) rfl rfl (fun c49 => ?_) (fun c49 => ?_)
            · refine kw_aload_n (pc := 160) (i := 92) (k := 2) (n := 0) rfl rfl rfl ?_
              refine kw_get (pc := 161) (i := 93) (v := .ref 16) rfl rfl rfl lkX2_12 (fun _ => rfl) ?_
              refine kw_iload_n (pc := 164) (i := 94) (k := 1) (n := 3) rfl rfl rfl ?_
              refine kw_iconst (pc := 165) (i := 95) (v := 1) rfl rfl ?_
              refine kw_iadd (pc := 166) (i := 96) rfl (fun z50 e_z50 t_z50 => ?_)
              refine kw_puti (pc := 167) (i := 97) (z := 0) rfl rfl rfl lpX2_18 rfl rfl ?_
              have I51 : kw_I bX (kw_ui (kw_ui S41 42 (σ.1 16 5).toNatClampNeg z42) 16 5 z50) := kw_I_ui I46 (show 0 ≤ z50.toInt by omega) (show z50.toInt ≤ 6 by omega)
              have F52 : kw_F [3, 16, 39, 40, 41, 42] σ (kw_ui (kw_ui S41 42 (σ.1 16 5).toNatClampNeg z42) 16 5 z50) := kw_F_ui F47 (by decide)
              refine kw_iconst (pc := 170) (i := 98) (v := 1) rfl rfl ?_
              exact kw_ireturn (pc := 171) (i := 99) (ty := .boolean) rfl rfl rfl ⟨⟨I51, F52⟩, _, rfl, by omega⟩
            · refine kw_iconst (pc := 158) (i := 90) (v := 0) rfl rfl ?_
              exact kw_ireturn (pc := 159) (i := 91) (ty := .boolean) rfl rfl rfl ⟨⟨I46, F47⟩, _, rfl, by omega⟩
          · refine kw_iconst (pc := 126) (i := 71) (v := 0) rfl rfl ?_
            exact kw_ireturn (pc := 127) (i := 72) (ty := .boolean) rfl rfl rfl ⟨⟨I36, F37⟩, _, rfl, by omega⟩
        · refine kw_iconst (pc := 94) (i := 52) (v := 0) rfl rfl ?_
          exact kw_ireturn (pc := 95) (i := 53) (ty := .boolean) rfl rfl rfl ⟨⟨I26, F27⟩, _, rfl, by omega⟩
      · refine kw_iconst (pc := 37) (i := 18) (v := 0) rfl rfl ?_
        exact kw_ireturn (pc := 38) (i := 19) (ty := .boolean) rfl rfl rfl ⟨⟨hI, hF0⟩, _, rfl, by omega⟩
abbrev p_X2_faultOf_3_2 (σ : kw_S) (t : Int32) : Option Value → kw_S → Prop := fun v σ' => (kw_I bX σ' ∧ kw_F [3, 16, 39, 40, 41, 42, 43] σ σ') ∧ ∃ r : Int32, v = some (.int r)
set_option maxRecDepth 100000 in
set_option maxHeartbeats 4000000 in
theorem c_X2_faultOf_3_2 (l : Launch) (σ : kw_S) (hI : kw_I bX σ) (t : Int32) : kw_Met l 6 KX mX2_faultOf [.ref 3, .ref 2, .int t] σ (p_X2_faultOf_3_2 σ t) := by
  have r_t := kw_rng t
  have hF0 : kw_F [3, 16, 39, 40, 41, 42, 43] σ σ := kw_F.rf
  have q_m9 : (-9 : Int32).toInt = -9 := rfl
  have q_0 : (0 : Int32).toInt = 0 := rfl
  have q_1 : (1 : Int32).toInt = 1 := rfl
  have q_6 : (6 : Int32).toInt = 6 := rfl
  have q_119 : (119 : Int32).toInt = 119 := rfl
  refine kw_Met.of (by decide) rfl tX2_faultOf (Nat.le_of_ble_eq_true rfl) ?_
  show kw_AW l 6 kw_E0 KX mX2_faultOf (p_X2_faultOf_3_2 σ t) 0 [(0, .ref 3), (1, .ref 2), (2, .int t)] [] σ
  refine kw_aload_n (pc := 0) (i := 0) (k := 0) (n := 0) rfl rfl rfl ?_
  refine kw_get (pc := 1) (i := 1) (v := .ref 16) rfl rfl rfl lkX2_12 (fun _ => rfl) ?_
  refine kw_iconst (pc := 4) (i := 2) (v := 0) rfl rfl ?_
  refine kw_puti (pc := 5) (i := 3) (z := 0) rfl rfl rfl lpX2_18 rfl rfl ?_
  have I1 : kw_I bX (kw_ui σ 16 5 0) := kw_I_ui hI (show 0 ≤ (0 : Int32).toInt by omega) (show (0 : Int32).toInt ≤ 6 by omega)
  have F2 : kw_F [3, 16, 39, 40, 41, 42, 43] σ (kw_ui σ 16 5 0) := kw_F_ui hF0 (by decide)
  refine kw_aload_n (pc := 8) (i := 4) (k := 0) (n := 0) rfl rfl rfl ?_
  refine kw_get (pc := 9) (i := 5) (v := .ref 16) rfl rfl rfl lkX2_12 (fun _ => rfl) ?_
  refine kw_iconst (pc := 12) (i := 6) (v := 0) rfl rfl ?_
  refine kw_puti (pc := 13) (i := 7) (z := 0) rfl rfl rfl lpX2_22 rfl rfl ?_
  have I3 : kw_I bX (kw_ui (kw_ui σ 16 5 0) 16 6 0) := kw_I_ui I1 (show 0 ≤ (0 : Int32).toInt by omega) (show (0 : Int32).toInt ≤ 8 by omega)
  have F4 : kw_F [3, 16, 39, 40, 41, 42, 43] σ (kw_ui (kw_ui σ 16 5 0) 16 6 0) := kw_F_ui F2 (by decide)
  refine kw_aload_n (pc := 16) (i := 8) (k := 0) (n := 0) rfl rfl rfl ?_
  refine kw_iconst (pc := 17) (i := 9) (v := 0) rfl rfl ?_
  refine kw_puti (pc := 18) (i := 10) (z := 0) rfl rfl rfl lpX2_25 rfl rfl ?_
  have I5 : kw_I bX (kw_ui (kw_ui (kw_ui σ 16 5 0) 16 6 0) 3 1 0) := kw_I_ui I3 (kw_rng (0 : Int32)).1 (Int.le_of_lt_add_one (kw_rng (0 : Int32)).2)
  have F6 : kw_F [3, 16, 39, 40, 41, 42, 43] σ (kw_ui (kw_ui (kw_ui σ 16 5 0) 16 6 0) 3 1 0) := kw_F_ui F4 (by decide)
  refine kw_aload_n (pc := 21) (i := 11) (k := 0) (n := 0) rfl rfl rfl ?_
  refine kw_aload_n (pc := 22) (i := 12) (k := 1) (n := 1) rfl rfl rfl ?_
  refine kw_iload_n (pc := 23) (i := 13) (k := 2) (n := 2) rfl rfl rfl ?_
  refine kw_callV (pc := 24) (i := 14) (Y := mX2_skipBlanks) (a := 3) (As := [.ref 2, .int t]) (st := []) kw_hE rfl rfl lvX2_28 arX2_skipBlanks (c_X2_skipBlanks_3_2 l (kw_ui (kw_ui (kw_ui σ 16 5 0) 16 6 0) 3 1 0) I5 t ) (by decide) (Nat.le_of_ble_eq_true rfl) rfl (fun v S8 p7 => ?_)
  obtain ⟨⟨I9, F10⟩, rfl⟩ := p7
  have F11 : kw_F [3, 16, 39, 40, 41, 42, 43] σ S8 := kw_F.tr F6 F10 (by decide)
  show kw_AW l 6 kw_E0 KX mX2_faultOf (p_X2_faultOf_3_2 σ t) 27 [(0, .ref 3), (1, .ref 2), (2, .int t)] [] S8
  refine kw_aload_n (pc := 27) (i := 15) (k := 1) (n := 1) rfl rfl rfl ?_
  refine kw_iload_n (pc := 28) (i := 16) (k := 2) (n := 2) rfl rfl rfl ?_
  refine kw_aload_n (pc := 29) (i := 17) (k := 0) (n := 0) rfl rfl rfl ?_
  refine kw_get (pc := 30) (i := 18) (v := .int (S8.1 3 1)) rfl rfl rfl lkX2_25 (fun _ => rfl) ?_
  have b12 := kw_rng (S8.1 3 1)
  refine kw_callV (pc := 33) (i := 19) (Y := mX3_valueAt) (a := 2) (As := [.int t, .int (S8.1 3 1)]) (st := []) kw_hE rfl rfl lvX2_32 arX3_valueAt (c_X3_valueAt_2 l S8 I9 t (S8.1 3 1) ) (by decide) (Nat.le_of_ble_eq_true rfl) rfl (fun v S14 p13 => ?_)
  obtain ⟨e16, z15, rfl⟩ := p13
  rw [e16]
  have r_z15 := kw_rng z15
  show kw_AW l 6 kw_E0 KX mX2_faultOf (p_X2_faultOf_3_2 σ t) 36 [(0, .ref 3), (1, .ref 2), (2, .int t)] [.int z15] S8
  refine kw_bipush (pc := 36) (i := 20) (v := 119) rfl rfl ?_
  refine kw_icmp_eq (pc := 38) (i := 21) (tgt := 46) rfl rfl (fun c17 => ?_) (fun c17 => ?_)
  · refine kw_aload_n (pc := 46) (i := 25) (k := 0) (n := 0) rfl rfl rfl ?_
    refine kw_dup (pc := 47) (i := 26) rfl rfl ?_
    refine kw_get (pc := 48) (i := 27) (v := .int (S8.1 3 1)) rfl rfl rfl lkX2_25 (fun _ => rfl) ?_
    refine kw_iconst (pc := 51) (i := 28) (v := 1) rfl rfl ?_
    refine kw_iadd (pc := 52) (i := 29) rfl (fun z18 e_z18 t_z18 => ?_)
    refine kw_puti (pc := 53) (i := 30) (z := 0) rfl rfl rfl lpX2_25 rfl rfl ?_
    have I19 : kw_I bX (kw_ui S8 3 1 z18) := kw_I_ui I9 (kw_rng z18).1 (Int.le_of_lt_add_one (kw_rng z18).2)
    have F20 : kw_F [3, 16, 39, 40, 41, 42, 43] σ (kw_ui S8 3 1 z18) := kw_F_ui F11 (by decide)
    refine kw_aload_n (pc := 56) (i := 31) (k := 0) (n := 0) rfl rfl rfl ?_
    refine kw_aload_n (pc := 57) (i := 32) (k := 1) (n := 1) rfl rfl rfl ?_
    refine kw_iload_n (pc := 58) (i := 33) (k := 2) (n := 2) rfl rfl rfl ?_
    refine kw_callV (pc := 59) (i := 34) (Y := mX2_readWinds) (a := 3) (As := [.ref 2, .int t]) (st := []) kw_hE rfl rfl lvX2_38 arX2_readWinds (c_X2_readWinds_3_2 l (kw_ui S8 3 1 z18) I19 t ) (by decide) (Nat.le_of_ble_eq_true rfl) rfl (fun v S22 p21 => ?_)
    obtain ⟨⟨I23, F24⟩, rfl⟩ := p21
    have F25 : kw_F [3, 16, 39, 40, 41, 42, 43] σ S22 := kw_F.tr F20 F24 (by decide)
    show kw_AW l 6 kw_E0 KX mX2_faultOf (p_X2_faultOf_3_2 σ t) 62 [(0, .ref 3), (1, .ref 2), (2, .int t)] [] S22
    refine kw_aload_n (pc := 62) (i := 35) (k := 0) (n := 0) rfl rfl rfl ?_
    refine kw_get (pc := 63) (i := 36) (v := .ref 16) rfl rfl rfl lkX2_12 (fun _ => rfl) ?_
    refine kw_get (pc := 66) (i := 37) (v := .int (S22.1 16 6)) rfl rfl rfl lkX2_22 (fun _ => rfl) ?_
    have b26 : 0 ≤ (S22.1 16 6).toInt ∧ (S22.1 16 6).toInt ≤ 8 := I23 16 6
    refine kw_if_ne (pc := 69) (i := 38) (tgt := 77) rfl rfl (fun c27 => ?_) (fun c27 => ?_)
    · refine kw_iconst (pc := 77) (i := 42) (v := 0) rfl rfl ?_
      refine kw_istore_n (pc := 78) (i := 43) (n := 3) (lv' := [(3, .int 0), (0, .ref 3), (1, .ref 2), (2, .int t)]) rfl rfl (by decide) rfl ?_
      have L32 : ∀ (n36 : Nat) (x28 : Int32) (S29 : kw_S), kw_I bX S29 → kw_F [3, 16, 39, 40, 41, 42, 43] σ S29 → 0 ≤ x28.toInt → (8 - x28.toInt).toNat < n36 → kw_AW l 6 kw_E0 KX mX2_faultOf (p_X2_faultOf_3_2 σ t) 79 [(3, .int x28), (0, .ref 3), (1, .ref 2), (2, .int t)] [] S29 := by
        intro n36
        induction n36 with
        | zero => intro x28 S29 I30 F31 v34 m35; exact absurd m35 (Nat.not_lt_zero _)
        | succ n36 ih33 =>
          intro x28 S29 I30 F31 v34 m35
          have r_x28 := kw_rng x28
          refine kw_iload_n (pc := 79) (i := 44) (k := 0) (n := 3) rfl rfl rfl ?_
          refine kw_bipush (pc := 80) (i := 45) (v := 6) rfl rfl ?_
          refine kw_icmp_gt (pc := 82) (i := 46) (tgt := 136) rfl rfl (fun c37 => ?_) (fun c37 => ?_)
          · refine kw_aload_n (pc := 136) (i := 74) (k := 1) (n := 0) rfl rfl rfl ?_
            refine kw_get (pc := 137) (i := 75) (v := .int (S29.1 3 1)) rfl rfl rfl lkX2_25 (fun _ => rfl) ?_
            have b38 := kw_rng (S29.1 3 1)
            exact kw_ireturn (pc := 140) (i := 76) (ty := .int) rfl rfl rfl ⟨⟨I30, F31⟩, _, rfl⟩
          · refine kw_aload_n (pc := 85) (i := 47) (k := 1) (n := 0) rfl rfl rfl ?_
            refine kw_aload_n (pc := 86) (i := 48) (k := 2) (n := 1) rfl rfl rfl ?_
            refine kw_iload_n (pc := 87) (i := 49) (k := 3) (n := 2) rfl rfl rfl ?_
            refine kw_callV (pc := 88) (i := 50) (Y := mX2_skipBlanks) (a := 3) (As := [.ref 2, .int t]) (st := []) kw_hE rfl rfl lvX2_28 arX2_skipBlanks (c_X2_skipBlanks_3_2 l S29 I30 t ) (by decide) (Nat.le_of_ble_eq_true rfl) rfl (fun v S40 p39 => ?_)
            obtain ⟨⟨I41, F42⟩, rfl⟩ := p39
            have F43 : kw_F [3, 16, 39, 40, 41, 42, 43] σ S40 := kw_F.tr F31 F42 (by decide)
            show kw_AW l 6 kw_E0 KX mX2_faultOf (p_X2_faultOf_3_2 σ t) 91 [(3, .int x28), (0, .ref 3), (1, .ref 2), (2, .int t)] [] S40
            refine kw_iload_n (pc := 91) (i := 51) (k := 0) (n := 3) rfl rfl rfl ?_
            refine kw_if_le (pc := 92) (i := 52) (tgt := 110) rfl rfl (fun c44 => ?_) (fun c44 => ?_)
            · refine kw_iload_n (pc := 110) (i := 61) (k := 0) (n := 3) rfl rfl rfl ?_
              refine kw_bipush (pc := 111) (i := 62) (v := 6) rfl rfl ?_
              refine kw_icmp_eq (pc := 113) (i := 63) (tgt := 125) rfl rfl (fun c45 => ?_) (fun c45 => ?_)
              · refine kw_aload_n (pc := 125) (i := 69) (k := 1) (n := 0) rfl rfl rfl ?_
                refine kw_get (pc := 126) (i := 70) (v := .int (S40.1 3 1)) rfl rfl rfl lkX2_25 (fun _ => rfl) ?_
                have b46 := kw_rng (S40.1 3 1)
                exact kw_ireturn (pc := 129) (i := 71) (ty := .int) rfl rfl rfl ⟨⟨I41, F43⟩, _, rfl⟩
              · refine kw_aload_n (pc := 116) (i := 64) (k := 1) (n := 0) rfl rfl rfl ?_
                refine kw_aload_n (pc := 117) (i := 65) (k := 2) (n := 1) rfl rfl rfl ?_
                refine kw_iload_n (pc := 118) (i := 66) (k := 3) (n := 2) rfl rfl rfl ?_
                refine kw_callV (pc := 119) (i := 67) (Y := mX2_readLine) (a := 3) (As := [.ref 2, .int t]) (st := []) kw_hE rfl rfl lvX2_45 arX2_readLine (c_X2_readLine_3_2 l S40 I41 t ) (by decide) (Nat.le_of_ble_eq_true rfl) rfl (fun v S48 p47 => ?_)
                obtain ⟨⟨I51, F52⟩, z50, rfl, f49⟩ := p47
                have F53 : kw_F [3, 16, 39, 40, 41, 42, 43] σ S48 := kw_F.tr F43 F52 (by decide)
                have r_z50 := kw_rng z50
                show kw_AW l 6 kw_E0 KX mX2_faultOf (p_X2_faultOf_3_2 σ t) 122 [(3, .int x28), (0, .ref 3), (1, .ref 2), (2, .int t)] [.int z50] S48
                refine kw_if_ne (pc := 122) (i := 68) (tgt := 130) rfl rfl (fun c54 => ?_) (fun c54 => ?_)
                · refine kw_iinc' (pc := 130) (i := 72) (k := 0) (fun z => [(3, .int z), (0, .ref 3), (1, .ref 2), (2, .int t)]) rfl rfl (by decide) rfl (fun _ => rfl) (fun z55 e_z55 t_z55 => ?_)
                  refine kw_goto (pc := 133) (i := 73) (tgt := 79) rfl rfl ?_
                  refine kw_sub (lv' := [(3, .int z55), (0, .ref 3), (1, .ref 2), (2, .int t)]) [0, 1, 2, 3] rfl ?_
                  exact ih33 z55 S48 I51 F53 (by omega) (by omega)
                · refine kw_aload_n (pc := 125) (i := 69) (k := 1) (n := 0) rfl rfl rfl ?_
                  refine kw_get (pc := 126) (i := 70) (v := .int (S48.1 3 1)) rfl rfl rfl lkX2_25 (fun _ => rfl) ?_
                  have b56 := kw_rng (S48.1 3 1)
                  exact kw_ireturn (pc := 129) (i := 71) (ty := .int) rfl rfl rfl ⟨⟨I51, F53⟩, _, rfl⟩
            · refine kw_aload_n (pc := 95) (i := 53) (k := 1) (n := 0) rfl rfl rfl ?_
              refine kw_get (pc := 96) (i := 54) (v := .int (S40.1 3 1)) rfl rfl rfl lkX2_25 (fun _ => rfl) ?_
              have b57 := kw_rng (S40.1 3 1)
              refine kw_aload_n (pc := 99) (i := 55) (k := 2) (n := 1) rfl rfl rfl ?_
              refine kw_iload_n (pc := 100) (i := 56) (k := 3) (n := 2) rfl rfl rfl ?_
              refine kw_callV (pc := 101) (i := 57) (Y := mX3_sizeOf) (a := 2) (As := [.int t]) (st := [.int (S40.1 3 1)]) kw_hE rfl rfl lvX2_41 arX3_sizeOf (c_X3_sizeOf_2 l S40 I41 t ) (by decide) (Nat.le_of_ble_eq_true rfl) rfl (fun v S59 p58 => ?_)
              obtain ⟨e65, z64, rfl, f60, f61, f62, f63⟩ := p58
              rw [e65]
              have r_z64 := kw_rng z64
              show kw_AW l 6 kw_E0 KX mX2_faultOf (p_X2_faultOf_3_2 σ t) 104 [(3, .int x28), (0, .ref 3), (1, .ref 2), (2, .int t)] [.int z64, .int (S40.1 3 1)] S40
              refine kw_icmp_lt (pc := 104) (i := 58) (tgt := 110) rfl rfl (fun c66 => ?_) (fun c66 => ?_)
              · refine kw_iload_n (pc := 110) (i := 61) (k := 0) (n := 3) rfl rfl rfl ?_
                refine kw_bipush (pc := 111) (i := 62) (v := 6) rfl rfl ?_
                refine kw_icmp_eq (pc := 113) (i := 63) (tgt := 125) rfl rfl (fun c67 => ?_) (fun c67 => ?_)
                · refine kw_aload_n (pc := 125) (i := 69) (k := 1) (n := 0) rfl rfl rfl ?_
                  refine kw_get (pc := 126) (i := 70) (v := .int (S40.1 3 1)) rfl rfl rfl lkX2_25 (fun _ => rfl) ?_
                  exact kw_ireturn (pc := 129) (i := 71) (ty := .int) rfl rfl rfl ⟨⟨I41, F43⟩, _, rfl⟩
                · refine kw_aload_n (pc := 116) (i := 64) (k := 1) (n := 0) rfl rfl rfl ?_
                  refine kw_aload_n (pc := 117) (i := 65) (k := 2) (n := 1) rfl rfl rfl ?_
                  refine kw_iload_n (pc := 118) (i := 66) (k := 3) (n := 2) rfl rfl rfl ?_
                  refine kw_callV (pc := 119) (i := 67) (Y := mX2_readLine) (a := 3) (As := [.ref 2, .int t]) (st := []) kw_hE rfl rfl lvX2_45 arX2_readLine (c_X2_readLine_3_2 l S40 I41 t ) (by decide) (Nat.le_of_ble_eq_true rfl) rfl (fun v S69 p68 => ?_)
                  obtain ⟨⟨I72, F73⟩, z71, rfl, f70⟩ := p68
                  have F74 : kw_F [3, 16, 39, 40, 41, 42, 43] σ S69 := kw_F.tr F43 F73 (by decide)
                  have r_z71 := kw_rng z71
                  show kw_AW l 6 kw_E0 KX mX2_faultOf (p_X2_faultOf_3_2 σ t) 122 [(3, .int x28), (0, .ref 3), (1, .ref 2), (2, .int t)] [.int z71] S69
                  refine kw_if_ne (pc := 122) (i := 68) (tgt := 130) rfl rfl (fun c75 => ?_) (fun c75 => ?_)
                  · refine kw_iinc' (pc := 130) (i := 72) (k := 0) (fun z => [(3, .int z), (0, .ref 3), (1, .ref 2), (2, .int t)]) rfl rfl (by decide) rfl (fun _ => rfl) (fun z76 e_z76 t_z76 => ?_)
                    refine kw_goto (pc := 133) (i := 73) (tgt := 79) rfl rfl ?_
                    refine kw_sub (lv' := [(3, .int z76), (0, .ref 3), (1, .ref 2), (2, .int t)]) [0, 1, 2, 3] rfl ?_
                    exact ih33 z76 S69 I72 F74 (by omega) (by omega)
                  · refine kw_aload_n (pc := 125) (i := 69) (k := 1) (n := 0) rfl rfl rfl ?_
                    refine kw_get (pc := 126) (i := 70) (v := .int (S69.1 3 1)) rfl rfl rfl lkX2_25 (fun _ => rfl) ?_
                    have b77 := kw_rng (S69.1 3 1)
                    exact kw_ireturn (pc := 129) (i := 71) (ty := .int) rfl rfl rfl ⟨⟨I72, F74⟩, _, rfl⟩
              · refine kw_bipush (pc := 107) (i := 59) (v := (-9)) rfl rfl ?_
                exact kw_ireturn (pc := 109) (i := 60) (ty := .int) rfl rfl rfl ⟨⟨I41, F43⟩, _, rfl⟩
      exact L32 _ 0 S22 I23 F25 (by omega) (Nat.lt_succ_self _)
    · refine kw_aload_n (pc := 72) (i := 39) (k := 0) (n := 0) rfl rfl rfl ?_
      refine kw_get (pc := 73) (i := 40) (v := .int (S22.1 3 1)) rfl rfl rfl lkX2_25 (fun _ => rfl) ?_
      have b78 := kw_rng (S22.1 3 1)
      exact kw_ireturn (pc := 76) (i := 41) (ty := .int) rfl rfl rfl ⟨⟨I23, F25⟩, _, rfl⟩
  · refine kw_aload_n (pc := 41) (i := 22) (k := 0) (n := 0) rfl rfl rfl ?_
    refine kw_get (pc := 42) (i := 23) (v := .int (S8.1 3 1)) rfl rfl rfl lkX2_25 (fun _ => rfl) ?_
    exact kw_ireturn (pc := 45) (i := 24) (ty := .int) rfl rfl rfl ⟨⟨I9, F11⟩, _, rfl⟩
