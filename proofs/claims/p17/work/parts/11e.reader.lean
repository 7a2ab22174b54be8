noncomputable def l_X2_kindOf_2 (a0 : Int32) (S : kw_S) : Nat → Int32 → Int32
  | 0, _ => 0
  | n + 1, x1 => if x1.toInt < (6 : Int32).toInt then (kf_l (kw_LT x1.toNatClampNeg) fun z1 => if z1.toInt = a0.toInt then (x1) else (kf_l (x1 + Int32.ofInt 1) fun z2 => l_X2_kindOf_2 a0 S n z2)) else (((-1) : Int32))
theorem l_X2_kindOf_2_s (a0 : Int32) (S : kw_S) (n : Nat) (x1 : Int32) : l_X2_kindOf_2 a0 S (n + 1) x1 = if x1.toInt < (6 : Int32).toInt then (kf_l (kw_LT x1.toNatClampNeg) fun z1 => if z1.toInt = a0.toInt then (x1) else (kf_l (x1 + Int32.ofInt 1) fun z2 => l_X2_kindOf_2 a0 S n z2)) else (((-1) : Int32)) := rfl
noncomputable def f_X2_kindOf (σ : kw_S) (c : Int32) : Int32 := l_X2_kindOf_2 c σ ((7 - (0 : Int32).toInt).toNat + 1) (0 : Int32)
theorem f_X2_kindOf_u (σ : kw_S) (c : Int32) : f_X2_kindOf σ c = l_X2_kindOf_2 c σ ((7 - (0 : Int32).toInt).toNat + 1) (0 : Int32) := rfl
abbrev p_X2_kindOf (σ : kw_S) (c : Int32) : Option Value → kw_S → Prop := fun vv σ' => σ' = σ ∧ ∃ r : Int32, vv = some (.int r) ∧ r = f_X2_kindOf σ c
set_option maxRecDepth 100000 in
set_option maxHeartbeats 4000000 in
theorem c_X2_kindOf (l : Launch) (σ : kw_S) (hI : kw_I bX σ) (c : Int32) : kw_Met l 1 KX mX2_kindOf [.int c] σ (p_X2_kindOf σ c) := by
  have r_c := kw_rng c
  have hF := (f_X2_kindOf_u σ c).symm
  have q_m1 : (-1 : Int32).toInt = -1 := rfl
  have q_0 : (0 : Int32).toInt = 0 := rfl
  have q_6 : (6 : Int32).toInt = 6 := rfl
  refine kw_Met.of (by decide) rfl tX2_kindOf (Nat.le_of_ble_eq_true rfl) ?_
  show kw_AW l 1 kw_E0 KX mX2_kindOf (p_X2_kindOf σ c) 0 [(0, .int c)] [] σ
  refine kw_iconst (pc := 0) (i := 0) (v := 0) rfl rfl ?_
  refine kw_istore_n (pc := 1) (i := 1) (n := 1) (lv' := [(1, .int 0), (0, .int c)]) rfl rfl (by decide) rfl ?_
  have L2 : ∀ (n6 : Nat) (x1 : Int32), 0 ≤ x1.toInt → l_X2_kindOf_2 c σ n6 x1 = (f_X2_kindOf σ c) → (7 - x1.toInt).toNat < n6 → kw_AW l 1 kw_E0 KX mX2_kindOf (p_X2_kindOf σ c) 2 [(1, .int x1), (0, .int c)] [] σ := by
    intro n6
    induction n6 with
    | zero => intro x1 v4 hF m5; exact absurd m5 (Nat.not_lt_zero _)
    | succ n6 ih3 =>
      intro x1 v4 hF m5
      replace hF := kf_st (l_X2_kindOf_2_s _ _ _ _) hF
      have r_x1 := kw_rng x1
      refine kw_iload_n (pc := 2) (i := 2) (k := 0) (n := 1) rfl rfl rfl ?_
      refine kw_bipush (pc := 3) (i := 3) (v := 6) rfl rfl ?_
      refine kw_icmp_ge (pc := 5) (i := 4) (tgt := 25) rfl rfl (fun c7 => ?_) (fun c7 => ?_)
      · replace hF := kf_nl c7 hF
        refine kw_iconst (pc := 25) (i := 14) (v := (-1)) rfl rfl ?_
        exact kw_ireturn (pc := 26) (i := 15) (ty := .int) rfl rfl rfl ⟨rfl, _, rfl, hF⟩
      · replace hF := kf_p c7 hF
        refine kw_getsL (pc := 8) (i := 5) rfl ⟨rfl, rfl⟩ ?_
        refine kw_iload_n (pc := 11) (i := 6) (k := 0) (n := 1) rfl rfl rfl ?_
        refine kw_tld (pc := 12) (i := 7) (k := 0) (n := 6) rfl rfl (by omega) (by omega) (fun z8 e_z8 => ?_)
        have r_z8 := kw_rng z8
        replace hF := kf_le e_z8 hF
        refine kw_iload_n (pc := 13) (i := 8) (k := 1) (n := 0) rfl rfl rfl ?_
        refine kw_icmp_ne (pc := 14) (i := 9) (tgt := 19) rfl rfl (fun c9 => ?_) (fun c9 => ?_)
        · replace hF := kf_n c9 hF
          refine kw_iinc' (pc := 19) (i := 12) (k := 0) (fun z => [(1, .int z), (0, .int c)]) rfl rfl (by decide) rfl (fun _ => rfl) (fun z10 e_z10 t_z10 => ?_)
          replace hF := kf_le e_z10 hF
          refine kw_goto (pc := 22) (i := 13) (tgt := 2) rfl rfl ?_
          refine kw_sub (lv' := [(1, .int z10), (0, .int c)]) [0, 1] rfl ?_
          exact ih3 z10 (by omega) hF (by omega)
        · replace hF := kf_p c9 hF
          refine kw_iload_n (pc := 17) (i := 10) (k := 0) (n := 1) rfl rfl rfl ?_
          exact kw_ireturn (pc := 18) (i := 11) (ty := .int) rfl rfl rfl ⟨rfl, _, rfl, hF⟩
  exact L2 _ 0 (by omega) hF (Nat.lt_succ_self _)
noncomputable def f_X2_readFigure_3_2 (σ : kw_S) (t : Int32) (lo : Int32) (hi : Int32) : Int32 × kw_S := kf_l (f_X3_valueAt_2 σ t (σ.1 3 1)) fun z1 => kf_l (z1 - (48 : Int32)) fun z2 => if z2.toInt < lo.toInt then ((((-1) : Int32), σ)) else (if hi.toInt < z2.toInt then ((((-1) : Int32), σ)) else (kf_l ((σ.1 3 1) + (1 : Int32)) fun z3 => (z2, kw_ui σ 3 1 z3)))
theorem f_X2_readFigure_3_2_u (σ : kw_S) (t : Int32) (lo : Int32) (hi : Int32) : f_X2_readFigure_3_2 σ t lo hi = kf_l (f_X3_valueAt_2 σ t (σ.1 3 1)) fun z1 => kf_l (z1 - (48 : Int32)) fun z2 => if z2.toInt < lo.toInt then ((((-1) : Int32), σ)) else (if hi.toInt < z2.toInt then ((((-1) : Int32), σ)) else (kf_l ((σ.1 3 1) + (1 : Int32)) fun z3 => (z2, kw_ui σ 3 1 z3))) := rfl
abbrev p_X2_readFigure_3_2 (σ : kw_S) (t : Int32) (lo : Int32) (hi : Int32) : Option Value → kw_S → Prop := fun vv σ' => (kw_I bX σ' ∧ kw_F [3] σ σ') ∧ ∃ r : Int32, vv = some (.int r) ∧ (r, σ') = f_X2_readFigure_3_2 σ t lo hi
set_option maxRecDepth 100000 in
set_option maxHeartbeats 4000000 in
theorem c_X2_readFigure_3_2 (l : Launch) (σ : kw_S) (hI : kw_I bX σ) (t : Int32) (lo : Int32) (hi : Int32) : kw_Met l 4 KX mX2_readFigure [.ref 3, .ref 2, .int t, .int lo, .int hi] σ (p_X2_readFigure_3_2 σ t lo hi) := by
  have r_t := kw_rng t
  have r_lo := kw_rng lo
  have r_hi := kw_rng hi
  have hF0 : kw_F [3] σ σ := kw_F.rf
  have hF := (f_X2_readFigure_3_2_u σ t lo hi).symm
  have q_m1 : (-1 : Int32).toInt = -1 := rfl
  have q_1 : (1 : Int32).toInt = 1 := rfl
  have q_48 : (48 : Int32).toInt = 48 := rfl
  refine kw_Met.of (by decide) rfl tX2_readFigure (Nat.le_of_ble_eq_true rfl) ?_
  show kw_AW l 4 kw_E0 KX mX2_readFigure (p_X2_readFigure_3_2 σ t lo hi) 0 [(0, .ref 3), (1, .ref 2), (2, .int t), (3, .int lo), (4, .int hi)] [] σ
  refine kw_aload_n (pc := 0) (i := 0) (k := 1) (n := 1) rfl rfl rfl ?_
  refine kw_iload_n (pc := 1) (i := 1) (k := 2) (n := 2) rfl rfl rfl ?_
  refine kw_aload_n (pc := 2) (i := 2) (k := 0) (n := 0) rfl rfl rfl ?_
  refine kw_get (pc := 3) (i := 3) (v := .int (σ.1 3 1)) rfl rfl rfl lkX2_25 (fun _ => rfl) ?_
  have b1 := kw_rng (σ.1 3 1)
  refine kw_callV (pc := 6) (i := 4) (Y := mX3_valueAt) (a := 2) (As := [.int t, .int (σ.1 3 1)]) (st := []) kw_hE rfl rfl lvX2_32 arX3_valueAt (c_X3_valueAt_2 l σ hI t (σ.1 3 1) ) (by decide) (Nat.le_of_ble_eq_true rfl) rfl (fun v S3 p2 => ?_)
  obtain ⟨e6, z5, rfl, ef4⟩ := p2
  rw [e6]
  replace hF := kf_le ef4 hF
  have r_z5 := kw_rng z5
  show kw_AW l 4 kw_E0 KX mX2_readFigure (p_X2_readFigure_3_2 σ t lo hi) 9 [(0, .ref 3), (1, .ref 2), (2, .int t), (3, .int lo), (4, .int hi)] [.int z5] σ
  refine kw_bipush (pc := 9) (i := 5) (v := 48) rfl rfl ?_
  refine kw_isub (pc := 11) (i := 6) rfl (fun z7 e_z7 t_z7 => ?_)
  replace hF := kf_le e_z7 hF
  refine kw_istore (pc := 12) (i := 7) (n := 5) (lv' := [(5, .int z7), (0, .ref 3), (1, .ref 2), (2, .int t), (3, .int lo), (4, .int hi)]) rfl (by decide) rfl ?_
  refine kw_iload (pc := 14) (i := 8) (k := 0) (n := 5) rfl rfl ?_
  refine kw_iload_n (pc := 16) (i := 9) (k := 4) (n := 3) rfl rfl rfl ?_
  refine kw_icmp_lt (pc := 17) (i := 10) (tgt := 27) rfl rfl (fun c8 => ?_) (fun c8 => ?_)
  · replace hF := kf_p c8 hF
    refine kw_iconst (pc := 27) (i := 14) (v := (-1)) rfl rfl ?_
    exact kw_ireturn (pc := 28) (i := 15) (ty := .int) rfl rfl rfl ⟨⟨hI, hF0⟩, _, rfl, hF⟩
  · replace hF := kf_nl c8 hF
    refine kw_iload (pc := 20) (i := 11) (k := 0) (n := 5) rfl rfl ?_
    refine kw_iload (pc := 22) (i := 12) (k := 5) (n := 4) rfl rfl ?_
    refine kw_icmp_le (pc := 24) (i := 13) (tgt := 29) rfl rfl (fun c9 => ?_) (fun c9 => ?_)
    · replace hF := kf_nl c9 hF
      refine kw_aload_n (pc := 29) (i := 16) (k := 1) (n := 0) rfl rfl rfl ?_
      refine kw_dup (pc := 30) (i := 17) rfl rfl ?_
      refine kw_get (pc := 31) (i := 18) (v := .int (σ.1 3 1)) rfl rfl rfl lkX2_25 (fun _ => rfl) ?_
      refine kw_iconst (pc := 34) (i := 19) (v := 1) rfl rfl ?_
      refine kw_iadd (pc := 35) (i := 20) rfl (fun z10 e_z10 t_z10 => ?_)
      replace hF := kf_le e_z10 hF
      refine kw_puti (pc := 36) (i := 21) (z := 0) rfl rfl rfl lpX2_25 rfl rfl ?_
      have I11 : kw_I bX (kw_ui σ 3 1 z10) := kw_I_ui hI (kw_rng z10).1 (Int.le_of_lt_add_one (kw_rng z10).2)
      have F12 : kw_F [3] σ (kw_ui σ 3 1 z10) := kw_F_ui hF0 (by decide)
      refine kw_iload (pc := 39) (i := 22) (k := 0) (n := 5) rfl rfl ?_
      exact kw_ireturn (pc := 41) (i := 23) (ty := .int) rfl rfl rfl ⟨⟨I11, F12⟩, _, rfl, hF⟩
    · replace hF := kf_p c9 hF
      refine kw_iconst (pc := 27) (i := 14) (v := (-1)) rfl rfl ?_
      exact kw_ireturn (pc := 28) (i := 15) (ty := .int) rfl rfl rfl ⟨⟨hI, hF0⟩, _, rfl, hF⟩
noncomputable def l_X2_skipBlanks_3_2_2 (a2 : Int32) : Nat → Int32 → kw_S → kw_S
  | 0, _, S => S
  | n + 1, x3, S => if x3.toInt < (60 : Int32).toInt then (kf_l (f_X3_valueAt_2 S a2 (S.1 3 1)) fun z1 => if z1.toInt = (32 : Int32).toInt then (kf_l ((S.1 3 1) + (1 : Int32)) fun z2 => kf_l (x3 + Int32.ofInt 1) fun z3 => l_X2_skipBlanks_3_2_2 a2 n z3 (kw_ui S 3 1 z2)) else (S)) else (S)
theorem l_X2_skipBlanks_3_2_2_s (a2 : Int32) (n : Nat) (x3 : Int32) (S : kw_S) : l_X2_skipBlanks_3_2_2 a2 (n + 1) x3 S = if x3.toInt < (60 : Int32).toInt then (kf_l (f_X3_valueAt_2 S a2 (S.1 3 1)) fun z1 => if z1.toInt = (32 : Int32).toInt then (kf_l ((S.1 3 1) + (1 : Int32)) fun z2 => kf_l (x3 + Int32.ofInt 1) fun z3 => l_X2_skipBlanks_3_2_2 a2 n z3 (kw_ui S 3 1 z2)) else (S)) else (S) := rfl
noncomputable def f_X2_skipBlanks_3_2 (σ : kw_S) (t : Int32) : kw_S := l_X2_skipBlanks_3_2_2 t ((61 - (0 : Int32).toInt).toNat + 1) (0 : Int32) σ
theorem f_X2_skipBlanks_3_2_u (σ : kw_S) (t : Int32) : f_X2_skipBlanks_3_2 σ t = l_X2_skipBlanks_3_2_2 t ((61 - (0 : Int32).toInt).toNat + 1) (0 : Int32) σ := rfl
abbrev p_X2_skipBlanks_3_2 (σ : kw_S) (t : Int32) : Option Value → kw_S → Prop := fun vv σ' => (kw_I bX σ' ∧ kw_F [3] σ σ') ∧ vv = none ∧ σ' = f_X2_skipBlanks_3_2 σ t
set_option maxRecDepth 100000 in
set_option maxHeartbeats 4000000 in
theorem c_X2_skipBlanks_3_2 (l : Launch) (σ : kw_S) (hI : kw_I bX σ) (t : Int32) : kw_Met l 4 KX mX2_skipBlanks [.ref 3, .ref 2, .int t] σ (p_X2_skipBlanks_3_2 σ t) := by
  have r_t := kw_rng t
  have hF0 : kw_F [3] σ σ := kw_F.rf
  have hF := (f_X2_skipBlanks_3_2_u σ t).symm
  have q_0 : (0 : Int32).toInt = 0 := rfl
  have q_1 : (1 : Int32).toInt = 1 := rfl
  have q_32 : (32 : Int32).toInt = 32 := rfl
  have q_60 : (60 : Int32).toInt = 60 := rfl
  refine kw_Met.of (by decide) rfl tX2_skipBlanks (Nat.le_of_ble_eq_true rfl) ?_
  show kw_AW l 4 kw_E0 KX mX2_skipBlanks (p_X2_skipBlanks_3_2 σ t) 0 [(0, .ref 3), (1, .ref 2), (2, .int t)] [] σ
  refine kw_iconst (pc := 0) (i := 0) (v := 0) rfl rfl ?_
  refine kw_istore_n (pc := 1) (i := 1) (n := 3) (lv' := [(3, .int 0), (0, .ref 3), (1, .ref 2), (2, .int t)]) rfl rfl (by decide) rfl ?_
  have L5 : ∀ (n9 : Nat) (x1 : Int32) (S2 : kw_S), kw_I bX S2 → kw_F [3] σ S2 → 0 ≤ x1.toInt → l_X2_skipBlanks_3_2_2 t n9 x1 S2 = (f_X2_skipBlanks_3_2 σ t) → (61 - x1.toInt).toNat < n9 → kw_AW l 4 kw_E0 KX mX2_skipBlanks (p_X2_skipBlanks_3_2 σ t) 2 [(3, .int x1), (0, .ref 3), (1, .ref 2), (2, .int t)] [] S2 := by
    intro n9
    induction n9 with
    | zero => intro x1 S2 I3 F4 v7 hF m8; exact absurd m8 (Nat.not_lt_zero _)
    | succ n9 ih6 =>
      intro x1 S2 I3 F4 v7 hF m8
      replace hF := kf_st (l_X2_skipBlanks_3_2_2_s _ _ _ _) hF
      have r_x1 := kw_rng x1
      refine kw_iload_n (pc := 2) (i := 2) (k := 0) (n := 3) rfl rfl rfl ?_
      refine kw_bipush (pc := 3) (i := 3) (v := 60) rfl rfl ?_
      refine kw_icmp_ge (pc := 5) (i := 4) (tgt := 38) rfl rfl (fun c10 => ?_) (fun c10 => ?_)
      · replace hF := kf_nl c10 hF
        exact kw_return (pc := 38) (i := 20) rfl rfl ⟨⟨I3, F4⟩, rfl, hF⟩
      · replace hF := kf_p c10 hF
        refine kw_aload_n (pc := 8) (i := 5) (k := 2) (n := 1) rfl rfl rfl ?_
        refine kw_iload_n (pc := 9) (i := 6) (k := 3) (n := 2) rfl rfl rfl ?_
        refine kw_aload_n (pc := 10) (i := 7) (k := 1) (n := 0) rfl rfl rfl ?_
        refine kw_get (pc := 11) (i := 8) (v := .int (S2.1 3 1)) rfl rfl rfl lkX2_25 (fun _ => rfl) ?_
        have b11 := kw_rng (S2.1 3 1)
        refine kw_callV (pc := 14) (i := 9) (Y := mX3_valueAt) (a := 2) (As := [.int t, .int (S2.1 3 1)]) (st := []) kw_hE rfl rfl lvX2_32 arX3_valueAt (c_X3_valueAt_2 l S2 I3 t (S2.1 3 1) ) (by decide) (Nat.le_of_ble_eq_true rfl) rfl (fun v S13 p12 => ?_)
        obtain ⟨e16, z15, rfl, ef14⟩ := p12
        rw [e16]
        replace hF := kf_le ef14 hF
        have r_z15 := kw_rng z15
        show kw_AW l 4 kw_E0 KX mX2_skipBlanks (p_X2_skipBlanks_3_2 σ t) 17 [(3, .int x1), (0, .ref 3), (1, .ref 2), (2, .int t)] [.int z15] S2
        refine kw_bipush (pc := 17) (i := 10) (v := 32) rfl rfl ?_
        refine kw_icmp_ne (pc := 19) (i := 11) (tgt := 38) rfl rfl (fun c17 => ?_) (fun c17 => ?_)
        · replace hF := kf_n c17 hF
          exact kw_return (pc := 38) (i := 20) rfl rfl ⟨⟨I3, F4⟩, rfl, hF⟩
        · replace hF := kf_p c17 hF
          refine kw_aload_n (pc := 22) (i := 12) (k := 1) (n := 0) rfl rfl rfl ?_
          refine kw_dup (pc := 23) (i := 13) rfl rfl ?_
          refine kw_get (pc := 24) (i := 14) (v := .int (S2.1 3 1)) rfl rfl rfl lkX2_25 (fun _ => rfl) ?_
          refine kw_iconst (pc := 27) (i := 15) (v := 1) rfl rfl ?_
          refine kw_iadd (pc := 28) (i := 16) rfl (fun z18 e_z18 t_z18 => ?_)
          replace hF := kf_le e_z18 hF
          refine kw_puti (pc := 29) (i := 17) (z := 0) rfl rfl rfl lpX2_25 rfl rfl ?_
          have I19 : kw_I bX (kw_ui S2 3 1 z18) := kw_I_ui I3 (kw_rng z18).1 (Int.le_of_lt_add_one (kw_rng z18).2)
          have F20 : kw_F [3] σ (kw_ui S2 3 1 z18) := kw_F_ui F4 (by decide)
          refine kw_iinc' (pc := 32) (i := 18) (k := 0) (fun z => [(3, .int z), (0, .ref 3), (1, .ref 2), (2, .int t)]) rfl rfl (by decide) rfl (fun _ => rfl) (fun z21 e_z21 t_z21 => ?_)
          replace hF := kf_le e_z21 hF
          refine kw_goto (pc := 35) (i := 19) (tgt := 2) rfl rfl ?_
          refine kw_sub (lv' := [(3, .int z21), (0, .ref 3), (1, .ref 2), (2, .int t)]) [0, 1, 2, 3] rfl ?_
          exact ih6 z21 (kw_ui S2 3 1 z18) I19 F20 (by omega) hF (by omega)
  exact L5 _ 0 σ hI hF0 (by omega) hF (Nat.lt_succ_self _)
noncomputable def l_X2_readWinds_3_2_2 (a2 : Int32) : Nat → Int32 → kw_S → kw_S
  | 0, _, S => S
  | n + 1, x3, S => if x3.toInt < (8 : Int32).toInt then (kf_l (f_X3_valueAt_2 S a2 (S.1 3 1)) fun z1 => kf_l (z1 - (48 : Int32)) fun z2 => if z2.toInt < 0 then (S) else (if (5 : Int32).toInt < z2.toInt then (S) else (kf_l (x3 + (1 : Int32)) fun z3 => kf_l ((S.1 3 1) + (1 : Int32)) fun z4 => kf_l (x3 + Int32.ofInt 1) fun z5 => l_X2_readWinds_3_2_2 a2 n z5 (kw_ui (kw_ui (kw_ui S 43 x3.toNatClampNeg z2) 16 6 z3) 3 1 z4)))) else (S)
theorem l_X2_readWinds_3_2_2_s (a2 : Int32) (n : Nat) (x3 : Int32) (S : kw_S) : l_X2_readWinds_3_2_2 a2 (n + 1) x3 S = if x3.toInt < (8 : Int32).toInt then (kf_l (f_X3_valueAt_2 S a2 (S.1 3 1)) fun z1 => kf_l (z1 - (48 : Int32)) fun z2 => if z2.toInt < 0 then (S) else (if (5 : Int32).toInt < z2.toInt then (S) else (kf_l (x3 + (1 : Int32)) fun z3 => kf_l ((S.1 3 1) + (1 : Int32)) fun z4 => kf_l (x3 + Int32.ofInt 1) fun z5 => l_X2_readWinds_3_2_2 a2 n z5 (kw_ui (kw_ui (kw_ui S 43 x3.toNatClampNeg z2) 16 6 z3) 3 1 z4)))) else (S) := rfl
noncomputable def f_X2_readWinds_3_2 (σ : kw_S) (t : Int32) : kw_S := l_X2_readWinds_3_2_2 t ((9 - (0 : Int32).toInt).toNat + 1) (0 : Int32) σ
theorem f_X2_readWinds_3_2_u (σ : kw_S) (t : Int32) : f_X2_readWinds_3_2 σ t = l_X2_readWinds_3_2_2 t ((9 - (0 : Int32).toInt).toNat + 1) (0 : Int32) σ := rfl
abbrev p_X2_readWinds_3_2 (σ : kw_S) (t : Int32) : Option Value → kw_S → Prop := fun vv σ' => (kw_I bX σ' ∧ kw_F [3, 16, 43] σ σ') ∧ vv = none ∧ σ' = f_X2_readWinds_3_2 σ t
set_option maxRecDepth 100000 in
set_option maxHeartbeats 4000000 in
theorem c_X2_readWinds_3_2 (l : Launch) (σ : kw_S) (hI : kw_I bX σ) (t : Int32) : kw_Met l 4 KX mX2_readWinds [.ref 3, .ref 2, .int t] σ (p_X2_readWinds_3_2 σ t) := by
  have r_t := kw_rng t
  have hF0 : kw_F [3, 16, 43] σ σ := kw_F.rf
  have hF := (f_X2_readWinds_3_2_u σ t).symm
  have q_0 : (0 : Int32).toInt = 0 := rfl
  have q_1 : (1 : Int32).toInt = 1 := rfl
  have q_5 : (5 : Int32).toInt = 5 := rfl
  have q_8 : (8 : Int32).toInt = 8 := rfl
  have q_48 : (48 : Int32).toInt = 48 := rfl
  refine kw_Met.of (by decide) rfl tX2_readWinds (Nat.le_of_ble_eq_true rfl) ?_
  show kw_AW l 4 kw_E0 KX mX2_readWinds (p_X2_readWinds_3_2 σ t) 0 [(0, .ref 3), (1, .ref 2), (2, .int t)] [] σ
  refine kw_iconst (pc := 0) (i := 0) (v := 0) rfl rfl ?_
  refine kw_istore_n (pc := 1) (i := 1) (n := 3) (lv' := [(3, .int 0), (0, .ref 3), (1, .ref 2), (2, .int t)]) rfl rfl (by decide) rfl ?_
  have L5 : ∀ (n9 : Nat) (x1 : Int32) (S2 : kw_S), kw_I bX S2 → kw_F [3, 16, 43] σ S2 → 0 ≤ x1.toInt → l_X2_readWinds_3_2_2 t n9 x1 S2 = (f_X2_readWinds_3_2 σ t) → (9 - x1.toInt).toNat < n9 → kw_AW l 4 kw_E0 KX mX2_readWinds (p_X2_readWinds_3_2 σ t) 2 [(3, .int x1), (0, .ref 3), (1, .ref 2), (2, .int t)] [] S2 := by
    intro n9
    induction n9 with
    | zero => intro x1 S2 I3 F4 v7 hF m8; exact absurd m8 (Nat.not_lt_zero _)
    | succ n9 ih6 =>
      intro x1 S2 I3 F4 v7 hF m8
      replace hF := kf_st (l_X2_readWinds_3_2_2_s _ _ _ _) hF
      have r_x1 := kw_rng x1
      refine kw_iload_n (pc := 2) (i := 2) (k := 0) (n := 3) rfl rfl rfl ?_
      refine kw_bipush (pc := 3) (i := 3) (v := 8) rfl rfl ?_
      refine kw_icmp_ge (pc := 5) (i := 4) (tgt := 71) rfl rfl (fun c10 => ?_) (fun c10 => ?_)
      · replace hF := kf_nl c10 hF
        exact kw_return (pc := 71) (i := 39) rfl rfl ⟨⟨I3, F4⟩, rfl, hF⟩
      · replace hF := kf_p c10 hF
        refine kw_aload_n (pc := 8) (i := 5) (k := 2) (n := 1) rfl rfl rfl ?_
        refine kw_iload_n (pc := 9) (i := 6) (k := 3) (n := 2) rfl rfl rfl ?_
        refine kw_aload_n (pc := 10) (i := 7) (k := 1) (n := 0) rfl rfl rfl ?_
        refine kw_get (pc := 11) (i := 8) (v := .int (S2.1 3 1)) rfl rfl rfl lkX2_25 (fun _ => rfl) ?_
        have b11 := kw_rng (S2.1 3 1)
        refine kw_callV (pc := 14) (i := 9) (Y := mX3_valueAt) (a := 2) (As := [.int t, .int (S2.1 3 1)]) (st := []) kw_hE rfl rfl lvX2_32 arX3_valueAt (c_X3_valueAt_2 l S2 I3 t (S2.1 3 1) ) (by decide) (Nat.le_of_ble_eq_true rfl) rfl (fun v S13 p12 => ?_)
        obtain ⟨e16, z15, rfl, ef14⟩ := p12
        rw [e16]
        replace hF := kf_le ef14 hF
        have r_z15 := kw_rng z15
        show kw_AW l 4 kw_E0 KX mX2_readWinds (p_X2_readWinds_3_2 σ t) 17 [(3, .int x1), (0, .ref 3), (1, .ref 2), (2, .int t)] [.int z15] S2
        refine kw_bipush (pc := 17) (i := 10) (v := 48) rfl rfl ?_
        refine kw_isub (pc := 19) (i := 11) rfl (fun z17 e_z17 t_z17 => ?_)
        replace hF := kf_le e_z17 hF
        refine kw_istore (pc := 20) (i := 12) (n := 4) (lv' := [(4, .int z17), (3, .int x1), (0, .ref 3), (1, .ref 2), (2, .int t)]) rfl (by decide) rfl ?_
        refine kw_iload (pc := 22) (i := 13) (k := 0) (n := 4) rfl rfl ?_
        refine kw_if_lt (pc := 24) (i := 14) (tgt := 33) rfl rfl (fun c18 => ?_) (fun c18 => ?_)
        · replace hF := kf_p c18 hF
          exact kw_return (pc := 33) (i := 18) rfl rfl ⟨⟨I3, F4⟩, rfl, hF⟩
        · replace hF := kf_nl c18 hF
          refine kw_iload (pc := 27) (i := 15) (k := 0) (n := 4) rfl rfl ?_
          refine kw_iconst (pc := 29) (i := 16) (v := 5) rfl rfl ?_
          refine kw_icmp_le (pc := 30) (i := 17) (tgt := 34) rfl rfl (fun c19 => ?_) (fun c19 => ?_)
          · replace hF := kf_nl c19 hF
            refine kw_aload_n (pc := 34) (i := 19) (k := 2) (n := 0) rfl rfl rfl ?_
            refine kw_get (pc := 35) (i := 20) (v := .ref 16) rfl rfl rfl lkX2_12 (fun _ => rfl) ?_
            refine kw_get (pc := 38) (i := 21) (v := .ref 43) rfl rfl rfl lkX2_49 (fun _ => rfl) ?_
            refine kw_iload_n (pc := 41) (i := 22) (k := 1) (n := 3) rfl rfl rfl ?_
            refine kw_iload (pc := 42) (i := 23) (k := 0) (n := 4) rfl rfl ?_
            refine kw_iast (pc := 44) (i := 24) (n := 8) rfl rfl (by omega) (by omega) ?_
            have I20 : kw_I bX (kw_ui S2 43 x1.toNatClampNeg z17) := kw_I_ui I3 (kw_rng z17).1 (Int.le_of_lt_add_one (kw_rng z17).2)
            have F21 : kw_F [3, 16, 43] σ (kw_ui S2 43 x1.toNatClampNeg z17) := kw_F_ui F4 (by decide)
            refine kw_aload_n (pc := 45) (i := 25) (k := 2) (n := 0) rfl rfl rfl ?_
            refine kw_get (pc := 46) (i := 26) (v := .ref 16) rfl rfl rfl lkX2_12 (fun _ => rfl) ?_
            refine kw_iload_n (pc := 49) (i := 27) (k := 1) (n := 3) rfl rfl rfl ?_
            refine kw_iconst (pc := 50) (i := 28) (v := 1) rfl rfl ?_
            refine kw_iadd (pc := 51) (i := 29) rfl (fun z22 e_z22 t_z22 => ?_)
            replace hF := kf_le e_z22 hF
            refine kw_puti (pc := 52) (i := 30) (z := 0) rfl rfl rfl lpX2_22 rfl rfl ?_
            have I23 : kw_I bX (kw_ui (kw_ui S2 43 x1.toNatClampNeg z17) 16 6 z22) := kw_I_ui I20 (show 0 ≤ z22.toInt by omega) (show z22.toInt ≤ 8 by omega)
            have F24 : kw_F [3, 16, 43] σ (kw_ui (kw_ui S2 43 x1.toNatClampNeg z17) 16 6 z22) := kw_F_ui F21 (by decide)
            refine kw_aload_n (pc := 55) (i := 31) (k := 2) (n := 0) rfl rfl rfl ?_
            refine kw_dup (pc := 56) (i := 32) rfl rfl ?_
            refine kw_get (pc := 57) (i := 33) (v := .int (S2.1 3 1)) rfl rfl rfl lkX2_25 (fun _ => rfl) ?_
            refine kw_iconst (pc := 60) (i := 34) (v := 1) rfl rfl ?_
            refine kw_iadd (pc := 61) (i := 35) rfl (fun z25 e_z25 t_z25 => ?_)
            replace hF := kf_le e_z25 hF
            refine kw_puti (pc := 62) (i := 36) (z := 0) rfl rfl rfl lpX2_25 rfl rfl ?_
            have I26 : kw_I bX (kw_ui (kw_ui (kw_ui S2 43 x1.toNatClampNeg z17) 16 6 z22) 3 1 z25) := kw_I_ui I23 (kw_rng z25).1 (Int.le_of_lt_add_one (kw_rng z25).2)
            have F27 : kw_F [3, 16, 43] σ (kw_ui (kw_ui (kw_ui S2 43 x1.toNatClampNeg z17) 16 6 z22) 3 1 z25) := kw_F_ui F24 (by decide)
            refine kw_iinc' (pc := 65) (i := 37) (k := 1) (fun z => [(3, .int z), (4, .int z17), (0, .ref 3), (1, .ref 2), (2, .int t)]) rfl rfl (by decide) rfl (fun _ => rfl) (fun z28 e_z28 t_z28 => ?_)
            replace hF := kf_le e_z28 hF
            refine kw_goto (pc := 68) (i := 38) (tgt := 2) rfl rfl ?_
            refine kw_sub (lv' := [(3, .int z28), (0, .ref 3), (1, .ref 2), (2, .int t)]) [0, 2, 3, 4] rfl ?_
            exact ih6 z28 (kw_ui (kw_ui (kw_ui S2 43 x1.toNatClampNeg z17) 16 6 z22) 3 1 z25) I26 F27 (by omega) hF (by omega)
          · replace hF := kf_p c19 hF
            exact kw_return (pc := 33) (i := 18) rfl rfl ⟨⟨I3, F4⟩, rfl, hF⟩
  exact L5 _ 0 σ hI hF0 (by omega) hF (Nat.lt_succ_self _)
noncomputable def f_X2_readLine_3_2 (σ : kw_S) (t : Int32) : Int32 × kw_S := kf_l (f_X3_valueAt_2 σ t (σ.1 3 1)) fun z1 => kf_l (f_X2_kindOf σ z1) fun z2 => if (σ.1 16 5).toInt < 0 then (((0 : Int32), σ)) else (if (σ.1 16 5).toInt < (6 : Int32).toInt then (if z2.toInt < 0 then (((0 : Int32), σ)) else (kf_l ((σ.1 3 1) + (1 : Int32)) fun z3 => kf_b (f_X2_readFigure_3_2 (kw_ui (kw_ui σ 3 1 z3) 39 (σ.1 16 5).toNatClampNeg z2) t (0 : Int32) (8 : Int32)) fun z4 S5 => kf_l (z4 - (4 : Int32)) fun z6 => kf_l ((kw_ui S5 40 (σ.1 16 5).toNatClampNeg z6).1 40 (σ.1 16 5).toNatClampNeg) fun z7 => if z7.toInt < ((-4) : Int32).toInt then (((0 : Int32), kw_ui S5 40 (σ.1 16 5).toNatClampNeg z6)) else (kf_b (f_X2_readFigure_3_2 (kw_ui S5 40 (σ.1 16 5).toNatClampNeg z6) t (1 : Int32) (9 : Int32)) fun z8 S9 => kf_l ((kw_ui S9 41 (σ.1 16 5).toNatClampNeg z8).1 41 (σ.1 16 5).toNatClampNeg) fun z10 => if z10.toInt < 0 then (((0 : Int32), kw_ui S9 41 (σ.1 16 5).toNatClampNeg z8)) else (kf_b (f_X2_readFigure_3_2 (kw_ui S9 41 (σ.1 16 5).toNatClampNeg z8) t (0 : Int32) (9 : Int32)) fun z11 S12 => kf_l ((kw_ui S12 42 (σ.1 16 5).toNatClampNeg z11).1 42 (σ.1 16 5).toNatClampNeg) fun z13 => if z13.toInt < 0 then (((0 : Int32), kw_ui S12 42 (σ.1 16 5).toNatClampNeg z11)) else (kf_l ((σ.1 16 5) + (1 : Int32)) fun z14 => ((1 : Int32), kw_ui (kw_ui S12 42 (σ.1 16 5).toNatClampNeg z11) 16 5 z14)))))) else (((0 : Int32), σ)))
theorem f_X2_readLine_3_2_u (σ : kw_S) (t : Int32) : f_X2_readLine_3_2 σ t = kf_l (f_X3_valueAt_2 σ t (σ.1 3 1)) fun z1 => kf_l (f_X2_kindOf σ z1) fun z2 => if (σ.1 16 5).toInt < 0 then (((0 : Int32), σ)) else (if (σ.1 16 5).toInt < (6 : Int32).toInt then (if z2.toInt < 0 then (((0 : Int32), σ)) else (kf_l ((σ.1 3 1) + (1 : Int32)) fun z3 => kf_b (f_X2_readFigure_3_2 (kw_ui (kw_ui σ 3 1 z3) 39 (σ.1 16 5).toNatClampNeg z2) t (0 : Int32) (8 : Int32)) fun z4 S5 => kf_l (z4 - (4 : Int32)) fun z6 => kf_l ((kw_ui S5 40 (σ.1 16 5).toNatClampNeg z6).1 40 (σ.1 16 5).toNatClampNeg) fun z7 => if z7.toInt < ((-4) : Int32).toInt then (((0 : Int32), kw_ui S5 40 (σ.1 16 5).toNatClampNeg z6)) else (kf_b (f_X2_readFigure_3_2 (kw_ui S5 40 (σ.1 16 5).toNatClampNeg z6) t (1 : Int32) (9 : Int32)) fun z8 S9 => kf_l ((kw_ui S9 41 (σ.1 16 5).toNatClampNeg z8).1 41 (σ.1 16 5).toNatClampNeg) fun z10 => if z10.toInt < 0 then (((0 : Int32), kw_ui S9 41 (σ.1 16 5).toNatClampNeg z8)) else (kf_b (f_X2_readFigure_3_2 (kw_ui S9 41 (σ.1 16 5).toNatClampNeg z8) t (0 : Int32) (9 : Int32)) fun z11 S12 => kf_l ((kw_ui S12 42 (σ.1 16 5).toNatClampNeg z11).1 42 (σ.1 16 5).toNatClampNeg) fun z13 => if z13.toInt < 0 then (((0 : Int32), kw_ui S12 42 (σ.1 16 5).toNatClampNeg z11)) else (kf_l ((σ.1 16 5) + (1 : Int32)) fun z14 => ((1 : Int32), kw_ui (kw_ui S12 42 (σ.1 16 5).toNatClampNeg z11) 16 5 z14)))))) else (((0 : Int32), σ))) := rfl
abbrev p_X2_readLine_3_2 (σ : kw_S) (t : Int32) : Option Value → kw_S → Prop := fun vv σ' => (kw_I bX σ' ∧ kw_F [3, 16, 39, 40, 41, 42] σ σ') ∧ ∃ r : Int32, vv = some (.int r) ∧ (r.toInt = 0 ∨ r.toInt = 1) ∧ (r, σ') = f_X2_readLine_3_2 σ t
set_option maxRecDepth 100000 in
set_option maxHeartbeats 4000000 in
theorem c_X2_readLine_3_2 (l : Launch) (σ : kw_S) (hI : kw_I bX σ) (t : Int32) : kw_Met l 5 KX mX2_readLine [.ref 3, .ref 2, .int t] σ (p_X2_readLine_3_2 σ t) := by
  have r_t := kw_rng t
  have hF0 : kw_F [3, 16, 39, 40, 41, 42] σ σ := kw_F.rf
  have hF := (f_X2_readLine_3_2_u σ t).symm
  have q_m4 : (-4 : Int32).toInt = -4 := rfl
  have q_0 : (0 : Int32).toInt = 0 := rfl
  have q_1 : (1 : Int32).toInt = 1 := rfl
  have q_4 : (4 : Int32).toInt = 4 := rfl
  have q_6 : (6 : Int32).toInt = 6 := rfl
  have q_8 : (8 : Int32).toInt = 8 := rfl
  have q_9 : (9 : Int32).toInt = 9 := rfl
  refine kw_Met.of (by decide) rfl tX2_readLine (Nat.le_of_ble_eq_true rfl) ?_
  show kw_AW l 5 kw_E0 KX mX2_readLine (p_X2_readLine_3_2 σ t) 0 [(0, .ref 3), (1, .ref 2), (2, .int t)] [] σ
  refine kw_aload_n (pc := 0) (i := 0) (k := 0) (n := 0) rfl rfl rfl ?_
  refine kw_get (pc := 1) (i := 1) (v := .ref 16) rfl rfl rfl lkX2_12 (fun _ => rfl) ?_
  refine kw_get (pc := 4) (i := 2) (v := .int (σ.1 16 5)) rfl rfl rfl lkX2_18 (fun _ => rfl) ?_
  have b1 : 0 ≤ (σ.1 16 5).toInt ∧ (σ.1 16 5).toInt ≤ 6 := hI 16 5
  refine kw_istore_n (pc := 7) (i := 3) (n := 3) (lv' := [(3, .int (σ.1 16 5)), (0, .ref 3), (1, .ref 2), (2, .int t)]) rfl rfl (by decide) rfl ?_
  refine kw_aload_n (pc := 8) (i := 4) (k := 2) (n := 1) rfl rfl rfl ?_
  refine kw_iload_n (pc := 9) (i := 5) (k := 3) (n := 2) rfl rfl rfl ?_
  refine kw_aload_n (pc := 10) (i := 6) (k := 1) (n := 0) rfl rfl rfl ?_
  refine kw_get (pc := 11) (i := 7) (v := .int (σ.1 3 1)) rfl rfl rfl lkX2_25 (fun _ => rfl) ?_
  have b2 := kw_rng (σ.1 3 1)
  refine kw_callV (pc := 14) (i := 8) (Y := mX3_valueAt) (a := 2) (As := [.int t, .int (σ.1 3 1)]) (st := []) kw_hE rfl rfl lvX2_32 arX3_valueAt (c_X3_valueAt_2 l σ hI t (σ.1 3 1) ) (by decide) (Nat.le_of_ble_eq_true rfl) rfl (fun v S4 p3 => ?_)
  obtain ⟨e7, z6, rfl, ef5⟩ := p3
  rw [e7]
  replace hF := kf_le ef5 hF
  have r_z6 := kw_rng z6
  show kw_AW l 5 kw_E0 KX mX2_readLine (p_X2_readLine_3_2 σ t) 17 [(3, .int (σ.1 16 5)), (0, .ref 3), (1, .ref 2), (2, .int t)] [.int z6] σ
  refine kw_callS (pc := 17) (i := 9) (Y := mX2_kindOf) (As := [.int z6]) (st := []) kw_hE rfl lsX2_53 arX2_kindOf (c_X2_kindOf l σ hI z6 ) (by decide) (Nat.le_of_ble_eq_true rfl) rfl (fun v S9 p8 => ?_)
  obtain ⟨e12, z11, rfl, ef10⟩ := p8
  rw [e12]
  replace hF := kf_le ef10 hF
  have r_z11 := kw_rng z11
  show kw_AW l 5 kw_E0 KX mX2_readLine (p_X2_readLine_3_2 σ t) 20 [(3, .int (σ.1 16 5)), (0, .ref 3), (1, .ref 2), (2, .int t)] [.int z11] σ
  refine kw_istore (pc := 20) (i := 10) (n := 4) (lv' := [(4, .int z11), (3, .int (σ.1 16 5)), (0, .ref 3), (1, .ref 2), (2, .int t)]) rfl (by decide) rfl ?_
  refine kw_iload_n (pc := 22) (i := 11) (k := 1) (n := 3) rfl rfl rfl ?_
  refine kw_if_lt (pc := 23) (i := 12) (tgt := 37) rfl rfl (fun c13 => ?_) (fun c13 => ?_)
  · replace hF := kf_p c13 hF
    refine kw_iconst (pc := 37) (i := 18) (v := 0) rfl rfl ?_
    exact kw_ireturn (pc := 38) (i := 19) (ty := .boolean) rfl rfl rfl ⟨⟨hI, hF0⟩, _, rfl, by omega, hF⟩
  · replace hF := kf_nl c13 hF
    refine kw_iload_n (pc := 26) (i := 13) (k := 1) (n := 3) rfl rfl rfl ?_
    refine kw_bipush (pc := 27) (i := 14) (v := 6) rfl rfl ?_
    refine kw_icmp_ge (pc := 29) (i := 15) (tgt := 37) rfl rfl (fun c14 => ?_) (fun c14 => ?_)
    · replace hF := kf_nl c14 hF
      refine kw_iconst (pc := 37) (i := 18) (v := 0) rfl rfl ?_
      exact kw_ireturn (pc := 38) (i := 19) (ty := .boolean) rfl rfl rfl ⟨⟨hI, hF0⟩, _, rfl, by omega, hF⟩
    · replace hF := kf_p c14 hF
      refine kw_iload (pc := 32) (i := 16) (k := 0) (n := 4) rfl rfl ?_
      refine kw_if_ge (pc := 34) (i := 17) (tgt := 39) rfl rfl (fun c15 => ?_) (fun c15 => ?_)
      · replace hF := kf_nl c15 hF
        refine kw_aload_n (pc := 39) (i := 20) (k := 2) (n := 0) rfl rfl rfl ?_
        refine kw_dup (pc := 40) (i := 21) rfl rfl ?_
        refine kw_get (pc := 41) (i := 22) (v := .int (σ.1 3 1)) rfl rfl rfl lkX2_25 (fun _ => rfl) ?_
        refine kw_iconst (pc := 44) (i := 23) (v := 1) rfl rfl ?_
        refine kw_iadd (pc := 45) (i := 24) rfl (fun z16 e_z16 t_z16 => ?_)
        replace hF := kf_le e_z16 hF
        refine kw_puti (pc := 46) (i := 25) (z := 0) rfl rfl rfl lpX2_25 rfl rfl ?_
        have I17 : kw_I bX (kw_ui σ 3 1 z16) := kw_I_ui hI (kw_rng z16).1 (Int.le_of_lt_add_one (kw_rng z16).2)
        have F18 : kw_F [3, 16, 39, 40, 41, 42] σ (kw_ui σ 3 1 z16) := kw_F_ui hF0 (by decide)
        refine kw_aload_n (pc := 49) (i := 26) (k := 2) (n := 0) rfl rfl rfl ?_
        refine kw_get (pc := 50) (i := 27) (v := .ref 16) rfl rfl rfl lkX2_12 (fun _ => rfl) ?_
        refine kw_get (pc := 53) (i := 28) (v := .ref 39) rfl rfl rfl lkX2_56 (fun _ => rfl) ?_
        refine kw_iload_n (pc := 56) (i := 29) (k := 1) (n := 3) rfl rfl rfl ?_
        refine kw_iload (pc := 57) (i := 30) (k := 0) (n := 4) rfl rfl ?_
        refine kw_iast (pc := 59) (i := 31) (n := 6) rfl rfl (by omega) (by omega) ?_
        have I19 : kw_I bX (kw_ui (kw_ui σ 3 1 z16) 39 (σ.1 16 5).toNatClampNeg z11) := kw_I_ui I17 (kw_rng z11).1 (Int.le_of_lt_add_one (kw_rng z11).2)
        have F20 : kw_F [3, 16, 39, 40, 41, 42] σ (kw_ui (kw_ui σ 3 1 z16) 39 (σ.1 16 5).toNatClampNeg z11) := kw_F_ui F18 (by decide)
        refine kw_aload_n (pc := 60) (i := 32) (k := 2) (n := 0) rfl rfl rfl ?_
        refine kw_get (pc := 61) (i := 33) (v := .ref 16) rfl rfl rfl lkX2_12 (fun _ => rfl) ?_
        refine kw_get (pc := 64) (i := 34) (v := .ref 40) rfl rfl rfl lkX2_59 (fun _ => rfl) ?_
        refine kw_iload_n (pc := 67) (i := 35) (k := 1) (n := 3) rfl rfl rfl ?_
        refine kw_aload_n (pc := 68) (i := 36) (k := 2) (n := 0) rfl rfl rfl ?_
        refine kw_aload_n (pc := 69) (i := 37) (k := 3) (n := 1) rfl rfl rfl ?_
        refine kw_iload_n (pc := 70) (i := 38) (k := 4) (n := 2) rfl rfl rfl ?_
        refine kw_iconst (pc := 71) (i := 39) (v := 0) rfl rfl ?_
        refine kw_bipush (pc := 72) (i := 40) (v := 8) rfl rfl ?_
        refine kw_callV (pc := 74) (i := 41) (Y := mX2_readFigure) (a := 3) (As := [.ref 2, .int t, .int 0, .int 8]) (st := [.int (σ.1 16 5), .ref 40]) kw_hE rfl rfl lvX2_62 arX2_readFigure (c_X2_readFigure_3_2 l (kw_ui (kw_ui σ 3 1 z16) 39 (σ.1 16 5).toNatClampNeg z11) I19 t 0 8 ) (by decide) (Nat.le_of_ble_eq_true rfl) rfl (fun v S22 p21 => ?_)
        obtain ⟨⟨I25, F26⟩, z24, rfl, ef23⟩ := p21
        have F27 : kw_F [3, 16, 39, 40, 41, 42] σ S22 := kw_F.tr F20 F26 (by decide)
        replace hF := kf_be ef23 hF
        have r_z24 := kw_rng z24
        show kw_AW l 5 kw_E0 KX mX2_readLine (p_X2_readLine_3_2 σ t) 77 [(4, .int z11), (3, .int (σ.1 16 5)), (0, .ref 3), (1, .ref 2), (2, .int t)] [.int z24, .int (σ.1 16 5), .ref 40] S22
        refine kw_iconst (pc := 77) (i := 42) (v := 4) rfl rfl ?_
        refine kw_isub (pc := 78) (i := 43) rfl (fun z28 e_z28 t_z28 => ?_)
        replace hF := kf_le e_z28 hF
        refine kw_iast (pc := 79) (i := 44) (n := 6) rfl rfl (by omega) (by omega) ?_
        have I29 : kw_I bX (kw_ui S22 40 (σ.1 16 5).toNatClampNeg z28) := kw_I_ui I25 (kw_rng z28).1 (Int.le_of_lt_add_one (kw_rng z28).2)
        have F30 : kw_F [3, 16, 39, 40, 41, 42] σ (kw_ui S22 40 (σ.1 16 5).toNatClampNeg z28) := kw_F_ui F27 (by decide)
        refine kw_aload_n (pc := 80) (i := 45) (k := 2) (n := 0) rfl rfl rfl ?_
        refine kw_get (pc := 81) (i := 46) (v := .ref 16) rfl rfl rfl lkX2_12 (fun _ => rfl) ?_
        refine kw_get (pc := 84) (i := 47) (v := .ref 40) rfl rfl rfl lkX2_59 (fun _ => rfl) ?_
        refine kw_iload_n (pc := 87) (i := 48) (k := 1) (n := 3) rfl rfl rfl ?_
        refine kw_iald (pc := 88) (i := 49) (n := 6) rfl rfl (by omega) (by omega) (fun z31 e_z31 => ?_)
        replace hF := kf_le e_z31 hF
        have t_z31 := congrArg Int32.toInt e_z31
        have r_z31 := kw_rng z31
        refine kw_bipush (pc := 89) (i := 50) (v := (-4)) rfl rfl ?_
        refine kw_icmp_ge (pc := 91) (i := 51) (tgt := 96) rfl rfl (fun c32 => ?_) (fun c32 => ?_)
        · replace hF := kf_nl c32 hF
          refine kw_aload_n (pc := 96) (i := 54) (k := 2) (n := 0) rfl rfl rfl ?_
          refine kw_get (pc := 97) (i := 55) (v := .ref 16) rfl rfl rfl lkX2_12 (fun _ => rfl) ?_
          refine kw_get (pc := 100) (i := 56) (v := .ref 41) rfl rfl rfl lkX2_66 (fun _ => rfl) ?_
          refine kw_iload_n (pc := 103) (i := 57) (k := 1) (n := 3) rfl rfl rfl ?_
          refine kw_aload_n (pc := 104) (i := 58) (k := 2) (n := 0) rfl rfl rfl ?_
          refine kw_aload_n (pc := 105) (i := 59) (k := 3) (n := 1) rfl rfl rfl ?_
          refine kw_iload_n (pc := 106) (i := 60) (k := 4) (n := 2) rfl rfl rfl ?_
          refine kw_iconst (pc := 107) (i := 61) (v := 1) rfl rfl ?_
          refine kw_bipush (pc := 108) (i := 62) (v := 9) rfl rfl ?_
          refine kw_callV (pc := 110) (i := 63) (Y := mX2_readFigure) (a := 3) (As := [.ref 2, .int t, .int 1, .int 9]) (st := [.int (σ.1 16 5), .ref 41]) kw_hE rfl rfl lvX2_62 arX2_readFigure (c_X2_readFigure_3_2 l (kw_ui S22 40 (σ.1 16 5).toNatClampNeg z28) I29 t 1 9 ) (by decide) (Nat.le_of_ble_eq_true rfl) rfl (fun v S34 p33 => ?_)
          obtain ⟨⟨I37, F38⟩, z36, rfl, ef35⟩ := p33
          have F39 : kw_F [3, 16, 39, 40, 41, 42] σ S34 := kw_F.tr F30 F38 (by decide)
          replace hF := kf_be ef35 hF
          have r_z36 := kw_rng z36
          show kw_AW l 5 kw_E0 KX mX2_readLine (p_X2_readLine_3_2 σ t) 113 [(4, .int z11), (3, .int (σ.1 16 5)), (0, .ref 3), (1, .ref 2), (2, .int t)] [.int z36, .int (σ.1 16 5), .ref 41] S34
          refine kw_iast (pc := 113) (i := 64) (n := 6) rfl rfl (by omega) (by omega) ?_
          have I40 : kw_I bX (kw_ui S34 41 (σ.1 16 5).toNatClampNeg z36) := kw_I_ui I37 (kw_rng z36).1 (Int.le_of_lt_add_one (kw_rng z36).2)
          have F41 : kw_F [3, 16, 39, 40, 41, 42] σ (kw_ui S34 41 (σ.1 16 5).toNatClampNeg z36) := kw_F_ui F39 (by decide)
          refine kw_aload_n (pc := 114) (i := 65) (k := 2) (n := 0) rfl rfl rfl ?_
          refine kw_get (pc := 115) (i := 66) (v := .ref 16) rfl rfl rfl lkX2_12 (fun _ => rfl) ?_
          refine kw_get (pc := 118) (i := 67) (v := .ref 41) rfl rfl rfl lkX2_66 (fun _ => rfl) ?_
          refine kw_iload_n (pc := 121) (i := 68) (k := 1) (n := 3) rfl rfl rfl ?_
          refine kw_iald (pc := 122) (i := 69) (n := 6) rfl rfl (by omega) (by omega) (fun z42 e_z42 => ?_)
          replace hF := kf_le e_z42 hF
          have t_z42 := congrArg Int32.toInt e_z42
          have r_z42 := kw_rng z42
          refine kw_if_ge (pc := 123) (i := 70) (tgt := 128) rfl rfl (fun c43 => ?_) (fun c43 => ?_)
          · replace hF := kf_nl c43 hF
            refine kw_aload_n (pc := 128) (i := 73) (k := 2) (n := 0) rfl rfl rfl ?_
            refine kw_get (pc := 129) (i := 74) (v := .ref 16) rfl rfl rfl lkX2_12 (fun _ => rfl) ?_
            refine kw_get (pc := 132) (i := 75) (v := .ref 42) rfl rfl rfl lkX2_69 (fun _ => rfl) ?_
            refine kw_iload_n (pc := 135) (i := 76) (k := 1) (n := 3) rfl rfl rfl ?_
            refine kw_aload_n (pc := 136) (i := 77) (k := 2) (n := 0) rfl rfl rfl ?_
            refine kw_aload_n (pc := 137) (i := 78) (k := 3) (n := 1) rfl rfl rfl ?_
            refine kw_iload_n (pc := 138) (i := 79) (k := 4) (n := 2) rfl rfl rfl ?_
            refine kw_iconst (pc := 139) (i := 80) (v := 0) rfl rfl ?_
            refine kw_bipush (pc := 140) (i := 81) (v := 9) rfl rfl ?_
            refine kw_callV (pc := 142) (i := 82) (Y := mX2_readFigure) (a := 3) (As := [.ref 2, .int t, .int 0, .int 9]) (st := [.int (σ.1 16 5), .ref 42]) kw_hE rfl rfl lvX2_62 arX2_readFigure (c_X2_readFigure_3_2 l (kw_ui S34 41 (σ.1 16 5).toNatClampNeg z36) I40 t 0 9 ) (by decide) (Nat.le_of_ble_eq_true rfl) rfl (fun v S45 p44 => ?_)
            obtain ⟨⟨I48, F49⟩, z47, rfl, ef46⟩ := p44
            have F50 : kw_F [3, 16, 39, 40, 41, 42] σ S45 := kw_F.tr F41 F49 (by decide)
            replace hF := kf_be ef46 hF
            have r_z47 := kw_rng z47
            show kw_AW l 5 kw_E0 KX mX2_readLine (p_X2_readLine_3_2 σ t) 145 [(4, .int z11), (3, .int (σ.1 16 5)), (0, .ref 3), (1, .ref 2), (2, .int t)] [.int z47, .int (σ.1 16 5), .ref 42] S45
            refine kw_iast (pc := 145) (i := 83) (n := 6) rfl rfl (by omega) (by omega) ?_
            have I51 : kw_I bX (kw_ui S45 42 (σ.1 16 5).toNatClampNeg z47) := kw_I_ui I48 (kw_rng z47).1 (Int.le_of_lt_add_one (kw_rng z47).2)
            have F52 : kw_F [3, 16, 39, 40, 41, 42] σ (kw_ui S45 42 (σ.1 16 5).toNatClampNeg z47) := kw_F_ui F50 (by decide)
            refine kw_aload_n (pc := 146) (i := 84) (k := 2) (n := 0) rfl rfl rfl ?_
            refine kw_get (pc := 147) (i := 85) (v := .ref 16) rfl rfl rfl lkX2_12 (fun _ => rfl) ?_
            refine kw_get (pc := 150) (i := 86) (v := .ref 42) rfl rfl rfl lkX2_69 (fun _ => rfl) ?_
            refine kw_iload_n (pc := 153) (i := 87) (k := 1) (n := 3) rfl rfl rfl ?_
            refine kw_iald (pc := 154) (i := 88) (n := 6) rfl rfl (by omega) (by omega) (fun z53 e_z53 => ?_)
            replace hF := kf_le e_z53 hF
            have t_z53 := congrArg Int32.toInt e_z53
            have r_z53 := kw_rng z53
            refine kw_if_ge (pc := 155) (i := 89) (tgt := 160) rfl rfl (fun c54 => ?_) (fun c54 => ?_)
            · replace hF := kf_nl c54 hF
              refine kw_aload_n (pc := 160) (i := 92) (k := 2) (n := 0) rfl rfl rfl ?_
              refine kw_get (pc := 161) (i := 93) (v := .ref 16) rfl rfl rfl lkX2_12 (fun _ => rfl) ?_
              refine kw_iload_n (pc := 164) (i := 94) (k := 1) (n := 3) rfl rfl rfl ?_
              refine kw_iconst (pc := 165) (i := 95) (v := 1) rfl rfl ?_
              refine kw_iadd (pc := 166) (i := 96) rfl (fun z55 e_z55 t_z55 => ?_)
              replace hF := kf_le e_z55 hF
              refine kw_puti (pc := 167) (i := 97) (z := 0) rfl rfl rfl lpX2_18 rfl rfl ?_
              have I56 : kw_I bX (kw_ui (kw_ui S45 42 (σ.1 16 5).toNatClampNeg z47) 16 5 z55) := kw_I_ui I51 (show 0 ≤ z55.toInt by omega) (show z55.toInt ≤ 6 by omega)
              have F57 : kw_F [3, 16, 39, 40, 41, 42] σ (kw_ui (kw_ui S45 42 (σ.1 16 5).toNatClampNeg z47) 16 5 z55) := kw_F_ui F52 (by decide)
              refine kw_iconst (pc := 170) (i := 98) (v := 1) rfl rfl ?_
              exact kw_ireturn (pc := 171) (i := 99) (ty := .boolean) rfl rfl rfl ⟨⟨I56, F57⟩, _, rfl, by omega, hF⟩
            · replace hF := kf_p c54 hF
              refine kw_iconst (pc := 158) (i := 90) (v := 0) rfl rfl ?_
              exact kw_ireturn (pc := 159) (i := 91) (ty := .boolean) rfl rfl rfl ⟨⟨I51, F52⟩, _, rfl, by omega, hF⟩
          · replace hF := kf_p c43 hF
            refine kw_iconst (pc := 126) (i := 71) (v := 0) rfl rfl ?_
            exact kw_ireturn (pc := 127) (i := 72) (ty := .boolean) rfl rfl rfl ⟨⟨I40, F41⟩, _, rfl, by omega, hF⟩
        · replace hF := kf_p c32 hF
          refine kw_iconst (pc := 94) (i := 52) (v := 0) rfl rfl ?_
          exact kw_ireturn (pc := 95) (i := 53) (ty := .boolean) rfl rfl rfl ⟨⟨I29, F30⟩, _, rfl, by omega, hF⟩
      · replace hF := kf_p c15 hF
        refine kw_iconst (pc := 37) (i := 18) (v := 0) rfl rfl ?_
        exact kw_ireturn (pc := 38) (i := 19) (ty := .boolean) rfl rfl rfl ⟨⟨hI, hF0⟩, _, rfl, by omega, hF⟩
noncomputable def l_X2_faultOf_3_2_79 (a2 : Int32) : Nat → Int32 → kw_S → Int32 × kw_S
  | 0, _, S => (0, S)
  | n + 1, x3, S => if (6 : Int32).toInt < x3.toInt then (((S.1 3 1), S)) else (kf_l (f_X2_skipBlanks_3_2 S a2) fun S5 => if 0 < x3.toInt then (kf_l (f_X3_sizeOf_2 S5 a2) fun z9 => if (S5.1 3 1).toInt < z9.toInt then (if x3.toInt = (6 : Int32).toInt then (((S5.1 3 1), S5)) else (kf_b (f_X2_readLine_3_2 S5 a2) fun z10 S11 => if z10.toInt = 0 then (((S11.1 3 1), S11)) else (kf_l (x3 + Int32.ofInt 1) fun z12 => l_X2_faultOf_3_2_79 a2 n z12 S11))) else ((((-9) : Int32), S5))) else (if x3.toInt = (6 : Int32).toInt then (((S5.1 3 1), S5)) else (kf_b (f_X2_readLine_3_2 S5 a2) fun z6 S7 => if z6.toInt = 0 then (((S7.1 3 1), S7)) else (kf_l (x3 + Int32.ofInt 1) fun z8 => l_X2_faultOf_3_2_79 a2 n z8 S7))))
theorem l_X2_faultOf_3_2_79_s (a2 : Int32) (n : Nat) (x3 : Int32) (S : kw_S) : l_X2_faultOf_3_2_79 a2 (n + 1) x3 S = if (6 : Int32).toInt < x3.toInt then (((S.1 3 1), S)) else (kf_l (f_X2_skipBlanks_3_2 S a2) fun S5 => if 0 < x3.toInt then (kf_l (f_X3_sizeOf_2 S5 a2) fun z9 => if (S5.1 3 1).toInt < z9.toInt then (if x3.toInt = (6 : Int32).toInt then (((S5.1 3 1), S5)) else (kf_b (f_X2_readLine_3_2 S5 a2) fun z10 S11 => if z10.toInt = 0 then (((S11.1 3 1), S11)) else (kf_l (x3 + Int32.ofInt 1) fun z12 => l_X2_faultOf_3_2_79 a2 n z12 S11))) else ((((-9) : Int32), S5))) else (if x3.toInt = (6 : Int32).toInt then (((S5.1 3 1), S5)) else (kf_b (f_X2_readLine_3_2 S5 a2) fun z6 S7 => if z6.toInt = 0 then (((S7.1 3 1), S7)) else (kf_l (x3 + Int32.ofInt 1) fun z8 => l_X2_faultOf_3_2_79 a2 n z8 S7)))) := rfl
noncomputable def f_X2_faultOf_3_2 (σ : kw_S) (t : Int32) : Int32 × kw_S := kf_l (f_X2_skipBlanks_3_2 (kw_ui (kw_ui (kw_ui σ 16 5 0) 16 6 0) 3 1 0) t) fun S1 => kf_l (f_X3_valueAt_2 S1 t (S1.1 3 1)) fun z2 => if z2.toInt = (119 : Int32).toInt then (kf_l ((S1.1 3 1) + (1 : Int32)) fun z3 => kf_l (f_X2_readWinds_3_2 (kw_ui S1 3 1 z3) t) fun S4 => if (S4.1 16 6).toInt = 0 then (((S4.1 3 1), S4)) else (l_X2_faultOf_3_2_79 t ((8 - (0 : Int32).toInt).toNat + 1) (0 : Int32) S4)) else (((S1.1 3 1), S1))
theorem f_X2_faultOf_3_2_u (σ : kw_S) (t : Int32) : f_X2_faultOf_3_2 σ t = kf_l (f_X2_skipBlanks_3_2 (kw_ui (kw_ui (kw_ui σ 16 5 0) 16 6 0) 3 1 0) t) fun S1 => kf_l (f_X3_valueAt_2 S1 t (S1.1 3 1)) fun z2 => if z2.toInt = (119 : Int32).toInt then (kf_l ((S1.1 3 1) + (1 : Int32)) fun z3 => kf_l (f_X2_readWinds_3_2 (kw_ui S1 3 1 z3) t) fun S4 => if (S4.1 16 6).toInt = 0 then (((S4.1 3 1), S4)) else (l_X2_faultOf_3_2_79 t ((8 - (0 : Int32).toInt).toNat + 1) (0 : Int32) S4)) else (((S1.1 3 1), S1)) := rfl
abbrev p_X2_faultOf_3_2 (σ : kw_S) (t : Int32) : Option Value → kw_S → Prop := fun vv σ' => (kw_I bX σ' ∧ kw_F [3, 16, 39, 40, 41, 42, 43] σ σ') ∧ ∃ r : Int32, vv = some (.int r) ∧ (r, σ') = f_X2_faultOf_3_2 σ t
set_option maxRecDepth 100000 in
set_option maxHeartbeats 4000000 in
theorem c_X2_faultOf_3_2 (l : Launch) (σ : kw_S) (hI : kw_I bX σ) (t : Int32) : kw_Met l 6 KX mX2_faultOf [.ref 3, .ref 2, .int t] σ (p_X2_faultOf_3_2 σ t) := by
  have r_t := kw_rng t
  have hF0 : kw_F [3, 16, 39, 40, 41, 42, 43] σ σ := kw_F.rf
  have hF := (f_X2_faultOf_3_2_u σ t).symm
  have q_m9 : (-9 : Int32).toInt = -9 := rfl
  have q_0 : (0 : Int32).toInt = 0 := rfl
  have q_1 : (1 : Int32).toInt = 1 := rfl
  have q_6 : (6 : Int32).toInt = 6 := rfl
  have q_119 : (119 : Int32).toInt = 119 := rfl
  refine kw_Met.of (by decide) rfl tX2_faultOf (Nat.le_of_ble_eq_true rfl) ?_
  show kw_AW l 6 kw_E0 KX mX2_faultOf (p_X2_faultOf_3_2 σ t) 0 [(0, .ref 3), (1, .ref 2), (2, .int t)] [] σ
  refine kw_aload_n (pc := 0) (i := 0) (k := 0) (n := 0) rfl rfl rfl ?_
  refine kw_get (pc := 1) (i := 1) (v := .ref 16) rfl rfl rfl lkX2_12 (fun _ => rfl) ?_
  refine kw_iconst (pc := 4) (i := 2) (v := 0) rfl rfl ?_
  refine kw_puti (pc := 5) (i := 3) (z := 0) rfl rfl rfl lpX2_18 rfl rfl ?_
  have I1 : kw_I bX (kw_ui σ 16 5 0) := kw_I_ui hI (show 0 ≤ (0 : Int32).toInt by omega) (show (0 : Int32).toInt ≤ 6 by omega)
  have F2 : kw_F [3, 16, 39, 40, 41, 42, 43] σ (kw_ui σ 16 5 0) := kw_F_ui hF0 (by decide)
  refine kw_aload_n (pc := 8) (i := 4) (k := 0) (n := 0) rfl rfl rfl ?_
  refine kw_get (pc := 9) (i := 5) (v := .ref 16) rfl rfl rfl lkX2_12 (fun _ => rfl) ?_
  refine kw_iconst (pc := 12) (i := 6) (v := 0) rfl rfl ?_
  refine kw_puti (pc := 13) (i := 7) (z := 0) rfl rfl rfl lpX2_22 rfl rfl ?_
  have I3 : kw_I bX (kw_ui (kw_ui σ 16 5 0) 16 6 0) := kw_I_ui I1 (show 0 ≤ (0 : Int32).toInt by omega) (show (0 : Int32).toInt ≤ 8 by omega)
  have F4 : kw_F [3, 16, 39, 40, 41, 42, 43] σ (kw_ui (kw_ui σ 16 5 0) 16 6 0) := kw_F_ui F2 (by decide)
  refine kw_aload_n (pc := 16) (i := 8) (k := 0) (n := 0) rfl rfl rfl ?_
  refine kw_iconst (pc := 17) (i := 9) (v := 0) rfl rfl ?_
  refine kw_puti (pc := 18) (i := 10) (z := 0) rfl rfl rfl lpX2_25 rfl rfl ?_
  have I5 : kw_I bX (kw_ui (kw_ui (kw_ui σ 16 5 0) 16 6 0) 3 1 0) := kw_I_ui I3 (kw_rng (0 : Int32)).1 (Int.le_of_lt_add_one (kw_rng (0 : Int32)).2)
  have F6 : kw_F [3, 16, 39, 40, 41, 42, 43] σ (kw_ui (kw_ui (kw_ui σ 16 5 0) 16 6 0) 3 1 0) := kw_F_ui F4 (by decide)
  refine kw_aload_n (pc := 21) (i := 11) (k := 0) (n := 0) rfl rfl rfl ?_
  refine kw_aload_n (pc := 22) (i := 12) (k := 1) (n := 1) rfl rfl rfl ?_
  refine kw_iload_n (pc := 23) (i := 13) (k := 2) (n := 2) rfl rfl rfl ?_
  refine kw_callV (pc := 24) (i := 14) (Y := mX2_skipBlanks) (a := 3) (As := [.ref 2, .int t]) (st := []) kw_hE rfl rfl lvX2_28 arX2_skipBlanks (c_X2_skipBlanks_3_2 l (kw_ui (kw_ui (kw_ui σ 16 5 0) 16 6 0) 3 1 0) I5 t ) (by decide) (Nat.le_of_ble_eq_true rfl) rfl (fun v S8 p7 => ?_)
  obtain ⟨⟨I10, F11⟩, rfl, ef9⟩ := p7
  have F12 : kw_F [3, 16, 39, 40, 41, 42, 43] σ S8 := kw_F.tr F6 F11 (by decide)
  replace hF := kf_le ef9 hF
  show kw_AW l 6 kw_E0 KX mX2_faultOf (p_X2_faultOf_3_2 σ t) 27 [(0, .ref 3), (1, .ref 2), (2, .int t)] [] S8
  refine kw_aload_n (pc := 27) (i := 15) (k := 1) (n := 1) rfl rfl rfl ?_
  refine kw_iload_n (pc := 28) (i := 16) (k := 2) (n := 2) rfl rfl rfl ?_
  refine kw_aload_n (pc := 29) (i := 17) (k := 0) (n := 0) rfl rfl rfl ?_
  refine kw_get (pc := 30) (i := 18) (v := .int (S8.1 3 1)) rfl rfl rfl lkX2_25 (fun _ => rfl) ?_
  have b13 := kw_rng (S8.1 3 1)
  refine kw_callV (pc := 33) (i := 19) (Y := mX3_valueAt) (a := 2) (As := [.int t, .int (S8.1 3 1)]) (st := []) kw_hE rfl rfl lvX2_32 arX3_valueAt (c_X3_valueAt_2 l S8 I10 t (S8.1 3 1) ) (by decide) (Nat.le_of_ble_eq_true rfl) rfl (fun v S15 p14 => ?_)
  obtain ⟨e18, z17, rfl, ef16⟩ := p14
  rw [e18]
  replace hF := kf_le ef16 hF
  have r_z17 := kw_rng z17
  show kw_AW l 6 kw_E0 KX mX2_faultOf (p_X2_faultOf_3_2 σ t) 36 [(0, .ref 3), (1, .ref 2), (2, .int t)] [.int z17] S8
  refine kw_bipush (pc := 36) (i := 20) (v := 119) rfl rfl ?_
  refine kw_icmp_eq (pc := 38) (i := 21) (tgt := 46) rfl rfl (fun c19 => ?_) (fun c19 => ?_)
  · replace hF := kf_p c19 hF
    refine kw_aload_n (pc := 46) (i := 25) (k := 0) (n := 0) rfl rfl rfl ?_
    refine kw_dup (pc := 47) (i := 26) rfl rfl ?_
    refine kw_get (pc := 48) (i := 27) (v := .int (S8.1 3 1)) rfl rfl rfl lkX2_25 (fun _ => rfl) ?_
    refine kw_iconst (pc := 51) (i := 28) (v := 1) rfl rfl ?_
    refine kw_iadd (pc := 52) (i := 29) rfl (fun z20 e_z20 t_z20 => ?_)
    replace hF := kf_le e_z20 hF
    refine kw_puti (pc := 53) (i := 30) (z := 0) rfl rfl rfl lpX2_25 rfl rfl ?_
    have I21 : kw_I bX (kw_ui S8 3 1 z20) := kw_I_ui I10 (kw_rng z20).1 (Int.le_of_lt_add_one (kw_rng z20).2)
    have F22 : kw_F [3, 16, 39, 40, 41, 42, 43] σ (kw_ui S8 3 1 z20) := kw_F_ui F12 (by decide)
    refine kw_aload_n (pc := 56) (i := 31) (k := 0) (n := 0) rfl rfl rfl ?_
    refine kw_aload_n (pc := 57) (i := 32) (k := 1) (n := 1) rfl rfl rfl ?_
    refine kw_iload_n (pc := 58) (i := 33) (k := 2) (n := 2) rfl rfl rfl ?_
    refine kw_callV (pc := 59) (i := 34) (Y := mX2_readWinds) (a := 3) (As := [.ref 2, .int t]) (st := []) kw_hE rfl rfl lvX2_38 arX2_readWinds (c_X2_readWinds_3_2 l (kw_ui S8 3 1 z20) I21 t ) (by decide) (Nat.le_of_ble_eq_true rfl) rfl (fun v S24 p23 => ?_)
    obtain ⟨⟨I26, F27⟩, rfl, ef25⟩ := p23
    have F28 : kw_F [3, 16, 39, 40, 41, 42, 43] σ S24 := kw_F.tr F22 F27 (by decide)
    replace hF := kf_le ef25 hF
    show kw_AW l 6 kw_E0 KX mX2_faultOf (p_X2_faultOf_3_2 σ t) 62 [(0, .ref 3), (1, .ref 2), (2, .int t)] [] S24
    refine kw_aload_n (pc := 62) (i := 35) (k := 0) (n := 0) rfl rfl rfl ?_
    refine kw_get (pc := 63) (i := 36) (v := .ref 16) rfl rfl rfl lkX2_12 (fun _ => rfl) ?_
    refine kw_get (pc := 66) (i := 37) (v := .int (S24.1 16 6)) rfl rfl rfl lkX2_22 (fun _ => rfl) ?_
    have b29 : 0 ≤ (S24.1 16 6).toInt ∧ (S24.1 16 6).toInt ≤ 8 := I26 16 6
    refine kw_if_ne (pc := 69) (i := 38) (tgt := 77) rfl rfl (fun c30 => ?_) (fun c30 => ?_)
    · replace hF := kf_n c30 hF
      refine kw_iconst (pc := 77) (i := 42) (v := 0) rfl rfl ?_
      refine kw_istore_n (pc := 78) (i := 43) (n := 3) (lv' := [(3, .int 0), (0, .ref 3), (1, .ref 2), (2, .int t)]) rfl rfl (by decide) rfl ?_
      have L35 : ∀ (n39 : Nat) (x31 : Int32) (S32 : kw_S), kw_I bX S32 → kw_F [3, 16, 39, 40, 41, 42, 43] σ S32 → 0 ≤ x31.toInt → l_X2_faultOf_3_2_79 t n39 x31 S32 = (f_X2_faultOf_3_2 σ t) → (8 - x31.toInt).toNat < n39 → kw_AW l 6 kw_E0 KX mX2_faultOf (p_X2_faultOf_3_2 σ t) 79 [(3, .int x31), (0, .ref 3), (1, .ref 2), (2, .int t)] [] S32 := by
        intro n39
        induction n39 with
        | zero => intro x31 S32 I33 F34 v37 hF m38; exact absurd m38 (Nat.not_lt_zero _)
        | succ n39 ih36 =>
          intro x31 S32 I33 F34 v37 hF m38
          replace hF := kf_st (l_X2_faultOf_3_2_79_s _ _ _ _) hF
          have r_x31 := kw_rng x31
          refine kw_iload_n (pc := 79) (i := 44) (k := 0) (n := 3) rfl rfl rfl ?_
          refine kw_bipush (pc := 80) (i := 45) (v := 6) rfl rfl ?_
          refine kw_icmp_gt (pc := 82) (i := 46) (tgt := 136) rfl rfl (fun c40 => ?_) (fun c40 => ?_)
          · replace hF := kf_p c40 hF
            refine kw_aload_n (pc := 136) (i := 74) (k := 1) (n := 0) rfl rfl rfl ?_
            refine kw_get (pc := 137) (i := 75) (v := .int (S32.1 3 1)) rfl rfl rfl lkX2_25 (fun _ => rfl) ?_
            have b41 := kw_rng (S32.1 3 1)
            exact kw_ireturn (pc := 140) (i := 76) (ty := .int) rfl rfl rfl ⟨⟨I33, F34⟩, _, rfl, hF⟩
          · replace hF := kf_nl c40 hF
            refine kw_aload_n (pc := 85) (i := 47) (k := 1) (n := 0) rfl rfl rfl ?_
            refine kw_aload_n (pc := 86) (i := 48) (k := 2) (n := 1) rfl rfl rfl ?_
            refine kw_iload_n (pc := 87) (i := 49) (k := 3) (n := 2) rfl rfl rfl ?_
            refine kw_callV (pc := 88) (i := 50) (Y := mX2_skipBlanks) (a := 3) (As := [.ref 2, .int t]) (st := []) kw_hE rfl rfl lvX2_28 arX2_skipBlanks (c_X2_skipBlanks_3_2 l S32 I33 t ) (by decide) (Nat.le_of_ble_eq_true rfl) rfl (fun v S43 p42 => ?_)
            obtain ⟨⟨I45, F46⟩, rfl, ef44⟩ := p42
            have F47 : kw_F [3, 16, 39, 40, 41, 42, 43] σ S43 := kw_F.tr F34 F46 (by decide)
            replace hF := kf_le ef44 hF
            show kw_AW l 6 kw_E0 KX mX2_faultOf (p_X2_faultOf_3_2 σ t) 91 [(3, .int x31), (0, .ref 3), (1, .ref 2), (2, .int t)] [] S43
            refine kw_iload_n (pc := 91) (i := 51) (k := 0) (n := 3) rfl rfl rfl ?_
            refine kw_if_le (pc := 92) (i := 52) (tgt := 110) rfl rfl (fun c48 => ?_) (fun c48 => ?_)
            · replace hF := kf_nl c48 hF
              refine kw_iload_n (pc := 110) (i := 61) (k := 0) (n := 3) rfl rfl rfl ?_
              refine kw_bipush (pc := 111) (i := 62) (v := 6) rfl rfl ?_
              refine kw_icmp_eq (pc := 113) (i := 63) (tgt := 125) rfl rfl (fun c49 => ?_) (fun c49 => ?_)
              · replace hF := kf_p c49 hF
                refine kw_aload_n (pc := 125) (i := 69) (k := 1) (n := 0) rfl rfl rfl ?_
                refine kw_get (pc := 126) (i := 70) (v := .int (S43.1 3 1)) rfl rfl rfl lkX2_25 (fun _ => rfl) ?_
                have b50 := kw_rng (S43.1 3 1)
                exact kw_ireturn (pc := 129) (i := 71) (ty := .int) rfl rfl rfl ⟨⟨I45, F47⟩, _, rfl, hF⟩
              · replace hF := kf_n c49 hF
                refine kw_aload_n (pc := 116) (i := 64) (k := 1) (n := 0) rfl rfl rfl ?_
                refine kw_aload_n (pc := 117) (i := 65) (k := 2) (n := 1) rfl rfl rfl ?_
                refine kw_iload_n (pc := 118) (i := 66) (k := 3) (n := 2) rfl rfl rfl ?_
                refine kw_callV (pc := 119) (i := 67) (Y := mX2_readLine) (a := 3) (As := [.ref 2, .int t]) (st := []) kw_hE rfl rfl lvX2_45 arX2_readLine (c_X2_readLine_3_2 l S43 I45 t ) (by decide) (Nat.le_of_ble_eq_true rfl) rfl (fun v S52 p51 => ?_)
                obtain ⟨⟨I56, F57⟩, z55, rfl, f53, ef54⟩ := p51
                have F58 : kw_F [3, 16, 39, 40, 41, 42, 43] σ S52 := kw_F.tr F47 F57 (by decide)
                replace hF := kf_be ef54 hF
                have r_z55 := kw_rng z55
                show kw_AW l 6 kw_E0 KX mX2_faultOf (p_X2_faultOf_3_2 σ t) 122 [(3, .int x31), (0, .ref 3), (1, .ref 2), (2, .int t)] [.int z55] S52
                refine kw_if_ne (pc := 122) (i := 68) (tgt := 130) rfl rfl (fun c59 => ?_) (fun c59 => ?_)
                · replace hF := kf_n c59 hF
                  refine kw_iinc' (pc := 130) (i := 72) (k := 0) (fun z => [(3, .int z), (0, .ref 3), (1, .ref 2), (2, .int t)]) rfl rfl (by decide) rfl (fun _ => rfl) (fun z60 e_z60 t_z60 => ?_)
                  replace hF := kf_le e_z60 hF
                  refine kw_goto (pc := 133) (i := 73) (tgt := 79) rfl rfl ?_
                  refine kw_sub (lv' := [(3, .int z60), (0, .ref 3), (1, .ref 2), (2, .int t)]) [0, 1, 2, 3] rfl ?_
                  exact ih36 z60 S52 I56 F58 (by omega) hF (by omega)
                · replace hF := kf_p c59 hF
                  refine kw_aload_n (pc := 125) (i := 69) (k := 1) (n := 0) rfl rfl rfl ?_
                  refine kw_get (pc := 126) (i := 70) (v := .int (S52.1 3 1)) rfl rfl rfl lkX2_25 (fun _ => rfl) ?_
                  have b61 := kw_rng (S52.1 3 1)
                  exact kw_ireturn (pc := 129) (i := 71) (ty := .int) rfl rfl rfl ⟨⟨I56, F58⟩, _, rfl, hF⟩
            · replace hF := kf_p c48 hF
              refine kw_aload_n (pc := 95) (i := 53) (k := 1) (n := 0) rfl rfl rfl ?_
              refine kw_get (pc := 96) (i := 54) (v := .int (S43.1 3 1)) rfl rfl rfl lkX2_25 (fun _ => rfl) ?_
              have b62 := kw_rng (S43.1 3 1)
              refine kw_aload_n (pc := 99) (i := 55) (k := 2) (n := 1) rfl rfl rfl ?_
              refine kw_iload_n (pc := 100) (i := 56) (k := 3) (n := 2) rfl rfl rfl ?_
              refine kw_callV (pc := 101) (i := 57) (Y := mX3_sizeOf) (a := 2) (As := [.int t]) (st := [.int (S43.1 3 1)]) kw_hE rfl rfl lvX2_41 arX3_sizeOf (c_X3_sizeOf_2 l S43 I45 t ) (by decide) (Nat.le_of_ble_eq_true rfl) rfl (fun v S64 p63 => ?_)
              obtain ⟨e71, z70, rfl, f65, f66, f67, f68, ef69⟩ := p63
              rw [e71]
              replace hF := kf_le ef69 hF
              have r_z70 := kw_rng z70
              show kw_AW l 6 kw_E0 KX mX2_faultOf (p_X2_faultOf_3_2 σ t) 104 [(3, .int x31), (0, .ref 3), (1, .ref 2), (2, .int t)] [.int z70, .int (S43.1 3 1)] S43
              refine kw_icmp_lt (pc := 104) (i := 58) (tgt := 110) rfl rfl (fun c72 => ?_) (fun c72 => ?_)
              · replace hF := kf_p c72 hF
                refine kw_iload_n (pc := 110) (i := 61) (k := 0) (n := 3) rfl rfl rfl ?_
                refine kw_bipush (pc := 111) (i := 62) (v := 6) rfl rfl ?_
                refine kw_icmp_eq (pc := 113) (i := 63) (tgt := 125) rfl rfl (fun c73 => ?_) (fun c73 => ?_)
                · replace hF := kf_p c73 hF
                  refine kw_aload_n (pc := 125) (i := 69) (k := 1) (n := 0) rfl rfl rfl ?_
                  refine kw_get (pc := 126) (i := 70) (v := .int (S43.1 3 1)) rfl rfl rfl lkX2_25 (fun _ => rfl) ?_
                  exact kw_ireturn (pc := 129) (i := 71) (ty := .int) rfl rfl rfl ⟨⟨I45, F47⟩, _, rfl, hF⟩
                · replace hF := kf_n c73 hF
                  refine kw_aload_n (pc := 116) (i := 64) (k := 1) (n := 0) rfl rfl rfl ?_
                  refine kw_aload_n (pc := 117) (i := 65) (k := 2) (n := 1) rfl rfl rfl ?_
                  refine kw_iload_n (pc := 118) (i := 66) (k := 3) (n := 2) rfl rfl rfl ?_
                  refine kw_callV (pc := 119) (i := 67) (Y := mX2_readLine) (a := 3) (As := [.ref 2, .int t]) (st := []) kw_hE rfl rfl lvX2_45 arX2_readLine (c_X2_readLine_3_2 l S43 I45 t ) (by decide) (Nat.le_of_ble_eq_true rfl) rfl (fun v S75 p74 => ?_)
                  obtain ⟨⟨I79, F80⟩, z78, rfl, f76, ef77⟩ := p74
                  have F81 : kw_F [3, 16, 39, 40, 41, 42, 43] σ S75 := kw_F.tr F47 F80 (by decide)
                  replace hF := kf_be ef77 hF
                  have r_z78 := kw_rng z78
                  show kw_AW l 6 kw_E0 KX mX2_faultOf (p_X2_faultOf_3_2 σ t) 122 [(3, .int x31), (0, .ref 3), (1, .ref 2), (2, .int t)] [.int z78] S75
                  refine kw_if_ne (pc := 122) (i := 68) (tgt := 130) rfl rfl (fun c82 => ?_) (fun c82 => ?_)
                  · replace hF := kf_n c82 hF
                    refine kw_iinc' (pc := 130) (i := 72) (k := 0) (fun z => [(3, .int z), (0, .ref 3), (1, .ref 2), (2, .int t)]) rfl rfl (by decide) rfl (fun _ => rfl) (fun z83 e_z83 t_z83 => ?_)
                    replace hF := kf_le e_z83 hF
                    refine kw_goto (pc := 133) (i := 73) (tgt := 79) rfl rfl ?_
                    refine kw_sub (lv' := [(3, .int z83), (0, .ref 3), (1, .ref 2), (2, .int t)]) [0, 1, 2, 3] rfl ?_
                    exact ih36 z83 S75 I79 F81 (by omega) hF (by omega)
                  · replace hF := kf_p c82 hF
                    refine kw_aload_n (pc := 125) (i := 69) (k := 1) (n := 0) rfl rfl rfl ?_
                    refine kw_get (pc := 126) (i := 70) (v := .int (S75.1 3 1)) rfl rfl rfl lkX2_25 (fun _ => rfl) ?_
                    have b84 := kw_rng (S75.1 3 1)
                    exact kw_ireturn (pc := 129) (i := 71) (ty := .int) rfl rfl rfl ⟨⟨I79, F81⟩, _, rfl, hF⟩
              · replace hF := kf_nl c72 hF
                refine kw_bipush (pc := 107) (i := 59) (v := (-9)) rfl rfl ?_
                exact kw_ireturn (pc := 109) (i := 60) (ty := .int) rfl rfl rfl ⟨⟨I45, F47⟩, _, rfl, hF⟩
      exact L35 _ 0 S24 I26 F28 (by omega) hF (Nat.lt_succ_self _)
    · replace hF := kf_p c30 hF
      refine kw_aload_n (pc := 72) (i := 39) (k := 0) (n := 0) rfl rfl rfl ?_
      refine kw_get (pc := 73) (i := 40) (v := .int (S24.1 3 1)) rfl rfl rfl lkX2_25 (fun _ => rfl) ?_
      have b85 := kw_rng (S24.1 3 1)
      exact kw_ireturn (pc := 76) (i := 41) (ty := .int) rfl rfl rfl ⟨⟨I26, F28⟩, _, rfl, hF⟩
  · replace hF := kf_n c19 hF
    refine kw_aload_n (pc := 41) (i := 22) (k := 0) (n := 0) rfl rfl rfl ?_
    refine kw_get (pc := 42) (i := 23) (v := .int (S8.1 3 1)) rfl rfl rfl lkX2_25 (fun _ => rfl) ?_
    exact kw_ireturn (pc := 45) (i := 24) (ty := .int) rfl rfl rfl ⟨⟨I10, F12⟩, _, rfl, hF⟩
