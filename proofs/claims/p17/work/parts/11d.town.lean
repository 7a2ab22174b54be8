noncomputable def f_X5_isEmpty_4 (σ : kw_S)  : Int32 := if (σ.1 17 5).toInt < (1 : Int32).toInt then ((1 : Int32)) else ((0 : Int32))
theorem f_X5_isEmpty_4_u (σ : kw_S)  : f_X5_isEmpty_4 σ  = if (σ.1 17 5).toInt < (1 : Int32).toInt then ((1 : Int32)) else ((0 : Int32)) := rfl
abbrev p_X5_isEmpty_4 (σ : kw_S)  : Option Value → kw_S → Prop := fun vv σ' => σ' = σ ∧ ∃ r : Int32, vv = some (.int r) ∧ (r.toInt = 0 ∨ r.toInt = 1) ∧ (r.toInt = 1 ∨ 1 ≤ (σ.1 17 5).toInt) ∧ (r.toInt = 0 ∨ (σ.1 17 5).toInt < 1) ∧ r = f_X5_isEmpty_4 σ
set_option maxRecDepth 100000 in
set_option maxHeartbeats 4000000 in
theorem c_X5_isEmpty_4 (l : Launch) (σ : kw_S) (hI : kw_I bX σ)  : kw_Met l 1 KX mX5_isEmpty [.ref 4] σ (p_X5_isEmpty_4 σ) := by
  have hF := (f_X5_isEmpty_4_u σ).symm
  have q_0 : (0 : Int32).toInt = 0 := rfl
  have q_1 : (1 : Int32).toInt = 1 := rfl
  refine kw_Met.of (by decide) rfl tX5_isEmpty (Nat.le_of_ble_eq_true rfl) ?_
  show kw_AW l 1 kw_E0 KX mX5_isEmpty (p_X5_isEmpty_4 σ) 0 [(0, .ref 4)] [] σ
  refine kw_aload_n (pc := 0) (i := 0) (k := 0) (n := 0) rfl rfl rfl ?_
  refine kw_get (pc := 1) (i := 1) (v := .ref 17) rfl rfl rfl lkX5_12 (fun _ => rfl) ?_
  refine kw_get (pc := 4) (i := 2) (v := .int (σ.1 17 5)) rfl rfl rfl lkX5_25 (fun _ => rfl) ?_
  have b1 : 0 ≤ (σ.1 17 5).toInt ∧ (σ.1 17 5).toInt ≤ 6 := hI 17 5
  refine kw_iconst (pc := 7) (i := 3) (v := 1) rfl rfl ?_
  refine kw_icmp_ge (pc := 8) (i := 4) (tgt := 15) rfl rfl (fun c2 => ?_) (fun c2 => ?_)
  · replace hF := kf_nl c2 hF
    refine kw_iconst (pc := 15) (i := 7) (v := 0) rfl rfl ?_
    exact kw_ireturn (pc := 16) (i := 8) (ty := .boolean) rfl rfl rfl ⟨rfl, _, rfl, by omega, by omega, by omega, hF⟩
  · replace hF := kf_p c2 hF
    refine kw_iconst (pc := 11) (i := 5) (v := 1) rfl rfl ?_
    refine kw_goto (pc := 12) (i := 6) (tgt := 16) rfl rfl ?_
    exact kw_ireturn (pc := 16) (i := 8) (ty := .boolean) rfl rfl rfl ⟨rfl, _, rfl, by omega, by omega, by omega, hF⟩
noncomputable def f_X5_isHung_4 (σ : kw_S) (i : Int32) : Int32 := kf_l ((σ.1 4 4) >>> (i &&& 31)) fun z1 => kf_l (z1 &&& (1 : Int32)) fun z2 => if z2.toInt = (1 : Int32).toInt then ((1 : Int32)) else ((0 : Int32))
theorem f_X5_isHung_4_u (σ : kw_S) (i : Int32) : f_X5_isHung_4 σ i = kf_l ((σ.1 4 4) >>> (i &&& 31)) fun z1 => kf_l (z1 &&& (1 : Int32)) fun z2 => if z2.toInt = (1 : Int32).toInt then ((1 : Int32)) else ((0 : Int32)) := rfl
abbrev p_X5_isHung_4 (σ : kw_S) (i : Int32) : Option Value → kw_S → Prop := fun vv σ' => σ' = σ ∧ ∃ r : Int32, vv = some (.int r) ∧ (r.toInt = 0 ∨ r.toInt = 1) ∧ r = f_X5_isHung_4 σ i
set_option maxRecDepth 100000 in
set_option maxHeartbeats 4000000 in
theorem c_X5_isHung_4 (l : Launch) (σ : kw_S) (hI : kw_I bX σ) (i : Int32) : kw_Met l 1 KX mX5_isHung [.ref 4, .int i] σ (p_X5_isHung_4 σ i) := by
  have r_i := kw_rng i
  have hF := (f_X5_isHung_4_u σ i).symm
  have q_0 : (0 : Int32).toInt = 0 := rfl
  have q_1 : (1 : Int32).toInt = 1 := rfl
  refine kw_Met.of (by decide) rfl tX5_isHung (Nat.le_of_ble_eq_true rfl) ?_
  show kw_AW l 1 kw_E0 KX mX5_isHung (p_X5_isHung_4 σ i) 0 [(0, .ref 4), (1, .int i)] [] σ
  refine kw_aload_n (pc := 0) (i := 0) (k := 0) (n := 0) rfl rfl rfl ?_
  refine kw_get (pc := 1) (i := 1) (v := .int (σ.1 4 4)) rfl rfl rfl lkX5_29 (fun _ => rfl) ?_
  have b1 := kw_rng (σ.1 4 4)
  refine kw_iload_n (pc := 4) (i := 2) (k := 1) (n := 1) rfl rfl rfl ?_
  refine kw_ishr (pc := 5) (i := 3) rfl (fun z2 e_z2 => ?_)
  have r_z2 := kw_rng z2
  replace hF := kf_le e_z2 hF
  refine kw_iconst (pc := 6) (i := 4) (v := 1) rfl rfl ?_
  refine kw_iand (pc := 7) (i := 5) rfl (fun z3 e_z3 => ?_)
  have r_z3 := kw_rng z3
  replace hF := kf_le e_z3 hF
  refine kw_iconst (pc := 8) (i := 6) (v := 1) rfl rfl ?_
  refine kw_icmp_ne (pc := 9) (i := 7) (tgt := 16) rfl rfl (fun c4 => ?_) (fun c4 => ?_)
  · replace hF := kf_n c4 hF
    refine kw_iconst (pc := 16) (i := 10) (v := 0) rfl rfl ?_
    exact kw_ireturn (pc := 17) (i := 11) (ty := .boolean) rfl rfl rfl ⟨rfl, _, rfl, by omega, hF⟩
  · replace hF := kf_p c4 hF
    refine kw_iconst (pc := 12) (i := 8) (v := 1) rfl rfl ?_
    refine kw_goto (pc := 13) (i := 9) (tgt := 17) rfl rfl ?_
    exact kw_ireturn (pc := 17) (i := 11) (ty := .boolean) rfl rfl rfl ⟨rfl, _, rfl, by omega, hF⟩
noncomputable def f_X5_hasRoomFor_4 (σ : kw_S) (m : Int32) : Int32 := kf_l ((σ.1 4 3) + m) fun z1 => if (40 : Int32).toInt < z1.toInt then ((0 : Int32)) else ((1 : Int32))
theorem f_X5_hasRoomFor_4_u (σ : kw_S) (m : Int32) : f_X5_hasRoomFor_4 σ m = kf_l ((σ.1 4 3) + m) fun z1 => if (40 : Int32).toInt < z1.toInt then ((0 : Int32)) else ((1 : Int32)) := rfl
abbrev p_X5_hasRoomFor_4 (σ : kw_S) (m : Int32) : Option Value → kw_S → Prop := fun vv σ' => σ' = σ ∧ ∃ r : Int32, vv = some (.int r) ∧ (r.toInt = 0 ∨ r.toInt = 1) ∧ (r.toInt = 0 ∨ (σ.1 4 3).toInt + m.toInt ≤ 40) ∧ r = f_X5_hasRoomFor_4 σ m
set_option maxRecDepth 100000 in
set_option maxHeartbeats 4000000 in
theorem c_X5_hasRoomFor_4 (l : Launch) (σ : kw_S) (hI : kw_I bX σ) (m : Int32) (hp0 : 0 ≤ m.toInt) (hp1 : m.toInt ≤ 100) : kw_Met l 1 KX mX5_hasRoomFor [.ref 4, .int m] σ (p_X5_hasRoomFor_4 σ m) := by
  have r_m := kw_rng m
  have hF := (f_X5_hasRoomFor_4_u σ m).symm
  have q_0 : (0 : Int32).toInt = 0 := rfl
  have q_1 : (1 : Int32).toInt = 1 := rfl
  have q_40 : (40 : Int32).toInt = 40 := rfl
  refine kw_Met.of (by decide) rfl tX5_hasRoomFor (Nat.le_of_ble_eq_true rfl) ?_
  show kw_AW l 1 kw_E0 KX mX5_hasRoomFor (p_X5_hasRoomFor_4 σ m) 0 [(0, .ref 4), (1, .int m)] [] σ
  refine kw_aload_n (pc := 0) (i := 0) (k := 0) (n := 0) rfl rfl rfl ?_
  refine kw_get (pc := 1) (i := 1) (v := .int (σ.1 4 3)) rfl rfl rfl lkX5_32 (fun _ => rfl) ?_
  have b1 : 0 ≤ (σ.1 4 3).toInt ∧ (σ.1 4 3).toInt ≤ 40 := hI 4 3
  refine kw_iload_n (pc := 4) (i := 2) (k := 1) (n := 1) rfl rfl rfl ?_
  refine kw_iadd (pc := 5) (i := 3) rfl (fun z2 e_z2 t_z2 => ?_)
  replace hF := kf_le e_z2 hF
  refine kw_bipush (pc := 6) (i := 4) (v := 40) rfl rfl ?_
  refine kw_icmp_gt (pc := 8) (i := 5) (tgt := 15) rfl rfl (fun c3 => ?_) (fun c3 => ?_)
  · replace hF := kf_p c3 hF
    refine kw_iconst (pc := 15) (i := 8) (v := 0) rfl rfl ?_
    exact kw_ireturn (pc := 16) (i := 9) (ty := .boolean) rfl rfl rfl ⟨rfl, _, rfl, by omega, by omega, hF⟩
  · replace hF := kf_nl c3 hF
    refine kw_iconst (pc := 11) (i := 6) (v := 1) rfl rfl ?_
    refine kw_goto (pc := 12) (i := 7) (tgt := 16) rfl rfl ?_
    exact kw_ireturn (pc := 16) (i := 9) (ty := .boolean) rfl rfl rfl ⟨rfl, _, rfl, by omega, by omega, hF⟩
noncomputable def f_X5_windNow_4 (σ : kw_S)  : Int32 := kf_l (f_X1_windAt_17 σ (σ.1 4 5)) fun z1 => z1
theorem f_X5_windNow_4_u (σ : kw_S)  : f_X5_windNow_4 σ  = kf_l (f_X1_windAt_17 σ (σ.1 4 5)) fun z1 => z1 := rfl
abbrev p_X5_windNow_4 (σ : kw_S)  : Option Value → kw_S → Prop := fun vv σ' => σ' = σ ∧ ∃ r : Int32, vv = some (.int r) ∧ r = f_X5_windNow_4 σ
set_option maxRecDepth 100000 in
set_option maxHeartbeats 4000000 in
theorem c_X5_windNow_4 (l : Launch) (σ : kw_S) (hI : kw_I bX σ)  : kw_Met l 2 KX mX5_windNow [.ref 4] σ (p_X5_windNow_4 σ) := by
  have hF := (f_X5_windNow_4_u σ).symm
  refine kw_Met.of (by decide) rfl tX5_windNow (Nat.le_of_ble_eq_true rfl) ?_
  show kw_AW l 2 kw_E0 KX mX5_windNow (p_X5_windNow_4 σ) 0 [(0, .ref 4)] [] σ
  refine kw_aload_n (pc := 0) (i := 0) (k := 0) (n := 0) rfl rfl rfl ?_
  refine kw_get (pc := 1) (i := 1) (v := .ref 17) rfl rfl rfl lkX5_12 (fun _ => rfl) ?_
  refine kw_aload_n (pc := 4) (i := 2) (k := 0) (n := 0) rfl rfl rfl ?_
  refine kw_get (pc := 5) (i := 3) (v := .int (σ.1 4 5)) rfl rfl rfl lkX5_35 (fun _ => rfl) ?_
  have b1 := kw_rng (σ.1 4 5)
  refine kw_callV (pc := 8) (i := 4) (Y := mX1_windAt) (a := 17) (As := [.int (σ.1 4 5)]) (st := []) kw_hE rfl rfl lvX5_38 arX1_windAt (c_X1_windAt_17 l σ hI (σ.1 4 5) ) (by decide) (Nat.le_of_ble_eq_true rfl) rfl (fun v S3 p2 => ?_)
  obtain ⟨e6, z5, rfl, ef4⟩ := p2
  rw [e6]
  replace hF := kf_le ef4 hF
  have r_z5 := kw_rng z5
  show kw_AW l 2 kw_E0 KX mX5_windNow (p_X5_windNow_4 σ) 11 [(0, .ref 4)] [.int z5] σ
  exact kw_ireturn (pc := 11) (i := 5) (ty := .int) rfl rfl rfl ⟨rfl, _, rfl, hF⟩
noncomputable def f_X5_windAhead_4 (σ : kw_S) (k : Int32) : Int32 := kf_l ((σ.1 4 5) + k) fun z1 => kf_l (f_X1_windAt_17 σ z1) fun z2 => z2
theorem f_X5_windAhead_4_u (σ : kw_S) (k : Int32) : f_X5_windAhead_4 σ k = kf_l ((σ.1 4 5) + k) fun z1 => kf_l (f_X1_windAt_17 σ z1) fun z2 => z2 := rfl
abbrev p_X5_windAhead_4 (σ : kw_S) (k : Int32) : Option Value → kw_S → Prop := fun vv σ' => σ' = σ ∧ ∃ r : Int32, vv = some (.int r) ∧ r = f_X5_windAhead_4 σ k
set_option maxRecDepth 100000 in
set_option maxHeartbeats 4000000 in
theorem c_X5_windAhead_4 (l : Launch) (σ : kw_S) (hI : kw_I bX σ) (k : Int32) : kw_Met l 2 KX mX5_windAhead [.ref 4, .int k] σ (p_X5_windAhead_4 σ k) := by
  have r_k := kw_rng k
  have hF := (f_X5_windAhead_4_u σ k).symm
  refine kw_Met.of (by decide) rfl tX5_windAhead (Nat.le_of_ble_eq_true rfl) ?_
  show kw_AW l 2 kw_E0 KX mX5_windAhead (p_X5_windAhead_4 σ k) 0 [(0, .ref 4), (1, .int k)] [] σ
  refine kw_aload_n (pc := 0) (i := 0) (k := 0) (n := 0) rfl rfl rfl ?_
  refine kw_get (pc := 1) (i := 1) (v := .ref 17) rfl rfl rfl lkX5_12 (fun _ => rfl) ?_
  refine kw_aload_n (pc := 4) (i := 2) (k := 0) (n := 0) rfl rfl rfl ?_
  refine kw_get (pc := 5) (i := 3) (v := .int (σ.1 4 5)) rfl rfl rfl lkX5_35 (fun _ => rfl) ?_
  have b1 := kw_rng (σ.1 4 5)
  refine kw_iload_n (pc := 8) (i := 4) (k := 1) (n := 1) rfl rfl rfl ?_
  refine kw_iadd (pc := 9) (i := 5) rfl (fun z2 e_z2 t_z2 => ?_)
  replace hF := kf_le e_z2 hF
  refine kw_callV (pc := 10) (i := 6) (Y := mX1_windAt) (a := 17) (As := [.int z2]) (st := []) kw_hE rfl rfl lvX5_38 arX1_windAt (c_X1_windAt_17 l σ hI z2 ) (by decide) (Nat.le_of_ble_eq_true rfl) rfl (fun v S4 p3 => ?_)
  obtain ⟨e7, z6, rfl, ef5⟩ := p3
  rw [e7]
  replace hF := kf_le ef5 hF
  have r_z6 := kw_rng z6
  show kw_AW l 2 kw_E0 KX mX5_windAhead (p_X5_windAhead_4 σ k) 13 [(0, .ref 4), (1, .int k)] [.int z6] σ
  exact kw_ireturn (pc := 13) (i := 7) (ty := .int) rfl rfl rfl ⟨rfl, _, rfl, hF⟩
noncomputable def l_X5_allWet_4_4 (S : kw_S) : Nat → Int32 → Int32 → Int32
  | 0, _, _ => 0
  | n + 1, x1, x2 => if x2.toInt < (S.1 17 5).toInt then (kf_l (S.1 19 x2.toNatClampNeg) fun z1 => kf_l (x1 + z1) fun z2 => kf_l (x2 + Int32.ofInt 1) fun z3 => l_X5_allWet_4_4 S n z2 z3) else (x1)
theorem l_X5_allWet_4_4_s (S : kw_S) (n : Nat) (x1 : Int32) (x2 : Int32) : l_X5_allWet_4_4 S (n + 1) x1 x2 = if x2.toInt < (S.1 17 5).toInt then (kf_l (S.1 19 x2.toNatClampNeg) fun z1 => kf_l (x1 + z1) fun z2 => kf_l (x2 + Int32.ofInt 1) fun z3 => l_X5_allWet_4_4 S n z2 z3) else (x1) := rfl
noncomputable def f_X5_allWet_4 (σ : kw_S)  : Int32 := l_X5_allWet_4_4 σ ((7 - (0 : Int32).toInt).toNat + 1) (0 : Int32) (0 : Int32)
theorem f_X5_allWet_4_u (σ : kw_S)  : f_X5_allWet_4 σ  = l_X5_allWet_4_4 σ ((7 - (0 : Int32).toInt).toNat + 1) (0 : Int32) (0 : Int32) := rfl
abbrev p_X5_allWet_4 (σ : kw_S)  : Option Value → kw_S → Prop := fun vv σ' => σ' = σ ∧ ∃ r : Int32, vv = some (.int r) ∧ r = f_X5_allWet_4 σ
set_option maxRecDepth 100000 in
set_option maxHeartbeats 4000000 in
theorem c_X5_allWet_4 (l : Launch) (σ : kw_S) (hI : kw_I bX σ)  : kw_Met l 1 KX mX5_allWet [.ref 4] σ (p_X5_allWet_4 σ) := by
  have hF := (f_X5_allWet_4_u σ).symm
  have q_0 : (0 : Int32).toInt = 0 := rfl
  refine kw_Met.of (by decide) rfl tX5_allWet (Nat.le_of_ble_eq_true rfl) ?_
  show kw_AW l 1 kw_E0 KX mX5_allWet (p_X5_allWet_4 σ) 0 [(0, .ref 4)] [] σ
  refine kw_iconst (pc := 0) (i := 0) (v := 0) rfl rfl ?_
  refine kw_istore_n (pc := 1) (i := 1) (n := 1) (lv' := [(1, .int 0), (0, .ref 4)]) rfl rfl (by decide) rfl ?_
  refine kw_iconst (pc := 2) (i := 2) (v := 0) rfl rfl ?_
  refine kw_istore_n (pc := 3) (i := 3) (n := 2) (lv' := [(2, .int 0), (1, .int 0), (0, .ref 4)]) rfl rfl (by decide) rfl ?_
  have L3 : ∀ (n7 : Nat) (x1 : Int32) (x2 : Int32), 0 ≤ x1.toInt → l_X5_allWet_4_4 σ n7 x2 x1 = (f_X5_allWet_4 σ) → (7 - x1.toInt).toNat < n7 → kw_AW l 1 kw_E0 KX mX5_allWet (p_X5_allWet_4 σ) 4 [(2, .int x1), (1, .int x2), (0, .ref 4)] [] σ := by
    intro n7
    induction n7 with
    | zero => intro x1 x2 v5 hF m6; exact absurd m6 (Nat.not_lt_zero _)
    | succ n7 ih4 =>
      intro x1 x2 v5 hF m6
      replace hF := kf_st (l_X5_allWet_4_4_s _ _ _ _) hF
      have r_x1 := kw_rng x1
      have r_x2 := kw_rng x2
      refine kw_iload_n (pc := 4) (i := 4) (k := 0) (n := 2) rfl rfl rfl ?_
      refine kw_aload_n (pc := 5) (i := 5) (k := 2) (n := 0) rfl rfl rfl ?_
      refine kw_get (pc := 6) (i := 6) (v := .ref 17) rfl rfl rfl lkX5_12 (fun _ => rfl) ?_
      refine kw_get (pc := 9) (i := 7) (v := .int (σ.1 17 5)) rfl rfl rfl lkX5_25 (fun _ => rfl) ?_
      have b8 : 0 ≤ (σ.1 17 5).toInt ∧ (σ.1 17 5).toInt ≤ 6 := hI 17 5
      refine kw_icmp_ge (pc := 12) (i := 8) (tgt := 30) rfl rfl (fun c9 => ?_) (fun c9 => ?_)
      · replace hF := kf_nl c9 hF
        refine kw_iload_n (pc := 30) (i := 18) (k := 1) (n := 1) rfl rfl rfl ?_
        exact kw_ireturn (pc := 31) (i := 19) (ty := .int) rfl rfl rfl ⟨rfl, _, rfl, hF⟩
      · replace hF := kf_p c9 hF
        refine kw_iload_n (pc := 15) (i := 9) (k := 1) (n := 1) rfl rfl rfl ?_
        refine kw_aload_n (pc := 16) (i := 10) (k := 2) (n := 0) rfl rfl rfl ?_
        refine kw_get (pc := 17) (i := 11) (v := .ref 19) rfl rfl rfl lkX5_22 (fun _ => rfl) ?_
        refine kw_iload_n (pc := 20) (i := 12) (k := 0) (n := 2) rfl rfl rfl ?_
        refine kw_iald (pc := 21) (i := 13) (n := 6) rfl rfl (by omega) (by omega) (fun z10 e_z10 => ?_)
        replace hF := kf_le e_z10 hF
        have t_z10 := congrArg Int32.toInt e_z10
        have r_z10 := kw_rng z10
        refine kw_iadd (pc := 22) (i := 14) rfl (fun z11 e_z11 t_z11 => ?_)
        replace hF := kf_le e_z11 hF
        refine kw_istore_n (pc := 23) (i := 15) (n := 1) (lv' := [(1, .int z11), (2, .int x1), (0, .ref 4)]) rfl rfl (by decide) rfl ?_
        refine kw_iinc' (pc := 24) (i := 16) (k := 1) (fun z => [(2, .int z), (1, .int z11), (0, .ref 4)]) rfl rfl (by decide) rfl (fun _ => rfl) (fun z12 e_z12 t_z12 => ?_)
        replace hF := kf_le e_z12 hF
        refine kw_goto (pc := 27) (i := 17) (tgt := 4) rfl rfl ?_
        refine kw_sub (lv' := [(2, .int z12), (1, .int z11), (0, .ref 4)]) [0, 1, 2] rfl ?_
        exact ih4 z12 z11 (by omega) hF (by omega)
  exact L3 _ 0 0 (by omega) hF (Nat.lt_succ_self _)
noncomputable def l_X5_hoursToStorm_4_2 (S : kw_S) : Nat → Int32 → Int32
  | 0, _ => 0
  | n + 1, x1 => if x1.toInt < (8 : Int32).toInt then (kf_l (f_X5_windAhead_4 S x1) fun z1 => if z1.toInt < (3 : Int32).toInt then (kf_l (x1 + Int32.ofInt 1) fun z2 => l_X5_hoursToStorm_4_2 S n z2) else (x1)) else (((-9) : Int32))
theorem l_X5_hoursToStorm_4_2_s (S : kw_S) (n : Nat) (x1 : Int32) : l_X5_hoursToStorm_4_2 S (n + 1) x1 = if x1.toInt < (8 : Int32).toInt then (kf_l (f_X5_windAhead_4 S x1) fun z1 => if z1.toInt < (3 : Int32).toInt then (kf_l (x1 + Int32.ofInt 1) fun z2 => l_X5_hoursToStorm_4_2 S n z2) else (x1)) else (((-9) : Int32)) := rfl
noncomputable def f_X5_hoursToStorm_4 (σ : kw_S)  : Int32 := l_X5_hoursToStorm_4_2 σ ((9 - (0 : Int32).toInt).toNat + 1) (0 : Int32)
theorem f_X5_hoursToStorm_4_u (σ : kw_S)  : f_X5_hoursToStorm_4 σ  = l_X5_hoursToStorm_4_2 σ ((9 - (0 : Int32).toInt).toNat + 1) (0 : Int32) := rfl
abbrev p_X5_hoursToStorm_4 (σ : kw_S)  : Option Value → kw_S → Prop := fun vv σ' => σ' = σ ∧ ∃ r : Int32, vv = some (.int r) ∧ r = f_X5_hoursToStorm_4 σ
set_option maxRecDepth 100000 in
set_option maxHeartbeats 4000000 in
theorem c_X5_hoursToStorm_4 (l : Launch) (σ : kw_S) (hI : kw_I bX σ)  : kw_Met l 3 KX mX5_hoursToStorm [.ref 4] σ (p_X5_hoursToStorm_4 σ) := by
  have hF := (f_X5_hoursToStorm_4_u σ).symm
  have q_m9 : (-9 : Int32).toInt = -9 := rfl
  have q_0 : (0 : Int32).toInt = 0 := rfl
  have q_3 : (3 : Int32).toInt = 3 := rfl
  have q_8 : (8 : Int32).toInt = 8 := rfl
  refine kw_Met.of (by decide) rfl tX5_hoursToStorm (Nat.le_of_ble_eq_true rfl) ?_
  show kw_AW l 3 kw_E0 KX mX5_hoursToStorm (p_X5_hoursToStorm_4 σ) 0 [(0, .ref 4)] [] σ
  refine kw_iconst (pc := 0) (i := 0) (v := 0) rfl rfl ?_
  refine kw_istore_n (pc := 1) (i := 1) (n := 1) (lv' := [(1, .int 0), (0, .ref 4)]) rfl rfl (by decide) rfl ?_
  have L2 : ∀ (n6 : Nat) (x1 : Int32), 0 ≤ x1.toInt → l_X5_hoursToStorm_4_2 σ n6 x1 = (f_X5_hoursToStorm_4 σ) → (9 - x1.toInt).toNat < n6 → kw_AW l 3 kw_E0 KX mX5_hoursToStorm (p_X5_hoursToStorm_4 σ) 2 [(1, .int x1), (0, .ref 4)] [] σ := by
    intro n6
    induction n6 with
    | zero => intro x1 v4 hF m5; exact absurd m5 (Nat.not_lt_zero _)
    | succ n6 ih3 =>
      intro x1 v4 hF m5
      replace hF := kf_st (l_X5_hoursToStorm_4_2_s _ _ _) hF
      have r_x1 := kw_rng x1
      refine kw_iload_n (pc := 2) (i := 2) (k := 0) (n := 1) rfl rfl rfl ?_
      refine kw_bipush (pc := 3) (i := 3) (v := 8) rfl rfl ?_
      refine kw_icmp_ge (pc := 5) (i := 4) (tgt := 25) rfl rfl (fun c7 => ?_) (fun c7 => ?_)
      · replace hF := kf_nl c7 hF
        refine kw_bipush (pc := 25) (i := 14) (v := (-9)) rfl rfl ?_
        exact kw_ireturn (pc := 27) (i := 15) (ty := .int) rfl rfl rfl ⟨rfl, _, rfl, hF⟩
      · replace hF := kf_p c7 hF
        refine kw_aload_n (pc := 8) (i := 5) (k := 1) (n := 0) rfl rfl rfl ?_
        refine kw_iload_n (pc := 9) (i := 6) (k := 0) (n := 1) rfl rfl rfl ?_
        refine kw_callV (pc := 10) (i := 7) (Y := mX5_windAhead) (a := 4) (As := [.int x1]) (st := []) kw_hE rfl rfl lvX5_42 arX5_windAhead (c_X5_windAhead_4 l σ hI x1 ) (by decide) (Nat.le_of_ble_eq_true rfl) rfl (fun v S9 p8 => ?_)
        obtain ⟨e12, z11, rfl, ef10⟩ := p8
        rw [e12]
        replace hF := kf_le ef10 hF
        have r_z11 := kw_rng z11
        show kw_AW l 3 kw_E0 KX mX5_hoursToStorm (p_X5_hoursToStorm_4 σ) 13 [(1, .int x1), (0, .ref 4)] [.int z11] σ
        refine kw_iconst (pc := 13) (i := 8) (v := 3) rfl rfl ?_
        refine kw_icmp_lt (pc := 14) (i := 9) (tgt := 19) rfl rfl (fun c13 => ?_) (fun c13 => ?_)
        · replace hF := kf_p c13 hF
          refine kw_iinc' (pc := 19) (i := 12) (k := 0) (fun z => [(1, .int z), (0, .ref 4)]) rfl rfl (by decide) rfl (fun _ => rfl) (fun z14 e_z14 t_z14 => ?_)
          replace hF := kf_le e_z14 hF
          refine kw_goto (pc := 22) (i := 13) (tgt := 2) rfl rfl ?_
          refine kw_sub (lv' := [(1, .int z14), (0, .ref 4)]) [0, 1] rfl ?_
          exact ih3 z14 (by omega) hF (by omega)
        · replace hF := kf_nl c13 hF
          refine kw_iload_n (pc := 17) (i := 10) (k := 0) (n := 1) rfl rfl rfl ?_
          exact kw_ireturn (pc := 18) (i := 11) (ty := .int) rfl rfl rfl ⟨rfl, _, rfl, hF⟩
  exact L2 _ 0 (by omega) hF (Nat.lt_succ_self _)
noncomputable def f_X5_trait_4 (σ : kw_S) (i : Int32) (w : Int32) : Int32 := kf_l (f_X1_hasLine_17 σ i) fun z1 => if z1.toInt = 0 then ((0 : Int32)) else (if w.toInt = 0 then (kf_l (σ.1 44 i.toNatClampNeg) fun z2 => z2) else if w.toInt = 1 then (kf_l (σ.1 45 i.toNatClampNeg) fun z3 => z3) else if w.toInt = 2 then (kf_l (σ.1 46 i.toNatClampNeg) fun z4 => z4) else if w.toInt = 3 then (kf_l (σ.1 47 i.toNatClampNeg) fun z5 => z5) else if w.toInt = 4 then (kf_l (f_X5_isHung_4 σ i) fun z6 => if z6.toInt = 0 then ((0 : Int32)) else ((1 : Int32))) else if w.toInt = 5 then (kf_l (σ.1 19 i.toNatClampNeg) fun z7 => z7) else (kf_l (f_X5_windNow_4 σ) fun z8 => kf_l (f_X1_pullOf_17 σ i z8) fun z9 => z9))
theorem f_X5_trait_4_u (σ : kw_S) (i : Int32) (w : Int32) : f_X5_trait_4 σ i w = kf_l (f_X1_hasLine_17 σ i) fun z1 => if z1.toInt = 0 then ((0 : Int32)) else (if w.toInt = 0 then (kf_l (σ.1 44 i.toNatClampNeg) fun z2 => z2) else if w.toInt = 1 then (kf_l (σ.1 45 i.toNatClampNeg) fun z3 => z3) else if w.toInt = 2 then (kf_l (σ.1 46 i.toNatClampNeg) fun z4 => z4) else if w.toInt = 3 then (kf_l (σ.1 47 i.toNatClampNeg) fun z5 => z5) else if w.toInt = 4 then (kf_l (f_X5_isHung_4 σ i) fun z6 => if z6.toInt = 0 then ((0 : Int32)) else ((1 : Int32))) else if w.toInt = 5 then (kf_l (σ.1 19 i.toNatClampNeg) fun z7 => z7) else (kf_l (f_X5_windNow_4 σ) fun z8 => kf_l (f_X1_pullOf_17 σ i z8) fun z9 => z9)) := rfl
abbrev p_X5_trait_4 (σ : kw_S) (i : Int32) (w : Int32) : Option Value → kw_S → Prop := fun vv σ' => σ' = σ ∧ ∃ r : Int32, vv = some (.int r) ∧ r = f_X5_trait_4 σ i w
set_option maxRecDepth 100000 in
set_option maxHeartbeats 4000000 in
theorem c_X5_trait_4 (l : Launch) (σ : kw_S) (hI : kw_I bX σ) (i : Int32) (w : Int32) : kw_Met l 3 KX mX5_trait [.ref 4, .int i, .int w] σ (p_X5_trait_4 σ i w) := by
  have r_i := kw_rng i
  have r_w := kw_rng w
  have hF := (f_X5_trait_4_u σ i w).symm
  have q_0 : (0 : Int32).toInt = 0 := rfl
  have q_1 : (1 : Int32).toInt = 1 := rfl
  refine kw_Met.of (by decide) rfl tX5_trait (Nat.le_of_ble_eq_true rfl) ?_
  show kw_AW l 3 kw_E0 KX mX5_trait (p_X5_trait_4 σ i w) 0 [(0, .ref 4), (1, .int i), (2, .int w)] [] σ
  refine kw_aload_n (pc := 0) (i := 0) (k := 0) (n := 0) rfl rfl rfl ?_
  refine kw_get (pc := 1) (i := 1) (v := .ref 17) rfl rfl rfl lkX5_12 (fun _ => rfl) ?_
  refine kw_iload_n (pc := 4) (i := 2) (k := 1) (n := 1) rfl rfl rfl ?_
  refine kw_callV (pc := 5) (i := 3) (Y := mX1_hasLine) (a := 17) (As := [.int i]) (st := []) kw_hE rfl rfl lvX5_45 arX1_hasLine (c_X1_hasLine_17 l σ hI i ) (by decide) (Nat.le_of_ble_eq_true rfl) rfl (fun v S2 p1 => ?_)
  obtain ⟨e7, z6, rfl, f3, f4, ef5⟩ := p1
  rw [e7]
  replace hF := kf_le ef5 hF
  have r_z6 := kw_rng z6
  show kw_AW l 3 kw_E0 KX mX5_trait (p_X5_trait_4 σ i w) 8 [(0, .ref 4), (1, .int i), (2, .int w)] [.int z6] σ
  refine kw_if_ne (pc := 8) (i := 4) (tgt := 13) rfl rfl (fun c8 => ?_) (fun c8 => ?_)
  · replace hF := kf_n c8 hF
    refine kw_iload_n (pc := 13) (i := 7) (k := 2) (n := 2) rfl rfl rfl ?_
    by_cases c9 : w.toInt = 0
    · refine kw_tableIn (pc := 14) (i := 8) (k := 0) (tgt := 52) rfl (by omega) (by decide) rfl rfl ?_
      replace hF := kf_p c9 hF
      refine kw_aload_n (pc := 52) (i := 9) (k := 0) (n := 0) rfl rfl rfl ?_
      refine kw_get (pc := 53) (i := 10) (v := .ref 17) rfl rfl rfl lkX5_12 (fun _ => rfl) ?_
      refine kw_get (pc := 56) (i := 11) (v := .ref 44) rfl rfl rfl lkX5_49 (fun _ => rfl) ?_
      refine kw_iload_n (pc := 59) (i := 12) (k := 1) (n := 1) rfl rfl rfl ?_
      refine kw_iald (pc := 60) (i := 13) (n := 6) rfl rfl (by omega) (by omega) (fun z10 e_z10 => ?_)
      replace hF := kf_le e_z10 hF
      have t_z10 := congrArg Int32.toInt e_z10
      have r_z10 := kw_rng z10
      exact kw_ireturn (pc := 61) (i := 14) (ty := .int) rfl rfl rfl ⟨rfl, _, rfl, hF⟩
    replace hF := kf_n c9 hF
    by_cases c11 : w.toInt = 1
    · refine kw_tableIn (pc := 14) (i := 8) (k := 1) (tgt := 62) rfl (by omega) (by decide) rfl rfl ?_
      replace hF := kf_p c11 hF
      refine kw_aload_n (pc := 62) (i := 15) (k := 0) (n := 0) rfl rfl rfl ?_
      refine kw_get (pc := 63) (i := 16) (v := .ref 17) rfl rfl rfl lkX5_12 (fun _ => rfl) ?_
      refine kw_get (pc := 66) (i := 17) (v := .ref 45) rfl rfl rfl lkX5_52 (fun _ => rfl) ?_
      refine kw_iload_n (pc := 69) (i := 18) (k := 1) (n := 1) rfl rfl rfl ?_
      refine kw_iald (pc := 70) (i := 19) (n := 6) rfl rfl (by omega) (by omega) (fun z12 e_z12 => ?_)
      replace hF := kf_le e_z12 hF
      have t_z12 := congrArg Int32.toInt e_z12
      have r_z12 := kw_rng z12
      exact kw_ireturn (pc := 71) (i := 20) (ty := .int) rfl rfl rfl ⟨rfl, _, rfl, hF⟩
    replace hF := kf_n c11 hF
    by_cases c13 : w.toInt = 2
    · refine kw_tableIn (pc := 14) (i := 8) (k := 2) (tgt := 72) rfl (by omega) (by decide) rfl rfl ?_
      replace hF := kf_p c13 hF
      refine kw_aload_n (pc := 72) (i := 21) (k := 0) (n := 0) rfl rfl rfl ?_
      refine kw_get (pc := 73) (i := 22) (v := .ref 17) rfl rfl rfl lkX5_12 (fun _ => rfl) ?_
      refine kw_get (pc := 76) (i := 23) (v := .ref 46) rfl rfl rfl lkX5_55 (fun _ => rfl) ?_
      refine kw_iload_n (pc := 79) (i := 24) (k := 1) (n := 1) rfl rfl rfl ?_
      refine kw_iald (pc := 80) (i := 25) (n := 6) rfl rfl (by omega) (by omega) (fun z14 e_z14 => ?_)
      replace hF := kf_le e_z14 hF
      have t_z14 := congrArg Int32.toInt e_z14
      have r_z14 := kw_rng z14
      exact kw_ireturn (pc := 81) (i := 26) (ty := .int) rfl rfl rfl ⟨rfl, _, rfl, hF⟩
    replace hF := kf_n c13 hF
    by_cases c15 : w.toInt = 3
    · refine kw_tableIn (pc := 14) (i := 8) (k := 3) (tgt := 82) rfl (by omega) (by decide) rfl rfl ?_
      replace hF := kf_p c15 hF
      refine kw_aload_n (pc := 82) (i := 27) (k := 0) (n := 0) rfl rfl rfl ?_
      refine kw_get (pc := 83) (i := 28) (v := .ref 17) rfl rfl rfl lkX5_12 (fun _ => rfl) ?_
      refine kw_get (pc := 86) (i := 29) (v := .ref 47) rfl rfl rfl lkX5_58 (fun _ => rfl) ?_
      refine kw_iload_n (pc := 89) (i := 30) (k := 1) (n := 1) rfl rfl rfl ?_
      refine kw_iald (pc := 90) (i := 31) (n := 6) rfl rfl (by omega) (by omega) (fun z16 e_z16 => ?_)
      replace hF := kf_le e_z16 hF
      have t_z16 := congrArg Int32.toInt e_z16
      have r_z16 := kw_rng z16
      exact kw_ireturn (pc := 91) (i := 32) (ty := .int) rfl rfl rfl ⟨rfl, _, rfl, hF⟩
    replace hF := kf_n c15 hF
    by_cases c17 : w.toInt = 4
    · refine kw_tableIn (pc := 14) (i := 8) (k := 4) (tgt := 92) rfl (by omega) (by decide) rfl rfl ?_
      replace hF := kf_p c17 hF
      refine kw_aload_n (pc := 92) (i := 33) (k := 0) (n := 0) rfl rfl rfl ?_
      refine kw_iload_n (pc := 93) (i := 34) (k := 1) (n := 1) rfl rfl rfl ?_
      refine kw_callV (pc := 94) (i := 35) (Y := mX5_isHung) (a := 4) (As := [.int i]) (st := []) kw_hE rfl rfl lvX5_61 arX5_isHung (c_X5_isHung_4 l σ hI i ) (by decide) (Nat.le_of_ble_eq_true rfl) rfl (fun v S19 p18 => ?_)
      obtain ⟨e23, z22, rfl, f20, ef21⟩ := p18
      rw [e23]
      replace hF := kf_le ef21 hF
      have r_z22 := kw_rng z22
      show kw_AW l 3 kw_E0 KX mX5_trait (p_X5_trait_4 σ i w) 97 [(0, .ref 4), (1, .int i), (2, .int w)] [.int z22] σ
      refine kw_if_eq (pc := 97) (i := 36) (tgt := 104) rfl rfl (fun c24 => ?_) (fun c24 => ?_)
      · replace hF := kf_p c24 hF
        refine kw_iconst (pc := 104) (i := 39) (v := 0) rfl rfl ?_
        exact kw_ireturn (pc := 105) (i := 40) (ty := .int) rfl rfl rfl ⟨rfl, _, rfl, hF⟩
      · replace hF := kf_n c24 hF
        refine kw_iconst (pc := 100) (i := 37) (v := 1) rfl rfl ?_
        refine kw_goto (pc := 101) (i := 38) (tgt := 105) rfl rfl ?_
        exact kw_ireturn (pc := 105) (i := 40) (ty := .int) rfl rfl rfl ⟨rfl, _, rfl, hF⟩
    replace hF := kf_n c17 hF
    by_cases c25 : w.toInt = 5
    · refine kw_tableIn (pc := 14) (i := 8) (k := 5) (tgt := 106) rfl (by omega) (by decide) rfl rfl ?_
      replace hF := kf_p c25 hF
      refine kw_aload_n (pc := 106) (i := 41) (k := 0) (n := 0) rfl rfl rfl ?_
      refine kw_get (pc := 107) (i := 42) (v := .ref 19) rfl rfl rfl lkX5_22 (fun _ => rfl) ?_
      refine kw_iload_n (pc := 110) (i := 43) (k := 1) (n := 1) rfl rfl rfl ?_
      refine kw_iald (pc := 111) (i := 44) (n := 6) rfl rfl (by omega) (by omega) (fun z26 e_z26 => ?_)
      replace hF := kf_le e_z26 hF
      have t_z26 := congrArg Int32.toInt e_z26
      have r_z26 := kw_rng z26
      exact kw_ireturn (pc := 112) (i := 45) (ty := .int) rfl rfl rfl ⟨rfl, _, rfl, hF⟩
    replace hF := kf_n c25 hF
    refine kw_tableOut (pc := 14) (i := 8) (tgt := 113) rfl (by omega) rfl ?_
    refine kw_aload_n (pc := 113) (i := 46) (k := 0) (n := 0) rfl rfl rfl ?_
    refine kw_get (pc := 114) (i := 47) (v := .ref 17) rfl rfl rfl lkX5_12 (fun _ => rfl) ?_
    refine kw_iload_n (pc := 117) (i := 48) (k := 1) (n := 1) rfl rfl rfl ?_
    refine kw_aload_n (pc := 118) (i := 49) (k := 0) (n := 0) rfl rfl rfl ?_
    refine kw_callV (pc := 119) (i := 50) (Y := mX5_windNow) (a := 4) (As := []) (st := [.int i, .ref 17]) kw_hE rfl rfl lvX5_64 arX5_windNow (c_X5_windNow_4 l σ hI  ) (by decide) (Nat.le_of_ble_eq_true rfl) rfl (fun v S28 p27 => ?_)
    obtain ⟨e31, z30, rfl, ef29⟩ := p27
    rw [e31]
    replace hF := kf_le ef29 hF
    have r_z30 := kw_rng z30
    show kw_AW l 3 kw_E0 KX mX5_trait (p_X5_trait_4 σ i w) 122 [(0, .ref 4), (1, .int i), (2, .int w)] [.int z30, .int i, .ref 17] σ
    refine kw_callV (pc := 122) (i := 51) (Y := mX1_pullOf) (a := 17) (As := [.int i, .int z30]) (st := []) kw_hE rfl rfl lvX5_68 arX1_pullOf (c_X1_pullOf_17 l σ hI i z30 ) (by decide) (Nat.le_of_ble_eq_true rfl) rfl (fun v S33 p32 => ?_)
    obtain ⟨e36, z35, rfl, ef34⟩ := p32
    rw [e36]
    replace hF := kf_le ef34 hF
    have r_z35 := kw_rng z35
    show kw_AW l 3 kw_E0 KX mX5_trait (p_X5_trait_4 σ i w) 125 [(0, .ref 4), (1, .int i), (2, .int w)] [.int z35] σ
    exact kw_ireturn (pc := 125) (i := 52) (ty := .int) rfl rfl rfl ⟨rfl, _, rfl, hF⟩
  · replace hF := kf_p c8 hF
    refine kw_iconst (pc := 11) (i := 5) (v := 0) rfl rfl ?_
    exact kw_ireturn (pc := 12) (i := 6) (ty := .int) rfl rfl rfl ⟨rfl, _, rfl, hF⟩
noncomputable def f_X5_passHour_4 (σ : kw_S)  : kw_S := kf_l (f_X5_windNow_4 σ) fun z1 => kf_l (f_X1_milesOf_17 σ (σ.1 4 4) z1) fun z2 => kf_l ((σ.1 4 6) + z2) fun z3 => kf_l (f_X1_turnOf_17 (kw_ui σ 4 6 z3) (σ.1 4 4) z1) fun z4 => kf_l ((σ.1 4 7) + z4) fun z5 => kf_l (f_X7_weather_19 (kw_ui (kw_ui σ 4 6 z3) 4 7 z5) (σ.1 4 4) z1) fun S6 => kf_l ((S6.1 4 5) + (1 : Int32)) fun z7 => kw_ui S6 4 5 z7
theorem f_X5_passHour_4_u (σ : kw_S)  : f_X5_passHour_4 σ  = kf_l (f_X5_windNow_4 σ) fun z1 => kf_l (f_X1_milesOf_17 σ (σ.1 4 4) z1) fun z2 => kf_l ((σ.1 4 6) + z2) fun z3 => kf_l (f_X1_turnOf_17 (kw_ui σ 4 6 z3) (σ.1 4 4) z1) fun z4 => kf_l ((σ.1 4 7) + z4) fun z5 => kf_l (f_X7_weather_19 (kw_ui (kw_ui σ 4 6 z3) 4 7 z5) (σ.1 4 4) z1) fun S6 => kf_l ((S6.1 4 5) + (1 : Int32)) fun z7 => kw_ui S6 4 5 z7 := rfl
abbrev p_X5_passHour_4 (σ : kw_S)  : Option Value → kw_S → Prop := fun vv σ' => (kw_I bX σ' ∧ kw_F [4, 19] σ σ') ∧ vv = none ∧ σ' = f_X5_passHour_4 σ
set_option maxRecDepth 100000 in
set_option maxHeartbeats 4000000 in
theorem c_X5_passHour_4 (l : Launch) (σ : kw_S) (hI : kw_I bX σ)  : kw_Met l 4 KX mX5_passHour [.ref 4] σ (p_X5_passHour_4 σ) := by
  have hF0 : kw_F [4, 19] σ σ := kw_F.rf
  have hF := (f_X5_passHour_4_u σ).symm
  have q_1 : (1 : Int32).toInt = 1 := rfl
  refine kw_Met.of (by decide) rfl tX5_passHour (Nat.le_of_ble_eq_true rfl) ?_
  show kw_AW l 4 kw_E0 KX mX5_passHour (p_X5_passHour_4 σ) 0 [(0, .ref 4)] [] σ
  refine kw_aload_n (pc := 0) (i := 0) (k := 0) (n := 0) rfl rfl rfl ?_
  refine kw_callV (pc := 1) (i := 1) (Y := mX5_windNow) (a := 4) (As := []) (st := []) kw_hE rfl rfl lvX5_64 arX5_windNow (c_X5_windNow_4 l σ hI  ) (by decide) (Nat.le_of_ble_eq_true rfl) rfl (fun v S2 p1 => ?_)
  obtain ⟨e5, z4, rfl, ef3⟩ := p1
  rw [e5]
  replace hF := kf_le ef3 hF
  have r_z4 := kw_rng z4
  show kw_AW l 4 kw_E0 KX mX5_passHour (p_X5_passHour_4 σ) 4 [(0, .ref 4)] [.int z4] σ
  refine kw_istore_n (pc := 4) (i := 2) (n := 1) (lv' := [(1, .int z4), (0, .ref 4)]) rfl rfl (by decide) rfl ?_
  refine kw_aload_n (pc := 5) (i := 3) (k := 1) (n := 0) rfl rfl rfl ?_
  refine kw_dup (pc := 6) (i := 4) rfl rfl ?_
  refine kw_get (pc := 7) (i := 5) (v := .int (σ.1 4 6)) rfl rfl rfl lkX5_78 (fun _ => rfl) ?_
  have b6 := kw_rng (σ.1 4 6)
  refine kw_aload_n (pc := 10) (i := 6) (k := 1) (n := 0) rfl rfl rfl ?_
  refine kw_get (pc := 11) (i := 7) (v := .ref 17) rfl rfl rfl lkX5_12 (fun _ => rfl) ?_
  refine kw_aload_n (pc := 14) (i := 8) (k := 1) (n := 0) rfl rfl rfl ?_
  refine kw_get (pc := 15) (i := 9) (v := .int (σ.1 4 4)) rfl rfl rfl lkX5_29 (fun _ => rfl) ?_
  have b7 := kw_rng (σ.1 4 4)
  refine kw_iload_n (pc := 18) (i := 10) (k := 0) (n := 1) rfl rfl rfl ?_
  refine kw_callV (pc := 19) (i := 11) (Y := mX1_milesOf) (a := 17) (As := [.int (σ.1 4 4), .int z4]) (st := [.int (σ.1 4 6), .ref 4]) kw_hE rfl rfl lvX5_81 arX1_milesOf (c_X1_milesOf_17 l σ hI (σ.1 4 4) z4 ) (by decide) (Nat.le_of_ble_eq_true rfl) rfl (fun v S9 p8 => ?_)
  obtain ⟨e12, z11, rfl, ef10⟩ := p8
  rw [e12]
  replace hF := kf_le ef10 hF
  have r_z11 := kw_rng z11
  show kw_AW l 4 kw_E0 KX mX5_passHour (p_X5_passHour_4 σ) 22 [(1, .int z4), (0, .ref 4)] [.int z11, .int (σ.1 4 6), .ref 4] σ
  refine kw_iadd (pc := 22) (i := 12) rfl (fun z13 e_z13 t_z13 => ?_)
  replace hF := kf_le e_z13 hF
  refine kw_puti (pc := 23) (i := 13) (z := 0) rfl rfl rfl lpX5_78 rfl rfl ?_
  have I14 : kw_I bX (kw_ui σ 4 6 z13) := kw_I_ui hI (kw_rng z13).1 (Int.le_of_lt_add_one (kw_rng z13).2)
  have F15 : kw_F [4, 19] σ (kw_ui σ 4 6 z13) := kw_F_ui hF0 (by decide)
  refine kw_aload_n (pc := 26) (i := 14) (k := 1) (n := 0) rfl rfl rfl ?_
  refine kw_dup (pc := 27) (i := 15) rfl rfl ?_
  refine kw_get (pc := 28) (i := 16) (v := .int (σ.1 4 7)) rfl rfl rfl lkX5_84 (fun _ => rfl) ?_
  have b16 := kw_rng (σ.1 4 7)
  refine kw_aload_n (pc := 31) (i := 17) (k := 1) (n := 0) rfl rfl rfl ?_
  refine kw_get (pc := 32) (i := 18) (v := .ref 17) rfl rfl rfl lkX5_12 (fun _ => rfl) ?_
  refine kw_aload_n (pc := 35) (i := 19) (k := 1) (n := 0) rfl rfl rfl ?_
  refine kw_get (pc := 36) (i := 20) (v := .int (σ.1 4 4)) rfl rfl rfl lkX5_29 (fun _ => rfl) ?_
  refine kw_iload_n (pc := 39) (i := 21) (k := 0) (n := 1) rfl rfl rfl ?_
  refine kw_callV (pc := 40) (i := 22) (Y := mX1_turnOf) (a := 17) (As := [.int (σ.1 4 4), .int z4]) (st := [.int (σ.1 4 7), .ref 4]) kw_hE rfl rfl lvX5_87 arX1_turnOf (c_X1_turnOf_17 l (kw_ui σ 4 6 z13) I14 (σ.1 4 4) z4 ) (by decide) (Nat.le_of_ble_eq_true rfl) rfl (fun v S18 p17 => ?_)
  obtain ⟨e21, z20, rfl, ef19⟩ := p17
  rw [e21]
  replace hF := kf_le ef19 hF
  have r_z20 := kw_rng z20
  show kw_AW l 4 kw_E0 KX mX5_passHour (p_X5_passHour_4 σ) 43 [(1, .int z4), (0, .ref 4)] [.int z20, .int (σ.1 4 7), .ref 4] (kw_ui σ 4 6 z13)
  refine kw_iadd (pc := 43) (i := 23) rfl (fun z22 e_z22 t_z22 => ?_)
  replace hF := kf_le e_z22 hF
  refine kw_puti (pc := 44) (i := 24) (z := 0) rfl rfl rfl lpX5_84 rfl rfl ?_
  have I23 : kw_I bX (kw_ui (kw_ui σ 4 6 z13) 4 7 z22) := kw_I_ui I14 (kw_rng z22).1 (Int.le_of_lt_add_one (kw_rng z22).2)
  have F24 : kw_F [4, 19] σ (kw_ui (kw_ui σ 4 6 z13) 4 7 z22) := kw_F_ui F15 (by decide)
  refine kw_aload_n (pc := 47) (i := 25) (k := 1) (n := 0) rfl rfl rfl ?_
  refine kw_get (pc := 48) (i := 26) (v := .ref 19) rfl rfl rfl lkX5_22 (fun _ => rfl) ?_
  refine kw_aload_n (pc := 51) (i := 27) (k := 1) (n := 0) rfl rfl rfl ?_
  refine kw_get (pc := 52) (i := 28) (v := .int (σ.1 4 4)) rfl rfl rfl lkX5_29 (fun _ => rfl) ?_
  refine kw_iload_n (pc := 55) (i := 29) (k := 0) (n := 1) rfl rfl rfl ?_
  refine kw_callN (pc := 56) (i := 30) (Y := mX7_weather) (As := [.ref 19, .int (σ.1 4 4), .int z4]) (st := []) kw_hE rfl lnX5_90 arX7_weather (c_X7_weather_19 l (kw_ui (kw_ui σ 4 6 z13) 4 7 z22) I23 (σ.1 4 4) z4 ) (by decide) (Nat.le_of_ble_eq_true rfl) rfl (fun v S26 p25 => ?_)
  obtain ⟨⟨I28, F29⟩, rfl, ef27⟩ := p25
  have F30 : kw_F [4, 19] σ S26 := kw_F.tr F24 F29 (by decide)
  replace hF := kf_le ef27 hF
  show kw_AW l 4 kw_E0 KX mX5_passHour (p_X5_passHour_4 σ) 59 [(1, .int z4), (0, .ref 4)] [] S26
  refine kw_aload_n (pc := 59) (i := 31) (k := 1) (n := 0) rfl rfl rfl ?_
  refine kw_dup (pc := 60) (i := 32) rfl rfl ?_
  refine kw_get (pc := 61) (i := 33) (v := .int (S26.1 4 5)) rfl rfl rfl lkX5_35 (fun _ => rfl) ?_
  have b31 := kw_rng (S26.1 4 5)
  refine kw_iconst (pc := 64) (i := 34) (v := 1) rfl rfl ?_
  refine kw_iadd (pc := 65) (i := 35) rfl (fun z32 e_z32 t_z32 => ?_)
  replace hF := kf_le e_z32 hF
  refine kw_puti (pc := 66) (i := 36) (z := 0) rfl rfl rfl lpX5_35 rfl rfl ?_
  have I33 : kw_I bX (kw_ui S26 4 5 z32) := kw_I_ui I28 (kw_rng z32).1 (Int.le_of_lt_add_one (kw_rng z32).2)
  have F34 : kw_F [4, 19] σ (kw_ui S26 4 5 z32) := kw_F_ui F30 (by decide)
  exact kw_return (pc := 69) (i := 37) rfl rfl ⟨⟨I33, F34⟩, rfl, hF⟩
noncomputable def f_X5_act_4 (σ : kw_S) (e : Int32) : kw_S := kf_l (f_X5_hasRoomFor_4 σ (1 : Int32)) fun z1 => if z1.toInt = 0 then (σ) else (kf_l ((σ.1 4 3) + (1 : Int32)) fun z2 => if e.toInt = (6 : Int32).toInt then (kf_l (f_X5_passHour_4 (kw_ui (kw_ui σ 18 (σ.1 4 3).toNatClampNeg e) 4 3 z2)) fun S5 => S5) else (kf_l ((1 : Int32) <<< (e &&& 31)) fun z3 => kf_l ((σ.1 4 4) ^^^ z3) fun z4 => kw_ui (kw_ui (kw_ui σ 18 (σ.1 4 3).toNatClampNeg e) 4 3 z2) 4 4 z4))
theorem f_X5_act_4_u (σ : kw_S) (e : Int32) : f_X5_act_4 σ e = kf_l (f_X5_hasRoomFor_4 σ (1 : Int32)) fun z1 => if z1.toInt = 0 then (σ) else (kf_l ((σ.1 4 3) + (1 : Int32)) fun z2 => if e.toInt = (6 : Int32).toInt then (kf_l (f_X5_passHour_4 (kw_ui (kw_ui σ 18 (σ.1 4 3).toNatClampNeg e) 4 3 z2)) fun S5 => S5) else (kf_l ((1 : Int32) <<< (e &&& 31)) fun z3 => kf_l ((σ.1 4 4) ^^^ z3) fun z4 => kw_ui (kw_ui (kw_ui σ 18 (σ.1 4 3).toNatClampNeg e) 4 3 z2) 4 4 z4)) := rfl
abbrev p_X5_act_4 (σ : kw_S) (e : Int32) : Option Value → kw_S → Prop := fun vv σ' => (kw_I bX σ' ∧ kw_F [4, 18, 19] σ σ') ∧ vv = none ∧ σ' = f_X5_act_4 σ e
set_option maxRecDepth 100000 in
set_option maxHeartbeats 4000000 in
theorem c_X5_act_4 (l : Launch) (σ : kw_S) (hI : kw_I bX σ) (e : Int32) : kw_Met l 5 KX mX5_act [.ref 4, .int e] σ (p_X5_act_4 σ e) := by
  have r_e := kw_rng e
  have hF0 : kw_F [4, 18, 19] σ σ := kw_F.rf
  have hF := (f_X5_act_4_u σ e).symm
  have q_1 : (1 : Int32).toInt = 1 := rfl
  have q_6 : (6 : Int32).toInt = 6 := rfl
  refine kw_Met.of (by decide) rfl tX5_act (Nat.le_of_ble_eq_true rfl) ?_
  show kw_AW l 5 kw_E0 KX mX5_act (p_X5_act_4 σ e) 0 [(0, .ref 4), (1, .int e)] [] σ
  refine kw_aload_n (pc := 0) (i := 0) (k := 0) (n := 0) rfl rfl rfl ?_
  refine kw_iconst (pc := 1) (i := 1) (v := 1) rfl rfl ?_
  refine kw_callV (pc := 2) (i := 2) (Y := mX5_hasRoomFor) (a := 4) (As := [.int 1]) (st := []) kw_hE rfl rfl lvX5_72 arX5_hasRoomFor (c_X5_hasRoomFor_4 l σ hI 1 (by first | omega | decide) (by first | omega | decide)) (by decide) (Nat.le_of_ble_eq_true rfl) rfl (fun v S2 p1 => ?_)
  obtain ⟨e7, z6, rfl, f3, f4, ef5⟩ := p1
  rw [e7]
  replace hF := kf_le ef5 hF
  have r_z6 := kw_rng z6
  show kw_AW l 5 kw_E0 KX mX5_act (p_X5_act_4 σ e) 5 [(0, .ref 4), (1, .int e)] [.int z6] σ
  refine kw_if_ne (pc := 5) (i := 3) (tgt := 9) rfl rfl (fun c8 => ?_) (fun c8 => ?_)
  · replace hF := kf_n c8 hF
    refine kw_aload_n (pc := 9) (i := 5) (k := 0) (n := 0) rfl rfl rfl ?_
    refine kw_get (pc := 10) (i := 6) (v := .ref 18) rfl rfl rfl lkX5_18 (fun _ => rfl) ?_
    refine kw_aload_n (pc := 13) (i := 7) (k := 0) (n := 0) rfl rfl rfl ?_
    refine kw_get (pc := 14) (i := 8) (v := .int (σ.1 4 3)) rfl rfl rfl lkX5_32 (fun _ => rfl) ?_
    have b9 : 0 ≤ (σ.1 4 3).toInt ∧ (σ.1 4 3).toInt ≤ 40 := hI 4 3
    refine kw_iload_n (pc := 17) (i := 9) (k := 1) (n := 1) rfl rfl rfl ?_
    refine kw_iast (pc := 18) (i := 10) (n := 40) rfl rfl (by omega) (by omega) ?_
    have I10 : kw_I bX (kw_ui σ 18 (σ.1 4 3).toNatClampNeg e) := kw_I_ui hI (kw_rng e).1 (Int.le_of_lt_add_one (kw_rng e).2)
    have F11 : kw_F [4, 18, 19] σ (kw_ui σ 18 (σ.1 4 3).toNatClampNeg e) := kw_F_ui hF0 (by decide)
    refine kw_aload_n (pc := 19) (i := 11) (k := 0) (n := 0) rfl rfl rfl ?_
    refine kw_dup (pc := 20) (i := 12) rfl rfl ?_
    refine kw_get (pc := 21) (i := 13) (v := .int (σ.1 4 3)) rfl rfl rfl lkX5_32 (fun _ => rfl) ?_
    refine kw_iconst (pc := 24) (i := 14) (v := 1) rfl rfl ?_
    refine kw_iadd (pc := 25) (i := 15) rfl (fun z12 e_z12 t_z12 => ?_)
    replace hF := kf_le e_z12 hF
    refine kw_puti (pc := 26) (i := 16) (z := 0) rfl rfl rfl lpX5_32 rfl rfl ?_
    have I13 : kw_I bX (kw_ui (kw_ui σ 18 (σ.1 4 3).toNatClampNeg e) 4 3 z12) := kw_I_ui I10 (show 0 ≤ z12.toInt by omega) (show z12.toInt ≤ 40 by omega)
    have F14 : kw_F [4, 18, 19] σ (kw_ui (kw_ui σ 18 (σ.1 4 3).toNatClampNeg e) 4 3 z12) := kw_F_ui F11 (by decide)
    refine kw_iload_n (pc := 29) (i := 17) (k := 1) (n := 1) rfl rfl rfl ?_
    refine kw_bipush (pc := 30) (i := 18) (v := 6) rfl rfl ?_
    refine kw_icmp_ne (pc := 32) (i := 19) (tgt := 42) rfl rfl (fun c15 => ?_) (fun c15 => ?_)
    · replace hF := kf_n c15 hF
      refine kw_aload_n (pc := 42) (i := 23) (k := 0) (n := 0) rfl rfl rfl ?_
      refine kw_dup (pc := 43) (i := 24) rfl rfl ?_
      refine kw_get (pc := 44) (i := 25) (v := .int (σ.1 4 4)) rfl rfl rfl lkX5_29 (fun _ => rfl) ?_
      have b16 := kw_rng (σ.1 4 4)
      refine kw_iconst (pc := 47) (i := 26) (v := 1) rfl rfl ?_
      refine kw_iload_n (pc := 48) (i := 27) (k := 1) (n := 1) rfl rfl rfl ?_
      refine kw_ishl (pc := 49) (i := 28) rfl (fun z17 e_z17 => ?_)
      have r_z17 := kw_rng z17
      replace hF := kf_le e_z17 hF
      refine kw_ixor (pc := 50) (i := 29) rfl (fun z18 e_z18 => ?_)
      have r_z18 := kw_rng z18
      replace hF := kf_le e_z18 hF
      refine kw_puti (pc := 51) (i := 30) (z := 0) rfl rfl rfl lpX5_29 rfl rfl ?_
      have I19 : kw_I bX (kw_ui (kw_ui (kw_ui σ 18 (σ.1 4 3).toNatClampNeg e) 4 3 z12) 4 4 z18) := kw_I_ui I13 (kw_rng z18).1 (Int.le_of_lt_add_one (kw_rng z18).2)
      have F20 : kw_F [4, 18, 19] σ (kw_ui (kw_ui (kw_ui σ 18 (σ.1 4 3).toNatClampNeg e) 4 3 z12) 4 4 z18) := kw_F_ui F14 (by decide)
      exact kw_return (pc := 54) (i := 31) rfl rfl ⟨⟨I19, F20⟩, rfl, hF⟩
    · replace hF := kf_p c15 hF
      refine kw_aload_n (pc := 35) (i := 20) (k := 0) (n := 0) rfl rfl rfl ?_
      refine kw_callV (pc := 36) (i := 21) (Y := mX5_passHour) (a := 4) (As := []) (st := []) kw_hE rfl rfl lvX5_75 arX5_passHour (c_X5_passHour_4 l (kw_ui (kw_ui σ 18 (σ.1 4 3).toNatClampNeg e) 4 3 z12) I13  ) (by decide) (Nat.le_of_ble_eq_true rfl) rfl (fun v S22 p21 => ?_)
      obtain ⟨⟨I24, F25⟩, rfl, ef23⟩ := p21
      have F26 : kw_F [4, 18, 19] σ S22 := kw_F.tr F14 F25 (by decide)
      replace hF := kf_le ef23 hF
      show kw_AW l 5 kw_E0 KX mX5_act (p_X5_act_4 σ e) 39 [(0, .ref 4), (1, .int e)] [] S22
      refine kw_goto (pc := 39) (i := 22) (tgt := 54) rfl rfl ?_
      exact kw_return (pc := 54) (i := 31) rfl rfl ⟨⟨I24, F26⟩, rfl, hF⟩
  · replace hF := kf_p c8 hF
    exact kw_return (pc := 8) (i := 4) rfl rfl ⟨⟨hI, hF0⟩, rfl, hF⟩
noncomputable def l_X5_replay_4_35 (a1 : Int32) : Nat → Int32 → kw_S → kw_S
  | 0, _, S => S
  | n + 1, x2, S => if x2.toInt < a1.toInt then (if x2.toInt < (40 : Int32).toInt then (kf_l (S.1 18 x2.toNatClampNeg) fun z2 => kf_l (f_X5_act_4 S z2) fun S3 => kf_l (x2 + Int32.ofInt 1) fun z4 => l_X5_replay_4_35 a1 n z4 S3) else (S)) else (S)
theorem l_X5_replay_4_35_s (a1 : Int32) (n : Nat) (x2 : Int32) (S : kw_S) : l_X5_replay_4_35 a1 (n + 1) x2 S = if x2.toInt < a1.toInt then (if x2.toInt < (40 : Int32).toInt then (kf_l (S.1 18 x2.toNatClampNeg) fun z2 => kf_l (f_X5_act_4 S z2) fun S3 => kf_l (x2 + Int32.ofInt 1) fun z4 => l_X5_replay_4_35 a1 n z4 S3) else (S)) else (S) := rfl
noncomputable def f_X5_replay_4 (σ : kw_S) (n : Int32) : kw_S := kf_l (f_J7_fill_53178_19 σ (0 : Int32)) fun S1 => l_X5_replay_4_35 n ((41 - (0 : Int32).toInt).toNat + 1) (0 : Int32) (kw_ui (kw_ui (kw_ui (kw_ui (kw_ui S1 4 3 0) 4 4 0) 4 5 0) 4 6 0) 4 7 0)
theorem f_X5_replay_4_u (σ : kw_S) (n : Int32) : f_X5_replay_4 σ n = kf_l (f_J7_fill_53178_19 σ (0 : Int32)) fun S1 => l_X5_replay_4_35 n ((41 - (0 : Int32).toInt).toNat + 1) (0 : Int32) (kw_ui (kw_ui (kw_ui (kw_ui (kw_ui S1 4 3 0) 4 4 0) 4 5 0) 4 6 0) 4 7 0) := rfl
abbrev p_X5_replay_4 (σ : kw_S) (n : Int32) : Option Value → kw_S → Prop := fun vv σ' => (kw_I bX σ' ∧ kw_F [4, 18, 19] σ σ') ∧ vv = none ∧ σ' = f_X5_replay_4 σ n
set_option maxRecDepth 100000 in
set_option maxHeartbeats 4000000 in
theorem c_X5_replay_4 (l : Launch) (σ : kw_S) (hI : kw_I bX σ) (n : Int32) : kw_Met l 6 KX mX5_replay [.ref 4, .int n] σ (p_X5_replay_4 σ n) := by
  have r_n := kw_rng n
  have hF0 : kw_F [4, 18, 19] σ σ := kw_F.rf
  have hF := (f_X5_replay_4_u σ n).symm
  have q_0 : (0 : Int32).toInt = 0 := rfl
  have q_40 : (40 : Int32).toInt = 40 := rfl
  refine kw_Met.of (by decide) rfl tX5_replay (Nat.le_of_ble_eq_true rfl) ?_
  show kw_AW l 6 kw_E0 KX mX5_replay (p_X5_replay_4 σ n) 0 [(0, .ref 4), (1, .int n)] [] σ
  refine kw_aload_n (pc := 0) (i := 0) (k := 0) (n := 0) rfl rfl rfl ?_
  refine kw_get (pc := 1) (i := 1) (v := .ref 19) rfl rfl rfl lkX5_22 (fun _ => rfl) ?_
  refine kw_iconst (pc := 4) (i := 2) (v := 0) rfl rfl ?_
  refine kw_callS (pc := 5) (i := 3) (Y := mJ7_fill_53178) (As := [.ref 19, .int 0]) (st := []) kw_hE rfl lsX5_94 arJ7_fill_53178 (c_J7_fill_53178_19 l σ hI 0 ) (by decide) (Nat.le_of_ble_eq_true rfl) rfl (fun v S2 p1 => ?_)
  obtain ⟨⟨I4, F5⟩, rfl, ef3⟩ := p1
  have F6 : kw_F [4, 18, 19] σ S2 := kw_F.tr hF0 F5 (by decide)
  replace hF := kf_le ef3 hF
  show kw_AW l 6 kw_E0 KX mX5_replay (p_X5_replay_4 σ n) 8 [(0, .ref 4), (1, .int n)] [] S2
  refine kw_aload_n (pc := 8) (i := 4) (k := 0) (n := 0) rfl rfl rfl ?_
  refine kw_iconst (pc := 9) (i := 5) (v := 0) rfl rfl ?_
  refine kw_puti (pc := 10) (i := 6) (z := 0) rfl rfl rfl lpX5_32 rfl rfl ?_
  have I7 : kw_I bX (kw_ui S2 4 3 0) := kw_I_ui I4 (show 0 ≤ (0 : Int32).toInt by omega) (show (0 : Int32).toInt ≤ 40 by omega)
  have F8 : kw_F [4, 18, 19] σ (kw_ui S2 4 3 0) := kw_F_ui F6 (by decide)
  refine kw_aload_n (pc := 13) (i := 7) (k := 0) (n := 0) rfl rfl rfl ?_
  refine kw_iconst (pc := 14) (i := 8) (v := 0) rfl rfl ?_
  refine kw_puti (pc := 15) (i := 9) (z := 0) rfl rfl rfl lpX5_29 rfl rfl ?_
  have I9 : kw_I bX (kw_ui (kw_ui S2 4 3 0) 4 4 0) := kw_I_ui I7 (kw_rng (0 : Int32)).1 (Int.le_of_lt_add_one (kw_rng (0 : Int32)).2)
  have F10 : kw_F [4, 18, 19] σ (kw_ui (kw_ui S2 4 3 0) 4 4 0) := kw_F_ui F8 (by decide)
  refine kw_aload_n (pc := 18) (i := 10) (k := 0) (n := 0) rfl rfl rfl ?_
  refine kw_iconst (pc := 19) (i := 11) (v := 0) rfl rfl ?_
  refine kw_puti (pc := 20) (i := 12) (z := 0) rfl rfl rfl lpX5_35 rfl rfl ?_
  have I11 : kw_I bX (kw_ui (kw_ui (kw_ui S2 4 3 0) 4 4 0) 4 5 0) := kw_I_ui I9 (kw_rng (0 : Int32)).1 (Int.le_of_lt_add_one (kw_rng (0 : Int32)).2)
  have F12 : kw_F [4, 18, 19] σ (kw_ui (kw_ui (kw_ui S2 4 3 0) 4 4 0) 4 5 0) := kw_F_ui F10 (by decide)
  refine kw_aload_n (pc := 23) (i := 13) (k := 0) (n := 0) rfl rfl rfl ?_
  refine kw_iconst (pc := 24) (i := 14) (v := 0) rfl rfl ?_
  refine kw_puti (pc := 25) (i := 15) (z := 0) rfl rfl rfl lpX5_78 rfl rfl ?_
  have I13 : kw_I bX (kw_ui (kw_ui (kw_ui (kw_ui S2 4 3 0) 4 4 0) 4 5 0) 4 6 0) := kw_I_ui I11 (kw_rng (0 : Int32)).1 (Int.le_of_lt_add_one (kw_rng (0 : Int32)).2)
  have F14 : kw_F [4, 18, 19] σ (kw_ui (kw_ui (kw_ui (kw_ui S2 4 3 0) 4 4 0) 4 5 0) 4 6 0) := kw_F_ui F12 (by decide)
  refine kw_aload_n (pc := 28) (i := 16) (k := 0) (n := 0) rfl rfl rfl ?_
  refine kw_iconst (pc := 29) (i := 17) (v := 0) rfl rfl ?_
  refine kw_puti (pc := 30) (i := 18) (z := 0) rfl rfl rfl lpX5_84 rfl rfl ?_
  have I15 : kw_I bX (kw_ui (kw_ui (kw_ui (kw_ui (kw_ui S2 4 3 0) 4 4 0) 4 5 0) 4 6 0) 4 7 0) := kw_I_ui I13 (kw_rng (0 : Int32)).1 (Int.le_of_lt_add_one (kw_rng (0 : Int32)).2)
  have F16 : kw_F [4, 18, 19] σ (kw_ui (kw_ui (kw_ui (kw_ui (kw_ui S2 4 3 0) 4 4 0) 4 5 0) 4 6 0) 4 7 0) := kw_F_ui F14 (by decide)
  refine kw_iconst (pc := 33) (i := 19) (v := 0) rfl rfl ?_
  refine kw_istore_n (pc := 34) (i := 20) (n := 2) (lv' := [(2, .int 0), (0, .ref 4), (1, .int n)]) rfl rfl (by decide) rfl ?_
  have L21 : ∀ (n25 : Nat) (x17 : Int32) (S18 : kw_S), kw_I bX S18 → kw_F [4, 18, 19] σ S18 → 0 ≤ x17.toInt → l_X5_replay_4_35 n n25 x17 S18 = (f_X5_replay_4 σ n) → (41 - x17.toInt).toNat < n25 → kw_AW l 6 kw_E0 KX mX5_replay (p_X5_replay_4 σ n) 35 [(2, .int x17), (0, .ref 4), (1, .int n)] [] S18 := by
    intro n25
    induction n25 with
    | zero => intro x17 S18 I19 F20 v23 hF m24; exact absurd m24 (Nat.not_lt_zero _)
    | succ n25 ih22 =>
      intro x17 S18 I19 F20 v23 hF m24
      replace hF := kf_st (l_X5_replay_4_35_s _ _ _ _) hF
      have r_x17 := kw_rng x17
      refine kw_iload_n (pc := 35) (i := 21) (k := 0) (n := 2) rfl rfl rfl ?_
      refine kw_iload_n (pc := 36) (i := 22) (k := 2) (n := 1) rfl rfl rfl ?_
      refine kw_icmp_ge (pc := 37) (i := 23) (tgt := 62) rfl rfl (fun c26 => ?_) (fun c26 => ?_)
      · replace hF := kf_nl c26 hF
        exact kw_return (pc := 62) (i := 35) rfl rfl ⟨⟨I19, F20⟩, rfl, hF⟩
      · replace hF := kf_p c26 hF
        refine kw_iload_n (pc := 40) (i := 24) (k := 0) (n := 2) rfl rfl rfl ?_
        refine kw_bipush (pc := 41) (i := 25) (v := 40) rfl rfl ?_
        refine kw_icmp_ge (pc := 43) (i := 26) (tgt := 62) rfl rfl (fun c27 => ?_) (fun c27 => ?_)
        · replace hF := kf_nl c27 hF
          exact kw_return (pc := 62) (i := 35) rfl rfl ⟨⟨I19, F20⟩, rfl, hF⟩
        · replace hF := kf_p c27 hF
          refine kw_aload_n (pc := 46) (i := 27) (k := 1) (n := 0) rfl rfl rfl ?_
          refine kw_aload_n (pc := 47) (i := 28) (k := 1) (n := 0) rfl rfl rfl ?_
          refine kw_get (pc := 48) (i := 29) (v := .ref 18) rfl rfl rfl lkX5_18 (fun _ => rfl) ?_
          refine kw_iload_n (pc := 51) (i := 30) (k := 0) (n := 2) rfl rfl rfl ?_
          refine kw_iald (pc := 52) (i := 31) (n := 40) rfl rfl (by omega) (by omega) (fun z28 e_z28 => ?_)
          replace hF := kf_le e_z28 hF
          have t_z28 := congrArg Int32.toInt e_z28
          have r_z28 := kw_rng z28
          refine kw_callV (pc := 53) (i := 32) (Y := mX5_act) (a := 4) (As := [.int z28]) (st := []) kw_hE rfl rfl lvX5_100 arX5_act (c_X5_act_4 l S18 I19 z28 ) (by decide) (Nat.le_of_ble_eq_true rfl) rfl (fun v S30 p29 => ?_)
          obtain ⟨⟨I32, F33⟩, rfl, ef31⟩ := p29
          have F34 : kw_F [4, 18, 19] σ S30 := kw_F.tr F20 F33 (by decide)
          replace hF := kf_le ef31 hF
          show kw_AW l 6 kw_E0 KX mX5_replay (p_X5_replay_4 σ n) 56 [(2, .int x17), (0, .ref 4), (1, .int n)] [] S30
          refine kw_iinc' (pc := 56) (i := 33) (k := 0) (fun z => [(2, .int z), (0, .ref 4), (1, .int n)]) rfl rfl (by decide) rfl (fun _ => rfl) (fun z35 e_z35 t_z35 => ?_)
          replace hF := kf_le e_z35 hF
          refine kw_goto (pc := 59) (i := 34) (tgt := 35) rfl rfl ?_
          refine kw_sub (lv' := [(2, .int z35), (0, .ref 4), (1, .int n)]) [0, 1, 2] rfl ?_
          exact ih22 z35 S30 I32 F34 (by omega) hF (by omega)
  exact L21 _ 0 (kw_ui (kw_ui (kw_ui (kw_ui (kw_ui S2 4 3 0) 4 4 0) 4 5 0) 4 6 0) 4 7 0) I15 F16 (by omega) hF (Nat.lt_succ_self _)
