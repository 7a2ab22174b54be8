noncomputable def f_X3_has_1 (σ : kw_S) (k : Int32) : Int32 := if k.toInt < 0 then ((0 : Int32)) else (if k.toInt < (6 : Int32).toInt then ((1 : Int32)) else ((0 : Int32)))
theorem f_X3_has_1_u (σ : kw_S) (k : Int32) : f_X3_has_1 σ k = if k.toInt < 0 then ((0 : Int32)) else (if k.toInt < (6 : Int32).toInt then ((1 : Int32)) else ((0 : Int32))) := rfl
abbrev p_X3_has_1 (σ : kw_S) (k : Int32) : Option Value → kw_S → Prop := fun vv σ' => σ' = σ ∧ ∃ r : Int32, vv = some (.int r) ∧ (r.toInt = 0 ∨ r.toInt = 1) ∧ (r.toInt = 0 ∨ 0 ≤ k.toInt ∧ k.toInt < 6) ∧ (r.toInt = 1 ∨ k.toInt < 0 ∨ 6 ≤ k.toInt) ∧ r = f_X3_has_1 σ k
set_option maxRecDepth 100000 in
set_option maxHeartbeats 4000000 in
theorem c_X3_has_1 (l : Launch) (σ : kw_S) (hI : kw_I bX σ) (k : Int32) : kw_Met l 1 KX mX3_has [.ref 1, .int k] σ (p_X3_has_1 σ k) := by
  have r_k := kw_rng k
  have hF := (f_X3_has_1_u σ k).symm
  have q_0 : (0 : Int32).toInt = 0 := rfl
  have q_1 : (1 : Int32).toInt = 1 := rfl
  have q_6 : (6 : Int32).toInt = 6 := rfl
  refine kw_Met.of (by decide) rfl tX3_has (Nat.le_of_ble_eq_true rfl) ?_
  show kw_AW l 1 kw_E0 KX mX3_has (p_X3_has_1 σ k) 0 [(0, .ref 1), (1, .int k)] [] σ
  refine kw_iload_n (pc := 0) (i := 0) (k := 1) (n := 1) rfl rfl rfl ?_
  refine kw_if_lt (pc := 1) (i := 1) (tgt := 17) rfl rfl (fun c1 => ?_) (fun c1 => ?_)
  · replace hF := kf_p c1 hF
    refine kw_iconst (pc := 17) (i := 9) (v := 0) rfl rfl ?_
    exact kw_ireturn (pc := 18) (i := 10) (ty := .boolean) rfl rfl rfl ⟨rfl, _, rfl, by omega, by omega, by omega, hF⟩
  · replace hF := kf_nl c1 hF
    refine kw_iload_n (pc := 4) (i := 2) (k := 1) (n := 1) rfl rfl rfl ?_
    refine kw_aload_n (pc := 5) (i := 3) (k := 0) (n := 0) rfl rfl rfl ?_
    refine kw_get (pc := 6) (i := 4) (v := .ref 13) rfl rfl rfl lkX3_20 (fun _ => rfl) ?_
    refine kw_alen (pc := 9) (i := 5) (n := 6) (v := 6) rfl rfl rfl ?_
    refine kw_icmp_ge (pc := 10) (i := 6) (tgt := 17) rfl rfl (fun c2 => ?_) (fun c2 => ?_)
    · replace hF := kf_nl c2 hF
      refine kw_iconst (pc := 17) (i := 9) (v := 0) rfl rfl ?_
      exact kw_ireturn (pc := 18) (i := 10) (ty := .boolean) rfl rfl rfl ⟨rfl, _, rfl, by omega, by omega, by omega, hF⟩
    · replace hF := kf_p c2 hF
      refine kw_iconst (pc := 13) (i := 7) (v := 1) rfl rfl ?_
      refine kw_goto (pc := 14) (i := 8) (tgt := 18) rfl rfl ?_
      exact kw_ireturn (pc := 18) (i := 10) (ty := .boolean) rfl rfl rfl ⟨rfl, _, rfl, by omega, by omega, by omega, hF⟩
noncomputable def f_X3_sizeOf_1 (σ : kw_S) (k : Int32) : Int32 := kf_l (f_X3_has_1 σ k) fun z1 => if z1.toInt = 0 then (((-1) : Int32)) else (kf_l (σ.1 13 k.toNatClampNeg) fun z2 => z2)
theorem f_X3_sizeOf_1_u (σ : kw_S) (k : Int32) : f_X3_sizeOf_1 σ k = kf_l (f_X3_has_1 σ k) fun z1 => if z1.toInt = 0 then (((-1) : Int32)) else (kf_l (σ.1 13 k.toNatClampNeg) fun z2 => z2) := rfl
abbrev p_X3_sizeOf_1 (σ : kw_S) (k : Int32) : Option Value → kw_S → Prop := fun vv σ' => σ' = σ ∧ ∃ r : Int32, vv = some (.int r) ∧ -1 ≤ r.toInt ∧ r.toInt ≤ 40 ∧ (r.toInt < 0 ∨ 0 ≤ k.toInt ∧ k.toInt < 6) ∧ (0 ≤ k.toInt → k.toInt < 6 → r.toInt = (σ.1 13 k.toNatClampNeg).toInt) ∧ r = f_X3_sizeOf_1 σ k
set_option maxRecDepth 100000 in
set_option maxHeartbeats 4000000 in
theorem c_X3_sizeOf_1 (l : Launch) (σ : kw_S) (hI : kw_I bX σ) (k : Int32) : kw_Met l 2 KX mX3_sizeOf [.ref 1, .int k] σ (p_X3_sizeOf_1 σ k) := by
  have r_k := kw_rng k
  have hF := (f_X3_sizeOf_1_u σ k).symm
  have q_m1 : (-1 : Int32).toInt = -1 := rfl
  refine kw_Met.of (by decide) rfl tX3_sizeOf (Nat.le_of_ble_eq_true rfl) ?_
  show kw_AW l 2 kw_E0 KX mX3_sizeOf (p_X3_sizeOf_1 σ k) 0 [(0, .ref 1), (1, .int k)] [] σ
  refine kw_aload_n (pc := 0) (i := 0) (k := 0) (n := 0) rfl rfl rfl ?_
  refine kw_iload_n (pc := 1) (i := 1) (k := 1) (n := 1) rfl rfl rfl ?_
  refine kw_callV (pc := 2) (i := 2) (Y := mX3_has) (a := 1) (As := [.int k]) (st := []) kw_hE rfl rfl lvX3_34 arX3_has (c_X3_has_1 l σ hI k ) (by decide) (Nat.le_of_ble_eq_true rfl) rfl (fun v S2 p1 => ?_)
  obtain ⟨e8, z7, rfl, f3, f4, f5, ef6⟩ := p1
  rw [e8]
  replace hF := kf_le ef6 hF
  have r_z7 := kw_rng z7
  show kw_AW l 2 kw_E0 KX mX3_sizeOf (p_X3_sizeOf_1 σ k) 5 [(0, .ref 1), (1, .int k)] [.int z7] σ
  refine kw_if_eq (pc := 5) (i := 3) (tgt := 17) rfl rfl (fun c9 => ?_) (fun c9 => ?_)
  · replace hF := kf_p c9 hF
    refine kw_iconst (pc := 17) (i := 9) (v := (-1)) rfl rfl ?_
    exact kw_ireturn (pc := 18) (i := 10) (ty := .int) rfl rfl rfl ⟨rfl, _, rfl, by omega, by omega, by omega, by omega, hF⟩
  · replace hF := kf_n c9 hF
    refine kw_aload_n (pc := 8) (i := 4) (k := 0) (n := 0) rfl rfl rfl ?_
    refine kw_get (pc := 9) (i := 5) (v := .ref 13) rfl rfl rfl lkX3_20 (fun _ => rfl) ?_
    refine kw_iload_n (pc := 12) (i := 6) (k := 1) (n := 1) rfl rfl rfl ?_
    refine kw_iald (pc := 13) (i := 7) (n := 6) rfl rfl (by omega) (by omega) (fun z10 e_z10 => ?_)
    replace hF := kf_le e_z10 hF
    have t_z10 := congrArg Int32.toInt e_z10
    have b_z10 : -1 ≤ z10.toInt ∧ z10.toInt ≤ 40 := by rw [e_z10]; exact hI 13 _
    refine kw_goto (pc := 14) (i := 8) (tgt := 18) rfl rfl ?_
    exact kw_ireturn (pc := 18) (i := 10) (ty := .int) rfl rfl rfl ⟨rfl, _, rfl, by omega, by omega, by omega, by omega, hF⟩
noncomputable def f_X3_isMissing_1 (σ : kw_S) (k : Int32) : Int32 := kf_l (f_X3_sizeOf_1 σ k) fun z1 => if z1.toInt < 0 then ((1 : Int32)) else ((0 : Int32))
theorem f_X3_isMissing_1_u (σ : kw_S) (k : Int32) : f_X3_isMissing_1 σ k = kf_l (f_X3_sizeOf_1 σ k) fun z1 => if z1.toInt < 0 then ((1 : Int32)) else ((0 : Int32)) := rfl
abbrev p_X3_isMissing_1 (σ : kw_S) (k : Int32) : Option Value → kw_S → Prop := fun vv σ' => σ' = σ ∧ ∃ r : Int32, vv = some (.int r) ∧ (r.toInt = 0 ∨ r.toInt = 1) ∧ (r.toInt = 1 ∨ 0 ≤ k.toInt ∧ k.toInt < 6) ∧ r = f_X3_isMissing_1 σ k
set_option maxRecDepth 100000 in
set_option maxHeartbeats 4000000 in
theorem c_X3_isMissing_1 (l : Launch) (σ : kw_S) (hI : kw_I bX σ) (k : Int32) : kw_Met l 3 KX mX3_isMissing [.ref 1, .int k] σ (p_X3_isMissing_1 σ k) := by
  have r_k := kw_rng k
  have hF := (f_X3_isMissing_1_u σ k).symm
  have q_0 : (0 : Int32).toInt = 0 := rfl
  have q_1 : (1 : Int32).toInt = 1 := rfl
  refine kw_Met.of (by decide) rfl tX3_isMissing (Nat.le_of_ble_eq_true rfl) ?_
  show kw_AW l 3 kw_E0 KX mX3_isMissing (p_X3_isMissing_1 σ k) 0 [(0, .ref 1), (1, .int k)] [] σ
  refine kw_aload_n (pc := 0) (i := 0) (k := 0) (n := 0) rfl rfl rfl ?_
  refine kw_iload_n (pc := 1) (i := 1) (k := 1) (n := 1) rfl rfl rfl ?_
  refine kw_callV (pc := 2) (i := 2) (Y := mX3_sizeOf) (a := 1) (As := [.int k]) (st := []) kw_hE rfl rfl lvX3_30 arX3_sizeOf (c_X3_sizeOf_1 l σ hI k ) (by decide) (Nat.le_of_ble_eq_true rfl) rfl (fun v S2 p1 => ?_)
  obtain ⟨e9, z8, rfl, f3, f4, f5, f6, ef7⟩ := p1
  rw [e9]
  replace hF := kf_le ef7 hF
  have r_z8 := kw_rng z8
  show kw_AW l 3 kw_E0 KX mX3_isMissing (p_X3_isMissing_1 σ k) 5 [(0, .ref 1), (1, .int k)] [.int z8] σ
  refine kw_if_ge (pc := 5) (i := 3) (tgt := 12) rfl rfl (fun c10 => ?_) (fun c10 => ?_)
  · replace hF := kf_nl c10 hF
    refine kw_iconst (pc := 12) (i := 6) (v := 0) rfl rfl ?_
    exact kw_ireturn (pc := 13) (i := 7) (ty := .boolean) rfl rfl rfl ⟨rfl, _, rfl, by omega, by omega, hF⟩
  · replace hF := kf_p c10 hF
    refine kw_iconst (pc := 8) (i := 4) (v := 1) rfl rfl ?_
    refine kw_goto (pc := 9) (i := 5) (tgt := 13) rfl rfl ?_
    exact kw_ireturn (pc := 13) (i := 7) (ty := .boolean) rfl rfl rfl ⟨rfl, _, rfl, by omega, by omega, hF⟩
noncomputable def l_X3_howMany_1_4 (S : kw_S) : Nat → Int32 → Int32 → Int32
  | 0, _, _ => 0
  | n + 1, x1, x2 => if x2.toInt < (6 : Int32).toInt then (kf_l (S.1 13 x2.toNatClampNeg) fun z1 => if z1.toInt < 0 then (kf_l (x2 + Int32.ofInt 1) fun z2 => l_X3_howMany_1_4 S n x1 z2) else (kf_l (x1 + Int32.ofInt 1) fun z3 => kf_l (x2 + Int32.ofInt 1) fun z4 => l_X3_howMany_1_4 S n z3 z4)) else (x1)
theorem l_X3_howMany_1_4_s (S : kw_S) (n : Nat) (x1 : Int32) (x2 : Int32) : l_X3_howMany_1_4 S (n + 1) x1 x2 = if x2.toInt < (6 : Int32).toInt then (kf_l (S.1 13 x2.toNatClampNeg) fun z1 => if z1.toInt < 0 then (kf_l (x2 + Int32.ofInt 1) fun z2 => l_X3_howMany_1_4 S n x1 z2) else (kf_l (x1 + Int32.ofInt 1) fun z3 => kf_l (x2 + Int32.ofInt 1) fun z4 => l_X3_howMany_1_4 S n z3 z4)) else (x1) := rfl
noncomputable def f_X3_howMany_1 (σ : kw_S)  : Int32 := l_X3_howMany_1_4 σ ((10 - (0 : Int32).toInt).toNat + 1) (0 : Int32) (0 : Int32)
theorem f_X3_howMany_1_u (σ : kw_S)  : f_X3_howMany_1 σ  = l_X3_howMany_1_4 σ ((10 - (0 : Int32).toInt).toNat + 1) (0 : Int32) (0 : Int32) := rfl
abbrev p_X3_howMany_1 (σ : kw_S)  : Option Value → kw_S → Prop := fun vv σ' => σ' = σ ∧ ∃ r : Int32, vv = some (.int r) ∧ r = f_X3_howMany_1 σ
set_option maxRecDepth 100000 in
set_option maxHeartbeats 4000000 in
theorem c_X3_howMany_1 (l : Launch) (σ : kw_S) (hI : kw_I bX σ)  : kw_Met l 1 KX mX3_howMany [.ref 1] σ (p_X3_howMany_1 σ) := by
  have hF := (f_X3_howMany_1_u σ).symm
  have q_0 : (0 : Int32).toInt = 0 := rfl
  have q_6 : (6 : Int32).toInt = 6 := rfl
  refine kw_Met.of (by decide) rfl tX3_howMany (Nat.le_of_ble_eq_true rfl) ?_
  show kw_AW l 1 kw_E0 KX mX3_howMany (p_X3_howMany_1 σ) 0 [(0, .ref 1)] [] σ
  refine kw_iconst (pc := 0) (i := 0) (v := 0) rfl rfl ?_
  refine kw_istore_n (pc := 1) (i := 1) (n := 1) (lv' := [(1, .int 0), (0, .ref 1)]) rfl rfl (by decide) rfl ?_
  refine kw_iconst (pc := 2) (i := 2) (v := 0) rfl rfl ?_
  refine kw_istore_n (pc := 3) (i := 3) (n := 2) (lv' := [(2, .int 0), (1, .int 0), (0, .ref 1)]) rfl rfl (by decide) rfl ?_
  have L3 : ∀ (n7 : Nat) (x1 : Int32) (x2 : Int32), 0 ≤ x1.toInt → l_X3_howMany_1_4 σ n7 x2 x1 = (f_X3_howMany_1 σ) → (10 - x1.toInt).toNat < n7 → kw_AW l 1 kw_E0 KX mX3_howMany (p_X3_howMany_1 σ) 4 [(2, .int x1), (1, .int x2), (0, .ref 1)] [] σ := by
    intro n7
    induction n7 with
    | zero => intro x1 x2 v5 hF m6; exact absurd m6 (Nat.not_lt_zero _)
    | succ n7 ih4 =>
      intro x1 x2 v5 hF m6
      replace hF := kf_st (l_X3_howMany_1_4_s _ _ _ _) hF
      have r_x1 := kw_rng x1
      have r_x2 := kw_rng x2
      refine kw_iload_n (pc := 4) (i := 4) (k := 0) (n := 2) rfl rfl rfl ?_
      refine kw_aload_n (pc := 5) (i := 5) (k := 2) (n := 0) rfl rfl rfl ?_
      refine kw_get (pc := 6) (i := 6) (v := .ref 13) rfl rfl rfl lkX3_20 (fun _ => rfl) ?_
      refine kw_alen (pc := 9) (i := 7) (n := 6) (v := 6) rfl rfl rfl ?_
      refine kw_icmp_ge (pc := 10) (i := 8) (tgt := 31) rfl rfl (fun c8 => ?_) (fun c8 => ?_)
      · replace hF := kf_nl c8 hF
        refine kw_iload_n (pc := 31) (i := 17) (k := 1) (n := 1) rfl rfl rfl ?_
        exact kw_ireturn (pc := 32) (i := 18) (ty := .int) rfl rfl rfl ⟨rfl, _, rfl, hF⟩
      · replace hF := kf_p c8 hF
        refine kw_aload_n (pc := 13) (i := 9) (k := 2) (n := 0) rfl rfl rfl ?_
        refine kw_get (pc := 14) (i := 10) (v := .ref 13) rfl rfl rfl lkX3_20 (fun _ => rfl) ?_
        refine kw_iload_n (pc := 17) (i := 11) (k := 0) (n := 2) rfl rfl rfl ?_
        refine kw_iald (pc := 18) (i := 12) (n := 6) rfl rfl (by omega) (by omega) (fun z9 e_z9 => ?_)
        replace hF := kf_le e_z9 hF
        have t_z9 := congrArg Int32.toInt e_z9
        have b_z9 : -1 ≤ z9.toInt ∧ z9.toInt ≤ 40 := by rw [e_z9]; exact hI 13 _
        refine kw_if_lt (pc := 19) (i := 13) (tgt := 25) rfl rfl (fun c10 => ?_) (fun c10 => ?_)
        · replace hF := kf_p c10 hF
          refine kw_iinc' (pc := 25) (i := 15) (k := 0) (fun z => [(2, .int z), (1, .int x2), (0, .ref 1)]) rfl rfl (by decide) rfl (fun _ => rfl) (fun z11 e_z11 t_z11 => ?_)
          replace hF := kf_le e_z11 hF
          refine kw_goto (pc := 28) (i := 16) (tgt := 4) rfl rfl ?_
          refine kw_sub (lv' := [(2, .int z11), (1, .int x2), (0, .ref 1)]) [0, 1, 2] rfl ?_
          exact ih4 z11 x2 (by omega) hF (by omega)
        · replace hF := kf_nl c10 hF
          refine kw_iinc' (pc := 22) (i := 14) (k := 1) (fun z => [(1, .int z), (2, .int x1), (0, .ref 1)]) rfl rfl (by decide) rfl (fun _ => rfl) (fun z12 e_z12 t_z12 => ?_)
          replace hF := kf_le e_z12 hF
          refine kw_iinc' (pc := 25) (i := 15) (k := 1) (fun z => [(2, .int z), (1, .int z12), (0, .ref 1)]) rfl rfl (by decide) rfl (fun _ => rfl) (fun z13 e_z13 t_z13 => ?_)
          replace hF := kf_le e_z13 hF
          refine kw_goto (pc := 28) (i := 16) (tgt := 4) rfl rfl ?_
          refine kw_sub (lv' := [(2, .int z13), (1, .int z12), (0, .ref 1)]) [0, 1, 2] rfl ?_
          exact ih4 z13 z12 (by omega) hF (by omega)
  exact L3 _ 0 0 (by omega) hF (Nat.lt_succ_self _)
noncomputable def f_X3_hasPlaces_1 (σ : kw_S) (k : Int32) (f : Int32) (n : Int32) : Int32 := kf_l (f_X3_has_1 σ k) fun z1 => if z1.toInt = 0 then ((0 : Int32)) else (if f.toInt < 0 then ((0 : Int32)) else (if n.toInt < 0 then ((0 : Int32)) else (kf_l (σ.1 13 k.toNatClampNeg) fun z2 => kf_l (z2 - n) fun z3 => if z3.toInt < f.toInt then ((0 : Int32)) else ((1 : Int32)))))
theorem f_X3_hasPlaces_1_u (σ : kw_S) (k : Int32) (f : Int32) (n : Int32) : f_X3_hasPlaces_1 σ k f n = kf_l (f_X3_has_1 σ k) fun z1 => if z1.toInt = 0 then ((0 : Int32)) else (if f.toInt < 0 then ((0 : Int32)) else (if n.toInt < 0 then ((0 : Int32)) else (kf_l (σ.1 13 k.toNatClampNeg) fun z2 => kf_l (z2 - n) fun z3 => if z3.toInt < f.toInt then ((0 : Int32)) else ((1 : Int32))))) := rfl
abbrev p_X3_hasPlaces_1 (σ : kw_S) (k : Int32) (f : Int32) (n : Int32) : Option Value → kw_S → Prop := fun vv σ' => σ' = σ ∧ ∃ r : Int32, vv = some (.int r) ∧ (r.toInt = 0 ∨ r.toInt = 1) ∧ (r.toInt = 0 ∨ 0 ≤ k.toInt ∧ k.toInt < 6 ∧ 0 ≤ f.toInt ∧ 0 ≤ n.toInt ∧ f.toInt + n.toInt ≤ 40) ∧ r = f_X3_hasPlaces_1 σ k f n
set_option maxRecDepth 100000 in
set_option maxHeartbeats 4000000 in
theorem c_X3_hasPlaces_1 (l : Launch) (σ : kw_S) (hI : kw_I bX σ) (k : Int32) (f : Int32) (n : Int32) : kw_Met l 2 KX mX3_hasPlaces [.ref 1, .int k, .int f, .int n] σ (p_X3_hasPlaces_1 σ k f n) := by
  have r_k := kw_rng k
  have r_f := kw_rng f
  have r_n := kw_rng n
  have hF := (f_X3_hasPlaces_1_u σ k f n).symm
  have q_0 : (0 : Int32).toInt = 0 := rfl
  have q_1 : (1 : Int32).toInt = 1 := rfl
  refine kw_Met.of (by decide) rfl tX3_hasPlaces (Nat.le_of_ble_eq_true rfl) ?_
  show kw_AW l 2 kw_E0 KX mX3_hasPlaces (p_X3_hasPlaces_1 σ k f n) 0 [(0, .ref 1), (1, .int k), (2, .int f), (3, .int n)] [] σ
  refine kw_aload_n (pc := 0) (i := 0) (k := 0) (n := 0) rfl rfl rfl ?_
  refine kw_iload_n (pc := 1) (i := 1) (k := 1) (n := 1) rfl rfl rfl ?_
  refine kw_callV (pc := 2) (i := 2) (Y := mX3_has) (a := 1) (As := [.int k]) (st := []) kw_hE rfl rfl lvX3_34 arX3_has (c_X3_has_1 l σ hI k ) (by decide) (Nat.le_of_ble_eq_true rfl) rfl (fun v S2 p1 => ?_)
  obtain ⟨e8, z7, rfl, f3, f4, f5, ef6⟩ := p1
  rw [e8]
  replace hF := kf_le ef6 hF
  have r_z7 := kw_rng z7
  show kw_AW l 2 kw_E0 KX mX3_hasPlaces (p_X3_hasPlaces_1 σ k f n) 5 [(0, .ref 1), (1, .int k), (2, .int f), (3, .int n)] [.int z7] σ
  refine kw_if_eq (pc := 5) (i := 3) (tgt := 32) rfl rfl (fun c9 => ?_) (fun c9 => ?_)
  · replace hF := kf_p c9 hF
    refine kw_iconst (pc := 32) (i := 18) (v := 0) rfl rfl ?_
    exact kw_ireturn (pc := 33) (i := 19) (ty := .boolean) rfl rfl rfl ⟨rfl, _, rfl, by omega, by omega, hF⟩
  · replace hF := kf_n c9 hF
    refine kw_iload_n (pc := 8) (i := 4) (k := 2) (n := 2) rfl rfl rfl ?_
    refine kw_if_lt (pc := 9) (i := 5) (tgt := 32) rfl rfl (fun c10 => ?_) (fun c10 => ?_)
    · replace hF := kf_p c10 hF
      refine kw_iconst (pc := 32) (i := 18) (v := 0) rfl rfl ?_
      exact kw_ireturn (pc := 33) (i := 19) (ty := .boolean) rfl rfl rfl ⟨rfl, _, rfl, by omega, by omega, hF⟩
    · replace hF := kf_nl c10 hF
      refine kw_iload_n (pc := 12) (i := 6) (k := 3) (n := 3) rfl rfl rfl ?_
      refine kw_if_lt (pc := 13) (i := 7) (tgt := 32) rfl rfl (fun c11 => ?_) (fun c11 => ?_)
      · replace hF := kf_p c11 hF
        refine kw_iconst (pc := 32) (i := 18) (v := 0) rfl rfl ?_
        exact kw_ireturn (pc := 33) (i := 19) (ty := .boolean) rfl rfl rfl ⟨rfl, _, rfl, by omega, by omega, hF⟩
      · replace hF := kf_nl c11 hF
        refine kw_iload_n (pc := 16) (i := 8) (k := 2) (n := 2) rfl rfl rfl ?_
        refine kw_aload_n (pc := 17) (i := 9) (k := 0) (n := 0) rfl rfl rfl ?_
        refine kw_get (pc := 18) (i := 10) (v := .ref 13) rfl rfl rfl lkX3_20 (fun _ => rfl) ?_
        refine kw_iload_n (pc := 21) (i := 11) (k := 1) (n := 1) rfl rfl rfl ?_
        refine kw_iald (pc := 22) (i := 12) (n := 6) rfl rfl (by omega) (by omega) (fun z12 e_z12 => ?_)
        replace hF := kf_le e_z12 hF
        have t_z12 := congrArg Int32.toInt e_z12
        have b_z12 : -1 ≤ z12.toInt ∧ z12.toInt ≤ 40 := by rw [e_z12]; exact hI 13 _
        refine kw_iload_n (pc := 23) (i := 13) (k := 3) (n := 3) rfl rfl rfl ?_
        refine kw_isub (pc := 24) (i := 14) rfl (fun z13 e_z13 t_z13 => ?_)
        replace hF := kf_le e_z13 hF
        refine kw_icmp_gt (pc := 25) (i := 15) (tgt := 32) rfl rfl (fun c14 => ?_) (fun c14 => ?_)
        · replace hF := kf_p c14 hF
          refine kw_iconst (pc := 32) (i := 18) (v := 0) rfl rfl ?_
          exact kw_ireturn (pc := 33) (i := 19) (ty := .boolean) rfl rfl rfl ⟨rfl, _, rfl, by omega, by omega, hF⟩
        · replace hF := kf_nl c14 hF
          refine kw_iconst (pc := 28) (i := 16) (v := 1) rfl rfl ?_
          refine kw_goto (pc := 29) (i := 17) (tgt := 33) rfl rfl ?_
          exact kw_ireturn (pc := 33) (i := 19) (ty := .boolean) rfl rfl rfl ⟨rfl, _, rfl, by omega, by omega, hF⟩
noncomputable def f_X3_has_2 (σ : kw_S) (k : Int32) : Int32 := if k.toInt < 0 then ((0 : Int32)) else (if k.toInt < (4 : Int32).toInt then ((1 : Int32)) else ((0 : Int32)))
theorem f_X3_has_2_u (σ : kw_S) (k : Int32) : f_X3_has_2 σ k = if k.toInt < 0 then ((0 : Int32)) else (if k.toInt < (4 : Int32).toInt then ((1 : Int32)) else ((0 : Int32))) := rfl
abbrev p_X3_has_2 (σ : kw_S) (k : Int32) : Option Value → kw_S → Prop := fun vv σ' => σ' = σ ∧ ∃ r : Int32, vv = some (.int r) ∧ (r.toInt = 0 ∨ r.toInt = 1) ∧ (r.toInt = 0 ∨ 0 ≤ k.toInt ∧ k.toInt < 4) ∧ (r.toInt = 1 ∨ k.toInt < 0 ∨ 4 ≤ k.toInt) ∧ r = f_X3_has_2 σ k
set_option maxRecDepth 100000 in
set_option maxHeartbeats 4000000 in
theorem c_X3_has_2 (l : Launch) (σ : kw_S) (hI : kw_I bX σ) (k : Int32) : kw_Met l 1 KX mX3_has [.ref 2, .int k] σ (p_X3_has_2 σ k) := by
  have r_k := kw_rng k
  have hF := (f_X3_has_2_u σ k).symm
  have q_0 : (0 : Int32).toInt = 0 := rfl
  have q_1 : (1 : Int32).toInt = 1 := rfl
  have q_4 : (4 : Int32).toInt = 4 := rfl
  refine kw_Met.of (by decide) rfl tX3_has (Nat.le_of_ble_eq_true rfl) ?_
  show kw_AW l 1 kw_E0 KX mX3_has (p_X3_has_2 σ k) 0 [(0, .ref 2), (1, .int k)] [] σ
  refine kw_iload_n (pc := 0) (i := 0) (k := 1) (n := 1) rfl rfl rfl ?_
  refine kw_if_lt (pc := 1) (i := 1) (tgt := 17) rfl rfl (fun c1 => ?_) (fun c1 => ?_)
  · replace hF := kf_p c1 hF
    refine kw_iconst (pc := 17) (i := 9) (v := 0) rfl rfl ?_
    exact kw_ireturn (pc := 18) (i := 10) (ty := .boolean) rfl rfl rfl ⟨rfl, _, rfl, by omega, by omega, by omega, hF⟩
  · replace hF := kf_nl c1 hF
    refine kw_iload_n (pc := 4) (i := 2) (k := 1) (n := 1) rfl rfl rfl ?_
    refine kw_aload_n (pc := 5) (i := 3) (k := 0) (n := 0) rfl rfl rfl ?_
    refine kw_get (pc := 6) (i := 4) (v := .ref 15) rfl rfl rfl lkX3_20 (fun _ => rfl) ?_
    refine kw_alen (pc := 9) (i := 5) (n := 4) (v := 4) rfl rfl rfl ?_
    refine kw_icmp_ge (pc := 10) (i := 6) (tgt := 17) rfl rfl (fun c2 => ?_) (fun c2 => ?_)
    · replace hF := kf_nl c2 hF
      refine kw_iconst (pc := 17) (i := 9) (v := 0) rfl rfl ?_
      exact kw_ireturn (pc := 18) (i := 10) (ty := .boolean) rfl rfl rfl ⟨rfl, _, rfl, by omega, by omega, by omega, hF⟩
    · replace hF := kf_p c2 hF
      refine kw_iconst (pc := 13) (i := 7) (v := 1) rfl rfl ?_
      refine kw_goto (pc := 14) (i := 8) (tgt := 18) rfl rfl ?_
      exact kw_ireturn (pc := 18) (i := 10) (ty := .boolean) rfl rfl rfl ⟨rfl, _, rfl, by omega, by omega, by omega, hF⟩
noncomputable def f_X3_sizeOf_2 (σ : kw_S) (k : Int32) : Int32 := kf_l (f_X3_has_2 σ k) fun z1 => if z1.toInt = 0 then (((-1) : Int32)) else (kf_l (σ.1 15 k.toNatClampNeg) fun z2 => z2)
theorem f_X3_sizeOf_2_u (σ : kw_S) (k : Int32) : f_X3_sizeOf_2 σ k = kf_l (f_X3_has_2 σ k) fun z1 => if z1.toInt = 0 then (((-1) : Int32)) else (kf_l (σ.1 15 k.toNatClampNeg) fun z2 => z2) := rfl
abbrev p_X3_sizeOf_2 (σ : kw_S) (k : Int32) : Option Value → kw_S → Prop := fun vv σ' => σ' = σ ∧ ∃ r : Int32, vv = some (.int r) ∧ -1 ≤ r.toInt ∧ r.toInt ≤ 60 ∧ (r.toInt < 0 ∨ 0 ≤ k.toInt ∧ k.toInt < 4) ∧ (0 ≤ k.toInt → k.toInt < 4 → r.toInt = (σ.1 15 k.toNatClampNeg).toInt) ∧ r = f_X3_sizeOf_2 σ k
set_option maxRecDepth 100000 in
set_option maxHeartbeats 4000000 in
theorem c_X3_sizeOf_2 (l : Launch) (σ : kw_S) (hI : kw_I bX σ) (k : Int32) : kw_Met l 2 KX mX3_sizeOf [.ref 2, .int k] σ (p_X3_sizeOf_2 σ k) := by
  have r_k := kw_rng k
  have hF := (f_X3_sizeOf_2_u σ k).symm
  have q_m1 : (-1 : Int32).toInt = -1 := rfl
  refine kw_Met.of (by decide) rfl tX3_sizeOf (Nat.le_of_ble_eq_true rfl) ?_
  show kw_AW l 2 kw_E0 KX mX3_sizeOf (p_X3_sizeOf_2 σ k) 0 [(0, .ref 2), (1, .int k)] [] σ
  refine kw_aload_n (pc := 0) (i := 0) (k := 0) (n := 0) rfl rfl rfl ?_
  refine kw_iload_n (pc := 1) (i := 1) (k := 1) (n := 1) rfl rfl rfl ?_
  refine kw_callV (pc := 2) (i := 2) (Y := mX3_has) (a := 2) (As := [.int k]) (st := []) kw_hE rfl rfl lvX3_34 arX3_has (c_X3_has_2 l σ hI k ) (by decide) (Nat.le_of_ble_eq_true rfl) rfl (fun v S2 p1 => ?_)
  obtain ⟨e8, z7, rfl, f3, f4, f5, ef6⟩ := p1
  rw [e8]
  replace hF := kf_le ef6 hF
  have r_z7 := kw_rng z7
  show kw_AW l 2 kw_E0 KX mX3_sizeOf (p_X3_sizeOf_2 σ k) 5 [(0, .ref 2), (1, .int k)] [.int z7] σ
  refine kw_if_eq (pc := 5) (i := 3) (tgt := 17) rfl rfl (fun c9 => ?_) (fun c9 => ?_)
  · replace hF := kf_p c9 hF
    refine kw_iconst (pc := 17) (i := 9) (v := (-1)) rfl rfl ?_
    exact kw_ireturn (pc := 18) (i := 10) (ty := .int) rfl rfl rfl ⟨rfl, _, rfl, by omega, by omega, by omega, by omega, hF⟩
  · replace hF := kf_n c9 hF
    refine kw_aload_n (pc := 8) (i := 4) (k := 0) (n := 0) rfl rfl rfl ?_
    refine kw_get (pc := 9) (i := 5) (v := .ref 15) rfl rfl rfl lkX3_20 (fun _ => rfl) ?_
    refine kw_iload_n (pc := 12) (i := 6) (k := 1) (n := 1) rfl rfl rfl ?_
    refine kw_iald (pc := 13) (i := 7) (n := 4) rfl rfl (by omega) (by omega) (fun z10 e_z10 => ?_)
    replace hF := kf_le e_z10 hF
    have t_z10 := congrArg Int32.toInt e_z10
    have b_z10 : -1 ≤ z10.toInt ∧ z10.toInt ≤ 60 := by rw [e_z10]; exact hI 15 _
    refine kw_goto (pc := 14) (i := 8) (tgt := 18) rfl rfl ?_
    exact kw_ireturn (pc := 18) (i := 10) (ty := .int) rfl rfl rfl ⟨rfl, _, rfl, by omega, by omega, by omega, by omega, hF⟩
noncomputable def f_X3_isMissing_2 (σ : kw_S) (k : Int32) : Int32 := kf_l (f_X3_sizeOf_2 σ k) fun z1 => if z1.toInt < 0 then ((1 : Int32)) else ((0 : Int32))
theorem f_X3_isMissing_2_u (σ : kw_S) (k : Int32) : f_X3_isMissing_2 σ k = kf_l (f_X3_sizeOf_2 σ k) fun z1 => if z1.toInt < 0 then ((1 : Int32)) else ((0 : Int32)) := rfl
abbrev p_X3_isMissing_2 (σ : kw_S) (k : Int32) : Option Value → kw_S → Prop := fun vv σ' => σ' = σ ∧ ∃ r : Int32, vv = some (.int r) ∧ (r.toInt = 0 ∨ r.toInt = 1) ∧ (r.toInt = 1 ∨ 0 ≤ k.toInt ∧ k.toInt < 4) ∧ r = f_X3_isMissing_2 σ k
set_option maxRecDepth 100000 in
set_option maxHeartbeats 4000000 in
theorem c_X3_isMissing_2 (l : Launch) (σ : kw_S) (hI : kw_I bX σ) (k : Int32) : kw_Met l 3 KX mX3_isMissing [.ref 2, .int k] σ (p_X3_isMissing_2 σ k) := by
  have r_k := kw_rng k
  have hF := (f_X3_isMissing_2_u σ k).symm
  have q_0 : (0 : Int32).toInt = 0 := rfl
  have q_1 : (1 : Int32).toInt = 1 := rfl
  refine kw_Met.of (by decide) rfl tX3_isMissing (Nat.le_of_ble_eq_true rfl) ?_
  show kw_AW l 3 kw_E0 KX mX3_isMissing (p_X3_isMissing_2 σ k) 0 [(0, .ref 2), (1, .int k)] [] σ
  refine kw_aload_n (pc := 0) (i := 0) (k := 0) (n := 0) rfl rfl rfl ?_
  refine kw_iload_n (pc := 1) (i := 1) (k := 1) (n := 1) rfl rfl rfl ?_
  refine kw_callV (pc := 2) (i := 2) (Y := mX3_sizeOf) (a := 2) (As := [.int k]) (st := []) kw_hE rfl rfl lvX3_30 arX3_sizeOf (c_X3_sizeOf_2 l σ hI k ) (by decide) (Nat.le_of_ble_eq_true rfl) rfl (fun v S2 p1 => ?_)
  obtain ⟨e9, z8, rfl, f3, f4, f5, f6, ef7⟩ := p1
  rw [e9]
  replace hF := kf_le ef7 hF
  have r_z8 := kw_rng z8
  show kw_AW l 3 kw_E0 KX mX3_isMissing (p_X3_isMissing_2 σ k) 5 [(0, .ref 2), (1, .int k)] [.int z8] σ
  refine kw_if_ge (pc := 5) (i := 3) (tgt := 12) rfl rfl (fun c10 => ?_) (fun c10 => ?_)
  · replace hF := kf_nl c10 hF
    refine kw_iconst (pc := 12) (i := 6) (v := 0) rfl rfl ?_
    exact kw_ireturn (pc := 13) (i := 7) (ty := .boolean) rfl rfl rfl ⟨rfl, _, rfl, by omega, by omega, hF⟩
  · replace hF := kf_p c10 hF
    refine kw_iconst (pc := 8) (i := 4) (v := 1) rfl rfl ?_
    refine kw_goto (pc := 9) (i := 5) (tgt := 13) rfl rfl ?_
    exact kw_ireturn (pc := 13) (i := 7) (ty := .boolean) rfl rfl rfl ⟨rfl, _, rfl, by omega, by omega, hF⟩
noncomputable def l_X3_howMany_2_4 (S : kw_S) : Nat → Int32 → Int32 → Int32
  | 0, _, _ => 0
  | n + 1, x1, x2 => if x2.toInt < (4 : Int32).toInt then (kf_l (S.1 15 x2.toNatClampNeg) fun z1 => if z1.toInt < 0 then (kf_l (x2 + Int32.ofInt 1) fun z2 => l_X3_howMany_2_4 S n x1 z2) else (kf_l (x1 + Int32.ofInt 1) fun z3 => kf_l (x2 + Int32.ofInt 1) fun z4 => l_X3_howMany_2_4 S n z3 z4)) else (x1)
theorem l_X3_howMany_2_4_s (S : kw_S) (n : Nat) (x1 : Int32) (x2 : Int32) : l_X3_howMany_2_4 S (n + 1) x1 x2 = if x2.toInt < (4 : Int32).toInt then (kf_l (S.1 15 x2.toNatClampNeg) fun z1 => if z1.toInt < 0 then (kf_l (x2 + Int32.ofInt 1) fun z2 => l_X3_howMany_2_4 S n x1 z2) else (kf_l (x1 + Int32.ofInt 1) fun z3 => kf_l (x2 + Int32.ofInt 1) fun z4 => l_X3_howMany_2_4 S n z3 z4)) else (x1) := rfl
noncomputable def f_X3_howMany_2 (σ : kw_S)  : Int32 := l_X3_howMany_2_4 σ ((10 - (0 : Int32).toInt).toNat + 1) (0 : Int32) (0 : Int32)
theorem f_X3_howMany_2_u (σ : kw_S)  : f_X3_howMany_2 σ  = l_X3_howMany_2_4 σ ((10 - (0 : Int32).toInt).toNat + 1) (0 : Int32) (0 : Int32) := rfl
abbrev p_X3_howMany_2 (σ : kw_S)  : Option Value → kw_S → Prop := fun vv σ' => σ' = σ ∧ ∃ r : Int32, vv = some (.int r) ∧ r = f_X3_howMany_2 σ
set_option maxRecDepth 100000 in
set_option maxHeartbeats 4000000 in
theorem c_X3_howMany_2 (l : Launch) (σ : kw_S) (hI : kw_I bX σ)  : kw_Met l 1 KX mX3_howMany [.ref 2] σ (p_X3_howMany_2 σ) := by
  have hF := (f_X3_howMany_2_u σ).symm
  have q_0 : (0 : Int32).toInt = 0 := rfl
  have q_4 : (4 : Int32).toInt = 4 := rfl
  refine kw_Met.of (by decide) rfl tX3_howMany (Nat.le_of_ble_eq_true rfl) ?_
  show kw_AW l 1 kw_E0 KX mX3_howMany (p_X3_howMany_2 σ) 0 [(0, .ref 2)] [] σ
  refine kw_iconst (pc := 0) (i := 0) (v := 0) rfl rfl ?_
  refine kw_istore_n (pc := 1) (i := 1) (n := 1) (lv' := [(1, .int 0), (0, .ref 2)]) rfl rfl (by decide) rfl ?_
  refine kw_iconst (pc := 2) (i := 2) (v := 0) rfl rfl ?_
  refine kw_istore_n (pc := 3) (i := 3) (n := 2) (lv' := [(2, .int 0), (1, .int 0), (0, .ref 2)]) rfl rfl (by decide) rfl ?_
  have L3 : ∀ (n7 : Nat) (x1 : Int32) (x2 : Int32), 0 ≤ x1.toInt → l_X3_howMany_2_4 σ n7 x2 x1 = (f_X3_howMany_2 σ) → (10 - x1.toInt).toNat < n7 → kw_AW l 1 kw_E0 KX mX3_howMany (p_X3_howMany_2 σ) 4 [(2, .int x1), (1, .int x2), (0, .ref 2)] [] σ := by
    intro n7
    induction n7 with
    | zero => intro x1 x2 v5 hF m6; exact absurd m6 (Nat.not_lt_zero _)
    | succ n7 ih4 =>
      intro x1 x2 v5 hF m6
      replace hF := kf_st (l_X3_howMany_2_4_s _ _ _ _) hF
      have r_x1 := kw_rng x1
      have r_x2 := kw_rng x2
      refine kw_iload_n (pc := 4) (i := 4) (k := 0) (n := 2) rfl rfl rfl ?_
      refine kw_aload_n (pc := 5) (i := 5) (k := 2) (n := 0) rfl rfl rfl ?_
      refine kw_get (pc := 6) (i := 6) (v := .ref 15) rfl rfl rfl lkX3_20 (fun _ => rfl) ?_
      refine kw_alen (pc := 9) (i := 7) (n := 4) (v := 4) rfl rfl rfl ?_
      refine kw_icmp_ge (pc := 10) (i := 8) (tgt := 31) rfl rfl (fun c8 => ?_) (fun c8 => ?_)
      · replace hF := kf_nl c8 hF
        refine kw_iload_n (pc := 31) (i := 17) (k := 1) (n := 1) rfl rfl rfl ?_
        exact kw_ireturn (pc := 32) (i := 18) (ty := .int) rfl rfl rfl ⟨rfl, _, rfl, hF⟩
      · replace hF := kf_p c8 hF
        refine kw_aload_n (pc := 13) (i := 9) (k := 2) (n := 0) rfl rfl rfl ?_
        refine kw_get (pc := 14) (i := 10) (v := .ref 15) rfl rfl rfl lkX3_20 (fun _ => rfl) ?_
        refine kw_iload_n (pc := 17) (i := 11) (k := 0) (n := 2) rfl rfl rfl ?_
        refine kw_iald (pc := 18) (i := 12) (n := 4) rfl rfl (by omega) (by omega) (fun z9 e_z9 => ?_)
        replace hF := kf_le e_z9 hF
        have t_z9 := congrArg Int32.toInt e_z9
        have b_z9 : -1 ≤ z9.toInt ∧ z9.toInt ≤ 60 := by rw [e_z9]; exact hI 15 _
        refine kw_if_lt (pc := 19) (i := 13) (tgt := 25) rfl rfl (fun c10 => ?_) (fun c10 => ?_)
        · replace hF := kf_p c10 hF
          refine kw_iinc' (pc := 25) (i := 15) (k := 0) (fun z => [(2, .int z), (1, .int x2), (0, .ref 2)]) rfl rfl (by decide) rfl (fun _ => rfl) (fun z11 e_z11 t_z11 => ?_)
          replace hF := kf_le e_z11 hF
          refine kw_goto (pc := 28) (i := 16) (tgt := 4) rfl rfl ?_
          refine kw_sub (lv' := [(2, .int z11), (1, .int x2), (0, .ref 2)]) [0, 1, 2] rfl ?_
          exact ih4 z11 x2 (by omega) hF (by omega)
        · replace hF := kf_nl c10 hF
          refine kw_iinc' (pc := 22) (i := 14) (k := 1) (fun z => [(1, .int z), (2, .int x1), (0, .ref 2)]) rfl rfl (by decide) rfl (fun _ => rfl) (fun z12 e_z12 t_z12 => ?_)
          replace hF := kf_le e_z12 hF
          refine kw_iinc' (pc := 25) (i := 15) (k := 1) (fun z => [(2, .int z), (1, .int z12), (0, .ref 2)]) rfl rfl (by decide) rfl (fun _ => rfl) (fun z13 e_z13 t_z13 => ?_)
          replace hF := kf_le e_z13 hF
          refine kw_goto (pc := 28) (i := 16) (tgt := 4) rfl rfl ?_
          refine kw_sub (lv' := [(2, .int z13), (1, .int z12), (0, .ref 2)]) [0, 1, 2] rfl ?_
          exact ih4 z13 z12 (by omega) hF (by omega)
  exact L3 _ 0 0 (by omega) hF (Nat.lt_succ_self _)
noncomputable def f_X3_hasPlaces_2 (σ : kw_S) (k : Int32) (f : Int32) (n : Int32) : Int32 := kf_l (f_X3_has_2 σ k) fun z1 => if z1.toInt = 0 then ((0 : Int32)) else (if f.toInt < 0 then ((0 : Int32)) else (if n.toInt < 0 then ((0 : Int32)) else (kf_l (σ.1 15 k.toNatClampNeg) fun z2 => kf_l (z2 - n) fun z3 => if z3.toInt < f.toInt then ((0 : Int32)) else ((1 : Int32)))))
theorem f_X3_hasPlaces_2_u (σ : kw_S) (k : Int32) (f : Int32) (n : Int32) : f_X3_hasPlaces_2 σ k f n = kf_l (f_X3_has_2 σ k) fun z1 => if z1.toInt = 0 then ((0 : Int32)) else (if f.toInt < 0 then ((0 : Int32)) else (if n.toInt < 0 then ((0 : Int32)) else (kf_l (σ.1 15 k.toNatClampNeg) fun z2 => kf_l (z2 - n) fun z3 => if z3.toInt < f.toInt then ((0 : Int32)) else ((1 : Int32))))) := rfl
abbrev p_X3_hasPlaces_2 (σ : kw_S) (k : Int32) (f : Int32) (n : Int32) : Option Value → kw_S → Prop := fun vv σ' => σ' = σ ∧ ∃ r : Int32, vv = some (.int r) ∧ (r.toInt = 0 ∨ r.toInt = 1) ∧ (r.toInt = 0 ∨ 0 ≤ k.toInt ∧ k.toInt < 4 ∧ 0 ≤ f.toInt ∧ 0 ≤ n.toInt ∧ f.toInt + n.toInt ≤ 60) ∧ r = f_X3_hasPlaces_2 σ k f n
set_option maxRecDepth 100000 in
set_option maxHeartbeats 4000000 in
theorem c_X3_hasPlaces_2 (l : Launch) (σ : kw_S) (hI : kw_I bX σ) (k : Int32) (f : Int32) (n : Int32) : kw_Met l 2 KX mX3_hasPlaces [.ref 2, .int k, .int f, .int n] σ (p_X3_hasPlaces_2 σ k f n) := by
  have r_k := kw_rng k
  have r_f := kw_rng f
  have r_n := kw_rng n
  have hF := (f_X3_hasPlaces_2_u σ k f n).symm
  have q_0 : (0 : Int32).toInt = 0 := rfl
  have q_1 : (1 : Int32).toInt = 1 := rfl
  refine kw_Met.of (by decide) rfl tX3_hasPlaces (Nat.le_of_ble_eq_true rfl) ?_
  show kw_AW l 2 kw_E0 KX mX3_hasPlaces (p_X3_hasPlaces_2 σ k f n) 0 [(0, .ref 2), (1, .int k), (2, .int f), (3, .int n)] [] σ
  refine kw_aload_n (pc := 0) (i := 0) (k := 0) (n := 0) rfl rfl rfl ?_
  refine kw_iload_n (pc := 1) (i := 1) (k := 1) (n := 1) rfl rfl rfl ?_
  refine kw_callV (pc := 2) (i := 2) (Y := mX3_has) (a := 2) (As := [.int k]) (st := []) kw_hE rfl rfl lvX3_34 arX3_has (c_X3_has_2 l σ hI k ) (by decide) (Nat.le_of_ble_eq_true rfl) rfl (fun v S2 p1 => ?_)
  obtain ⟨e8, z7, rfl, f3, f4, f5, ef6⟩ := p1
  rw [e8]
  replace hF := kf_le ef6 hF
  have r_z7 := kw_rng z7
  show kw_AW l 2 kw_E0 KX mX3_hasPlaces (p_X3_hasPlaces_2 σ k f n) 5 [(0, .ref 2), (1, .int k), (2, .int f), (3, .int n)] [.int z7] σ
  refine kw_if_eq (pc := 5) (i := 3) (tgt := 32) rfl rfl (fun c9 => ?_) (fun c9 => ?_)
  · replace hF := kf_p c9 hF
    refine kw_iconst (pc := 32) (i := 18) (v := 0) rfl rfl ?_
    exact kw_ireturn (pc := 33) (i := 19) (ty := .boolean) rfl rfl rfl ⟨rfl, _, rfl, by omega, by omega, hF⟩
  · replace hF := kf_n c9 hF
    refine kw_iload_n (pc := 8) (i := 4) (k := 2) (n := 2) rfl rfl rfl ?_
    refine kw_if_lt (pc := 9) (i := 5) (tgt := 32) rfl rfl (fun c10 => ?_) (fun c10 => ?_)
    · replace hF := kf_p c10 hF
      refine kw_iconst (pc := 32) (i := 18) (v := 0) rfl rfl ?_
      exact kw_ireturn (pc := 33) (i := 19) (ty := .boolean) rfl rfl rfl ⟨rfl, _, rfl, by omega, by omega, hF⟩
    · replace hF := kf_nl c10 hF
      refine kw_iload_n (pc := 12) (i := 6) (k := 3) (n := 3) rfl rfl rfl ?_
      refine kw_if_lt (pc := 13) (i := 7) (tgt := 32) rfl rfl (fun c11 => ?_) (fun c11 => ?_)
      · replace hF := kf_p c11 hF
        refine kw_iconst (pc := 32) (i := 18) (v := 0) rfl rfl ?_
        exact kw_ireturn (pc := 33) (i := 19) (ty := .boolean) rfl rfl rfl ⟨rfl, _, rfl, by omega, by omega, hF⟩
      · replace hF := kf_nl c11 hF
        refine kw_iload_n (pc := 16) (i := 8) (k := 2) (n := 2) rfl rfl rfl ?_
        refine kw_aload_n (pc := 17) (i := 9) (k := 0) (n := 0) rfl rfl rfl ?_
        refine kw_get (pc := 18) (i := 10) (v := .ref 15) rfl rfl rfl lkX3_20 (fun _ => rfl) ?_
        refine kw_iload_n (pc := 21) (i := 11) (k := 1) (n := 1) rfl rfl rfl ?_
        refine kw_iald (pc := 22) (i := 12) (n := 4) rfl rfl (by omega) (by omega) (fun z12 e_z12 => ?_)
        replace hF := kf_le e_z12 hF
        have t_z12 := congrArg Int32.toInt e_z12
        have b_z12 : -1 ≤ z12.toInt ∧ z12.toInt ≤ 60 := by rw [e_z12]; exact hI 15 _
        refine kw_iload_n (pc := 23) (i := 13) (k := 3) (n := 3) rfl rfl rfl ?_
        refine kw_isub (pc := 24) (i := 14) rfl (fun z13 e_z13 t_z13 => ?_)
        replace hF := kf_le e_z13 hF
        refine kw_icmp_gt (pc := 25) (i := 15) (tgt := 32) rfl rfl (fun c14 => ?_) (fun c14 => ?_)
        · replace hF := kf_p c14 hF
          refine kw_iconst (pc := 32) (i := 18) (v := 0) rfl rfl ?_
          exact kw_ireturn (pc := 33) (i := 19) (ty := .boolean) rfl rfl rfl ⟨rfl, _, rfl, by omega, by omega, hF⟩
        · replace hF := kf_nl c14 hF
          refine kw_iconst (pc := 28) (i := 16) (v := 1) rfl rfl ?_
          refine kw_goto (pc := 29) (i := 17) (tgt := 33) rfl rfl ?_
          exact kw_ireturn (pc := 33) (i := 19) (ty := .boolean) rfl rfl rfl ⟨rfl, _, rfl, by omega, by omega, hF⟩
noncomputable def f_X3_has_5 (σ : kw_S) (k : Int32) : Int32 := if k.toInt < 0 then ((0 : Int32)) else (if k.toInt < (3 : Int32).toInt then ((1 : Int32)) else ((0 : Int32)))
theorem f_X3_has_5_u (σ : kw_S) (k : Int32) : f_X3_has_5 σ k = if k.toInt < 0 then ((0 : Int32)) else (if k.toInt < (3 : Int32).toInt then ((1 : Int32)) else ((0 : Int32))) := rfl
abbrev p_X3_has_5 (σ : kw_S) (k : Int32) : Option Value → kw_S → Prop := fun vv σ' => σ' = σ ∧ ∃ r : Int32, vv = some (.int r) ∧ (r.toInt = 0 ∨ r.toInt = 1) ∧ (r.toInt = 0 ∨ 0 ≤ k.toInt ∧ k.toInt < 3) ∧ (r.toInt = 1 ∨ k.toInt < 0 ∨ 3 ≤ k.toInt) ∧ r = f_X3_has_5 σ k
set_option maxRecDepth 100000 in
set_option maxHeartbeats 4000000 in
theorem c_X3_has_5 (l : Launch) (σ : kw_S) (hI : kw_I bX σ) (k : Int32) : kw_Met l 1 KX mX3_has [.ref 5, .int k] σ (p_X3_has_5 σ k) := by
  have r_k := kw_rng k
  have hF := (f_X3_has_5_u σ k).symm
  have q_0 : (0 : Int32).toInt = 0 := rfl
  have q_1 : (1 : Int32).toInt = 1 := rfl
  have q_3 : (3 : Int32).toInt = 3 := rfl
  refine kw_Met.of (by decide) rfl tX3_has (Nat.le_of_ble_eq_true rfl) ?_
  show kw_AW l 1 kw_E0 KX mX3_has (p_X3_has_5 σ k) 0 [(0, .ref 5), (1, .int k)] [] σ
  refine kw_iload_n (pc := 0) (i := 0) (k := 1) (n := 1) rfl rfl rfl ?_
  refine kw_if_lt (pc := 1) (i := 1) (tgt := 17) rfl rfl (fun c1 => ?_) (fun c1 => ?_)
  · replace hF := kf_p c1 hF
    refine kw_iconst (pc := 17) (i := 9) (v := 0) rfl rfl ?_
    exact kw_ireturn (pc := 18) (i := 10) (ty := .boolean) rfl rfl rfl ⟨rfl, _, rfl, by omega, by omega, by omega, hF⟩
  · replace hF := kf_nl c1 hF
    refine kw_iload_n (pc := 4) (i := 2) (k := 1) (n := 1) rfl rfl rfl ?_
    refine kw_aload_n (pc := 5) (i := 3) (k := 0) (n := 0) rfl rfl rfl ?_
    refine kw_get (pc := 6) (i := 4) (v := .ref 21) rfl rfl rfl lkX3_20 (fun _ => rfl) ?_
    refine kw_alen (pc := 9) (i := 5) (n := 3) (v := 3) rfl rfl rfl ?_
    refine kw_icmp_ge (pc := 10) (i := 6) (tgt := 17) rfl rfl (fun c2 => ?_) (fun c2 => ?_)
    · replace hF := kf_nl c2 hF
      refine kw_iconst (pc := 17) (i := 9) (v := 0) rfl rfl ?_
      exact kw_ireturn (pc := 18) (i := 10) (ty := .boolean) rfl rfl rfl ⟨rfl, _, rfl, by omega, by omega, by omega, hF⟩
    · replace hF := kf_p c2 hF
      refine kw_iconst (pc := 13) (i := 7) (v := 1) rfl rfl ?_
      refine kw_goto (pc := 14) (i := 8) (tgt := 18) rfl rfl ?_
      exact kw_ireturn (pc := 18) (i := 10) (ty := .boolean) rfl rfl rfl ⟨rfl, _, rfl, by omega, by omega, by omega, hF⟩
noncomputable def f_X3_sizeOf_5 (σ : kw_S) (k : Int32) : Int32 := kf_l (f_X3_has_5 σ k) fun z1 => if z1.toInt = 0 then (((-1) : Int32)) else (kf_l (σ.1 21 k.toNatClampNeg) fun z2 => z2)
theorem f_X3_sizeOf_5_u (σ : kw_S) (k : Int32) : f_X3_sizeOf_5 σ k = kf_l (f_X3_has_5 σ k) fun z1 => if z1.toInt = 0 then (((-1) : Int32)) else (kf_l (σ.1 21 k.toNatClampNeg) fun z2 => z2) := rfl
abbrev p_X3_sizeOf_5 (σ : kw_S) (k : Int32) : Option Value → kw_S → Prop := fun vv σ' => σ' = σ ∧ ∃ r : Int32, vv = some (.int r) ∧ -1 ≤ r.toInt ∧ r.toInt ≤ 40 ∧ (r.toInt < 0 ∨ 0 ≤ k.toInt ∧ k.toInt < 3) ∧ (0 ≤ k.toInt → k.toInt < 3 → r.toInt = (σ.1 21 k.toNatClampNeg).toInt) ∧ r = f_X3_sizeOf_5 σ k
set_option maxRecDepth 100000 in
set_option maxHeartbeats 4000000 in
theorem c_X3_sizeOf_5 (l : Launch) (σ : kw_S) (hI : kw_I bX σ) (k : Int32) : kw_Met l 2 KX mX3_sizeOf [.ref 5, .int k] σ (p_X3_sizeOf_5 σ k) := by
  have r_k := kw_rng k
  have hF := (f_X3_sizeOf_5_u σ k).symm
  have q_m1 : (-1 : Int32).toInt = -1 := rfl
  refine kw_Met.of (by decide) rfl tX3_sizeOf (Nat.le_of_ble_eq_true rfl) ?_
  show kw_AW l 2 kw_E0 KX mX3_sizeOf (p_X3_sizeOf_5 σ k) 0 [(0, .ref 5), (1, .int k)] [] σ
  refine kw_aload_n (pc := 0) (i := 0) (k := 0) (n := 0) rfl rfl rfl ?_
  refine kw_iload_n (pc := 1) (i := 1) (k := 1) (n := 1) rfl rfl rfl ?_
  refine kw_callV (pc := 2) (i := 2) (Y := mX3_has) (a := 5) (As := [.int k]) (st := []) kw_hE rfl rfl lvX3_34 arX3_has (c_X3_has_5 l σ hI k ) (by decide) (Nat.le_of_ble_eq_true rfl) rfl (fun v S2 p1 => ?_)
  obtain ⟨e8, z7, rfl, f3, f4, f5, ef6⟩ := p1
  rw [e8]
  replace hF := kf_le ef6 hF
  have r_z7 := kw_rng z7
  show kw_AW l 2 kw_E0 KX mX3_sizeOf (p_X3_sizeOf_5 σ k) 5 [(0, .ref 5), (1, .int k)] [.int z7] σ
  refine kw_if_eq (pc := 5) (i := 3) (tgt := 17) rfl rfl (fun c9 => ?_) (fun c9 => ?_)
  · replace hF := kf_p c9 hF
    refine kw_iconst (pc := 17) (i := 9) (v := (-1)) rfl rfl ?_
    exact kw_ireturn (pc := 18) (i := 10) (ty := .int) rfl rfl rfl ⟨rfl, _, rfl, by omega, by omega, by omega, by omega, hF⟩
  · replace hF := kf_n c9 hF
    refine kw_aload_n (pc := 8) (i := 4) (k := 0) (n := 0) rfl rfl rfl ?_
    refine kw_get (pc := 9) (i := 5) (v := .ref 21) rfl rfl rfl lkX3_20 (fun _ => rfl) ?_
    refine kw_iload_n (pc := 12) (i := 6) (k := 1) (n := 1) rfl rfl rfl ?_
    refine kw_iald (pc := 13) (i := 7) (n := 3) rfl rfl (by omega) (by omega) (fun z10 e_z10 => ?_)
    replace hF := kf_le e_z10 hF
    have t_z10 := congrArg Int32.toInt e_z10
    have b_z10 : -1 ≤ z10.toInt ∧ z10.toInt ≤ 40 := by rw [e_z10]; exact hI 21 _
    refine kw_goto (pc := 14) (i := 8) (tgt := 18) rfl rfl ?_
    exact kw_ireturn (pc := 18) (i := 10) (ty := .int) rfl rfl rfl ⟨rfl, _, rfl, by omega, by omega, by omega, by omega, hF⟩
noncomputable def f_X3_isMissing_5 (σ : kw_S) (k : Int32) : Int32 := kf_l (f_X3_sizeOf_5 σ k) fun z1 => if z1.toInt < 0 then ((1 : Int32)) else ((0 : Int32))
theorem f_X3_isMissing_5_u (σ : kw_S) (k : Int32) : f_X3_isMissing_5 σ k = kf_l (f_X3_sizeOf_5 σ k) fun z1 => if z1.toInt < 0 then ((1 : Int32)) else ((0 : Int32)) := rfl
abbrev p_X3_isMissing_5 (σ : kw_S) (k : Int32) : Option Value → kw_S → Prop := fun vv σ' => σ' = σ ∧ ∃ r : Int32, vv = some (.int r) ∧ (r.toInt = 0 ∨ r.toInt = 1) ∧ (r.toInt = 1 ∨ 0 ≤ k.toInt ∧ k.toInt < 3) ∧ r = f_X3_isMissing_5 σ k
set_option maxRecDepth 100000 in
set_option maxHeartbeats 4000000 in
theorem c_X3_isMissing_5 (l : Launch) (σ : kw_S) (hI : kw_I bX σ) (k : Int32) : kw_Met l 3 KX mX3_isMissing [.ref 5, .int k] σ (p_X3_isMissing_5 σ k) := by
  have r_k := kw_rng k
  have hF := (f_X3_isMissing_5_u σ k).symm
  have q_0 : (0 : Int32).toInt = 0 := rfl
  have q_1 : (1 : Int32).toInt = 1 := rfl
  refine kw_Met.of (by decide) rfl tX3_isMissing (Nat.le_of_ble_eq_true rfl) ?_
  show kw_AW l 3 kw_E0 KX mX3_isMissing (p_X3_isMissing_5 σ k) 0 [(0, .ref 5), (1, .int k)] [] σ
  refine kw_aload_n (pc := 0) (i := 0) (k := 0) (n := 0) rfl rfl rfl ?_
  refine kw_iload_n (pc := 1) (i := 1) (k := 1) (n := 1) rfl rfl rfl ?_
  refine kw_callV (pc := 2) (i := 2) (Y := mX3_sizeOf) (a := 5) (As := [.int k]) (st := []) kw_hE rfl rfl lvX3_30 arX3_sizeOf (c_X3_sizeOf_5 l σ hI k ) (by decide) (Nat.le_of_ble_eq_true rfl) rfl (fun v S2 p1 => ?_)
  obtain ⟨e9, z8, rfl, f3, f4, f5, f6, ef7⟩ := p1
  rw [e9]
  replace hF := kf_le ef7 hF
  have r_z8 := kw_rng z8
  show kw_AW l 3 kw_E0 KX mX3_isMissing (p_X3_isMissing_5 σ k) 5 [(0, .ref 5), (1, .int k)] [.int z8] σ
  refine kw_if_ge (pc := 5) (i := 3) (tgt := 12) rfl rfl (fun c10 => ?_) (fun c10 => ?_)
  · replace hF := kf_nl c10 hF
    refine kw_iconst (pc := 12) (i := 6) (v := 0) rfl rfl ?_
    exact kw_ireturn (pc := 13) (i := 7) (ty := .boolean) rfl rfl rfl ⟨rfl, _, rfl, by omega, by omega, hF⟩
  · replace hF := kf_p c10 hF
    refine kw_iconst (pc := 8) (i := 4) (v := 1) rfl rfl ?_
    refine kw_goto (pc := 9) (i := 5) (tgt := 13) rfl rfl ?_
    exact kw_ireturn (pc := 13) (i := 7) (ty := .boolean) rfl rfl rfl ⟨rfl, _, rfl, by omega, by omega, hF⟩
noncomputable def l_X3_howMany_5_4 (S : kw_S) : Nat → Int32 → Int32 → Int32
  | 0, _, _ => 0
  | n + 1, x1, x2 => if x2.toInt < (3 : Int32).toInt then (kf_l (S.1 21 x2.toNatClampNeg) fun z1 => if z1.toInt < 0 then (kf_l (x2 + Int32.ofInt 1) fun z2 => l_X3_howMany_5_4 S n x1 z2) else (kf_l (x1 + Int32.ofInt 1) fun z3 => kf_l (x2 + Int32.ofInt 1) fun z4 => l_X3_howMany_5_4 S n z3 z4)) else (x1)
theorem l_X3_howMany_5_4_s (S : kw_S) (n : Nat) (x1 : Int32) (x2 : Int32) : l_X3_howMany_5_4 S (n + 1) x1 x2 = if x2.toInt < (3 : Int32).toInt then (kf_l (S.1 21 x2.toNatClampNeg) fun z1 => if z1.toInt < 0 then (kf_l (x2 + Int32.ofInt 1) fun z2 => l_X3_howMany_5_4 S n x1 z2) else (kf_l (x1 + Int32.ofInt 1) fun z3 => kf_l (x2 + Int32.ofInt 1) fun z4 => l_X3_howMany_5_4 S n z3 z4)) else (x1) := rfl
noncomputable def f_X3_howMany_5 (σ : kw_S)  : Int32 := l_X3_howMany_5_4 σ ((10 - (0 : Int32).toInt).toNat + 1) (0 : Int32) (0 : Int32)
theorem f_X3_howMany_5_u (σ : kw_S)  : f_X3_howMany_5 σ  = l_X3_howMany_5_4 σ ((10 - (0 : Int32).toInt).toNat + 1) (0 : Int32) (0 : Int32) := rfl
abbrev p_X3_howMany_5 (σ : kw_S)  : Option Value → kw_S → Prop := fun vv σ' => σ' = σ ∧ ∃ r : Int32, vv = some (.int r) ∧ r = f_X3_howMany_5 σ
set_option maxRecDepth 100000 in
set_option maxHeartbeats 4000000 in
theorem c_X3_howMany_5 (l : Launch) (σ : kw_S) (hI : kw_I bX σ)  : kw_Met l 1 KX mX3_howMany [.ref 5] σ (p_X3_howMany_5 σ) := by
  have hF := (f_X3_howMany_5_u σ).symm
  have q_0 : (0 : Int32).toInt = 0 := rfl
  have q_3 : (3 : Int32).toInt = 3 := rfl
  refine kw_Met.of (by decide) rfl tX3_howMany (Nat.le_of_ble_eq_true rfl) ?_
  show kw_AW l 1 kw_E0 KX mX3_howMany (p_X3_howMany_5 σ) 0 [(0, .ref 5)] [] σ
  refine kw_iconst (pc := 0) (i := 0) (v := 0) rfl rfl ?_
  refine kw_istore_n (pc := 1) (i := 1) (n := 1) (lv' := [(1, .int 0), (0, .ref 5)]) rfl rfl (by decide) rfl ?_
  refine kw_iconst (pc := 2) (i := 2) (v := 0) rfl rfl ?_
  refine kw_istore_n (pc := 3) (i := 3) (n := 2) (lv' := [(2, .int 0), (1, .int 0), (0, .ref 5)]) rfl rfl (by decide) rfl ?_
  have L3 : ∀ (n7 : Nat) (x1 : Int32) (x2 : Int32), 0 ≤ x1.toInt → l_X3_howMany_5_4 σ n7 x2 x1 = (f_X3_howMany_5 σ) → (10 - x1.toInt).toNat < n7 → kw_AW l 1 kw_E0 KX mX3_howMany (p_X3_howMany_5 σ) 4 [(2, .int x1), (1, .int x2), (0, .ref 5)] [] σ := by
    intro n7
    induction n7 with
    | zero => intro x1 x2 v5 hF m6; exact absurd m6 (Nat.not_lt_zero _)
    | succ n7 ih4 =>
      intro x1 x2 v5 hF m6
      replace hF := kf_st (l_X3_howMany_5_4_s _ _ _ _) hF
      have r_x1 := kw_rng x1
      have r_x2 := kw_rng x2
      refine kw_iload_n (pc := 4) (i := 4) (k := 0) (n := 2) rfl rfl rfl ?_
      refine kw_aload_n (pc := 5) (i := 5) (k := 2) (n := 0) rfl rfl rfl ?_
      refine kw_get (pc := 6) (i := 6) (v := .ref 21) rfl rfl rfl lkX3_20 (fun _ => rfl) ?_
      refine kw_alen (pc := 9) (i := 7) (n := 3) (v := 3) rfl rfl rfl ?_
      refine kw_icmp_ge (pc := 10) (i := 8) (tgt := 31) rfl rfl (fun c8 => ?_) (fun c8 => ?_)
      · replace hF := kf_nl c8 hF
        refine kw_iload_n (pc := 31) (i := 17) (k := 1) (n := 1) rfl rfl rfl ?_
        exact kw_ireturn (pc := 32) (i := 18) (ty := .int) rfl rfl rfl ⟨rfl, _, rfl, hF⟩
      · replace hF := kf_p c8 hF
        refine kw_aload_n (pc := 13) (i := 9) (k := 2) (n := 0) rfl rfl rfl ?_
        refine kw_get (pc := 14) (i := 10) (v := .ref 21) rfl rfl rfl lkX3_20 (fun _ => rfl) ?_
        refine kw_iload_n (pc := 17) (i := 11) (k := 0) (n := 2) rfl rfl rfl ?_
        refine kw_iald (pc := 18) (i := 12) (n := 3) rfl rfl (by omega) (by omega) (fun z9 e_z9 => ?_)
        replace hF := kf_le e_z9 hF
        have t_z9 := congrArg Int32.toInt e_z9
        have b_z9 : -1 ≤ z9.toInt ∧ z9.toInt ≤ 40 := by rw [e_z9]; exact hI 21 _
        refine kw_if_lt (pc := 19) (i := 13) (tgt := 25) rfl rfl (fun c10 => ?_) (fun c10 => ?_)
        · replace hF := kf_p c10 hF
          refine kw_iinc' (pc := 25) (i := 15) (k := 0) (fun z => [(2, .int z), (1, .int x2), (0, .ref 5)]) rfl rfl (by decide) rfl (fun _ => rfl) (fun z11 e_z11 t_z11 => ?_)
          replace hF := kf_le e_z11 hF
          refine kw_goto (pc := 28) (i := 16) (tgt := 4) rfl rfl ?_
          refine kw_sub (lv' := [(2, .int z11), (1, .int x2), (0, .ref 5)]) [0, 1, 2] rfl ?_
          exact ih4 z11 x2 (by omega) hF (by omega)
        · replace hF := kf_nl c10 hF
          refine kw_iinc' (pc := 22) (i := 14) (k := 1) (fun z => [(1, .int z), (2, .int x1), (0, .ref 5)]) rfl rfl (by decide) rfl (fun _ => rfl) (fun z12 e_z12 t_z12 => ?_)
          replace hF := kf_le e_z12 hF
          refine kw_iinc' (pc := 25) (i := 15) (k := 1) (fun z => [(2, .int z), (1, .int z12), (0, .ref 5)]) rfl rfl (by decide) rfl (fun _ => rfl) (fun z13 e_z13 t_z13 => ?_)
          replace hF := kf_le e_z13 hF
          refine kw_goto (pc := 28) (i := 16) (tgt := 4) rfl rfl ?_
          refine kw_sub (lv' := [(2, .int z13), (1, .int z12), (0, .ref 5)]) [0, 1, 2] rfl ?_
          exact ih4 z13 z12 (by omega) hF (by omega)
  exact L3 _ 0 0 (by omega) hF (Nat.lt_succ_self _)
noncomputable def f_X3_hasPlaces_5 (σ : kw_S) (k : Int32) (f : Int32) (n : Int32) : Int32 := kf_l (f_X3_has_5 σ k) fun z1 => if z1.toInt = 0 then ((0 : Int32)) else (if f.toInt < 0 then ((0 : Int32)) else (if n.toInt < 0 then ((0 : Int32)) else (kf_l (σ.1 21 k.toNatClampNeg) fun z2 => kf_l (z2 - n) fun z3 => if z3.toInt < f.toInt then ((0 : Int32)) else ((1 : Int32)))))
theorem f_X3_hasPlaces_5_u (σ : kw_S) (k : Int32) (f : Int32) (n : Int32) : f_X3_hasPlaces_5 σ k f n = kf_l (f_X3_has_5 σ k) fun z1 => if z1.toInt = 0 then ((0 : Int32)) else (if f.toInt < 0 then ((0 : Int32)) else (if n.toInt < 0 then ((0 : Int32)) else (kf_l (σ.1 21 k.toNatClampNeg) fun z2 => kf_l (z2 - n) fun z3 => if z3.toInt < f.toInt then ((0 : Int32)) else ((1 : Int32))))) := rfl
abbrev p_X3_hasPlaces_5 (σ : kw_S) (k : Int32) (f : Int32) (n : Int32) : Option Value → kw_S → Prop := fun vv σ' => σ' = σ ∧ ∃ r : Int32, vv = some (.int r) ∧ (r.toInt = 0 ∨ r.toInt = 1) ∧ (r.toInt = 0 ∨ 0 ≤ k.toInt ∧ k.toInt < 3 ∧ 0 ≤ f.toInt ∧ 0 ≤ n.toInt ∧ f.toInt + n.toInt ≤ 40) ∧ r = f_X3_hasPlaces_5 σ k f n
set_option maxRecDepth 100000 in
set_option maxHeartbeats 4000000 in
theorem c_X3_hasPlaces_5 (l : Launch) (σ : kw_S) (hI : kw_I bX σ) (k : Int32) (f : Int32) (n : Int32) : kw_Met l 2 KX mX3_hasPlaces [.ref 5, .int k, .int f, .int n] σ (p_X3_hasPlaces_5 σ k f n) := by
  have r_k := kw_rng k
  have r_f := kw_rng f
  have r_n := kw_rng n
  have hF := (f_X3_hasPlaces_5_u σ k f n).symm
  have q_0 : (0 : Int32).toInt = 0 := rfl
  have q_1 : (1 : Int32).toInt = 1 := rfl
  refine kw_Met.of (by decide) rfl tX3_hasPlaces (Nat.le_of_ble_eq_true rfl) ?_
  show kw_AW l 2 kw_E0 KX mX3_hasPlaces (p_X3_hasPlaces_5 σ k f n) 0 [(0, .ref 5), (1, .int k), (2, .int f), (3, .int n)] [] σ
  refine kw_aload_n (pc := 0) (i := 0) (k := 0) (n := 0) rfl rfl rfl ?_
  refine kw_iload_n (pc := 1) (i := 1) (k := 1) (n := 1) rfl rfl rfl ?_
  refine kw_callV (pc := 2) (i := 2) (Y := mX3_has) (a := 5) (As := [.int k]) (st := []) kw_hE rfl rfl lvX3_34 arX3_has (c_X3_has_5 l σ hI k ) (by decide) (Nat.le_of_ble_eq_true rfl) rfl (fun v S2 p1 => ?_)
  obtain ⟨e8, z7, rfl, f3, f4, f5, ef6⟩ := p1
  rw [e8]
  replace hF := kf_le ef6 hF
  have r_z7 := kw_rng z7
  show kw_AW l 2 kw_E0 KX mX3_hasPlaces (p_X3_hasPlaces_5 σ k f n) 5 [(0, .ref 5), (1, .int k), (2, .int f), (3, .int n)] [.int z7] σ
  refine kw_if_eq (pc := 5) (i := 3) (tgt := 32) rfl rfl (fun c9 => ?_) (fun c9 => ?_)
  · replace hF := kf_p c9 hF
    refine kw_iconst (pc := 32) (i := 18) (v := 0) rfl rfl ?_
    exact kw_ireturn (pc := 33) (i := 19) (ty := .boolean) rfl rfl rfl ⟨rfl, _, rfl, by omega, by omega, hF⟩
  · replace hF := kf_n c9 hF
    refine kw_iload_n (pc := 8) (i := 4) (k := 2) (n := 2) rfl rfl rfl ?_
    refine kw_if_lt (pc := 9) (i := 5) (tgt := 32) rfl rfl (fun c10 => ?_) (fun c10 => ?_)
    · replace hF := kf_p c10 hF
      refine kw_iconst (pc := 32) (i := 18) (v := 0) rfl rfl ?_
      exact kw_ireturn (pc := 33) (i := 19) (ty := .boolean) rfl rfl rfl ⟨rfl, _, rfl, by omega, by omega, hF⟩
    · replace hF := kf_nl c10 hF
      refine kw_iload_n (pc := 12) (i := 6) (k := 3) (n := 3) rfl rfl rfl ?_
      refine kw_if_lt (pc := 13) (i := 7) (tgt := 32) rfl rfl (fun c11 => ?_) (fun c11 => ?_)
      · replace hF := kf_p c11 hF
        refine kw_iconst (pc := 32) (i := 18) (v := 0) rfl rfl ?_
        exact kw_ireturn (pc := 33) (i := 19) (ty := .boolean) rfl rfl rfl ⟨rfl, _, rfl, by omega, by omega, hF⟩
      · replace hF := kf_nl c11 hF
        refine kw_iload_n (pc := 16) (i := 8) (k := 2) (n := 2) rfl rfl rfl ?_
        refine kw_aload_n (pc := 17) (i := 9) (k := 0) (n := 0) rfl rfl rfl ?_
        refine kw_get (pc := 18) (i := 10) (v := .ref 21) rfl rfl rfl lkX3_20 (fun _ => rfl) ?_
        refine kw_iload_n (pc := 21) (i := 11) (k := 1) (n := 1) rfl rfl rfl ?_
        refine kw_iald (pc := 22) (i := 12) (n := 3) rfl rfl (by omega) (by omega) (fun z12 e_z12 => ?_)
        replace hF := kf_le e_z12 hF
        have t_z12 := congrArg Int32.toInt e_z12
        have b_z12 : -1 ≤ z12.toInt ∧ z12.toInt ≤ 40 := by rw [e_z12]; exact hI 21 _
        refine kw_iload_n (pc := 23) (i := 13) (k := 3) (n := 3) rfl rfl rfl ?_
        refine kw_isub (pc := 24) (i := 14) rfl (fun z13 e_z13 t_z13 => ?_)
        replace hF := kf_le e_z13 hF
        refine kw_icmp_gt (pc := 25) (i := 15) (tgt := 32) rfl rfl (fun c14 => ?_) (fun c14 => ?_)
        · replace hF := kf_p c14 hF
          refine kw_iconst (pc := 32) (i := 18) (v := 0) rfl rfl ?_
          exact kw_ireturn (pc := 33) (i := 19) (ty := .boolean) rfl rfl rfl ⟨rfl, _, rfl, by omega, by omega, hF⟩
        · replace hF := kf_nl c14 hF
          refine kw_iconst (pc := 28) (i := 16) (v := 1) rfl rfl ?_
          refine kw_goto (pc := 29) (i := 17) (tgt := 33) rfl rfl ?_
          exact kw_ireturn (pc := 33) (i := 19) (ty := .boolean) rfl rfl rfl ⟨rfl, _, rfl, by omega, by omega, hF⟩
