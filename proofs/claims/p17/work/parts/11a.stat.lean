noncomputable def f_X7_pull (σ : kw_S) (kind : Int32) (area : Int32) (w : Int32) : Int32 := kf_l (area * w) fun z1 => kf_l (z1 + w) fun z2 => if kind.toInt = 1 then (z2) else if kind.toInt = 2 then (if w.toInt < (3 : Int32).toInt then ((0 : Int32)) else (z1)) else if kind.toInt = 3 then (kf_l (-z1) fun z3 => z3) else if kind.toInt = 4 then (kf_l ((2 : Int32) * z2) fun z4 => z4) else if kind.toInt = 5 then (kf_l ((2 : Int32) * z2) fun z5 => kf_l (z5 / (3 : Int32)) fun z6 => z6) else (z1)
theorem f_X7_pull_u (σ : kw_S) (kind : Int32) (area : Int32) (w : Int32) : f_X7_pull σ kind area w = kf_l (area * w) fun z1 => kf_l (z1 + w) fun z2 => if kind.toInt = 1 then (z2) else if kind.toInt = 2 then (if w.toInt < (3 : Int32).toInt then ((0 : Int32)) else (z1)) else if kind.toInt = 3 then (kf_l (-z1) fun z3 => z3) else if kind.toInt = 4 then (kf_l ((2 : Int32) * z2) fun z4 => z4) else if kind.toInt = 5 then (kf_l ((2 : Int32) * z2) fun z5 => kf_l (z5 / (3 : Int32)) fun z6 => z6) else (z1) := rfl
abbrev p_X7_pull (σ : kw_S) (kind : Int32) (area : Int32) (w : Int32) : Option Value → kw_S → Prop := fun vv σ' => σ' = σ ∧ ∃ r : Int32, vv = some (.int r) ∧ r = f_X7_pull σ kind area w
set_option maxRecDepth 100000 in
set_option maxHeartbeats 4000000 in
theorem c_X7_pull (l : Launch) (σ : kw_S) (hI : kw_I bX σ) (kind : Int32) (area : Int32) (w : Int32) : kw_Met l 1 KX mX7_pull [.int kind, .int area, .int w] σ (p_X7_pull σ kind area w) := by
  have r_kind := kw_rng kind
  have r_area := kw_rng area
  have r_w := kw_rng w
  have hF := (f_X7_pull_u σ kind area w).symm
  have q_0 : (0 : Int32).toInt = 0 := rfl
  have q_2 : (2 : Int32).toInt = 2 := rfl
  have q_3 : (3 : Int32).toInt = 3 := rfl
  refine kw_Met.of (by decide) rfl tX7_pull (Nat.le_of_ble_eq_true rfl) ?_
  show kw_AW l 1 kw_E0 KX mX7_pull (p_X7_pull σ kind area w) 0 [(0, .int kind), (1, .int area), (2, .int w)] [] σ
  refine kw_iload_n (pc := 0) (i := 0) (k := 1) (n := 1) rfl rfl rfl ?_
  refine kw_iload_n (pc := 1) (i := 1) (k := 2) (n := 2) rfl rfl rfl ?_
  refine kw_imul (pc := 2) (i := 2) rfl (fun z1 e_z1 t_z1 => ?_)
  replace hF := kf_le e_z1 hF
  refine kw_istore_n (pc := 3) (i := 3) (n := 3) (lv' := [(3, .int z1), (0, .int kind), (1, .int area), (2, .int w)]) rfl rfl (by decide) rfl ?_
  refine kw_iload_n (pc := 4) (i := 4) (k := 0) (n := 3) rfl rfl rfl ?_
  refine kw_iload_n (pc := 5) (i := 5) (k := 3) (n := 2) rfl rfl rfl ?_
  refine kw_iadd (pc := 6) (i := 6) rfl (fun z2 e_z2 t_z2 => ?_)
  replace hF := kf_le e_z2 hF
  refine kw_istore (pc := 7) (i := 7) (n := 4) (lv' := [(4, .int z2), (3, .int z1), (0, .int kind), (1, .int area), (2, .int w)]) rfl (by decide) rfl ?_
  refine kw_iload_n (pc := 9) (i := 8) (k := 2) (n := 0) rfl rfl rfl ?_
  by_cases c3 : kind.toInt = 1
  · refine kw_tableIn (pc := 10) (i := 9) (k := 0) (tgt := 44) rfl (by omega) (by decide) rfl rfl ?_
    replace hF := kf_p c3 hF
    refine kw_iload (pc := 44) (i := 10) (k := 0) (n := 4) rfl rfl ?_
    exact kw_ireturn (pc := 46) (i := 11) (ty := .int) rfl rfl rfl ⟨rfl, _, rfl, hF⟩
  replace hF := kf_n c3 hF
  by_cases c4 : kind.toInt = 2
  · refine kw_tableIn (pc := 10) (i := 9) (k := 1) (tgt := 47) rfl (by omega) (by decide) rfl rfl ?_
    replace hF := kf_p c4 hF
    refine kw_iload_n (pc := 47) (i := 12) (k := 4) (n := 2) rfl rfl rfl ?_
    refine kw_iconst (pc := 48) (i := 13) (v := 3) rfl rfl ?_
    refine kw_icmp_lt (pc := 49) (i := 14) (tgt := 56) rfl rfl (fun c5 => ?_) (fun c5 => ?_)
    · replace hF := kf_p c5 hF
      refine kw_iconst (pc := 56) (i := 17) (v := 0) rfl rfl ?_
      exact kw_ireturn (pc := 57) (i := 18) (ty := .int) rfl rfl rfl ⟨rfl, _, rfl, hF⟩
    · replace hF := kf_nl c5 hF
      refine kw_iload_n (pc := 52) (i := 15) (k := 1) (n := 3) rfl rfl rfl ?_
      refine kw_goto (pc := 53) (i := 16) (tgt := 57) rfl rfl ?_
      exact kw_ireturn (pc := 57) (i := 18) (ty := .int) rfl rfl rfl ⟨rfl, _, rfl, hF⟩
  replace hF := kf_n c4 hF
  by_cases c6 : kind.toInt = 3
  · refine kw_tableIn (pc := 10) (i := 9) (k := 2) (tgt := 58) rfl (by omega) (by decide) rfl rfl ?_
    replace hF := kf_p c6 hF
    refine kw_iload_n (pc := 58) (i := 19) (k := 1) (n := 3) rfl rfl rfl ?_
    refine kw_ineg (pc := 59) (i := 20) rfl (fun z7 e_z7 t_z7 => ?_)
    replace hF := kf_le e_z7 hF
    exact kw_ireturn (pc := 60) (i := 21) (ty := .int) rfl rfl rfl ⟨rfl, _, rfl, hF⟩
  replace hF := kf_n c6 hF
  by_cases c8 : kind.toInt = 4
  · refine kw_tableIn (pc := 10) (i := 9) (k := 3) (tgt := 61) rfl (by omega) (by decide) rfl rfl ?_
    replace hF := kf_p c8 hF
    refine kw_iconst (pc := 61) (i := 22) (v := 2) rfl rfl ?_
    refine kw_iload (pc := 62) (i := 23) (k := 0) (n := 4) rfl rfl ?_
    refine kw_imul (pc := 64) (i := 24) rfl (fun z9 e_z9 t_z9 => ?_)
    replace hF := kf_le e_z9 hF
    rw [show (2 : Int32).toInt = 2 from rfl] at t_z9
    exact kw_ireturn (pc := 65) (i := 25) (ty := .int) rfl rfl rfl ⟨rfl, _, rfl, hF⟩
  replace hF := kf_n c8 hF
  by_cases c10 : kind.toInt = 5
  · refine kw_tableIn (pc := 10) (i := 9) (k := 4) (tgt := 66) rfl (by omega) (by decide) rfl rfl ?_
    replace hF := kf_p c10 hF
    refine kw_iconst (pc := 66) (i := 26) (v := 2) rfl rfl ?_
    refine kw_iload (pc := 67) (i := 27) (k := 0) (n := 4) rfl rfl ?_
    refine kw_imul (pc := 69) (i := 28) rfl (fun z11 e_z11 t_z11 => ?_)
    replace hF := kf_le e_z11 hF
    rw [show (2 : Int32).toInt = 2 from rfl] at t_z11
    refine kw_iconst (pc := 70) (i := 29) (v := 3) rfl rfl ?_
    refine kw_idiv (pc := 71) (i := 30) rfl (by omega) (fun z12 e_z12 => ?_)
    have r_z12 := kw_rng z12
    replace hF := kf_le e_z12 hF
    exact kw_ireturn (pc := 72) (i := 31) (ty := .int) rfl rfl rfl ⟨rfl, _, rfl, hF⟩
  replace hF := kf_n c10 hF
  refine kw_tableOut (pc := 10) (i := 9) (tgt := 73) rfl (by omega) rfl ?_
  refine kw_iload_n (pc := 73) (i := 32) (k := 1) (n := 3) rfl rfl rfl ?_
  exact kw_ireturn (pc := 74) (i := 33) (ty := .int) rfl rfl rfl ⟨rfl, _, rfl, hF⟩
noncomputable def l_X7_isA_4 (a0 : Int32) (a1 : Int32) (S : kw_S) : Nat → Int32 → Int32 → Int32
  | 0, _, _ => 0
  | n + 1, x2, x3 => if x3.toInt < (6 : Int32).toInt then (if x2.toInt < 0 then ((0 : Int32)) else (if x2.toInt < (6 : Int32).toInt then (if x2.toInt = a1.toInt then ((1 : Int32)) else (kf_l (kw_KA x2.toNatClampNeg) fun z1 => kf_l (x3 + Int32.ofInt 1) fun z2 => l_X7_isA_4 a0 a1 S n z1 z2)) else ((0 : Int32)))) else ((0 : Int32))
theorem l_X7_isA_4_s (a0 : Int32) (a1 : Int32) (S : kw_S) (n : Nat) (x2 : Int32) (x3 : Int32) : l_X7_isA_4 a0 a1 S (n + 1) x2 x3 = if x3.toInt < (6 : Int32).toInt then (if x2.toInt < 0 then ((0 : Int32)) else (if x2.toInt < (6 : Int32).toInt then (if x2.toInt = a1.toInt then ((1 : Int32)) else (kf_l (kw_KA x2.toNatClampNeg) fun z1 => kf_l (x3 + Int32.ofInt 1) fun z2 => l_X7_isA_4 a0 a1 S n z1 z2)) else ((0 : Int32)))) else ((0 : Int32)) := rfl
noncomputable def f_X7_isA (σ : kw_S) (kind : Int32) (above : Int32) : Int32 := l_X7_isA_4 kind above σ ((7 - (0 : Int32).toInt).toNat + 1) kind (0 : Int32)
theorem f_X7_isA_u (σ : kw_S) (kind : Int32) (above : Int32) : f_X7_isA σ kind above = l_X7_isA_4 kind above σ ((7 - (0 : Int32).toInt).toNat + 1) kind (0 : Int32) := rfl
abbrev p_X7_isA (σ : kw_S) (kind : Int32) (above : Int32) : Option Value → kw_S → Prop := fun vv σ' => σ' = σ ∧ ∃ r : Int32, vv = some (.int r) ∧ (r.toInt = 0 ∨ r.toInt = 1) ∧ r = f_X7_isA σ kind above
set_option maxRecDepth 100000 in
set_option maxHeartbeats 4000000 in
theorem c_X7_isA (l : Launch) (σ : kw_S) (hI : kw_I bX σ) (kind : Int32) (above : Int32) : kw_Met l 1 KX mX7_isA [.int kind, .int above] σ (p_X7_isA σ kind above) := by
  have r_kind := kw_rng kind
  have r_above := kw_rng above
  have hF := (f_X7_isA_u σ kind above).symm
  have q_0 : (0 : Int32).toInt = 0 := rfl
  have q_1 : (1 : Int32).toInt = 1 := rfl
  have q_6 : (6 : Int32).toInt = 6 := rfl
  refine kw_Met.of (by decide) rfl tX7_isA (Nat.le_of_ble_eq_true rfl) ?_
  show kw_AW l 1 kw_E0 KX mX7_isA (p_X7_isA σ kind above) 0 [(0, .int kind), (1, .int above)] [] σ
  refine kw_iload_n (pc := 0) (i := 0) (k := 0) (n := 0) rfl rfl rfl ?_
  refine kw_istore_n (pc := 1) (i := 1) (n := 2) (lv' := [(2, .int kind), (0, .int kind), (1, .int above)]) rfl rfl (by decide) rfl ?_
  refine kw_iconst (pc := 2) (i := 2) (v := 0) rfl rfl ?_
  refine kw_istore_n (pc := 3) (i := 3) (n := 3) (lv' := [(3, .int 0), (2, .int kind), (0, .int kind), (1, .int above)]) rfl rfl (by decide) rfl ?_
  have L3 : ∀ (n7 : Nat) (x1 : Int32) (x2 : Int32), 0 ≤ x1.toInt → l_X7_isA_4 kind above σ n7 x2 x1 = (f_X7_isA σ kind above) → (7 - x1.toInt).toNat < n7 → kw_AW l 1 kw_E0 KX mX7_isA (p_X7_isA σ kind above) 4 [(3, .int x1), (2, .int x2), (0, .int kind), (1, .int above)] [] σ := by
    intro n7
    induction n7 with
    | zero => intro x1 x2 v5 hF m6; exact absurd m6 (Nat.not_lt_zero _)
    | succ n7 ih4 =>
      intro x1 x2 v5 hF m6
      replace hF := kf_st (l_X7_isA_4_s _ _ _ _ _ _) hF
      have r_x1 := kw_rng x1
      have r_x2 := kw_rng x2
      refine kw_iload_n (pc := 4) (i := 4) (k := 0) (n := 3) rfl rfl rfl ?_
      refine kw_bipush (pc := 5) (i := 5) (v := 6) rfl rfl ?_
      refine kw_icmp_ge (pc := 7) (i := 6) (tgt := 39) rfl rfl (fun c8 => ?_) (fun c8 => ?_)
      · replace hF := kf_nl c8 hF
        refine kw_iconst (pc := 39) (i := 23) (v := 0) rfl rfl ?_
        exact kw_ireturn (pc := 40) (i := 24) (ty := .boolean) rfl rfl rfl ⟨rfl, _, rfl, by omega, hF⟩
      · replace hF := kf_p c8 hF
        refine kw_iload_n (pc := 10) (i := 7) (k := 1) (n := 2) rfl rfl rfl ?_
        refine kw_if_lt (pc := 11) (i := 8) (tgt := 39) rfl rfl (fun c9 => ?_) (fun c9 => ?_)
        · replace hF := kf_p c9 hF
          refine kw_iconst (pc := 39) (i := 23) (v := 0) rfl rfl ?_
          exact kw_ireturn (pc := 40) (i := 24) (ty := .boolean) rfl rfl rfl ⟨rfl, _, rfl, by omega, hF⟩
        · replace hF := kf_nl c9 hF
          refine kw_iload_n (pc := 14) (i := 9) (k := 1) (n := 2) rfl rfl rfl ?_
          refine kw_bipush (pc := 15) (i := 10) (v := 6) rfl rfl ?_
          refine kw_icmp_ge (pc := 17) (i := 11) (tgt := 39) rfl rfl (fun c10 => ?_) (fun c10 => ?_)
          · replace hF := kf_nl c10 hF
            refine kw_iconst (pc := 39) (i := 23) (v := 0) rfl rfl ?_
            exact kw_ireturn (pc := 40) (i := 24) (ty := .boolean) rfl rfl rfl ⟨rfl, _, rfl, by omega, hF⟩
          · replace hF := kf_p c10 hF
            refine kw_iload_n (pc := 20) (i := 12) (k := 1) (n := 2) rfl rfl rfl ?_
            refine kw_iload_n (pc := 21) (i := 13) (k := 3) (n := 1) rfl rfl rfl ?_
            refine kw_icmp_ne (pc := 22) (i := 14) (tgt := 27) rfl rfl (fun c11 => ?_) (fun c11 => ?_)
            · replace hF := kf_n c11 hF
              refine kw_getsK (pc := 27) (i := 17) rfl kxX7_360 ?_
              refine kw_iload_n (pc := 30) (i := 18) (k := 1) (n := 2) rfl rfl rfl ?_
              refine kw_tld (pc := 31) (i := 19) (k := 1) (n := 6) rfl rfl (by omega) (by omega) (fun z12 e_z12 => ?_)
              have r_z12 := kw_rng z12
              replace hF := kf_le e_z12 hF
              refine kw_istore_n (pc := 32) (i := 20) (n := 2) (lv' := [(2, .int z12), (3, .int x1), (0, .int kind), (1, .int above)]) rfl rfl (by decide) rfl ?_
              refine kw_iinc' (pc := 33) (i := 21) (k := 1) (fun z => [(3, .int z), (2, .int z12), (0, .int kind), (1, .int above)]) rfl rfl (by decide) rfl (fun _ => rfl) (fun z13 e_z13 t_z13 => ?_)
              replace hF := kf_le e_z13 hF
              refine kw_goto (pc := 36) (i := 22) (tgt := 4) rfl rfl ?_
              refine kw_sub (lv' := [(3, .int z13), (2, .int z12), (0, .int kind), (1, .int above)]) [0, 1, 2, 3] rfl ?_
              exact ih4 z13 z12 (by omega) hF (by omega)
            · replace hF := kf_p c11 hF
              refine kw_iconst (pc := 25) (i := 15) (v := 1) rfl rfl ?_
              exact kw_ireturn (pc := 26) (i := 16) (ty := .boolean) rfl rfl rfl ⟨rfl, _, rfl, by omega, hF⟩
  exact L3 _ 0 kind (by omega) hF (Nat.lt_succ_self _)
noncomputable def l_X7_weather_19_2 (a1 : Int32) (a2 : Int32) : Nat → Int32 → kw_S → kw_S
  | 0, _, S => S
  | n + 1, x3, S => if x3.toInt < (6 : Int32).toInt then (if x3.toInt < (6 : Int32).toInt then (kf_l (a1 >>> (x3 &&& 31)) fun z1 => kf_l (z1 &&& (1 : Int32)) fun z2 => if z2.toInt = 0 then (kf_l (x3 + Int32.ofInt 1) fun z11 => l_X7_weather_19_2 a1 a2 n z11 S) else (if 0 < a2.toInt then (kf_l (S.1 19 x3.toNatClampNeg) fun z7 => kf_l (z7 - (1 : Int32)) fun z8 => kf_l (if (0 : Int32) < z8 then z8 else (0 : Int32)) fun z9 => kf_l (x3 + Int32.ofInt 1) fun z10 => l_X7_weather_19_2 a1 a2 n z10 (kw_ui S 19 x3.toNatClampNeg z9)) else (kf_l (S.1 19 x3.toNatClampNeg) fun z3 => kf_l (z3 + (2 : Int32)) fun z4 => kf_l (if z4 < (9 : Int32) then z4 else (9 : Int32)) fun z5 => kf_l (x3 + Int32.ofInt 1) fun z6 => l_X7_weather_19_2 a1 a2 n z6 (kw_ui S 19 x3.toNatClampNeg z5)))) else (S)) else (S)
theorem l_X7_weather_19_2_s (a1 : Int32) (a2 : Int32) (n : Nat) (x3 : Int32) (S : kw_S) : l_X7_weather_19_2 a1 a2 (n + 1) x3 S = if x3.toInt < (6 : Int32).toInt then (if x3.toInt < (6 : Int32).toInt then (kf_l (a1 >>> (x3 &&& 31)) fun z1 => kf_l (z1 &&& (1 : Int32)) fun z2 => if z2.toInt = 0 then (kf_l (x3 + Int32.ofInt 1) fun z11 => l_X7_weather_19_2 a1 a2 n z11 S) else (if 0 < a2.toInt then (kf_l (S.1 19 x3.toNatClampNeg) fun z7 => kf_l (z7 - (1 : Int32)) fun z8 => kf_l (if (0 : Int32) < z8 then z8 else (0 : Int32)) fun z9 => kf_l (x3 + Int32.ofInt 1) fun z10 => l_X7_weather_19_2 a1 a2 n z10 (kw_ui S 19 x3.toNatClampNeg z9)) else (kf_l (S.1 19 x3.toNatClampNeg) fun z3 => kf_l (z3 + (2 : Int32)) fun z4 => kf_l (if z4 < (9 : Int32) then z4 else (9 : Int32)) fun z5 => kf_l (x3 + Int32.ofInt 1) fun z6 => l_X7_weather_19_2 a1 a2 n z6 (kw_ui S 19 x3.toNatClampNeg z5)))) else (S)) else (S) := rfl
noncomputable def f_X7_weather_19 (σ : kw_S) (hung : Int32) (wind : Int32) : kw_S := l_X7_weather_19_2 hung wind ((7 - (0 : Int32).toInt).toNat + 1) (0 : Int32) σ
theorem f_X7_weather_19_u (σ : kw_S) (hung : Int32) (wind : Int32) : f_X7_weather_19 σ hung wind = l_X7_weather_19_2 hung wind ((7 - (0 : Int32).toInt).toNat + 1) (0 : Int32) σ := rfl
abbrev p_X7_weather_19 (σ : kw_S) (hung : Int32) (wind : Int32) : Option Value → kw_S → Prop := fun vv σ' => (kw_I bX σ' ∧ kw_F [19] σ σ') ∧ vv = none ∧ σ' = f_X7_weather_19 σ hung wind
set_option maxRecDepth 100000 in
set_option maxHeartbeats 4000000 in
theorem c_X7_weather_19 (l : Launch) (σ : kw_S) (hI : kw_I bX σ) (hung : Int32) (wind : Int32) : kw_Met l 1 KX mX7_weather [.ref 19, .int hung, .int wind] σ (p_X7_weather_19 σ hung wind) := by
  have r_hung := kw_rng hung
  have r_wind := kw_rng wind
  have hF0 : kw_F [19] σ σ := kw_F.rf
  have hF := (f_X7_weather_19_u σ hung wind).symm
  have q_0 : (0 : Int32).toInt = 0 := rfl
  have q_1 : (1 : Int32).toInt = 1 := rfl
  have q_2 : (2 : Int32).toInt = 2 := rfl
  have q_6 : (6 : Int32).toInt = 6 := rfl
  have q_9 : (9 : Int32).toInt = 9 := rfl
  refine kw_Met.of (by decide) rfl tX7_weather (Nat.le_of_ble_eq_true rfl) ?_
  show kw_AW l 1 kw_E0 KX mX7_weather (p_X7_weather_19 σ hung wind) 0 [(0, .ref 19), (1, .int hung), (2, .int wind)] [] σ
  refine kw_iconst (pc := 0) (i := 0) (v := 0) rfl rfl ?_
  refine kw_istore_n (pc := 1) (i := 1) (n := 3) (lv' := [(3, .int 0), (0, .ref 19), (1, .int hung), (2, .int wind)]) rfl rfl (by decide) rfl ?_
  have L5 : ∀ (n9 : Nat) (x1 : Int32) (S2 : kw_S), kw_I bX S2 → kw_F [19] σ S2 → 0 ≤ x1.toInt → l_X7_weather_19_2 hung wind n9 x1 S2 = (f_X7_weather_19 σ hung wind) → (7 - x1.toInt).toNat < n9 → kw_AW l 1 kw_E0 KX mX7_weather (p_X7_weather_19 σ hung wind) 2 [(3, .int x1), (0, .ref 19), (1, .int hung), (2, .int wind)] [] S2 := by
    intro n9
    induction n9 with
    | zero => intro x1 S2 I3 F4 v7 hF m8; exact absurd m8 (Nat.not_lt_zero _)
    | succ n9 ih6 =>
      intro x1 S2 I3 F4 v7 hF m8
      replace hF := kf_st (l_X7_weather_19_2_s _ _ _ _ _) hF
      have r_x1 := kw_rng x1
      refine kw_iload_n (pc := 2) (i := 2) (k := 0) (n := 3) rfl rfl rfl ?_
      refine kw_bipush (pc := 3) (i := 3) (v := 6) rfl rfl ?_
      refine kw_icmp_ge (pc := 5) (i := 4) (tgt := 60) rfl rfl (fun c10 => ?_) (fun c10 => ?_)
      · replace hF := kf_nl c10 hF
        exact kw_return (pc := 60) (i := 38) rfl rfl ⟨⟨I3, F4⟩, rfl, hF⟩
      · replace hF := kf_p c10 hF
        refine kw_iload_n (pc := 8) (i := 5) (k := 0) (n := 3) rfl rfl rfl ?_
        refine kw_aload_n (pc := 9) (i := 6) (k := 1) (n := 0) rfl rfl rfl ?_
        refine kw_alen (pc := 10) (i := 7) (n := 6) (v := 6) rfl rfl rfl ?_
        refine kw_icmp_ge (pc := 11) (i := 8) (tgt := 60) rfl rfl (fun c11 => ?_) (fun c11 => ?_)
        · replace hF := kf_nl c11 hF
          exact kw_return (pc := 60) (i := 38) rfl rfl ⟨⟨I3, F4⟩, rfl, hF⟩
        · replace hF := kf_p c11 hF
          refine kw_iload_n (pc := 14) (i := 9) (k := 2) (n := 1) rfl rfl rfl ?_
          refine kw_iload_n (pc := 15) (i := 10) (k := 0) (n := 3) rfl rfl rfl ?_
          refine kw_ishr (pc := 16) (i := 11) rfl (fun z12 e_z12 => ?_)
          have r_z12 := kw_rng z12
          replace hF := kf_le e_z12 hF
          refine kw_iconst (pc := 17) (i := 12) (v := 1) rfl rfl ?_
          refine kw_iand (pc := 18) (i := 13) rfl (fun z13 e_z13 => ?_)
          have r_z13 := kw_rng z13
          replace hF := kf_le e_z13 hF
          refine kw_if_ne (pc := 19) (i := 14) (tgt := 25) rfl rfl (fun c14 => ?_) (fun c14 => ?_)
          · replace hF := kf_n c14 hF
            refine kw_aload_n (pc := 25) (i := 16) (k := 1) (n := 0) rfl rfl rfl ?_
            refine kw_iload_n (pc := 26) (i := 17) (k := 0) (n := 3) rfl rfl rfl ?_
            refine kw_iload_n (pc := 27) (i := 18) (k := 3) (n := 2) rfl rfl rfl ?_
            refine kw_if_le (pc := 28) (i := 19) (tgt := 43) rfl rfl (fun c15 => ?_) (fun c15 => ?_)
            · replace hF := kf_nl c15 hF
              refine kw_bipush (pc := 43) (i := 28) (v := 9) rfl rfl ?_
              refine kw_aload_n (pc := 45) (i := 29) (k := 1) (n := 0) rfl rfl rfl ?_
              refine kw_iload_n (pc := 46) (i := 30) (k := 0) (n := 3) rfl rfl rfl ?_
              refine kw_iald (pc := 47) (i := 31) (n := 6) rfl rfl (by omega) (by omega) (fun z16 e_z16 => ?_)
              replace hF := kf_le e_z16 hF
              have t_z16 := congrArg Int32.toInt e_z16
              have r_z16 := kw_rng z16
              refine kw_iconst (pc := 48) (i := 32) (v := 2) rfl rfl ?_
              refine kw_iadd (pc := 49) (i := 33) rfl (fun z17 e_z17 t_z17 => ?_)
              replace hF := kf_le e_z17 hF
              refine kw_mmin (pc := 50) (i := 34) rfl jX7_357 (by omega) (Nat.le_of_ble_eq_true rfl) (fun z18 e_z18 t_z18 => ?_)
              replace hF := kf_le e_z18 hF
              refine kw_iast (pc := 53) (i := 35) (n := 6) rfl rfl (by omega) (by omega) ?_
              have I19 : kw_I bX (kw_ui S2 19 x1.toNatClampNeg z18) := kw_I_ui I3 (kw_rng z18).1 (Int.le_of_lt_add_one (kw_rng z18).2)
              have F20 : kw_F [19] σ (kw_ui S2 19 x1.toNatClampNeg z18) := kw_F_ui F4 (by decide)
              refine kw_iinc' (pc := 54) (i := 36) (k := 0) (fun z => [(3, .int z), (0, .ref 19), (1, .int hung), (2, .int wind)]) rfl rfl (by decide) rfl (fun _ => rfl) (fun z21 e_z21 t_z21 => ?_)
              replace hF := kf_le e_z21 hF
              refine kw_goto (pc := 57) (i := 37) (tgt := 2) rfl rfl ?_
              refine kw_sub (lv' := [(3, .int z21), (0, .ref 19), (1, .int hung), (2, .int wind)]) [0, 1, 2, 3] rfl ?_
              exact ih6 z21 (kw_ui S2 19 x1.toNatClampNeg z18) I19 F20 (by omega) hF (by omega)
            · replace hF := kf_p c15 hF
              refine kw_iconst (pc := 31) (i := 20) (v := 0) rfl rfl ?_
              refine kw_aload_n (pc := 32) (i := 21) (k := 1) (n := 0) rfl rfl rfl ?_
              refine kw_iload_n (pc := 33) (i := 22) (k := 0) (n := 3) rfl rfl rfl ?_
              refine kw_iald (pc := 34) (i := 23) (n := 6) rfl rfl (by omega) (by omega) (fun z22 e_z22 => ?_)
              replace hF := kf_le e_z22 hF
              have t_z22 := congrArg Int32.toInt e_z22
              have r_z22 := kw_rng z22
              refine kw_iconst (pc := 35) (i := 24) (v := 1) rfl rfl ?_
              refine kw_isub (pc := 36) (i := 25) rfl (fun z23 e_z23 t_z23 => ?_)
              replace hF := kf_le e_z23 hF
              refine kw_mmax (pc := 37) (i := 26) rfl jX7_352 (by omega) (Nat.le_of_ble_eq_true rfl) (fun z24 e_z24 t_z24 => ?_)
              replace hF := kf_le e_z24 hF
              refine kw_goto (pc := 40) (i := 27) (tgt := 53) rfl rfl ?_
              refine kw_iast (pc := 53) (i := 35) (n := 6) rfl rfl (by omega) (by omega) ?_
              have I25 : kw_I bX (kw_ui S2 19 x1.toNatClampNeg z24) := kw_I_ui I3 (kw_rng z24).1 (Int.le_of_lt_add_one (kw_rng z24).2)
              have F26 : kw_F [19] σ (kw_ui S2 19 x1.toNatClampNeg z24) := kw_F_ui F4 (by decide)
              refine kw_iinc' (pc := 54) (i := 36) (k := 0) (fun z => [(3, .int z), (0, .ref 19), (1, .int hung), (2, .int wind)]) rfl rfl (by decide) rfl (fun _ => rfl) (fun z27 e_z27 t_z27 => ?_)
              replace hF := kf_le e_z27 hF
              refine kw_goto (pc := 57) (i := 37) (tgt := 2) rfl rfl ?_
              refine kw_sub (lv' := [(3, .int z27), (0, .ref 19), (1, .int hung), (2, .int wind)]) [0, 1, 2, 3] rfl ?_
              exact ih6 z27 (kw_ui S2 19 x1.toNatClampNeg z24) I25 F26 (by omega) hF (by omega)
          · replace hF := kf_p c14 hF
            refine kw_goto (pc := 22) (i := 15) (tgt := 54) rfl rfl ?_
            refine kw_iinc' (pc := 54) (i := 36) (k := 0) (fun z => [(3, .int z), (0, .ref 19), (1, .int hung), (2, .int wind)]) rfl rfl (by decide) rfl (fun _ => rfl) (fun z28 e_z28 t_z28 => ?_)
            replace hF := kf_le e_z28 hF
            refine kw_goto (pc := 57) (i := 37) (tgt := 2) rfl rfl ?_
            refine kw_sub (lv' := [(3, .int z28), (0, .ref 19), (1, .int hung), (2, .int wind)]) [0, 1, 2, 3] rfl ?_
            exact ih6 z28 S2 I3 F4 (by omega) hF (by omega)
  exact L5 _ 0 σ hI hF0 (by omega) hF (Nat.lt_succ_self _)
noncomputable def l_X7_weather_9_2 (a1 : Int32) (a2 : Int32) : Nat → Int32 → kw_S → kw_S
  | 0, _, S => S
  | n + 1, x3, S => if x3.toInt < (6 : Int32).toInt then (if x3.toInt < (6 : Int32).toInt then (kf_l (a1 >>> (x3 &&& 31)) fun z1 => kf_l (z1 &&& (1 : Int32)) fun z2 => if z2.toInt = 0 then (kf_l (x3 + Int32.ofInt 1) fun z11 => l_X7_weather_9_2 a1 a2 n z11 S) else (if 0 < a2.toInt then (kf_l (S.1 9 x3.toNatClampNeg) fun z7 => kf_l (z7 - (1 : Int32)) fun z8 => kf_l (if (0 : Int32) < z8 then z8 else (0 : Int32)) fun z9 => kf_l (x3 + Int32.ofInt 1) fun z10 => l_X7_weather_9_2 a1 a2 n z10 (kw_ui S 9 x3.toNatClampNeg z9)) else (kf_l (S.1 9 x3.toNatClampNeg) fun z3 => kf_l (z3 + (2 : Int32)) fun z4 => kf_l (if z4 < (9 : Int32) then z4 else (9 : Int32)) fun z5 => kf_l (x3 + Int32.ofInt 1) fun z6 => l_X7_weather_9_2 a1 a2 n z6 (kw_ui S 9 x3.toNatClampNeg z5)))) else (S)) else (S)
theorem l_X7_weather_9_2_s (a1 : Int32) (a2 : Int32) (n : Nat) (x3 : Int32) (S : kw_S) : l_X7_weather_9_2 a1 a2 (n + 1) x3 S = if x3.toInt < (6 : Int32).toInt then (if x3.toInt < (6 : Int32).toInt then (kf_l (a1 >>> (x3 &&& 31)) fun z1 => kf_l (z1 &&& (1 : Int32)) fun z2 => if z2.toInt = 0 then (kf_l (x3 + Int32.ofInt 1) fun z11 => l_X7_weather_9_2 a1 a2 n z11 S) else (if 0 < a2.toInt then (kf_l (S.1 9 x3.toNatClampNeg) fun z7 => kf_l (z7 - (1 : Int32)) fun z8 => kf_l (if (0 : Int32) < z8 then z8 else (0 : Int32)) fun z9 => kf_l (x3 + Int32.ofInt 1) fun z10 => l_X7_weather_9_2 a1 a2 n z10 (kw_ui S 9 x3.toNatClampNeg z9)) else (kf_l (S.1 9 x3.toNatClampNeg) fun z3 => kf_l (z3 + (2 : Int32)) fun z4 => kf_l (if z4 < (9 : Int32) then z4 else (9 : Int32)) fun z5 => kf_l (x3 + Int32.ofInt 1) fun z6 => l_X7_weather_9_2 a1 a2 n z6 (kw_ui S 9 x3.toNatClampNeg z5)))) else (S)) else (S) := rfl
noncomputable def f_X7_weather_9 (σ : kw_S) (hung : Int32) (wind : Int32) : kw_S := l_X7_weather_9_2 hung wind ((7 - (0 : Int32).toInt).toNat + 1) (0 : Int32) σ
theorem f_X7_weather_9_u (σ : kw_S) (hung : Int32) (wind : Int32) : f_X7_weather_9 σ hung wind = l_X7_weather_9_2 hung wind ((7 - (0 : Int32).toInt).toNat + 1) (0 : Int32) σ := rfl
abbrev p_X7_weather_9 (σ : kw_S) (hung : Int32) (wind : Int32) : Option Value → kw_S → Prop := fun vv σ' => (kw_I bX σ' ∧ kw_F [9] σ σ') ∧ vv = none ∧ σ' = f_X7_weather_9 σ hung wind
set_option maxRecDepth 100000 in
set_option maxHeartbeats 4000000 in
theorem c_X7_weather_9 (l : Launch) (σ : kw_S) (hI : kw_I bX σ) (hung : Int32) (wind : Int32) : kw_Met l 1 KX mX7_weather [.ref 9, .int hung, .int wind] σ (p_X7_weather_9 σ hung wind) := by
  have r_hung := kw_rng hung
  have r_wind := kw_rng wind
  have hF0 : kw_F [9] σ σ := kw_F.rf
  have hF := (f_X7_weather_9_u σ hung wind).symm
  have q_0 : (0 : Int32).toInt = 0 := rfl
  have q_1 : (1 : Int32).toInt = 1 := rfl
  have q_2 : (2 : Int32).toInt = 2 := rfl
  have q_6 : (6 : Int32).toInt = 6 := rfl
  have q_9 : (9 : Int32).toInt = 9 := rfl
  refine kw_Met.of (by decide) rfl tX7_weather (Nat.le_of_ble_eq_true rfl) ?_
  show kw_AW l 1 kw_E0 KX mX7_weather (p_X7_weather_9 σ hung wind) 0 [(0, .ref 9), (1, .int hung), (2, .int wind)] [] σ
  refine kw_iconst (pc := 0) (i := 0) (v := 0) rfl rfl ?_
  refine kw_istore_n (pc := 1) (i := 1) (n := 3) (lv' := [(3, .int 0), (0, .ref 9), (1, .int hung), (2, .int wind)]) rfl rfl (by decide) rfl ?_
  have L5 : ∀ (n9 : Nat) (x1 : Int32) (S2 : kw_S), kw_I bX S2 → kw_F [9] σ S2 → 0 ≤ x1.toInt → l_X7_weather_9_2 hung wind n9 x1 S2 = (f_X7_weather_9 σ hung wind) → (7 - x1.toInt).toNat < n9 → kw_AW l 1 kw_E0 KX mX7_weather (p_X7_weather_9 σ hung wind) 2 [(3, .int x1), (0, .ref 9), (1, .int hung), (2, .int wind)] [] S2 := by
    intro n9
    induction n9 with
    | zero => intro x1 S2 I3 F4 v7 hF m8; exact absurd m8 (Nat.not_lt_zero _)
    | succ n9 ih6 =>
      intro x1 S2 I3 F4 v7 hF m8
      replace hF := kf_st (l_X7_weather_9_2_s _ _ _ _ _) hF
      have r_x1 := kw_rng x1
      refine kw_iload_n (pc := 2) (i := 2) (k := 0) (n := 3) rfl rfl rfl ?_
      refine kw_bipush (pc := 3) (i := 3) (v := 6) rfl rfl ?_
      refine kw_icmp_ge (pc := 5) (i := 4) (tgt := 60) rfl rfl (fun c10 => ?_) (fun c10 => ?_)
      · replace hF := kf_nl c10 hF
        exact kw_return (pc := 60) (i := 38) rfl rfl ⟨⟨I3, F4⟩, rfl, hF⟩
      · replace hF := kf_p c10 hF
        refine kw_iload_n (pc := 8) (i := 5) (k := 0) (n := 3) rfl rfl rfl ?_
        refine kw_aload_n (pc := 9) (i := 6) (k := 1) (n := 0) rfl rfl rfl ?_
        refine kw_alen (pc := 10) (i := 7) (n := 6) (v := 6) rfl rfl rfl ?_
        refine kw_icmp_ge (pc := 11) (i := 8) (tgt := 60) rfl rfl (fun c11 => ?_) (fun c11 => ?_)
        · replace hF := kf_nl c11 hF
          exact kw_return (pc := 60) (i := 38) rfl rfl ⟨⟨I3, F4⟩, rfl, hF⟩
        · replace hF := kf_p c11 hF
          refine kw_iload_n (pc := 14) (i := 9) (k := 2) (n := 1) rfl rfl rfl ?_
          refine kw_iload_n (pc := 15) (i := 10) (k := 0) (n := 3) rfl rfl rfl ?_
          refine kw_ishr (pc := 16) (i := 11) rfl (fun z12 e_z12 => ?_)
          have r_z12 := kw_rng z12
          replace hF := kf_le e_z12 hF
          refine kw_iconst (pc := 17) (i := 12) (v := 1) rfl rfl ?_
          refine kw_iand (pc := 18) (i := 13) rfl (fun z13 e_z13 => ?_)
          have r_z13 := kw_rng z13
          replace hF := kf_le e_z13 hF
          refine kw_if_ne (pc := 19) (i := 14) (tgt := 25) rfl rfl (fun c14 => ?_) (fun c14 => ?_)
          · replace hF := kf_n c14 hF
            refine kw_aload_n (pc := 25) (i := 16) (k := 1) (n := 0) rfl rfl rfl ?_
            refine kw_iload_n (pc := 26) (i := 17) (k := 0) (n := 3) rfl rfl rfl ?_
            refine kw_iload_n (pc := 27) (i := 18) (k := 3) (n := 2) rfl rfl rfl ?_
            refine kw_if_le (pc := 28) (i := 19) (tgt := 43) rfl rfl (fun c15 => ?_) (fun c15 => ?_)
            · replace hF := kf_nl c15 hF
              refine kw_bipush (pc := 43) (i := 28) (v := 9) rfl rfl ?_
              refine kw_aload_n (pc := 45) (i := 29) (k := 1) (n := 0) rfl rfl rfl ?_
              refine kw_iload_n (pc := 46) (i := 30) (k := 0) (n := 3) rfl rfl rfl ?_
              refine kw_iald (pc := 47) (i := 31) (n := 6) rfl rfl (by omega) (by omega) (fun z16 e_z16 => ?_)
              replace hF := kf_le e_z16 hF
              have t_z16 := congrArg Int32.toInt e_z16
              have r_z16 := kw_rng z16
              refine kw_iconst (pc := 48) (i := 32) (v := 2) rfl rfl ?_
              refine kw_iadd (pc := 49) (i := 33) rfl (fun z17 e_z17 t_z17 => ?_)
              replace hF := kf_le e_z17 hF
              refine kw_mmin (pc := 50) (i := 34) rfl jX7_357 (by omega) (Nat.le_of_ble_eq_true rfl) (fun z18 e_z18 t_z18 => ?_)
              replace hF := kf_le e_z18 hF
              refine kw_iast (pc := 53) (i := 35) (n := 6) rfl rfl (by omega) (by omega) ?_
              have I19 : kw_I bX (kw_ui S2 9 x1.toNatClampNeg z18) := kw_I_ui I3 (kw_rng z18).1 (Int.le_of_lt_add_one (kw_rng z18).2)
              have F20 : kw_F [9] σ (kw_ui S2 9 x1.toNatClampNeg z18) := kw_F_ui F4 (by decide)
              refine kw_iinc' (pc := 54) (i := 36) (k := 0) (fun z => [(3, .int z), (0, .ref 9), (1, .int hung), (2, .int wind)]) rfl rfl (by decide) rfl (fun _ => rfl) (fun z21 e_z21 t_z21 => ?_)
              replace hF := kf_le e_z21 hF
              refine kw_goto (pc := 57) (i := 37) (tgt := 2) rfl rfl ?_
              refine kw_sub (lv' := [(3, .int z21), (0, .ref 9), (1, .int hung), (2, .int wind)]) [0, 1, 2, 3] rfl ?_
              exact ih6 z21 (kw_ui S2 9 x1.toNatClampNeg z18) I19 F20 (by omega) hF (by omega)
            · replace hF := kf_p c15 hF
              refine kw_iconst (pc := 31) (i := 20) (v := 0) rfl rfl ?_
              refine kw_aload_n (pc := 32) (i := 21) (k := 1) (n := 0) rfl rfl rfl ?_
              refine kw_iload_n (pc := 33) (i := 22) (k := 0) (n := 3) rfl rfl rfl ?_
              refine kw_iald (pc := 34) (i := 23) (n := 6) rfl rfl (by omega) (by omega) (fun z22 e_z22 => ?_)
              replace hF := kf_le e_z22 hF
              have t_z22 := congrArg Int32.toInt e_z22
              have r_z22 := kw_rng z22
              refine kw_iconst (pc := 35) (i := 24) (v := 1) rfl rfl ?_
              refine kw_isub (pc := 36) (i := 25) rfl (fun z23 e_z23 t_z23 => ?_)
              replace hF := kf_le e_z23 hF
              refine kw_mmax (pc := 37) (i := 26) rfl jX7_352 (by omega) (Nat.le_of_ble_eq_true rfl) (fun z24 e_z24 t_z24 => ?_)
              replace hF := kf_le e_z24 hF
              refine kw_goto (pc := 40) (i := 27) (tgt := 53) rfl rfl ?_
              refine kw_iast (pc := 53) (i := 35) (n := 6) rfl rfl (by omega) (by omega) ?_
              have I25 : kw_I bX (kw_ui S2 9 x1.toNatClampNeg z24) := kw_I_ui I3 (kw_rng z24).1 (Int.le_of_lt_add_one (kw_rng z24).2)
              have F26 : kw_F [9] σ (kw_ui S2 9 x1.toNatClampNeg z24) := kw_F_ui F4 (by decide)
              refine kw_iinc' (pc := 54) (i := 36) (k := 0) (fun z => [(3, .int z), (0, .ref 9), (1, .int hung), (2, .int wind)]) rfl rfl (by decide) rfl (fun _ => rfl) (fun z27 e_z27 t_z27 => ?_)
              replace hF := kf_le e_z27 hF
              refine kw_goto (pc := 57) (i := 37) (tgt := 2) rfl rfl ?_
              refine kw_sub (lv' := [(3, .int z27), (0, .ref 9), (1, .int hung), (2, .int wind)]) [0, 1, 2, 3] rfl ?_
              exact ih6 z27 (kw_ui S2 9 x1.toNatClampNeg z24) I25 F26 (by omega) hF (by omega)
          · replace hF := kf_p c14 hF
            refine kw_goto (pc := 22) (i := 15) (tgt := 54) rfl rfl ?_
            refine kw_iinc' (pc := 54) (i := 36) (k := 0) (fun z => [(3, .int z), (0, .ref 9), (1, .int hung), (2, .int wind)]) rfl rfl (by decide) rfl (fun _ => rfl) (fun z28 e_z28 t_z28 => ?_)
            replace hF := kf_le e_z28 hF
            refine kw_goto (pc := 57) (i := 37) (tgt := 2) rfl rfl ?_
            refine kw_sub (lv' := [(3, .int z28), (0, .ref 9), (1, .int hung), (2, .int wind)]) [0, 1, 2, 3] rfl ?_
            exact ih6 z28 S2 I3 F4 (by omega) hF (by omega)
  exact L5 _ 0 σ hI hF0 (by omega) hF (Nat.lt_succ_self _)
