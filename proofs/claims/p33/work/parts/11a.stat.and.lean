section
noncomputable def f_X7_pull (σ : kw_S) (kind : Int32) (area : Int32) (w : Int32) : Int32 := kf_l (area * w) fun z1 => kf_l (z1 + w) fun z2 => if kind.toInt = 1 then (z2) else if kind.toInt = 2 then (if w.toInt < (3 : Int32).toInt then ((0 : Int32)) else (z1)) else if kind.toInt = 3 then (kf_l (-z1) fun z3 => z3) else if kind.toInt = 4 then (kf_l ((2 : Int32) * z2) fun z4 => z4) else if kind.toInt = 5 then (kf_l ((2 : Int32) * z2) fun z5 => kf_l (z5 / (3 : Int32)) fun z6 => z6) else (z1)
theorem f_X7_pull_u (σ : kw_S) (kind : Int32) (area : Int32) (w : Int32) : f_X7_pull σ kind area w = kf_l (area * w) fun z1 => kf_l (z1 + w) fun z2 => if kind.toInt = 1 then (z2) else if kind.toInt = 2 then (if w.toInt < (3 : Int32).toInt then ((0 : Int32)) else (z1)) else if kind.toInt = 3 then (kf_l (-z1) fun z3 => z3) else if kind.toInt = 4 then (kf_l ((2 : Int32) * z2) fun z4 => z4) else if kind.toInt = 5 then (kf_l ((2 : Int32) * z2) fun z5 => kf_l (z5 / (3 : Int32)) fun z6 => z6) else (z1) := rfl
abbrev p_X7_pull (σ : kw_S) (kind : Int32) (area : Int32) (w : Int32) : Option Value → kw_S → Prop := fun vv σ' => σ' = σ ∧ ∃ r : Int32, vv = some (.int r) ∧ r = f_X7_pull σ kind area w
set_option maxRecDepth 100000 in
set_option maxHeartbeats 4000000 in
theorem c_X7_pull (l : Launch) (σ : kw_S) (hI : kw_I bX σ) (kind : Int32) (area : Int32) (w : Int32) : kw_Met l 1 KX mX7_pull [.int kind, .int area, .int w] σ (p_X7_pull σ kind area w) := by
  have r_kind := kw_rng kind
  have r_area := kw_rng area
  have r_w := kw_rng w
  have hF := (f_X7_pull_u σ kind area w).symm
  have q_0 : (0 : Int32).toInt = 0 := rfl
  have q_2 : (2 : Int32).toInt = 2 := rfl
  have q_3 : (3 : Int32).toInt = 3 := rfl
  refine kw_Met.of (by decide) rfl tX7_pull (Nat.le_of_ble_eq_true rfl) ?_
  show kw_AW l 1 kw_E0 KX mX7_pull (p_X7_pull σ kind area w) 0 [(0, .int kind), (1, .int area), (2, .int w)] [] σ
  refine kw_iload_n (pc := 0) (i := 0) (k := 1) (n := 1) rfl rfl rfl ?_
  refine kw_iload_n (pc := 1) (i := 1) (k := 2) (n := 2) rfl rfl rfl ?_
  refine kw_imul (pc := 2) (i := 2) rfl (fun z1 e_z1 t_z1 => ?_)
  replace hF := kf_le e_z1 hF
  refine kw_istore_n (pc := 3) (i := 3) (n := 3) (lv' := [(3, .int z1), (0, .int kind), (1, .int area), (2, .int w)]) rfl rfl (by decide) rfl ?_
  refine kw_iload_n (pc := 4) (i := 4) (k := 0) (n := 3) rfl rfl rfl ?_
  refine kw_iload_n (pc := 5) (i := 5) (k := 3) (n := 2) rfl rfl rfl ?_
  refine kw_iadd (pc := 6) (i := 6) rfl (fun z2 e_z2 t_z2 => ?_)
  replace hF := kf_le e_z2 hF
  refine kw_istore (pc := 7) (i := 7) (n := 4) (lv' := [(4, .int z2), (3, .int z1), (0, .int kind), (1, .int area), (2, .int w)]) rfl (by decide) rfl ?_
  refine kw_iload_n (pc := 9) (i := 8) (k := 2) (n := 0) rfl rfl rfl ?_
  by_cases c3 : kind.toInt = 1
  · refine kw_tableIn (pc := 10) (i := 9) (k := 0) (tgt := 44) rfl (by omega) (by decide) rfl rfl ?_
    replace hF := kf_p c3 hF
    refine kw_iload (pc := 44) (i := 10) (k := 0) (n := 4) rfl rfl ?_
    exact kw_ireturn (pc := 46) (i := 11) (ty := .int) rfl rfl rfl ⟨rfl, _, rfl, hF⟩
  replace hF := kf_n c3 hF
  by_cases c4 : kind.toInt = 2
  · refine kw_tableIn (pc := 10) (i := 9) (k := 1) (tgt := 47) rfl (by omega) (by decide) rfl rfl ?_
    replace hF := kf_p c4 hF
    refine kw_iload_n (pc := 47) (i := 12) (k := 4) (n := 2) rfl rfl rfl ?_
    refine kw_iconst (pc := 48) (i := 13) (v := 3) rfl rfl ?_
    refine kw_icmp_lt (pc := 49) (i := 14) (tgt := 56) rfl rfl (fun c5 => ?_) (fun c5 => ?_)
    · replace hF := kf_p c5 hF
      refine kw_iconst (pc := 56) (i := 17) (v := 0) rfl rfl ?_
      exact kw_ireturn (pc := 57) (i := 18) (ty := .int) rfl rfl rfl ⟨rfl, _, rfl, hF⟩
    · replace hF := kf_nl c5 hF
      refine kw_iload_n (pc := 52) (i := 15) (k := 1) (n := 3) rfl rfl rfl ?_
      refine kw_goto (pc := 53) (i := 16) (tgt := 57) rfl rfl ?_
      exact kw_ireturn (pc := 57) (i := 18) (ty := .int) rfl rfl rfl ⟨rfl, _, rfl, hF⟩
  replace hF := kf_n c4 hF
  by_cases c6 : kind.toInt = 3
  · refine kw_tableIn (pc := 10) (i := 9) (k := 2) (tgt := 58) rfl (by omega) (by decide) rfl rfl ?_
    replace hF := kf_p c6 hF
    refine kw_iload_n (pc := 58) (i := 19) (k := 1) (n := 3) rfl rfl rfl ?_
    refine kw_ineg (pc := 59) (i := 20) rfl (fun z7 e_z7 t_z7 => ?_)
    replace hF := kf_le e_z7 hF
    exact kw_ireturn (pc := 60) (i := 21) (ty := .int) rfl rfl rfl ⟨rfl, _, rfl, hF⟩
  replace hF := kf_n c6 hF
  by_cases c8 : kind.toInt = 4
  · refine kw_tableIn (pc := 10) (i := 9) (k := 3) (tgt := 61) rfl (by omega) (by decide) rfl rfl ?_
    replace hF := kf_p c8 hF
    refine kw_iconst (pc := 61) (i := 22) (v := 2) rfl rfl ?_
    refine kw_iload (pc := 62) (i := 23) (k := 0) (n := 4) rfl rfl ?_
    refine kw_imul (pc := 64) (i := 24) rfl (fun z9 e_z9 t_z9 => ?_)
    replace hF := kf_le e_z9 hF
    rw [show (2 : Int32).toInt = 2 from rfl] at t_z9
    exact kw_ireturn (pc := 65) (i := 25) (ty := .int) rfl rfl rfl ⟨rfl, _, rfl, hF⟩
  replace hF := kf_n c8 hF
  by_cases c10 : kind.toInt = 5
  · refine kw_tableIn (pc := 10) (i := 9) (k := 4) (tgt := 66) rfl (by omega) (by decide) rfl rfl ?_
    replace hF := kf_p c10 hF
    refine kw_iconst (pc := 66) (i := 26) (v := 2) rfl rfl ?_
    refine kw_iload (pc := 67) (i := 27) (k := 0) (n := 4) rfl rfl ?_
    refine kw_imul (pc := 69) (i := 28) rfl (fun z11 e_z11 t_z11 => ?_)
    replace hF := kf_le e_z11 hF
    rw [show (2 : Int32).toInt = 2 from rfl] at t_z11
    refine kw_iconst (pc := 70) (i := 29) (v := 3) rfl rfl ?_
    refine kw_idiv (pc := 71) (i := 30) rfl (by omega) (fun z12 e_z12 => ?_)
    have r_z12 := kw_rng z12
    replace hF := kf_le e_z12 hF
    exact kw_ireturn (pc := 72) (i := 31) (ty := .int) rfl rfl rfl ⟨rfl, _, rfl, hF⟩
  replace hF := kf_n c10 hF
  refine kw_tableOut (pc := 10) (i := 9) (tgt := 73) rfl (by omega) rfl ?_
  refine kw_iload_n (pc := 73) (i := 32) (k := 1) (n := 3) rfl rfl rfl ?_
  exact kw_ireturn (pc := 74) (i := 33) (ty := .int) rfl rfl rfl ⟨rfl, _, rfl, hF⟩
noncomputable def l_X7_isA_4 (a0 : Int32) (a1 : Int32) (S : kw_S) : Nat → Int32 → Int32 → Int32
  | 0, _, _ => 0
  | n + 1, x2, x3 => if x3.toInt < (6 : Int32).toInt then (if x2.toInt < 0 then ((0 : Int32)) else (if x2.toInt < (6 : Int32).toInt then (if x2.toInt = a1.toInt then ((1 : Int32)) else (kf_l (kw_KA x2.toNatClampNeg) fun z1 => kf_l (x3 + Int32.ofInt 1) fun z2 => l_X7_isA_4 a0 a1 S n z1 z2)) else ((0 : Int32)))) else ((0 : Int32))
theorem l_X7_isA_4_s (a0 : Int32) (a1 : Int32) (S : kw_S) (n : Nat) (x2 : Int32) (x3 : Int32) : l_X7_isA_4 a0 a1 S (n + 1) x2 x3 = if x3.toInt < (6 : Int32).toInt then (if x2.toInt < 0 then ((0 : Int32)) else (if x2.toInt < (6 : Int32).toInt then (if x2.toInt = a1.toInt then ((1 : Int32)) else (kf_l (kw_KA x2.toNatClampNeg) fun z1 => kf_l (x3 + Int32.ofInt 1) fun z2 => l_X7_isA_4 a0 a1 S n z1 z2)) else ((0 : Int32)))) else ((0 : Int32)) := rfl
noncomputable def f_X7_isA (σ : kw_S) (kind : Int32) (above : Int32) : Int32 := l_X7_isA_4 kind above σ ((7 - (0 : Int32).toInt).toNat + 1) kind (0 : Int32)
theorem f_X7_isA_u (σ : kw_S) (kind : Int32) (above : Int32) : f_X7_isA σ kind above = l_X7_isA_4 kind above σ ((7 - (0 : Int32).toInt).toNat + 1) kind (0 : Int32) := rfl
abbrev p_X7_isA (σ : kw_S) (kind : Int32) (above : Int32) : Option Value → kw_S → Prop := fun vv σ' => σ' = σ ∧ ∃ r : Int32, vv = some (.int r) ∧ (r.toInt = 0 ∨ r.toInt = 1) ∧ r = f_X7_isA σ kind above
set_option maxRecDepth 100000 in
set_option maxHeartbeats 4000000 in
theorem c_X7_isA (l : Launch) (σ : kw_S) (hI : kw_I bX σ) (kind : Int32) (above : Int32) : kw_Met l 1 KX mX7_isA [.int kind, .int above] σ (p_X7_isA σ kind above) := by
  have r_kind := kw_rng kind
  have r_above := kw_rng above
  have hF := (f_X7_isA_u σ kind above).symm
  have q_0 : (0 : Int32).toInt = 0 := rfl
  have q_1 : (1 : Int32).toInt = 1 := rfl
  have q_6 : (6 : Int32).toInt = 6 := rfl
  refine kw_Met.of (by decide) rfl tX7_isA (Nat.le_of_ble_eq_true rfl) ?_
  show kw_AW l 1 kw_E0 KX mX7_isA (p_X7_isA σ kind above) 0 [(0, .int kind), (1, .int above)] [] σ
  refine kw_iload_n (pc := 0) (i := 0) (k := 0) (n := 0) rfl rfl rfl ?_
  refine kw_istore_n (pc := 1) (i := 1) (n := 2) (lv' := [(2, .int kind), (0, .int kind), (1, .int above)]) rfl rfl (by decide) rfl ?_
  refine kw_iconst (pc := 2) (i := 2) (v := 0) rfl rfl ?_
  refine kw_istore_n (pc := 3) (i := 3) (n := 3) (lv' := [(3, .int 0), (2, .int kind), (0, .int kind), (1, .int above)]) rfl rfl (by decide) rfl ?_
  have L3 : ∀ (n7 : Nat) (x1 : Int32) (x2 : Int32), 0 ≤ x1.toInt → l_X7_isA_4 kind above σ n7 x2 x1 = (f_X7_isA σ kind above) → (7 - x1.toInt).toNat < n7 → kw_AW l 1 kw_E0 KX mX7_isA (p_X7_isA σ kind above) 4 [(3, .int x1), (2, .int x2), (0, .int kind), (1, .int above)] [] σ := by
    intro n7
    induction n7 with
    | zero => intro x1 x2 v5 hF m6; exact absurd m6 (Nat.not_lt_zero _)
    | succ n7 ih4 =>
      intro x1 x2 v5 hF m6
      replace hF := kf_st (l_X7_isA_4_s _ _ _ _ _ _) hF
      have r_x1 := kw_rng x1
      have r_x2 := kw_rng x2
      refine kw_iload_n (pc := 4) (i := 4) (k := 0) (n := 3) rfl rfl rfl ?_
      refine kw_bipush (pc := 5) (i := 5) (v := 6) rfl rfl ?_
      refine kw_icmp_ge (pc := 7) (i := 6) (tgt := 39) rfl rfl (fun c8 => ?_) (fun c8 => ?_)
      · replace hF := kf_nl c8 hF
        refine kw_iconst (pc := 39) (i := 23) (v := 0) rfl rfl ?_
        exact kw_ireturn (pc := 40) (i := 24) (ty := .boolean) rfl rfl rfl ⟨rfl, _, rfl, by omega, hF⟩
      · replace hF := kf_p c8 hF
        refine kw_iload_n (pc := 10) (i := 7) (k := 1) (n := 2) rfl rfl rfl ?_
        refine kw_if_lt (pc := 11) (i := 8) (tgt := 39) rfl rfl (fun c9 => ?_) (fun c9 => ?_)
        · replace hF := kf_p c9 hF
          refine kw_iconst (pc := 39) (i := 23) (v := 0) rfl rfl ?_
          exact kw_ireturn (pc := 40) (i := 24) (ty := .boolean) rfl rfl rfl ⟨rfl, _, rfl, by omega, hF⟩
        · replace hF := kf_nl c9 hF
          refine kw_iload_n (pc := 14) (i := 9) (k := 1) (n := 2) rfl rfl rfl ?_
          refine kw_bipush (pc := 15) (i := 10) (v := 6) rfl rfl ?_
          refine kw_icmp_ge (pc := 17) (i := 11) (tgt := 39) rfl rfl (fun c10 => ?_) (fun c10 => ?_)
          · replace hF := kf_nl c10 hF
            refine kw_iconst (pc := 39) (i := 23) (v := 0) rfl rfl ?_
            exact kw_ireturn (pc := 40) (i := 24) (ty := .boolean) rfl rfl rfl ⟨rfl, _, rfl, by omega, hF⟩
          · replace hF := kf_p c10 hF
            refine kw_iload_n (pc := 20) (i := 12) (k := 1) (n := 2) rfl rfl rfl ?_
            refine kw_iload_n (pc := 21) (i := 13) (k := 3) (n := 1) rfl rfl rfl ?_
            refine kw_icmp_ne (pc := 22) (i := 14) (tgt := 27) rfl rfl (fun c11 => ?_) (fun c11 => ?_)
            · replace hF := kf_n c11 hF
              refine kw_getsK (pc := 27) (i := 17) rfl kxX7_360 ?_
              refine kw_iload_n (pc := 30) (i := 18) (k := 1) (n := 2) rfl rfl rfl ?_
              refine kw_tld (pc := 31) (i := 19) (k := 1) (n := 6) rfl rfl (by omega) (by omega) (fun z12 e_z12 => ?_)
              have r_z12 := kw_rng z12
              replace hF := kf_le e_z12 hF
              refine kw_istore_n (pc := 32) (i := 20) (n := 2) (lv' := [(2, .int z12), (3, .int x1), (0, .int kind), (1, .int above)]) rfl rfl (by decide) rfl ?_
              refine kw_iinc' (pc := 33) (i := 21) (k := 1) (fun z => [(3, .int z), (2, .int z12), (0, .int kind), (1, .int above)]) rfl rfl (by decide) rfl (fun _ => rfl) (fun z13 e_z13 t_z13 => ?_)
              replace hF := kf_le e_z13 hF
              refine kw_goto (pc := 36) (i := 22) (tgt := 4) rfl rfl ?_
              refine kw_sub (lv' := [(3, .int z13), (2, .int z12), (0, .int kind), (1, .int above)]) [0, 1, 2, 3] rfl ?_
              exact ih4 z13 z12 (by omega) hF (by omega)
            · replace hF := kf_p c11 hF
              refine kw_iconst (pc := 25) (i := 15) (v := 1) rfl rfl ?_
              exact kw_ireturn (pc := 26) (i := 16) (ty := .boolean) rfl rfl rfl ⟨rfl, _, rfl, by omega, hF⟩
  exact L3 _ 0 kind (by omega) hF (Nat.lt_succ_self _)
noncomputable def l_X7_weather_19_2 (a1 : Int32) (a2 : Int32) : Nat → Int32 → kw_S → kw_S
  | 0, _, S => S
  | n + 1, x3, S => if x3.toInt < (6 : Int32).toInt then (if x3.toInt < (6 : Int32).toInt then (kf_l (a1 >>> (x3 &&& 31)) fun z1 => kf_l (z1 &&& (1 : Int32)) fun z2 => if z2.toInt = 0 then (kf_l (x3 + Int32.ofInt 1) fun z11 => l_X7_weather_19_2 a1 a2 n z11 S) else (if 0 < a2.toInt then (kf_l (S.1 19 x3.toNatClampNeg) fun z7 => kf_l (z7 - (1 : Int32)) fun z8 => kf_l (if (0 : Int32) < z8 then z8 else (0 : Int32)) fun z9 => kf_l (x3 + Int32.ofInt 1) fun z10 => l_X7_weather_19_2 a1 a2 n z10 (kw_ui S 19 x3.toNatClampNeg z9)) else (kf_l (S.1 19 x3.toNatClampNeg) fun z3 => kf_l (z3 + (2 : Int32)) fun z4 => kf_l (if z4 < (9 : Int32) then z4 else (9 : Int32)) fun z5 => kf_l (x3 + Int32.ofInt 1) fun z6 => l_X7_weather_19_2 a1 a2 n z6 (kw_ui S 19 x3.toNatClampNeg z5)))) else (S)) else (S)
theorem l_X7_weather_19_2_s (a1 : Int32) (a2 : Int32) (n : Nat) (x3 : Int32) (S : kw_S) : l_X7_weather_19_2 a1 a2 (n + 1) x3 S = if x3.toInt < (6 : Int32).toInt then (if x3.toInt < (6 : Int32).toInt then (kf_l (a1 >>> (x3 &&& 31)) fun z1 => kf_l (z1 &&& (1 : Int32)) fun z2 => if z2.toInt = 0 then (kf_l (x3 + Int32.ofInt 1) fun z11 => l_X7_weather_19_2 a1 a2 n z11 S) else (if 0 < a2.toInt then (kf_l (S.1 19 x3.toNatClampNeg) fun z7 => kf_l (z7 - (1 : Int32)) fun z8 => kf_l (if (0 : Int32) < z8 then z8 else (0 : Int32)) fun z9 => kf_l (x3 + Int32.ofInt 1) fun z10 => l_X7_weather_19_2 a1 a2 n z10 (kw_ui S 19 x3.toNatClampNeg z9)) else (kf_l (S.1 19 x3.toNatClampNeg) fun z3 => kf_l (z3 + (2 : Int32)) fun z4 => kf_l (if z4 < (9 : Int32) then z4 else (9 : Int32)) fun z5 => kf_l (x3 + Int32.ofInt 1) fun z6 => l_X7_weather_19_2 a1 a2 n z6 (kw_ui S 19 x3.toNatClampNeg z5)))) else (S)) else (S) := rfl
noncomputable def f_X7_weather_19 (σ : kw_S) (hung : Int32) (wind : Int32) : kw_S := l_X7_weather_19_2 hung wind ((7 - (0 : Int32).toInt).toNat + 1) (0 : Int32) σ
theorem f_X7_weather_19_u (σ : kw_S) (hung : Int32) (wind : Int32) : f_X7_weather_19 σ hung wind = l_X7_weather_19_2 hung wind ((7 - (0 : Int32).toInt).toNat + 1) (0 : Int32) σ := rfl
abbrev p_X7_weather_19 (σ : kw_S) (hung : Int32) (wind : Int32) : Option Value → kw_S → Prop := fun vv σ' => (kw_I bX σ' ∧ kw_F [19] σ σ') ∧ vv = none ∧ σ' = f_X7_weather_19 σ hung wind
set_option maxRecDepth 100000 in
set_option maxHeartbeats 4000000 in
theorem c_X7_weather_19 (l : Launch) (σ : kw_S) (hI : kw_I bX σ) (hung : Int32) (wind : Int32) : kw_Met l 1 KX mX7_weather [.ref 19, .int hung, .int wind] σ (p_X7_weather_19 σ hung wind) := by
  have r_hung := kw_rng hung
  have r_wind := kw_rng wind
  have hF0 : kw_F [19] σ σ := kw_F.rf
  have hF := (f_X7_weather_19_u σ hung wind).symm
  have q_0 : (0 : Int32).toInt = 0 := rfl
  have q_1 : (1 : Int32).toInt = 1 := rfl
  have q_2 : (2 : Int32).toInt = 2 := rfl
  have q_6 : (6 : Int32).toInt = 6 := rfl
  have q_9 : (9 : Int32).toInt = 9 := rfl
  refine kw_Met.of (by decide) rfl tX7_weather (Nat.le_of_ble_eq_true rfl) ?_
  show kw_AW l 1 kw_E0 KX mX7_weather (p_X7_weather_19 σ hung wind) 0 [(0, .ref 19), (1, .int hung), (2, .int wind)] [] σ
  refine kw_iconst (pc := 0) (i := 0) (v := 0) rfl rfl ?_
  refine kw_istore_n (pc := 1) (i := 1) (n := 3) (lv' := [(3, .int 0), (0, .ref 19), (1, .int hung), (2, .int wind)]) rfl rfl (by decide) rfl ?_
  have L5 : ∀ (n9 : Nat) (x1 : Int32) (S2 : kw_S), kw_I bX S2 → kw_F [19] σ S2 → 0 ≤ x1.toInt → l_X7_weather_19_2 hung wind n9 x1 S2 = (f_X7_weather_19 σ hung wind) → (7 - x1.toInt).toNat < n9 → kw_AW l 1 kw_E0 KX mX7_weather (p_X7_weather_19 σ hung wind) 2 [(3, .int x1), (0, .ref 19), (1, .int hung), (2, .int wind)] [] S2 := by
    intro n9
    induction n9 with
    | zero => intro x1 S2 I3 F4 v7 hF m8; exact absurd m8 (Nat.not_lt_zero _)
    | succ n9 ih6 =>
      intro x1 S2 I3 F4 v7 hF m8
      replace hF := kf_st (l_X7_weather_19_2_s _ _ _ _ _) hF
      have r_x1 := kw_rng x1
      refine kw_iload_n (pc := 2) (i := 2) (k := 0) (n := 3) rfl rfl rfl ?_
      refine kw_bipush (pc := 3) (i := 3) (v := 6) rfl rfl ?_
      refine kw_icmp_ge (pc := 5) (i := 4) (tgt := 60) rfl rfl (fun c10 => ?_) (fun c10 => ?_)
      · replace hF := kf_nl c10 hF
        exact kw_return (pc := 60) (i := 38) rfl rfl ⟨⟨I3, F4⟩, rfl, hF⟩
      · replace hF := kf_p c10 hF
        refine kw_iload_n (pc := 8) (i := 5) (k := 0) (n := 3) rfl rfl rfl ?_
        refine kw_aload_n (pc := 9) (i := 6) (k := 1) (n := 0) rfl rfl rfl ?_
        refine kw_alen (pc := 10) (i := 7) (n := 6) (v := 6) rfl rfl rfl ?_
        refine kw_icmp_ge (pc := 11) (i := 8) (tgt := 60) rfl rfl (fun c11 => ?_) (fun c11 => ?_)
        · replace hF := kf_nl c11 hF
          exact kw_return (pc := 60) (i := 38) rfl rfl ⟨⟨I3, F4⟩, rfl, hF⟩
        · replace hF := kf_p c11 hF
          refine kw_iload_n (pc := 14) (i := 9) (k := 2) (n := 1) rfl rfl rfl ?_
          refine kw_iload_n (pc := 15) (i := 10) (k := 0) (n := 3) rfl rfl rfl ?_
          refine kw_ishr (pc := 16) (i := 11) rfl (fun z12 e_z12 => ?_)
          have r_z12 := kw_rng z12
          replace hF := kf_le e_z12 hF
          refine kw_iconst (pc := 17) (i := 12) (v := 1) rfl rfl ?_
          refine kw_iand (pc := 18) (i := 13) rfl (fun z13 e_z13 => ?_)
          have r_z13 := kw_rng z13
          replace hF := kf_le e_z13 hF
          refine kw_if_ne (pc := 19) (i := 14) (tgt := 25) rfl rfl (fun c14 => ?_) (fun c14 => ?_)
          · replace hF := kf_n c14 hF
            refine kw_aload_n (pc := 25) (i := 16) (k := 1) (n := 0) rfl rfl rfl ?_
            refine kw_iload_n (pc := 26) (i := 17) (k := 0) (n := 3) rfl rfl rfl ?_
            refine kw_iload_n (pc := 27) (i := 18) (k := 3) (n := 2) rfl rfl rfl ?_
            refine kw_if_le (pc := 28) (i := 19) (tgt := 43) rfl rfl (fun c15 => ?_) (fun c15 => ?_)
            · replace hF := kf_nl c15 hF
              refine kw_bipush (pc := 43) (i := 28) (v := 9) rfl rfl ?_
              refine kw_aload_n (pc := 45) (i := 29) (k := 1) (n := 0) rfl rfl rfl ?_
              refine kw_iload_n (pc := 46) (i := 30) (k := 0) (n := 3) rfl rfl rfl ?_
              refine kw_iald (pc := 47) (i := 31) (n := 6) rfl rfl (by omega) (by omega) (fun z16 e_z16 => ?_)
              replace hF := kf_le e_z16 hF
              have t_z16 := congrArg Int32.toInt e_z16
              have r_z16 := kw_rng z16
              refine kw_iconst (pc := 48) (i := 32) (v := 2) rfl rfl ?_
              refine kw_iadd (pc := 49) (i := 33) rfl (fun z17 e_z17 t_z17 => ?_)
              replace hF := kf_le e_z17 hF
              refine kw_mmin (pc := 50) (i := 34) rfl jX7_357 (by omega) (Nat.le_of_ble_eq_true rfl) (fun z18 e_z18 t_z18 => ?_)
              replace hF := kf_le e_z18 hF
              refine kw_iast (pc := 53) (i := 35) (n := 6) rfl rfl (by omega) (by omega) ?_
              have I19 : kw_I bX (kw_ui S2 19 x1.toNatClampNeg z18) := kw_I_ui I3 (kw_rng z18).1 (Int.le_of_lt_add_one (kw_rng z18).2)
              have F20 : kw_F [19] σ (kw_ui S2 19 x1.toNatClampNeg z18) := kw_F_ui F4 (by decide)
              refine kw_iinc' (pc := 54) (i := 36) (k := 0) (fun z => [(3, .int z), (0, .ref 19), (1, .int hung), (2, .int wind)]) rfl rfl (by decide) rfl (fun _ => rfl) (fun z21 e_z21 t_z21 => ?_)
              replace hF := kf_le e_z21 hF
              refine kw_goto (pc := 57) (i := 37) (tgt := 2) rfl rfl ?_
              refine kw_sub (lv' := [(3, .int z21), (0, .ref 19), (1, .int hung), (2, .int wind)]) [0, 1, 2, 3] rfl ?_
              exact ih6 z21 (kw_ui S2 19 x1.toNatClampNeg z18) I19 F20 (by omega) hF (by omega)
            · replace hF := kf_p c15 hF
              refine kw_iconst (pc := 31) (i := 20) (v := 0) rfl rfl ?_
              refine kw_aload_n (pc := 32) (i := 21) (k := 1) (n := 0) rfl rfl rfl ?_
              refine kw_iload_n (pc := 33) (i := 22) (k := 0) (n := 3) rfl rfl rfl ?_
              refine kw_iald (pc := 34) (i := 23) (n := 6) rfl rfl (by omega) (by omega) (fun z22 e_z22 => ?_)
              replace hF := kf_le e_z22 hF
              have t_z22 := congrArg Int32.toInt e_z22
              have r_z22 := kw_rng z22
              refine kw_iconst (pc := 35) (i := 24) (v := 1) rfl rfl ?_
              refine kw_isub (pc := 36) (i := 25) rfl (fun z23 e_z23 t_z23 => ?_)
              replace hF := kf_le e_z23 hF
              refine kw_mmax (pc := 37) (i := 26) rfl jX7_352 (by omega) (Nat.le_of_ble_eq_true rfl) (fun z24 e_z24 t_z24 => ?_)
              replace hF := kf_le e_z24 hF
              refine kw_goto (pc := 40) (i := 27) (tgt := 53) rfl rfl ?_
              refine kw_iast (pc := 53) (i := 35) (n := 6) rfl rfl (by omega) (by omega) ?_
              have I25 : kw_I bX (kw_ui S2 19 x1.toNatClampNeg z24) := kw_I_ui I3 (kw_rng z24).1 (Int.le_of_lt_add_one (kw_rng z24).2)
              have F26 : kw_F [19] σ (kw_ui S2 19 x1.toNatClampNeg z24) := kw_F_ui F4 (by decide)
              refine kw_iinc' (pc := 54) (i := 36) (k := 0) (fun z => [(3, .int z), (0, .ref 19), (1, .int hung), (2, .int wind)]) rfl rfl (by decide) rfl (fun _ => rfl) (fun z27 e_z27 t_z27 => ?_)
              replace hF := kf_le e_z27 hF
              refine kw_goto (pc := 57) (i := 37) (tgt := 2) rfl rfl ?_
              refine kw_sub (lv' := [(3, .int z27), (0, .ref 19), (1, .int hung), (2, .int wind)]) [0, 1, 2, 3] rfl ?_
              exact ih6 z27 (kw_ui S2 19 x1.toNatClampNeg z24) I25 F26 (by omega) hF (by omega)
          · replace hF := kf_p c14 hF
            refine kw_goto (pc := 22) (i := 15) (tgt := 54) rfl rfl ?_
            refine kw_iinc' (pc := 54) (i := 36) (k := 0) (fun z => [(3, .int z), (0, .ref 19), (1, .int hung), (2, .int wind)]) rfl rfl (by decide) rfl (fun _ => rfl) (fun z28 e_z28 t_z28 => ?_)
            replace hF := kf_le e_z28 hF
            refine kw_goto (pc := 57) (i := 37) (tgt := 2) rfl rfl ?_
            refine kw_sub (lv' := [(3, .int z28), (0, .ref 19), (1, .int hung), (2, .int wind)]) [0, 1, 2, 3] rfl ?_
            exact ih6 z28 S2 I3 F4 (by omega) hF (by omega)
  exact L5 _ 0 σ hI hF0 (by omega) hF (Nat.lt_succ_self _)
noncomputable def l_X7_weather_9_2 (a1 : Int32) (a2 : Int32) : Nat → Int32 → kw_S → kw_S
  | 0, _, S => S
  | n + 1, x3, S => if x3.toInt < (6 : Int32).toInt then (if x3.toInt < (6 : Int32).toInt then (kf_l (a1 >>> (x3 &&& 31)) fun z1 => kf_l (z1 &&& (1 : Int32)) fun z2 => if z2.toInt = 0 then (kf_l (x3 + Int32.ofInt 1) fun z11 => l_X7_weather_9_2 a1 a2 n z11 S) else (if 0 < a2.toInt then (kf_l (S.1 9 x3.toNatClampNeg) fun z7 => kf_l (z7 - (1 : Int32)) fun z8 => kf_l (if (0 : Int32) < z8 then z8 else (0 : Int32)) fun z9 => kf_l (x3 + Int32.ofInt 1) fun z10 => l_X7_weather_9_2 a1 a2 n z10 (kw_ui S 9 x3.toNatClampNeg z9)) else (kf_l (S.1 9 x3.toNatClampNeg) fun z3 => kf_l (z3 + (2 : Int32)) fun z4 => kf_l (if z4 < (9 : Int32) then z4 else (9 : Int32)) fun z5 => kf_l (x3 + Int32.ofInt 1) fun z6 => l_X7_weather_9_2 a1 a2 n z6 (kw_ui S 9 x3.toNatClampNeg z5)))) else (S)) else (S)
theorem l_X7_weather_9_2_s (a1 : Int32) (a2 : Int32) (n : Nat) (x3 : Int32) (S : kw_S) : l_X7_weather_9_2 a1 a2 (n + 1) x3 S = if x3.toInt < (6 : Int32).toInt then (if x3.toInt < (6 : Int32).toInt then (kf_l (a1 >>> (x3 &&& 31)) fun z1 => kf_l (z1 &&& (1 : Int32)) fun z2 => if z2.toInt = 0 then (kf_l (x3 + Int32.ofInt 1) fun z11 => l_X7_weather_9_2 a1 a2 n z11 S) else (if 0 < a2.toInt then (kf_l (S.1 9 x3.toNatClampNeg) fun z7 => kf_l (z7 - (1 : Int32)) fun z8 => kf_l (if (0 : Int32) < z8 then z8 else (0 : Int32)) fun z9 => kf_l (x3 + Int32.ofInt 1) fun z10 => l_X7_weather_9_2 a1 a2 n z10 (kw_ui S 9 x3.toNatClampNeg z9)) else (kf_l (S.1 9 x3.toNatClampNeg) fun z3 => kf_l (z3 + (2 : Int32)) fun z4 => kf_l (if z4 < (9 : Int32) then z4 else (9 : Int32)) fun z5 => kf_l (x3 + Int32.ofInt 1) fun z6 => l_X7_weather_9_2 a1 a2 n z6 (kw_ui S 9 x3.toNatClampNeg z5)))) else (S)) else (S) := rfl
noncomputable def f_X7_weather_9 (σ : kw_S) (hung : Int32) (wind : Int32) : kw_S := l_X7_weather_9_2 hung wind ((7 - (0 : Int32).toInt).toNat + 1) (0 : Int32) σ
theorem f_X7_weather_9_u (σ : kw_S) (hung : Int32) (wind : Int32) : f_X7_weather_9 σ hung wind = l_X7_weather_9_2 hung wind ((7 - (0 : Int32).toInt).toNat + 1) (0 : Int32) σ := rfl
abbrev p_X7_weather_9 (σ : kw_S) (hung : Int32) (wind : Int32) : Option Value → kw_S → Prop := fun vv σ' => (kw_I bX σ' ∧ kw_F [9] σ σ') ∧ vv = none ∧ σ' = f_X7_weather_9 σ hung wind
set_option maxRecDepth 100000 in
set_option maxHeartbeats 4000000 in
theorem c_X7_weather_9 (l : Launch) (σ : kw_S) (hI : kw_I bX σ) (hung : Int32) (wind : Int32) : kw_Met l 1 KX mX7_weather [.ref 9, .int hung, .int wind] σ (p_X7_weather_9 σ hung wind) := by
  have r_hung := kw_rng hung
  have r_wind := kw_rng wind
  have hF0 : kw_F [9] σ σ := kw_F.rf
  have hF := (f_X7_weather_9_u σ hung wind).symm
  have q_0 : (0 : Int32).toInt = 0 := rfl
  have q_1 : (1 : Int32).toInt = 1 := rfl
  have q_2 : (2 : Int32).toInt = 2 := rfl
  have q_6 : (6 : Int32).toInt = 6 := rfl
  have q_9 : (9 : Int32).toInt = 9 := rfl
  refine kw_Met.of (by decide) rfl tX7_weather (Nat.le_of_ble_eq_true rfl) ?_
  show kw_AW l 1 kw_E0 KX mX7_weather (p_X7_weather_9 σ hung wind) 0 [(0, .ref 9), (1, .int hung), (2, .int wind)] [] σ
  refine kw_iconst (pc := 0) (i := 0) (v := 0) rfl rfl ?_
  refine kw_istore_n (pc := 1) (i := 1) (n := 3) (lv' := [(3, .int 0), (0, .ref 9), (1, .int hung), (2, .int wind)]) rfl rfl (by decide) rfl ?_
  have L5 : ∀ (n9 : Nat) (x1 : Int32) (S2 : kw_S), kw_I bX S2 → kw_F [9] σ S2 → 0 ≤ x1.toInt → l_X7_weather_9_2 hung wind n9 x1 S2 = (f_X7_weather_9 σ hung wind) → (7 - x1.toInt).toNat < n9 → kw_AW l 1 kw_E0 KX mX7_weather (p_X7_weather_9 σ hung wind) 2 [(3, .int x1), (0, .ref 9), (1, .int hung), (2, .int wind)] [] S2 := by
    intro n9
    induction n9 with
    | zero => intro x1 S2 I3 F4 v7 hF m8; exact absurd m8 (Nat.not_lt_zero _)
    | succ n9 ih6 =>
      intro x1 S2 I3 F4 v7 hF m8
      replace hF := kf_st (l_X7_weather_9_2_s _ _ _ _ _) hF
      have r_x1 := kw_rng x1
      refine kw_iload_n (pc := 2) (i := 2) (k := 0) (n := 3) rfl rfl rfl ?_
      refine kw_bipush (pc := 3) (i := 3) (v := 6) rfl rfl ?_
      refine kw_icmp_ge (pc := 5) (i := 4) (tgt := 60) rfl rfl (fun c10 => ?_) (fun c10 => ?_)
      · replace hF := kf_nl c10 hF
        exact kw_return (pc := 60) (i := 38) rfl rfl ⟨⟨I3, F4⟩, rfl, hF⟩
      · replace hF := kf_p c10 hF
        refine kw_iload_n (pc := 8) (i := 5) (k := 0) (n := 3) rfl rfl rfl ?_
        refine kw_aload_n (pc := 9) (i := 6) (k := 1) (n := 0) rfl rfl rfl ?_
        refine kw_alen (pc := 10) (i := 7) (n := 6) (v := 6) rfl rfl rfl ?_
        refine kw_icmp_ge (pc := 11) (i := 8) (tgt := 60) rfl rfl (fun c11 => ?_) (fun c11 => ?_)
        · replace hF := kf_nl c11 hF
          exact kw_return (pc := 60) (i := 38) rfl rfl ⟨⟨I3, F4⟩, rfl, hF⟩
        · replace hF := kf_p c11 hF
          refine kw_iload_n (pc := 14) (i := 9) (k := 2) (n := 1) rfl rfl rfl ?_
          refine kw_iload_n (pc := 15) (i := 10) (k := 0) (n := 3) rfl rfl rfl ?_
          refine kw_ishr (pc := 16) (i := 11) rfl (fun z12 e_z12 => ?_)
          have r_z12 := kw_rng z12
          replace hF := kf_le e_z12 hF
          refine kw_iconst (pc := 17) (i := 12) (v := 1) rfl rfl ?_
          refine kw_iand (pc := 18) (i := 13) rfl (fun z13 e_z13 => ?_)
          have r_z13 := kw_rng z13
          replace hF := kf_le e_z13 hF
          refine kw_if_ne (pc := 19) (i := 14) (tgt := 25) rfl rfl (fun c14 => ?_) (fun c14 => ?_)
          · replace hF := kf_n c14 hF
            refine kw_aload_n (pc := 25) (i := 16) (k := 1) (n := 0) rfl rfl rfl ?_
            refine kw_iload_n (pc := 26) (i := 17) (k := 0) (n := 3) rfl rfl rfl ?_
            refine kw_iload_n (pc := 27) (i := 18) (k := 3) (n := 2) rfl rfl rfl ?_
            refine kw_if_le (pc := 28) (i := 19) (tgt := 43) rfl rfl (fun c15 => ?_) (fun c15 => ?_)
            · replace hF := kf_nl c15 hF
              refine kw_bipush (pc := 43) (i := 28) (v := 9) rfl rfl ?_
              refine kw_aload_n (pc := 45) (i := 29) (k := 1) (n := 0) rfl rfl rfl ?_
              refine kw_iload_n (pc := 46) (i := 30) (k := 0) (n := 3) rfl rfl rfl ?_
              refine kw_iald (pc := 47) (i := 31) (n := 6) rfl rfl (by omega) (by omega) (fun z16 e_z16 => ?_)
              replace hF := kf_le e_z16 hF
              have t_z16 := congrArg Int32.toInt e_z16
              have r_z16 := kw_rng z16
              refine kw_iconst (pc := 48) (i := 32) (v := 2) rfl rfl ?_
              refine kw_iadd (pc := 49) (i := 33) rfl (fun z17 e_z17 t_z17 => ?_)
              replace hF := kf_le e_z17 hF
              refine kw_mmin (pc := 50) (i := 34) rfl jX7_357 (by omega) (Nat.le_of_ble_eq_true rfl) (fun z18 e_z18 t_z18 => ?_)
              replace hF := kf_le e_z18 hF
              refine kw_iast (pc := 53) (i := 35) (n := 6) rfl rfl (by omega) (by omega) ?_
              have I19 : kw_I bX (kw_ui S2 9 x1.toNatClampNeg z18) := kw_I_ui I3 (kw_rng z18).1 (Int.le_of_lt_add_one (kw_rng z18).2)
              have F20 : kw_F [9] σ (kw_ui S2 9 x1.toNatClampNeg z18) := kw_F_ui F4 (by decide)
              refine kw_iinc' (pc := 54) (i := 36) (k := 0) (fun z => [(3, .int z), (0, .ref 9), (1, .int hung), (2, .int wind)]) rfl rfl (by decide) rfl (fun _ => rfl) (fun z21 e_z21 t_z21 => ?_)
              replace hF := kf_le e_z21 hF
              refine kw_goto (pc := 57) (i := 37) (tgt := 2) rfl rfl ?_
              refine kw_sub (lv' := [(3, .int z21), (0, .ref 9), (1, .int hung), (2, .int wind)]) [0, 1, 2, 3] rfl ?_
              exact ih6 z21 (kw_ui S2 9 x1.toNatClampNeg z18) I19 F20 (by omega) hF (by omega)
            · replace hF := kf_p c15 hF
              refine kw_iconst (pc := 31) (i := 20) (v := 0) rfl rfl ?_
              refine kw_aload_n (pc := 32) (i := 21) (k := 1) (n := 0) rfl rfl rfl ?_
              refine kw_iload_n (pc := 33) (i := 22) (k := 0) (n := 3) rfl rfl rfl ?_
              refine kw_iald (pc := 34) (i := 23) (n := 6) rfl rfl (by omega) (by omega) (fun z22 e_z22 => ?_)
              replace hF := kf_le e_z22 hF
              have t_z22 := congrArg Int32.toInt e_z22
              have r_z22 := kw_rng z22
              refine kw_iconst (pc := 35) (i := 24) (v := 1) rfl rfl ?_
              refine kw_isub (pc := 36) (i := 25) rfl (fun z23 e_z23 t_z23 => ?_)
              replace hF := kf_le e_z23 hF
              refine kw_mmax (pc := 37) (i := 26) rfl jX7_352 (by omega) (Nat.le_of_ble_eq_true rfl) (fun z24 e_z24 t_z24 => ?_)
              replace hF := kf_le e_z24 hF
              refine kw_goto (pc := 40) (i := 27) (tgt := 53) rfl rfl ?_
              refine kw_iast (pc := 53) (i := 35) (n := 6) rfl rfl (by omega) (by omega) ?_
              have I25 : kw_I bX (kw_ui S2 9 x1.toNatClampNeg z24) := kw_I_ui I3 (kw_rng z24).1 (Int.le_of_lt_add_one (kw_rng z24).2)
              have F26 : kw_F [9] σ (kw_ui S2 9 x1.toNatClampNeg z24) := kw_F_ui F4 (by decide)
              refine kw_iinc' (pc := 54) (i := 36) (k := 0) (fun z => [(3, .int z), (0, .ref 9), (1, .int hung), (2, .int wind)]) rfl rfl (by decide) rfl (fun _ => rfl) (fun z27 e_z27 t_z27 => ?_)
              replace hF := kf_le e_z27 hF
              refine kw_goto (pc := 57) (i := 37) (tgt := 2) rfl rfl ?_
              refine kw_sub (lv' := [(3, .int z27), (0, .ref 9), (1, .int hung), (2, .int wind)]) [0, 1, 2, 3] rfl ?_
              exact ih6 z27 (kw_ui S2 9 x1.toNatClampNeg z24) I25 F26 (by omega) hF (by omega)
          · replace hF := kf_p c14 hF
            refine kw_goto (pc := 22) (i := 15) (tgt := 54) rfl rfl ?_
            refine kw_iinc' (pc := 54) (i := 36) (k := 0) (fun z => [(3, .int z), (0, .ref 9), (1, .int hung), (2, .int wind)]) rfl rfl (by decide) rfl (fun _ => rfl) (fun z28 e_z28 t_z28 => ?_)
            replace hF := kf_le e_z28 hF
            refine kw_goto (pc := 57) (i := 37) (tgt := 2) rfl rfl ?_
            refine kw_sub (lv' := [(3, .int z28), (0, .ref 9), (1, .int hung), (2, .int wind)]) [0, 1, 2, 3] rfl ?_
            exact ih6 z28 S2 I3 F4 (by omega) hF (by omega)
  exact L5 _ 0 σ hI hF0 (by omega) hF (Nat.lt_succ_self _)
end
section
noncomputable def f_X1_copyFrom_17_16 (σ : kw_S)  : kw_S := kf_l (kw_ua σ 44 (va_cpy (σ.1 39) (σ.1 44) ((0 : Int32).toNatClampNeg) ((0 : Int32).toNatClampNeg) ((6 : Int32).toNatClampNeg))) fun S1 => kf_l (kw_ua S1 45 (va_cpy (S1.1 40) (S1.1 45) ((0 : Int32).toNatClampNeg) ((0 : Int32).toNatClampNeg) ((6 : Int32).toNatClampNeg))) fun S2 => kf_l (kw_ua S2 46 (va_cpy (S2.1 41) (S2.1 46) ((0 : Int32).toNatClampNeg) ((0 : Int32).toNatClampNeg) ((6 : Int32).toNatClampNeg))) fun S3 => kf_l (kw_ua S3 47 (va_cpy (S3.1 42) (S3.1 47) ((0 : Int32).toNatClampNeg) ((0 : Int32).toNatClampNeg) ((6 : Int32).toNatClampNeg))) fun S4 => kf_l (kw_ua S4 48 (va_cpy (S4.1 43) (S4.1 48) ((0 : Int32).toNatClampNeg) ((0 : Int32).toNatClampNeg) ((8 : Int32).toNatClampNeg))) fun S5 => kw_ui (kw_ui S5 17 5 (S5.1 16 5)) 17 6 (S5.1 16 6)
theorem f_X1_copyFrom_17_16_u (σ : kw_S)  : f_X1_copyFrom_17_16 σ  = kf_l (kw_ua σ 44 (va_cpy (σ.1 39) (σ.1 44) ((0 : Int32).toNatClampNeg) ((0 : Int32).toNatClampNeg) ((6 : Int32).toNatClampNeg))) fun S1 => kf_l (kw_ua S1 45 (va_cpy (S1.1 40) (S1.1 45) ((0 : Int32).toNatClampNeg) ((0 : Int32).toNatClampNeg) ((6 : Int32).toNatClampNeg))) fun S2 => kf_l (kw_ua S2 46 (va_cpy (S2.1 41) (S2.1 46) ((0 : Int32).toNatClampNeg) ((0 : Int32).toNatClampNeg) ((6 : Int32).toNatClampNeg))) fun S3 => kf_l (kw_ua S3 47 (va_cpy (S3.1 42) (S3.1 47) ((0 : Int32).toNatClampNeg) ((0 : Int32).toNatClampNeg) ((6 : Int32).toNatClampNeg))) fun S4 => kf_l (kw_ua S4 48 (va_cpy (S4.1 43) (S4.1 48) ((0 : Int32).toNatClampNeg) ((0 : Int32).toNatClampNeg) ((8 : Int32).toNatClampNeg))) fun S5 => kw_ui (kw_ui S5 17 5 (S5.1 16 5)) 17 6 (S5.1 16 6) := rfl
abbrev p_X1_copyFrom_17_16 (σ : kw_S)  : Option Value → kw_S → Prop := fun vv σ' => (kw_I bX σ' ∧ kw_F [17, 44, 45, 46, 47, 48] σ σ') ∧ vv = none ∧ σ' = f_X1_copyFrom_17_16 σ
set_option maxRecDepth 100000 in
set_option maxHeartbeats 4000000 in
theorem c_X1_copyFrom_17_16 (l : Launch) (σ : kw_S) (hI : kw_I bX σ)  : kw_Met l 2 KX mX1_copyFrom [.ref 17, .ref 16] σ (p_X1_copyFrom_17_16 σ) := by
  have hF0 : kw_F [17, 44, 45, 46, 47, 48] σ σ := kw_F.rf
  have hF := (f_X1_copyFrom_17_16_u σ).symm
  have q_0 : (0 : Int32).toInt = 0 := rfl
  have q_6 : (6 : Int32).toInt = 6 := rfl
  have q_8 : (8 : Int32).toInt = 8 := rfl
  refine kw_Met.of (by decide) rfl tX1_copyFrom (Nat.le_of_ble_eq_true rfl) ?_
  show kw_AW l 2 kw_E0 KX mX1_copyFrom (p_X1_copyFrom_17_16 σ) 0 [(0, .ref 17), (1, .ref 16)] [] σ
  refine kw_aload_n (pc := 0) (i := 0) (k := 1) (n := 1) rfl rfl rfl ?_
  refine kw_get (pc := 1) (i := 1) (v := .ref 39) rfl rfl rfl lkX1_9 (fun _ => rfl) ?_
  refine kw_iconst (pc := 4) (i := 2) (v := 0) rfl rfl ?_
  refine kw_aload_n (pc := 5) (i := 3) (k := 0) (n := 0) rfl rfl rfl ?_
  refine kw_get (pc := 6) (i := 4) (v := .ref 44) rfl rfl rfl lkX1_9 (fun _ => rfl) ?_
  refine kw_iconst (pc := 9) (i := 5) (v := 0) rfl rfl ?_
  refine kw_bipush (pc := 10) (i := 6) (v := 6) rfl rfl ?_
  refine kw_copy (pc := 12) (i := 7) (n := 6) (m_ := 6) rfl laX1_27 rfl rfl (by omega) (by omega) (by omega) (by omega) (by omega) (by omega) (Nat.le_of_ble_eq_true rfl) ?_
  have I1 : kw_I bX (kw_ua σ 44 (va_cpy (σ.1 39) (σ.1 44) ((0 : Int32).toNatClampNeg) ((0 : Int32).toNatClampNeg) ((6 : Int32).toNatClampNeg))) := kw_I_ua hI (fun j => ⟨(kw_rng _).1, Int.le_of_lt_add_one (kw_rng _).2⟩)
  have F2 : kw_F [17, 44, 45, 46, 47, 48] σ (kw_ua σ 44 (va_cpy (σ.1 39) (σ.1 44) ((0 : Int32).toNatClampNeg) ((0 : Int32).toNatClampNeg) ((6 : Int32).toNatClampNeg))) := kw_F_ua hF0 (by decide)
  generalize hS3 : (kw_ua σ 44 (va_cpy (σ.1 39) (σ.1 44) ((0 : Int32).toNatClampNeg) ((0 : Int32).toNatClampNeg) ((6 : Int32).toNatClampNeg))) = S3 at I1 F2 ⊢
  replace hF := kf_le hS3.symm hF
  refine kw_aload_n (pc := 15) (i := 8) (k := 1) (n := 1) rfl rfl rfl ?_
  refine kw_get (pc := 16) (i := 9) (v := .ref 40) rfl rfl rfl lkX1_15 (fun _ => rfl) ?_
  refine kw_iconst (pc := 19) (i := 10) (v := 0) rfl rfl ?_
  refine kw_aload_n (pc := 20) (i := 11) (k := 0) (n := 0) rfl rfl rfl ?_
  refine kw_get (pc := 21) (i := 12) (v := .ref 45) rfl rfl rfl lkX1_15 (fun _ => rfl) ?_
  refine kw_iconst (pc := 24) (i := 13) (v := 0) rfl rfl ?_
  refine kw_bipush (pc := 25) (i := 14) (v := 6) rfl rfl ?_
  refine kw_copy (pc := 27) (i := 15) (n := 6) (m_ := 6) rfl laX1_27 rfl rfl (by omega) (by omega) (by omega) (by omega) (by omega) (by omega) (Nat.le_of_ble_eq_true rfl) ?_
  have I4 : kw_I bX (kw_ua S3 45 (va_cpy (S3.1 40) (S3.1 45) ((0 : Int32).toNatClampNeg) ((0 : Int32).toNatClampNeg) ((6 : Int32).toNatClampNeg))) := kw_I_ua I1 (fun j => ⟨(kw_rng _).1, Int.le_of_lt_add_one (kw_rng _).2⟩)
  have F5 : kw_F [17, 44, 45, 46, 47, 48] σ (kw_ua S3 45 (va_cpy (S3.1 40) (S3.1 45) ((0 : Int32).toNatClampNeg) ((0 : Int32).toNatClampNeg) ((6 : Int32).toNatClampNeg))) := kw_F_ua F2 (by decide)
  generalize hS6 : (kw_ua S3 45 (va_cpy (S3.1 40) (S3.1 45) ((0 : Int32).toNatClampNeg) ((0 : Int32).toNatClampNeg) ((6 : Int32).toNatClampNeg))) = S6 at I4 F5 ⊢
  replace hF := kf_le hS6.symm hF
  refine kw_aload_n (pc := 30) (i := 16) (k := 1) (n := 1) rfl rfl rfl ?_
  refine kw_get (pc := 31) (i := 17) (v := .ref 41) rfl rfl rfl lkX1_18 (fun _ => rfl) ?_
  refine kw_iconst (pc := 34) (i := 18) (v := 0) rfl rfl ?_
  refine kw_aload_n (pc := 35) (i := 19) (k := 0) (n := 0) rfl rfl rfl ?_
  refine kw_get (pc := 36) (i := 20) (v := .ref 46) rfl rfl rfl lkX1_18 (fun _ => rfl) ?_
  refine kw_iconst (pc := 39) (i := 21) (v := 0) rfl rfl ?_
  refine kw_bipush (pc := 40) (i := 22) (v := 6) rfl rfl ?_
  refine kw_copy (pc := 42) (i := 23) (n := 6) (m_ := 6) rfl laX1_27 rfl rfl (by omega) (by omega) (by omega) (by omega) (by omega) (by omega) (Nat.le_of_ble_eq_true rfl) ?_
  have I7 : kw_I bX (kw_ua S6 46 (va_cpy (S6.1 41) (S6.1 46) ((0 : Int32).toNatClampNeg) ((0 : Int32).toNatClampNeg) ((6 : Int32).toNatClampNeg))) := kw_I_ua I4 (fun j => ⟨(kw_rng _).1, Int.le_of_lt_add_one (kw_rng _).2⟩)
  have F8 : kw_F [17, 44, 45, 46, 47, 48] σ (kw_ua S6 46 (va_cpy (S6.1 41) (S6.1 46) ((0 : Int32).toNatClampNeg) ((0 : Int32).toNatClampNeg) ((6 : Int32).toNatClampNeg))) := kw_F_ua F5 (by decide)
  generalize hS9 : (kw_ua S6 46 (va_cpy (S6.1 41) (S6.1 46) ((0 : Int32).toNatClampNeg) ((0 : Int32).toNatClampNeg) ((6 : Int32).toNatClampNeg))) = S9 at I7 F8 ⊢
  replace hF := kf_le hS9.symm hF
  refine kw_aload_n (pc := 45) (i := 24) (k := 1) (n := 1) rfl rfl rfl ?_
  refine kw_get (pc := 46) (i := 25) (v := .ref 42) rfl rfl rfl lkX1_21 (fun _ => rfl) ?_
  refine kw_iconst (pc := 49) (i := 26) (v := 0) rfl rfl ?_
  refine kw_aload_n (pc := 50) (i := 27) (k := 0) (n := 0) rfl rfl rfl ?_
  refine kw_get (pc := 51) (i := 28) (v := .ref 47) rfl rfl rfl lkX1_21 (fun _ => rfl) ?_
  refine kw_iconst (pc := 54) (i := 29) (v := 0) rfl rfl ?_
  refine kw_bipush (pc := 55) (i := 30) (v := 6) rfl rfl ?_
  refine kw_copy (pc := 57) (i := 31) (n := 6) (m_ := 6) rfl laX1_27 rfl rfl (by omega) (by omega) (by omega) (by omega) (by omega) (by omega) (Nat.le_of_ble_eq_true rfl) ?_
  have I10 : kw_I bX (kw_ua S9 47 (va_cpy (S9.1 42) (S9.1 47) ((0 : Int32).toNatClampNeg) ((0 : Int32).toNatClampNeg) ((6 : Int32).toNatClampNeg))) := kw_I_ua I7 (fun j => ⟨(kw_rng _).1, Int.le_of_lt_add_one (kw_rng _).2⟩)
  have F11 : kw_F [17, 44, 45, 46, 47, 48] σ (kw_ua S9 47 (va_cpy (S9.1 42) (S9.1 47) ((0 : Int32).toNatClampNeg) ((0 : Int32).toNatClampNeg) ((6 : Int32).toNatClampNeg))) := kw_F_ua F8 (by decide)
  generalize hS12 : (kw_ua S9 47 (va_cpy (S9.1 42) (S9.1 47) ((0 : Int32).toNatClampNeg) ((0 : Int32).toNatClampNeg) ((6 : Int32).toNatClampNeg))) = S12 at I10 F11 ⊢
  replace hF := kf_le hS12.symm hF
  refine kw_aload_n (pc := 60) (i := 32) (k := 1) (n := 1) rfl rfl rfl ?_
  refine kw_get (pc := 61) (i := 33) (v := .ref 43) rfl rfl rfl lkX1_24 (fun _ => rfl) ?_
  refine kw_iconst (pc := 64) (i := 34) (v := 0) rfl rfl ?_
  refine kw_aload_n (pc := 65) (i := 35) (k := 0) (n := 0) rfl rfl rfl ?_
  refine kw_get (pc := 66) (i := 36) (v := .ref 48) rfl rfl rfl lkX1_24 (fun _ => rfl) ?_
  refine kw_iconst (pc := 69) (i := 37) (v := 0) rfl rfl ?_
  refine kw_bipush (pc := 70) (i := 38) (v := 8) rfl rfl ?_
  refine kw_copy (pc := 72) (i := 39) (n := 8) (m_ := 8) rfl laX1_27 rfl rfl (by omega) (by omega) (by omega) (by omega) (by omega) (by omega) (Nat.le_of_ble_eq_true rfl) ?_
  have I13 : kw_I bX (kw_ua S12 48 (va_cpy (S12.1 43) (S12.1 48) ((0 : Int32).toNatClampNeg) ((0 : Int32).toNatClampNeg) ((8 : Int32).toNatClampNeg))) := kw_I_ua I10 (fun j => ⟨(kw_rng _).1, Int.le_of_lt_add_one (kw_rng _).2⟩)
  have F14 : kw_F [17, 44, 45, 46, 47, 48] σ (kw_ua S12 48 (va_cpy (S12.1 43) (S12.1 48) ((0 : Int32).toNatClampNeg) ((0 : Int32).toNatClampNeg) ((8 : Int32).toNatClampNeg))) := kw_F_ua F11 (by decide)
  generalize hS15 : (kw_ua S12 48 (va_cpy (S12.1 43) (S12.1 48) ((0 : Int32).toNatClampNeg) ((0 : Int32).toNatClampNeg) ((8 : Int32).toNatClampNeg))) = S15 at I13 F14 ⊢
  replace hF := kf_le hS15.symm hF
  refine kw_aload_n (pc := 75) (i := 40) (k := 0) (n := 0) rfl rfl rfl ?_
  refine kw_aload_n (pc := 76) (i := 41) (k := 1) (n := 1) rfl rfl rfl ?_
  refine kw_get (pc := 77) (i := 42) (v := .int (S15.1 16 5)) rfl rfl rfl lkX1_33 (fun _ => rfl) ?_
  have b16 : 0 ≤ (S15.1 16 5).toInt ∧ (S15.1 16 5).toInt ≤ 6 := I13 16 5
  refine kw_puti (pc := 80) (i := 43) (z := 0) rfl rfl rfl lpX1_33 rfl rfl ?_
  have I17 : kw_I bX (kw_ui S15 17 5 (S15.1 16 5)) := kw_I_ui I13 (show 0 ≤ (S15.1 16 5).toInt by omega) (show (S15.1 16 5).toInt ≤ 6 by omega)
  have F18 : kw_F [17, 44, 45, 46, 47, 48] σ (kw_ui S15 17 5 (S15.1 16 5)) := kw_F_ui F14 (by decide)
  refine kw_aload_n (pc := 83) (i := 44) (k := 0) (n := 0) rfl rfl rfl ?_
  refine kw_aload_n (pc := 84) (i := 45) (k := 1) (n := 1) rfl rfl rfl ?_
  refine kw_get (pc := 85) (i := 46) (v := .int (S15.1 16 6)) rfl rfl rfl lkX1_37 (fun _ => rfl) ?_
  have b19 : 0 ≤ (S15.1 16 6).toInt ∧ (S15.1 16 6).toInt ≤ 8 := I13 16 6
  refine kw_puti (pc := 88) (i := 47) (z := 0) rfl rfl rfl lpX1_37 rfl rfl ?_
  have I20 : kw_I bX (kw_ui (kw_ui S15 17 5 (S15.1 16 5)) 17 6 (S15.1 16 6)) := kw_I_ui I17 (show 0 ≤ (S15.1 16 6).toInt by omega) (show (S15.1 16 6).toInt ≤ 8 by omega)
  have F21 : kw_F [17, 44, 45, 46, 47, 48] σ (kw_ui (kw_ui S15 17 5 (S15.1 16 5)) 17 6 (S15.1 16 6)) := kw_F_ui F18 (by decide)
  exact kw_return (pc := 91) (i := 48) rfl rfl ⟨⟨I20, F21⟩, rfl, hF⟩
noncomputable def f_X1_hasLine_17 (σ : kw_S) (i : Int32) : Int32 := if i.toInt < 0 then ((0 : Int32)) else (if i.toInt < (σ.1 17 5).toInt then ((1 : Int32)) else ((0 : Int32)))
theorem f_X1_hasLine_17_u (σ : kw_S) (i : Int32) : f_X1_hasLine_17 σ i = if i.toInt < 0 then ((0 : Int32)) else (if i.toInt < (σ.1 17 5).toInt then ((1 : Int32)) else ((0 : Int32))) := rfl
abbrev p_X1_hasLine_17 (σ : kw_S) (i : Int32) : Option Value → kw_S → Prop := fun vv σ' => σ' = σ ∧ ∃ r : Int32, vv = some (.int r) ∧ (r.toInt = 0 ∨ r.toInt = 1) ∧ (r.toInt = 0 ∨ 0 ≤ i.toInt ∧ i.toInt < (σ.1 17 5).toInt ∧ i.toInt < 6) ∧ r = f_X1_hasLine_17 σ i
set_option maxRecDepth 100000 in
set_option maxHeartbeats 4000000 in
theorem c_X1_hasLine_17 (l : Launch) (σ : kw_S) (hI : kw_I bX σ) (i : Int32) : kw_Met l 1 KX mX1_hasLine [.ref 17, .int i] σ (p_X1_hasLine_17 σ i) := by
  have r_i := kw_rng i
  have hF := (f_X1_hasLine_17_u σ i).symm
  have q_0 : (0 : Int32).toInt = 0 := rfl
  have q_1 : (1 : Int32).toInt = 1 := rfl
  refine kw_Met.of (by decide) rfl tX1_hasLine (Nat.le_of_ble_eq_true rfl) ?_
  show kw_AW l 1 kw_E0 KX mX1_hasLine (p_X1_hasLine_17 σ i) 0 [(0, .ref 17), (1, .int i)] [] σ
  refine kw_iload_n (pc := 0) (i := 0) (k := 1) (n := 1) rfl rfl rfl ?_
  refine kw_if_lt (pc := 1) (i := 1) (tgt := 16) rfl rfl (fun c1 => ?_) (fun c1 => ?_)
  · replace hF := kf_p c1 hF
    refine kw_iconst (pc := 16) (i := 8) (v := 0) rfl rfl ?_
    exact kw_ireturn (pc := 17) (i := 9) (ty := .boolean) rfl rfl rfl ⟨rfl, _, rfl, by omega, by omega, hF⟩
  · replace hF := kf_nl c1 hF
    refine kw_iload_n (pc := 4) (i := 2) (k := 1) (n := 1) rfl rfl rfl ?_
    refine kw_aload_n (pc := 5) (i := 3) (k := 0) (n := 0) rfl rfl rfl ?_
    refine kw_get (pc := 6) (i := 4) (v := .int (σ.1 17 5)) rfl rfl rfl lkX1_33 (fun _ => rfl) ?_
    have b2 : 0 ≤ (σ.1 17 5).toInt ∧ (σ.1 17 5).toInt ≤ 6 := hI 17 5
    refine kw_icmp_ge (pc := 9) (i := 5) (tgt := 16) rfl rfl (fun c3 => ?_) (fun c3 => ?_)
    · replace hF := kf_nl c3 hF
      refine kw_iconst (pc := 16) (i := 8) (v := 0) rfl rfl ?_
      exact kw_ireturn (pc := 17) (i := 9) (ty := .boolean) rfl rfl rfl ⟨rfl, _, rfl, by omega, by omega, hF⟩
    · replace hF := kf_p c3 hF
      refine kw_iconst (pc := 12) (i := 6) (v := 1) rfl rfl ?_
      refine kw_goto (pc := 13) (i := 7) (tgt := 17) rfl rfl ?_
      exact kw_ireturn (pc := 17) (i := 9) (ty := .boolean) rfl rfl rfl ⟨rfl, _, rfl, by omega, by omega, hF⟩
noncomputable def f_X1_allLines_17 (σ : kw_S)  : Int32 := kf_l ((1 : Int32) <<< ((σ.1 17 5) &&& 31)) fun z1 => kf_l (z1 - (1 : Int32)) fun z2 => z2
theorem f_X1_allLines_17_u (σ : kw_S)  : f_X1_allLines_17 σ  = kf_l ((1 : Int32) <<< ((σ.1 17 5) &&& 31)) fun z1 => kf_l (z1 - (1 : Int32)) fun z2 => z2 := rfl
abbrev p_X1_allLines_17 (σ : kw_S)  : Option Value → kw_S → Prop := fun vv σ' => σ' = σ ∧ ∃ r : Int32, vv = some (.int r) ∧ r = f_X1_allLines_17 σ
set_option maxRecDepth 100000 in
set_option maxHeartbeats 4000000 in
theorem c_X1_allLines_17 (l : Launch) (σ : kw_S) (hI : kw_I bX σ)  : kw_Met l 1 KX mX1_allLines [.ref 17] σ (p_X1_allLines_17 σ) := by
  have hF := (f_X1_allLines_17_u σ).symm
  have q_1 : (1 : Int32).toInt = 1 := rfl
  refine kw_Met.of (by decide) rfl tX1_allLines (Nat.le_of_ble_eq_true rfl) ?_
  show kw_AW l 1 kw_E0 KX mX1_allLines (p_X1_allLines_17 σ) 0 [(0, .ref 17)] [] σ
  refine kw_iconst (pc := 0) (i := 0) (v := 1) rfl rfl ?_
  refine kw_aload_n (pc := 1) (i := 1) (k := 0) (n := 0) rfl rfl rfl ?_
  refine kw_get (pc := 2) (i := 2) (v := .int (σ.1 17 5)) rfl rfl rfl lkX1_33 (fun _ => rfl) ?_
  have b1 : 0 ≤ (σ.1 17 5).toInt ∧ (σ.1 17 5).toInt ≤ 6 := hI 17 5
  refine kw_ishl (pc := 5) (i := 3) rfl (fun z2 e_z2 => ?_)
  have r_z2 := kw_rng z2
  replace hF := kf_le e_z2 hF
  refine kw_iconst (pc := 6) (i := 4) (v := 1) rfl rfl ?_
  refine kw_isub (pc := 7) (i := 5) rfl (fun z3 e_z3 t_z3 => ?_)
  replace hF := kf_le e_z3 hF
  exact kw_ireturn (pc := 8) (i := 6) (ty := .int) rfl rfl rfl ⟨rfl, _, rfl, hF⟩
noncomputable def f_X1_hasSet_17 (σ : kw_S) (s : Int32) : Int32 := if s.toInt < 0 then ((0 : Int32)) else (kf_l (f_X1_allLines_17 σ) fun z1 => if z1.toInt < s.toInt then ((0 : Int32)) else ((1 : Int32)))
theorem f_X1_hasSet_17_u (σ : kw_S) (s : Int32) : f_X1_hasSet_17 σ s = if s.toInt < 0 then ((0 : Int32)) else (kf_l (f_X1_allLines_17 σ) fun z1 => if z1.toInt < s.toInt then ((0 : Int32)) else ((1 : Int32))) := rfl
abbrev p_X1_hasSet_17 (σ : kw_S) (s : Int32) : Option Value → kw_S → Prop := fun vv σ' => σ' = σ ∧ ∃ r : Int32, vv = some (.int r) ∧ (r.toInt = 0 ∨ r.toInt = 1) ∧ r = f_X1_hasSet_17 σ s
set_option maxRecDepth 100000 in
set_option maxHeartbeats 4000000 in
theorem c_X1_hasSet_17 (l : Launch) (σ : kw_S) (hI : kw_I bX σ) (s : Int32) : kw_Met l 2 KX mX1_hasSet [.ref 17, .int s] σ (p_X1_hasSet_17 σ s) := by
  have r_s := kw_rng s
  have hF := (f_X1_hasSet_17_u σ s).symm
  have q_0 : (0 : Int32).toInt = 0 := rfl
  have q_1 : (1 : Int32).toInt = 1 := rfl
  refine kw_Met.of (by decide) rfl tX1_hasSet (Nat.le_of_ble_eq_true rfl) ?_
  show kw_AW l 2 kw_E0 KX mX1_hasSet (p_X1_hasSet_17 σ s) 0 [(0, .ref 17), (1, .int s)] [] σ
  refine kw_iload_n (pc := 0) (i := 0) (k := 1) (n := 1) rfl rfl rfl ?_
  refine kw_if_lt (pc := 1) (i := 1) (tgt := 16) rfl rfl (fun c1 => ?_) (fun c1 => ?_)
  · replace hF := kf_p c1 hF
    refine kw_iconst (pc := 16) (i := 8) (v := 0) rfl rfl ?_
    exact kw_ireturn (pc := 17) (i := 9) (ty := .boolean) rfl rfl rfl ⟨rfl, _, rfl, by omega, hF⟩
  · replace hF := kf_nl c1 hF
    refine kw_iload_n (pc := 4) (i := 2) (k := 1) (n := 1) rfl rfl rfl ?_
    refine kw_aload_n (pc := 5) (i := 3) (k := 0) (n := 0) rfl rfl rfl ?_
    refine kw_callV (pc := 6) (i := 4) (Y := mX1_allLines) (a := 17) (As := []) (st := [.int s]) kw_hE rfl rfl lvX1_40 arX1_allLines (c_X1_allLines_17 l σ hI  ) (by decide) (Nat.le_of_ble_eq_true rfl) rfl (fun v S3 p2 => ?_)
    obtain ⟨e6, z5, rfl, ef4⟩ := p2
    rw [e6]
    replace hF := kf_le ef4 hF
    have r_z5 := kw_rng z5
    show kw_AW l 2 kw_E0 KX mX1_hasSet (p_X1_hasSet_17 σ s) 9 [(0, .ref 17), (1, .int s)] [.int z5, .int s] σ
    refine kw_icmp_gt (pc := 9) (i := 5) (tgt := 16) rfl rfl (fun c7 => ?_) (fun c7 => ?_)
    · replace hF := kf_p c7 hF
      refine kw_iconst (pc := 16) (i := 8) (v := 0) rfl rfl ?_
      exact kw_ireturn (pc := 17) (i := 9) (ty := .boolean) rfl rfl rfl ⟨rfl, _, rfl, by omega, hF⟩
    · replace hF := kf_nl c7 hF
      refine kw_iconst (pc := 12) (i := 6) (v := 1) rfl rfl ?_
      refine kw_goto (pc := 13) (i := 7) (tgt := 17) rfl rfl ?_
      exact kw_ireturn (pc := 17) (i := 9) (ty := .boolean) rfl rfl rfl ⟨rfl, _, rfl, by omega, hF⟩
noncomputable def f_X1_windAt_17 (σ : kw_S) (h : Int32) : Int32 := if (σ.1 17 6).toInt < (1 : Int32).toInt then ((0 : Int32)) else (if h.toInt < 0 then ((0 : Int32)) else (kf_l (h - h / (σ.1 17 6) * (σ.1 17 6)) fun z1 => kf_l (σ.1 48 z1.toNatClampNeg) fun z2 => z2))
theorem f_X1_windAt_17_u (σ : kw_S) (h : Int32) : f_X1_windAt_17 σ h = if (σ.1 17 6).toInt < (1 : Int32).toInt then ((0 : Int32)) else (if h.toInt < 0 then ((0 : Int32)) else (kf_l (h - h / (σ.1 17 6) * (σ.1 17 6)) fun z1 => kf_l (σ.1 48 z1.toNatClampNeg) fun z2 => z2)) := rfl
abbrev p_X1_windAt_17 (σ : kw_S) (h : Int32) : Option Value → kw_S → Prop := fun vv σ' => σ' = σ ∧ ∃ r : Int32, vv = some (.int r) ∧ r = f_X1_windAt_17 σ h
set_option maxRecDepth 100000 in
set_option maxHeartbeats 4000000 in
theorem c_X1_windAt_17 (l : Launch) (σ : kw_S) (hI : kw_I bX σ) (h : Int32) : kw_Met l 1 KX mX1_windAt [.ref 17, .int h] σ (p_X1_windAt_17 σ h) := by
  have r_h := kw_rng h
  have hF := (f_X1_windAt_17_u σ h).symm
  have q_0 : (0 : Int32).toInt = 0 := rfl
  have q_1 : (1 : Int32).toInt = 1 := rfl
  refine kw_Met.of (by decide) rfl tX1_windAt (Nat.le_of_ble_eq_true rfl) ?_
  show kw_AW l 1 kw_E0 KX mX1_windAt (p_X1_windAt_17 σ h) 0 [(0, .ref 17), (1, .int h)] [] σ
  refine kw_aload_n (pc := 0) (i := 0) (k := 0) (n := 0) rfl rfl rfl ?_
  refine kw_get (pc := 1) (i := 1) (v := .int (σ.1 17 6)) rfl rfl rfl lkX1_37 (fun _ => rfl) ?_
  have b1 : 0 ≤ (σ.1 17 6).toInt ∧ (σ.1 17 6).toInt ≤ 8 := hI 17 6
  refine kw_iconst (pc := 4) (i := 2) (v := 1) rfl rfl ?_
  refine kw_icmp_lt (pc := 5) (i := 3) (tgt := 12) rfl rfl (fun c2 => ?_) (fun c2 => ?_)
  · replace hF := kf_p c2 hF
    refine kw_iconst (pc := 12) (i := 6) (v := 0) rfl rfl ?_
    refine kw_goto (pc := 13) (i := 7) (tgt := 27) rfl rfl ?_
    exact kw_ireturn (pc := 27) (i := 15) (ty := .int) rfl rfl rfl ⟨rfl, _, rfl, hF⟩
  · replace hF := kf_nl c2 hF
    refine kw_iload_n (pc := 8) (i := 4) (k := 1) (n := 1) rfl rfl rfl ?_
    refine kw_if_ge (pc := 9) (i := 5) (tgt := 16) rfl rfl (fun c3 => ?_) (fun c3 => ?_)
    · replace hF := kf_nl c3 hF
      refine kw_aload_n (pc := 16) (i := 8) (k := 0) (n := 0) rfl rfl rfl ?_
      refine kw_get (pc := 17) (i := 9) (v := .ref 48) rfl rfl rfl lkX1_24 (fun _ => rfl) ?_
      refine kw_iload_n (pc := 20) (i := 10) (k := 1) (n := 1) rfl rfl rfl ?_
      refine kw_aload_n (pc := 21) (i := 11) (k := 0) (n := 0) rfl rfl rfl ?_
      refine kw_get (pc := 22) (i := 12) (v := .int (σ.1 17 6)) rfl rfl rfl lkX1_37 (fun _ => rfl) ?_
      refine kw_irem (pc := 25) (i := 13) rfl (by omega) (fun z4 e_z4 => ?_)
      have r_z4 := kw_rng z4
      replace hF := kf_le e_z4 hF
      have t_z4 := kw_remI h (σ.1 17 6) z4 e_z4
      refine kw_iald (pc := 26) (i := 14) (n := 8) rfl rfl (by omega) (by omega) (fun z5 e_z5 => ?_)
      replace hF := kf_le e_z5 hF
      have t_z5 := congrArg Int32.toInt e_z5
      have r_z5 := kw_rng z5
      exact kw_ireturn (pc := 27) (i := 15) (ty := .int) rfl rfl rfl ⟨rfl, _, rfl, hF⟩
    · replace hF := kf_p c3 hF
      refine kw_iconst (pc := 12) (i := 6) (v := 0) rfl rfl ?_
      refine kw_goto (pc := 13) (i := 7) (tgt := 27) rfl rfl ?_
      exact kw_ireturn (pc := 27) (i := 15) (ty := .int) rfl rfl rfl ⟨rfl, _, rfl, hF⟩
noncomputable def f_X1_pullOf_17 (σ : kw_S) (i : Int32) (w : Int32) : Int32 := kf_l (f_X1_hasLine_17 σ i) fun z1 => if z1.toInt = 0 then ((0 : Int32)) else (kf_l (σ.1 44 i.toNatClampNeg) fun z2 => kf_l (σ.1 46 i.toNatClampNeg) fun z3 => kf_l (f_X7_pull σ z2 z3 w) fun z4 => z4)
theorem f_X1_pullOf_17_u (σ : kw_S) (i : Int32) (w : Int32) : f_X1_pullOf_17 σ i w = kf_l (f_X1_hasLine_17 σ i) fun z1 => if z1.toInt = 0 then ((0 : Int32)) else (kf_l (σ.1 44 i.toNatClampNeg) fun z2 => kf_l (σ.1 46 i.toNatClampNeg) fun z3 => kf_l (f_X7_pull σ z2 z3 w) fun z4 => z4) := rfl
abbrev p_X1_pullOf_17 (σ : kw_S) (i : Int32) (w : Int32) : Option Value → kw_S → Prop := fun vv σ' => σ' = σ ∧ ∃ r : Int32, vv = some (.int r) ∧ r = f_X1_pullOf_17 σ i w
set_option maxRecDepth 100000 in
set_option maxHeartbeats 4000000 in
theorem c_X1_pullOf_17 (l : Launch) (σ : kw_S) (hI : kw_I bX σ) (i : Int32) (w : Int32) : kw_Met l 2 KX mX1_pullOf [.ref 17, .int i, .int w] σ (p_X1_pullOf_17 σ i w) := by
  have r_i := kw_rng i
  have r_w := kw_rng w
  have hF := (f_X1_pullOf_17_u σ i w).symm
  have q_0 : (0 : Int32).toInt = 0 := rfl
  refine kw_Met.of (by decide) rfl tX1_pullOf (Nat.le_of_ble_eq_true rfl) ?_
  show kw_AW l 2 kw_E0 KX mX1_pullOf (p_X1_pullOf_17 σ i w) 0 [(0, .ref 17), (1, .int i), (2, .int w)] [] σ
  refine kw_aload_n (pc := 0) (i := 0) (k := 0) (n := 0) rfl rfl rfl ?_
  refine kw_iload_n (pc := 1) (i := 1) (k := 1) (n := 1) rfl rfl rfl ?_
  refine kw_callV (pc := 2) (i := 2) (Y := mX1_hasLine) (a := 17) (As := [.int i]) (st := []) kw_hE rfl rfl lvX1_44 arX1_hasLine (c_X1_hasLine_17 l σ hI i ) (by decide) (Nat.le_of_ble_eq_true rfl) rfl (fun v S2 p1 => ?_)
  obtain ⟨e7, z6, rfl, f3, f4, ef5⟩ := p1
  rw [e7]
  replace hF := kf_le ef5 hF
  have r_z6 := kw_rng z6
  show kw_AW l 2 kw_E0 KX mX1_pullOf (p_X1_pullOf_17 σ i w) 5 [(0, .ref 17), (1, .int i), (2, .int w)] [.int z6] σ
  refine kw_if_eq (pc := 5) (i := 3) (tgt := 27) rfl rfl (fun c8 => ?_) (fun c8 => ?_)
  · replace hF := kf_p c8 hF
    refine kw_iconst (pc := 27) (i := 15) (v := 0) rfl rfl ?_
    exact kw_ireturn (pc := 28) (i := 16) (ty := .int) rfl rfl rfl ⟨rfl, _, rfl, hF⟩
  · replace hF := kf_n c8 hF
    refine kw_aload_n (pc := 8) (i := 4) (k := 0) (n := 0) rfl rfl rfl ?_
    refine kw_get (pc := 9) (i := 5) (v := .ref 44) rfl rfl rfl lkX1_9 (fun _ => rfl) ?_
    refine kw_iload_n (pc := 12) (i := 6) (k := 1) (n := 1) rfl rfl rfl ?_
    refine kw_iald (pc := 13) (i := 7) (n := 6) rfl rfl (by omega) (by omega) (fun z9 e_z9 => ?_)
    replace hF := kf_le e_z9 hF
    have t_z9 := congrArg Int32.toInt e_z9
    have r_z9 := kw_rng z9
    refine kw_aload_n (pc := 14) (i := 8) (k := 0) (n := 0) rfl rfl rfl ?_
    refine kw_get (pc := 15) (i := 9) (v := .ref 46) rfl rfl rfl lkX1_18 (fun _ => rfl) ?_
    refine kw_iload_n (pc := 18) (i := 10) (k := 1) (n := 1) rfl rfl rfl ?_
    refine kw_iald (pc := 19) (i := 11) (n := 6) rfl rfl (by omega) (by omega) (fun z10 e_z10 => ?_)
    replace hF := kf_le e_z10 hF
    have t_z10 := congrArg Int32.toInt e_z10
    have r_z10 := kw_rng z10
    refine kw_iload_n (pc := 20) (i := 12) (k := 2) (n := 2) rfl rfl rfl ?_
    refine kw_callN (pc := 21) (i := 13) (Y := mX7_pull) (As := [.int z9, .int z10, .int w]) (st := []) kw_hE rfl lnX1_48 arX7_pull (c_X7_pull l σ hI z9 z10 w ) (by decide) (Nat.le_of_ble_eq_true rfl) rfl (fun v S12 p11 => ?_)
    obtain ⟨e15, z14, rfl, ef13⟩ := p11
    rw [e15]
    replace hF := kf_le ef13 hF
    have r_z14 := kw_rng z14
    show kw_AW l 2 kw_E0 KX mX1_pullOf (p_X1_pullOf_17 σ i w) 24 [(0, .ref 17), (1, .int i), (2, .int w)] [.int z14] σ
    refine kw_goto (pc := 24) (i := 14) (tgt := 28) rfl rfl ?_
    exact kw_ireturn (pc := 28) (i := 16) (ty := .int) rfl rfl rfl ⟨rfl, _, rfl, hF⟩
noncomputable def l_X1_milesOf_17_5 (a1 : Int32) (a2 : Int32) (S : kw_S) : Nat → Int32 → Int32 → Int32
  | 0, _, _ => 0
  | n + 1, x3, x4 => if x4.toInt < (S.1 17 5).toInt then (kf_l (a1 >>> (x4 &&& 31)) fun z2 => kf_l (z2 &&& (1 : Int32)) fun z3 => if z3.toInt = (1 : Int32).toInt then (kf_l (f_X1_pullOf_17 S x4 a2) fun z5 => kf_l (x3 + z5) fun z6 => kf_l (x4 + Int32.ofInt 1) fun z7 => l_X1_milesOf_17_5 a1 a2 S n z6 z7) else (kf_l (x4 + Int32.ofInt 1) fun z4 => l_X1_milesOf_17_5 a1 a2 S n x3 z4)) else (kf_l (x3 / (4 : Int32)) fun z1 => z1)
theorem l_X1_milesOf_17_5_s (a1 : Int32) (a2 : Int32) (S : kw_S) (n : Nat) (x3 : Int32) (x4 : Int32) : l_X1_milesOf_17_5 a1 a2 S (n + 1) x3 x4 = if x4.toInt < (S.1 17 5).toInt then (kf_l (a1 >>> (x4 &&& 31)) fun z2 => kf_l (z2 &&& (1 : Int32)) fun z3 => if z3.toInt = (1 : Int32).toInt then (kf_l (f_X1_pullOf_17 S x4 a2) fun z5 => kf_l (x3 + z5) fun z6 => kf_l (x4 + Int32.ofInt 1) fun z7 => l_X1_milesOf_17_5 a1 a2 S n z6 z7) else (kf_l (x4 + Int32.ofInt 1) fun z4 => l_X1_milesOf_17_5 a1 a2 S n x3 z4)) else (kf_l (x3 / (4 : Int32)) fun z1 => z1) := rfl
noncomputable def f_X1_milesOf_17 (σ : kw_S) (s : Int32) (w : Int32) : Int32 := l_X1_milesOf_17_5 s w σ ((7 - (0 : Int32).toInt).toNat + 1) (0 : Int32) (0 : Int32)
theorem f_X1_milesOf_17_u (σ : kw_S) (s : Int32) (w : Int32) : f_X1_milesOf_17 σ s w = l_X1_milesOf_17_5 s w σ ((7 - (0 : Int32).toInt).toNat + 1) (0 : Int32) (0 : Int32) := rfl
abbrev p_X1_milesOf_17 (σ : kw_S) (s : Int32) (w : Int32) : Option Value → kw_S → Prop := fun vv σ' => σ' = σ ∧ ∃ r : Int32, vv = some (.int r) ∧ r = f_X1_milesOf_17 σ s w
set_option maxRecDepth 100000 in
set_option maxHeartbeats 4000000 in
theorem c_X1_milesOf_17 (l : Launch) (σ : kw_S) (hI : kw_I bX σ) (s : Int32) (w : Int32) : kw_Met l 3 KX mX1_milesOf [.ref 17, .int s, .int w] σ (p_X1_milesOf_17 σ s w) := by
  have r_s := kw_rng s
  have r_w := kw_rng w
  have hF := (f_X1_milesOf_17_u σ s w).symm
  have q_0 : (0 : Int32).toInt = 0 := rfl
  have q_1 : (1 : Int32).toInt = 1 := rfl
  have q_4 : (4 : Int32).toInt = 4 := rfl
  refine kw_Met.of (by decide) rfl tX1_milesOf (Nat.le_of_ble_eq_true rfl) ?_
  show kw_AW l 3 kw_E0 KX mX1_milesOf (p_X1_milesOf_17 σ s w) 0 [(0, .ref 17), (1, .int s), (2, .int w)] [] σ
  refine kw_iconst (pc := 0) (i := 0) (v := 0) rfl rfl ?_
  refine kw_istore_n (pc := 1) (i := 1) (n := 3) (lv' := [(3, .int 0), (0, .ref 17), (1, .int s), (2, .int w)]) rfl rfl (by decide) rfl ?_
  refine kw_iconst (pc := 2) (i := 2) (v := 0) rfl rfl ?_
  refine kw_istore (pc := 3) (i := 3) (n := 4) (lv' := [(4, .int 0), (3, .int 0), (0, .ref 17), (1, .int s), (2, .int w)]) rfl (by decide) rfl ?_
  have L3 : ∀ (n7 : Nat) (x1 : Int32) (x2 : Int32), 0 ≤ x1.toInt → l_X1_milesOf_17_5 s w σ n7 x2 x1 = (f_X1_milesOf_17 σ s w) → (7 - x1.toInt).toNat < n7 → kw_AW l 3 kw_E0 KX mX1_milesOf (p_X1_milesOf_17 σ s w) 5 [(4, .int x1), (3, .int x2), (0, .ref 17), (1, .int s), (2, .int w)] [] σ := by
    intro n7
    induction n7 with
    | zero => intro x1 x2 v5 hF m6; exact absurd m6 (Nat.not_lt_zero _)
    | succ n7 ih4 =>
      intro x1 x2 v5 hF m6
      replace hF := kf_st (l_X1_milesOf_17_5_s _ _ _ _ _ _) hF
      have r_x1 := kw_rng x1
      have r_x2 := kw_rng x2
      refine kw_iload (pc := 5) (i := 4) (k := 0) (n := 4) rfl rfl ?_
      refine kw_aload_n (pc := 7) (i := 5) (k := 2) (n := 0) rfl rfl rfl ?_
      refine kw_get (pc := 8) (i := 6) (v := .int (σ.1 17 5)) rfl rfl rfl lkX1_33 (fun _ => rfl) ?_
      have b8 : 0 ≤ (σ.1 17 5).toInt ∧ (σ.1 17 5).toInt ≤ 6 := hI 17 5
      refine kw_icmp_ge (pc := 11) (i := 7) (tgt := 40) rfl rfl (fun c9 => ?_) (fun c9 => ?_)
      · replace hF := kf_nl c9 hF
        refine kw_iload_n (pc := 40) (i := 24) (k := 1) (n := 3) rfl rfl rfl ?_
        refine kw_iconst (pc := 41) (i := 25) (v := 4) rfl rfl ?_
        refine kw_idiv (pc := 42) (i := 26) rfl (by omega) (fun z10 e_z10 => ?_)
        have r_z10 := kw_rng z10
        replace hF := kf_le e_z10 hF
        exact kw_ireturn (pc := 43) (i := 27) (ty := .int) rfl rfl rfl ⟨rfl, _, rfl, hF⟩
      · replace hF := kf_p c9 hF
        refine kw_iload_n (pc := 14) (i := 8) (k := 3) (n := 1) rfl rfl rfl ?_
        refine kw_iload (pc := 15) (i := 9) (k := 0) (n := 4) rfl rfl ?_
        refine kw_ishr (pc := 17) (i := 10) rfl (fun z11 e_z11 => ?_)
        have r_z11 := kw_rng z11
        replace hF := kf_le e_z11 hF
        refine kw_iconst (pc := 18) (i := 11) (v := 1) rfl rfl ?_
        refine kw_iand (pc := 19) (i := 12) rfl (fun z12 e_z12 => ?_)
        have r_z12 := kw_rng z12
        replace hF := kf_le e_z12 hF
        refine kw_iconst (pc := 20) (i := 13) (v := 1) rfl rfl ?_
        refine kw_icmp_ne (pc := 21) (i := 14) (tgt := 34) rfl rfl (fun c13 => ?_) (fun c13 => ?_)
        · replace hF := kf_n c13 hF
          refine kw_iinc' (pc := 34) (i := 22) (k := 0) (fun z => [(4, .int z), (3, .int x2), (0, .ref 17), (1, .int s), (2, .int w)]) rfl rfl (by decide) rfl (fun _ => rfl) (fun z14 e_z14 t_z14 => ?_)
          replace hF := kf_le e_z14 hF
          refine kw_goto (pc := 37) (i := 23) (tgt := 5) rfl rfl ?_
          refine kw_sub (lv' := [(4, .int z14), (3, .int x2), (0, .ref 17), (1, .int s), (2, .int w)]) [0, 1, 2, 3, 4] rfl ?_
          exact ih4 z14 x2 (by omega) hF (by omega)
        · replace hF := kf_p c13 hF
          refine kw_iload_n (pc := 24) (i := 15) (k := 1) (n := 3) rfl rfl rfl ?_
          refine kw_aload_n (pc := 25) (i := 16) (k := 2) (n := 0) rfl rfl rfl ?_
          refine kw_iload (pc := 26) (i := 17) (k := 0) (n := 4) rfl rfl ?_
          refine kw_iload_n (pc := 28) (i := 18) (k := 4) (n := 2) rfl rfl rfl ?_
          refine kw_callV (pc := 29) (i := 19) (Y := mX1_pullOf) (a := 17) (As := [.int x1, .int w]) (st := [.int x2]) kw_hE rfl rfl lvX1_52 arX1_pullOf (c_X1_pullOf_17 l σ hI x1 w ) (by decide) (Nat.le_of_ble_eq_true rfl) rfl (fun v S16 p15 => ?_)
          obtain ⟨e19, z18, rfl, ef17⟩ := p15
          rw [e19]
          replace hF := kf_le ef17 hF
          have r_z18 := kw_rng z18
          show kw_AW l 3 kw_E0 KX mX1_milesOf (p_X1_milesOf_17 σ s w) 32 [(4, .int x1), (3, .int x2), (0, .ref 17), (1, .int s), (2, .int w)] [.int z18, .int x2] σ
          refine kw_iadd (pc := 32) (i := 20) rfl (fun z20 e_z20 t_z20 => ?_)
          replace hF := kf_le e_z20 hF
          refine kw_istore_n (pc := 33) (i := 21) (n := 3) (lv' := [(3, .int z20), (4, .int x1), (0, .ref 17), (1, .int s), (2, .int w)]) rfl rfl (by decide) rfl ?_
          refine kw_iinc' (pc := 34) (i := 22) (k := 1) (fun z => [(4, .int z), (3, .int z20), (0, .ref 17), (1, .int s), (2, .int w)]) rfl rfl (by decide) rfl (fun _ => rfl) (fun z21 e_z21 t_z21 => ?_)
          replace hF := kf_le e_z21 hF
          refine kw_goto (pc := 37) (i := 23) (tgt := 5) rfl rfl ?_
          refine kw_sub (lv' := [(4, .int z21), (3, .int z20), (0, .ref 17), (1, .int s), (2, .int w)]) [0, 1, 2, 3, 4] rfl ?_
          exact ih4 z21 z20 (by omega) hF (by omega)
  exact L3 _ 0 0 (by omega) hF (Nat.lt_succ_self _)
noncomputable def l_X1_turnOf_17_5 (a1 : Int32) (a2 : Int32) (S : kw_S) : Nat → Int32 → Int32 → Int32
  | 0, _, _ => 0
  | n + 1, x3, x4 => if x4.toInt < (S.1 17 5).toInt then (kf_l (a1 >>> (x4 &&& 31)) fun z1 => kf_l (z1 &&& (1 : Int32)) fun z2 => if z2.toInt = (1 : Int32).toInt then (kf_l (f_X1_pullOf_17 S x4 a2) fun z4 => kf_l (S.1 45 x4.toNatClampNeg) fun z5 => kf_l (z4 * z5) fun z6 => kf_l (x3 + z6) fun z7 => kf_l (x4 + Int32.ofInt 1) fun z8 => l_X1_turnOf_17_5 a1 a2 S n z7 z8) else (kf_l (x4 + Int32.ofInt 1) fun z3 => l_X1_turnOf_17_5 a1 a2 S n x3 z3)) else (x3)
theorem l_X1_turnOf_17_5_s (a1 : Int32) (a2 : Int32) (S : kw_S) (n : Nat) (x3 : Int32) (x4 : Int32) : l_X1_turnOf_17_5 a1 a2 S (n + 1) x3 x4 = if x4.toInt < (S.1 17 5).toInt then (kf_l (a1 >>> (x4 &&& 31)) fun z1 => kf_l (z1 &&& (1 : Int32)) fun z2 => if z2.toInt = (1 : Int32).toInt then (kf_l (f_X1_pullOf_17 S x4 a2) fun z4 => kf_l (S.1 45 x4.toNatClampNeg) fun z5 => kf_l (z4 * z5) fun z6 => kf_l (x3 + z6) fun z7 => kf_l (x4 + Int32.ofInt 1) fun z8 => l_X1_turnOf_17_5 a1 a2 S n z7 z8) else (kf_l (x4 + Int32.ofInt 1) fun z3 => l_X1_turnOf_17_5 a1 a2 S n x3 z3)) else (x3) := rfl
noncomputable def f_X1_turnOf_17 (σ : kw_S) (s : Int32) (w : Int32) : Int32 := l_X1_turnOf_17_5 s w σ ((7 - (0 : Int32).toInt).toNat + 1) (0 : Int32) (0 : Int32)
theorem f_X1_turnOf_17_u (σ : kw_S) (s : Int32) (w : Int32) : f_X1_turnOf_17 σ s w = l_X1_turnOf_17_5 s w σ ((7 - (0 : Int32).toInt).toNat + 1) (0 : Int32) (0 : Int32) := rfl
abbrev p_X1_turnOf_17 (σ : kw_S) (s : Int32) (w : Int32) : Option Value → kw_S → Prop := fun vv σ' => σ' = σ ∧ ∃ r : Int32, vv = some (.int r) ∧ r = f_X1_turnOf_17 σ s w
set_option maxRecDepth 100000 in
set_option maxHeartbeats 4000000 in
theorem c_X1_turnOf_17 (l : Launch) (σ : kw_S) (hI : kw_I bX σ) (s : Int32) (w : Int32) : kw_Met l 3 KX mX1_turnOf [.ref 17, .int s, .int w] σ (p_X1_turnOf_17 σ s w) := by
  have r_s := kw_rng s
  have r_w := kw_rng w
  have hF := (f_X1_turnOf_17_u σ s w).symm
  have q_0 : (0 : Int32).toInt = 0 := rfl
  have q_1 : (1 : Int32).toInt = 1 := rfl
  refine kw_Met.of (by decide) rfl tX1_turnOf (Nat.le_of_ble_eq_true rfl) ?_
  show kw_AW l 3 kw_E0 KX mX1_turnOf (p_X1_turnOf_17 σ s w) 0 [(0, .ref 17), (1, .int s), (2, .int w)] [] σ
  refine kw_iconst (pc := 0) (i := 0) (v := 0) rfl rfl ?_
  refine kw_istore_n (pc := 1) (i := 1) (n := 3) (lv' := [(3, .int 0), (0, .ref 17), (1, .int s), (2, .int w)]) rfl rfl (by decide) rfl ?_
  refine kw_iconst (pc := 2) (i := 2) (v := 0) rfl rfl ?_
  refine kw_istore (pc := 3) (i := 3) (n := 4) (lv' := [(4, .int 0), (3, .int 0), (0, .ref 17), (1, .int s), (2, .int w)]) rfl (by decide) rfl ?_
  have L3 : ∀ (n7 : Nat) (x1 : Int32) (x2 : Int32), 0 ≤ x1.toInt → l_X1_turnOf_17_5 s w σ n7 x2 x1 = (f_X1_turnOf_17 σ s w) → (7 - x1.toInt).toNat < n7 → kw_AW l 3 kw_E0 KX mX1_turnOf (p_X1_turnOf_17 σ s w) 5 [(4, .int x1), (3, .int x2), (0, .ref 17), (1, .int s), (2, .int w)] [] σ := by
    intro n7
    induction n7 with
    | zero => intro x1 x2 v5 hF m6; exact absurd m6 (Nat.not_lt_zero _)
    | succ n7 ih4 =>
      intro x1 x2 v5 hF m6
      replace hF := kf_st (l_X1_turnOf_17_5_s _ _ _ _ _ _) hF
      have r_x1 := kw_rng x1
      have r_x2 := kw_rng x2
      refine kw_iload (pc := 5) (i := 4) (k := 0) (n := 4) rfl rfl ?_
      refine kw_aload_n (pc := 7) (i := 5) (k := 2) (n := 0) rfl rfl rfl ?_
      refine kw_get (pc := 8) (i := 6) (v := .int (σ.1 17 5)) rfl rfl rfl lkX1_33 (fun _ => rfl) ?_
      have b8 : 0 ≤ (σ.1 17 5).toInt ∧ (σ.1 17 5).toInt ≤ 6 := hI 17 5
      refine kw_icmp_ge (pc := 11) (i := 7) (tgt := 48) rfl rfl (fun c9 => ?_) (fun c9 => ?_)
      · replace hF := kf_nl c9 hF
        refine kw_iload_n (pc := 48) (i := 29) (k := 1) (n := 3) rfl rfl rfl ?_
        exact kw_ireturn (pc := 49) (i := 30) (ty := .int) rfl rfl rfl ⟨rfl, _, rfl, hF⟩
      · replace hF := kf_p c9 hF
        refine kw_iload_n (pc := 14) (i := 8) (k := 3) (n := 1) rfl rfl rfl ?_
        refine kw_iload (pc := 15) (i := 9) (k := 0) (n := 4) rfl rfl ?_
        refine kw_ishr (pc := 17) (i := 10) rfl (fun z10 e_z10 => ?_)
        have r_z10 := kw_rng z10
        replace hF := kf_le e_z10 hF
        refine kw_iconst (pc := 18) (i := 11) (v := 1) rfl rfl ?_
        refine kw_iand (pc := 19) (i := 12) rfl (fun z11 e_z11 => ?_)
        have r_z11 := kw_rng z11
        replace hF := kf_le e_z11 hF
        refine kw_iconst (pc := 20) (i := 13) (v := 1) rfl rfl ?_
        refine kw_icmp_ne (pc := 21) (i := 14) (tgt := 42) rfl rfl (fun c12 => ?_) (fun c12 => ?_)
        · replace hF := kf_n c12 hF
          refine kw_iinc' (pc := 42) (i := 27) (k := 0) (fun z => [(4, .int z), (3, .int x2), (0, .ref 17), (1, .int s), (2, .int w)]) rfl rfl (by decide) rfl (fun _ => rfl) (fun z13 e_z13 t_z13 => ?_)
          replace hF := kf_le e_z13 hF
          refine kw_goto (pc := 45) (i := 28) (tgt := 5) rfl rfl ?_
          refine kw_sub (lv' := [(4, .int z13), (3, .int x2), (0, .ref 17), (1, .int s), (2, .int w)]) [0, 1, 2, 3, 4] rfl ?_
          exact ih4 z13 x2 (by omega) hF (by omega)
        · replace hF := kf_p c12 hF
          refine kw_iload_n (pc := 24) (i := 15) (k := 1) (n := 3) rfl rfl rfl ?_
          refine kw_aload_n (pc := 25) (i := 16) (k := 2) (n := 0) rfl rfl rfl ?_
          refine kw_iload (pc := 26) (i := 17) (k := 0) (n := 4) rfl rfl ?_
          refine kw_iload_n (pc := 28) (i := 18) (k := 4) (n := 2) rfl rfl rfl ?_
          refine kw_callV (pc := 29) (i := 19) (Y := mX1_pullOf) (a := 17) (As := [.int x1, .int w]) (st := [.int x2]) kw_hE rfl rfl lvX1_52 arX1_pullOf (c_X1_pullOf_17 l σ hI x1 w ) (by decide) (Nat.le_of_ble_eq_true rfl) rfl (fun v S15 p14 => ?_)
          obtain ⟨e18, z17, rfl, ef16⟩ := p14
          rw [e18]
          replace hF := kf_le ef16 hF
          have r_z17 := kw_rng z17
          show kw_AW l 3 kw_E0 KX mX1_turnOf (p_X1_turnOf_17 σ s w) 32 [(4, .int x1), (3, .int x2), (0, .ref 17), (1, .int s), (2, .int w)] [.int z17, .int x2] σ
          refine kw_aload_n (pc := 32) (i := 20) (k := 2) (n := 0) rfl rfl rfl ?_
          refine kw_get (pc := 33) (i := 21) (v := .ref 45) rfl rfl rfl lkX1_15 (fun _ => rfl) ?_
          refine kw_iload (pc := 36) (i := 22) (k := 0) (n := 4) rfl rfl ?_
          refine kw_iald (pc := 38) (i := 23) (n := 6) rfl rfl (by omega) (by omega) (fun z19 e_z19 => ?_)
          replace hF := kf_le e_z19 hF
          have t_z19 := congrArg Int32.toInt e_z19
          have r_z19 := kw_rng z19
          refine kw_imul (pc := 39) (i := 24) rfl (fun z20 e_z20 t_z20 => ?_)
          replace hF := kf_le e_z20 hF
          refine kw_iadd (pc := 40) (i := 25) rfl (fun z21 e_z21 t_z21 => ?_)
          replace hF := kf_le e_z21 hF
          refine kw_istore_n (pc := 41) (i := 26) (n := 3) (lv' := [(3, .int z21), (4, .int x1), (0, .ref 17), (1, .int s), (2, .int w)]) rfl rfl (by decide) rfl ?_
          refine kw_iinc' (pc := 42) (i := 27) (k := 1) (fun z => [(4, .int z), (3, .int z21), (0, .ref 17), (1, .int s), (2, .int w)]) rfl rfl (by decide) rfl (fun _ => rfl) (fun z22 e_z22 t_z22 => ?_)
          replace hF := kf_le e_z22 hF
          refine kw_goto (pc := 45) (i := 28) (tgt := 5) rfl rfl ?_
          refine kw_sub (lv' := [(4, .int z22), (3, .int z21), (0, .ref 17), (1, .int s), (2, .int w)]) [0, 1, 2, 3, 4] rfl ?_
          exact ih4 z22 z21 (by omega) hF (by omega)
  exact L3 _ 0 0 (by omega) hF (Nat.lt_succ_self _)
noncomputable def l_X1_mostMilesOf_17_5 (a1 : Int32) (a2 : Int32) (S : kw_S) : Nat → Int32 → Int32 → Int32
  | 0, _, _ => 0
  | n + 1, x3, x4 => if x4.toInt < (S.1 17 5).toInt then (kf_l (a1 >>> (x4 &&& 31)) fun z2 => kf_l (z2 &&& (1 : Int32)) fun z3 => if z3.toInt = (1 : Int32).toInt then (kf_l (f_X1_pullOf_17 S x4 a2) fun z5 => kf_l (if (0 : Int32) < z5 then z5 else (0 : Int32)) fun z6 => kf_l (x3 + z6) fun z7 => kf_l (x4 + Int32.ofInt 1) fun z8 => l_X1_mostMilesOf_17_5 a1 a2 S n z7 z8) else (kf_l (x4 + Int32.ofInt 1) fun z4 => l_X1_mostMilesOf_17_5 a1 a2 S n x3 z4)) else (kf_l (x3 / (4 : Int32)) fun z1 => z1)
theorem l_X1_mostMilesOf_17_5_s (a1 : Int32) (a2 : Int32) (S : kw_S) (n : Nat) (x3 : Int32) (x4 : Int32) : l_X1_mostMilesOf_17_5 a1 a2 S (n + 1) x3 x4 = if x4.toInt < (S.1 17 5).toInt then (kf_l (a1 >>> (x4 &&& 31)) fun z2 => kf_l (z2 &&& (1 : Int32)) fun z3 => if z3.toInt = (1 : Int32).toInt then (kf_l (f_X1_pullOf_17 S x4 a2) fun z5 => kf_l (if (0 : Int32) < z5 then z5 else (0 : Int32)) fun z6 => kf_l (x3 + z6) fun z7 => kf_l (x4 + Int32.ofInt 1) fun z8 => l_X1_mostMilesOf_17_5 a1 a2 S n z7 z8) else (kf_l (x4 + Int32.ofInt 1) fun z4 => l_X1_mostMilesOf_17_5 a1 a2 S n x3 z4)) else (kf_l (x3 / (4 : Int32)) fun z1 => z1) := rfl
noncomputable def f_X1_mostMilesOf_17 (σ : kw_S) (s : Int32) (w : Int32) : Int32 := l_X1_mostMilesOf_17_5 s w σ ((7 - (0 : Int32).toInt).toNat + 1) (0 : Int32) (0 : Int32)
theorem f_X1_mostMilesOf_17_u (σ : kw_S) (s : Int32) (w : Int32) : f_X1_mostMilesOf_17 σ s w = l_X1_mostMilesOf_17_5 s w σ ((7 - (0 : Int32).toInt).toNat + 1) (0 : Int32) (0 : Int32) := rfl
abbrev p_X1_mostMilesOf_17 (σ : kw_S) (s : Int32) (w : Int32) : Option Value → kw_S → Prop := fun vv σ' => σ' = σ ∧ ∃ r : Int32, vv = some (.int r) ∧ r = f_X1_mostMilesOf_17 σ s w
set_option maxRecDepth 100000 in
set_option maxHeartbeats 4000000 in
theorem c_X1_mostMilesOf_17 (l : Launch) (σ : kw_S) (hI : kw_I bX σ) (s : Int32) (w : Int32) : kw_Met l 3 KX mX1_mostMilesOf [.ref 17, .int s, .int w] σ (p_X1_mostMilesOf_17 σ s w) := by
  have r_s := kw_rng s
  have r_w := kw_rng w
  have hF := (f_X1_mostMilesOf_17_u σ s w).symm
  have q_0 : (0 : Int32).toInt = 0 := rfl
  have q_1 : (1 : Int32).toInt = 1 := rfl
  have q_4 : (4 : Int32).toInt = 4 := rfl
  refine kw_Met.of (by decide) rfl tX1_mostMilesOf (Nat.le_of_ble_eq_true rfl) ?_
  show kw_AW l 3 kw_E0 KX mX1_mostMilesOf (p_X1_mostMilesOf_17 σ s w) 0 [(0, .ref 17), (1, .int s), (2, .int w)] [] σ
  refine kw_iconst (pc := 0) (i := 0) (v := 0) rfl rfl ?_
  refine kw_istore_n (pc := 1) (i := 1) (n := 3) (lv' := [(3, .int 0), (0, .ref 17), (1, .int s), (2, .int w)]) rfl rfl (by decide) rfl ?_
  refine kw_iconst (pc := 2) (i := 2) (v := 0) rfl rfl ?_
  refine kw_istore (pc := 3) (i := 3) (n := 4) (lv' := [(4, .int 0), (3, .int 0), (0, .ref 17), (1, .int s), (2, .int w)]) rfl (by decide) rfl ?_
  have L3 : ∀ (n7 : Nat) (x1 : Int32) (x2 : Int32), 0 ≤ x1.toInt → l_X1_mostMilesOf_17_5 s w σ n7 x2 x1 = (f_X1_mostMilesOf_17 σ s w) → (7 - x1.toInt).toNat < n7 → kw_AW l 3 kw_E0 KX mX1_mostMilesOf (p_X1_mostMilesOf_17 σ s w) 5 [(4, .int x1), (3, .int x2), (0, .ref 17), (1, .int s), (2, .int w)] [] σ := by
    intro n7
    induction n7 with
    | zero => intro x1 x2 v5 hF m6; exact absurd m6 (Nat.not_lt_zero _)
    | succ n7 ih4 =>
      intro x1 x2 v5 hF m6
      replace hF := kf_st (l_X1_mostMilesOf_17_5_s _ _ _ _ _ _) hF
      have r_x1 := kw_rng x1
      have r_x2 := kw_rng x2
      refine kw_iload (pc := 5) (i := 4) (k := 0) (n := 4) rfl rfl ?_
      refine kw_aload_n (pc := 7) (i := 5) (k := 2) (n := 0) rfl rfl rfl ?_
      refine kw_get (pc := 8) (i := 6) (v := .int (σ.1 17 5)) rfl rfl rfl lkX1_33 (fun _ => rfl) ?_
      have b8 : 0 ≤ (σ.1 17 5).toInt ∧ (σ.1 17 5).toInt ≤ 6 := hI 17 5
      refine kw_icmp_ge (pc := 11) (i := 7) (tgt := 44) rfl rfl (fun c9 => ?_) (fun c9 => ?_)
      · replace hF := kf_nl c9 hF
        refine kw_iload_n (pc := 44) (i := 26) (k := 1) (n := 3) rfl rfl rfl ?_
        refine kw_iconst (pc := 45) (i := 27) (v := 4) rfl rfl ?_
        refine kw_idiv (pc := 46) (i := 28) rfl (by omega) (fun z10 e_z10 => ?_)
        have r_z10 := kw_rng z10
        replace hF := kf_le e_z10 hF
        exact kw_ireturn (pc := 47) (i := 29) (ty := .int) rfl rfl rfl ⟨rfl, _, rfl, hF⟩
      · replace hF := kf_p c9 hF
        refine kw_iload_n (pc := 14) (i := 8) (k := 3) (n := 1) rfl rfl rfl ?_
        refine kw_iload (pc := 15) (i := 9) (k := 0) (n := 4) rfl rfl ?_
        refine kw_ishr (pc := 17) (i := 10) rfl (fun z11 e_z11 => ?_)
        have r_z11 := kw_rng z11
        replace hF := kf_le e_z11 hF
        refine kw_iconst (pc := 18) (i := 11) (v := 1) rfl rfl ?_
        refine kw_iand (pc := 19) (i := 12) rfl (fun z12 e_z12 => ?_)
        have r_z12 := kw_rng z12
        replace hF := kf_le e_z12 hF
        refine kw_iconst (pc := 20) (i := 13) (v := 1) rfl rfl ?_
        refine kw_icmp_ne (pc := 21) (i := 14) (tgt := 38) rfl rfl (fun c13 => ?_) (fun c13 => ?_)
        · replace hF := kf_n c13 hF
          refine kw_iinc' (pc := 38) (i := 24) (k := 0) (fun z => [(4, .int z), (3, .int x2), (0, .ref 17), (1, .int s), (2, .int w)]) rfl rfl (by decide) rfl (fun _ => rfl) (fun z14 e_z14 t_z14 => ?_)
          replace hF := kf_le e_z14 hF
          refine kw_goto (pc := 41) (i := 25) (tgt := 5) rfl rfl ?_
          refine kw_sub (lv' := [(4, .int z14), (3, .int x2), (0, .ref 17), (1, .int s), (2, .int w)]) [0, 1, 2, 3, 4] rfl ?_
          exact ih4 z14 x2 (by omega) hF (by omega)
        · replace hF := kf_p c13 hF
          refine kw_iload_n (pc := 24) (i := 15) (k := 1) (n := 3) rfl rfl rfl ?_
          refine kw_iconst (pc := 25) (i := 16) (v := 0) rfl rfl ?_
          refine kw_aload_n (pc := 26) (i := 17) (k := 2) (n := 0) rfl rfl rfl ?_
          refine kw_iload (pc := 27) (i := 18) (k := 0) (n := 4) rfl rfl ?_
          refine kw_iload_n (pc := 29) (i := 19) (k := 4) (n := 2) rfl rfl rfl ?_
          refine kw_callV (pc := 30) (i := 20) (Y := mX1_pullOf) (a := 17) (As := [.int x1, .int w]) (st := [.int 0, .int x2]) kw_hE rfl rfl lvX1_52 arX1_pullOf (c_X1_pullOf_17 l σ hI x1 w ) (by decide) (Nat.le_of_ble_eq_true rfl) rfl (fun v S16 p15 => ?_)
          obtain ⟨e19, z18, rfl, ef17⟩ := p15
          rw [e19]
          replace hF := kf_le ef17 hF
          have r_z18 := kw_rng z18
          show kw_AW l 3 kw_E0 KX mX1_mostMilesOf (p_X1_mostMilesOf_17 σ s w) 33 [(4, .int x1), (3, .int x2), (0, .ref 17), (1, .int s), (2, .int w)] [.int z18, .int 0, .int x2] σ
          refine kw_mmax (pc := 33) (i := 21) rfl jX1_56 (by omega) (Nat.le_of_ble_eq_true rfl) (fun z20 e_z20 t_z20 => ?_)
          replace hF := kf_le e_z20 hF
          refine kw_iadd (pc := 36) (i := 22) rfl (fun z21 e_z21 t_z21 => ?_)
          replace hF := kf_le e_z21 hF
          refine kw_istore_n (pc := 37) (i := 23) (n := 3) (lv' := [(3, .int z21), (4, .int x1), (0, .ref 17), (1, .int s), (2, .int w)]) rfl rfl (by decide) rfl ?_
          refine kw_iinc' (pc := 38) (i := 24) (k := 1) (fun z => [(4, .int z), (3, .int z21), (0, .ref 17), (1, .int s), (2, .int w)]) rfl rfl (by decide) rfl (fun _ => rfl) (fun z22 e_z22 t_z22 => ?_)
          replace hF := kf_le e_z22 hF
          refine kw_goto (pc := 41) (i := 25) (tgt := 5) rfl rfl ?_
          refine kw_sub (lv' := [(4, .int z22), (3, .int z21), (0, .ref 17), (1, .int s), (2, .int w)]) [0, 1, 2, 3, 4] rfl ?_
          exact ih4 z22 z21 (by omega) hF (by omega)
  exact L3 _ 0 0 (by omega) hF (Nat.lt_succ_self _)
noncomputable def l_X1_linenOf_17_4 (a1 : Int32) (S : kw_S) : Nat → Int32 → Int32 → Int32
  | 0, _, _ => 0
  | n + 1, x2, x3 => if x3.toInt < (S.1 17 5).toInt then (kf_l (a1 >>> (x3 &&& 31)) fun z1 => kf_l (z1 &&& (1 : Int32)) fun z2 => if z2.toInt = (1 : Int32).toInt then (kf_l (S.1 47 x3.toNatClampNeg) fun z4 => kf_l (x2 + z4) fun z5 => kf_l (x3 + Int32.ofInt 1) fun z6 => l_X1_linenOf_17_4 a1 S n z5 z6) else (kf_l (x3 + Int32.ofInt 1) fun z3 => l_X1_linenOf_17_4 a1 S n x2 z3)) else (x2)
theorem l_X1_linenOf_17_4_s (a1 : Int32) (S : kw_S) (n : Nat) (x2 : Int32) (x3 : Int32) : l_X1_linenOf_17_4 a1 S (n + 1) x2 x3 = if x3.toInt < (S.1 17 5).toInt then (kf_l (a1 >>> (x3 &&& 31)) fun z1 => kf_l (z1 &&& (1 : Int32)) fun z2 => if z2.toInt = (1 : Int32).toInt then (kf_l (S.1 47 x3.toNatClampNeg) fun z4 => kf_l (x2 + z4) fun z5 => kf_l (x3 + Int32.ofInt 1) fun z6 => l_X1_linenOf_17_4 a1 S n z5 z6) else (kf_l (x3 + Int32.ofInt 1) fun z3 => l_X1_linenOf_17_4 a1 S n x2 z3)) else (x2) := rfl
noncomputable def f_X1_linenOf_17 (σ : kw_S) (s : Int32) : Int32 := l_X1_linenOf_17_4 s σ ((7 - (0 : Int32).toInt).toNat + 1) (0 : Int32) (0 : Int32)
theorem f_X1_linenOf_17_u (σ : kw_S) (s : Int32) : f_X1_linenOf_17 σ s = l_X1_linenOf_17_4 s σ ((7 - (0 : Int32).toInt).toNat + 1) (0 : Int32) (0 : Int32) := rfl
abbrev p_X1_linenOf_17 (σ : kw_S) (s : Int32) : Option Value → kw_S → Prop := fun vv σ' => σ' = σ ∧ ∃ r : Int32, vv = some (.int r) ∧ r = f_X1_linenOf_17 σ s
set_option maxRecDepth 100000 in
set_option maxHeartbeats 4000000 in
theorem c_X1_linenOf_17 (l : Launch) (σ : kw_S) (hI : kw_I bX σ) (s : Int32) : kw_Met l 1 KX mX1_linenOf [.ref 17, .int s] σ (p_X1_linenOf_17 σ s) := by
  have r_s := kw_rng s
  have hF := (f_X1_linenOf_17_u σ s).symm
  have q_0 : (0 : Int32).toInt = 0 := rfl
  have q_1 : (1 : Int32).toInt = 1 := rfl
  refine kw_Met.of (by decide) rfl tX1_linenOf (Nat.le_of_ble_eq_true rfl) ?_
  show kw_AW l 1 kw_E0 KX mX1_linenOf (p_X1_linenOf_17 σ s) 0 [(0, .ref 17), (1, .int s)] [] σ
  refine kw_iconst (pc := 0) (i := 0) (v := 0) rfl rfl ?_
  refine kw_istore_n (pc := 1) (i := 1) (n := 2) (lv' := [(2, .int 0), (0, .ref 17), (1, .int s)]) rfl rfl (by decide) rfl ?_
  refine kw_iconst (pc := 2) (i := 2) (v := 0) rfl rfl ?_
  refine kw_istore_n (pc := 3) (i := 3) (n := 3) (lv' := [(3, .int 0), (2, .int 0), (0, .ref 17), (1, .int s)]) rfl rfl (by decide) rfl ?_
  have L3 : ∀ (n7 : Nat) (x1 : Int32) (x2 : Int32), 0 ≤ x1.toInt → l_X1_linenOf_17_4 s σ n7 x2 x1 = (f_X1_linenOf_17 σ s) → (7 - x1.toInt).toNat < n7 → kw_AW l 1 kw_E0 KX mX1_linenOf (p_X1_linenOf_17 σ s) 4 [(3, .int x1), (2, .int x2), (0, .ref 17), (1, .int s)] [] σ := by
    intro n7
    induction n7 with
    | zero => intro x1 x2 v5 hF m6; exact absurd m6 (Nat.not_lt_zero _)
    | succ n7 ih4 =>
      intro x1 x2 v5 hF m6
      replace hF := kf_st (l_X1_linenOf_17_4_s _ _ _ _ _) hF
      have r_x1 := kw_rng x1
      have r_x2 := kw_rng x2
      refine kw_iload_n (pc := 4) (i := 4) (k := 0) (n := 3) rfl rfl rfl ?_
      refine kw_aload_n (pc := 5) (i := 5) (k := 2) (n := 0) rfl rfl rfl ?_
      refine kw_get (pc := 6) (i := 6) (v := .int (σ.1 17 5)) rfl rfl rfl lkX1_33 (fun _ => rfl) ?_
      have b8 : 0 ≤ (σ.1 17 5).toInt ∧ (σ.1 17 5).toInt ≤ 6 := hI 17 5
      refine kw_icmp_ge (pc := 9) (i := 7) (tgt := 36) rfl rfl (fun c9 => ?_) (fun c9 => ?_)
      · replace hF := kf_nl c9 hF
        refine kw_iload_n (pc := 36) (i := 24) (k := 1) (n := 2) rfl rfl rfl ?_
        exact kw_ireturn (pc := 37) (i := 25) (ty := .int) rfl rfl rfl ⟨rfl, _, rfl, hF⟩
      · replace hF := kf_p c9 hF
        refine kw_iload_n (pc := 12) (i := 8) (k := 3) (n := 1) rfl rfl rfl ?_
        refine kw_iload_n (pc := 13) (i := 9) (k := 0) (n := 3) rfl rfl rfl ?_
        refine kw_ishr (pc := 14) (i := 10) rfl (fun z10 e_z10 => ?_)
        have r_z10 := kw_rng z10
        replace hF := kf_le e_z10 hF
        refine kw_iconst (pc := 15) (i := 11) (v := 1) rfl rfl ?_
        refine kw_iand (pc := 16) (i := 12) rfl (fun z11 e_z11 => ?_)
        have r_z11 := kw_rng z11
        replace hF := kf_le e_z11 hF
        refine kw_iconst (pc := 17) (i := 13) (v := 1) rfl rfl ?_
        refine kw_icmp_ne (pc := 18) (i := 14) (tgt := 30) rfl rfl (fun c12 => ?_) (fun c12 => ?_)
        · replace hF := kf_n c12 hF
          refine kw_iinc' (pc := 30) (i := 22) (k := 0) (fun z => [(3, .int z), (2, .int x2), (0, .ref 17), (1, .int s)]) rfl rfl (by decide) rfl (fun _ => rfl) (fun z13 e_z13 t_z13 => ?_)
          replace hF := kf_le e_z13 hF
          refine kw_goto (pc := 33) (i := 23) (tgt := 4) rfl rfl ?_
          refine kw_sub (lv' := [(3, .int z13), (2, .int x2), (0, .ref 17), (1, .int s)]) [0, 1, 2, 3] rfl ?_
          exact ih4 z13 x2 (by omega) hF (by omega)
        · replace hF := kf_p c12 hF
          refine kw_iload_n (pc := 21) (i := 15) (k := 1) (n := 2) rfl rfl rfl ?_
          refine kw_aload_n (pc := 22) (i := 16) (k := 2) (n := 0) rfl rfl rfl ?_
          refine kw_get (pc := 23) (i := 17) (v := .ref 47) rfl rfl rfl lkX1_21 (fun _ => rfl) ?_
          refine kw_iload_n (pc := 26) (i := 18) (k := 0) (n := 3) rfl rfl rfl ?_
          refine kw_iald (pc := 27) (i := 19) (n := 6) rfl rfl (by omega) (by omega) (fun z14 e_z14 => ?_)
          replace hF := kf_le e_z14 hF
          have t_z14 := congrArg Int32.toInt e_z14
          have r_z14 := kw_rng z14
          refine kw_iadd (pc := 28) (i := 20) rfl (fun z15 e_z15 t_z15 => ?_)
          replace hF := kf_le e_z15 hF
          refine kw_istore_n (pc := 29) (i := 21) (n := 2) (lv' := [(2, .int z15), (3, .int x1), (0, .ref 17), (1, .int s)]) rfl rfl (by decide) rfl ?_
          refine kw_iinc' (pc := 30) (i := 22) (k := 1) (fun z => [(3, .int z), (2, .int z15), (0, .ref 17), (1, .int s)]) rfl rfl (by decide) rfl (fun _ => rfl) (fun z16 e_z16 t_z16 => ?_)
          replace hF := kf_le e_z16 hF
          refine kw_goto (pc := 33) (i := 23) (tgt := 4) rfl rfl ?_
          refine kw_sub (lv' := [(3, .int z16), (2, .int z15), (0, .ref 17), (1, .int s)]) [0, 1, 2, 3] rfl ?_
          exact ih4 z16 z15 (by omega) hF (by omega)
  exact L3 _ 0 0 (by omega) hF (Nat.lt_succ_self _)
noncomputable def l_X1_howManyAre_17_4 (a1 : Int32) (S : kw_S) : Nat → Int32 → Int32 → Int32
  | 0, _, _ => 0
  | n + 1, x2, x3 => if x3.toInt < (S.1 17 5).toInt then (kf_l (S.1 44 x3.toNatClampNeg) fun z1 => kf_l (f_X7_isA S z1 a1) fun z2 => if z2.toInt = 0 then (kf_l (x3 + Int32.ofInt 1) fun z3 => l_X1_howManyAre_17_4 a1 S n x2 z3) else (kf_l (x2 + Int32.ofInt 1) fun z4 => kf_l (x3 + Int32.ofInt 1) fun z5 => l_X1_howManyAre_17_4 a1 S n z4 z5)) else (x2)
theorem l_X1_howManyAre_17_4_s (a1 : Int32) (S : kw_S) (n : Nat) (x2 : Int32) (x3 : Int32) : l_X1_howManyAre_17_4 a1 S (n + 1) x2 x3 = if x3.toInt < (S.1 17 5).toInt then (kf_l (S.1 44 x3.toNatClampNeg) fun z1 => kf_l (f_X7_isA S z1 a1) fun z2 => if z2.toInt = 0 then (kf_l (x3 + Int32.ofInt 1) fun z3 => l_X1_howManyAre_17_4 a1 S n x2 z3) else (kf_l (x2 + Int32.ofInt 1) fun z4 => kf_l (x3 + Int32.ofInt 1) fun z5 => l_X1_howManyAre_17_4 a1 S n z4 z5)) else (x2) := rfl
noncomputable def f_X1_howManyAre_17 (σ : kw_S) (kind : Int32) : Int32 := l_X1_howManyAre_17_4 kind σ ((7 - (0 : Int32).toInt).toNat + 1) (0 : Int32) (0 : Int32)
theorem f_X1_howManyAre_17_u (σ : kw_S) (kind : Int32) : f_X1_howManyAre_17 σ kind = l_X1_howManyAre_17_4 kind σ ((7 - (0 : Int32).toInt).toNat + 1) (0 : Int32) (0 : Int32) := rfl
abbrev p_X1_howManyAre_17 (σ : kw_S) (kind : Int32) : Option Value → kw_S → Prop := fun vv σ' => σ' = σ ∧ ∃ r : Int32, vv = some (.int r) ∧ r = f_X1_howManyAre_17 σ kind
set_option maxRecDepth 100000 in
set_option maxHeartbeats 4000000 in
theorem c_X1_howManyAre_17 (l : Launch) (σ : kw_S) (hI : kw_I bX σ) (kind : Int32) : kw_Met l 2 KX mX1_howManyAre [.ref 17, .int kind] σ (p_X1_howManyAre_17 σ kind) := by
  have r_kind := kw_rng kind
  have hF := (f_X1_howManyAre_17_u σ kind).symm
  have q_0 : (0 : Int32).toInt = 0 := rfl
  refine kw_Met.of (by decide) rfl tX1_howManyAre (Nat.le_of_ble_eq_true rfl) ?_
  show kw_AW l 2 kw_E0 KX mX1_howManyAre (p_X1_howManyAre_17 σ kind) 0 [(0, .ref 17), (1, .int kind)] [] σ
  refine kw_iconst (pc := 0) (i := 0) (v := 0) rfl rfl ?_
  refine kw_istore_n (pc := 1) (i := 1) (n := 2) (lv' := [(2, .int 0), (0, .ref 17), (1, .int kind)]) rfl rfl (by decide) rfl ?_
  refine kw_iconst (pc := 2) (i := 2) (v := 0) rfl rfl ?_
  refine kw_istore_n (pc := 3) (i := 3) (n := 3) (lv' := [(3, .int 0), (2, .int 0), (0, .ref 17), (1, .int kind)]) rfl rfl (by decide) rfl ?_
  have L3 : ∀ (n7 : Nat) (x1 : Int32) (x2 : Int32), 0 ≤ x1.toInt → l_X1_howManyAre_17_4 kind σ n7 x2 x1 = (f_X1_howManyAre_17 σ kind) → (7 - x1.toInt).toNat < n7 → kw_AW l 2 kw_E0 KX mX1_howManyAre (p_X1_howManyAre_17 σ kind) 4 [(3, .int x1), (2, .int x2), (0, .ref 17), (1, .int kind)] [] σ := by
    intro n7
    induction n7 with
    | zero => intro x1 x2 v5 hF m6; exact absurd m6 (Nat.not_lt_zero _)
    | succ n7 ih4 =>
      intro x1 x2 v5 hF m6
      replace hF := kf_st (l_X1_howManyAre_17_4_s _ _ _ _ _) hF
      have r_x1 := kw_rng x1
      have r_x2 := kw_rng x2
      refine kw_iload_n (pc := 4) (i := 4) (k := 0) (n := 3) rfl rfl rfl ?_
      refine kw_aload_n (pc := 5) (i := 5) (k := 2) (n := 0) rfl rfl rfl ?_
      refine kw_get (pc := 6) (i := 6) (v := .int (σ.1 17 5)) rfl rfl rfl lkX1_33 (fun _ => rfl) ?_
      have b8 : 0 ≤ (σ.1 17 5).toInt ∧ (σ.1 17 5).toInt ≤ 6 := hI 17 5
      refine kw_icmp_ge (pc := 9) (i := 7) (tgt := 34) rfl rfl (fun c9 => ?_) (fun c9 => ?_)
      · replace hF := kf_nl c9 hF
        refine kw_iload_n (pc := 34) (i := 18) (k := 1) (n := 2) rfl rfl rfl ?_
        exact kw_ireturn (pc := 35) (i := 19) (ty := .int) rfl rfl rfl ⟨rfl, _, rfl, hF⟩
      · replace hF := kf_p c9 hF
        refine kw_aload_n (pc := 12) (i := 8) (k := 2) (n := 0) rfl rfl rfl ?_
        refine kw_get (pc := 13) (i := 9) (v := .ref 44) rfl rfl rfl lkX1_9 (fun _ => rfl) ?_
        refine kw_iload_n (pc := 16) (i := 10) (k := 0) (n := 3) rfl rfl rfl ?_
        refine kw_iald (pc := 17) (i := 11) (n := 6) rfl rfl (by omega) (by omega) (fun z10 e_z10 => ?_)
        replace hF := kf_le e_z10 hF
        have t_z10 := congrArg Int32.toInt e_z10
        have r_z10 := kw_rng z10
        refine kw_iload_n (pc := 18) (i := 12) (k := 3) (n := 1) rfl rfl rfl ?_
        refine kw_callN (pc := 19) (i := 13) (Y := mX7_isA) (As := [.int z10, .int kind]) (st := []) kw_hE rfl lnX1_61 arX7_isA (c_X7_isA l σ hI z10 kind ) (by decide) (Nat.le_of_ble_eq_true rfl) rfl (fun v S12 p11 => ?_)
        obtain ⟨e16, z15, rfl, f13, ef14⟩ := p11
        rw [e16]
        replace hF := kf_le ef14 hF
        have r_z15 := kw_rng z15
        show kw_AW l 2 kw_E0 KX mX1_howManyAre (p_X1_howManyAre_17 σ kind) 22 [(3, .int x1), (2, .int x2), (0, .ref 17), (1, .int kind)] [.int z15] σ
        refine kw_if_eq (pc := 22) (i := 14) (tgt := 28) rfl rfl (fun c17 => ?_) (fun c17 => ?_)
        · replace hF := kf_p c17 hF
          refine kw_iinc' (pc := 28) (i := 16) (k := 0) (fun z => [(3, .int z), (2, .int x2), (0, .ref 17), (1, .int kind)]) rfl rfl (by decide) rfl (fun _ => rfl) (fun z18 e_z18 t_z18 => ?_)
          replace hF := kf_le e_z18 hF
          refine kw_goto (pc := 31) (i := 17) (tgt := 4) rfl rfl ?_
          refine kw_sub (lv' := [(3, .int z18), (2, .int x2), (0, .ref 17), (1, .int kind)]) [0, 1, 2, 3] rfl ?_
          exact ih4 z18 x2 (by omega) hF (by omega)
        · replace hF := kf_n c17 hF
          refine kw_iinc' (pc := 25) (i := 15) (k := 1) (fun z => [(2, .int z), (3, .int x1), (0, .ref 17), (1, .int kind)]) rfl rfl (by decide) rfl (fun _ => rfl) (fun z19 e_z19 t_z19 => ?_)
          replace hF := kf_le e_z19 hF
          refine kw_iinc' (pc := 28) (i := 16) (k := 1) (fun z => [(3, .int z), (2, .int z19), (0, .ref 17), (1, .int kind)]) rfl rfl (by decide) rfl (fun _ => rfl) (fun z20 e_z20 t_z20 => ?_)
          replace hF := kf_le e_z20 hF
          refine kw_goto (pc := 31) (i := 17) (tgt := 4) rfl rfl ?_
          refine kw_sub (lv' := [(3, .int z20), (2, .int z19), (0, .ref 17), (1, .int kind)]) [0, 1, 2, 3] rfl ?_
          exact ih4 z20 z19 (by omega) hF (by omega)
  exact L3 _ 0 0 (by omega) hF (Nat.lt_succ_self _)
noncomputable def l_X1_othersNoWider_17_14 (a1 : Int32) (S : kw_S) : Nat → Int32 → Int32 → Int32
  | 0, _, _ => 0
  | n + 1, x2, x3 => if x3.toInt < (S.1 17 5).toInt then (if x3.toInt = a1.toInt then (kf_l (x3 + Int32.ofInt 1) fun z2 => l_X1_othersNoWider_17_14 a1 S n x2 z2) else (kf_l (S.1 46 x3.toNatClampNeg) fun z3 => kf_l (S.1 46 a1.toNatClampNeg) fun z4 => if z4.toInt < z3.toInt then (kf_l (x3 + Int32.ofInt 1) fun z5 => l_X1_othersNoWider_17_14 a1 S n x2 z5) else (kf_l (x2 + Int32.ofInt 1) fun z6 => kf_l (x3 + Int32.ofInt 1) fun z7 => l_X1_othersNoWider_17_14 a1 S n z6 z7))) else (x2)
theorem l_X1_othersNoWider_17_14_s (a1 : Int32) (S : kw_S) (n : Nat) (x2 : Int32) (x3 : Int32) : l_X1_othersNoWider_17_14 a1 S (n + 1) x2 x3 = if x3.toInt < (S.1 17 5).toInt then (if x3.toInt = a1.toInt then (kf_l (x3 + Int32.ofInt 1) fun z2 => l_X1_othersNoWider_17_14 a1 S n x2 z2) else (kf_l (S.1 46 x3.toNatClampNeg) fun z3 => kf_l (S.1 46 a1.toNatClampNeg) fun z4 => if z4.toInt < z3.toInt then (kf_l (x3 + Int32.ofInt 1) fun z5 => l_X1_othersNoWider_17_14 a1 S n x2 z5) else (kf_l (x2 + Int32.ofInt 1) fun z6 => kf_l (x3 + Int32.ofInt 1) fun z7 => l_X1_othersNoWider_17_14 a1 S n z6 z7))) else (x2) := rfl
noncomputable def f_X1_othersNoWider_17 (σ : kw_S) (i : Int32) : Int32 := kf_l (f_X1_hasLine_17 σ i) fun z1 => if z1.toInt = 0 then ((0 : Int32)) else (l_X1_othersNoWider_17_14 i σ ((7 - (0 : Int32).toInt).toNat + 1) (0 : Int32) (0 : Int32))
theorem f_X1_othersNoWider_17_u (σ : kw_S) (i : Int32) : f_X1_othersNoWider_17 σ i = kf_l (f_X1_hasLine_17 σ i) fun z1 => if z1.toInt = 0 then ((0 : Int32)) else (l_X1_othersNoWider_17_14 i σ ((7 - (0 : Int32).toInt).toNat + 1) (0 : Int32) (0 : Int32)) := rfl
abbrev p_X1_othersNoWider_17 (σ : kw_S) (i : Int32) : Option Value → kw_S → Prop := fun vv σ' => σ' = σ ∧ ∃ r : Int32, vv = some (.int r) ∧ r = f_X1_othersNoWider_17 σ i
set_option maxRecDepth 100000 in
set_option maxHeartbeats 4000000 in
theorem c_X1_othersNoWider_17 (l : Launch) (σ : kw_S) (hI : kw_I bX σ) (i : Int32) : kw_Met l 2 KX mX1_othersNoWider [.ref 17, .int i] σ (p_X1_othersNoWider_17 σ i) := by
  have r_i := kw_rng i
  have hF := (f_X1_othersNoWider_17_u σ i).symm
  have q_0 : (0 : Int32).toInt = 0 := rfl
  refine kw_Met.of (by decide) rfl tX1_othersNoWider (Nat.le_of_ble_eq_true rfl) ?_
  show kw_AW l 2 kw_E0 KX mX1_othersNoWider (p_X1_othersNoWider_17 σ i) 0 [(0, .ref 17), (1, .int i)] [] σ
  refine kw_aload_n (pc := 0) (i := 0) (k := 0) (n := 0) rfl rfl rfl ?_
  refine kw_iload_n (pc := 1) (i := 1) (k := 1) (n := 1) rfl rfl rfl ?_
  refine kw_callV (pc := 2) (i := 2) (Y := mX1_hasLine) (a := 17) (As := [.int i]) (st := []) kw_hE rfl rfl lvX1_44 arX1_hasLine (c_X1_hasLine_17 l σ hI i ) (by decide) (Nat.le_of_ble_eq_true rfl) rfl (fun v S2 p1 => ?_)
  obtain ⟨e7, z6, rfl, f3, f4, ef5⟩ := p1
  rw [e7]
  replace hF := kf_le ef5 hF
  have r_z6 := kw_rng z6
  show kw_AW l 2 kw_E0 KX mX1_othersNoWider (p_X1_othersNoWider_17 σ i) 5 [(0, .ref 17), (1, .int i)] [.int z6] σ
  refine kw_if_ne (pc := 5) (i := 3) (tgt := 10) rfl rfl (fun c8 => ?_) (fun c8 => ?_)
  · replace hF := kf_n c8 hF
    refine kw_iconst (pc := 10) (i := 6) (v := 0) rfl rfl ?_
    refine kw_istore_n (pc := 11) (i := 7) (n := 2) (lv' := [(2, .int 0), (0, .ref 17), (1, .int i)]) rfl rfl (by decide) rfl ?_
    refine kw_iconst (pc := 12) (i := 8) (v := 0) rfl rfl ?_
    refine kw_istore_n (pc := 13) (i := 9) (n := 3) (lv' := [(3, .int 0), (2, .int 0), (0, .ref 17), (1, .int i)]) rfl rfl (by decide) rfl ?_
    have L11 : ∀ (n15 : Nat) (x9 : Int32) (x10 : Int32), 0 ≤ x9.toInt → l_X1_othersNoWider_17_14 i σ n15 x10 x9 = (f_X1_othersNoWider_17 σ i) → (7 - x9.toInt).toNat < n15 → kw_AW l 2 kw_E0 KX mX1_othersNoWider (p_X1_othersNoWider_17 σ i) 14 [(3, .int x9), (2, .int x10), (0, .ref 17), (1, .int i)] [] σ := by
      intro n15
      induction n15 with
      | zero => intro x9 x10 v13 hF m14; exact absurd m14 (Nat.not_lt_zero _)
      | succ n15 ih12 =>
        intro x9 x10 v13 hF m14
        replace hF := kf_st (l_X1_othersNoWider_17_14_s _ _ _ _ _) hF
        have r_x9 := kw_rng x9
        have r_x10 := kw_rng x10
        refine kw_iload_n (pc := 14) (i := 10) (k := 0) (n := 3) rfl rfl rfl ?_
        refine kw_aload_n (pc := 15) (i := 11) (k := 2) (n := 0) rfl rfl rfl ?_
        refine kw_get (pc := 16) (i := 12) (v := .int (σ.1 17 5)) rfl rfl rfl lkX1_33 (fun _ => rfl) ?_
        have b16 : 0 ≤ (σ.1 17 5).toInt ∧ (σ.1 17 5).toInt ≤ 6 := hI 17 5
        refine kw_icmp_ge (pc := 19) (i := 13) (tgt := 51) rfl rfl (fun c17 => ?_) (fun c17 => ?_)
        · replace hF := kf_nl c17 hF
          refine kw_iload_n (pc := 51) (i := 29) (k := 1) (n := 2) rfl rfl rfl ?_
          exact kw_ireturn (pc := 52) (i := 30) (ty := .int) rfl rfl rfl ⟨rfl, _, rfl, hF⟩
        · replace hF := kf_p c17 hF
          refine kw_iload_n (pc := 22) (i := 14) (k := 0) (n := 3) rfl rfl rfl ?_
          refine kw_iload_n (pc := 23) (i := 15) (k := 3) (n := 1) rfl rfl rfl ?_
          refine kw_icmp_eq (pc := 24) (i := 16) (tgt := 45) rfl rfl (fun c18 => ?_) (fun c18 => ?_)
          · replace hF := kf_p c18 hF
            refine kw_iinc' (pc := 45) (i := 27) (k := 0) (fun z => [(3, .int z), (2, .int x10), (0, .ref 17), (1, .int i)]) rfl rfl (by decide) rfl (fun _ => rfl) (fun z19 e_z19 t_z19 => ?_)
            replace hF := kf_le e_z19 hF
            refine kw_goto (pc := 48) (i := 28) (tgt := 14) rfl rfl ?_
            refine kw_sub (lv' := [(3, .int z19), (2, .int x10), (0, .ref 17), (1, .int i)]) [0, 1, 2, 3] rfl ?_
            exact ih12 z19 x10 (by omega) hF (by omega)
          · replace hF := kf_n c18 hF
            refine kw_aload_n (pc := 27) (i := 17) (k := 2) (n := 0) rfl rfl rfl ?_
            refine kw_get (pc := 28) (i := 18) (v := .ref 46) rfl rfl rfl lkX1_18 (fun _ => rfl) ?_
            refine kw_iload_n (pc := 31) (i := 19) (k := 0) (n := 3) rfl rfl rfl ?_
            refine kw_iald (pc := 32) (i := 20) (n := 6) rfl rfl (by omega) (by omega) (fun z20 e_z20 => ?_)
            replace hF := kf_le e_z20 hF
            have t_z20 := congrArg Int32.toInt e_z20
            have r_z20 := kw_rng z20
            refine kw_aload_n (pc := 33) (i := 21) (k := 2) (n := 0) rfl rfl rfl ?_
            refine kw_get (pc := 34) (i := 22) (v := .ref 46) rfl rfl rfl lkX1_18 (fun _ => rfl) ?_
            refine kw_iload_n (pc := 37) (i := 23) (k := 3) (n := 1) rfl rfl rfl ?_
            refine kw_iald (pc := 38) (i := 24) (n := 6) rfl rfl (by omega) (by omega) (fun z21 e_z21 => ?_)
            replace hF := kf_le e_z21 hF
            have t_z21 := congrArg Int32.toInt e_z21
            have r_z21 := kw_rng z21
            refine kw_icmp_gt (pc := 39) (i := 25) (tgt := 45) rfl rfl (fun c22 => ?_) (fun c22 => ?_)
            · replace hF := kf_p c22 hF
              refine kw_iinc' (pc := 45) (i := 27) (k := 0) (fun z => [(3, .int z), (2, .int x10), (0, .ref 17), (1, .int i)]) rfl rfl (by decide) rfl (fun _ => rfl) (fun z23 e_z23 t_z23 => ?_)
              replace hF := kf_le e_z23 hF
              refine kw_goto (pc := 48) (i := 28) (tgt := 14) rfl rfl ?_
              refine kw_sub (lv' := [(3, .int z23), (2, .int x10), (0, .ref 17), (1, .int i)]) [0, 1, 2, 3] rfl ?_
              exact ih12 z23 x10 (by omega) hF (by omega)
            · replace hF := kf_nl c22 hF
              refine kw_iinc' (pc := 42) (i := 26) (k := 1) (fun z => [(2, .int z), (3, .int x9), (0, .ref 17), (1, .int i)]) rfl rfl (by decide) rfl (fun _ => rfl) (fun z24 e_z24 t_z24 => ?_)
              replace hF := kf_le e_z24 hF
              refine kw_iinc' (pc := 45) (i := 27) (k := 1) (fun z => [(3, .int z), (2, .int z24), (0, .ref 17), (1, .int i)]) rfl rfl (by decide) rfl (fun _ => rfl) (fun z25 e_z25 t_z25 => ?_)
              replace hF := kf_le e_z25 hF
              refine kw_goto (pc := 48) (i := 28) (tgt := 14) rfl rfl ?_
              refine kw_sub (lv' := [(3, .int z25), (2, .int z24), (0, .ref 17), (1, .int i)]) [0, 1, 2, 3] rfl ?_
              exact ih12 z25 z24 (by omega) hF (by omega)
    exact L11 _ 0 0 (by omega) hF (Nat.lt_succ_self _)
  · replace hF := kf_p c8 hF
    refine kw_iconst (pc := 8) (i := 4) (v := 0) rfl rfl ?_
    exact kw_ireturn (pc := 9) (i := 5) (ty := .int) rfl rfl rfl ⟨rfl, _, rfl, hF⟩
end
section
noncomputable def l_X0_draw_6_17_59 (k29 : Int32 → kw_S → kw_S) (a2 : Int32) (a3 : Int32) (a4 : Int32) (a5 : Int32) : Nat → Int32 → kw_S → kw_S
  | 0, _, S => S
  | n + 1, x6, S => if x6.toInt < (S.1 6 3).toInt then (kf_l ((S.1 6 3) + x6) fun z6 => if z6.toInt < (64 : Int32).toInt then (kf_l ((S.1 6 3) + x6) fun z9 => kf_l (S.1 22 x6.toNatClampNeg) fun z10 => kf_l (z10 + a4) fun z11 => kf_l ((S.1 6 3) + x6) fun z12 => kf_l ((kw_ui S 22 z9.toNatClampNeg z11).1 23 x6.toNatClampNeg) fun z13 => kf_l (z13 + a5) fun z14 => kf_l (x6 + Int32.ofInt 1) fun z15 => l_X0_draw_6_17_59 k29 a2 a3 a4 a5 n z15 (kw_ui (kw_ui S 22 z9.toNatClampNeg z11) 23 z12.toNatClampNeg z14)) else (kf_l ((S.1 6 3) <<< ((1 : Int32) &&& 31)) fun z7 => kf_l (a3 + Int32.ofInt 1) fun z8 => k29 z8 (kw_ui S 6 3 z7))) else (kf_l ((S.1 6 3) <<< ((1 : Int32) &&& 31)) fun z4 => kf_l (a3 + Int32.ofInt 1) fun z5 => k29 z5 (kw_ui S 6 3 z4))
theorem l_X0_draw_6_17_59_s (k29 : Int32 → kw_S → kw_S) (a2 : Int32) (a3 : Int32) (a4 : Int32) (a5 : Int32) (n : Nat) (x6 : Int32) (S : kw_S) : l_X0_draw_6_17_59 k29 a2 a3 a4 a5 (n + 1) x6 S = if x6.toInt < (S.1 6 3).toInt then (kf_l ((S.1 6 3) + x6) fun z6 => if z6.toInt < (64 : Int32).toInt then (kf_l ((S.1 6 3) + x6) fun z9 => kf_l (S.1 22 x6.toNatClampNeg) fun z10 => kf_l (z10 + a4) fun z11 => kf_l ((S.1 6 3) + x6) fun z12 => kf_l ((kw_ui S 22 z9.toNatClampNeg z11).1 23 x6.toNatClampNeg) fun z13 => kf_l (z13 + a5) fun z14 => kf_l (x6 + Int32.ofInt 1) fun z15 => l_X0_draw_6_17_59 k29 a2 a3 a4 a5 n z15 (kw_ui (kw_ui S 22 z9.toNatClampNeg z11) 23 z12.toNatClampNeg z14)) else (kf_l ((S.1 6 3) <<< ((1 : Int32) &&& 31)) fun z7 => kf_l (a3 + Int32.ofInt 1) fun z8 => k29 z8 (kw_ui S 6 3 z7))) else (kf_l ((S.1 6 3) <<< ((1 : Int32) &&& 31)) fun z4 => kf_l (a3 + Int32.ofInt 1) fun z5 => k29 z5 (kw_ui S 6 3 z4)) := rfl
noncomputable def l_X0_draw_6_17_29 (a2 : Int32) : Nat → Int32 → kw_S → kw_S
  | 0, _, S => S
  | n + 1, x3, S => if x3.toInt < (S.1 6 2).toInt then (kf_l (f_X1_pullOf_17 S x3 a2) fun z1 => kf_l (S.1 45 x3.toNatClampNeg) fun z2 => kf_l (z1 * z2) fun z3 => l_X0_draw_6_17_59 (l_X0_draw_6_17_29 a2 n) a2 x3 z1 z3 ((65 - (0 : Int32).toInt).toNat + 1) (0 : Int32) S) else (S)
theorem l_X0_draw_6_17_29_s (a2 : Int32) (n : Nat) (x3 : Int32) (S : kw_S) : l_X0_draw_6_17_29 a2 (n + 1) x3 S = if x3.toInt < (S.1 6 2).toInt then (kf_l (f_X1_pullOf_17 S x3 a2) fun z1 => kf_l (S.1 45 x3.toNatClampNeg) fun z2 => kf_l (z1 * z2) fun z3 => l_X0_draw_6_17_59 (l_X0_draw_6_17_29 a2 n) a2 x3 z1 z3 ((65 - (0 : Int32).toInt).toNat + 1) (0 : Int32) S) else (S) := rfl
noncomputable def f_X0_draw_6_17 (σ : kw_S) (w : Int32) : kw_S := l_X0_draw_6_17_29 w ((7 - (0 : Int32).toInt).toNat + 1) (0 : Int32) (kw_ui (kw_ui (kw_ui (kw_ui σ 6 2 (σ.1 17 5)) 6 3 1) 22 ((0 : Int32).toNatClampNeg) 0) 23 ((0 : Int32).toNatClampNeg) 0)
theorem f_X0_draw_6_17_u (σ : kw_S) (w : Int32) : f_X0_draw_6_17 σ w = l_X0_draw_6_17_29 w ((7 - (0 : Int32).toInt).toNat + 1) (0 : Int32) (kw_ui (kw_ui (kw_ui (kw_ui σ 6 2 (σ.1 17 5)) 6 3 1) 22 ((0 : Int32).toNatClampNeg) 0) 23 ((0 : Int32).toNatClampNeg) 0) := rfl
abbrev p_X0_draw_6_17 (σ : kw_S) (w : Int32) : Option Value → kw_S → Prop := fun vv σ' => (kw_I bX σ' ∧ kw_F [6, 22, 23] σ σ') ∧ vv = none ∧ σ' = f_X0_draw_6_17 σ w
set_option maxRecDepth 100000 in
set_option maxHeartbeats 4000000 in
theorem c_X0_draw_6_17 (l : Launch) (σ : kw_S) (hI : kw_I bX σ) (w : Int32) : kw_Met l 3 KX mX0_draw [.ref 6, .ref 17, .int w] σ (p_X0_draw_6_17 σ w) := by
  have r_w := kw_rng w
  have hF0 : kw_F [6, 22, 23] σ σ := kw_F.rf
  have hF := (f_X0_draw_6_17_u σ w).symm
  have q_0 : (0 : Int32).toInt = 0 := rfl
  have q_1 : (1 : Int32).toInt = 1 := rfl
  have q_64 : (64 : Int32).toInt = 64 := rfl
  refine kw_Met.of (by decide) rfl tX0_draw (Nat.le_of_ble_eq_true rfl) ?_
  show kw_AW l 3 kw_E0 KX mX0_draw (p_X0_draw_6_17 σ w) 0 [(0, .ref 6), (1, .ref 17), (2, .int w)] [] σ
  refine kw_aload_n (pc := 0) (i := 0) (k := 0) (n := 0) rfl rfl rfl ?_
  refine kw_aload_n (pc := 1) (i := 1) (k := 1) (n := 1) rfl rfl rfl ?_
  refine kw_get (pc := 2) (i := 2) (v := .int (σ.1 17 5)) rfl rfl rfl lkX0_18 (fun _ => rfl) ?_
  have b1 : 0 ≤ (σ.1 17 5).toInt ∧ (σ.1 17 5).toInt ≤ 6 := hI 17 5
  refine kw_puti (pc := 5) (i := 3) (z := 0) rfl rfl rfl lpX0_24 rfl rfl ?_
  have I2 : kw_I bX (kw_ui σ 6 2 (σ.1 17 5)) := kw_I_ui hI (show 0 ≤ (σ.1 17 5).toInt by omega) (show (σ.1 17 5).toInt ≤ 6 by omega)
  have F3 : kw_F [6, 22, 23] σ (kw_ui σ 6 2 (σ.1 17 5)) := kw_F_ui hF0 (by decide)
  refine kw_aload_n (pc := 8) (i := 4) (k := 0) (n := 0) rfl rfl rfl ?_
  refine kw_iconst (pc := 9) (i := 5) (v := 1) rfl rfl ?_
  refine kw_puti (pc := 10) (i := 6) (z := 0) rfl rfl rfl lpX0_25 rfl rfl ?_
  have I4 : kw_I bX (kw_ui (kw_ui σ 6 2 (σ.1 17 5)) 6 3 1) := kw_I_ui I2 (kw_rng (1 : Int32)).1 (Int.le_of_lt_add_one (kw_rng (1 : Int32)).2)
  have F5 : kw_F [6, 22, 23] σ (kw_ui (kw_ui σ 6 2 (σ.1 17 5)) 6 3 1) := kw_F_ui F3 (by decide)
  refine kw_aload_n (pc := 13) (i := 7) (k := 0) (n := 0) rfl rfl rfl ?_
  refine kw_get (pc := 14) (i := 8) (v := .ref 22) rfl rfl rfl lkX0_9 (fun _ => rfl) ?_
  refine kw_iconst (pc := 17) (i := 9) (v := 0) rfl rfl ?_
  refine kw_iconst (pc := 18) (i := 10) (v := 0) rfl rfl ?_
  refine kw_iast (pc := 19) (i := 11) (n := 64) rfl rfl (by omega) (by omega) ?_
  have I6 : kw_I bX (kw_ui (kw_ui (kw_ui σ 6 2 (σ.1 17 5)) 6 3 1) 22 ((0 : Int32).toNatClampNeg) 0) := kw_I_ui I4 (kw_rng (0 : Int32)).1 (Int.le_of_lt_add_one (kw_rng (0 : Int32)).2)
  have F7 : kw_F [6, 22, 23] σ (kw_ui (kw_ui (kw_ui σ 6 2 (σ.1 17 5)) 6 3 1) 22 ((0 : Int32).toNatClampNeg) 0) := kw_F_ui F5 (by decide)
  refine kw_aload_n (pc := 20) (i := 12) (k := 0) (n := 0) rfl rfl rfl ?_
  refine kw_get (pc := 21) (i := 13) (v := .ref 23) rfl rfl rfl lkX0_15 (fun _ => rfl) ?_
  refine kw_iconst (pc := 24) (i := 14) (v := 0) rfl rfl ?_
  refine kw_iconst (pc := 25) (i := 15) (v := 0) rfl rfl ?_
  refine kw_iast (pc := 26) (i := 16) (n := 64) rfl rfl (by omega) (by omega) ?_
  have I8 : kw_I bX (kw_ui (kw_ui (kw_ui (kw_ui σ 6 2 (σ.1 17 5)) 6 3 1) 22 ((0 : Int32).toNatClampNeg) 0) 23 ((0 : Int32).toNatClampNeg) 0) := kw_I_ui I6 (kw_rng (0 : Int32)).1 (Int.le_of_lt_add_one (kw_rng (0 : Int32)).2)
  have F9 : kw_F [6, 22, 23] σ (kw_ui (kw_ui (kw_ui (kw_ui σ 6 2 (σ.1 17 5)) 6 3 1) 22 ((0 : Int32).toNatClampNeg) 0) 23 ((0 : Int32).toNatClampNeg) 0) := kw_F_ui F7 (by decide)
  refine kw_iconst (pc := 27) (i := 17) (v := 0) rfl rfl ?_
  refine kw_istore_n (pc := 28) (i := 18) (n := 3) (lv' := [(3, .int 0), (0, .ref 6), (1, .ref 17), (2, .int w)]) rfl rfl (by decide) rfl ?_
  have L14 : ∀ (n20 : Nat) (x10 : Int32) (S11 : kw_S), kw_I bX S11 → kw_F [6, 22, 23] σ S11 → 0 ≤ x10.toInt → x10.toInt ≤ 6 → kw_pw x10.toInt (S11.1 6 3).toInt → l_X0_draw_6_17_29 w n20 x10 S11 = (f_X0_draw_6_17 σ w) → (7 - x10.toInt).toNat < n20 → kw_AW l 3 kw_E0 KX mX0_draw (p_X0_draw_6_17 σ w) 29 [(3, .int x10), (0, .ref 6), (1, .ref 17), (2, .int w)] [] S11 := by
    intro n20
    induction n20 with
    | zero => intro x10 S11 I12 F13 v16 v17 v18 hF m19; exact absurd m19 (Nat.not_lt_zero _)
    | succ n20 ih15 =>
      intro x10 S11 I12 F13 v16 v17 v18 hF m19
      replace hF := kf_st (l_X0_draw_6_17_29_s _ _ _ _) hF
      have r_x10 := kw_rng x10
      have w_0 := kw_pwB v18 (by omega) (by omega)
      refine kw_iload_n (pc := 29) (i := 19) (k := 0) (n := 3) rfl rfl rfl ?_
      refine kw_aload_n (pc := 30) (i := 20) (k := 1) (n := 0) rfl rfl rfl ?_
      refine kw_get (pc := 31) (i := 21) (v := .int (S11.1 6 2)) rfl rfl rfl lkX0_24 (fun _ => rfl) ?_
      have b21 : 0 ≤ (S11.1 6 2).toInt ∧ (S11.1 6 2).toInt ≤ 6 := I12 6 2
      refine kw_icmp_ge (pc := 34) (i := 22) (tgt := 146) rfl rfl (fun c22 => ?_) (fun c22 => ?_)
      · replace hF := kf_nl c22 hF
        exact kw_return (pc := 146) (i := 83) rfl rfl ⟨⟨I12, F13⟩, rfl, hF⟩
      · replace hF := kf_p c22 hF
        refine kw_aload_n (pc := 37) (i := 23) (k := 2) (n := 1) rfl rfl rfl ?_
        refine kw_iload_n (pc := 38) (i := 24) (k := 0) (n := 3) rfl rfl rfl ?_
        refine kw_iload_n (pc := 39) (i := 25) (k := 3) (n := 2) rfl rfl rfl ?_
        refine kw_callV (pc := 40) (i := 26) (Y := mX1_pullOf) (a := 17) (As := [.int x10, .int w]) (st := []) kw_hE rfl rfl lvX0_28 arX1_pullOf (c_X1_pullOf_17 l S11 I12 x10 w ) (by decide) (Nat.le_of_ble_eq_true rfl) rfl (fun v S24 p23 => ?_)
        obtain ⟨e27, z26, rfl, ef25⟩ := p23
        rw [e27]
        replace hF := kf_le ef25 hF
        have r_z26 := kw_rng z26
        show kw_AW l 3 kw_E0 KX mX0_draw (p_X0_draw_6_17 σ w) 43 [(3, .int x10), (0, .ref 6), (1, .ref 17), (2, .int w)] [.int z26] S11
        refine kw_istore (pc := 43) (i := 27) (n := 4) (lv' := [(4, .int z26), (3, .int x10), (0, .ref 6), (1, .ref 17), (2, .int w)]) rfl (by decide) rfl ?_
        refine kw_iload (pc := 45) (i := 28) (k := 0) (n := 4) rfl rfl ?_
        refine kw_aload_n (pc := 47) (i := 29) (k := 3) (n := 1) rfl rfl rfl ?_
        refine kw_get (pc := 48) (i := 30) (v := .ref 45) rfl rfl rfl lkX0_32 (fun _ => rfl) ?_
        refine kw_iload_n (pc := 51) (i := 31) (k := 1) (n := 3) rfl rfl rfl ?_
        refine kw_iald (pc := 52) (i := 32) (n := 6) rfl rfl (by omega) (by omega) (fun z28 e_z28 => ?_)
        replace hF := kf_le e_z28 hF
        have t_z28 := congrArg Int32.toInt e_z28
        have r_z28 := kw_rng z28
        refine kw_imul (pc := 53) (i := 33) rfl (fun z29 e_z29 t_z29 => ?_)
        replace hF := kf_le e_z29 hF
        refine kw_istore (pc := 54) (i := 34) (n := 5) (lv' := [(5, .int z29), (4, .int z26), (3, .int x10), (0, .ref 6), (1, .ref 17), (2, .int w)]) rfl (by decide) rfl ?_
        refine kw_iconst (pc := 56) (i := 35) (v := 0) rfl rfl ?_
        refine kw_istore (pc := 57) (i := 36) (n := 6) (lv' := [(6, .int 0), (5, .int z29), (4, .int z26), (3, .int x10), (0, .ref 6), (1, .ref 17), (2, .int w)]) rfl (by decide) rfl ?_
        have L34 : ∀ (n39 : Nat) (x30 : Int32) (S31 : kw_S), kw_I bX S31 → kw_F [6, 22, 23] σ S31 → 0 ≤ x30.toInt → kw_pw x10.toInt (S31.1 6 3).toInt → l_X0_draw_6_17_59 (l_X0_draw_6_17_29 w n20) w x10 z26 z29 n39 x30 S31 = (f_X0_draw_6_17 σ w) → (65 - x30.toInt).toNat < n39 → kw_AW l 3 kw_E0 KX mX0_draw (p_X0_draw_6_17 σ w) 59 [(6, .int x30), (5, .int z29), (4, .int z26), (3, .int x10), (0, .ref 6), (1, .ref 17), (2, .int w)] [] S31 := by
          intro n39
          induction n39 with
          | zero => intro x30 S31 I32 F33 v36 v37 hF m38; exact absurd m38 (Nat.not_lt_zero _)
          | succ n39 ih35 =>
            intro x30 S31 I32 F33 v36 v37 hF m38
            replace hF := kf_st (l_X0_draw_6_17_59_s _ _ _ _ _ _ _ _) hF
            have r_x30 := kw_rng x30
            have w_1 := kw_pwB v37 (by omega) (by omega)
            refine kw_iload (pc := 59) (i := 37) (k := 0) (n := 6) rfl rfl ?_
            refine kw_aload_n (pc := 61) (i := 38) (k := 4) (n := 0) rfl rfl rfl ?_
            refine kw_get (pc := 62) (i := 39) (v := .int (S31.1 6 3)) rfl rfl rfl lkX0_25 (fun _ => rfl) ?_
            have b40 := kw_rng (S31.1 6 3)
            refine kw_icmp_ge (pc := 65) (i := 40) (tgt := 130) rfl rfl (fun c41 => ?_) (fun c41 => ?_)
            · replace hF := kf_nl c41 hF
              refine kw_aload_n (pc := 130) (i := 75) (k := 4) (n := 0) rfl rfl rfl ?_
              refine kw_dup (pc := 131) (i := 76) rfl rfl ?_
              refine kw_get (pc := 132) (i := 77) (v := .int (S31.1 6 3)) rfl rfl rfl lkX0_25 (fun _ => rfl) ?_
              refine kw_iconst (pc := 135) (i := 78) (v := 1) rfl rfl ?_
              refine kw_ishl (pc := 136) (i := 79) rfl (fun z42 e_z42 => ?_)
              have r_z42 := kw_rng z42
              replace hF := kf_le e_z42 hF
              have t_z42 := kw_shl1 z42 (S31.1 6 3) e_z42
              refine kw_puti (pc := 137) (i := 80) (z := 0) rfl rfl rfl lpX0_25 rfl rfl ?_
              have I43 : kw_I bX (kw_ui S31 6 3 z42) := kw_I_ui I32 (kw_rng z42).1 (Int.le_of_lt_add_one (kw_rng z42).2)
              have F44 : kw_F [6, 22, 23] σ (kw_ui S31 6 3 z42) := kw_F_ui F33 (by decide)
              refine kw_iinc' (pc := 140) (i := 81) (k := 3) (fun z => [(3, .int z), (6, .int x30), (5, .int z29), (4, .int z26), (0, .ref 6), (1, .ref 17), (2, .int w)]) rfl rfl (by decide) rfl (fun _ => rfl) (fun z45 e_z45 t_z45 => ?_)
              replace hF := kf_le e_z45 hF
              refine kw_goto (pc := 143) (i := 82) (tgt := 29) rfl rfl ?_
              refine kw_sub (lv' := [(3, .int z45), (0, .ref 6), (1, .ref 17), (2, .int w)]) [0, 4, 5, 6] rfl ?_
              exact ih15 z45 (kw_ui S31 6 3 z42) I43 F44 (by omega) (by omega) (show kw_pw z45.toInt z42.toInt from by exact kw_pwS v37 (by omega) (by omega) (by omega)) hF (by omega)
            · replace hF := kf_p c41 hF
              refine kw_aload_n (pc := 68) (i := 41) (k := 4) (n := 0) rfl rfl rfl ?_
              refine kw_get (pc := 69) (i := 42) (v := .int (S31.1 6 3)) rfl rfl rfl lkX0_25 (fun _ => rfl) ?_
              refine kw_iload (pc := 72) (i := 43) (k := 0) (n := 6) rfl rfl ?_
              refine kw_iadd (pc := 74) (i := 44) rfl (fun z46 e_z46 t_z46 => ?_)
              replace hF := kf_le e_z46 hF
              refine kw_bipush (pc := 75) (i := 45) (v := 64) rfl rfl ?_
              refine kw_icmp_ge (pc := 77) (i := 46) (tgt := 130) rfl rfl (fun c47 => ?_) (fun c47 => ?_)
              · replace hF := kf_nl c47 hF
                refine kw_aload_n (pc := 130) (i := 75) (k := 4) (n := 0) rfl rfl rfl ?_
                refine kw_dup (pc := 131) (i := 76) rfl rfl ?_
                refine kw_get (pc := 132) (i := 77) (v := .int (S31.1 6 3)) rfl rfl rfl lkX0_25 (fun _ => rfl) ?_
                refine kw_iconst (pc := 135) (i := 78) (v := 1) rfl rfl ?_
                refine kw_ishl (pc := 136) (i := 79) rfl (fun z48 e_z48 => ?_)
                have r_z48 := kw_rng z48
                replace hF := kf_le e_z48 hF
                have t_z48 := kw_shl1 z48 (S31.1 6 3) e_z48
                refine kw_puti (pc := 137) (i := 80) (z := 0) rfl rfl rfl lpX0_25 rfl rfl ?_
                have I49 : kw_I bX (kw_ui S31 6 3 z48) := kw_I_ui I32 (kw_rng z48).1 (Int.le_of_lt_add_one (kw_rng z48).2)
                have F50 : kw_F [6, 22, 23] σ (kw_ui S31 6 3 z48) := kw_F_ui F33 (by decide)
                refine kw_iinc' (pc := 140) (i := 81) (k := 3) (fun z => [(3, .int z), (6, .int x30), (5, .int z29), (4, .int z26), (0, .ref 6), (1, .ref 17), (2, .int w)]) rfl rfl (by decide) rfl (fun _ => rfl) (fun z51 e_z51 t_z51 => ?_)
                replace hF := kf_le e_z51 hF
                refine kw_goto (pc := 143) (i := 82) (tgt := 29) rfl rfl ?_
                refine kw_sub (lv' := [(3, .int z51), (0, .ref 6), (1, .ref 17), (2, .int w)]) [0, 4, 5, 6] rfl ?_
                exact ih15 z51 (kw_ui S31 6 3 z48) I49 F50 (by omega) (by omega) (show kw_pw z51.toInt z48.toInt from by exact kw_pwS v37 (by omega) (by omega) (by omega)) hF (by omega)
              · replace hF := kf_p c47 hF
                refine kw_aload_n (pc := 80) (i := 47) (k := 4) (n := 0) rfl rfl rfl ?_
                refine kw_get (pc := 81) (i := 48) (v := .ref 22) rfl rfl rfl lkX0_9 (fun _ => rfl) ?_
                refine kw_aload_n (pc := 84) (i := 49) (k := 4) (n := 0) rfl rfl rfl ?_
                refine kw_get (pc := 85) (i := 50) (v := .int (S31.1 6 3)) rfl rfl rfl lkX0_25 (fun _ => rfl) ?_
                refine kw_iload (pc := 88) (i := 51) (k := 0) (n := 6) rfl rfl ?_
                refine kw_iadd (pc := 90) (i := 52) rfl (fun z52 e_z52 t_z52 => ?_)
                replace hF := kf_le e_z52 hF
                refine kw_aload_n (pc := 91) (i := 53) (k := 4) (n := 0) rfl rfl rfl ?_
                refine kw_get (pc := 92) (i := 54) (v := .ref 22) rfl rfl rfl lkX0_9 (fun _ => rfl) ?_
                refine kw_iload (pc := 95) (i := 55) (k := 0) (n := 6) rfl rfl ?_
                refine kw_iald (pc := 97) (i := 56) (n := 64) rfl rfl (by omega) (by omega) (fun z53 e_z53 => ?_)
                replace hF := kf_le e_z53 hF
                have t_z53 := congrArg Int32.toInt e_z53
                have r_z53 := kw_rng z53
                refine kw_iload (pc := 98) (i := 57) (k := 2) (n := 4) rfl rfl ?_
                refine kw_iadd (pc := 100) (i := 58) rfl (fun z54 e_z54 t_z54 => ?_)
                replace hF := kf_le e_z54 hF
                refine kw_iast (pc := 101) (i := 59) (n := 64) rfl rfl (by omega) (by omega) ?_
                have I55 : kw_I bX (kw_ui S31 22 z52.toNatClampNeg z54) := kw_I_ui I32 (kw_rng z54).1 (Int.le_of_lt_add_one (kw_rng z54).2)
                have F56 : kw_F [6, 22, 23] σ (kw_ui S31 22 z52.toNatClampNeg z54) := kw_F_ui F33 (by decide)
                refine kw_aload_n (pc := 102) (i := 60) (k := 4) (n := 0) rfl rfl rfl ?_
                refine kw_get (pc := 103) (i := 61) (v := .ref 23) rfl rfl rfl lkX0_15 (fun _ => rfl) ?_
                refine kw_aload_n (pc := 106) (i := 62) (k := 4) (n := 0) rfl rfl rfl ?_
                refine kw_get (pc := 107) (i := 63) (v := .int (S31.1 6 3)) rfl rfl rfl lkX0_25 (fun _ => rfl) ?_
                refine kw_iload (pc := 110) (i := 64) (k := 0) (n := 6) rfl rfl ?_
                refine kw_iadd (pc := 112) (i := 65) rfl (fun z57 e_z57 t_z57 => ?_)
                replace hF := kf_le e_z57 hF
                refine kw_aload_n (pc := 113) (i := 66) (k := 4) (n := 0) rfl rfl rfl ?_
                refine kw_get (pc := 114) (i := 67) (v := .ref 23) rfl rfl rfl lkX0_15 (fun _ => rfl) ?_
                refine kw_iload (pc := 117) (i := 68) (k := 0) (n := 6) rfl rfl ?_
                refine kw_iald (pc := 119) (i := 69) (n := 64) rfl rfl (by omega) (by omega) (fun z58 e_z58 => ?_)
                replace hF := kf_le e_z58 hF
                have t_z58 := congrArg Int32.toInt e_z58
                have r_z58 := kw_rng z58
                refine kw_iload (pc := 120) (i := 70) (k := 1) (n := 5) rfl rfl ?_
                refine kw_iadd (pc := 122) (i := 71) rfl (fun z59 e_z59 t_z59 => ?_)
                replace hF := kf_le e_z59 hF
                refine kw_iast (pc := 123) (i := 72) (n := 64) rfl rfl (by omega) (by omega) ?_
                have I60 : kw_I bX (kw_ui (kw_ui S31 22 z52.toNatClampNeg z54) 23 z57.toNatClampNeg z59) := kw_I_ui I55 (kw_rng z59).1 (Int.le_of_lt_add_one (kw_rng z59).2)
                have F61 : kw_F [6, 22, 23] σ (kw_ui (kw_ui S31 22 z52.toNatClampNeg z54) 23 z57.toNatClampNeg z59) := kw_F_ui F56 (by decide)
                refine kw_iinc' (pc := 124) (i := 73) (k := 0) (fun z => [(6, .int z), (5, .int z29), (4, .int z26), (3, .int x10), (0, .ref 6), (1, .ref 17), (2, .int w)]) rfl rfl (by decide) rfl (fun _ => rfl) (fun z62 e_z62 t_z62 => ?_)
                replace hF := kf_le e_z62 hF
                refine kw_goto (pc := 127) (i := 74) (tgt := 59) rfl rfl ?_
                refine kw_sub (lv' := [(6, .int z62), (5, .int z29), (4, .int z26), (3, .int x10), (0, .ref 6), (1, .ref 17), (2, .int w)]) [0, 1, 2, 3, 4, 5, 6] rfl ?_
                exact ih35 z62 (kw_ui (kw_ui S31 22 z52.toNatClampNeg z54) 23 z57.toNatClampNeg z59) I60 F61 (by omega) (show kw_pw x10.toInt (S31.1 6 3).toInt from by exact v37) hF (by omega)
        exact L34 _ 0 S11 I12 F13 (by omega) (show kw_pw x10.toInt (S11.1 6 3).toInt from by exact v18) hF (Nat.lt_succ_self _)
  exact L14 _ 0 (kw_ui (kw_ui (kw_ui (kw_ui σ 6 2 (σ.1 17 5)) 6 3 1) 22 ((0 : Int32).toNatClampNeg) 0) 23 ((0 : Int32).toNatClampNeg) 0) I8 F9 (by omega) (by omega) (show kw_pw (0 : Int32).toInt (1 : Int32).toInt from by exact kw_pw0) hF (Nat.lt_succ_self _)
noncomputable def f_X0_milesOf_6 (σ : kw_S) (s : Int32) : Int32 := if s.toInt < 0 then ((0 : Int32)) else (if s.toInt < (64 : Int32).toInt then (kf_l (σ.1 22 s.toNatClampNeg) fun z1 => kf_l (z1 / (4 : Int32)) fun z2 => z2) else ((0 : Int32)))
theorem f_X0_milesOf_6_u (σ : kw_S) (s : Int32) : f_X0_milesOf_6 σ s = if s.toInt < 0 then ((0 : Int32)) else (if s.toInt < (64 : Int32).toInt then (kf_l (σ.1 22 s.toNatClampNeg) fun z1 => kf_l (z1 / (4 : Int32)) fun z2 => z2) else ((0 : Int32))) := rfl
abbrev p_X0_milesOf_6 (σ : kw_S) (s : Int32) : Option Value → kw_S → Prop := fun vv σ' => σ' = σ ∧ ∃ r : Int32, vv = some (.int r) ∧ r = f_X0_milesOf_6 σ s
set_option maxRecDepth 100000 in
set_option maxHeartbeats 4000000 in
theorem c_X0_milesOf_6 (l : Launch) (σ : kw_S) (hI : kw_I bX σ) (s : Int32) : kw_Met l 1 KX mX0_milesOf [.ref 6, .int s] σ (p_X0_milesOf_6 σ s) := by
  have r_s := kw_rng s
  have hF := (f_X0_milesOf_6_u σ s).symm
  have q_0 : (0 : Int32).toInt = 0 := rfl
  have q_4 : (4 : Int32).toInt = 4 := rfl
  have q_64 : (64 : Int32).toInt = 64 := rfl
  refine kw_Met.of (by decide) rfl tX0_milesOf (Nat.le_of_ble_eq_true rfl) ?_
  show kw_AW l 1 kw_E0 KX mX0_milesOf (p_X0_milesOf_6 σ s) 0 [(0, .ref 6), (1, .int s)] [] σ
  refine kw_iload_n (pc := 0) (i := 0) (k := 1) (n := 1) rfl rfl rfl ?_
  refine kw_if_lt (pc := 1) (i := 1) (tgt := 21) rfl rfl (fun c1 => ?_) (fun c1 => ?_)
  · replace hF := kf_p c1 hF
    refine kw_iconst (pc := 21) (i := 12) (v := 0) rfl rfl ?_
    exact kw_ireturn (pc := 22) (i := 13) (ty := .int) rfl rfl rfl ⟨rfl, _, rfl, hF⟩
  · replace hF := kf_nl c1 hF
    refine kw_iload_n (pc := 4) (i := 2) (k := 1) (n := 1) rfl rfl rfl ?_
    refine kw_bipush (pc := 5) (i := 3) (v := 64) rfl rfl ?_
    refine kw_icmp_ge (pc := 7) (i := 4) (tgt := 21) rfl rfl (fun c2 => ?_) (fun c2 => ?_)
    · replace hF := kf_nl c2 hF
      refine kw_iconst (pc := 21) (i := 12) (v := 0) rfl rfl ?_
      exact kw_ireturn (pc := 22) (i := 13) (ty := .int) rfl rfl rfl ⟨rfl, _, rfl, hF⟩
    · replace hF := kf_p c2 hF
      refine kw_aload_n (pc := 10) (i := 5) (k := 0) (n := 0) rfl rfl rfl ?_
      refine kw_get (pc := 11) (i := 6) (v := .ref 22) rfl rfl rfl lkX0_9 (fun _ => rfl) ?_
      refine kw_iload_n (pc := 14) (i := 7) (k := 1) (n := 1) rfl rfl rfl ?_
      refine kw_iald (pc := 15) (i := 8) (n := 64) rfl rfl (by omega) (by omega) (fun z3 e_z3 => ?_)
      replace hF := kf_le e_z3 hF
      have t_z3 := congrArg Int32.toInt e_z3
      have r_z3 := kw_rng z3
      refine kw_iconst (pc := 16) (i := 9) (v := 4) rfl rfl ?_
      refine kw_idiv (pc := 17) (i := 10) rfl (by omega) (fun z4 e_z4 => ?_)
      have r_z4 := kw_rng z4
      replace hF := kf_le e_z4 hF
      refine kw_goto (pc := 18) (i := 11) (tgt := 22) rfl rfl ?_
      exact kw_ireturn (pc := 22) (i := 13) (ty := .int) rfl rfl rfl ⟨rfl, _, rfl, hF⟩
noncomputable def f_X0_turnBy_6 (σ : kw_S) (s : Int32) : Int32 := if s.toInt < 0 then ((0 : Int32)) else (if s.toInt < (64 : Int32).toInt then (kf_l (σ.1 23 s.toNatClampNeg) fun z1 => z1) else ((0 : Int32)))
theorem f_X0_turnBy_6_u (σ : kw_S) (s : Int32) : f_X0_turnBy_6 σ s = if s.toInt < 0 then ((0 : Int32)) else (if s.toInt < (64 : Int32).toInt then (kf_l (σ.1 23 s.toNatClampNeg) fun z1 => z1) else ((0 : Int32))) := rfl
abbrev p_X0_turnBy_6 (σ : kw_S) (s : Int32) : Option Value → kw_S → Prop := fun vv σ' => σ' = σ ∧ ∃ r : Int32, vv = some (.int r) ∧ r = f_X0_turnBy_6 σ s
set_option maxRecDepth 100000 in
set_option maxHeartbeats 4000000 in
theorem c_X0_turnBy_6 (l : Launch) (σ : kw_S) (hI : kw_I bX σ) (s : Int32) : kw_Met l 1 KX mX0_turnBy [.ref 6, .int s] σ (p_X0_turnBy_6 σ s) := by
  have r_s := kw_rng s
  have hF := (f_X0_turnBy_6_u σ s).symm
  have q_0 : (0 : Int32).toInt = 0 := rfl
  have q_64 : (64 : Int32).toInt = 64 := rfl
  refine kw_Met.of (by decide) rfl tX0_turnBy (Nat.le_of_ble_eq_true rfl) ?_
  show kw_AW l 1 kw_E0 KX mX0_turnBy (p_X0_turnBy_6 σ s) 0 [(0, .ref 6), (1, .int s)] [] σ
  refine kw_iload_n (pc := 0) (i := 0) (k := 1) (n := 1) rfl rfl rfl ?_
  refine kw_if_lt (pc := 1) (i := 1) (tgt := 19) rfl rfl (fun c1 => ?_) (fun c1 => ?_)
  · replace hF := kf_p c1 hF
    refine kw_iconst (pc := 19) (i := 10) (v := 0) rfl rfl ?_
    exact kw_ireturn (pc := 20) (i := 11) (ty := .int) rfl rfl rfl ⟨rfl, _, rfl, hF⟩
  · replace hF := kf_nl c1 hF
    refine kw_iload_n (pc := 4) (i := 2) (k := 1) (n := 1) rfl rfl rfl ?_
    refine kw_bipush (pc := 5) (i := 3) (v := 64) rfl rfl ?_
    refine kw_icmp_ge (pc := 7) (i := 4) (tgt := 19) rfl rfl (fun c2 => ?_) (fun c2 => ?_)
    · replace hF := kf_nl c2 hF
      refine kw_iconst (pc := 19) (i := 10) (v := 0) rfl rfl ?_
      exact kw_ireturn (pc := 20) (i := 11) (ty := .int) rfl rfl rfl ⟨rfl, _, rfl, hF⟩
    · replace hF := kf_p c2 hF
      refine kw_aload_n (pc := 10) (i := 5) (k := 0) (n := 0) rfl rfl rfl ?_
      refine kw_get (pc := 11) (i := 6) (v := .ref 23) rfl rfl rfl lkX0_15 (fun _ => rfl) ?_
      refine kw_iload_n (pc := 14) (i := 7) (k := 1) (n := 1) rfl rfl rfl ?_
      refine kw_iald (pc := 15) (i := 8) (n := 64) rfl rfl (by omega) (by omega) (fun z3 e_z3 => ?_)
      replace hF := kf_le e_z3 hF
      have t_z3 := congrArg Int32.toInt e_z3
      have r_z3 := kw_rng z3
      refine kw_goto (pc := 16) (i := 9) (tgt := 20) rfl rfl ?_
      exact kw_ireturn (pc := 20) (i := 11) (ty := .int) rfl rfl rfl ⟨rfl, _, rfl, hF⟩
noncomputable def l_X0_draw_52_17_59 (k29 : Int32 → kw_S → kw_S) (a2 : Int32) (a3 : Int32) (a4 : Int32) (a5 : Int32) : Nat → Int32 → kw_S → kw_S
  | 0, _, S => S
  | n + 1, x6, S => if x6.toInt < (S.1 52 3).toInt then (kf_l ((S.1 52 3) + x6) fun z6 => if z6.toInt < (64 : Int32).toInt then (kf_l ((S.1 52 3) + x6) fun z9 => kf_l (S.1 55 x6.toNatClampNeg) fun z10 => kf_l (z10 + a4) fun z11 => kf_l ((S.1 52 3) + x6) fun z12 => kf_l ((kw_ui S 55 z9.toNatClampNeg z11).1 56 x6.toNatClampNeg) fun z13 => kf_l (z13 + a5) fun z14 => kf_l (x6 + Int32.ofInt 1) fun z15 => l_X0_draw_52_17_59 k29 a2 a3 a4 a5 n z15 (kw_ui (kw_ui S 55 z9.toNatClampNeg z11) 56 z12.toNatClampNeg z14)) else (kf_l ((S.1 52 3) <<< ((1 : Int32) &&& 31)) fun z7 => kf_l (a3 + Int32.ofInt 1) fun z8 => k29 z8 (kw_ui S 52 3 z7))) else (kf_l ((S.1 52 3) <<< ((1 : Int32) &&& 31)) fun z4 => kf_l (a3 + Int32.ofInt 1) fun z5 => k29 z5 (kw_ui S 52 3 z4))
theorem l_X0_draw_52_17_59_s (k29 : Int32 → kw_S → kw_S) (a2 : Int32) (a3 : Int32) (a4 : Int32) (a5 : Int32) (n : Nat) (x6 : Int32) (S : kw_S) : l_X0_draw_52_17_59 k29 a2 a3 a4 a5 (n + 1) x6 S = if x6.toInt < (S.1 52 3).toInt then (kf_l ((S.1 52 3) + x6) fun z6 => if z6.toInt < (64 : Int32).toInt then (kf_l ((S.1 52 3) + x6) fun z9 => kf_l (S.1 55 x6.toNatClampNeg) fun z10 => kf_l (z10 + a4) fun z11 => kf_l ((S.1 52 3) + x6) fun z12 => kf_l ((kw_ui S 55 z9.toNatClampNeg z11).1 56 x6.toNatClampNeg) fun z13 => kf_l (z13 + a5) fun z14 => kf_l (x6 + Int32.ofInt 1) fun z15 => l_X0_draw_52_17_59 k29 a2 a3 a4 a5 n z15 (kw_ui (kw_ui S 55 z9.toNatClampNeg z11) 56 z12.toNatClampNeg z14)) else (kf_l ((S.1 52 3) <<< ((1 : Int32) &&& 31)) fun z7 => kf_l (a3 + Int32.ofInt 1) fun z8 => k29 z8 (kw_ui S 52 3 z7))) else (kf_l ((S.1 52 3) <<< ((1 : Int32) &&& 31)) fun z4 => kf_l (a3 + Int32.ofInt 1) fun z5 => k29 z5 (kw_ui S 52 3 z4)) := rfl
noncomputable def l_X0_draw_52_17_29 (a2 : Int32) : Nat → Int32 → kw_S → kw_S
  | 0, _, S => S
  | n + 1, x3, S => if x3.toInt < (S.1 52 2).toInt then (kf_l (f_X1_pullOf_17 S x3 a2) fun z1 => kf_l (S.1 45 x3.toNatClampNeg) fun z2 => kf_l (z1 * z2) fun z3 => l_X0_draw_52_17_59 (l_X0_draw_52_17_29 a2 n) a2 x3 z1 z3 ((65 - (0 : Int32).toInt).toNat + 1) (0 : Int32) S) else (S)
theorem l_X0_draw_52_17_29_s (a2 : Int32) (n : Nat) (x3 : Int32) (S : kw_S) : l_X0_draw_52_17_29 a2 (n + 1) x3 S = if x3.toInt < (S.1 52 2).toInt then (kf_l (f_X1_pullOf_17 S x3 a2) fun z1 => kf_l (S.1 45 x3.toNatClampNeg) fun z2 => kf_l (z1 * z2) fun z3 => l_X0_draw_52_17_59 (l_X0_draw_52_17_29 a2 n) a2 x3 z1 z3 ((65 - (0 : Int32).toInt).toNat + 1) (0 : Int32) S) else (S) := rfl
noncomputable def f_X0_draw_52_17 (σ : kw_S) (w : Int32) : kw_S := l_X0_draw_52_17_29 w ((7 - (0 : Int32).toInt).toNat + 1) (0 : Int32) (kw_ui (kw_ui (kw_ui (kw_ui σ 52 2 (σ.1 17 5)) 52 3 1) 55 ((0 : Int32).toNatClampNeg) 0) 56 ((0 : Int32).toNatClampNeg) 0)
theorem f_X0_draw_52_17_u (σ : kw_S) (w : Int32) : f_X0_draw_52_17 σ w = l_X0_draw_52_17_29 w ((7 - (0 : Int32).toInt).toNat + 1) (0 : Int32) (kw_ui (kw_ui (kw_ui (kw_ui σ 52 2 (σ.1 17 5)) 52 3 1) 55 ((0 : Int32).toNatClampNeg) 0) 56 ((0 : Int32).toNatClampNeg) 0) := rfl
abbrev p_X0_draw_52_17 (σ : kw_S) (w : Int32) : Option Value → kw_S → Prop := fun vv σ' => (kw_I bX σ' ∧ kw_F [52, 55, 56] σ σ') ∧ vv = none ∧ σ' = f_X0_draw_52_17 σ w
set_option maxRecDepth 100000 in
set_option maxHeartbeats 4000000 in
theorem c_X0_draw_52_17 (l : Launch) (σ : kw_S) (hI : kw_I bX σ) (w : Int32) : kw_Met l 3 KX mX0_draw [.ref 52, .ref 17, .int w] σ (p_X0_draw_52_17 σ w) := by
  have r_w := kw_rng w
  have hF0 : kw_F [52, 55, 56] σ σ := kw_F.rf
  have hF := (f_X0_draw_52_17_u σ w).symm
  have q_0 : (0 : Int32).toInt = 0 := rfl
  have q_1 : (1 : Int32).toInt = 1 := rfl
  have q_64 : (64 : Int32).toInt = 64 := rfl
  refine kw_Met.of (by decide) rfl tX0_draw (Nat.le_of_ble_eq_true rfl) ?_
  show kw_AW l 3 kw_E0 KX mX0_draw (p_X0_draw_52_17 σ w) 0 [(0, .ref 52), (1, .ref 17), (2, .int w)] [] σ
  refine kw_aload_n (pc := 0) (i := 0) (k := 0) (n := 0) rfl rfl rfl ?_
  refine kw_aload_n (pc := 1) (i := 1) (k := 1) (n := 1) rfl rfl rfl ?_
  refine kw_get (pc := 2) (i := 2) (v := .int (σ.1 17 5)) rfl rfl rfl lkX0_18 (fun _ => rfl) ?_
  have b1 : 0 ≤ (σ.1 17 5).toInt ∧ (σ.1 17 5).toInt ≤ 6 := hI 17 5
  refine kw_puti (pc := 5) (i := 3) (z := 0) rfl rfl rfl lpX0_24 rfl rfl ?_
  have I2 : kw_I bX (kw_ui σ 52 2 (σ.1 17 5)) := kw_I_ui hI (show 0 ≤ (σ.1 17 5).toInt by omega) (show (σ.1 17 5).toInt ≤ 6 by omega)
  have F3 : kw_F [52, 55, 56] σ (kw_ui σ 52 2 (σ.1 17 5)) := kw_F_ui hF0 (by decide)
  refine kw_aload_n (pc := 8) (i := 4) (k := 0) (n := 0) rfl rfl rfl ?_
  refine kw_iconst (pc := 9) (i := 5) (v := 1) rfl rfl ?_
  refine kw_puti (pc := 10) (i := 6) (z := 0) rfl rfl rfl lpX0_25 rfl rfl ?_
  have I4 : kw_I bX (kw_ui (kw_ui σ 52 2 (σ.1 17 5)) 52 3 1) := kw_I_ui I2 (kw_rng (1 : Int32)).1 (Int.le_of_lt_add_one (kw_rng (1 : Int32)).2)
  have F5 : kw_F [52, 55, 56] σ (kw_ui (kw_ui σ 52 2 (σ.1 17 5)) 52 3 1) := kw_F_ui F3 (by decide)
  refine kw_aload_n (pc := 13) (i := 7) (k := 0) (n := 0) rfl rfl rfl ?_
  refine kw_get (pc := 14) (i := 8) (v := .ref 55) rfl rfl rfl lkX0_9 (fun _ => rfl) ?_
  refine kw_iconst (pc := 17) (i := 9) (v := 0) rfl rfl ?_
  refine kw_iconst (pc := 18) (i := 10) (v := 0) rfl rfl ?_
  refine kw_iast (pc := 19) (i := 11) (n := 64) rfl rfl (by omega) (by omega) ?_
  have I6 : kw_I bX (kw_ui (kw_ui (kw_ui σ 52 2 (σ.1 17 5)) 52 3 1) 55 ((0 : Int32).toNatClampNeg) 0) := kw_I_ui I4 (kw_rng (0 : Int32)).1 (Int.le_of_lt_add_one (kw_rng (0 : Int32)).2)
  have F7 : kw_F [52, 55, 56] σ (kw_ui (kw_ui (kw_ui σ 52 2 (σ.1 17 5)) 52 3 1) 55 ((0 : Int32).toNatClampNeg) 0) := kw_F_ui F5 (by decide)
  refine kw_aload_n (pc := 20) (i := 12) (k := 0) (n := 0) rfl rfl rfl ?_
  refine kw_get (pc := 21) (i := 13) (v := .ref 56) rfl rfl rfl lkX0_15 (fun _ => rfl) ?_
  refine kw_iconst (pc := 24) (i := 14) (v := 0) rfl rfl ?_
  refine kw_iconst (pc := 25) (i := 15) (v := 0) rfl rfl ?_
  refine kw_iast (pc := 26) (i := 16) (n := 64) rfl rfl (by omega) (by omega) ?_
  have I8 : kw_I bX (kw_ui (kw_ui (kw_ui (kw_ui σ 52 2 (σ.1 17 5)) 52 3 1) 55 ((0 : Int32).toNatClampNeg) 0) 56 ((0 : Int32).toNatClampNeg) 0) := kw_I_ui I6 (kw_rng (0 : Int32)).1 (Int.le_of_lt_add_one (kw_rng (0 : Int32)).2)
  have F9 : kw_F [52, 55, 56] σ (kw_ui (kw_ui (kw_ui (kw_ui σ 52 2 (σ.1 17 5)) 52 3 1) 55 ((0 : Int32).toNatClampNeg) 0) 56 ((0 : Int32).toNatClampNeg) 0) := kw_F_ui F7 (by decide)
  refine kw_iconst (pc := 27) (i := 17) (v := 0) rfl rfl ?_
  refine kw_istore_n (pc := 28) (i := 18) (n := 3) (lv' := [(3, .int 0), (0, .ref 52), (1, .ref 17), (2, .int w)]) rfl rfl (by decide) rfl ?_
  have L14 : ∀ (n20 : Nat) (x10 : Int32) (S11 : kw_S), kw_I bX S11 → kw_F [52, 55, 56] σ S11 → 0 ≤ x10.toInt → x10.toInt ≤ 6 → kw_pw x10.toInt (S11.1 52 3).toInt → l_X0_draw_52_17_29 w n20 x10 S11 = (f_X0_draw_52_17 σ w) → (7 - x10.toInt).toNat < n20 → kw_AW l 3 kw_E0 KX mX0_draw (p_X0_draw_52_17 σ w) 29 [(3, .int x10), (0, .ref 52), (1, .ref 17), (2, .int w)] [] S11 := by
    intro n20
    induction n20 with
    | zero => intro x10 S11 I12 F13 v16 v17 v18 hF m19; exact absurd m19 (Nat.not_lt_zero _)
    | succ n20 ih15 =>
      intro x10 S11 I12 F13 v16 v17 v18 hF m19
      replace hF := kf_st (l_X0_draw_52_17_29_s _ _ _ _) hF
      have r_x10 := kw_rng x10
      have w_0 := kw_pwB v18 (by omega) (by omega)
      refine kw_iload_n (pc := 29) (i := 19) (k := 0) (n := 3) rfl rfl rfl ?_
      refine kw_aload_n (pc := 30) (i := 20) (k := 1) (n := 0) rfl rfl rfl ?_
      refine kw_get (pc := 31) (i := 21) (v := .int (S11.1 52 2)) rfl rfl rfl lkX0_24 (fun _ => rfl) ?_
      have b21 : 0 ≤ (S11.1 52 2).toInt ∧ (S11.1 52 2).toInt ≤ 6 := I12 52 2
      refine kw_icmp_ge (pc := 34) (i := 22) (tgt := 146) rfl rfl (fun c22 => ?_) (fun c22 => ?_)
      · replace hF := kf_nl c22 hF
        exact kw_return (pc := 146) (i := 83) rfl rfl ⟨⟨I12, F13⟩, rfl, hF⟩
      · replace hF := kf_p c22 hF
        refine kw_aload_n (pc := 37) (i := 23) (k := 2) (n := 1) rfl rfl rfl ?_
        refine kw_iload_n (pc := 38) (i := 24) (k := 0) (n := 3) rfl rfl rfl ?_
        refine kw_iload_n (pc := 39) (i := 25) (k := 3) (n := 2) rfl rfl rfl ?_
        refine kw_callV (pc := 40) (i := 26) (Y := mX1_pullOf) (a := 17) (As := [.int x10, .int w]) (st := []) kw_hE rfl rfl lvX0_28 arX1_pullOf (c_X1_pullOf_17 l S11 I12 x10 w ) (by decide) (Nat.le_of_ble_eq_true rfl) rfl (fun v S24 p23 => ?_)
        obtain ⟨e27, z26, rfl, ef25⟩ := p23
        rw [e27]
        replace hF := kf_le ef25 hF
        have r_z26 := kw_rng z26
        show kw_AW l 3 kw_E0 KX mX0_draw (p_X0_draw_52_17 σ w) 43 [(3, .int x10), (0, .ref 52), (1, .ref 17), (2, .int w)] [.int z26] S11
        refine kw_istore (pc := 43) (i := 27) (n := 4) (lv' := [(4, .int z26), (3, .int x10), (0, .ref 52), (1, .ref 17), (2, .int w)]) rfl (by decide) rfl ?_
        refine kw_iload (pc := 45) (i := 28) (k := 0) (n := 4) rfl rfl ?_
        refine kw_aload_n (pc := 47) (i := 29) (k := 3) (n := 1) rfl rfl rfl ?_
        refine kw_get (pc := 48) (i := 30) (v := .ref 45) rfl rfl rfl lkX0_32 (fun _ => rfl) ?_
        refine kw_iload_n (pc := 51) (i := 31) (k := 1) (n := 3) rfl rfl rfl ?_
        refine kw_iald (pc := 52) (i := 32) (n := 6) rfl rfl (by omega) (by omega) (fun z28 e_z28 => ?_)
        replace hF := kf_le e_z28 hF
        have t_z28 := congrArg Int32.toInt e_z28
        have r_z28 := kw_rng z28
        refine kw_imul (pc := 53) (i := 33) rfl (fun z29 e_z29 t_z29 => ?_)
        replace hF := kf_le e_z29 hF
        refine kw_istore (pc := 54) (i := 34) (n := 5) (lv' := [(5, .int z29), (4, .int z26), (3, .int x10), (0, .ref 52), (1, .ref 17), (2, .int w)]) rfl (by decide) rfl ?_
        refine kw_iconst (pc := 56) (i := 35) (v := 0) rfl rfl ?_
        refine kw_istore (pc := 57) (i := 36) (n := 6) (lv' := [(6, .int 0), (5, .int z29), (4, .int z26), (3, .int x10), (0, .ref 52), (1, .ref 17), (2, .int w)]) rfl (by decide) rfl ?_
        have L34 : ∀ (n39 : Nat) (x30 : Int32) (S31 : kw_S), kw_I bX S31 → kw_F [52, 55, 56] σ S31 → 0 ≤ x30.toInt → kw_pw x10.toInt (S31.1 52 3).toInt → l_X0_draw_52_17_59 (l_X0_draw_52_17_29 w n20) w x10 z26 z29 n39 x30 S31 = (f_X0_draw_52_17 σ w) → (65 - x30.toInt).toNat < n39 → kw_AW l 3 kw_E0 KX mX0_draw (p_X0_draw_52_17 σ w) 59 [(6, .int x30), (5, .int z29), (4, .int z26), (3, .int x10), (0, .ref 52), (1, .ref 17), (2, .int w)] [] S31 := by
          intro n39
          induction n39 with
          | zero => intro x30 S31 I32 F33 v36 v37 hF m38; exact absurd m38 (Nat.not_lt_zero _)
          | succ n39 ih35 =>
            intro x30 S31 I32 F33 v36 v37 hF m38
            replace hF := kf_st (l_X0_draw_52_17_59_s _ _ _ _ _ _ _ _) hF
            have r_x30 := kw_rng x30
            have w_1 := kw_pwB v37 (by omega) (by omega)
            refine kw_iload (pc := 59) (i := 37) (k := 0) (n := 6) rfl rfl ?_
            refine kw_aload_n (pc := 61) (i := 38) (k := 4) (n := 0) rfl rfl rfl ?_
            refine kw_get (pc := 62) (i := 39) (v := .int (S31.1 52 3)) rfl rfl rfl lkX0_25 (fun _ => rfl) ?_
            have b40 := kw_rng (S31.1 52 3)
            refine kw_icmp_ge (pc := 65) (i := 40) (tgt := 130) rfl rfl (fun c41 => ?_) (fun c41 => ?_)
            · replace hF := kf_nl c41 hF
              refine kw_aload_n (pc := 130) (i := 75) (k := 4) (n := 0) rfl rfl rfl ?_
              refine kw_dup (pc := 131) (i := 76) rfl rfl ?_
              refine kw_get (pc := 132) (i := 77) (v := .int (S31.1 52 3)) rfl rfl rfl lkX0_25 (fun _ => rfl) ?_
              refine kw_iconst (pc := 135) (i := 78) (v := 1) rfl rfl ?_
              refine kw_ishl (pc := 136) (i := 79) rfl (fun z42 e_z42 => ?_)
              have r_z42 := kw_rng z42
              replace hF := kf_le e_z42 hF
              have t_z42 := kw_shl1 z42 (S31.1 52 3) e_z42
              refine kw_puti (pc := 137) (i := 80) (z := 0) rfl rfl rfl lpX0_25 rfl rfl ?_
              have I43 : kw_I bX (kw_ui S31 52 3 z42) := kw_I_ui I32 (kw_rng z42).1 (Int.le_of_lt_add_one (kw_rng z42).2)
              have F44 : kw_F [52, 55, 56] σ (kw_ui S31 52 3 z42) := kw_F_ui F33 (by decide)
              refine kw_iinc' (pc := 140) (i := 81) (k := 3) (fun z => [(3, .int z), (6, .int x30), (5, .int z29), (4, .int z26), (0, .ref 52), (1, .ref 17), (2, .int w)]) rfl rfl (by decide) rfl (fun _ => rfl) (fun z45 e_z45 t_z45 => ?_)
              replace hF := kf_le e_z45 hF
              refine kw_goto (pc := 143) (i := 82) (tgt := 29) rfl rfl ?_
              refine kw_sub (lv' := [(3, .int z45), (0, .ref 52), (1, .ref 17), (2, .int w)]) [0, 4, 5, 6] rfl ?_
              exact ih15 z45 (kw_ui S31 52 3 z42) I43 F44 (by omega) (by omega) (show kw_pw z45.toInt z42.toInt from by exact kw_pwS v37 (by omega) (by omega) (by omega)) hF (by omega)
            · replace hF := kf_p c41 hF
              refine kw_aload_n (pc := 68) (i := 41) (k := 4) (n := 0) rfl rfl rfl ?_
              refine kw_get (pc := 69) (i := 42) (v := .int (S31.1 52 3)) rfl rfl rfl lkX0_25 (fun _ => rfl) ?_
              refine kw_iload (pc := 72) (i := 43) (k := 0) (n := 6) rfl rfl ?_
              refine kw_iadd (pc := 74) (i := 44) rfl (fun z46 e_z46 t_z46 => ?_)
              replace hF := kf_le e_z46 hF
              refine kw_bipush (pc := 75) (i := 45) (v := 64) rfl rfl ?_
              refine kw_icmp_ge (pc := 77) (i := 46) (tgt := 130) rfl rfl (fun c47 => ?_) (fun c47 => ?_)
              · replace hF := kf_nl c47 hF
                refine kw_aload_n (pc := 130) (i := 75) (k := 4) (n := 0) rfl rfl rfl ?_
                refine kw_dup (pc := 131) (i := 76) rfl rfl ?_
                refine kw_get (pc := 132) (i := 77) (v := .int (S31.1 52 3)) rfl rfl rfl lkX0_25 (fun _ => rfl) ?_
                refine kw_iconst (pc := 135) (i := 78) (v := 1) rfl rfl ?_
                refine kw_ishl (pc := 136) (i := 79) rfl (fun z48 e_z48 => ?_)
                have r_z48 := kw_rng z48
                replace hF := kf_le e_z48 hF
                have t_z48 := kw_shl1 z48 (S31.1 52 3) e_z48
                refine kw_puti (pc := 137) (i := 80) (z := 0) rfl rfl rfl lpX0_25 rfl rfl ?_
                have I49 : kw_I bX (kw_ui S31 52 3 z48) := kw_I_ui I32 (kw_rng z48).1 (Int.le_of_lt_add_one (kw_rng z48).2)
                have F50 : kw_F [52, 55, 56] σ (kw_ui S31 52 3 z48) := kw_F_ui F33 (by decide)
                refine kw_iinc' (pc := 140) (i := 81) (k := 3) (fun z => [(3, .int z), (6, .int x30), (5, .int z29), (4, .int z26), (0, .ref 52), (1, .ref 17), (2, .int w)]) rfl rfl (by decide) rfl (fun _ => rfl) (fun z51 e_z51 t_z51 => ?_)
                replace hF := kf_le e_z51 hF
                refine kw_goto (pc := 143) (i := 82) (tgt := 29) rfl rfl ?_
                refine kw_sub (lv' := [(3, .int z51), (0, .ref 52), (1, .ref 17), (2, .int w)]) [0, 4, 5, 6] rfl ?_
                exact ih15 z51 (kw_ui S31 52 3 z48) I49 F50 (by omega) (by omega) (show kw_pw z51.toInt z48.toInt from by exact kw_pwS v37 (by omega) (by omega) (by omega)) hF (by omega)
              · replace hF := kf_p c47 hF
                refine kw_aload_n (pc := 80) (i := 47) (k := 4) (n := 0) rfl rfl rfl ?_
                refine kw_get (pc := 81) (i := 48) (v := .ref 55) rfl rfl rfl lkX0_9 (fun _ => rfl) ?_
                refine kw_aload_n (pc := 84) (i := 49) (k := 4) (n := 0) rfl rfl rfl ?_
                refine kw_get (pc := 85) (i := 50) (v := .int (S31.1 52 3)) rfl rfl rfl lkX0_25 (fun _ => rfl) ?_
                refine kw_iload (pc := 88) (i := 51) (k := 0) (n := 6) rfl rfl ?_
                refine kw_iadd (pc := 90) (i := 52) rfl (fun z52 e_z52 t_z52 => ?_)
                replace hF := kf_le e_z52 hF
                refine kw_aload_n (pc := 91) (i := 53) (k := 4) (n := 0) rfl rfl rfl ?_
                refine kw_get (pc := 92) (i := 54) (v := .ref 55) rfl rfl rfl lkX0_9 (fun _ => rfl) ?_
                refine kw_iload (pc := 95) (i := 55) (k := 0) (n := 6) rfl rfl ?_
                refine kw_iald (pc := 97) (i := 56) (n := 64) rfl rfl (by omega) (by omega) (fun z53 e_z53 => ?_)
                replace hF := kf_le e_z53 hF
                have t_z53 := congrArg Int32.toInt e_z53
                have r_z53 := kw_rng z53
                refine kw_iload (pc := 98) (i := 57) (k := 2) (n := 4) rfl rfl ?_
                refine kw_iadd (pc := 100) (i := 58) rfl (fun z54 e_z54 t_z54 => ?_)
                replace hF := kf_le e_z54 hF
                refine kw_iast (pc := 101) (i := 59) (n := 64) rfl rfl (by omega) (by omega) ?_
                have I55 : kw_I bX (kw_ui S31 55 z52.toNatClampNeg z54) := kw_I_ui I32 (kw_rng z54).1 (Int.le_of_lt_add_one (kw_rng z54).2)
                have F56 : kw_F [52, 55, 56] σ (kw_ui S31 55 z52.toNatClampNeg z54) := kw_F_ui F33 (by decide)
                refine kw_aload_n (pc := 102) (i := 60) (k := 4) (n := 0) rfl rfl rfl ?_
                refine kw_get (pc := 103) (i := 61) (v := .ref 56) rfl rfl rfl lkX0_15 (fun _ => rfl) ?_
                refine kw_aload_n (pc := 106) (i := 62) (k := 4) (n := 0) rfl rfl rfl ?_
                refine kw_get (pc := 107) (i := 63) (v := .int (S31.1 52 3)) rfl rfl rfl lkX0_25 (fun _ => rfl) ?_
                refine kw_iload (pc := 110) (i := 64) (k := 0) (n := 6) rfl rfl ?_
                refine kw_iadd (pc := 112) (i := 65) rfl (fun z57 e_z57 t_z57 => ?_)
                replace hF := kf_le e_z57 hF
                refine kw_aload_n (pc := 113) (i := 66) (k := 4) (n := 0) rfl rfl rfl ?_
                refine kw_get (pc := 114) (i := 67) (v := .ref 56) rfl rfl rfl lkX0_15 (fun _ => rfl) ?_
                refine kw_iload (pc := 117) (i := 68) (k := 0) (n := 6) rfl rfl ?_
                refine kw_iald (pc := 119) (i := 69) (n := 64) rfl rfl (by omega) (by omega) (fun z58 e_z58 => ?_)
                replace hF := kf_le e_z58 hF
                have t_z58 := congrArg Int32.toInt e_z58
                have r_z58 := kw_rng z58
                refine kw_iload (pc := 120) (i := 70) (k := 1) (n := 5) rfl rfl ?_
                refine kw_iadd (pc := 122) (i := 71) rfl (fun z59 e_z59 t_z59 => ?_)
                replace hF := kf_le e_z59 hF
                refine kw_iast (pc := 123) (i := 72) (n := 64) rfl rfl (by omega) (by omega) ?_
                have I60 : kw_I bX (kw_ui (kw_ui S31 55 z52.toNatClampNeg z54) 56 z57.toNatClampNeg z59) := kw_I_ui I55 (kw_rng z59).1 (Int.le_of_lt_add_one (kw_rng z59).2)
                have F61 : kw_F [52, 55, 56] σ (kw_ui (kw_ui S31 55 z52.toNatClampNeg z54) 56 z57.toNatClampNeg z59) := kw_F_ui F56 (by decide)
                refine kw_iinc' (pc := 124) (i := 73) (k := 0) (fun z => [(6, .int z), (5, .int z29), (4, .int z26), (3, .int x10), (0, .ref 52), (1, .ref 17), (2, .int w)]) rfl rfl (by decide) rfl (fun _ => rfl) (fun z62 e_z62 t_z62 => ?_)
                replace hF := kf_le e_z62 hF
                refine kw_goto (pc := 127) (i := 74) (tgt := 59) rfl rfl ?_
                refine kw_sub (lv' := [(6, .int z62), (5, .int z29), (4, .int z26), (3, .int x10), (0, .ref 52), (1, .ref 17), (2, .int w)]) [0, 1, 2, 3, 4, 5, 6] rfl ?_
                exact ih35 z62 (kw_ui (kw_ui S31 55 z52.toNatClampNeg z54) 56 z57.toNatClampNeg z59) I60 F61 (by omega) (show kw_pw x10.toInt (S31.1 52 3).toInt from by exact v37) hF (by omega)
        exact L34 _ 0 S11 I12 F13 (by omega) (show kw_pw x10.toInt (S11.1 52 3).toInt from by exact v18) hF (Nat.lt_succ_self _)
  exact L14 _ 0 (kw_ui (kw_ui (kw_ui (kw_ui σ 52 2 (σ.1 17 5)) 52 3 1) 55 ((0 : Int32).toNatClampNeg) 0) 56 ((0 : Int32).toNatClampNeg) 0) I8 F9 (by omega) (by omega) (show kw_pw (0 : Int32).toInt (1 : Int32).toInt from by exact kw_pw0) hF (Nat.lt_succ_self _)
noncomputable def f_X0_milesOf_52 (σ : kw_S) (s : Int32) : Int32 := if s.toInt < 0 then ((0 : Int32)) else (if s.toInt < (64 : Int32).toInt then (kf_l (σ.1 55 s.toNatClampNeg) fun z1 => kf_l (z1 / (4 : Int32)) fun z2 => z2) else ((0 : Int32)))
theorem f_X0_milesOf_52_u (σ : kw_S) (s : Int32) : f_X0_milesOf_52 σ s = if s.toInt < 0 then ((0 : Int32)) else (if s.toInt < (64 : Int32).toInt then (kf_l (σ.1 55 s.toNatClampNeg) fun z1 => kf_l (z1 / (4 : Int32)) fun z2 => z2) else ((0 : Int32))) := rfl
abbrev p_X0_milesOf_52 (σ : kw_S) (s : Int32) : Option Value → kw_S → Prop := fun vv σ' => σ' = σ ∧ ∃ r : Int32, vv = some (.int r) ∧ r = f_X0_milesOf_52 σ s
set_option maxRecDepth 100000 in
set_option maxHeartbeats 4000000 in
theorem c_X0_milesOf_52 (l : Launch) (σ : kw_S) (hI : kw_I bX σ) (s : Int32) : kw_Met l 1 KX mX0_milesOf [.ref 52, .int s] σ (p_X0_milesOf_52 σ s) := by
  have r_s := kw_rng s
  have hF := (f_X0_milesOf_52_u σ s).symm
  have q_0 : (0 : Int32).toInt = 0 := rfl
  have q_4 : (4 : Int32).toInt = 4 := rfl
  have q_64 : (64 : Int32).toInt = 64 := rfl
  refine kw_Met.of (by decide) rfl tX0_milesOf (Nat.le_of_ble_eq_true rfl) ?_
  show kw_AW l 1 kw_E0 KX mX0_milesOf (p_X0_milesOf_52 σ s) 0 [(0, .ref 52), (1, .int s)] [] σ
  refine kw_iload_n (pc := 0) (i := 0) (k := 1) (n := 1) rfl rfl rfl ?_
  refine kw_if_lt (pc := 1) (i := 1) (tgt := 21) rfl rfl (fun c1 => ?_) (fun c1 => ?_)
  · replace hF := kf_p c1 hF
    refine kw_iconst (pc := 21) (i := 12) (v := 0) rfl rfl ?_
    exact kw_ireturn (pc := 22) (i := 13) (ty := .int) rfl rfl rfl ⟨rfl, _, rfl, hF⟩
  · replace hF := kf_nl c1 hF
    refine kw_iload_n (pc := 4) (i := 2) (k := 1) (n := 1) rfl rfl rfl ?_
    refine kw_bipush (pc := 5) (i := 3) (v := 64) rfl rfl ?_
    refine kw_icmp_ge (pc := 7) (i := 4) (tgt := 21) rfl rfl (fun c2 => ?_) (fun c2 => ?_)
    · replace hF := kf_nl c2 hF
      refine kw_iconst (pc := 21) (i := 12) (v := 0) rfl rfl ?_
      exact kw_ireturn (pc := 22) (i := 13) (ty := .int) rfl rfl rfl ⟨rfl, _, rfl, hF⟩
    · replace hF := kf_p c2 hF
      refine kw_aload_n (pc := 10) (i := 5) (k := 0) (n := 0) rfl rfl rfl ?_
      refine kw_get (pc := 11) (i := 6) (v := .ref 55) rfl rfl rfl lkX0_9 (fun _ => rfl) ?_
      refine kw_iload_n (pc := 14) (i := 7) (k := 1) (n := 1) rfl rfl rfl ?_
      refine kw_iald (pc := 15) (i := 8) (n := 64) rfl rfl (by omega) (by omega) (fun z3 e_z3 => ?_)
      replace hF := kf_le e_z3 hF
      have t_z3 := congrArg Int32.toInt e_z3
      have r_z3 := kw_rng z3
      refine kw_iconst (pc := 16) (i := 9) (v := 4) rfl rfl ?_
      refine kw_idiv (pc := 17) (i := 10) rfl (by omega) (fun z4 e_z4 => ?_)
      have r_z4 := kw_rng z4
      replace hF := kf_le e_z4 hF
      refine kw_goto (pc := 18) (i := 11) (tgt := 22) rfl rfl ?_
      exact kw_ireturn (pc := 22) (i := 13) (ty := .int) rfl rfl rfl ⟨rfl, _, rfl, hF⟩
noncomputable def f_X0_turnBy_52 (σ : kw_S) (s : Int32) : Int32 := if s.toInt < 0 then ((0 : Int32)) else (if s.toInt < (64 : Int32).toInt then (kf_l (σ.1 56 s.toNatClampNeg) fun z1 => z1) else ((0 : Int32)))
theorem f_X0_turnBy_52_u (σ : kw_S) (s : Int32) : f_X0_turnBy_52 σ s = if s.toInt < 0 then ((0 : Int32)) else (if s.toInt < (64 : Int32).toInt then (kf_l (σ.1 56 s.toNatClampNeg) fun z1 => z1) else ((0 : Int32))) := rfl
abbrev p_X0_turnBy_52 (σ : kw_S) (s : Int32) : Option Value → kw_S → Prop := fun vv σ' => σ' = σ ∧ ∃ r : Int32, vv = some (.int r) ∧ r = f_X0_turnBy_52 σ s
set_option maxRecDepth 100000 in
set_option maxHeartbeats 4000000 in
theorem c_X0_turnBy_52 (l : Launch) (σ : kw_S) (hI : kw_I bX σ) (s : Int32) : kw_Met l 1 KX mX0_turnBy [.ref 52, .int s] σ (p_X0_turnBy_52 σ s) := by
  have r_s := kw_rng s
  have hF := (f_X0_turnBy_52_u σ s).symm
  have q_0 : (0 : Int32).toInt = 0 := rfl
  have q_64 : (64 : Int32).toInt = 64 := rfl
  refine kw_Met.of (by decide) rfl tX0_turnBy (Nat.le_of_ble_eq_true rfl) ?_
  show kw_AW l 1 kw_E0 KX mX0_turnBy (p_X0_turnBy_52 σ s) 0 [(0, .ref 52), (1, .int s)] [] σ
  refine kw_iload_n (pc := 0) (i := 0) (k := 1) (n := 1) rfl rfl rfl ?_
  refine kw_if_lt (pc := 1) (i := 1) (tgt := 19) rfl rfl (fun c1 => ?_) (fun c1 => ?_)
  · replace hF := kf_p c1 hF
    refine kw_iconst (pc := 19) (i := 10) (v := 0) rfl rfl ?_
    exact kw_ireturn (pc := 20) (i := 11) (ty := .int) rfl rfl rfl ⟨rfl, _, rfl, hF⟩
  · replace hF := kf_nl c1 hF
    refine kw_iload_n (pc := 4) (i := 2) (k := 1) (n := 1) rfl rfl rfl ?_
    refine kw_bipush (pc := 5) (i := 3) (v := 64) rfl rfl ?_
    refine kw_icmp_ge (pc := 7) (i := 4) (tgt := 19) rfl rfl (fun c2 => ?_) (fun c2 => ?_)
    · replace hF := kf_nl c2 hF
      refine kw_iconst (pc := 19) (i := 10) (v := 0) rfl rfl ?_
      exact kw_ireturn (pc := 20) (i := 11) (ty := .int) rfl rfl rfl ⟨rfl, _, rfl, hF⟩
    · replace hF := kf_p c2 hF
      refine kw_aload_n (pc := 10) (i := 5) (k := 0) (n := 0) rfl rfl rfl ?_
      refine kw_get (pc := 11) (i := 6) (v := .ref 56) rfl rfl rfl lkX0_15 (fun _ => rfl) ?_
      refine kw_iload_n (pc := 14) (i := 7) (k := 1) (n := 1) rfl rfl rfl ?_
      refine kw_iald (pc := 15) (i := 8) (n := 64) rfl rfl (by omega) (by omega) (fun z3 e_z3 => ?_)
      replace hF := kf_le e_z3 hF
      have t_z3 := congrArg Int32.toInt e_z3
      have r_z3 := kw_rng z3
      refine kw_goto (pc := 16) (i := 9) (tgt := 20) rfl rfl ?_
      exact kw_ireturn (pc := 20) (i := 11) (ty := .int) rfl rfl rfl ⟨rfl, _, rfl, hF⟩
noncomputable def l_X0_draw_53_17_59 (k29 : Int32 → kw_S → kw_S) (a2 : Int32) (a3 : Int32) (a4 : Int32) (a5 : Int32) : Nat → Int32 → kw_S → kw_S
  | 0, _, S => S
  | n + 1, x6, S => if x6.toInt < (S.1 53 3).toInt then (kf_l ((S.1 53 3) + x6) fun z6 => if z6.toInt < (64 : Int32).toInt then (kf_l ((S.1 53 3) + x6) fun z9 => kf_l (S.1 57 x6.toNatClampNeg) fun z10 => kf_l (z10 + a4) fun z11 => kf_l ((S.1 53 3) + x6) fun z12 => kf_l ((kw_ui S 57 z9.toNatClampNeg z11).1 58 x6.toNatClampNeg) fun z13 => kf_l (z13 + a5) fun z14 => kf_l (x6 + Int32.ofInt 1) fun z15 => l_X0_draw_53_17_59 k29 a2 a3 a4 a5 n z15 (kw_ui (kw_ui S 57 z9.toNatClampNeg z11) 58 z12.toNatClampNeg z14)) else (kf_l ((S.1 53 3) <<< ((1 : Int32) &&& 31)) fun z7 => kf_l (a3 + Int32.ofInt 1) fun z8 => k29 z8 (kw_ui S 53 3 z7))) else (kf_l ((S.1 53 3) <<< ((1 : Int32) &&& 31)) fun z4 => kf_l (a3 + Int32.ofInt 1) fun z5 => k29 z5 (kw_ui S 53 3 z4))
theorem l_X0_draw_53_17_59_s (k29 : Int32 → kw_S → kw_S) (a2 : Int32) (a3 : Int32) (a4 : Int32) (a5 : Int32) (n : Nat) (x6 : Int32) (S : kw_S) : l_X0_draw_53_17_59 k29 a2 a3 a4 a5 (n + 1) x6 S = if x6.toInt < (S.1 53 3).toInt then (kf_l ((S.1 53 3) + x6) fun z6 => if z6.toInt < (64 : Int32).toInt then (kf_l ((S.1 53 3) + x6) fun z9 => kf_l (S.1 57 x6.toNatClampNeg) fun z10 => kf_l (z10 + a4) fun z11 => kf_l ((S.1 53 3) + x6) fun z12 => kf_l ((kw_ui S 57 z9.toNatClampNeg z11).1 58 x6.toNatClampNeg) fun z13 => kf_l (z13 + a5) fun z14 => kf_l (x6 + Int32.ofInt 1) fun z15 => l_X0_draw_53_17_59 k29 a2 a3 a4 a5 n z15 (kw_ui (kw_ui S 57 z9.toNatClampNeg z11) 58 z12.toNatClampNeg z14)) else (kf_l ((S.1 53 3) <<< ((1 : Int32) &&& 31)) fun z7 => kf_l (a3 + Int32.ofInt 1) fun z8 => k29 z8 (kw_ui S 53 3 z7))) else (kf_l ((S.1 53 3) <<< ((1 : Int32) &&& 31)) fun z4 => kf_l (a3 + Int32.ofInt 1) fun z5 => k29 z5 (kw_ui S 53 3 z4)) := rfl
noncomputable def l_X0_draw_53_17_29 (a2 : Int32) : Nat → Int32 → kw_S → kw_S
  | 0, _, S => S
  | n + 1, x3, S => if x3.toInt < (S.1 53 2).toInt then (kf_l (f_X1_pullOf_17 S x3 a2) fun z1 => kf_l (S.1 45 x3.toNatClampNeg) fun z2 => kf_l (z1 * z2) fun z3 => l_X0_draw_53_17_59 (l_X0_draw_53_17_29 a2 n) a2 x3 z1 z3 ((65 - (0 : Int32).toInt).toNat + 1) (0 : Int32) S) else (S)
theorem l_X0_draw_53_17_29_s (a2 : Int32) (n : Nat) (x3 : Int32) (S : kw_S) : l_X0_draw_53_17_29 a2 (n + 1) x3 S = if x3.toInt < (S.1 53 2).toInt then (kf_l (f_X1_pullOf_17 S x3 a2) fun z1 => kf_l (S.1 45 x3.toNatClampNeg) fun z2 => kf_l (z1 * z2) fun z3 => l_X0_draw_53_17_59 (l_X0_draw_53_17_29 a2 n) a2 x3 z1 z3 ((65 - (0 : Int32).toInt).toNat + 1) (0 : Int32) S) else (S) := rfl
noncomputable def f_X0_draw_53_17 (σ : kw_S) (w : Int32) : kw_S := l_X0_draw_53_17_29 w ((7 - (0 : Int32).toInt).toNat + 1) (0 : Int32) (kw_ui (kw_ui (kw_ui (kw_ui σ 53 2 (σ.1 17 5)) 53 3 1) 57 ((0 : Int32).toNatClampNeg) 0) 58 ((0 : Int32).toNatClampNeg) 0)
theorem f_X0_draw_53_17_u (σ : kw_S) (w : Int32) : f_X0_draw_53_17 σ w = l_X0_draw_53_17_29 w ((7 - (0 : Int32).toInt).toNat + 1) (0 : Int32) (kw_ui (kw_ui (kw_ui (kw_ui σ 53 2 (σ.1 17 5)) 53 3 1) 57 ((0 : Int32).toNatClampNeg) 0) 58 ((0 : Int32).toNatClampNeg) 0) := rfl
abbrev p_X0_draw_53_17 (σ : kw_S) (w : Int32) : Option Value → kw_S → Prop := fun vv σ' => (kw_I bX σ' ∧ kw_F [53, 57, 58] σ σ') ∧ vv = none ∧ σ' = f_X0_draw_53_17 σ w
set_option maxRecDepth 100000 in
set_option maxHeartbeats 4000000 in
theorem c_X0_draw_53_17 (l : Launch) (σ : kw_S) (hI : kw_I bX σ) (w : Int32) : kw_Met l 3 KX mX0_draw [.ref 53, .ref 17, .int w] σ (p_X0_draw_53_17 σ w) := by
  have r_w := kw_rng w
  have hF0 : kw_F [53, 57, 58] σ σ := kw_F.rf
  have hF := (f_X0_draw_53_17_u σ w).symm
  have q_0 : (0 : Int32).toInt = 0 := rfl
  have q_1 : (1 : Int32).toInt = 1 := rfl
  have q_64 : (64 : Int32).toInt = 64 := rfl
  refine kw_Met.of (by decide) rfl tX0_draw (Nat.le_of_ble_eq_true rfl) ?_
  show kw_AW l 3 kw_E0 KX mX0_draw (p_X0_draw_53_17 σ w) 0 [(0, .ref 53), (1, .ref 17), (2, .int w)] [] σ
  refine kw_aload_n (pc := 0) (i := 0) (k := 0) (n := 0) rfl rfl rfl ?_
  refine kw_aload_n (pc := 1) (i := 1) (k := 1) (n := 1) rfl rfl rfl ?_
  refine kw_get (pc := 2) (i := 2) (v := .int (σ.1 17 5)) rfl rfl rfl lkX0_18 (fun _ => rfl) ?_
  have b1 : 0 ≤ (σ.1 17 5).toInt ∧ (σ.1 17 5).toInt ≤ 6 := hI 17 5
  refine kw_puti (pc := 5) (i := 3) (z := 0) rfl rfl rfl lpX0_24 rfl rfl ?_
  have I2 : kw_I bX (kw_ui σ 53 2 (σ.1 17 5)) := kw_I_ui hI (show 0 ≤ (σ.1 17 5).toInt by omega) (show (σ.1 17 5).toInt ≤ 6 by omega)
  have F3 : kw_F [53, 57, 58] σ (kw_ui σ 53 2 (σ.1 17 5)) := kw_F_ui hF0 (by decide)
  refine kw_aload_n (pc := 8) (i := 4) (k := 0) (n := 0) rfl rfl rfl ?_
  refine kw_iconst (pc := 9) (i := 5) (v := 1) rfl rfl ?_
  refine kw_puti (pc := 10) (i := 6) (z := 0) rfl rfl rfl lpX0_25 rfl rfl ?_
  have I4 : kw_I bX (kw_ui (kw_ui σ 53 2 (σ.1 17 5)) 53 3 1) := kw_I_ui I2 (kw_rng (1 : Int32)).1 (Int.le_of_lt_add_one (kw_rng (1 : Int32)).2)
  have F5 : kw_F [53, 57, 58] σ (kw_ui (kw_ui σ 53 2 (σ.1 17 5)) 53 3 1) := kw_F_ui F3 (by decide)
  refine kw_aload_n (pc := 13) (i := 7) (k := 0) (n := 0) rfl rfl rfl ?_
  refine kw_get (pc := 14) (i := 8) (v := .ref 57) rfl rfl rfl lkX0_9 (fun _ => rfl) ?_
  refine kw_iconst (pc := 17) (i := 9) (v := 0) rfl rfl ?_
  refine kw_iconst (pc := 18) (i := 10) (v := 0) rfl rfl ?_
  refine kw_iast (pc := 19) (i := 11) (n := 64) rfl rfl (by omega) (by omega) ?_
  have I6 : kw_I bX (kw_ui (kw_ui (kw_ui σ 53 2 (σ.1 17 5)) 53 3 1) 57 ((0 : Int32).toNatClampNeg) 0) := kw_I_ui I4 (kw_rng (0 : Int32)).1 (Int.le_of_lt_add_one (kw_rng (0 : Int32)).2)
  have F7 : kw_F [53, 57, 58] σ (kw_ui (kw_ui (kw_ui σ 53 2 (σ.1 17 5)) 53 3 1) 57 ((0 : Int32).toNatClampNeg) 0) := kw_F_ui F5 (by decide)
  refine kw_aload_n (pc := 20) (i := 12) (k := 0) (n := 0) rfl rfl rfl ?_
  refine kw_get (pc := 21) (i := 13) (v := .ref 58) rfl rfl rfl lkX0_15 (fun _ => rfl) ?_
  refine kw_iconst (pc := 24) (i := 14) (v := 0) rfl rfl ?_
  refine kw_iconst (pc := 25) (i := 15) (v := 0) rfl rfl ?_
  refine kw_iast (pc := 26) (i := 16) (n := 64) rfl rfl (by omega) (by omega) ?_
  have I8 : kw_I bX (kw_ui (kw_ui (kw_ui (kw_ui σ 53 2 (σ.1 17 5)) 53 3 1) 57 ((0 : Int32).toNatClampNeg) 0) 58 ((0 : Int32).toNatClampNeg) 0) := kw_I_ui I6 (kw_rng (0 : Int32)).1 (Int.le_of_lt_add_one (kw_rng (0 : Int32)).2)
  have F9 : kw_F [53, 57, 58] σ (kw_ui (kw_ui (kw_ui (kw_ui σ 53 2 (σ.1 17 5)) 53 3 1) 57 ((0 : Int32).toNatClampNeg) 0) 58 ((0 : Int32).toNatClampNeg) 0) := kw_F_ui F7 (by decide)
  refine kw_iconst (pc := 27) (i := 17) (v := 0) rfl rfl ?_
  refine kw_istore_n (pc := 28) (i := 18) (n := 3) (lv' := [(3, .int 0), (0, .ref 53), (1, .ref 17), (2, .int w)]) rfl rfl (by decide) rfl ?_
  have L14 : ∀ (n20 : Nat) (x10 : Int32) (S11 : kw_S), kw_I bX S11 → kw_F [53, 57, 58] σ S11 → 0 ≤ x10.toInt → x10.toInt ≤ 6 → kw_pw x10.toInt (S11.1 53 3).toInt → l_X0_draw_53_17_29 w n20 x10 S11 = (f_X0_draw_53_17 σ w) → (7 - x10.toInt).toNat < n20 → kw_AW l 3 kw_E0 KX mX0_draw (p_X0_draw_53_17 σ w) 29 [(3, .int x10), (0, .ref 53), (1, .ref 17), (2, .int w)] [] S11 := by
    intro n20
    induction n20 with
    | zero => intro x10 S11 I12 F13 v16 v17 v18 hF m19; exact absurd m19 (Nat.not_lt_zero _)
    | succ n20 ih15 =>
      intro x10 S11 I12 F13 v16 v17 v18 hF m19
      replace hF := kf_st (l_X0_draw_53_17_29_s _ _ _ _) hF
      have r_x10 := kw_rng x10
      have w_0 := kw_pwB v18 (by omega) (by omega)
      refine kw_iload_n (pc := 29) (i := 19) (k := 0) (n := 3) rfl rfl rfl ?_
      refine kw_aload_n (pc := 30) (i := 20) (k := 1) (n := 0) rfl rfl rfl ?_
      refine kw_get (pc := 31) (i := 21) (v := .int (S11.1 53 2)) rfl rfl rfl lkX0_24 (fun _ => rfl) ?_
      have b21 : 0 ≤ (S11.1 53 2).toInt ∧ (S11.1 53 2).toInt ≤ 6 := I12 53 2
      refine kw_icmp_ge (pc := 34) (i := 22) (tgt := 146) rfl rfl (fun c22 => ?_) (fun c22 => ?_)
      · replace hF := kf_nl c22 hF
        exact kw_return (pc := 146) (i := 83) rfl rfl ⟨⟨I12, F13⟩, rfl, hF⟩
      · replace hF := kf_p c22 hF
        refine kw_aload_n (pc := 37) (i := 23) (k := 2) (n := 1) rfl rfl rfl ?_
        refine kw_iload_n (pc := 38) (i := 24) (k := 0) (n := 3) rfl rfl rfl ?_
        refine kw_iload_n (pc := 39) (i := 25) (k := 3) (n := 2) rfl rfl rfl ?_
        refine kw_callV (pc := 40) (i := 26) (Y := mX1_pullOf) (a := 17) (As := [.int x10, .int w]) (st := []) kw_hE rfl rfl lvX0_28 arX1_pullOf (c_X1_pullOf_17 l S11 I12 x10 w ) (by decide) (Nat.le_of_ble_eq_true rfl) rfl (fun v S24 p23 => ?_)
        obtain ⟨e27, z26, rfl, ef25⟩ := p23
        rw [e27]
        replace hF := kf_le ef25 hF
        have r_z26 := kw_rng z26
        show kw_AW l 3 kw_E0 KX mX0_draw (p_X0_draw_53_17 σ w) 43 [(3, .int x10), (0, .ref 53), (1, .ref 17), (2, .int w)] [.int z26] S11
        refine kw_istore (pc := 43) (i := 27) (n := 4) (lv' := [(4, .int z26), (3, .int x10), (0, .ref 53), (1, .ref 17), (2, .int w)]) rfl (by decide) rfl ?_
        refine kw_iload (pc := 45) (i := 28) (k := 0) (n := 4) rfl rfl ?_
        refine kw_aload_n (pc := 47) (i := 29) (k := 3) (n := 1) rfl rfl rfl ?_
        refine kw_get (pc := 48) (i := 30) (v := .ref 45) rfl rfl rfl lkX0_32 (fun _ => rfl) ?_
        refine kw_iload_n (pc := 51) (i := 31) (k := 1) (n := 3) rfl rfl rfl ?_
        refine kw_iald (pc := 52) (i := 32) (n := 6) rfl rfl (by omega) (by omega) (fun z28 e_z28 => ?_)
        replace hF := kf_le e_z28 hF
        have t_z28 := congrArg Int32.toInt e_z28
        have r_z28 := kw_rng z28
        refine kw_imul (pc := 53) (i := 33) rfl (fun z29 e_z29 t_z29 => ?_)
        replace hF := kf_le e_z29 hF
        refine kw_istore (pc := 54) (i := 34) (n := 5) (lv' := [(5, .int z29), (4, .int z26), (3, .int x10), (0, .ref 53), (1, .ref 17), (2, .int w)]) rfl (by decide) rfl ?_
        refine kw_iconst (pc := 56) (i := 35) (v := 0) rfl rfl ?_
        refine kw_istore (pc := 57) (i := 36) (n := 6) (lv' := [(6, .int 0), (5, .int z29), (4, .int z26), (3, .int x10), (0, .ref 53), (1, .ref 17), (2, .int w)]) rfl (by decide) rfl ?_
        have L34 : ∀ (n39 : Nat) (x30 : Int32) (S31 : kw_S), kw_I bX S31 → kw_F [53, 57, 58] σ S31 → 0 ≤ x30.toInt → kw_pw x10.toInt (S31.1 53 3).toInt → l_X0_draw_53_17_59 (l_X0_draw_53_17_29 w n20) w x10 z26 z29 n39 x30 S31 = (f_X0_draw_53_17 σ w) → (65 - x30.toInt).toNat < n39 → kw_AW l 3 kw_E0 KX mX0_draw (p_X0_draw_53_17 σ w) 59 [(6, .int x30), (5, .int z29), (4, .int z26), (3, .int x10), (0, .ref 53), (1, .ref 17), (2, .int w)] [] S31 := by
          intro n39
          induction n39 with
          | zero => intro x30 S31 I32 F33 v36 v37 hF m38; exact absurd m38 (Nat.not_lt_zero _)
          | succ n39 ih35 =>
            intro x30 S31 I32 F33 v36 v37 hF m38
            replace hF := kf_st (l_X0_draw_53_17_59_s _ _ _ _ _ _ _ _) hF
            have r_x30 := kw_rng x30
            have w_1 := kw_pwB v37 (by omega) (by omega)
            refine kw_iload (pc := 59) (i := 37) (k := 0) (n := 6) rfl rfl ?_
            refine kw_aload_n (pc := 61) (i := 38) (k := 4) (n := 0) rfl rfl rfl ?_
            refine kw_get (pc := 62) (i := 39) (v := .int (S31.1 53 3)) rfl rfl rfl lkX0_25 (fun _ => rfl) ?_
            have b40 := kw_rng (S31.1 53 3)
            refine kw_icmp_ge (pc := 65) (i := 40) (tgt := 130) rfl rfl (fun c41 => ?_) (fun c41 => ?_)
            · replace hF := kf_nl c41 hF
              refine kw_aload_n (pc := 130) (i := 75) (k := 4) (n := 0) rfl rfl rfl ?_
              refine kw_dup (pc := 131) (i := 76) rfl rfl ?_
              refine kw_get (pc := 132) (i := 77) (v := .int (S31.1 53 3)) rfl rfl rfl lkX0_25 (fun _ => rfl) ?_
              refine kw_iconst (pc := 135) (i := 78) (v := 1) rfl rfl ?_
              refine kw_ishl (pc := 136) (i := 79) rfl (fun z42 e_z42 => ?_)
              have r_z42 := kw_rng z42
              replace hF := kf_le e_z42 hF
              have t_z42 := kw_shl1 z42 (S31.1 53 3) e_z42
              refine kw_puti (pc := 137) (i := 80) (z := 0) rfl rfl rfl lpX0_25 rfl rfl ?_
              have I43 : kw_I bX (kw_ui S31 53 3 z42) := kw_I_ui I32 (kw_rng z42).1 (Int.le_of_lt_add_one (kw_rng z42).2)
              have F44 : kw_F [53, 57, 58] σ (kw_ui S31 53 3 z42) := kw_F_ui F33 (by decide)
              refine kw_iinc' (pc := 140) (i := 81) (k := 3) (fun z => [(3, .int z), (6, .int x30), (5, .int z29), (4, .int z26), (0, .ref 53), (1, .ref 17), (2, .int w)]) rfl rfl (by decide) rfl (fun _ => rfl) (fun z45 e_z45 t_z45 => ?_)
              replace hF := kf_le e_z45 hF
              refine kw_goto (pc := 143) (i := 82) (tgt := 29) rfl rfl ?_
              refine kw_sub (lv' := [(3, .int z45), (0, .ref 53), (1, .ref 17), (2, .int w)]) [0, 4, 5, 6] rfl ?_
              exact ih15 z45 (kw_ui S31 53 3 z42) I43 F44 (by omega) (by omega) (show kw_pw z45.toInt z42.toInt from by exact kw_pwS v37 (by omega) (by omega) (by omega)) hF (by omega)
            · replace hF := kf_p c41 hF
              refine kw_aload_n (pc := 68) (i := 41) (k := 4) (n := 0) rfl rfl rfl ?_
              refine kw_get (pc := 69) (i := 42) (v := .int (S31.1 53 3)) rfl rfl rfl lkX0_25 (fun _ => rfl) ?_
              refine kw_iload (pc := 72) (i := 43) (k := 0) (n := 6) rfl rfl ?_
              refine kw_iadd (pc := 74) (i := 44) rfl (fun z46 e_z46 t_z46 => ?_)
              replace hF := kf_le e_z46 hF
              refine kw_bipush (pc := 75) (i := 45) (v := 64) rfl rfl ?_
              refine kw_icmp_ge (pc := 77) (i := 46) (tgt := 130) rfl rfl (fun c47 => ?_) (fun c47 => ?_)
              · replace hF := kf_nl c47 hF
                refine kw_aload_n (pc := 130) (i := 75) (k := 4) (n := 0) rfl rfl rfl ?_
                refine kw_dup (pc := 131) (i := 76) rfl rfl ?_
                refine kw_get (pc := 132) (i := 77) (v := .int (S31.1 53 3)) rfl rfl rfl lkX0_25 (fun _ => rfl) ?_
                refine kw_iconst (pc := 135) (i := 78) (v := 1) rfl rfl ?_
                refine kw_ishl (pc := 136) (i := 79) rfl (fun z48 e_z48 => ?_)
                have r_z48 := kw_rng z48
                replace hF := kf_le e_z48 hF
                have t_z48 := kw_shl1 z48 (S31.1 53 3) e_z48
                refine kw_puti (pc := 137) (i := 80) (z := 0) rfl rfl rfl lpX0_25 rfl rfl ?_
                have I49 : kw_I bX (kw_ui S31 53 3 z48) := kw_I_ui I32 (kw_rng z48).1 (Int.le_of_lt_add_one (kw_rng z48).2)
                have F50 : kw_F [53, 57, 58] σ (kw_ui S31 53 3 z48) := kw_F_ui F33 (by decide)
                refine kw_iinc' (pc := 140) (i := 81) (k := 3) (fun z => [(3, .int z), (6, .int x30), (5, .int z29), (4, .int z26), (0, .ref 53), (1, .ref 17), (2, .int w)]) rfl rfl (by decide) rfl (fun _ => rfl) (fun z51 e_z51 t_z51 => ?_)
                replace hF := kf_le e_z51 hF
                refine kw_goto (pc := 143) (i := 82) (tgt := 29) rfl rfl ?_
                refine kw_sub (lv' := [(3, .int z51), (0, .ref 53), (1, .ref 17), (2, .int w)]) [0, 4, 5, 6] rfl ?_
                exact ih15 z51 (kw_ui S31 53 3 z48) I49 F50 (by omega) (by omega) (show kw_pw z51.toInt z48.toInt from by exact kw_pwS v37 (by omega) (by omega) (by omega)) hF (by omega)
              · replace hF := kf_p c47 hF
                refine kw_aload_n (pc := 80) (i := 47) (k := 4) (n := 0) rfl rfl rfl ?_
                refine kw_get (pc := 81) (i := 48) (v := .ref 57) rfl rfl rfl lkX0_9 (fun _ => rfl) ?_
                refine kw_aload_n (pc := 84) (i := 49) (k := 4) (n := 0) rfl rfl rfl ?_
                refine kw_get (pc := 85) (i := 50) (v := .int (S31.1 53 3)) rfl rfl rfl lkX0_25 (fun _ => rfl) ?_
                refine kw_iload (pc := 88) (i := 51) (k := 0) (n := 6) rfl rfl ?_
                refine kw_iadd (pc := 90) (i := 52) rfl (fun z52 e_z52 t_z52 => ?_)
                replace hF := kf_le e_z52 hF
                refine kw_aload_n (pc := 91) (i := 53) (k := 4) (n := 0) rfl rfl rfl ?_
                refine kw_get (pc := 92) (i := 54) (v := .ref 57) rfl rfl rfl lkX0_9 (fun _ => rfl) ?_
                refine kw_iload (pc := 95) (i := 55) (k := 0) (n := 6) rfl rfl ?_
                refine kw_iald (pc := 97) (i := 56) (n := 64) rfl rfl (by omega) (by omega) (fun z53 e_z53 => ?_)
                replace hF := kf_le e_z53 hF
                have t_z53 := congrArg Int32.toInt e_z53
                have r_z53 := kw_rng z53
                refine kw_iload (pc := 98) (i := 57) (k := 2) (n := 4) rfl rfl ?_
                refine kw_iadd (pc := 100) (i := 58) rfl (fun z54 e_z54 t_z54 => ?_)
                replace hF := kf_le e_z54 hF
                refine kw_iast (pc := 101) (i := 59) (n := 64) rfl rfl (by omega) (by omega) ?_
                have I55 : kw_I bX (kw_ui S31 57 z52.toNatClampNeg z54) := kw_I_ui I32 (kw_rng z54).1 (Int.le_of_lt_add_one (kw_rng z54).2)
                have F56 : kw_F [53, 57, 58] σ (kw_ui S31 57 z52.toNatClampNeg z54) := kw_F_ui F33 (by decide)
                refine kw_aload_n (pc := 102) (i := 60) (k := 4) (n := 0) rfl rfl rfl ?_
                refine kw_get (pc := 103) (i := 61) (v := .ref 58) rfl rfl rfl lkX0_15 (fun _ => rfl) ?_
                refine kw_aload_n (pc := 106) (i := 62) (k := 4) (n := 0) rfl rfl rfl ?_
                refine kw_get (pc := 107) (i := 63) (v := .int (S31.1 53 3)) rfl rfl rfl lkX0_25 (fun _ => rfl) ?_
                refine kw_iload (pc := 110) (i := 64) (k := 0) (n := 6) rfl rfl ?_
                refine kw_iadd (pc := 112) (i := 65) rfl (fun z57 e_z57 t_z57 => ?_)
                replace hF := kf_le e_z57 hF
                refine kw_aload_n (pc := 113) (i := 66) (k := 4) (n := 0) rfl rfl rfl ?_
                refine kw_get (pc := 114) (i := 67) (v := .ref 58) rfl rfl rfl lkX0_15 (fun _ => rfl) ?_
                refine kw_iload (pc := 117) (i := 68) (k := 0) (n := 6) rfl rfl ?_
                refine kw_iald (pc := 119) (i := 69) (n := 64) rfl rfl (by omega) (by omega) (fun z58 e_z58 => ?_)
                replace hF := kf_le e_z58 hF
                have t_z58 := congrArg Int32.toInt e_z58
                have r_z58 := kw_rng z58
                refine kw_iload (pc := 120) (i := 70) (k := 1) (n := 5) rfl rfl ?_
                refine kw_iadd (pc := 122) (i := 71) rfl (fun z59 e_z59 t_z59 => ?_)
                replace hF := kf_le e_z59 hF
                refine kw_iast (pc := 123) (i := 72) (n := 64) rfl rfl (by omega) (by omega) ?_
                have I60 : kw_I bX (kw_ui (kw_ui S31 57 z52.toNatClampNeg z54) 58 z57.toNatClampNeg z59) := kw_I_ui I55 (kw_rng z59).1 (Int.le_of_lt_add_one (kw_rng z59).2)
                have F61 : kw_F [53, 57, 58] σ (kw_ui (kw_ui S31 57 z52.toNatClampNeg z54) 58 z57.toNatClampNeg z59) := kw_F_ui F56 (by decide)
                refine kw_iinc' (pc := 124) (i := 73) (k := 0) (fun z => [(6, .int z), (5, .int z29), (4, .int z26), (3, .int x10), (0, .ref 53), (1, .ref 17), (2, .int w)]) rfl rfl (by decide) rfl (fun _ => rfl) (fun z62 e_z62 t_z62 => ?_)
                replace hF := kf_le e_z62 hF
                refine kw_goto (pc := 127) (i := 74) (tgt := 59) rfl rfl ?_
                refine kw_sub (lv' := [(6, .int z62), (5, .int z29), (4, .int z26), (3, .int x10), (0, .ref 53), (1, .ref 17), (2, .int w)]) [0, 1, 2, 3, 4, 5, 6] rfl ?_
                exact ih35 z62 (kw_ui (kw_ui S31 57 z52.toNatClampNeg z54) 58 z57.toNatClampNeg z59) I60 F61 (by omega) (show kw_pw x10.toInt (S31.1 53 3).toInt from by exact v37) hF (by omega)
        exact L34 _ 0 S11 I12 F13 (by omega) (show kw_pw x10.toInt (S11.1 53 3).toInt from by exact v18) hF (Nat.lt_succ_self _)
  exact L14 _ 0 (kw_ui (kw_ui (kw_ui (kw_ui σ 53 2 (σ.1 17 5)) 53 3 1) 57 ((0 : Int32).toNatClampNeg) 0) 58 ((0 : Int32).toNatClampNeg) 0) I8 F9 (by omega) (by omega) (show kw_pw (0 : Int32).toInt (1 : Int32).toInt from by exact kw_pw0) hF (Nat.lt_succ_self _)
noncomputable def f_X0_milesOf_53 (σ : kw_S) (s : Int32) : Int32 := if s.toInt < 0 then ((0 : Int32)) else (if s.toInt < (64 : Int32).toInt then (kf_l (σ.1 57 s.toNatClampNeg) fun z1 => kf_l (z1 / (4 : Int32)) fun z2 => z2) else ((0 : Int32)))
theorem f_X0_milesOf_53_u (σ : kw_S) (s : Int32) : f_X0_milesOf_53 σ s = if s.toInt < 0 then ((0 : Int32)) else (if s.toInt < (64 : Int32).toInt then (kf_l (σ.1 57 s.toNatClampNeg) fun z1 => kf_l (z1 / (4 : Int32)) fun z2 => z2) else ((0 : Int32))) := rfl
abbrev p_X0_milesOf_53 (σ : kw_S) (s : Int32) : Option Value → kw_S → Prop := fun vv σ' => σ' = σ ∧ ∃ r : Int32, vv = some (.int r) ∧ r = f_X0_milesOf_53 σ s
set_option maxRecDepth 100000 in
set_option maxHeartbeats 4000000 in
theorem c_X0_milesOf_53 (l : Launch) (σ : kw_S) (hI : kw_I bX σ) (s : Int32) : kw_Met l 1 KX mX0_milesOf [.ref 53, .int s] σ (p_X0_milesOf_53 σ s) := by
  have r_s := kw_rng s
  have hF := (f_X0_milesOf_53_u σ s).symm
  have q_0 : (0 : Int32).toInt = 0 := rfl
  have q_4 : (4 : Int32).toInt = 4 := rfl
  have q_64 : (64 : Int32).toInt = 64 := rfl
  refine kw_Met.of (by decide) rfl tX0_milesOf (Nat.le_of_ble_eq_true rfl) ?_
  show kw_AW l 1 kw_E0 KX mX0_milesOf (p_X0_milesOf_53 σ s) 0 [(0, .ref 53), (1, .int s)] [] σ
  refine kw_iload_n (pc := 0) (i := 0) (k := 1) (n := 1) rfl rfl rfl ?_
  refine kw_if_lt (pc := 1) (i := 1) (tgt := 21) rfl rfl (fun c1 => ?_) (fun c1 => ?_)
  · replace hF := kf_p c1 hF
    refine kw_iconst (pc := 21) (i := 12) (v := 0) rfl rfl ?_
    exact kw_ireturn (pc := 22) (i := 13) (ty := .int) rfl rfl rfl ⟨rfl, _, rfl, hF⟩
  · replace hF := kf_nl c1 hF
    refine kw_iload_n (pc := 4) (i := 2) (k := 1) (n := 1) rfl rfl rfl ?_
    refine kw_bipush (pc := 5) (i := 3) (v := 64) rfl rfl ?_
    refine kw_icmp_ge (pc := 7) (i := 4) (tgt := 21) rfl rfl (fun c2 => ?_) (fun c2 => ?_)
    · replace hF := kf_nl c2 hF
      refine kw_iconst (pc := 21) (i := 12) (v := 0) rfl rfl ?_
      exact kw_ireturn (pc := 22) (i := 13) (ty := .int) rfl rfl rfl ⟨rfl, _, rfl, hF⟩
    · replace hF := kf_p c2 hF
      refine kw_aload_n (pc := 10) (i := 5) (k := 0) (n := 0) rfl rfl rfl ?_
      refine kw_get (pc := 11) (i := 6) (v := .ref 57) rfl rfl rfl lkX0_9 (fun _ => rfl) ?_
      refine kw_iload_n (pc := 14) (i := 7) (k := 1) (n := 1) rfl rfl rfl ?_
      refine kw_iald (pc := 15) (i := 8) (n := 64) rfl rfl (by omega) (by omega) (fun z3 e_z3 => ?_)
      replace hF := kf_le e_z3 hF
      have t_z3 := congrArg Int32.toInt e_z3
      have r_z3 := kw_rng z3
      refine kw_iconst (pc := 16) (i := 9) (v := 4) rfl rfl ?_
      refine kw_idiv (pc := 17) (i := 10) rfl (by omega) (fun z4 e_z4 => ?_)
      have r_z4 := kw_rng z4
      replace hF := kf_le e_z4 hF
      refine kw_goto (pc := 18) (i := 11) (tgt := 22) rfl rfl ?_
      exact kw_ireturn (pc := 22) (i := 13) (ty := .int) rfl rfl rfl ⟨rfl, _, rfl, hF⟩
noncomputable def f_X0_turnBy_53 (σ : kw_S) (s : Int32) : Int32 := if s.toInt < 0 then ((0 : Int32)) else (if s.toInt < (64 : Int32).toInt then (kf_l (σ.1 58 s.toNatClampNeg) fun z1 => z1) else ((0 : Int32)))
theorem f_X0_turnBy_53_u (σ : kw_S) (s : Int32) : f_X0_turnBy_53 σ s = if s.toInt < 0 then ((0 : Int32)) else (if s.toInt < (64 : Int32).toInt then (kf_l (σ.1 58 s.toNatClampNeg) fun z1 => z1) else ((0 : Int32))) := rfl
abbrev p_X0_turnBy_53 (σ : kw_S) (s : Int32) : Option Value → kw_S → Prop := fun vv σ' => σ' = σ ∧ ∃ r : Int32, vv = some (.int r) ∧ r = f_X0_turnBy_53 σ s
set_option maxRecDepth 100000 in
set_option maxHeartbeats 4000000 in
theorem c_X0_turnBy_53 (l : Launch) (σ : kw_S) (hI : kw_I bX σ) (s : Int32) : kw_Met l 1 KX mX0_turnBy [.ref 53, .int s] σ (p_X0_turnBy_53 σ s) := by
  have r_s := kw_rng s
  have hF := (f_X0_turnBy_53_u σ s).symm
  have q_0 : (0 : Int32).toInt = 0 := rfl
  have q_64 : (64 : Int32).toInt = 64 := rfl
  refine kw_Met.of (by decide) rfl tX0_turnBy (Nat.le_of_ble_eq_true rfl) ?_
  show kw_AW l 1 kw_E0 KX mX0_turnBy (p_X0_turnBy_53 σ s) 0 [(0, .ref 53), (1, .int s)] [] σ
  refine kw_iload_n (pc := 0) (i := 0) (k := 1) (n := 1) rfl rfl rfl ?_
  refine kw_if_lt (pc := 1) (i := 1) (tgt := 19) rfl rfl (fun c1 => ?_) (fun c1 => ?_)
  · replace hF := kf_p c1 hF
    refine kw_iconst (pc := 19) (i := 10) (v := 0) rfl rfl ?_
    exact kw_ireturn (pc := 20) (i := 11) (ty := .int) rfl rfl rfl ⟨rfl, _, rfl, hF⟩
  · replace hF := kf_nl c1 hF
    refine kw_iload_n (pc := 4) (i := 2) (k := 1) (n := 1) rfl rfl rfl ?_
    refine kw_bipush (pc := 5) (i := 3) (v := 64) rfl rfl ?_
    refine kw_icmp_ge (pc := 7) (i := 4) (tgt := 19) rfl rfl (fun c2 => ?_) (fun c2 => ?_)
    · replace hF := kf_nl c2 hF
      refine kw_iconst (pc := 19) (i := 10) (v := 0) rfl rfl ?_
      exact kw_ireturn (pc := 20) (i := 11) (ty := .int) rfl rfl rfl ⟨rfl, _, rfl, hF⟩
    · replace hF := kf_p c2 hF
      refine kw_aload_n (pc := 10) (i := 5) (k := 0) (n := 0) rfl rfl rfl ?_
      refine kw_get (pc := 11) (i := 6) (v := .ref 58) rfl rfl rfl lkX0_15 (fun _ => rfl) ?_
      refine kw_iload_n (pc := 14) (i := 7) (k := 1) (n := 1) rfl rfl rfl ?_
      refine kw_iald (pc := 15) (i := 8) (n := 64) rfl rfl (by omega) (by omega) (fun z3 e_z3 => ?_)
      replace hF := kf_le e_z3 hF
      have t_z3 := congrArg Int32.toInt e_z3
      have r_z3 := kw_rng z3
      refine kw_goto (pc := 16) (i := 9) (tgt := 20) rfl rfl ?_
      exact kw_ireturn (pc := 20) (i := 11) (ty := .int) rfl rfl rfl ⟨rfl, _, rfl, hF⟩
noncomputable def l_X0_draw_54_17_59 (k29 : Int32 → kw_S → kw_S) (a2 : Int32) (a3 : Int32) (a4 : Int32) (a5 : Int32) : Nat → Int32 → kw_S → kw_S
  | 0, _, S => S
  | n + 1, x6, S => if x6.toInt < (S.1 54 3).toInt then (kf_l ((S.1 54 3) + x6) fun z6 => if z6.toInt < (64 : Int32).toInt then (kf_l ((S.1 54 3) + x6) fun z9 => kf_l (S.1 59 x6.toNatClampNeg) fun z10 => kf_l (z10 + a4) fun z11 => kf_l ((S.1 54 3) + x6) fun z12 => kf_l ((kw_ui S 59 z9.toNatClampNeg z11).1 60 x6.toNatClampNeg) fun z13 => kf_l (z13 + a5) fun z14 => kf_l (x6 + Int32.ofInt 1) fun z15 => l_X0_draw_54_17_59 k29 a2 a3 a4 a5 n z15 (kw_ui (kw_ui S 59 z9.toNatClampNeg z11) 60 z12.toNatClampNeg z14)) else (kf_l ((S.1 54 3) <<< ((1 : Int32) &&& 31)) fun z7 => kf_l (a3 + Int32.ofInt 1) fun z8 => k29 z8 (kw_ui S 54 3 z7))) else (kf_l ((S.1 54 3) <<< ((1 : Int32) &&& 31)) fun z4 => kf_l (a3 + Int32.ofInt 1) fun z5 => k29 z5 (kw_ui S 54 3 z4))
theorem l_X0_draw_54_17_59_s (k29 : Int32 → kw_S → kw_S) (a2 : Int32) (a3 : Int32) (a4 : Int32) (a5 : Int32) (n : Nat) (x6 : Int32) (S : kw_S) : l_X0_draw_54_17_59 k29 a2 a3 a4 a5 (n + 1) x6 S = if x6.toInt < (S.1 54 3).toInt then (kf_l ((S.1 54 3) + x6) fun z6 => if z6.toInt < (64 : Int32).toInt then (kf_l ((S.1 54 3) + x6) fun z9 => kf_l (S.1 59 x6.toNatClampNeg) fun z10 => kf_l (z10 + a4) fun z11 => kf_l ((S.1 54 3) + x6) fun z12 => kf_l ((kw_ui S 59 z9.toNatClampNeg z11).1 60 x6.toNatClampNeg) fun z13 => kf_l (z13 + a5) fun z14 => kf_l (x6 + Int32.ofInt 1) fun z15 => l_X0_draw_54_17_59 k29 a2 a3 a4 a5 n z15 (kw_ui (kw_ui S 59 z9.toNatClampNeg z11) 60 z12.toNatClampNeg z14)) else (kf_l ((S.1 54 3) <<< ((1 : Int32) &&& 31)) fun z7 => kf_l (a3 + Int32.ofInt 1) fun z8 => k29 z8 (kw_ui S 54 3 z7))) else (kf_l ((S.1 54 3) <<< ((1 : Int32) &&& 31)) fun z4 => kf_l (a3 + Int32.ofInt 1) fun z5 => k29 z5 (kw_ui S 54 3 z4)) := rfl
noncomputable def l_X0_draw_54_17_29 (a2 : Int32) : Nat → Int32 → kw_S → kw_S
  | 0, _, S => S
  | n + 1, x3, S => if x3.toInt < (S.1 54 2).toInt then (kf_l (f_X1_pullOf_17 S x3 a2) fun z1 => kf_l (S.1 45 x3.toNatClampNeg) fun z2 => kf_l (z1 * z2) fun z3 => l_X0_draw_54_17_59 (l_X0_draw_54_17_29 a2 n) a2 x3 z1 z3 ((65 - (0 : Int32).toInt).toNat + 1) (0 : Int32) S) else (S)
theorem l_X0_draw_54_17_29_s (a2 : Int32) (n : Nat) (x3 : Int32) (S : kw_S) : l_X0_draw_54_17_29 a2 (n + 1) x3 S = if x3.toInt < (S.1 54 2).toInt then (kf_l (f_X1_pullOf_17 S x3 a2) fun z1 => kf_l (S.1 45 x3.toNatClampNeg) fun z2 => kf_l (z1 * z2) fun z3 => l_X0_draw_54_17_59 (l_X0_draw_54_17_29 a2 n) a2 x3 z1 z3 ((65 - (0 : Int32).toInt).toNat + 1) (0 : Int32) S) else (S) := rfl
noncomputable def f_X0_draw_54_17 (σ : kw_S) (w : Int32) : kw_S := l_X0_draw_54_17_29 w ((7 - (0 : Int32).toInt).toNat + 1) (0 : Int32) (kw_ui (kw_ui (kw_ui (kw_ui σ 54 2 (σ.1 17 5)) 54 3 1) 59 ((0 : Int32).toNatClampNeg) 0) 60 ((0 : Int32).toNatClampNeg) 0)
theorem f_X0_draw_54_17_u (σ : kw_S) (w : Int32) : f_X0_draw_54_17 σ w = l_X0_draw_54_17_29 w ((7 - (0 : Int32).toInt).toNat + 1) (0 : Int32) (kw_ui (kw_ui (kw_ui (kw_ui σ 54 2 (σ.1 17 5)) 54 3 1) 59 ((0 : Int32).toNatClampNeg) 0) 60 ((0 : Int32).toNatClampNeg) 0) := rfl
abbrev p_X0_draw_54_17 (σ : kw_S) (w : Int32) : Option Value → kw_S → Prop := fun vv σ' => (kw_I bX σ' ∧ kw_F [54, 59, 60] σ σ') ∧ vv = none ∧ σ' = f_X0_draw_54_17 σ w
set_option maxRecDepth 100000 in
set_option maxHeartbeats 4000000 in
theorem c_X0_draw_54_17 (l : Launch) (σ : kw_S) (hI : kw_I bX σ) (w : Int32) : kw_Met l 3 KX mX0_draw [.ref 54, .ref 17, .int w] σ (p_X0_draw_54_17 σ w) := by
  have r_w := kw_rng w
  have hF0 : kw_F [54, 59, 60] σ σ := kw_F.rf
  have hF := (f_X0_draw_54_17_u σ w).symm
  have q_0 : (0 : Int32).toInt = 0 := rfl
  have q_1 : (1 : Int32).toInt = 1 := rfl
  have q_64 : (64 : Int32).toInt = 64 := rfl
  refine kw_Met.of (by decide) rfl tX0_draw (Nat.le_of_ble_eq_true rfl) ?_
  show kw_AW l 3 kw_E0 KX mX0_draw (p_X0_draw_54_17 σ w) 0 [(0, .ref 54), (1, .ref 17), (2, .int w)] [] σ
  refine kw_aload_n (pc := 0) (i := 0) (k := 0) (n := 0) rfl rfl rfl ?_
  refine kw_aload_n (pc := 1) (i := 1) (k := 1) (n := 1) rfl rfl rfl ?_
  refine kw_get (pc := 2) (i := 2) (v := .int (σ.1 17 5)) rfl rfl rfl lkX0_18 (fun _ => rfl) ?_
  have b1 : 0 ≤ (σ.1 17 5).toInt ∧ (σ.1 17 5).toInt ≤ 6 := hI 17 5
  refine kw_puti (pc := 5) (i := 3) (z := 0) rfl rfl rfl lpX0_24 rfl rfl ?_
  have I2 : kw_I bX (kw_ui σ 54 2 (σ.1 17 5)) := kw_I_ui hI (show 0 ≤ (σ.1 17 5).toInt by omega) (show (σ.1 17 5).toInt ≤ 6 by omega)
  have F3 : kw_F [54, 59, 60] σ (kw_ui σ 54 2 (σ.1 17 5)) := kw_F_ui hF0 (by decide)
  refine kw_aload_n (pc := 8) (i := 4) (k := 0) (n := 0) rfl rfl rfl ?_
  refine kw_iconst (pc := 9) (i := 5) (v := 1) rfl rfl ?_
  refine kw_puti (pc := 10) (i := 6) (z := 0) rfl rfl rfl lpX0_25 rfl rfl ?_
  have I4 : kw_I bX (kw_ui (kw_ui σ 54 2 (σ.1 17 5)) 54 3 1) := kw_I_ui I2 (kw_rng (1 : Int32)).1 (Int.le_of_lt_add_one (kw_rng (1 : Int32)).2)
  have F5 : kw_F [54, 59, 60] σ (kw_ui (kw_ui σ 54 2 (σ.1 17 5)) 54 3 1) := kw_F_ui F3 (by decide)
  refine kw_aload_n (pc := 13) (i := 7) (k := 0) (n := 0) rfl rfl rfl ?_
  refine kw_get (pc := 14) (i := 8) (v := .ref 59) rfl rfl rfl lkX0_9 (fun _ => rfl) ?_
  refine kw_iconst (pc := 17) (i := 9) (v := 0) rfl rfl ?_
  refine kw_iconst (pc := 18) (i := 10) (v := 0) rfl rfl ?_
  refine kw_iast (pc := 19) (i := 11) (n := 64) rfl rfl (by omega) (by omega) ?_
  have I6 : kw_I bX (kw_ui (kw_ui (kw_ui σ 54 2 (σ.1 17 5)) 54 3 1) 59 ((0 : Int32).toNatClampNeg) 0) := kw_I_ui I4 (kw_rng (0 : Int32)).1 (Int.le_of_lt_add_one (kw_rng (0 : Int32)).2)
  have F7 : kw_F [54, 59, 60] σ (kw_ui (kw_ui (kw_ui σ 54 2 (σ.1 17 5)) 54 3 1) 59 ((0 : Int32).toNatClampNeg) 0) := kw_F_ui F5 (by decide)
  refine kw_aload_n (pc := 20) (i := 12) (k := 0) (n := 0) rfl rfl rfl ?_
  refine kw_get (pc := 21) (i := 13) (v := .ref 60) rfl rfl rfl lkX0_15 (fun _ => rfl) ?_
  refine kw_iconst (pc := 24) (i := 14) (v := 0) rfl rfl ?_
  refine kw_iconst (pc := 25) (i := 15) (v := 0) rfl rfl ?_
  refine kw_iast (pc := 26) (i := 16) (n := 64) rfl rfl (by omega) (by omega) ?_
  have I8 : kw_I bX (kw_ui (kw_ui (kw_ui (kw_ui σ 54 2 (σ.1 17 5)) 54 3 1) 59 ((0 : Int32).toNatClampNeg) 0) 60 ((0 : Int32).toNatClampNeg) 0) := kw_I_ui I6 (kw_rng (0 : Int32)).1 (Int.le_of_lt_add_one (kw_rng (0 : Int32)).2)
  have F9 : kw_F [54, 59, 60] σ (kw_ui (kw_ui (kw_ui (kw_ui σ 54 2 (σ.1 17 5)) 54 3 1) 59 ((0 : Int32).toNatClampNeg) 0) 60 ((0 : Int32).toNatClampNeg) 0) := kw_F_ui F7 (by decide)
  refine kw_iconst (pc := 27) (i := 17) (v := 0) rfl rfl ?_
  refine kw_istore_n (pc := 28) (i := 18) (n := 3) (lv' := [(3, .int 0), (0, .ref 54), (1, .ref 17), (2, .int w)]) rfl rfl (by decide) rfl ?_
  have L14 : ∀ (n20 : Nat) (x10 : Int32) (S11 : kw_S), kw_I bX S11 → kw_F [54, 59, 60] σ S11 → 0 ≤ x10.toInt → x10.toInt ≤ 6 → kw_pw x10.toInt (S11.1 54 3).toInt → l_X0_draw_54_17_29 w n20 x10 S11 = (f_X0_draw_54_17 σ w) → (7 - x10.toInt).toNat < n20 → kw_AW l 3 kw_E0 KX mX0_draw (p_X0_draw_54_17 σ w) 29 [(3, .int x10), (0, .ref 54), (1, .ref 17), (2, .int w)] [] S11 := by
    intro n20
    induction n20 with
    | zero => intro x10 S11 I12 F13 v16 v17 v18 hF m19; exact absurd m19 (Nat.not_lt_zero _)
    | succ n20 ih15 =>
      intro x10 S11 I12 F13 v16 v17 v18 hF m19
      replace hF := kf_st (l_X0_draw_54_17_29_s _ _ _ _) hF
      have r_x10 := kw_rng x10
      have w_0 := kw_pwB v18 (by omega) (by omega)
      refine kw_iload_n (pc := 29) (i := 19) (k := 0) (n := 3) rfl rfl rfl ?_
      refine kw_aload_n (pc := 30) (i := 20) (k := 1) (n := 0) rfl rfl rfl ?_
      refine kw_get (pc := 31) (i := 21) (v := .int (S11.1 54 2)) rfl rfl rfl lkX0_24 (fun _ => rfl) ?_
      have b21 : 0 ≤ (S11.1 54 2).toInt ∧ (S11.1 54 2).toInt ≤ 6 := I12 54 2
      refine kw_icmp_ge (pc := 34) (i := 22) (tgt := 146) rfl rfl (fun c22 => ?_) (fun c22 => ?_)
      · replace hF := kf_nl c22 hF
        exact kw_return (pc := 146) (i := 83) rfl rfl ⟨⟨I12, F13⟩, rfl, hF⟩
      · replace hF := kf_p c22 hF
        refine kw_aload_n (pc := 37) (i := 23) (k := 2) (n := 1) rfl rfl rfl ?_
        refine kw_iload_n (pc := 38) (i := 24) (k := 0) (n := 3) rfl rfl rfl ?_
        refine kw_iload_n (pc := 39) (i := 25) (k := 3) (n := 2) rfl rfl rfl ?_
        refine kw_callV (pc := 40) (i := 26) (Y := mX1_pullOf) (a := 17) (As := [.int x10, .int w]) (st := []) kw_hE rfl rfl lvX0_28 arX1_pullOf (c_X1_pullOf_17 l S11 I12 x10 w ) (by decide) (Nat.le_of_ble_eq_true rfl) rfl (fun v S24 p23 => ?_)
        obtain ⟨e27, z26, rfl, ef25⟩ := p23
        rw [e27]
        replace hF := kf_le ef25 hF
        have r_z26 := kw_rng z26
        show kw_AW l 3 kw_E0 KX mX0_draw (p_X0_draw_54_17 σ w) 43 [(3, .int x10), (0, .ref 54), (1, .ref 17), (2, .int w)] [.int z26] S11
        refine kw_istore (pc := 43) (i := 27) (n := 4) (lv' := [(4, .int z26), (3, .int x10), (0, .ref 54), (1, .ref 17), (2, .int w)]) rfl (by decide) rfl ?_
        refine kw_iload (pc := 45) (i := 28) (k := 0) (n := 4) rfl rfl ?_
        refine kw_aload_n (pc := 47) (i := 29) (k := 3) (n := 1) rfl rfl rfl ?_
        refine kw_get (pc := 48) (i := 30) (v := .ref 45) rfl rfl rfl lkX0_32 (fun _ => rfl) ?_
        refine kw_iload_n (pc := 51) (i := 31) (k := 1) (n := 3) rfl rfl rfl ?_
        refine kw_iald (pc := 52) (i := 32) (n := 6) rfl rfl (by omega) (by omega) (fun z28 e_z28 => ?_)
        replace hF := kf_le e_z28 hF
        have t_z28 := congrArg Int32.toInt e_z28
        have r_z28 := kw_rng z28
        refine kw_imul (pc := 53) (i := 33) rfl (fun z29 e_z29 t_z29 => ?_)
        replace hF := kf_le e_z29 hF
        refine kw_istore (pc := 54) (i := 34) (n := 5) (lv' := [(5, .int z29), (4, .int z26), (3, .int x10), (0, .ref 54), (1, .ref 17), (2, .int w)]) rfl (by decide) rfl ?_
        refine kw_iconst (pc := 56) (i := 35) (v := 0) rfl rfl ?_
        refine kw_istore (pc := 57) (i := 36) (n := 6) (lv' := [(6, .int 0), (5, .int z29), (4, .int z26), (3, .int x10), (0, .ref 54), (1, .ref 17), (2, .int w)]) rfl (by decide) rfl ?_
        have L34 : ∀ (n39 : Nat) (x30 : Int32) (S31 : kw_S), kw_I bX S31 → kw_F [54, 59, 60] σ S31 → 0 ≤ x30.toInt → kw_pw x10.toInt (S31.1 54 3).toInt → l_X0_draw_54_17_59 (l_X0_draw_54_17_29 w n20) w x10 z26 z29 n39 x30 S31 = (f_X0_draw_54_17 σ w) → (65 - x30.toInt).toNat < n39 → kw_AW l 3 kw_E0 KX mX0_draw (p_X0_draw_54_17 σ w) 59 [(6, .int x30), (5, .int z29), (4, .int z26), (3, .int x10), (0, .ref 54), (1, .ref 17), (2, .int w)] [] S31 := by
          intro n39
          induction n39 with
          | zero => intro x30 S31 I32 F33 v36 v37 hF m38; exact absurd m38 (Nat.not_lt_zero _)
          | succ n39 ih35 =>
            intro x30 S31 I32 F33 v36 v37 hF m38
            replace hF := kf_st (l_X0_draw_54_17_59_s _ _ _ _ _ _ _ _) hF
            have r_x30 := kw_rng x30
            have w_1 := kw_pwB v37 (by omega) (by omega)
            refine kw_iload (pc := 59) (i := 37) (k := 0) (n := 6) rfl rfl ?_
            refine kw_aload_n (pc := 61) (i := 38) (k := 4) (n := 0) rfl rfl rfl ?_
            refine kw_get (pc := 62) (i := 39) (v := .int (S31.1 54 3)) rfl rfl rfl lkX0_25 (fun _ => rfl) ?_
            have b40 := kw_rng (S31.1 54 3)
            refine kw_icmp_ge (pc := 65) (i := 40) (tgt := 130) rfl rfl (fun c41 => ?_) (fun c41 => ?_)
            · replace hF := kf_nl c41 hF
              refine kw_aload_n (pc := 130) (i := 75) (k := 4) (n := 0) rfl rfl rfl ?_
              refine kw_dup (pc := 131) (i := 76) rfl rfl ?_
              refine kw_get (pc := 132) (i := 77) (v := .int (S31.1 54 3)) rfl rfl rfl lkX0_25 (fun _ => rfl) ?_
              refine kw_iconst (pc := 135) (i := 78) (v := 1) rfl rfl ?_
              refine kw_ishl (pc := 136) (i := 79) rfl (fun z42 e_z42 => ?_)
              have r_z42 := kw_rng z42
              replace hF := kf_le e_z42 hF
              have t_z42 := kw_shl1 z42 (S31.1 54 3) e_z42
              refine kw_puti (pc := 137) (i := 80) (z := 0) rfl rfl rfl lpX0_25 rfl rfl ?_
              have I43 : kw_I bX (kw_ui S31 54 3 z42) := kw_I_ui I32 (kw_rng z42).1 (Int.le_of_lt_add_one (kw_rng z42).2)
              have F44 : kw_F [54, 59, 60] σ (kw_ui S31 54 3 z42) := kw_F_ui F33 (by decide)
              refine kw_iinc' (pc := 140) (i := 81) (k := 3) (fun z => [(3, .int z), (6, .int x30), (5, .int z29), (4, .int z26), (0, .ref 54), (1, .ref 17), (2, .int w)]) rfl rfl (by decide) rfl (fun _ => rfl) (fun z45 e_z45 t_z45 => ?_)
              replace hF := kf_le e_z45 hF
              refine kw_goto (pc := 143) (i := 82) (tgt := 29) rfl rfl ?_
              refine kw_sub (lv' := [(3, .int z45), (0, .ref 54), (1, .ref 17), (2, .int w)]) [0, 4, 5, 6] rfl ?_
              exact ih15 z45 (kw_ui S31 54 3 z42) I43 F44 (by omega) (by omega) (show kw_pw z45.toInt z42.toInt from by exact kw_pwS v37 (by omega) (by omega) (by omega)) hF (by omega)
            · replace hF := kf_p c41 hF
              refine kw_aload_n (pc := 68) (i := 41) (k := 4) (n := 0) rfl rfl rfl ?_
              refine kw_get (pc := 69) (i := 42) (v := .int (S31.1 54 3)) rfl rfl rfl lkX0_25 (fun _ => rfl) ?_
              refine kw_iload (pc := 72) (i := 43) (k := 0) (n := 6) rfl rfl ?_
              refine kw_iadd (pc := 74) (i := 44) rfl (fun z46 e_z46 t_z46 => ?_)
              replace hF := kf_le e_z46 hF
              refine kw_bipush (pc := 75) (i := 45) (v := 64) rfl rfl ?_
              refine kw_icmp_ge (pc := 77) (i := 46) (tgt := 130) rfl rfl (fun c47 => ?_) (fun c47 => ?_)
              · replace hF := kf_nl c47 hF
                refine kw_aload_n (pc := 130) (i := 75) (k := 4) (n := 0) rfl rfl rfl ?_
                refine kw_dup (pc := 131) (i := 76) rfl rfl ?_
                refine kw_get (pc := 132) (i := 77) (v := .int (S31.1 54 3)) rfl rfl rfl lkX0_25 (fun _ => rfl) ?_
                refine kw_iconst (pc := 135) (i := 78) (v := 1) rfl rfl ?_
                refine kw_ishl (pc := 136) (i := 79) rfl (fun z48 e_z48 => ?_)
                have r_z48 := kw_rng z48
                replace hF := kf_le e_z48 hF
                have t_z48 := kw_shl1 z48 (S31.1 54 3) e_z48
                refine kw_puti (pc := 137) (i := 80) (z := 0) rfl rfl rfl lpX0_25 rfl rfl ?_
                have I49 : kw_I bX (kw_ui S31 54 3 z48) := kw_I_ui I32 (kw_rng z48).1 (Int.le_of_lt_add_one (kw_rng z48).2)
                have F50 : kw_F [54, 59, 60] σ (kw_ui S31 54 3 z48) := kw_F_ui F33 (by decide)
                refine kw_iinc' (pc := 140) (i := 81) (k := 3) (fun z => [(3, .int z), (6, .int x30), (5, .int z29), (4, .int z26), (0, .ref 54), (1, .ref 17), (2, .int w)]) rfl rfl (by decide) rfl (fun _ => rfl) (fun z51 e_z51 t_z51 => ?_)
                replace hF := kf_le e_z51 hF
                refine kw_goto (pc := 143) (i := 82) (tgt := 29) rfl rfl ?_
                refine kw_sub (lv' := [(3, .int z51), (0, .ref 54), (1, .ref 17), (2, .int w)]) [0, 4, 5, 6] rfl ?_
                exact ih15 z51 (kw_ui S31 54 3 z48) I49 F50 (by omega) (by omega) (show kw_pw z51.toInt z48.toInt from by exact kw_pwS v37 (by omega) (by omega) (by omega)) hF (by omega)
              · replace hF := kf_p c47 hF
                refine kw_aload_n (pc := 80) (i := 47) (k := 4) (n := 0) rfl rfl rfl ?_
                refine kw_get (pc := 81) (i := 48) (v := .ref 59) rfl rfl rfl lkX0_9 (fun _ => rfl) ?_
                refine kw_aload_n (pc := 84) (i := 49) (k := 4) (n := 0) rfl rfl rfl ?_
                refine kw_get (pc := 85) (i := 50) (v := .int (S31.1 54 3)) rfl rfl rfl lkX0_25 (fun _ => rfl) ?_
                refine kw_iload (pc := 88) (i := 51) (k := 0) (n := 6) rfl rfl ?_
                refine kw_iadd (pc := 90) (i := 52) rfl (fun z52 e_z52 t_z52 => ?_)
                replace hF := kf_le e_z52 hF
                refine kw_aload_n (pc := 91) (i := 53) (k := 4) (n := 0) rfl rfl rfl ?_
                refine kw_get (pc := 92) (i := 54) (v := .ref 59) rfl rfl rfl lkX0_9 (fun _ => rfl) ?_
                refine kw_iload (pc := 95) (i := 55) (k := 0) (n := 6) rfl rfl ?_
                refine kw_iald (pc := 97) (i := 56) (n := 64) rfl rfl (by omega) (by omega) (fun z53 e_z53 => ?_)
                replace hF := kf_le e_z53 hF
                have t_z53 := congrArg Int32.toInt e_z53
                have r_z53 := kw_rng z53
                refine kw_iload (pc := 98) (i := 57) (k := 2) (n := 4) rfl rfl ?_
                refine kw_iadd (pc := 100) (i := 58) rfl (fun z54 e_z54 t_z54 => ?_)
                replace hF := kf_le e_z54 hF
                refine kw_iast (pc := 101) (i := 59) (n := 64) rfl rfl (by omega) (by omega) ?_
                have I55 : kw_I bX (kw_ui S31 59 z52.toNatClampNeg z54) := kw_I_ui I32 (kw_rng z54).1 (Int.le_of_lt_add_one (kw_rng z54).2)
                have F56 : kw_F [54, 59, 60] σ (kw_ui S31 59 z52.toNatClampNeg z54) := kw_F_ui F33 (by decide)
                refine kw_aload_n (pc := 102) (i := 60) (k := 4) (n := 0) rfl rfl rfl ?_
                refine kw_get (pc := 103) (i := 61) (v := .ref 60) rfl rfl rfl lkX0_15 (fun _ => rfl) ?_
                refine kw_aload_n (pc := 106) (i := 62) (k := 4) (n := 0) rfl rfl rfl ?_
                refine kw_get (pc := 107) (i := 63) (v := .int (S31.1 54 3)) rfl rfl rfl lkX0_25 (fun _ => rfl) ?_
                refine kw_iload (pc := 110) (i := 64) (k := 0) (n := 6) rfl rfl ?_
                refine kw_iadd (pc := 112) (i := 65) rfl (fun z57 e_z57 t_z57 => ?_)
                replace hF := kf_le e_z57 hF
                refine kw_aload_n (pc := 113) (i := 66) (k := 4) (n := 0) rfl rfl rfl ?_
                refine kw_get (pc := 114) (i := 67) (v := .ref 60) rfl rfl rfl lkX0_15 (fun _ => rfl) ?_
                refine kw_iload (pc := 117) (i := 68) (k := 0) (n := 6) rfl rfl ?_
                refine kw_iald (pc := 119) (i := 69) (n := 64) rfl rfl (by omega) (by omega) (fun z58 e_z58 => ?_)
                replace hF := kf_le e_z58 hF
                have t_z58 := congrArg Int32.toInt e_z58
                have r_z58 := kw_rng z58
                refine kw_iload (pc := 120) (i := 70) (k := 1) (n := 5) rfl rfl ?_
                refine kw_iadd (pc := 122) (i := 71) rfl (fun z59 e_z59 t_z59 => ?_)
                replace hF := kf_le e_z59 hF
                refine kw_iast (pc := 123) (i := 72) (n := 64) rfl rfl (by omega) (by omega) ?_
                have I60 : kw_I bX (kw_ui (kw_ui S31 59 z52.toNatClampNeg z54) 60 z57.toNatClampNeg z59) := kw_I_ui I55 (kw_rng z59).1 (Int.le_of_lt_add_one (kw_rng z59).2)
                have F61 : kw_F [54, 59, 60] σ (kw_ui (kw_ui S31 59 z52.toNatClampNeg z54) 60 z57.toNatClampNeg z59) := kw_F_ui F56 (by decide)
                refine kw_iinc' (pc := 124) (i := 73) (k := 0) (fun z => [(6, .int z), (5, .int z29), (4, .int z26), (3, .int x10), (0, .ref 54), (1, .ref 17), (2, .int w)]) rfl rfl (by decide) rfl (fun _ => rfl) (fun z62 e_z62 t_z62 => ?_)
                replace hF := kf_le e_z62 hF
                refine kw_goto (pc := 127) (i := 74) (tgt := 59) rfl rfl ?_
                refine kw_sub (lv' := [(6, .int z62), (5, .int z29), (4, .int z26), (3, .int x10), (0, .ref 54), (1, .ref 17), (2, .int w)]) [0, 1, 2, 3, 4, 5, 6] rfl ?_
                exact ih35 z62 (kw_ui (kw_ui S31 59 z52.toNatClampNeg z54) 60 z57.toNatClampNeg z59) I60 F61 (by omega) (show kw_pw x10.toInt (S31.1 54 3).toInt from by exact v37) hF (by omega)
        exact L34 _ 0 S11 I12 F13 (by omega) (show kw_pw x10.toInt (S11.1 54 3).toInt from by exact v18) hF (Nat.lt_succ_self _)
  exact L14 _ 0 (kw_ui (kw_ui (kw_ui (kw_ui σ 54 2 (σ.1 17 5)) 54 3 1) 59 ((0 : Int32).toNatClampNeg) 0) 60 ((0 : Int32).toNatClampNeg) 0) I8 F9 (by omega) (by omega) (show kw_pw (0 : Int32).toInt (1 : Int32).toInt from by exact kw_pw0) hF (Nat.lt_succ_self _)
noncomputable def f_X0_milesOf_54 (σ : kw_S) (s : Int32) : Int32 := if s.toInt < 0 then ((0 : Int32)) else (if s.toInt < (64 : Int32).toInt then (kf_l (σ.1 59 s.toNatClampNeg) fun z1 => kf_l (z1 / (4 : Int32)) fun z2 => z2) else ((0 : Int32)))
theorem f_X0_milesOf_54_u (σ : kw_S) (s : Int32) : f_X0_milesOf_54 σ s = if s.toInt < 0 then ((0 : Int32)) else (if s.toInt < (64 : Int32).toInt then (kf_l (σ.1 59 s.toNatClampNeg) fun z1 => kf_l (z1 / (4 : Int32)) fun z2 => z2) else ((0 : Int32))) := rfl
abbrev p_X0_milesOf_54 (σ : kw_S) (s : Int32) : Option Value → kw_S → Prop := fun vv σ' => σ' = σ ∧ ∃ r : Int32, vv = some (.int r) ∧ r = f_X0_milesOf_54 σ s
set_option maxRecDepth 100000 in
set_option maxHeartbeats 4000000 in
theorem c_X0_milesOf_54 (l : Launch) (σ : kw_S) (hI : kw_I bX σ) (s : Int32) : kw_Met l 1 KX mX0_milesOf [.ref 54, .int s] σ (p_X0_milesOf_54 σ s) := by
  have r_s := kw_rng s
  have hF := (f_X0_milesOf_54_u σ s).symm
  have q_0 : (0 : Int32).toInt = 0 := rfl
  have q_4 : (4 : Int32).toInt = 4 := rfl
  have q_64 : (64 : Int32).toInt = 64 := rfl
  refine kw_Met.of (by decide) rfl tX0_milesOf (Nat.le_of_ble_eq_true rfl) ?_
  show kw_AW l 1 kw_E0 KX mX0_milesOf (p_X0_milesOf_54 σ s) 0 [(0, .ref 54), (1, .int s)] [] σ
  refine kw_iload_n (pc := 0) (i := 0) (k := 1) (n := 1) rfl rfl rfl ?_
  refine kw_if_lt (pc := 1) (i := 1) (tgt := 21) rfl rfl (fun c1 => ?_) (fun c1 => ?_)
  · replace hF := kf_p c1 hF
    refine kw_iconst (pc := 21) (i := 12) (v := 0) rfl rfl ?_
    exact kw_ireturn (pc := 22) (i := 13) (ty := .int) rfl rfl rfl ⟨rfl, _, rfl, hF⟩
  · replace hF := kf_nl c1 hF
    refine kw_iload_n (pc := 4) (i := 2) (k := 1) (n := 1) rfl rfl rfl ?_
    refine kw_bipush (pc := 5) (i := 3) (v := 64) rfl rfl ?_
    refine kw_icmp_ge (pc := 7) (i := 4) (tgt := 21) rfl rfl (fun c2 => ?_) (fun c2 => ?_)
    · replace hF := kf_nl c2 hF
      refine kw_iconst (pc := 21) (i := 12) (v := 0) rfl rfl ?_
      exact kw_ireturn (pc := 22) (i := 13) (ty := .int) rfl rfl rfl ⟨rfl, _, rfl, hF⟩
    · replace hF := kf_p c2 hF
      refine kw_aload_n (pc := 10) (i := 5) (k := 0) (n := 0) rfl rfl rfl ?_
      refine kw_get (pc := 11) (i := 6) (v := .ref 59) rfl rfl rfl lkX0_9 (fun _ => rfl) ?_
      refine kw_iload_n (pc := 14) (i := 7) (k := 1) (n := 1) rfl rfl rfl ?_
      refine kw_iald (pc := 15) (i := 8) (n := 64) rfl rfl (by omega) (by omega) (fun z3 e_z3 => ?_)
      replace hF := kf_le e_z3 hF
      have t_z3 := congrArg Int32.toInt e_z3
      have r_z3 := kw_rng z3
      refine kw_iconst (pc := 16) (i := 9) (v := 4) rfl rfl ?_
      refine kw_idiv (pc := 17) (i := 10) rfl (by omega) (fun z4 e_z4 => ?_)
      have r_z4 := kw_rng z4
      replace hF := kf_le e_z4 hF
      refine kw_goto (pc := 18) (i := 11) (tgt := 22) rfl rfl ?_
      exact kw_ireturn (pc := 22) (i := 13) (ty := .int) rfl rfl rfl ⟨rfl, _, rfl, hF⟩
noncomputable def f_X0_turnBy_54 (σ : kw_S) (s : Int32) : Int32 := if s.toInt < 0 then ((0 : Int32)) else (if s.toInt < (64 : Int32).toInt then (kf_l (σ.1 60 s.toNatClampNeg) fun z1 => z1) else ((0 : Int32)))
theorem f_X0_turnBy_54_u (σ : kw_S) (s : Int32) : f_X0_turnBy_54 σ s = if s.toInt < 0 then ((0 : Int32)) else (if s.toInt < (64 : Int32).toInt then (kf_l (σ.1 60 s.toNatClampNeg) fun z1 => z1) else ((0 : Int32))) := rfl
abbrev p_X0_turnBy_54 (σ : kw_S) (s : Int32) : Option Value → kw_S → Prop := fun vv σ' => σ' = σ ∧ ∃ r : Int32, vv = some (.int r) ∧ r = f_X0_turnBy_54 σ s
set_option maxRecDepth 100000 in
set_option maxHeartbeats 4000000 in
theorem c_X0_turnBy_54 (l : Launch) (σ : kw_S) (hI : kw_I bX σ) (s : Int32) : kw_Met l 1 KX mX0_turnBy [.ref 54, .int s] σ (p_X0_turnBy_54 σ s) := by
  have r_s := kw_rng s
  have hF := (f_X0_turnBy_54_u σ s).symm
  have q_0 : (0 : Int32).toInt = 0 := rfl
  have q_64 : (64 : Int32).toInt = 64 := rfl
  refine kw_Met.of (by decide) rfl tX0_turnBy (Nat.le_of_ble_eq_true rfl) ?_
  show kw_AW l 1 kw_E0 KX mX0_turnBy (p_X0_turnBy_54 σ s) 0 [(0, .ref 54), (1, .int s)] [] σ
  refine kw_iload_n (pc := 0) (i := 0) (k := 1) (n := 1) rfl rfl rfl ?_
  refine kw_if_lt (pc := 1) (i := 1) (tgt := 19) rfl rfl (fun c1 => ?_) (fun c1 => ?_)
  · replace hF := kf_p c1 hF
    refine kw_iconst (pc := 19) (i := 10) (v := 0) rfl rfl ?_
    exact kw_ireturn (pc := 20) (i := 11) (ty := .int) rfl rfl rfl ⟨rfl, _, rfl, hF⟩
  · replace hF := kf_nl c1 hF
    refine kw_iload_n (pc := 4) (i := 2) (k := 1) (n := 1) rfl rfl rfl ?_
    refine kw_bipush (pc := 5) (i := 3) (v := 64) rfl rfl ?_
    refine kw_icmp_ge (pc := 7) (i := 4) (tgt := 19) rfl rfl (fun c2 => ?_) (fun c2 => ?_)
    · replace hF := kf_nl c2 hF
      refine kw_iconst (pc := 19) (i := 10) (v := 0) rfl rfl ?_
      exact kw_ireturn (pc := 20) (i := 11) (ty := .int) rfl rfl rfl ⟨rfl, _, rfl, hF⟩
    · replace hF := kf_p c2 hF
      refine kw_aload_n (pc := 10) (i := 5) (k := 0) (n := 0) rfl rfl rfl ?_
      refine kw_get (pc := 11) (i := 6) (v := .ref 60) rfl rfl rfl lkX0_15 (fun _ => rfl) ?_
      refine kw_iload_n (pc := 14) (i := 7) (k := 1) (n := 1) rfl rfl rfl ?_
      refine kw_iald (pc := 15) (i := 8) (n := 64) rfl rfl (by omega) (by omega) (fun z3 e_z3 => ?_)
      replace hF := kf_le e_z3 hF
      have t_z3 := congrArg Int32.toInt e_z3
      have r_z3 := kw_rng z3
      refine kw_goto (pc := 16) (i := 9) (tgt := 20) rfl rfl ?_
      exact kw_ireturn (pc := 20) (i := 11) (ty := .int) rfl rfl rfl ⟨rfl, _, rfl, hF⟩
noncomputable def f_X0_fits_6 (σ : kw_S) (s : Int32) (m : Int32) (t : Int32) : Int32 := kf_l (f_X0_milesOf_6 σ s) fun z1 => if z1.toInt = m.toInt then (kf_l (f_X0_turnBy_6 σ s) fun z2 => if z2.toInt = t.toInt then ((1 : Int32)) else ((0 : Int32))) else ((0 : Int32))
theorem f_X0_fits_6_u (σ : kw_S) (s : Int32) (m : Int32) (t : Int32) : f_X0_fits_6 σ s m t = kf_l (f_X0_milesOf_6 σ s) fun z1 => if z1.toInt = m.toInt then (kf_l (f_X0_turnBy_6 σ s) fun z2 => if z2.toInt = t.toInt then ((1 : Int32)) else ((0 : Int32))) else ((0 : Int32)) := rfl
abbrev p_X0_fits_6 (σ : kw_S) (s : Int32) (m : Int32) (t : Int32) : Option Value → kw_S → Prop := fun vv σ' => σ' = σ ∧ ∃ r : Int32, vv = some (.int r) ∧ (r.toInt = 0 ∨ r.toInt = 1) ∧ r = f_X0_fits_6 σ s m t
set_option maxRecDepth 100000 in
set_option maxHeartbeats 4000000 in
theorem c_X0_fits_6 (l : Launch) (σ : kw_S) (hI : kw_I bX σ) (s : Int32) (m : Int32) (t : Int32) : kw_Met l 2 KX mX0_fits [.ref 6, .int s, .int m, .int t] σ (p_X0_fits_6 σ s m t) := by
  have r_s := kw_rng s
  have r_m := kw_rng m
  have r_t := kw_rng t
  have hF := (f_X0_fits_6_u σ s m t).symm
  have q_0 : (0 : Int32).toInt = 0 := rfl
  have q_1 : (1 : Int32).toInt = 1 := rfl
  refine kw_Met.of (by decide) rfl tX0_fits (Nat.le_of_ble_eq_true rfl) ?_
  show kw_AW l 2 kw_E0 KX mX0_fits (p_X0_fits_6 σ s m t) 0 [(0, .ref 6), (1, .int s), (2, .int m), (3, .int t)] [] σ
  refine kw_aload_n (pc := 0) (i := 0) (k := 0) (n := 0) rfl rfl rfl ?_
  refine kw_iload_n (pc := 1) (i := 1) (k := 1) (n := 1) rfl rfl rfl ?_
  refine kw_callV (pc := 2) (i := 2) (Y := mX0_milesOf) (a := 6) (As := [.int s]) (st := []) kw_hE rfl rfl lvX0_35 arX0_milesOf (c_X0_milesOf_6 l σ hI s ) (by decide) (Nat.le_of_ble_eq_true rfl) rfl (fun v S2 p1 => ?_)
  obtain ⟨e5, z4, rfl, ef3⟩ := p1
  rw [e5]
  replace hF := kf_le ef3 hF
  have r_z4 := kw_rng z4
  show kw_AW l 2 kw_E0 KX mX0_fits (p_X0_fits_6 σ s m t) 5 [(0, .ref 6), (1, .int s), (2, .int m), (3, .int t)] [.int z4] σ
  refine kw_iload_n (pc := 5) (i := 3) (k := 2) (n := 2) rfl rfl rfl ?_
  refine kw_icmp_ne (pc := 6) (i := 4) (tgt := 22) rfl rfl (fun c6 => ?_) (fun c6 => ?_)
  · replace hF := kf_n c6 hF
    refine kw_iconst (pc := 22) (i := 12) (v := 0) rfl rfl ?_
    exact kw_ireturn (pc := 23) (i := 13) (ty := .boolean) rfl rfl rfl ⟨rfl, _, rfl, by omega, hF⟩
  · replace hF := kf_p c6 hF
    refine kw_aload_n (pc := 9) (i := 5) (k := 0) (n := 0) rfl rfl rfl ?_
    refine kw_iload_n (pc := 10) (i := 6) (k := 1) (n := 1) rfl rfl rfl ?_
    refine kw_callV (pc := 11) (i := 7) (Y := mX0_turnBy) (a := 6) (As := [.int s]) (st := []) kw_hE rfl rfl lvX0_39 arX0_turnBy (c_X0_turnBy_6 l σ hI s ) (by decide) (Nat.le_of_ble_eq_true rfl) rfl (fun v S8 p7 => ?_)
    obtain ⟨e11, z10, rfl, ef9⟩ := p7
    rw [e11]
    replace hF := kf_le ef9 hF
    have r_z10 := kw_rng z10
    show kw_AW l 2 kw_E0 KX mX0_fits (p_X0_fits_6 σ s m t) 14 [(0, .ref 6), (1, .int s), (2, .int m), (3, .int t)] [.int z10] σ
    refine kw_iload_n (pc := 14) (i := 8) (k := 3) (n := 3) rfl rfl rfl ?_
    refine kw_icmp_ne (pc := 15) (i := 9) (tgt := 22) rfl rfl (fun c12 => ?_) (fun c12 => ?_)
    · replace hF := kf_n c12 hF
      refine kw_iconst (pc := 22) (i := 12) (v := 0) rfl rfl ?_
      exact kw_ireturn (pc := 23) (i := 13) (ty := .boolean) rfl rfl rfl ⟨rfl, _, rfl, by omega, hF⟩
    · replace hF := kf_p c12 hF
      refine kw_iconst (pc := 18) (i := 10) (v := 1) rfl rfl ?_
      refine kw_goto (pc := 19) (i := 11) (tgt := 23) rfl rfl ?_
      exact kw_ireturn (pc := 23) (i := 13) (ty := .boolean) rfl rfl rfl ⟨rfl, _, rfl, by omega, hF⟩
end
section
noncomputable def f_X5_isEmpty_4 (σ : kw_S)  : Int32 := if (σ.1 17 5).toInt < (1 : Int32).toInt then ((1 : Int32)) else ((0 : Int32))
theorem f_X5_isEmpty_4_u (σ : kw_S)  : f_X5_isEmpty_4 σ  = if (σ.1 17 5).toInt < (1 : Int32).toInt then ((1 : Int32)) else ((0 : Int32)) := rfl
abbrev p_X5_isEmpty_4 (σ : kw_S)  : Option Value → kw_S → Prop := fun vv σ' => σ' = σ ∧ ∃ r : Int32, vv = some (.int r) ∧ (r.toInt = 0 ∨ r.toInt = 1) ∧ (r.toInt = 1 ∨ 1 ≤ (σ.1 17 5).toInt) ∧ (r.toInt = 0 ∨ (σ.1 17 5).toInt < 1) ∧ r = f_X5_isEmpty_4 σ
set_option maxRecDepth 100000 in
set_option maxHeartbeats 4000000 in
theorem c_X5_isEmpty_4 (l : Launch) (σ : kw_S) (hI : kw_I bX σ)  : kw_Met l 1 KX mX5_isEmpty [.ref 4] σ (p_X5_isEmpty_4 σ) := by
  have hF := (f_X5_isEmpty_4_u σ).symm
  have q_0 : (0 : Int32).toInt = 0 := rfl
  have q_1 : (1 : Int32).toInt = 1 := rfl
  refine kw_Met.of (by decide) rfl tX5_isEmpty (Nat.le_of_ble_eq_true rfl) ?_
  show kw_AW l 1 kw_E0 KX mX5_isEmpty (p_X5_isEmpty_4 σ) 0 [(0, .ref 4)] [] σ
  refine kw_aload_n (pc := 0) (i := 0) (k := 0) (n := 0) rfl rfl rfl ?_
  refine kw_get (pc := 1) (i := 1) (v := .ref 17) rfl rfl rfl lkX5_12 (fun _ => rfl) ?_
  refine kw_get (pc := 4) (i := 2) (v := .int (σ.1 17 5)) rfl rfl rfl lkX5_25 (fun _ => rfl) ?_
  have b1 : 0 ≤ (σ.1 17 5).toInt ∧ (σ.1 17 5).toInt ≤ 6 := hI 17 5
  refine kw_iconst (pc := 7) (i := 3) (v := 1) rfl rfl ?_
  refine kw_icmp_ge (pc := 8) (i := 4) (tgt := 15) rfl rfl (fun c2 => ?_) (fun c2 => ?_)
  · replace hF := kf_nl c2 hF
    refine kw_iconst (pc := 15) (i := 7) (v := 0) rfl rfl ?_
    exact kw_ireturn (pc := 16) (i := 8) (ty := .boolean) rfl rfl rfl ⟨rfl, _, rfl, by omega, by omega, by omega, hF⟩
  · replace hF := kf_p c2 hF
    refine kw_iconst (pc := 11) (i := 5) (v := 1) rfl rfl ?_
    refine kw_goto (pc := 12) (i := 6) (tgt := 16) rfl rfl ?_
    exact kw_ireturn (pc := 16) (i := 8) (ty := .boolean) rfl rfl rfl ⟨rfl, _, rfl, by omega, by omega, by omega, hF⟩
noncomputable def f_X5_isHung_4 (σ : kw_S) (i : Int32) : Int32 := kf_l ((σ.1 4 4) >>> (i &&& 31)) fun z1 => kf_l (z1 &&& (1 : Int32)) fun z2 => if z2.toInt = (1 : Int32).toInt then ((1 : Int32)) else ((0 : Int32))
theorem f_X5_isHung_4_u (σ : kw_S) (i : Int32) : f_X5_isHung_4 σ i = kf_l ((σ.1 4 4) >>> (i &&& 31)) fun z1 => kf_l (z1 &&& (1 : Int32)) fun z2 => if z2.toInt = (1 : Int32).toInt then ((1 : Int32)) else ((0 : Int32)) := rfl
abbrev p_X5_isHung_4 (σ : kw_S) (i : Int32) : Option Value → kw_S → Prop := fun vv σ' => σ' = σ ∧ ∃ r : Int32, vv = some (.int r) ∧ (r.toInt = 0 ∨ r.toInt = 1) ∧ r = f_X5_isHung_4 σ i
set_option maxRecDepth 100000 in
set_option maxHeartbeats 4000000 in
theorem c_X5_isHung_4 (l : Launch) (σ : kw_S) (hI : kw_I bX σ) (i : Int32) : kw_Met l 1 KX mX5_isHung [.ref 4, .int i] σ (p_X5_isHung_4 σ i) := by
  have r_i := kw_rng i
  have hF := (f_X5_isHung_4_u σ i).symm
  have q_0 : (0 : Int32).toInt = 0 := rfl
  have q_1 : (1 : Int32).toInt = 1 := rfl
  refine kw_Met.of (by decide) rfl tX5_isHung (Nat.le_of_ble_eq_true rfl) ?_
  show kw_AW l 1 kw_E0 KX mX5_isHung (p_X5_isHung_4 σ i) 0 [(0, .ref 4), (1, .int i)] [] σ
  refine kw_aload_n (pc := 0) (i := 0) (k := 0) (n := 0) rfl rfl rfl ?_
  refine kw_get (pc := 1) (i := 1) (v := .int (σ.1 4 4)) rfl rfl rfl lkX5_29 (fun _ => rfl) ?_
  have b1 := kw_rng (σ.1 4 4)
  refine kw_iload_n (pc := 4) (i := 2) (k := 1) (n := 1) rfl rfl rfl ?_
  refine kw_ishr (pc := 5) (i := 3) rfl (fun z2 e_z2 => ?_)
  have r_z2 := kw_rng z2
  replace hF := kf_le e_z2 hF
  refine kw_iconst (pc := 6) (i := 4) (v := 1) rfl rfl ?_
  refine kw_iand (pc := 7) (i := 5) rfl (fun z3 e_z3 => ?_)
  have r_z3 := kw_rng z3
  replace hF := kf_le e_z3 hF
  refine kw_iconst (pc := 8) (i := 6) (v := 1) rfl rfl ?_
  refine kw_icmp_ne (pc := 9) (i := 7) (tgt := 16) rfl rfl (fun c4 => ?_) (fun c4 => ?_)
  · replace hF := kf_n c4 hF
    refine kw_iconst (pc := 16) (i := 10) (v := 0) rfl rfl ?_
    exact kw_ireturn (pc := 17) (i := 11) (ty := .boolean) rfl rfl rfl ⟨rfl, _, rfl, by omega, hF⟩
  · replace hF := kf_p c4 hF
    refine kw_iconst (pc := 12) (i := 8) (v := 1) rfl rfl ?_
    refine kw_goto (pc := 13) (i := 9) (tgt := 17) rfl rfl ?_
    exact kw_ireturn (pc := 17) (i := 11) (ty := .boolean) rfl rfl rfl ⟨rfl, _, rfl, by omega, hF⟩
noncomputable def f_X5_hasRoomFor_4 (σ : kw_S) (m : Int32) : Int32 := kf_l ((σ.1 4 3) + m) fun z1 => if (40 : Int32).toInt < z1.toInt then ((0 : Int32)) else ((1 : Int32))
theorem f_X5_hasRoomFor_4_u (σ : kw_S) (m : Int32) : f_X5_hasRoomFor_4 σ m = kf_l ((σ.1 4 3) + m) fun z1 => if (40 : Int32).toInt < z1.toInt then ((0 : Int32)) else ((1 : Int32)) := rfl
abbrev p_X5_hasRoomFor_4 (σ : kw_S) (m : Int32) : Option Value → kw_S → Prop := fun vv σ' => σ' = σ ∧ ∃ r : Int32, vv = some (.int r) ∧ (r.toInt = 0 ∨ r.toInt = 1) ∧ (r.toInt = 0 ∨ (σ.1 4 3).toInt + m.toInt ≤ 40) ∧ r = f_X5_hasRoomFor_4 σ m
set_option maxRecDepth 100000 in
set_option maxHeartbeats 4000000 in
theorem c_X5_hasRoomFor_4 (l : Launch) (σ : kw_S) (hI : kw_I bX σ) (m : Int32) (hp0 : 0 ≤ m.toInt) (hp1 : m.toInt ≤ 100) : kw_Met l 1 KX mX5_hasRoomFor [.ref 4, .int m] σ (p_X5_hasRoomFor_4 σ m) := by
  have r_m := kw_rng m
  have hF := (f_X5_hasRoomFor_4_u σ m).symm
  have q_0 : (0 : Int32).toInt = 0 := rfl
  have q_1 : (1 : Int32).toInt = 1 := rfl
  have q_40 : (40 : Int32).toInt = 40 := rfl
  refine kw_Met.of (by decide) rfl tX5_hasRoomFor (Nat.le_of_ble_eq_true rfl) ?_
  show kw_AW l 1 kw_E0 KX mX5_hasRoomFor (p_X5_hasRoomFor_4 σ m) 0 [(0, .ref 4), (1, .int m)] [] σ
  refine kw_aload_n (pc := 0) (i := 0) (k := 0) (n := 0) rfl rfl rfl ?_
  refine kw_get (pc := 1) (i := 1) (v := .int (σ.1 4 3)) rfl rfl rfl lkX5_32 (fun _ => rfl) ?_
  have b1 : 0 ≤ (σ.1 4 3).toInt ∧ (σ.1 4 3).toInt ≤ 40 := hI 4 3
  refine kw_iload_n (pc := 4) (i := 2) (k := 1) (n := 1) rfl rfl rfl ?_
  refine kw_iadd (pc := 5) (i := 3) rfl (fun z2 e_z2 t_z2 => ?_)
  replace hF := kf_le e_z2 hF
  refine kw_bipush (pc := 6) (i := 4) (v := 40) rfl rfl ?_
  refine kw_icmp_gt (pc := 8) (i := 5) (tgt := 15) rfl rfl (fun c3 => ?_) (fun c3 => ?_)
  · replace hF := kf_p c3 hF
    refine kw_iconst (pc := 15) (i := 8) (v := 0) rfl rfl ?_
    exact kw_ireturn (pc := 16) (i := 9) (ty := .boolean) rfl rfl rfl ⟨rfl, _, rfl, by omega, by omega, hF⟩
  · replace hF := kf_nl c3 hF
    refine kw_iconst (pc := 11) (i := 6) (v := 1) rfl rfl ?_
    refine kw_goto (pc := 12) (i := 7) (tgt := 16) rfl rfl ?_
    exact kw_ireturn (pc := 16) (i := 9) (ty := .boolean) rfl rfl rfl ⟨rfl, _, rfl, by omega, by omega, hF⟩
noncomputable def f_X5_windNow_4 (σ : kw_S)  : Int32 := kf_l (f_X1_windAt_17 σ (σ.1 4 5)) fun z1 => z1
theorem f_X5_windNow_4_u (σ : kw_S)  : f_X5_windNow_4 σ  = kf_l (f_X1_windAt_17 σ (σ.1 4 5)) fun z1 => z1 := rfl
abbrev p_X5_windNow_4 (σ : kw_S)  : Option Value → kw_S → Prop := fun vv σ' => σ' = σ ∧ ∃ r : Int32, vv = some (.int r) ∧ r = f_X5_windNow_4 σ
set_option maxRecDepth 100000 in
set_option maxHeartbeats 4000000 in
theorem c_X5_windNow_4 (l : Launch) (σ : kw_S) (hI : kw_I bX σ)  : kw_Met l 2 KX mX5_windNow [.ref 4] σ (p_X5_windNow_4 σ) := by
  have hF := (f_X5_windNow_4_u σ).symm
  refine kw_Met.of (by decide) rfl tX5_windNow (Nat.le_of_ble_eq_true rfl) ?_
  show kw_AW l 2 kw_E0 KX mX5_windNow (p_X5_windNow_4 σ) 0 [(0, .ref 4)] [] σ
  refine kw_aload_n (pc := 0) (i := 0) (k := 0) (n := 0) rfl rfl rfl ?_
  refine kw_get (pc := 1) (i := 1) (v := .ref 17) rfl rfl rfl lkX5_12 (fun _ => rfl) ?_
  refine kw_aload_n (pc := 4) (i := 2) (k := 0) (n := 0) rfl rfl rfl ?_
  refine kw_get (pc := 5) (i := 3) (v := .int (σ.1 4 5)) rfl rfl rfl lkX5_35 (fun _ => rfl) ?_
  have b1 := kw_rng (σ.1 4 5)
  refine kw_callV (pc := 8) (i := 4) (Y := mX1_windAt) (a := 17) (As := [.int (σ.1 4 5)]) (st := []) kw_hE rfl rfl lvX5_38 arX1_windAt (c_X1_windAt_17 l σ hI (σ.1 4 5) ) (by decide) (Nat.le_of_ble_eq_true rfl) rfl (fun v S3 p2 => ?_)
  obtain ⟨e6, z5, rfl, ef4⟩ := p2
  rw [e6]
  replace hF := kf_le ef4 hF
  have r_z5 := kw_rng z5
  show kw_AW l 2 kw_E0 KX mX5_windNow (p_X5_windNow_4 σ) 11 [(0, .ref 4)] [.int z5] σ
  exact kw_ireturn (pc := 11) (i := 5) (ty := .int) rfl rfl rfl ⟨rfl, _, rfl, hF⟩
noncomputable def f_X5_windAhead_4 (σ : kw_S) (k : Int32) : Int32 := kf_l ((σ.1 4 5) + k) fun z1 => kf_l (f_X1_windAt_17 σ z1) fun z2 => z2
theorem f_X5_windAhead_4_u (σ : kw_S) (k : Int32) : f_X5_windAhead_4 σ k = kf_l ((σ.1 4 5) + k) fun z1 => kf_l (f_X1_windAt_17 σ z1) fun z2 => z2 := rfl
abbrev p_X5_windAhead_4 (σ : kw_S) (k : Int32) : Option Value → kw_S → Prop := fun vv σ' => σ' = σ ∧ ∃ r : Int32, vv = some (.int r) ∧ r = f_X5_windAhead_4 σ k
set_option maxRecDepth 100000 in
set_option maxHeartbeats 4000000 in
theorem c_X5_windAhead_4 (l : Launch) (σ : kw_S) (hI : kw_I bX σ) (k : Int32) : kw_Met l 2 KX mX5_windAhead [.ref 4, .int k] σ (p_X5_windAhead_4 σ k) := by
  have r_k := kw_rng k
  have hF := (f_X5_windAhead_4_u σ k).symm
  refine kw_Met.of (by decide) rfl tX5_windAhead (Nat.le_of_ble_eq_true rfl) ?_
  show kw_AW l 2 kw_E0 KX mX5_windAhead (p_X5_windAhead_4 σ k) 0 [(0, .ref 4), (1, .int k)] [] σ
  refine kw_aload_n (pc := 0) (i := 0) (k := 0) (n := 0) rfl rfl rfl ?_
  refine kw_get (pc := 1) (i := 1) (v := .ref 17) rfl rfl rfl lkX5_12 (fun _ => rfl) ?_
  refine kw_aload_n (pc := 4) (i := 2) (k := 0) (n := 0) rfl rfl rfl ?_
  refine kw_get (pc := 5) (i := 3) (v := .int (σ.1 4 5)) rfl rfl rfl lkX5_35 (fun _ => rfl) ?_
  have b1 := kw_rng (σ.1 4 5)
  refine kw_iload_n (pc := 8) (i := 4) (k := 1) (n := 1) rfl rfl rfl ?_
  refine kw_iadd (pc := 9) (i := 5) rfl (fun z2 e_z2 t_z2 => ?_)
  replace hF := kf_le e_z2 hF
  refine kw_callV (pc := 10) (i := 6) (Y := mX1_windAt) (a := 17) (As := [.int z2]) (st := []) kw_hE rfl rfl lvX5_38 arX1_windAt (c_X1_windAt_17 l σ hI z2 ) (by decide) (Nat.le_of_ble_eq_true rfl) rfl (fun v S4 p3 => ?_)
  obtain ⟨e7, z6, rfl, ef5⟩ := p3
  rw [e7]
  replace hF := kf_le ef5 hF
  have r_z6 := kw_rng z6
  show kw_AW l 2 kw_E0 KX mX5_windAhead (p_X5_windAhead_4 σ k) 13 [(0, .ref 4), (1, .int k)] [.int z6] σ
  exact kw_ireturn (pc := 13) (i := 7) (ty := .int) rfl rfl rfl ⟨rfl, _, rfl, hF⟩
noncomputable def l_X5_allWet_4_4 (S : kw_S) : Nat → Int32 → Int32 → Int32
  | 0, _, _ => 0
  | n + 1, x1, x2 => if x2.toInt < (S.1 17 5).toInt then (kf_l (S.1 19 x2.toNatClampNeg) fun z1 => kf_l (x1 + z1) fun z2 => kf_l (x2 + Int32.ofInt 1) fun z3 => l_X5_allWet_4_4 S n z2 z3) else (x1)
theorem l_X5_allWet_4_4_s (S : kw_S) (n : Nat) (x1 : Int32) (x2 : Int32) : l_X5_allWet_4_4 S (n + 1) x1 x2 = if x2.toInt < (S.1 17 5).toInt then (kf_l (S.1 19 x2.toNatClampNeg) fun z1 => kf_l (x1 + z1) fun z2 => kf_l (x2 + Int32.ofInt 1) fun z3 => l_X5_allWet_4_4 S n z2 z3) else (x1) := rfl
noncomputable def f_X5_allWet_4 (σ : kw_S)  : Int32 := l_X5_allWet_4_4 σ ((7 - (0 : Int32).toInt).toNat + 1) (0 : Int32) (0 : Int32)
theorem f_X5_allWet_4_u (σ : kw_S)  : f_X5_allWet_4 σ  = l_X5_allWet_4_4 σ ((7 - (0 : Int32).toInt).toNat + 1) (0 : Int32) (0 : Int32) := rfl
abbrev p_X5_allWet_4 (σ : kw_S)  : Option Value → kw_S → Prop := fun vv σ' => σ' = σ ∧ ∃ r : Int32, vv = some (.int r) ∧ r = f_X5_allWet_4 σ
set_option maxRecDepth 100000 in
set_option maxHeartbeats 4000000 in
theorem c_X5_allWet_4 (l : Launch) (σ : kw_S) (hI : kw_I bX σ)  : kw_Met l 1 KX mX5_allWet [.ref 4] σ (p_X5_allWet_4 σ) := by
  have hF := (f_X5_allWet_4_u σ).symm
  have q_0 : (0 : Int32).toInt = 0 := rfl
  refine kw_Met.of (by decide) rfl tX5_allWet (Nat.le_of_ble_eq_true rfl) ?_
  show kw_AW l 1 kw_E0 KX mX5_allWet (p_X5_allWet_4 σ) 0 [(0, .ref 4)] [] σ
  refine kw_iconst (pc := 0) (i := 0) (v := 0) rfl rfl ?_
  refine kw_istore_n (pc := 1) (i := 1) (n := 1) (lv' := [(1, .int 0), (0, .ref 4)]) rfl rfl (by decide) rfl ?_
  refine kw_iconst (pc := 2) (i := 2) (v := 0) rfl rfl ?_
  refine kw_istore_n (pc := 3) (i := 3) (n := 2) (lv' := [(2, .int 0), (1, .int 0), (0, .ref 4)]) rfl rfl (by decide) rfl ?_
  have L3 : ∀ (n7 : Nat) (x1 : Int32) (x2 : Int32), 0 ≤ x1.toInt → l_X5_allWet_4_4 σ n7 x2 x1 = (f_X5_allWet_4 σ) → (7 - x1.toInt).toNat < n7 → kw_AW l 1 kw_E0 KX mX5_allWet (p_X5_allWet_4 σ) 4 [(2, .int x1), (1, .int x2), (0, .ref 4)] [] σ := by
    intro n7
    induction n7 with
    | zero => intro x1 x2 v5 hF m6; exact absurd m6 (Nat.not_lt_zero _)
    | succ n7 ih4 =>
      intro x1 x2 v5 hF m6
      replace hF := kf_st (l_X5_allWet_4_4_s _ _ _ _) hF
      have r_x1 := kw_rng x1
      have r_x2 := kw_rng x2
      refine kw_iload_n (pc := 4) (i := 4) (k := 0) (n := 2) rfl rfl rfl ?_
      refine kw_aload_n (pc := 5) (i := 5) (k := 2) (n := 0) rfl rfl rfl ?_
      refine kw_get (pc := 6) (i := 6) (v := .ref 17) rfl rfl rfl lkX5_12 (fun _ => rfl) ?_
      refine kw_get (pc := 9) (i := 7) (v := .int (σ.1 17 5)) rfl rfl rfl lkX5_25 (fun _ => rfl) ?_
      have b8 : 0 ≤ (σ.1 17 5).toInt ∧ (σ.1 17 5).toInt ≤ 6 := hI 17 5
      refine kw_icmp_ge (pc := 12) (i := 8) (tgt := 30) rfl rfl (fun c9 => ?_) (fun c9 => ?_)
      · replace hF := kf_nl c9 hF
        refine kw_iload_n (pc := 30) (i := 18) (k := 1) (n := 1) rfl rfl rfl ?_
        exact kw_ireturn (pc := 31) (i := 19) (ty := .int) rfl rfl rfl ⟨rfl, _, rfl, hF⟩
      · replace hF := kf_p c9 hF
        refine kw_iload_n (pc := 15) (i := 9) (k := 1) (n := 1) rfl rfl rfl ?_
        refine kw_aload_n (pc := 16) (i := 10) (k := 2) (n := 0) rfl rfl rfl ?_
        refine kw_get (pc := 17) (i := 11) (v := .ref 19) rfl rfl rfl lkX5_22 (fun _ => rfl) ?_
        refine kw_iload_n (pc := 20) (i := 12) (k := 0) (n := 2) rfl rfl rfl ?_
        refine kw_iald (pc := 21) (i := 13) (n := 6) rfl rfl (by omega) (by omega) (fun z10 e_z10 => ?_)
        replace hF := kf_le e_z10 hF
        have t_z10 := congrArg Int32.toInt e_z10
        have r_z10 := kw_rng z10
        refine kw_iadd (pc := 22) (i := 14) rfl (fun z11 e_z11 t_z11 => ?_)
        replace hF := kf_le e_z11 hF
        refine kw_istore_n (pc := 23) (i := 15) (n := 1) (lv' := [(1, .int z11), (2, .int x1), (0, .ref 4)]) rfl rfl (by decide) rfl ?_
        refine kw_iinc' (pc := 24) (i := 16) (k := 1) (fun z => [(2, .int z), (1, .int z11), (0, .ref 4)]) rfl rfl (by decide) rfl (fun _ => rfl) (fun z12 e_z12 t_z12 => ?_)
        replace hF := kf_le e_z12 hF
        refine kw_goto (pc := 27) (i := 17) (tgt := 4) rfl rfl ?_
        refine kw_sub (lv' := [(2, .int z12), (1, .int z11), (0, .ref 4)]) [0, 1, 2] rfl ?_
        exact ih4 z12 z11 (by omega) hF (by omega)
  exact L3 _ 0 0 (by omega) hF (Nat.lt_succ_self _)
noncomputable def l_X5_hoursToStorm_4_2 (S : kw_S) : Nat → Int32 → Int32
  | 0, _ => 0
  | n + 1, x1 => if x1.toInt < (8 : Int32).toInt then (kf_l (f_X5_windAhead_4 S x1) fun z1 => if z1.toInt < (3 : Int32).toInt then (kf_l (x1 + Int32.ofInt 1) fun z2 => l_X5_hoursToStorm_4_2 S n z2) else (x1)) else (((-9) : Int32))
theorem l_X5_hoursToStorm_4_2_s (S : kw_S) (n : Nat) (x1 : Int32) : l_X5_hoursToStorm_4_2 S (n + 1) x1 = if x1.toInt < (8 : Int32).toInt then (kf_l (f_X5_windAhead_4 S x1) fun z1 => if z1.toInt < (3 : Int32).toInt then (kf_l (x1 + Int32.ofInt 1) fun z2 => l_X5_hoursToStorm_4_2 S n z2) else (x1)) else (((-9) : Int32)) := rfl
noncomputable def f_X5_hoursToStorm_4 (σ : kw_S)  : Int32 := l_X5_hoursToStorm_4_2 σ ((9 - (0 : Int32).toInt).toNat + 1) (0 : Int32)
theorem f_X5_hoursToStorm_4_u (σ : kw_S)  : f_X5_hoursToStorm_4 σ  = l_X5_hoursToStorm_4_2 σ ((9 - (0 : Int32).toInt).toNat + 1) (0 : Int32) := rfl
abbrev p_X5_hoursToStorm_4 (σ : kw_S)  : Option Value → kw_S → Prop := fun vv σ' => σ' = σ ∧ ∃ r : Int32, vv = some (.int r) ∧ r = f_X5_hoursToStorm_4 σ
set_option maxRecDepth 100000 in
set_option maxHeartbeats 4000000 in
theorem c_X5_hoursToStorm_4 (l : Launch) (σ : kw_S) (hI : kw_I bX σ)  : kw_Met l 3 KX mX5_hoursToStorm [.ref 4] σ (p_X5_hoursToStorm_4 σ) := by
  have hF := (f_X5_hoursToStorm_4_u σ).symm
  have q_m9 : (-9 : Int32).toInt = -9 := rfl
  have q_0 : (0 : Int32).toInt = 0 := rfl
  have q_3 : (3 : Int32).toInt = 3 := rfl
  have q_8 : (8 : Int32).toInt = 8 := rfl
  refine kw_Met.of (by decide) rfl tX5_hoursToStorm (Nat.le_of_ble_eq_true rfl) ?_
  show kw_AW l 3 kw_E0 KX mX5_hoursToStorm (p_X5_hoursToStorm_4 σ) 0 [(0, .ref 4)] [] σ
  refine kw_iconst (pc := 0) (i := 0) (v := 0) rfl rfl ?_
  refine kw_istore_n (pc := 1) (i := 1) (n := 1) (lv' := [(1, .int 0), (0, .ref 4)]) rfl rfl (by decide) rfl ?_
  have L2 : ∀ (n6 : Nat) (x1 : Int32), 0 ≤ x1.toInt → l_X5_hoursToStorm_4_2 σ n6 x1 = (f_X5_hoursToStorm_4 σ) → (9 - x1.toInt).toNat < n6 → kw_AW l 3 kw_E0 KX mX5_hoursToStorm (p_X5_hoursToStorm_4 σ) 2 [(1, .int x1), (0, .ref 4)] [] σ := by
    intro n6
    induction n6 with
    | zero => intro x1 v4 hF m5; exact absurd m5 (Nat.not_lt_zero _)
    | succ n6 ih3 =>
      intro x1 v4 hF m5
      replace hF := kf_st (l_X5_hoursToStorm_4_2_s _ _ _) hF
      have r_x1 := kw_rng x1
      refine kw_iload_n (pc := 2) (i := 2) (k := 0) (n := 1) rfl rfl rfl ?_
      refine kw_bipush (pc := 3) (i := 3) (v := 8) rfl rfl ?_
      refine kw_icmp_ge (pc := 5) (i := 4) (tgt := 25) rfl rfl (fun c7 => ?_) (fun c7 => ?_)
      · replace hF := kf_nl c7 hF
        refine kw_bipush (pc := 25) (i := 14) (v := (-9)) rfl rfl ?_
        exact kw_ireturn (pc := 27) (i := 15) (ty := .int) rfl rfl rfl ⟨rfl, _, rfl, hF⟩
      · replace hF := kf_p c7 hF
        refine kw_aload_n (pc := 8) (i := 5) (k := 1) (n := 0) rfl rfl rfl ?_
        refine kw_iload_n (pc := 9) (i := 6) (k := 0) (n := 1) rfl rfl rfl ?_
        refine kw_callV (pc := 10) (i := 7) (Y := mX5_windAhead) (a := 4) (As := [.int x1]) (st := []) kw_hE rfl rfl lvX5_42 arX5_windAhead (c_X5_windAhead_4 l σ hI x1 ) (by decide) (Nat.le_of_ble_eq_true rfl) rfl (fun v S9 p8 => ?_)
        obtain ⟨e12, z11, rfl, ef10⟩ := p8
        rw [e12]
        replace hF := kf_le ef10 hF
        have r_z11 := kw_rng z11
        show kw_AW l 3 kw_E0 KX mX5_hoursToStorm (p_X5_hoursToStorm_4 σ) 13 [(1, .int x1), (0, .ref 4)] [.int z11] σ
        refine kw_iconst (pc := 13) (i := 8) (v := 3) rfl rfl ?_
        refine kw_icmp_lt (pc := 14) (i := 9) (tgt := 19) rfl rfl (fun c13 => ?_) (fun c13 => ?_)
        · replace hF := kf_p c13 hF
          refine kw_iinc' (pc := 19) (i := 12) (k := 0) (fun z => [(1, .int z), (0, .ref 4)]) rfl rfl (by decide) rfl (fun _ => rfl) (fun z14 e_z14 t_z14 => ?_)
          replace hF := kf_le e_z14 hF
          refine kw_goto (pc := 22) (i := 13) (tgt := 2) rfl rfl ?_
          refine kw_sub (lv' := [(1, .int z14), (0, .ref 4)]) [0, 1] rfl ?_
          exact ih3 z14 (by omega) hF (by omega)
        · replace hF := kf_nl c13 hF
          refine kw_iload_n (pc := 17) (i := 10) (k := 0) (n := 1) rfl rfl rfl ?_
          exact kw_ireturn (pc := 18) (i := 11) (ty := .int) rfl rfl rfl ⟨rfl, _, rfl, hF⟩
  exact L2 _ 0 (by omega) hF (Nat.lt_succ_self _)
noncomputable def f_X5_trait_4 (σ : kw_S) (i : Int32) (w : Int32) : Int32 := kf_l (f_X1_hasLine_17 σ i) fun z1 => if z1.toInt = 0 then ((0 : Int32)) else (if w.toInt = 0 then (kf_l (σ.1 44 i.toNatClampNeg) fun z2 => z2) else if w.toInt = 1 then (kf_l (σ.1 45 i.toNatClampNeg) fun z3 => z3) else if w.toInt = 2 then (kf_l (σ.1 46 i.toNatClampNeg) fun z4 => z4) else if w.toInt = 3 then (kf_l (σ.1 47 i.toNatClampNeg) fun z5 => z5) else if w.toInt = 4 then (kf_l (f_X5_isHung_4 σ i) fun z6 => if z6.toInt = 0 then ((0 : Int32)) else ((1 : Int32))) else if w.toInt = 5 then (kf_l (σ.1 19 i.toNatClampNeg) fun z7 => z7) else (kf_l (f_X5_windNow_4 σ) fun z8 => kf_l (f_X1_pullOf_17 σ i z8) fun z9 => z9))
theorem f_X5_trait_4_u (σ : kw_S) (i : Int32) (w : Int32) : f_X5_trait_4 σ i w = kf_l (f_X1_hasLine_17 σ i) fun z1 => if z1.toInt = 0 then ((0 : Int32)) else (if w.toInt = 0 then (kf_l (σ.1 44 i.toNatClampNeg) fun z2 => z2) else if w.toInt = 1 then (kf_l (σ.1 45 i.toNatClampNeg) fun z3 => z3) else if w.toInt = 2 then (kf_l (σ.1 46 i.toNatClampNeg) fun z4 => z4) else if w.toInt = 3 then (kf_l (σ.1 47 i.toNatClampNeg) fun z5 => z5) else if w.toInt = 4 then (kf_l (f_X5_isHung_4 σ i) fun z6 => if z6.toInt = 0 then ((0 : Int32)) else ((1 : Int32))) else if w.toInt = 5 then (kf_l (σ.1 19 i.toNatClampNeg) fun z7 => z7) else (kf_l (f_X5_windNow_4 σ) fun z8 => kf_l (f_X1_pullOf_17 σ i z8) fun z9 => z9)) := rfl
abbrev p_X5_trait_4 (σ : kw_S) (i : Int32) (w : Int32) : Option Value → kw_S → Prop := fun vv σ' => σ' = σ ∧ ∃ r : Int32, vv = some (.int r) ∧ r = f_X5_trait_4 σ i w
set_option maxRecDepth 100000 in
set_option maxHeartbeats 4000000 in
theorem c_X5_trait_4 (l : Launch) (σ : kw_S) (hI : kw_I bX σ) (i : Int32) (w : Int32) : kw_Met l 3 KX mX5_trait [.ref 4, .int i, .int w] σ (p_X5_trait_4 σ i w) := by
  have r_i := kw_rng i
  have r_w := kw_rng w
  have hF := (f_X5_trait_4_u σ i w).symm
  have q_0 : (0 : Int32).toInt = 0 := rfl
  have q_1 : (1 : Int32).toInt = 1 := rfl
  refine kw_Met.of (by decide) rfl tX5_trait (Nat.le_of_ble_eq_true rfl) ?_
  show kw_AW l 3 kw_E0 KX mX5_trait (p_X5_trait_4 σ i w) 0 [(0, .ref 4), (1, .int i), (2, .int w)] [] σ
  refine kw_aload_n (pc := 0) (i := 0) (k := 0) (n := 0) rfl rfl rfl ?_
  refine kw_get (pc := 1) (i := 1) (v := .ref 17) rfl rfl rfl lkX5_12 (fun _ => rfl) ?_
  refine kw_iload_n (pc := 4) (i := 2) (k := 1) (n := 1) rfl rfl rfl ?_
  refine kw_callV (pc := 5) (i := 3) (Y := mX1_hasLine) (a := 17) (As := [.int i]) (st := []) kw_hE rfl rfl lvX5_45 arX1_hasLine (c_X1_hasLine_17 l σ hI i ) (by decide) (Nat.le_of_ble_eq_true rfl) rfl (fun v S2 p1 => ?_)
  obtain ⟨e7, z6, rfl, f3, f4, ef5⟩ := p1
  rw [e7]
  replace hF := kf_le ef5 hF
  have r_z6 := kw_rng z6
  show kw_AW l 3 kw_E0 KX mX5_trait (p_X5_trait_4 σ i w) 8 [(0, .ref 4), (1, .int i), (2, .int w)] [.int z6] σ
  refine kw_if_ne (pc := 8) (i := 4) (tgt := 13) rfl rfl (fun c8 => ?_) (fun c8 => ?_)
  · replace hF := kf_n c8 hF
    refine kw_iload_n (pc := 13) (i := 7) (k := 2) (n := 2) rfl rfl rfl ?_
    by_cases c9 : w.toInt = 0
    · refine kw_tableIn (pc := 14) (i := 8) (k := 0) (tgt := 52) rfl (by omega) (by decide) rfl rfl ?_
      replace hF := kf_p c9 hF
      refine kw_aload_n (pc := 52) (i := 9) (k := 0) (n := 0) rfl rfl rfl ?_
      refine kw_get (pc := 53) (i := 10) (v := .ref 17) rfl rfl rfl lkX5_12 (fun _ => rfl) ?_
      refine kw_get (pc := 56) (i := 11) (v := .ref 44) rfl rfl rfl lkX5_49 (fun _ => rfl) ?_
      refine kw_iload_n (pc := 59) (i := 12) (k := 1) (n := 1) rfl rfl rfl ?_
      refine kw_iald (pc := 60) (i := 13) (n := 6) rfl rfl (by omega) (by omega) (fun z10 e_z10 => ?_)
      replace hF := kf_le e_z10 hF
      have t_z10 := congrArg Int32.toInt e_z10
      have r_z10 := kw_rng z10
      exact kw_ireturn (pc := 61) (i := 14) (ty := .int) rfl rfl rfl ⟨rfl, _, rfl, hF⟩
    replace hF := kf_n c9 hF
    by_cases c11 : w.toInt = 1
    · refine kw_tableIn (pc := 14) (i := 8) (k := 1) (tgt := 62) rfl (by omega) (by decide) rfl rfl ?_
      replace hF := kf_p c11 hF
      refine kw_aload_n (pc := 62) (i := 15) (k := 0) (n := 0) rfl rfl rfl ?_
      refine kw_get (pc := 63) (i := 16) (v := .ref 17) rfl rfl rfl lkX5_12 (fun _ => rfl) ?_
      refine kw_get (pc := 66) (i := 17) (v := .ref 45) rfl rfl rfl lkX5_52 (fun _ => rfl) ?_
      refine kw_iload_n (pc := 69) (i := 18) (k := 1) (n := 1) rfl rfl rfl ?_
      refine kw_iald (pc := 70) (i := 19) (n := 6) rfl rfl (by omega) (by omega) (fun z12 e_z12 => ?_)
      replace hF := kf_le e_z12 hF
      have t_z12 := congrArg Int32.toInt e_z12
      have r_z12 := kw_rng z12
      exact kw_ireturn (pc := 71) (i := 20) (ty := .int) rfl rfl rfl ⟨rfl, _, rfl, hF⟩
    replace hF := kf_n c11 hF
    by_cases c13 : w.toInt = 2
    · refine kw_tableIn (pc := 14) (i := 8) (k := 2) (tgt := 72) rfl (by omega) (by decide) rfl rfl ?_
      replace hF := kf_p c13 hF
      refine kw_aload_n (pc := 72) (i := 21) (k := 0) (n := 0) rfl rfl rfl ?_
      refine kw_get (pc := 73) (i := 22) (v := .ref 17) rfl rfl rfl lkX5_12 (fun _ => rfl) ?_
      refine kw_get (pc := 76) (i := 23) (v := .ref 46) rfl rfl rfl lkX5_55 (fun _ => rfl) ?_
      refine kw_iload_n (pc := 79) (i := 24) (k := 1) (n := 1) rfl rfl rfl ?_
      refine kw_iald (pc := 80) (i := 25) (n := 6) rfl rfl (by omega) (by omega) (fun z14 e_z14 => ?_)
      replace hF := kf_le e_z14 hF
      have t_z14 := congrArg Int32.toInt e_z14
      have r_z14 := kw_rng z14
      exact kw_ireturn (pc := 81) (i := 26) (ty := .int) rfl rfl rfl ⟨rfl, _, rfl, hF⟩
    replace hF := kf_n c13 hF
    by_cases c15 : w.toInt = 3
    · refine kw_tableIn (pc := 14) (i := 8) (k := 3) (tgt := 82) rfl (by omega) (by decide) rfl rfl ?_
      replace hF := kf_p c15 hF
      refine kw_aload_n (pc := 82) (i := 27) (k := 0) (n := 0) rfl rfl rfl ?_
      refine kw_get (pc := 83) (i := 28) (v := .ref 17) rfl rfl rfl lkX5_12 (fun _ => rfl) ?_
      refine kw_get (pc := 86) (i := 29) (v := .ref 47) rfl rfl rfl lkX5_58 (fun _ => rfl) ?_
      refine kw_iload_n (pc := 89) (i := 30) (k := 1) (n := 1) rfl rfl rfl ?_
      refine kw_iald (pc := 90) (i := 31) (n := 6) rfl rfl (by omega) (by omega) (fun z16 e_z16 => ?_)
      replace hF := kf_le e_z16 hF
      have t_z16 := congrArg Int32.toInt e_z16
      have r_z16 := kw_rng z16
      exact kw_ireturn (pc := 91) (i := 32) (ty := .int) rfl rfl rfl ⟨rfl, _, rfl, hF⟩
    replace hF := kf_n c15 hF
    by_cases c17 : w.toInt = 4
    · refine kw_tableIn (pc := 14) (i := 8) (k := 4) (tgt := 92) rfl (by omega) (by decide) rfl rfl ?_
      replace hF := kf_p c17 hF
      refine kw_aload_n (pc := 92) (i := 33) (k := 0) (n := 0) rfl rfl rfl ?_
      refine kw_iload_n (pc := 93) (i := 34) (k := 1) (n := 1) rfl rfl rfl ?_
      refine kw_callV (pc := 94) (i := 35) (Y := mX5_isHung) (a := 4) (As := [.int i]) (st := []) kw_hE rfl rfl lvX5_61 arX5_isHung (c_X5_isHung_4 l σ hI i ) (by decide) (Nat.le_of_ble_eq_true rfl) rfl (fun v S19 p18 => ?_)
      obtain ⟨e23, z22, rfl, f20, ef21⟩ := p18
      rw [e23]
      replace hF := kf_le ef21 hF
      have r_z22 := kw_rng z22
      show kw_AW l 3 kw_E0 KX mX5_trait (p_X5_trait_4 σ i w) 97 [(0, .ref 4), (1, .int i), (2, .int w)] [.int z22] σ
      refine kw_if_eq (pc := 97) (i := 36) (tgt := 104) rfl rfl (fun c24 => ?_) (fun c24 => ?_)
      · replace hF := kf_p c24 hF
        refine kw_iconst (pc := 104) (i := 39) (v := 0) rfl rfl ?_
        exact kw_ireturn (pc := 105) (i := 40) (ty := .int) rfl rfl rfl ⟨rfl, _, rfl, hF⟩
      · replace hF := kf_n c24 hF
        refine kw_iconst (pc := 100) (i := 37) (v := 1) rfl rfl ?_
        refine kw_goto (pc := 101) (i := 38) (tgt := 105) rfl rfl ?_
        exact kw_ireturn (pc := 105) (i := 40) (ty := .int) rfl rfl rfl ⟨rfl, _, rfl, hF⟩
    replace hF := kf_n c17 hF
    by_cases c25 : w.toInt = 5
    · refine kw_tableIn (pc := 14) (i := 8) (k := 5) (tgt := 106) rfl (by omega) (by decide) rfl rfl ?_
      replace hF := kf_p c25 hF
      refine kw_aload_n (pc := 106) (i := 41) (k := 0) (n := 0) rfl rfl rfl ?_
      refine kw_get (pc := 107) (i := 42) (v := .ref 19) rfl rfl rfl lkX5_22 (fun _ => rfl) ?_
      refine kw_iload_n (pc := 110) (i := 43) (k := 1) (n := 1) rfl rfl rfl ?_
      refine kw_iald (pc := 111) (i := 44) (n := 6) rfl rfl (by omega) (by omega) (fun z26 e_z26 => ?_)
      replace hF := kf_le e_z26 hF
      have t_z26 := congrArg Int32.toInt e_z26
      have r_z26 := kw_rng z26
      exact kw_ireturn (pc := 112) (i := 45) (ty := .int) rfl rfl rfl ⟨rfl, _, rfl, hF⟩
    replace hF := kf_n c25 hF
    refine kw_tableOut (pc := 14) (i := 8) (tgt := 113) rfl (by omega) rfl ?_
    refine kw_aload_n (pc := 113) (i := 46) (k := 0) (n := 0) rfl rfl rfl ?_
    refine kw_get (pc := 114) (i := 47) (v := .ref 17) rfl rfl rfl lkX5_12 (fun _ => rfl) ?_
    refine kw_iload_n (pc := 117) (i := 48) (k := 1) (n := 1) rfl rfl rfl ?_
    refine kw_aload_n (pc := 118) (i := 49) (k := 0) (n := 0) rfl rfl rfl ?_
    refine kw_callV (pc := 119) (i := 50) (Y := mX5_windNow) (a := 4) (As := []) (st := [.int i, .ref 17]) kw_hE rfl rfl lvX5_64 arX5_windNow (c_X5_windNow_4 l σ hI  ) (by decide) (Nat.le_of_ble_eq_true rfl) rfl (fun v S28 p27 => ?_)
    obtain ⟨e31, z30, rfl, ef29⟩ := p27
    rw [e31]
    replace hF := kf_le ef29 hF
    have r_z30 := kw_rng z30
    show kw_AW l 3 kw_E0 KX mX5_trait (p_X5_trait_4 σ i w) 122 [(0, .ref 4), (1, .int i), (2, .int w)] [.int z30, .int i, .ref 17] σ
    refine kw_callV (pc := 122) (i := 51) (Y := mX1_pullOf) (a := 17) (As := [.int i, .int z30]) (st := []) kw_hE rfl rfl lvX5_68 arX1_pullOf (c_X1_pullOf_17 l σ hI i z30 ) (by decide) (Nat.le_of_ble_eq_true rfl) rfl (fun v S33 p32 => ?_)
    obtain ⟨e36, z35, rfl, ef34⟩ := p32
    rw [e36]
    replace hF := kf_le ef34 hF
    have r_z35 := kw_rng z35
    show kw_AW l 3 kw_E0 KX mX5_trait (p_X5_trait_4 σ i w) 125 [(0, .ref 4), (1, .int i), (2, .int w)] [.int z35] σ
    exact kw_ireturn (pc := 125) (i := 52) (ty := .int) rfl rfl rfl ⟨rfl, _, rfl, hF⟩
  · replace hF := kf_p c8 hF
    refine kw_iconst (pc := 11) (i := 5) (v := 0) rfl rfl ?_
    exact kw_ireturn (pc := 12) (i := 6) (ty := .int) rfl rfl rfl ⟨rfl, _, rfl, hF⟩
noncomputable def f_X5_passHour_4 (σ : kw_S)  : kw_S := kf_l (f_X5_windNow_4 σ) fun z1 => kf_l (f_X1_milesOf_17 σ (σ.1 4 4) z1) fun z2 => kf_l ((σ.1 4 6) + z2) fun z3 => kf_l (f_X1_turnOf_17 (kw_ui σ 4 6 z3) (σ.1 4 4) z1) fun z4 => kf_l ((σ.1 4 7) + z4) fun z5 => kf_l (f_X7_weather_19 (kw_ui (kw_ui σ 4 6 z3) 4 7 z5) (σ.1 4 4) z1) fun S6 => kf_l ((S6.1 4 5) + (1 : Int32)) fun z7 => kw_ui S6 4 5 z7
theorem f_X5_passHour_4_u (σ : kw_S)  : f_X5_passHour_4 σ  = kf_l (f_X5_windNow_4 σ) fun z1 => kf_l (f_X1_milesOf_17 σ (σ.1 4 4) z1) fun z2 => kf_l ((σ.1 4 6) + z2) fun z3 => kf_l (f_X1_turnOf_17 (kw_ui σ 4 6 z3) (σ.1 4 4) z1) fun z4 => kf_l ((σ.1 4 7) + z4) fun z5 => kf_l (f_X7_weather_19 (kw_ui (kw_ui σ 4 6 z3) 4 7 z5) (σ.1 4 4) z1) fun S6 => kf_l ((S6.1 4 5) + (1 : Int32)) fun z7 => kw_ui S6 4 5 z7 := rfl
abbrev p_X5_passHour_4 (σ : kw_S)  : Option Value → kw_S → Prop := fun vv σ' => (kw_I bX σ' ∧ kw_F [4, 19] σ σ') ∧ vv = none ∧ σ' = f_X5_passHour_4 σ
set_option maxRecDepth 100000 in
set_option maxHeartbeats 4000000 in
theorem c_X5_passHour_4 (l : Launch) (σ : kw_S) (hI : kw_I bX σ)  : kw_Met l 4 KX mX5_passHour [.ref 4] σ (p_X5_passHour_4 σ) := by
  have hF0 : kw_F [4, 19] σ σ := kw_F.rf
  have hF := (f_X5_passHour_4_u σ).symm
  have q_1 : (1 : Int32).toInt = 1 := rfl
  refine kw_Met.of (by decide) rfl tX5_passHour (Nat.le_of_ble_eq_true rfl) ?_
  show kw_AW l 4 kw_E0 KX mX5_passHour (p_X5_passHour_4 σ) 0 [(0, .ref 4)] [] σ
  refine kw_aload_n (pc := 0) (i := 0) (k := 0) (n := 0) rfl rfl rfl ?_
  refine kw_callV (pc := 1) (i := 1) (Y := mX5_windNow) (a := 4) (As := []) (st := []) kw_hE rfl rfl lvX5_64 arX5_windNow (c_X5_windNow_4 l σ hI  ) (by decide) (Nat.le_of_ble_eq_true rfl) rfl (fun v S2 p1 => ?_)
  obtain ⟨e5, z4, rfl, ef3⟩ := p1
  rw [e5]
  replace hF := kf_le ef3 hF
  have r_z4 := kw_rng z4
  show kw_AW l 4 kw_E0 KX mX5_passHour (p_X5_passHour_4 σ) 4 [(0, .ref 4)] [.int z4] σ
  refine kw_istore_n (pc := 4) (i := 2) (n := 1) (lv' := [(1, .int z4), (0, .ref 4)]) rfl rfl (by decide) rfl ?_
  refine kw_aload_n (pc := 5) (i := 3) (k := 1) (n := 0) rfl rfl rfl ?_
  refine kw_dup (pc := 6) (i := 4) rfl rfl ?_
  refine kw_get (pc := 7) (i := 5) (v := .int (σ.1 4 6)) rfl rfl rfl lkX5_78 (fun _ => rfl) ?_
  have b6 := kw_rng (σ.1 4 6)
  refine kw_aload_n (pc := 10) (i := 6) (k := 1) (n := 0) rfl rfl rfl ?_
  refine kw_get (pc := 11) (i := 7) (v := .ref 17) rfl rfl rfl lkX5_12 (fun _ => rfl) ?_
  refine kw_aload_n (pc := 14) (i := 8) (k := 1) (n := 0) rfl rfl rfl ?_
  refine kw_get (pc := 15) (i := 9) (v := .int (σ.1 4 4)) rfl rfl rfl lkX5_29 (fun _ => rfl) ?_
  have b7 := kw_rng (σ.1 4 4)
  refine kw_iload_n (pc := 18) (i := 10) (k := 0) (n := 1) rfl rfl rfl ?_
  refine kw_callV (pc := 19) (i := 11) (Y := mX1_milesOf) (a := 17) (As := [.int (σ.1 4 4), .int z4]) (st := [.int (σ.1 4 6), .ref 4]) kw_hE rfl rfl lvX5_81 arX1_milesOf (c_X1_milesOf_17 l σ hI (σ.1 4 4) z4 ) (by decide) (Nat.le_of_ble_eq_true rfl) rfl (fun v S9 p8 => ?_)
  obtain ⟨e12, z11, rfl, ef10⟩ := p8
  rw [e12]
  replace hF := kf_le ef10 hF
  have r_z11 := kw_rng z11
  show kw_AW l 4 kw_E0 KX mX5_passHour (p_X5_passHour_4 σ) 22 [(1, .int z4), (0, .ref 4)] [.int z11, .int (σ.1 4 6), .ref 4] σ
  refine kw_iadd (pc := 22) (i := 12) rfl (fun z13 e_z13 t_z13 => ?_)
  replace hF := kf_le e_z13 hF
  refine kw_puti (pc := 23) (i := 13) (z := 0) rfl rfl rfl lpX5_78 rfl rfl ?_
  have I14 : kw_I bX (kw_ui σ 4 6 z13) := kw_I_ui hI (kw_rng z13).1 (Int.le_of_lt_add_one (kw_rng z13).2)
  have F15 : kw_F [4, 19] σ (kw_ui σ 4 6 z13) := kw_F_ui hF0 (by decide)
  refine kw_aload_n (pc := 26) (i := 14) (k := 1) (n := 0) rfl rfl rfl ?_
  refine kw_dup (pc := 27) (i := 15) rfl rfl ?_
  refine kw_get (pc := 28) (i := 16) (v := .int (σ.1 4 7)) rfl rfl rfl lkX5_84 (fun _ => rfl) ?_
  have b16 := kw_rng (σ.1 4 7)
  refine kw_aload_n (pc := 31) (i := 17) (k := 1) (n := 0) rfl rfl rfl ?_
  refine kw_get (pc := 32) (i := 18) (v := .ref 17) rfl rfl rfl lkX5_12 (fun _ => rfl) ?_
  refine kw_aload_n (pc := 35) (i := 19) (k := 1) (n := 0) rfl rfl rfl ?_
  refine kw_get (pc := 36) (i := 20) (v := .int (σ.1 4 4)) rfl rfl rfl lkX5_29 (fun _ => rfl) ?_
  refine kw_iload_n (pc := 39) (i := 21) (k := 0) (n := 1) rfl rfl rfl ?_
  refine kw_callV (pc := 40) (i := 22) (Y := mX1_turnOf) (a := 17) (As := [.int (σ.1 4 4), .int z4]) (st := [.int (σ.1 4 7), .ref 4]) kw_hE rfl rfl lvX5_87 arX1_turnOf (c_X1_turnOf_17 l (kw_ui σ 4 6 z13) I14 (σ.1 4 4) z4 ) (by decide) (Nat.le_of_ble_eq_true rfl) rfl (fun v S18 p17 => ?_)
  obtain ⟨e21, z20, rfl, ef19⟩ := p17
  rw [e21]
  replace hF := kf_le ef19 hF
  have r_z20 := kw_rng z20
  show kw_AW l 4 kw_E0 KX mX5_passHour (p_X5_passHour_4 σ) 43 [(1, .int z4), (0, .ref 4)] [.int z20, .int (σ.1 4 7), .ref 4] (kw_ui σ 4 6 z13)
  refine kw_iadd (pc := 43) (i := 23) rfl (fun z22 e_z22 t_z22 => ?_)
  replace hF := kf_le e_z22 hF
  refine kw_puti (pc := 44) (i := 24) (z := 0) rfl rfl rfl lpX5_84 rfl rfl ?_
  have I23 : kw_I bX (kw_ui (kw_ui σ 4 6 z13) 4 7 z22) := kw_I_ui I14 (kw_rng z22).1 (Int.le_of_lt_add_one (kw_rng z22).2)
  have F24 : kw_F [4, 19] σ (kw_ui (kw_ui σ 4 6 z13) 4 7 z22) := kw_F_ui F15 (by decide)
  refine kw_aload_n (pc := 47) (i := 25) (k := 1) (n := 0) rfl rfl rfl ?_
  refine kw_get (pc := 48) (i := 26) (v := .ref 19) rfl rfl rfl lkX5_22 (fun _ => rfl) ?_
  refine kw_aload_n (pc := 51) (i := 27) (k := 1) (n := 0) rfl rfl rfl ?_
  refine kw_get (pc := 52) (i := 28) (v := .int (σ.1 4 4)) rfl rfl rfl lkX5_29 (fun _ => rfl) ?_
  refine kw_iload_n (pc := 55) (i := 29) (k := 0) (n := 1) rfl rfl rfl ?_
  refine kw_callN (pc := 56) (i := 30) (Y := mX7_weather) (As := [.ref 19, .int (σ.1 4 4), .int z4]) (st := []) kw_hE rfl lnX5_90 arX7_weather (c_X7_weather_19 l (kw_ui (kw_ui σ 4 6 z13) 4 7 z22) I23 (σ.1 4 4) z4 ) (by decide) (Nat.le_of_ble_eq_true rfl) rfl (fun v S26 p25 => ?_)
  obtain ⟨⟨I28, F29⟩, rfl, ef27⟩ := p25
  have F30 : kw_F [4, 19] σ S26 := kw_F.tr F24 F29 (by decide)
  replace hF := kf_le ef27 hF
  show kw_AW l 4 kw_E0 KX mX5_passHour (p_X5_passHour_4 σ) 59 [(1, .int z4), (0, .ref 4)] [] S26
  refine kw_aload_n (pc := 59) (i := 31) (k := 1) (n := 0) rfl rfl rfl ?_
  refine kw_dup (pc := 60) (i := 32) rfl rfl ?_
  refine kw_get (pc := 61) (i := 33) (v := .int (S26.1 4 5)) rfl rfl rfl lkX5_35 (fun _ => rfl) ?_
  have b31 := kw_rng (S26.1 4 5)
  refine kw_iconst (pc := 64) (i := 34) (v := 1) rfl rfl ?_
  refine kw_iadd (pc := 65) (i := 35) rfl (fun z32 e_z32 t_z32 => ?_)
  replace hF := kf_le e_z32 hF
  refine kw_puti (pc := 66) (i := 36) (z := 0) rfl rfl rfl lpX5_35 rfl rfl ?_
  have I33 : kw_I bX (kw_ui S26 4 5 z32) := kw_I_ui I28 (kw_rng z32).1 (Int.le_of_lt_add_one (kw_rng z32).2)
  have F34 : kw_F [4, 19] σ (kw_ui S26 4 5 z32) := kw_F_ui F30 (by decide)
  exact kw_return (pc := 69) (i := 37) rfl rfl ⟨⟨I33, F34⟩, rfl, hF⟩
noncomputable def f_X5_act_4 (σ : kw_S) (e : Int32) : kw_S := kf_l (f_X5_hasRoomFor_4 σ (1 : Int32)) fun z1 => if z1.toInt = 0 then (σ) else (kf_l ((σ.1 4 3) + (1 : Int32)) fun z2 => if e.toInt = (6 : Int32).toInt then (kf_l (f_X5_passHour_4 (kw_ui (kw_ui σ 18 (σ.1 4 3).toNatClampNeg e) 4 3 z2)) fun S5 => S5) else (kf_l ((1 : Int32) <<< (e &&& 31)) fun z3 => kf_l ((σ.1 4 4) ^^^ z3) fun z4 => kw_ui (kw_ui (kw_ui σ 18 (σ.1 4 3).toNatClampNeg e) 4 3 z2) 4 4 z4))
theorem f_X5_act_4_u (σ : kw_S) (e : Int32) : f_X5_act_4 σ e = kf_l (f_X5_hasRoomFor_4 σ (1 : Int32)) fun z1 => if z1.toInt = 0 then (σ) else (kf_l ((σ.1 4 3) + (1 : Int32)) fun z2 => if e.toInt = (6 : Int32).toInt then (kf_l (f_X5_passHour_4 (kw_ui (kw_ui σ 18 (σ.1 4 3).toNatClampNeg e) 4 3 z2)) fun S5 => S5) else (kf_l ((1 : Int32) <<< (e &&& 31)) fun z3 => kf_l ((σ.1 4 4) ^^^ z3) fun z4 => kw_ui (kw_ui (kw_ui σ 18 (σ.1 4 3).toNatClampNeg e) 4 3 z2) 4 4 z4)) := rfl
abbrev p_X5_act_4 (σ : kw_S) (e : Int32) : Option Value → kw_S → Prop := fun vv σ' => (kw_I bX σ' ∧ kw_F [4, 18, 19] σ σ') ∧ vv = none ∧ σ' = f_X5_act_4 σ e
set_option maxRecDepth 100000 in
set_option maxHeartbeats 4000000 in
theorem c_X5_act_4 (l : Launch) (σ : kw_S) (hI : kw_I bX σ) (e : Int32) : kw_Met l 5 KX mX5_act [.ref 4, .int e] σ (p_X5_act_4 σ e) := by
  have r_e := kw_rng e
  have hF0 : kw_F [4, 18, 19] σ σ := kw_F.rf
  have hF := (f_X5_act_4_u σ e).symm
  have q_1 : (1 : Int32).toInt = 1 := rfl
  have q_6 : (6 : Int32).toInt = 6 := rfl
  refine kw_Met.of (by decide) rfl tX5_act (Nat.le_of_ble_eq_true rfl) ?_
  show kw_AW l 5 kw_E0 KX mX5_act (p_X5_act_4 σ e) 0 [(0, .ref 4), (1, .int e)] [] σ
  refine kw_aload_n (pc := 0) (i := 0) (k := 0) (n := 0) rfl rfl rfl ?_
  refine kw_iconst (pc := 1) (i := 1) (v := 1) rfl rfl ?_
  refine kw_callV (pc := 2) (i := 2) (Y := mX5_hasRoomFor) (a := 4) (As := [.int 1]) (st := []) kw_hE rfl rfl lvX5_72 arX5_hasRoomFor (c_X5_hasRoomFor_4 l σ hI 1 (by first | omega | decide) (by first | omega | decide)) (by decide) (Nat.le_of_ble_eq_true rfl) rfl (fun v S2 p1 => ?_)
  obtain ⟨e7, z6, rfl, f3, f4, ef5⟩ := p1
  rw [e7]
  replace hF := kf_le ef5 hF
  have r_z6 := kw_rng z6
  show kw_AW l 5 kw_E0 KX mX5_act (p_X5_act_4 σ e) 5 [(0, .ref 4), (1, .int e)] [.int z6] σ
  refine kw_if_ne (pc := 5) (i := 3) (tgt := 9) rfl rfl (fun c8 => ?_) (fun c8 => ?_)
  · replace hF := kf_n c8 hF
    refine kw_aload_n (pc := 9) (i := 5) (k := 0) (n := 0) rfl rfl rfl ?_
    refine kw_get (pc := 10) (i := 6) (v := .ref 18) rfl rfl rfl lkX5_18 (fun _ => rfl) ?_
    refine kw_aload_n (pc := 13) (i := 7) (k := 0) (n := 0) rfl rfl rfl ?_
    refine kw_get (pc := 14) (i := 8) (v := .int (σ.1 4 3)) rfl rfl rfl lkX5_32 (fun _ => rfl) ?_
    have b9 : 0 ≤ (σ.1 4 3).toInt ∧ (σ.1 4 3).toInt ≤ 40 := hI 4 3
    refine kw_iload_n (pc := 17) (i := 9) (k := 1) (n := 1) rfl rfl rfl ?_
    refine kw_iast (pc := 18) (i := 10) (n := 40) rfl rfl (by omega) (by omega) ?_
    have I10 : kw_I bX (kw_ui σ 18 (σ.1 4 3).toNatClampNeg e) := kw_I_ui hI (kw_rng e).1 (Int.le_of_lt_add_one (kw_rng e).2)
    have F11 : kw_F [4, 18, 19] σ (kw_ui σ 18 (σ.1 4 3).toNatClampNeg e) := kw_F_ui hF0 (by decide)
    refine kw_aload_n (pc := 19) (i := 11) (k := 0) (n := 0) rfl rfl rfl ?_
    refine kw_dup (pc := 20) (i := 12) rfl rfl ?_
    refine kw_get (pc := 21) (i := 13) (v := .int (σ.1 4 3)) rfl rfl rfl lkX5_32 (fun _ => rfl) ?_
    refine kw_iconst (pc := 24) (i := 14) (v := 1) rfl rfl ?_
    refine kw_iadd (pc := 25) (i := 15) rfl (fun z12 e_z12 t_z12 => ?_)
    replace hF := kf_le e_z12 hF
    refine kw_puti (pc := 26) (i := 16) (z := 0) rfl rfl rfl lpX5_32 rfl rfl ?_
    have I13 : kw_I bX (kw_ui (kw_ui σ 18 (σ.1 4 3).toNatClampNeg e) 4 3 z12) := kw_I_ui I10 (show 0 ≤ z12.toInt by omega) (show z12.toInt ≤ 40 by omega)
    have F14 : kw_F [4, 18, 19] σ (kw_ui (kw_ui σ 18 (σ.1 4 3).toNatClampNeg e) 4 3 z12) := kw_F_ui F11 (by decide)
    refine kw_iload_n (pc := 29) (i := 17) (k := 1) (n := 1) rfl rfl rfl ?_
    refine kw_bipush (pc := 30) (i := 18) (v := 6) rfl rfl ?_
    refine kw_icmp_ne (pc := 32) (i := 19) (tgt := 42) rfl rfl (fun c15 => ?_) (fun c15 => ?_)
    · replace hF := kf_n c15 hF
      refine kw_aload_n (pc := 42) (i := 23) (k := 0) (n := 0) rfl rfl rfl ?_
      refine kw_dup (pc := 43) (i := 24) rfl rfl ?_
      refine kw_get (pc := 44) (i := 25) (v := .int (σ.1 4 4)) rfl rfl rfl lkX5_29 (fun _ => rfl) ?_
      have b16 := kw_rng (σ.1 4 4)
      refine kw_iconst (pc := 47) (i := 26) (v := 1) rfl rfl ?_
      refine kw_iload_n (pc := 48) (i := 27) (k := 1) (n := 1) rfl rfl rfl ?_
      refine kw_ishl (pc := 49) (i := 28) rfl (fun z17 e_z17 => ?_)
      have r_z17 := kw_rng z17
      replace hF := kf_le e_z17 hF
      refine kw_ixor (pc := 50) (i := 29) rfl (fun z18 e_z18 => ?_)
      have r_z18 := kw_rng z18
      replace hF := kf_le e_z18 hF
      refine kw_puti (pc := 51) (i := 30) (z := 0) rfl rfl rfl lpX5_29 rfl rfl ?_
      have I19 : kw_I bX (kw_ui (kw_ui (kw_ui σ 18 (σ.1 4 3).toNatClampNeg e) 4 3 z12) 4 4 z18) := kw_I_ui I13 (kw_rng z18).1 (Int.le_of_lt_add_one (kw_rng z18).2)
      have F20 : kw_F [4, 18, 19] σ (kw_ui (kw_ui (kw_ui σ 18 (σ.1 4 3).toNatClampNeg e) 4 3 z12) 4 4 z18) := kw_F_ui F14 (by decide)
      exact kw_return (pc := 54) (i := 31) rfl rfl ⟨⟨I19, F20⟩, rfl, hF⟩
    · replace hF := kf_p c15 hF
      refine kw_aload_n (pc := 35) (i := 20) (k := 0) (n := 0) rfl rfl rfl ?_
      refine kw_callV (pc := 36) (i := 21) (Y := mX5_passHour) (a := 4) (As := []) (st := []) kw_hE rfl rfl lvX5_75 arX5_passHour (c_X5_passHour_4 l (kw_ui (kw_ui σ 18 (σ.1 4 3).toNatClampNeg e) 4 3 z12) I13  ) (by decide) (Nat.le_of_ble_eq_true rfl) rfl (fun v S22 p21 => ?_)
      obtain ⟨⟨I24, F25⟩, rfl, ef23⟩ := p21
      have F26 : kw_F [4, 18, 19] σ S22 := kw_F.tr F14 F25 (by decide)
      replace hF := kf_le ef23 hF
      show kw_AW l 5 kw_E0 KX mX5_act (p_X5_act_4 σ e) 39 [(0, .ref 4), (1, .int e)] [] S22
      refine kw_goto (pc := 39) (i := 22) (tgt := 54) rfl rfl ?_
      exact kw_return (pc := 54) (i := 31) rfl rfl ⟨⟨I24, F26⟩, rfl, hF⟩
  · replace hF := kf_p c8 hF
    exact kw_return (pc := 8) (i := 4) rfl rfl ⟨⟨hI, hF0⟩, rfl, hF⟩
noncomputable def l_X5_replay_4_35 (a1 : Int32) : Nat → Int32 → kw_S → kw_S
  | 0, _, S => S
  | n + 1, x2, S => if x2.toInt < a1.toInt then (if x2.toInt < (40 : Int32).toInt then (kf_l (S.1 18 x2.toNatClampNeg) fun z2 => kf_l (f_X5_act_4 S z2) fun S3 => kf_l (x2 + Int32.ofInt 1) fun z4 => l_X5_replay_4_35 a1 n z4 S3) else (S)) else (S)
theorem l_X5_replay_4_35_s (a1 : Int32) (n : Nat) (x2 : Int32) (S : kw_S) : l_X5_replay_4_35 a1 (n + 1) x2 S = if x2.toInt < a1.toInt then (if x2.toInt < (40 : Int32).toInt then (kf_l (S.1 18 x2.toNatClampNeg) fun z2 => kf_l (f_X5_act_4 S z2) fun S3 => kf_l (x2 + Int32.ofInt 1) fun z4 => l_X5_replay_4_35 a1 n z4 S3) else (S)) else (S) := rfl
noncomputable def f_X5_replay_4 (σ : kw_S) (n : Int32) : kw_S := kf_l (f_J7_fill_53178_19 σ (0 : Int32)) fun S1 => l_X5_replay_4_35 n ((41 - (0 : Int32).toInt).toNat + 1) (0 : Int32) (kw_ui (kw_ui (kw_ui (kw_ui (kw_ui S1 4 3 0) 4 4 0) 4 5 0) 4 6 0) 4 7 0)
theorem f_X5_replay_4_u (σ : kw_S) (n : Int32) : f_X5_replay_4 σ n = kf_l (f_J7_fill_53178_19 σ (0 : Int32)) fun S1 => l_X5_replay_4_35 n ((41 - (0 : Int32).toInt).toNat + 1) (0 : Int32) (kw_ui (kw_ui (kw_ui (kw_ui (kw_ui S1 4 3 0) 4 4 0) 4 5 0) 4 6 0) 4 7 0) := rfl
abbrev p_X5_replay_4 (σ : kw_S) (n : Int32) : Option Value → kw_S → Prop := fun vv σ' => (kw_I bX σ' ∧ kw_F [4, 18, 19] σ σ') ∧ vv = none ∧ σ' = f_X5_replay_4 σ n
set_option maxRecDepth 100000 in
set_option maxHeartbeats 4000000 in
theorem c_X5_replay_4 (l : Launch) (σ : kw_S) (hI : kw_I bX σ) (n : Int32) : kw_Met l 6 KX mX5_replay [.ref 4, .int n] σ (p_X5_replay_4 σ n) := by
  have r_n := kw_rng n
  have hF0 : kw_F [4, 18, 19] σ σ := kw_F.rf
  have hF := (f_X5_replay_4_u σ n).symm
  have q_0 : (0 : Int32).toInt = 0 := rfl
  have q_40 : (40 : Int32).toInt = 40 := rfl
  refine kw_Met.of (by decide) rfl tX5_replay (Nat.le_of_ble_eq_true rfl) ?_
  show kw_AW l 6 kw_E0 KX mX5_replay (p_X5_replay_4 σ n) 0 [(0, .ref 4), (1, .int n)] [] σ
  refine kw_aload_n (pc := 0) (i := 0) (k := 0) (n := 0) rfl rfl rfl ?_
  refine kw_get (pc := 1) (i := 1) (v := .ref 19) rfl rfl rfl lkX5_22 (fun _ => rfl) ?_
  refine kw_iconst (pc := 4) (i := 2) (v := 0) rfl rfl ?_
  refine kw_callS (pc := 5) (i := 3) (Y := mJ7_fill_53178) (As := [.ref 19, .int 0]) (st := []) kw_hE rfl lsX5_94 arJ7_fill_53178 (c_J7_fill_53178_19 l σ hI 0 ) (by decide) (Nat.le_of_ble_eq_true rfl) rfl (fun v S2 p1 => ?_)
  obtain ⟨⟨I4, F5⟩, rfl, ef3⟩ := p1
  have F6 : kw_F [4, 18, 19] σ S2 := kw_F.tr hF0 F5 (by decide)
  replace hF := kf_le ef3 hF
  show kw_AW l 6 kw_E0 KX mX5_replay (p_X5_replay_4 σ n) 8 [(0, .ref 4), (1, .int n)] [] S2
  refine kw_aload_n (pc := 8) (i := 4) (k := 0) (n := 0) rfl rfl rfl ?_
  refine kw_iconst (pc := 9) (i := 5) (v := 0) rfl rfl ?_
  refine kw_puti (pc := 10) (i := 6) (z := 0) rfl rfl rfl lpX5_32 rfl rfl ?_
  have I7 : kw_I bX (kw_ui S2 4 3 0) := kw_I_ui I4 (show 0 ≤ (0 : Int32).toInt by omega) (show (0 : Int32).toInt ≤ 40 by omega)
  have F8 : kw_F [4, 18, 19] σ (kw_ui S2 4 3 0) := kw_F_ui F6 (by decide)
  refine kw_aload_n (pc := 13) (i := 7) (k := 0) (n := 0) rfl rfl rfl ?_
  refine kw_iconst (pc := 14) (i := 8) (v := 0) rfl rfl ?_
  refine kw_puti (pc := 15) (i := 9) (z := 0) rfl rfl rfl lpX5_29 rfl rfl ?_
  have I9 : kw_I bX (kw_ui (kw_ui S2 4 3 0) 4 4 0) := kw_I_ui I7 (kw_rng (0 : Int32)).1 (Int.le_of_lt_add_one (kw_rng (0 : Int32)).2)
  have F10 : kw_F [4, 18, 19] σ (kw_ui (kw_ui S2 4 3 0) 4 4 0) := kw_F_ui F8 (by decide)
  refine kw_aload_n (pc := 18) (i := 10) (k := 0) (n := 0) rfl rfl rfl ?_
  refine kw_iconst (pc := 19) (i := 11) (v := 0) rfl rfl ?_
  refine kw_puti (pc := 20) (i := 12) (z := 0) rfl rfl rfl lpX5_35 rfl rfl ?_
  have I11 : kw_I bX (kw_ui (kw_ui (kw_ui S2 4 3 0) 4 4 0) 4 5 0) := kw_I_ui I9 (kw_rng (0 : Int32)).1 (Int.le_of_lt_add_one (kw_rng (0 : Int32)).2)
  have F12 : kw_F [4, 18, 19] σ (kw_ui (kw_ui (kw_ui S2 4 3 0) 4 4 0) 4 5 0) := kw_F_ui F10 (by decide)
  refine kw_aload_n (pc := 23) (i := 13) (k := 0) (n := 0) rfl rfl rfl ?_
  refine kw_iconst (pc := 24) (i := 14) (v := 0) rfl rfl ?_
  refine kw_puti (pc := 25) (i := 15) (z := 0) rfl rfl rfl lpX5_78 rfl rfl ?_
  have I13 : kw_I bX (kw_ui (kw_ui (kw_ui (kw_ui S2 4 3 0) 4 4 0) 4 5 0) 4 6 0) := kw_I_ui I11 (kw_rng (0 : Int32)).1 (Int.le_of_lt_add_one (kw_rng (0 : Int32)).2)
  have F14 : kw_F [4, 18, 19] σ (kw_ui (kw_ui (kw_ui (kw_ui S2 4 3 0) 4 4 0) 4 5 0) 4 6 0) := kw_F_ui F12 (by decide)
  refine kw_aload_n (pc := 28) (i := 16) (k := 0) (n := 0) rfl rfl rfl ?_
  refine kw_iconst (pc := 29) (i := 17) (v := 0) rfl rfl ?_
  refine kw_puti (pc := 30) (i := 18) (z := 0) rfl rfl rfl lpX5_84 rfl rfl ?_
  have I15 : kw_I bX (kw_ui (kw_ui (kw_ui (kw_ui (kw_ui S2 4 3 0) 4 4 0) 4 5 0) 4 6 0) 4 7 0) := kw_I_ui I13 (kw_rng (0 : Int32)).1 (Int.le_of_lt_add_one (kw_rng (0 : Int32)).2)
  have F16 : kw_F [4, 18, 19] σ (kw_ui (kw_ui (kw_ui (kw_ui (kw_ui S2 4 3 0) 4 4 0) 4 5 0) 4 6 0) 4 7 0) := kw_F_ui F14 (by decide)
  refine kw_iconst (pc := 33) (i := 19) (v := 0) rfl rfl ?_
  refine kw_istore_n (pc := 34) (i := 20) (n := 2) (lv' := [(2, .int 0), (0, .ref 4), (1, .int n)]) rfl rfl (by decide) rfl ?_
  have L21 : ∀ (n25 : Nat) (x17 : Int32) (S18 : kw_S), kw_I bX S18 → kw_F [4, 18, 19] σ S18 → 0 ≤ x17.toInt → l_X5_replay_4_35 n n25 x17 S18 = (f_X5_replay_4 σ n) → (41 - x17.toInt).toNat < n25 → kw_AW l 6 kw_E0 KX mX5_replay (p_X5_replay_4 σ n) 35 [(2, .int x17), (0, .ref 4), (1, .int n)] [] S18 := by
    intro n25
    induction n25 with
    | zero => intro x17 S18 I19 F20 v23 hF m24; exact absurd m24 (Nat.not_lt_zero _)
    | succ n25 ih22 =>
      intro x17 S18 I19 F20 v23 hF m24
      replace hF := kf_st (l_X5_replay_4_35_s _ _ _ _) hF
      have r_x17 := kw_rng x17
      refine kw_iload_n (pc := 35) (i := 21) (k := 0) (n := 2) rfl rfl rfl ?_
      refine kw_iload_n (pc := 36) (i := 22) (k := 2) (n := 1) rfl rfl rfl ?_
      refine kw_icmp_ge (pc := 37) (i := 23) (tgt := 62) rfl rfl (fun c26 => ?_) (fun c26 => ?_)
      · replace hF := kf_nl c26 hF
        exact kw_return (pc := 62) (i := 35) rfl rfl ⟨⟨I19, F20⟩, rfl, hF⟩
      · replace hF := kf_p c26 hF
        refine kw_iload_n (pc := 40) (i := 24) (k := 0) (n := 2) rfl rfl rfl ?_
        refine kw_bipush (pc := 41) (i := 25) (v := 40) rfl rfl ?_
        refine kw_icmp_ge (pc := 43) (i := 26) (tgt := 62) rfl rfl (fun c27 => ?_) (fun c27 => ?_)
        · replace hF := kf_nl c27 hF
          exact kw_return (pc := 62) (i := 35) rfl rfl ⟨⟨I19, F20⟩, rfl, hF⟩
        · replace hF := kf_p c27 hF
          refine kw_aload_n (pc := 46) (i := 27) (k := 1) (n := 0) rfl rfl rfl ?_
          refine kw_aload_n (pc := 47) (i := 28) (k := 1) (n := 0) rfl rfl rfl ?_
          refine kw_get (pc := 48) (i := 29) (v := .ref 18) rfl rfl rfl lkX5_18 (fun _ => rfl) ?_
          refine kw_iload_n (pc := 51) (i := 30) (k := 0) (n := 2) rfl rfl rfl ?_
          refine kw_iald (pc := 52) (i := 31) (n := 40) rfl rfl (by omega) (by omega) (fun z28 e_z28 => ?_)
          replace hF := kf_le e_z28 hF
          have t_z28 := congrArg Int32.toInt e_z28
          have r_z28 := kw_rng z28
          refine kw_callV (pc := 53) (i := 32) (Y := mX5_act) (a := 4) (As := [.int z28]) (st := []) kw_hE rfl rfl lvX5_100 arX5_act (c_X5_act_4 l S18 I19 z28 ) (by decide) (Nat.le_of_ble_eq_true rfl) rfl (fun v S30 p29 => ?_)
          obtain ⟨⟨I32, F33⟩, rfl, ef31⟩ := p29
          have F34 : kw_F [4, 18, 19] σ S30 := kw_F.tr F20 F33 (by decide)
          replace hF := kf_le ef31 hF
          show kw_AW l 6 kw_E0 KX mX5_replay (p_X5_replay_4 σ n) 56 [(2, .int x17), (0, .ref 4), (1, .int n)] [] S30
          refine kw_iinc' (pc := 56) (i := 33) (k := 0) (fun z => [(2, .int z), (0, .ref 4), (1, .int n)]) rfl rfl (by decide) rfl (fun _ => rfl) (fun z35 e_z35 t_z35 => ?_)
          replace hF := kf_le e_z35 hF
          refine kw_goto (pc := 59) (i := 34) (tgt := 35) rfl rfl ?_
          refine kw_sub (lv' := [(2, .int z35), (0, .ref 4), (1, .int n)]) [0, 1, 2] rfl ?_
          exact ih22 z35 S30 I32 F34 (by omega) hF (by omega)
  exact L21 _ 0 (kw_ui (kw_ui (kw_ui (kw_ui (kw_ui S2 4 3 0) 4 4 0) 4 5 0) 4 6 0) 4 7 0) I15 F16 (by omega) hF (Nat.lt_succ_self _)
end
section
noncomputable def l_X2_kindOf_2 (a0 : Int32) (S : kw_S) : Nat → Int32 → Int32
  | 0, _ => 0
  | n + 1, x1 => if x1.toInt < (6 : Int32).toInt then (kf_l (kw_LT x1.toNatClampNeg) fun z1 => if z1.toInt = a0.toInt then (x1) else (kf_l (x1 + Int32.ofInt 1) fun z2 => l_X2_kindOf_2 a0 S n z2)) else (((-1) : Int32))
theorem l_X2_kindOf_2_s (a0 : Int32) (S : kw_S) (n : Nat) (x1 : Int32) : l_X2_kindOf_2 a0 S (n + 1) x1 = if x1.toInt < (6 : Int32).toInt then (kf_l (kw_LT x1.toNatClampNeg) fun z1 => if z1.toInt = a0.toInt then (x1) else (kf_l (x1 + Int32.ofInt 1) fun z2 => l_X2_kindOf_2 a0 S n z2)) else (((-1) : Int32)) := rfl
noncomputable def f_X2_kindOf (σ : kw_S) (c : Int32) : Int32 := l_X2_kindOf_2 c σ ((7 - (0 : Int32).toInt).toNat + 1) (0 : Int32)
theorem f_X2_kindOf_u (σ : kw_S) (c : Int32) : f_X2_kindOf σ c = l_X2_kindOf_2 c σ ((7 - (0 : Int32).toInt).toNat + 1) (0 : Int32) := rfl
abbrev p_X2_kindOf (σ : kw_S) (c : Int32) : Option Value → kw_S → Prop := fun vv σ' => σ' = σ ∧ ∃ r : Int32, vv = some (.int r) ∧ r = f_X2_kindOf σ c
set_option maxRecDepth 100000 in
set_option maxHeartbeats 4000000 in
theorem c_X2_kindOf (l : Launch) (σ : kw_S) (hI : kw_I bX σ) (c : Int32) : kw_Met l 1 KX mX2_kindOf [.int c] σ (p_X2_kindOf σ c) := by
  have r_c := kw_rng c
  have hF := (f_X2_kindOf_u σ c).symm
  have q_m1 : (-1 : Int32).toInt = -1 := rfl
  have q_0 : (0 : Int32).toInt = 0 := rfl
  have q_6 : (6 : Int32).toInt = 6 := rfl
  refine kw_Met.of (by decide) rfl tX2_kindOf (Nat.le_of_ble_eq_true rfl) ?_
  show kw_AW l 1 kw_E0 KX mX2_kindOf (p_X2_kindOf σ c) 0 [(0, .int c)] [] σ
  refine kw_iconst (pc := 0) (i := 0) (v := 0) rfl rfl ?_
  refine kw_istore_n (pc := 1) (i := 1) (n := 1) (lv' := [(1, .int 0), (0, .int c)]) rfl rfl (by decide) rfl ?_
  have L2 : ∀ (n6 : Nat) (x1 : Int32), 0 ≤ x1.toInt → l_X2_kindOf_2 c σ n6 x1 = (f_X2_kindOf σ c) → (7 - x1.toInt).toNat < n6 → kw_AW l 1 kw_E0 KX mX2_kindOf (p_X2_kindOf σ c) 2 [(1, .int x1), (0, .int c)] [] σ := by
    intro n6
    induction n6 with
    | zero => intro x1 v4 hF m5; exact absurd m5 (Nat.not_lt_zero _)
    | succ n6 ih3 =>
      intro x1 v4 hF m5
      replace hF := kf_st (l_X2_kindOf_2_s _ _ _ _) hF
      have r_x1 := kw_rng x1
      refine kw_iload_n (pc := 2) (i := 2) (k := 0) (n := 1) rfl rfl rfl ?_
      refine kw_bipush (pc := 3) (i := 3) (v := 6) rfl rfl ?_
      refine kw_icmp_ge (pc := 5) (i := 4) (tgt := 25) rfl rfl (fun c7 => ?_) (fun c7 => ?_)
      · replace hF := kf_nl c7 hF
        refine kw_iconst (pc := 25) (i := 14) (v := (-1)) rfl rfl ?_
        exact kw_ireturn (pc := 26) (i := 15) (ty := .int) rfl rfl rfl ⟨rfl, _, rfl, hF⟩
      · replace hF := kf_p c7 hF
        refine kw_getsL (pc := 8) (i := 5) rfl ⟨rfl, rfl⟩ ?_
        refine kw_iload_n (pc := 11) (i := 6) (k := 0) (n := 1) rfl rfl rfl ?_
        refine kw_tld (pc := 12) (i := 7) (k := 0) (n := 6) rfl rfl (by omega) (by omega) (fun z8 e_z8 => ?_)
        have r_z8 := kw_rng z8
        replace hF := kf_le e_z8 hF
        refine kw_iload_n (pc := 13) (i := 8) (k := 1) (n := 0) rfl rfl rfl ?_
        refine kw_icmp_ne (pc := 14) (i := 9) (tgt := 19) rfl rfl (fun c9 => ?_) (fun c9 => ?_)
        · replace hF := kf_n c9 hF
          refine kw_iinc' (pc := 19) (i := 12) (k := 0) (fun z => [(1, .int z), (0, .int c)]) rfl rfl (by decide) rfl (fun _ => rfl) (fun z10 e_z10 t_z10 => ?_)
          replace hF := kf_le e_z10 hF
          refine kw_goto (pc := 22) (i := 13) (tgt := 2) rfl rfl ?_
          refine kw_sub (lv' := [(1, .int z10), (0, .int c)]) [0, 1] rfl ?_
          exact ih3 z10 (by omega) hF (by omega)
        · replace hF := kf_p c9 hF
          refine kw_iload_n (pc := 17) (i := 10) (k := 0) (n := 1) rfl rfl rfl ?_
          exact kw_ireturn (pc := 18) (i := 11) (ty := .int) rfl rfl rfl ⟨rfl, _, rfl, hF⟩
  exact L2 _ 0 (by omega) hF (Nat.lt_succ_self _)
noncomputable def f_X2_readFigure_3_2 (σ : kw_S) (t : Int32) (lo : Int32) (hi : Int32) : Int32 × kw_S := kf_l (f_X3_valueAt_2 σ t (σ.1 3 1)) fun z1 => kf_l (z1 - (48 : Int32)) fun z2 => if z2.toInt < lo.toInt then ((((-1) : Int32), σ)) else (if hi.toInt < z2.toInt then ((((-1) : Int32), σ)) else (kf_l ((σ.1 3 1) + (1 : Int32)) fun z3 => (z2, kw_ui σ 3 1 z3)))
theorem f_X2_readFigure_3_2_u (σ : kw_S) (t : Int32) (lo : Int32) (hi : Int32) : f_X2_readFigure_3_2 σ t lo hi = kf_l (f_X3_valueAt_2 σ t (σ.1 3 1)) fun z1 => kf_l (z1 - (48 : Int32)) fun z2 => if z2.toInt < lo.toInt then ((((-1) : Int32), σ)) else (if hi.toInt < z2.toInt then ((((-1) : Int32), σ)) else (kf_l ((σ.1 3 1) + (1 : Int32)) fun z3 => (z2, kw_ui σ 3 1 z3))) := rfl
abbrev p_X2_readFigure_3_2 (σ : kw_S) (t : Int32) (lo : Int32) (hi : Int32) : Option Value → kw_S → Prop := fun vv σ' => (kw_I bX σ' ∧ kw_F [3] σ σ') ∧ ∃ r : Int32, vv = some (.int r) ∧ (r, σ') = f_X2_readFigure_3_2 σ t lo hi
set_option maxRecDepth 100000 in
set_option maxHeartbeats 4000000 in
theorem c_X2_readFigure_3_2 (l : Launch) (σ : kw_S) (hI : kw_I bX σ) (t : Int32) (lo : Int32) (hi : Int32) : kw_Met l 4 KX mX2_readFigure [.ref 3, .ref 2, .int t, .int lo, .int hi] σ (p_X2_readFigure_3_2 σ t lo hi) := by
  have r_t := kw_rng t
  have r_lo := kw_rng lo
  have r_hi := kw_rng hi
  have hF0 : kw_F [3] σ σ := kw_F.rf
  have hF := (f_X2_readFigure_3_2_u σ t lo hi).symm
  have q_m1 : (-1 : Int32).toInt = -1 := rfl
  have q_1 : (1 : Int32).toInt = 1 := rfl
  have q_48 : (48 : Int32).toInt = 48 := rfl
  refine kw_Met.of (by decide) rfl tX2_readFigure (Nat.le_of_ble_eq_true rfl) ?_
  show kw_AW l 4 kw_E0 KX mX2_readFigure (p_X2_readFigure_3_2 σ t lo hi) 0 [(0, .ref 3), (1, .ref 2), (2, .int t), (3, .int lo), (4, .int hi)] [] σ
  refine kw_aload_n (pc := 0) (i := 0) (k := 1) (n := 1) rfl rfl rfl ?_
  refine kw_iload_n (pc := 1) (i := 1) (k := 2) (n := 2) rfl rfl rfl ?_
  refine kw_aload_n (pc := 2) (i := 2) (k := 0) (n := 0) rfl rfl rfl ?_
  refine kw_get (pc := 3) (i := 3) (v := .int (σ.1 3 1)) rfl rfl rfl lkX2_25 (fun _ => rfl) ?_
  have b1 := kw_rng (σ.1 3 1)
  refine kw_callV (pc := 6) (i := 4) (Y := mX3_valueAt) (a := 2) (As := [.int t, .int (σ.1 3 1)]) (st := []) kw_hE rfl rfl lvX2_32 arX3_valueAt (c_X3_valueAt_2 l σ hI t (σ.1 3 1) ) (by decide) (Nat.le_of_ble_eq_true rfl) rfl (fun v S3 p2 => ?_)
  obtain ⟨e6, z5, rfl, ef4⟩ := p2
  rw [e6]
  replace hF := kf_le ef4 hF
  have r_z5 := kw_rng z5
  show kw_AW l 4 kw_E0 KX mX2_readFigure (p_X2_readFigure_3_2 σ t lo hi) 9 [(0, .ref 3), (1, .ref 2), (2, .int t), (3, .int lo), (4, .int hi)] [.int z5] σ
  refine kw_bipush (pc := 9) (i := 5) (v := 48) rfl rfl ?_
  refine kw_isub (pc := 11) (i := 6) rfl (fun z7 e_z7 t_z7 => ?_)
  replace hF := kf_le e_z7 hF
  refine kw_istore (pc := 12) (i := 7) (n := 5) (lv' := [(5, .int z7), (0, .ref 3), (1, .ref 2), (2, .int t), (3, .int lo), (4, .int hi)]) rfl (by decide) rfl ?_
  refine kw_iload (pc := 14) (i := 8) (k := 0) (n := 5) rfl rfl ?_
  refine kw_iload_n (pc := 16) (i := 9) (k := 4) (n := 3) rfl rfl rfl ?_
  refine kw_icmp_lt (pc := 17) (i := 10) (tgt := 27) rfl rfl (fun c8 => ?_) (fun c8 => ?_)
  · replace hF := kf_p c8 hF
    refine kw_iconst (pc := 27) (i := 14) (v := (-1)) rfl rfl ?_
    exact kw_ireturn (pc := 28) (i := 15) (ty := .int) rfl rfl rfl ⟨⟨hI, hF0⟩, _, rfl, hF⟩
  · replace hF := kf_nl c8 hF
    refine kw_iload (pc := 20) (i := 11) (k := 0) (n := 5) rfl rfl ?_
    refine kw_iload (pc := 22) (i := 12) (k := 5) (n := 4) rfl rfl ?_
    refine kw_icmp_le (pc := 24) (i := 13) (tgt := 29) rfl rfl (fun c9 => ?_) (fun c9 => ?_)
    · replace hF := kf_nl c9 hF
      refine kw_aload_n (pc := 29) (i := 16) (k := 1) (n := 0) rfl rfl rfl ?_
      refine kw_dup (pc := 30) (i := 17) rfl rfl ?_
      refine kw_get (pc := 31) (i := 18) (v := .int (σ.1 3 1)) rfl rfl rfl lkX2_25 (fun _ => rfl) ?_
      refine kw_iconst (pc := 34) (i := 19) (v := 1) rfl rfl ?_
      refine kw_iadd (pc := 35) (i := 20) rfl (fun z10 e_z10 t_z10 => ?_)
      replace hF := kf_le e_z10 hF
      refine kw_puti (pc := 36) (i := 21) (z := 0) rfl rfl rfl lpX2_25 rfl rfl ?_
      have I11 : kw_I bX (kw_ui σ 3 1 z10) := kw_I_ui hI (kw_rng z10).1 (Int.le_of_lt_add_one (kw_rng z10).2)
      have F12 : kw_F [3] σ (kw_ui σ 3 1 z10) := kw_F_ui hF0 (by decide)
      refine kw_iload (pc := 39) (i := 22) (k := 0) (n := 5) rfl rfl ?_
      exact kw_ireturn (pc := 41) (i := 23) (ty := .int) rfl rfl rfl ⟨⟨I11, F12⟩, _, rfl, hF⟩
    · replace hF := kf_p c9 hF
      refine kw_iconst (pc := 27) (i := 14) (v := (-1)) rfl rfl ?_
      exact kw_ireturn (pc := 28) (i := 15) (ty := .int) rfl rfl rfl ⟨⟨hI, hF0⟩, _, rfl, hF⟩
noncomputable def l_X2_skipBlanks_3_2_2 (a2 : Int32) : Nat → Int32 → kw_S → kw_S
  | 0, _, S => S
  | n + 1, x3, S => if x3.toInt < (60 : Int32).toInt then (kf_l (f_X3_valueAt_2 S a2 (S.1 3 1)) fun z1 => if z1.toInt = (32 : Int32).toInt then (kf_l ((S.1 3 1) + (1 : Int32)) fun z2 => kf_l (x3 + Int32.ofInt 1) fun z3 => l_X2_skipBlanks_3_2_2 a2 n z3 (kw_ui S 3 1 z2)) else (S)) else (S)
theorem l_X2_skipBlanks_3_2_2_s (a2 : Int32) (n : Nat) (x3 : Int32) (S : kw_S) : l_X2_skipBlanks_3_2_2 a2 (n + 1) x3 S = if x3.toInt < (60 : Int32).toInt then (kf_l (f_X3_valueAt_2 S a2 (S.1 3 1)) fun z1 => if z1.toInt = (32 : Int32).toInt then (kf_l ((S.1 3 1) + (1 : Int32)) fun z2 => kf_l (x3 + Int32.ofInt 1) fun z3 => l_X2_skipBlanks_3_2_2 a2 n z3 (kw_ui S 3 1 z2)) else (S)) else (S) := rfl
noncomputable def f_X2_skipBlanks_3_2 (σ : kw_S) (t : Int32) : kw_S := l_X2_skipBlanks_3_2_2 t ((61 - (0 : Int32).toInt).toNat + 1) (0 : Int32) σ
theorem f_X2_skipBlanks_3_2_u (σ : kw_S) (t : Int32) : f_X2_skipBlanks_3_2 σ t = l_X2_skipBlanks_3_2_2 t ((61 - (0 : Int32).toInt).toNat + 1) (0 : Int32) σ := rfl
abbrev p_X2_skipBlanks_3_2 (σ : kw_S) (t : Int32) : Option Value → kw_S → Prop := fun vv σ' => (kw_I bX σ' ∧ kw_F [3] σ σ') ∧ vv = none ∧ σ' = f_X2_skipBlanks_3_2 σ t
set_option maxRecDepth 100000 in
set_option maxHeartbeats 4000000 in
theorem c_X2_skipBlanks_3_2 (l : Launch) (σ : kw_S) (hI : kw_I bX σ) (t : Int32) : kw_Met l 4 KX mX2_skipBlanks [.ref 3, .ref 2, .int t] σ (p_X2_skipBlanks_3_2 σ t) := by
  have r_t := kw_rng t
  have hF0 : kw_F [3] σ σ := kw_F.rf
  have hF := (f_X2_skipBlanks_3_2_u σ t).symm
  have q_0 : (0 : Int32).toInt = 0 := rfl
  have q_1 : (1 : Int32).toInt = 1 := rfl
  have q_32 : (32 : Int32).toInt = 32 := rfl
  have q_60 : (60 : Int32).toInt = 60 := rfl
  refine kw_Met.of (by decide) rfl tX2_skipBlanks (Nat.le_of_ble_eq_true rfl) ?_
  show kw_AW l 4 kw_E0 KX mX2_skipBlanks (p_X2_skipBlanks_3_2 σ t) 0 [(0, .ref 3), (1, .ref 2), (2, .int t)] [] σ
  refine kw_iconst (pc := 0) (i := 0) (v := 0) rfl rfl ?_
  refine kw_istore_n (pc := 1) (i := 1) (n := 3) (lv' := [(3, .int 0), (0, .ref 3), (1, .ref 2), (2, .int t)]) rfl rfl (by decide) rfl ?_
  have L5 : ∀ (n9 : Nat) (x1 : Int32) (S2 : kw_S), kw_I bX S2 → kw_F [3] σ S2 → 0 ≤ x1.toInt → l_X2_skipBlanks_3_2_2 t n9 x1 S2 = (f_X2_skipBlanks_3_2 σ t) → (61 - x1.toInt).toNat < n9 → kw_AW l 4 kw_E0 KX mX2_skipBlanks (p_X2_skipBlanks_3_2 σ t) 2 [(3, .int x1), (0, .ref 3), (1, .ref 2), (2, .int t)] [] S2 := by
    intro n9
    induction n9 with
    | zero => intro x1 S2 I3 F4 v7 hF m8; exact absurd m8 (Nat.not_lt_zero _)
    | succ n9 ih6 =>
      intro x1 S2 I3 F4 v7 hF m8
      replace hF := kf_st (l_X2_skipBlanks_3_2_2_s _ _ _ _) hF
      have r_x1 := kw_rng x1
      refine kw_iload_n (pc := 2) (i := 2) (k := 0) (n := 3) rfl rfl rfl ?_
      refine kw_bipush (pc := 3) (i := 3) (v := 60) rfl rfl ?_
      refine kw_icmp_ge (pc := 5) (i := 4) (tgt := 38) rfl rfl (fun c10 => ?_) (fun c10 => ?_)
      · replace hF := kf_nl c10 hF
        exact kw_return (pc := 38) (i := 20) rfl rfl ⟨⟨I3, F4⟩, rfl, hF⟩
      · replace hF := kf_p c10 hF
        refine kw_aload_n (pc := 8) (i := 5) (k := 2) (n := 1) rfl rfl rfl ?_
        refine kw_iload_n (pc := 9) (i := 6) (k := 3) (n := 2) rfl rfl rfl ?_
        refine kw_aload_n (pc := 10) (i := 7) (k := 1) (n := 0) rfl rfl rfl ?_
        refine kw_get (pc := 11) (i := 8) (v := .int (S2.1 3 1)) rfl rfl rfl lkX2_25 (fun _ => rfl) ?_
        have b11 := kw_rng (S2.1 3 1)
        refine kw_callV (pc := 14) (i := 9) (Y := mX3_valueAt) (a := 2) (As := [.int t, .int (S2.1 3 1)]) (st := []) kw_hE rfl rfl lvX2_32 arX3_valueAt (c_X3_valueAt_2 l S2 I3 t (S2.1 3 1) ) (by decide) (Nat.le_of_ble_eq_true rfl) rfl (fun v S13 p12 => ?_)
        obtain ⟨e16, z15, rfl, ef14⟩ := p12
        rw [e16]
        replace hF := kf_le ef14 hF
        have r_z15 := kw_rng z15
        show kw_AW l 4 kw_E0 KX mX2_skipBlanks (p_X2_skipBlanks_3_2 σ t) 17 [(3, .int x1), (0, .ref 3), (1, .ref 2), (2, .int t)] [.int z15] S2
        refine kw_bipush (pc := 17) (i := 10) (v := 32) rfl rfl ?_
        refine kw_icmp_ne (pc := 19) (i := 11) (tgt := 38) rfl rfl (fun c17 => ?_) (fun c17 => ?_)
        · replace hF := kf_n c17 hF
          exact kw_return (pc := 38) (i := 20) rfl rfl ⟨⟨I3, F4⟩, rfl, hF⟩
        · replace hF := kf_p c17 hF
          refine kw_aload_n (pc := 22) (i := 12) (k := 1) (n := 0) rfl rfl rfl ?_
          refine kw_dup (pc := 23) (i := 13) rfl rfl ?_
          refine kw_get (pc := 24) (i := 14) (v := .int (S2.1 3 1)) rfl rfl rfl lkX2_25 (fun _ => rfl) ?_
          refine kw_iconst (pc := 27) (i := 15) (v := 1) rfl rfl ?_
          refine kw_iadd (pc := 28) (i := 16) rfl (fun z18 e_z18 t_z18 => ?_)
          replace hF := kf_le e_z18 hF
          refine kw_puti (pc := 29) (i := 17) (z := 0) rfl rfl rfl lpX2_25 rfl rfl ?_
          have I19 : kw_I bX (kw_ui S2 3 1 z18) := kw_I_ui I3 (kw_rng z18).1 (Int.le_of_lt_add_one (kw_rng z18).2)
          have F20 : kw_F [3] σ (kw_ui S2 3 1 z18) := kw_F_ui F4 (by decide)
          refine kw_iinc' (pc := 32) (i := 18) (k := 0) (fun z => [(3, .int z), (0, .ref 3), (1, .ref 2), (2, .int t)]) rfl rfl (by decide) rfl (fun _ => rfl) (fun z21 e_z21 t_z21 => ?_)
          replace hF := kf_le e_z21 hF
          refine kw_goto (pc := 35) (i := 19) (tgt := 2) rfl rfl ?_
          refine kw_sub (lv' := [(3, .int z21), (0, .ref 3), (1, .ref 2), (2, .int t)]) [0, 1, 2, 3] rfl ?_
          exact ih6 z21 (kw_ui S2 3 1 z18) I19 F20 (by omega) hF (by omega)
  exact L5 _ 0 σ hI hF0 (by omega) hF (Nat.lt_succ_self _)
noncomputable def l_X2_readWinds_3_2_2 (a2 : Int32) : Nat → Int32 → kw_S → kw_S
  | 0, _, S => S
  | n + 1, x3, S => if x3.toInt < (8 : Int32).toInt then (kf_l (f_X3_valueAt_2 S a2 (S.1 3 1)) fun z1 => kf_l (z1 - (48 : Int32)) fun z2 => if z2.toInt < 0 then (S) else (if (5 : Int32).toInt < z2.toInt then (S) else (kf_l (x3 + (1 : Int32)) fun z3 => kf_l ((S.1 3 1) + (1 : Int32)) fun z4 => kf_l (x3 + Int32.ofInt 1) fun z5 => l_X2_readWinds_3_2_2 a2 n z5 (kw_ui (kw_ui (kw_ui S 43 x3.toNatClampNeg z2) 16 6 z3) 3 1 z4)))) else (S)
theorem l_X2_readWinds_3_2_2_s (a2 : Int32) (n : Nat) (x3 : Int32) (S : kw_S) : l_X2_readWinds_3_2_2 a2 (n + 1) x3 S = if x3.toInt < (8 : Int32).toInt then (kf_l (f_X3_valueAt_2 S a2 (S.1 3 1)) fun z1 => kf_l (z1 - (48 : Int32)) fun z2 => if z2.toInt < 0 then (S) else (if (5 : Int32).toInt < z2.toInt then (S) else (kf_l (x3 + (1 : Int32)) fun z3 => kf_l ((S.1 3 1) + (1 : Int32)) fun z4 => kf_l (x3 + Int32.ofInt 1) fun z5 => l_X2_readWinds_3_2_2 a2 n z5 (kw_ui (kw_ui (kw_ui S 43 x3.toNatClampNeg z2) 16 6 z3) 3 1 z4)))) else (S) := rfl
noncomputable def f_X2_readWinds_3_2 (σ : kw_S) (t : Int32) : kw_S := l_X2_readWinds_3_2_2 t ((9 - (0 : Int32).toInt).toNat + 1) (0 : Int32) σ
theorem f_X2_readWinds_3_2_u (σ : kw_S) (t : Int32) : f_X2_readWinds_3_2 σ t = l_X2_readWinds_3_2_2 t ((9 - (0 : Int32).toInt).toNat + 1) (0 : Int32) σ := rfl
abbrev p_X2_readWinds_3_2 (σ : kw_S) (t : Int32) : Option Value → kw_S → Prop := fun vv σ' => (kw_I bX σ' ∧ kw_F [3, 16, 43] σ σ') ∧ vv = none ∧ σ' = f_X2_readWinds_3_2 σ t
set_option maxRecDepth 100000 in
set_option maxHeartbeats 4000000 in
theorem c_X2_readWinds_3_2 (l : Launch) (σ : kw_S) (hI : kw_I bX σ) (t : Int32) : kw_Met l 4 KX mX2_readWinds [.ref 3, .ref 2, .int t] σ (p_X2_readWinds_3_2 σ t) := by
  have r_t := kw_rng t
  have hF0 : kw_F [3, 16, 43] σ σ := kw_F.rf
  have hF := (f_X2_readWinds_3_2_u σ t).symm
  have q_0 : (0 : Int32).toInt = 0 := rfl
  have q_1 : (1 : Int32).toInt = 1 := rfl
  have q_5 : (5 : Int32).toInt = 5 := rfl
  have q_8 : (8 : Int32).toInt = 8 := rfl
  have q_48 : (48 : Int32).toInt = 48 := rfl
  refine kw_Met.of (by decide) rfl tX2_readWinds (Nat.le_of_ble_eq_true rfl) ?_
  show kw_AW l 4 kw_E0 KX mX2_readWinds (p_X2_readWinds_3_2 σ t) 0 [(0, .ref 3), (1, .ref 2), (2, .int t)] [] σ
  refine kw_iconst (pc := 0) (i := 0) (v := 0) rfl rfl ?_
  refine kw_istore_n (pc := 1) (i := 1) (n := 3) (lv' := [(3, .int 0), (0, .ref 3), (1, .ref 2), (2, .int t)]) rfl rfl (by decide) rfl ?_
  have L5 : ∀ (n9 : Nat) (x1 : Int32) (S2 : kw_S), kw_I bX S2 → kw_F [3, 16, 43] σ S2 → 0 ≤ x1.toInt → l_X2_readWinds_3_2_2 t n9 x1 S2 = (f_X2_readWinds_3_2 σ t) → (9 - x1.toInt).toNat < n9 → kw_AW l 4 kw_E0 KX mX2_readWinds (p_X2_readWinds_3_2 σ t) 2 [(3, .int x1), (0, .ref 3), (1, .ref 2), (2, .int t)] [] S2 := by
    intro n9
    induction n9 with
    | zero => intro x1 S2 I3 F4 v7 hF m8; exact absurd m8 (Nat.not_lt_zero _)
    | succ n9 ih6 =>
      intro x1 S2 I3 F4 v7 hF m8
      replace hF := kf_st (l_X2_readWinds_3_2_2_s _ _ _ _) hF
      have r_x1 := kw_rng x1
      refine kw_iload_n (pc := 2) (i := 2) (k := 0) (n := 3) rfl rfl rfl ?_
      refine kw_bipush (pc := 3) (i := 3) (v := 8) rfl rfl ?_
      refine kw_icmp_ge (pc := 5) (i := 4) (tgt := 71) rfl rfl (fun c10 => ?_) (fun c10 => ?_)
      · replace hF := kf_nl c10 hF
        exact kw_return (pc := 71) (i := 39) rfl rfl ⟨⟨I3, F4⟩, rfl, hF⟩
      · replace hF := kf_p c10 hF
        refine kw_aload_n (pc := 8) (i := 5) (k := 2) (n := 1) rfl rfl rfl ?_
        refine kw_iload_n (pc := 9) (i := 6) (k := 3) (n := 2) rfl rfl rfl ?_
        refine kw_aload_n (pc := 10) (i := 7) (k := 1) (n := 0) rfl rfl rfl ?_
        refine kw_get (pc := 11) (i := 8) (v := .int (S2.1 3 1)) rfl rfl rfl lkX2_25 (fun _ => rfl) ?_
        have b11 := kw_rng (S2.1 3 1)
        refine kw_callV (pc := 14) (i := 9) (Y := mX3_valueAt) (a := 2) (As := [.int t, .int (S2.1 3 1)]) (st := []) kw_hE rfl rfl lvX2_32 arX3_valueAt (c_X3_valueAt_2 l S2 I3 t (S2.1 3 1) ) (by decide) (Nat.le_of_ble_eq_true rfl) rfl (fun v S13 p12 => ?_)
        obtain ⟨e16, z15, rfl, ef14⟩ := p12
        rw [e16]
        replace hF := kf_le ef14 hF
        have r_z15 := kw_rng z15
        show kw_AW l 4 kw_E0 KX mX2_readWinds (p_X2_readWinds_3_2 σ t) 17 [(3, .int x1), (0, .ref 3), (1, .ref 2), (2, .int t)] [.int z15] S2
        refine kw_bipush (pc := 17) (i := 10) (v := 48) rfl rfl ?_
        refine kw_isub (pc := 19) (i := 11) rfl (fun z17 e_z17 t_z17 => ?_)
        replace hF := kf_le e_z17 hF
        refine kw_istore (pc := 20) (i := 12) (n := 4) (lv' := [(4, .int z17), (3, .int x1), (0, .ref 3), (1, .ref 2), (2, .int t)]) rfl (by decide) rfl ?_
        refine kw_iload (pc := 22) (i := 13) (k := 0) (n := 4) rfl rfl ?_
        refine kw_if_lt (pc := 24) (i := 14) (tgt := 33) rfl rfl (fun c18 => ?_) (fun c18 => ?_)
        · replace hF := kf_p c18 hF
          exact kw_return (pc := 33) (i := 18) rfl rfl ⟨⟨I3, F4⟩, rfl, hF⟩
        · replace hF := kf_nl c18 hF
          refine kw_iload (pc := 27) (i := 15) (k := 0) (n := 4) rfl rfl ?_
          refine kw_iconst (pc := 29) (i := 16) (v := 5) rfl rfl ?_
          refine kw_icmp_le (pc := 30) (i := 17) (tgt := 34) rfl rfl (fun c19 => ?_) (fun c19 => ?_)
          · replace hF := kf_nl c19 hF
            refine kw_aload_n (pc := 34) (i := 19) (k := 2) (n := 0) rfl rfl rfl ?_
            refine kw_get (pc := 35) (i := 20) (v := .ref 16) rfl rfl rfl lkX2_12 (fun _ => rfl) ?_
            refine kw_get (pc := 38) (i := 21) (v := .ref 43) rfl rfl rfl lkX2_49 (fun _ => rfl) ?_
            refine kw_iload_n (pc := 41) (i := 22) (k := 1) (n := 3) rfl rfl rfl ?_
            refine kw_iload (pc := 42) (i := 23) (k := 0) (n := 4) rfl rfl ?_
            refine kw_iast (pc := 44) (i := 24) (n := 8) rfl rfl (by omega) (by omega) ?_
            have I20 : kw_I bX (kw_ui S2 43 x1.toNatClampNeg z17) := kw_I_ui I3 (kw_rng z17).1 (Int.le_of_lt_add_one (kw_rng z17).2)
            have F21 : kw_F [3, 16, 43] σ (kw_ui S2 43 x1.toNatClampNeg z17) := kw_F_ui F4 (by decide)
            refine kw_aload_n (pc := 45) (i := 25) (k := 2) (n := 0) rfl rfl rfl ?_
            refine kw_get (pc := 46) (i := 26) (v := .ref 16) rfl rfl rfl lkX2_12 (fun _ => rfl) ?_
            refine kw_iload_n (pc := 49) (i := 27) (k := 1) (n := 3) rfl rfl rfl ?_
            refine kw_iconst (pc := 50) (i := 28) (v := 1) rfl rfl ?_
            refine kw_iadd (pc := 51) (i := 29) rfl (fun z22 e_z22 t_z22 => ?_)
            replace hF := kf_le e_z22 hF
            refine kw_puti (pc := 52) (i := 30) (z := 0) rfl rfl rfl lpX2_22 rfl rfl ?_
            have I23 : kw_I bX (kw_ui (kw_ui S2 43 x1.toNatClampNeg z17) 16 6 z22) := kw_I_ui I20 (show 0 ≤ z22.toInt by omega) (show z22.toInt ≤ 8 by omega)
            have F24 : kw_F [3, 16, 43] σ (kw_ui (kw_ui S2 43 x1.toNatClampNeg z17) 16 6 z22) := kw_F_ui F21 (by decide)
            refine kw_aload_n (pc := 55) (i := 31) (k := 2) (n := 0) rfl rfl rfl ?_
            refine kw_dup (pc := 56) (i := 32) rfl rfl ?_
            refine kw_get (pc := 57) (i := 33) (v := .int (S2.1 3 1)) rfl rfl rfl lkX2_25 (fun _ => rfl) ?_
            refine kw_iconst (pc := 60) (i := 34) (v := 1) rfl rfl ?_
            refine kw_iadd (pc := 61) (i := 35) rfl (fun z25 e_z25 t_z25 => ?_)
            replace hF := kf_le e_z25 hF
            refine kw_puti (pc := 62) (i := 36) (z := 0) rfl rfl rfl lpX2_25 rfl rfl ?_
            have I26 : kw_I bX (kw_ui (kw_ui (kw_ui S2 43 x1.toNatClampNeg z17) 16 6 z22) 3 1 z25) := kw_I_ui I23 (kw_rng z25).1 (Int.le_of_lt_add_one (kw_rng z25).2)
            have F27 : kw_F [3, 16, 43] σ (kw_ui (kw_ui (kw_ui S2 43 x1.toNatClampNeg z17) 16 6 z22) 3 1 z25) := kw_F_ui F24 (by decide)
            refine kw_iinc' (pc := 65) (i := 37) (k := 1) (fun z => [(3, .int z), (4, .int z17), (0, .ref 3), (1, .ref 2), (2, .int t)]) rfl rfl (by decide) rfl (fun _ => rfl) (fun z28 e_z28 t_z28 => ?_)
            replace hF := kf_le e_z28 hF
            refine kw_goto (pc := 68) (i := 38) (tgt := 2) rfl rfl ?_
            refine kw_sub (lv' := [(3, .int z28), (0, .ref 3), (1, .ref 2), (2, .int t)]) [0, 2, 3, 4] rfl ?_
            exact ih6 z28 (kw_ui (kw_ui (kw_ui S2 43 x1.toNatClampNeg z17) 16 6 z22) 3 1 z25) I26 F27 (by omega) hF (by omega)
          · replace hF := kf_p c19 hF
            exact kw_return (pc := 33) (i := 18) rfl rfl ⟨⟨I3, F4⟩, rfl, hF⟩
  exact L5 _ 0 σ hI hF0 (by omega) hF (Nat.lt_succ_self _)
noncomputable def f_X2_readLine_3_2 (σ : kw_S) (t : Int32) : Int32 × kw_S := kf_l (f_X3_valueAt_2 σ t (σ.1 3 1)) fun z1 => kf_l (f_X2_kindOf σ z1) fun z2 => if (σ.1 16 5).toInt < 0 then (((0 : Int32), σ)) else (if (σ.1 16 5).toInt < (6 : Int32).toInt then (if z2.toInt < 0 then (((0 : Int32), σ)) else (kf_l ((σ.1 3 1) + (1 : Int32)) fun z3 => kf_b (f_X2_readFigure_3_2 (kw_ui (kw_ui σ 3 1 z3) 39 (σ.1 16 5).toNatClampNeg z2) t (0 : Int32) (8 : Int32)) fun z4 S5 => kf_l (z4 - (4 : Int32)) fun z6 => kf_l ((kw_ui S5 40 (σ.1 16 5).toNatClampNeg z6).1 40 (σ.1 16 5).toNatClampNeg) fun z7 => if z7.toInt < ((-4) : Int32).toInt then (((0 : Int32), kw_ui S5 40 (σ.1 16 5).toNatClampNeg z6)) else (kf_b (f_X2_readFigure_3_2 (kw_ui S5 40 (σ.1 16 5).toNatClampNeg z6) t (1 : Int32) (9 : Int32)) fun z8 S9 => kf_l ((kw_ui S9 41 (σ.1 16 5).toNatClampNeg z8).1 41 (σ.1 16 5).toNatClampNeg) fun z10 => if z10.toInt < 0 then (((0 : Int32), kw_ui S9 41 (σ.1 16 5).toNatClampNeg z8)) else (kf_b (f_X2_readFigure_3_2 (kw_ui S9 41 (σ.1 16 5).toNatClampNeg z8) t (0 : Int32) (9 : Int32)) fun z11 S12 => kf_l ((kw_ui S12 42 (σ.1 16 5).toNatClampNeg z11).1 42 (σ.1 16 5).toNatClampNeg) fun z13 => if z13.toInt < 0 then (((0 : Int32), kw_ui S12 42 (σ.1 16 5).toNatClampNeg z11)) else (kf_l ((σ.1 16 5) + (1 : Int32)) fun z14 => ((1 : Int32), kw_ui (kw_ui S12 42 (σ.1 16 5).toNatClampNeg z11) 16 5 z14)))))) else (((0 : Int32), σ)))
theorem f_X2_readLine_3_2_u (σ : kw_S) (t : Int32) : f_X2_readLine_3_2 σ t = kf_l (f_X3_valueAt_2 σ t (σ.1 3 1)) fun z1 => kf_l (f_X2_kindOf σ z1) fun z2 => if (σ.1 16 5).toInt < 0 then (((0 : Int32), σ)) else (if (σ.1 16 5).toInt < (6 : Int32).toInt then (if z2.toInt < 0 then (((0 : Int32), σ)) else (kf_l ((σ.1 3 1) + (1 : Int32)) fun z3 => kf_b (f_X2_readFigure_3_2 (kw_ui (kw_ui σ 3 1 z3) 39 (σ.1 16 5).toNatClampNeg z2) t (0 : Int32) (8 : Int32)) fun z4 S5 => kf_l (z4 - (4 : Int32)) fun z6 => kf_l ((kw_ui S5 40 (σ.1 16 5).toNatClampNeg z6).1 40 (σ.1 16 5).toNatClampNeg) fun z7 => if z7.toInt < ((-4) : Int32).toInt then (((0 : Int32), kw_ui S5 40 (σ.1 16 5).toNatClampNeg z6)) else (kf_b (f_X2_readFigure_3_2 (kw_ui S5 40 (σ.1 16 5).toNatClampNeg z6) t (1 : Int32) (9 : Int32)) fun z8 S9 => kf_l ((kw_ui S9 41 (σ.1 16 5).toNatClampNeg z8).1 41 (σ.1 16 5).toNatClampNeg) fun z10 => if z10.toInt < 0 then (((0 : Int32), kw_ui S9 41 (σ.1 16 5).toNatClampNeg z8)) else (kf_b (f_X2_readFigure_3_2 (kw_ui S9 41 (σ.1 16 5).toNatClampNeg z8) t (0 : Int32) (9 : Int32)) fun z11 S12 => kf_l ((kw_ui S12 42 (σ.1 16 5).toNatClampNeg z11).1 42 (σ.1 16 5).toNatClampNeg) fun z13 => if z13.toInt < 0 then (((0 : Int32), kw_ui S12 42 (σ.1 16 5).toNatClampNeg z11)) else (kf_l ((σ.1 16 5) + (1 : Int32)) fun z14 => ((1 : Int32), kw_ui (kw_ui S12 42 (σ.1 16 5).toNatClampNeg z11) 16 5 z14)))))) else (((0 : Int32), σ))) := rfl
abbrev p_X2_readLine_3_2 (σ : kw_S) (t : Int32) : Option Value → kw_S → Prop := fun vv σ' => (kw_I bX σ' ∧ kw_F [3, 16, 39, 40, 41, 42] σ σ') ∧ ∃ r : Int32, vv = some (.int r) ∧ (r.toInt = 0 ∨ r.toInt = 1) ∧ (r, σ') = f_X2_readLine_3_2 σ t
set_option maxRecDepth 100000 in
set_option maxHeartbeats 4000000 in
theorem c_X2_readLine_3_2 (l : Launch) (σ : kw_S) (hI : kw_I bX σ) (t : Int32) : kw_Met l 5 KX mX2_readLine [.ref 3, .ref 2, .int t] σ (p_X2_readLine_3_2 σ t) := by
  have r_t := kw_rng t
  have hF0 : kw_F [3, 16, 39, 40, 41, 42] σ σ := kw_F.rf
  have hF := (f_X2_readLine_3_2_u σ t).symm
  have q_m4 : (-4 : Int32).toInt = -4 := rfl
  have q_0 : (0 : Int32).toInt = 0 := rfl
  have q_1 : (1 : Int32).toInt = 1 := rfl
  have q_4 : (4 : Int32).toInt = 4 := rfl
  have q_6 : (6 : Int32).toInt = 6 := rfl
  have q_8 : (8 : Int32).toInt = 8 := rfl
  have q_9 : (9 : Int32).toInt = 9 := rfl
  refine kw_Met.of (by decide) rfl tX2_readLine (Nat.le_of_ble_eq_true rfl) ?_
  show kw_AW l 5 kw_E0 KX mX2_readLine (p_X2_readLine_3_2 σ t) 0 [(0, .ref 3), (1, .ref 2), (2, .int t)] [] σ
  refine kw_aload_n (pc := 0) (i := 0) (k := 0) (n := 0) rfl rfl rfl ?_
  refine kw_get (pc := 1) (i := 1) (v := .ref 16) rfl rfl rfl lkX2_12 (fun _ => rfl) ?_
  refine kw_get (pc := 4) (i := 2) (v := .int (σ.1 16 5)) rfl rfl rfl lkX2_18 (fun _ => rfl) ?_
  have b1 : 0 ≤ (σ.1 16 5).toInt ∧ (σ.1 16 5).toInt ≤ 6 := hI 16 5
  refine kw_istore_n (pc := 7) (i := 3) (n := 3) (lv' := [(3, .int (σ.1 16 5)), (0, .ref 3), (1, .ref 2), (2, .int t)]) rfl rfl (by decide) rfl ?_
  refine kw_aload_n (pc := 8) (i := 4) (k := 2) (n := 1) rfl rfl rfl ?_
  refine kw_iload_n (pc := 9) (i := 5) (k := 3) (n := 2) rfl rfl rfl ?_
  refine kw_aload_n (pc := 10) (i := 6) (k := 1) (n := 0) rfl rfl rfl ?_
  refine kw_get (pc := 11) (i := 7) (v := .int (σ.1 3 1)) rfl rfl rfl lkX2_25 (fun _ => rfl) ?_
  have b2 := kw_rng (σ.1 3 1)
  refine kw_callV (pc := 14) (i := 8) (Y := mX3_valueAt) (a := 2) (As := [.int t, .int (σ.1 3 1)]) (st := []) kw_hE rfl rfl lvX2_32 arX3_valueAt (c_X3_valueAt_2 l σ hI t (σ.1 3 1) ) (by decide) (Nat.le_of_ble_eq_true rfl) rfl (fun v S4 p3 => ?_)
  obtain ⟨e7, z6, rfl, ef5⟩ := p3
  rw [e7]
  replace hF := kf_le ef5 hF
  have r_z6 := kw_rng z6
  show kw_AW l 5 kw_E0 KX mX2_readLine (p_X2_readLine_3_2 σ t) 17 [(3, .int (σ.1 16 5)), (0, .ref 3), (1, .ref 2), (2, .int t)] [.int z6] σ
  refine kw_callS (pc := 17) (i := 9) (Y := mX2_kindOf) (As := [.int z6]) (st := []) kw_hE rfl lsX2_53 arX2_kindOf (c_X2_kindOf l σ hI z6 ) (by decide) (Nat.le_of_ble_eq_true rfl) rfl (fun v S9 p8 => ?_)
  obtain ⟨e12, z11, rfl, ef10⟩ := p8
  rw [e12]
  replace hF := kf_le ef10 hF
  have r_z11 := kw_rng z11
  show kw_AW l 5 kw_E0 KX mX2_readLine (p_X2_readLine_3_2 σ t) 20 [(3, .int (σ.1 16 5)), (0, .ref 3), (1, .ref 2), (2, .int t)] [.int z11] σ
  refine kw_istore (pc := 20) (i := 10) (n := 4) (lv' := [(4, .int z11), (3, .int (σ.1 16 5)), (0, .ref 3), (1, .ref 2), (2, .int t)]) rfl (by decide) rfl ?_
  refine kw_iload_n (pc := 22) (i := 11) (k := 1) (n := 3) rfl rfl rfl ?_
  refine kw_if_lt (pc := 23) (i := 12) (tgt := 37) rfl rfl (fun c13 => ?_) (fun c13 => ?_)
  · replace hF := kf_p c13 hF
    refine kw_iconst (pc := 37) (i := 18) (v := 0) rfl rfl ?_
    exact kw_ireturn (pc := 38) (i := 19) (ty := .boolean) rfl rfl rfl ⟨⟨hI, hF0⟩, _, rfl, by omega, hF⟩
  · replace hF := kf_nl c13 hF
    refine kw_iload_n (pc := 26) (i := 13) (k := 1) (n := 3) rfl rfl rfl ?_
    refine kw_bipush (pc := 27) (i := 14) (v := 6) rfl rfl ?_
    refine kw_icmp_ge (pc := 29) (i := 15) (tgt := 37) rfl rfl (fun c14 => ?_) (fun c14 => ?_)
    · replace hF := kf_nl c14 hF
      refine kw_iconst (pc := 37) (i := 18) (v := 0) rfl rfl ?_
      exact kw_ireturn (pc := 38) (i := 19) (ty := .boolean) rfl rfl rfl ⟨⟨hI, hF0⟩, _, rfl, by omega, hF⟩
    · replace hF := kf_p c14 hF
      refine kw_iload (pc := 32) (i := 16) (k := 0) (n := 4) rfl rfl ?_
      refine kw_if_ge (pc := 34) (i := 17) (tgt := 39) rfl rfl (fun c15 => ?_) (fun c15 => ?_)
      · replace hF := kf_nl c15 hF
        refine kw_aload_n (pc := 39) (i := 20) (k := 2) (n := 0) rfl rfl rfl ?_
        refine kw_dup (pc := 40) (i := 21) rfl rfl ?_
        refine kw_get (pc := 41) (i := 22) (v := .int (σ.1 3 1)) rfl rfl rfl lkX2_25 (fun _ => rfl) ?_
        refine kw_iconst (pc := 44) (i := 23) (v := 1) rfl rfl ?_
        refine kw_iadd (pc := 45) (i := 24) rfl (fun z16 e_z16 t_z16 => ?_)
        replace hF := kf_le e_z16 hF
        refine kw_puti (pc := 46) (i := 25) (z := 0) rfl rfl rfl lpX2_25 rfl rfl ?_
        have I17 : kw_I bX (kw_ui σ 3 1 z16) := kw_I_ui hI (kw_rng z16).1 (Int.le_of_lt_add_one (kw_rng z16).2)
        have F18 : kw_F [3, 16, 39, 40, 41, 42] σ (kw_ui σ 3 1 z16) := kw_F_ui hF0 (by decide)
        refine kw_aload_n (pc := 49) (i := 26) (k := 2) (n := 0) rfl rfl rfl ?_
        refine kw_get (pc := 50) (i := 27) (v := .ref 16) rfl rfl rfl lkX2_12 (fun _ => rfl) ?_
        refine kw_get (pc := 53) (i := 28) (v := .ref 39) rfl rfl rfl lkX2_56 (fun _ => rfl) ?_
        refine kw_iload_n (pc := 56) (i := 29) (k := 1) (n := 3) rfl rfl rfl ?_
        refine kw_iload (pc := 57) (i := 30) (k := 0) (n := 4) rfl rfl ?_
        refine kw_iast (pc := 59) (i := 31) (n := 6) rfl rfl (by omega) (by omega) ?_
        have I19 : kw_I bX (kw_ui (kw_ui σ 3 1 z16) 39 (σ.1 16 5).toNatClampNeg z11) := kw_I_ui I17 (kw_rng z11).1 (Int.le_of_lt_add_one (kw_rng z11).2)
        have F20 : kw_F [3, 16, 39, 40, 41, 42] σ (kw_ui (kw_ui σ 3 1 z16) 39 (σ.1 16 5).toNatClampNeg z11) := kw_F_ui F18 (by decide)
        refine kw_aload_n (pc := 60) (i := 32) (k := 2) (n := 0) rfl rfl rfl ?_
        refine kw_get (pc := 61) (i := 33) (v := .ref 16) rfl rfl rfl lkX2_12 (fun _ => rfl) ?_
        refine kw_get (pc := 64) (i := 34) (v := .ref 40) rfl rfl rfl lkX2_59 (fun _ => rfl) ?_
        refine kw_iload_n (pc := 67) (i := 35) (k := 1) (n := 3) rfl rfl rfl ?_
        refine kw_aload_n (pc := 68) (i := 36) (k := 2) (n := 0) rfl rfl rfl ?_
        refine kw_aload_n (pc := 69) (i := 37) (k := 3) (n := 1) rfl rfl rfl ?_
        refine kw_iload_n (pc := 70) (i := 38) (k := 4) (n := 2) rfl rfl rfl ?_
        refine kw_iconst (pc := 71) (i := 39) (v := 0) rfl rfl ?_
        refine kw_bipush (pc := 72) (i := 40) (v := 8) rfl rfl ?_
        refine kw_callV (pc := 74) (i := 41) (Y := mX2_readFigure) (a := 3) (As := [.ref 2, .int t, .int 0, .int 8]) (st := [.int (σ.1 16 5), .ref 40]) kw_hE rfl rfl lvX2_62 arX2_readFigure (c_X2_readFigure_3_2 l (kw_ui (kw_ui σ 3 1 z16) 39 (σ.1 16 5).toNatClampNeg z11) I19 t 0 8 ) (by decide) (Nat.le_of_ble_eq_true rfl) rfl (fun v S22 p21 => ?_)
        obtain ⟨⟨I25, F26⟩, z24, rfl, ef23⟩ := p21
        have F27 : kw_F [3, 16, 39, 40, 41, 42] σ S22 := kw_F.tr F20 F26 (by decide)
        replace hF := kf_be ef23 hF
        have r_z24 := kw_rng z24
        show kw_AW l 5 kw_E0 KX mX2_readLine (p_X2_readLine_3_2 σ t) 77 [(4, .int z11), (3, .int (σ.1 16 5)), (0, .ref 3), (1, .ref 2), (2, .int t)] [.int z24, .int (σ.1 16 5), .ref 40] S22
        refine kw_iconst (pc := 77) (i := 42) (v := 4) rfl rfl ?_
        refine kw_isub (pc := 78) (i := 43) rfl (fun z28 e_z28 t_z28 => ?_)
        replace hF := kf_le e_z28 hF
        refine kw_iast (pc := 79) (i := 44) (n := 6) rfl rfl (by omega) (by omega) ?_
        have I29 : kw_I bX (kw_ui S22 40 (σ.1 16 5).toNatClampNeg z28) := kw_I_ui I25 (kw_rng z28).1 (Int.le_of_lt_add_one (kw_rng z28).2)
        have F30 : kw_F [3, 16, 39, 40, 41, 42] σ (kw_ui S22 40 (σ.1 16 5).toNatClampNeg z28) := kw_F_ui F27 (by decide)
        refine kw_aload_n (pc := 80) (i := 45) (k := 2) (n := 0) rfl rfl rfl ?_
        refine kw_get (pc := 81) (i := 46) (v := .ref 16) rfl rfl rfl lkX2_12 (fun _ => rfl) ?_
        refine kw_get (pc := 84) (i := 47) (v := .ref 40) rfl rfl rfl lkX2_59 (fun _ => rfl) ?_
        refine kw_iload_n (pc := 87) (i := 48) (k := 1) (n := 3) rfl rfl rfl ?_
        refine kw_iald (pc := 88) (i := 49) (n := 6) rfl rfl (by omega) (by omega) (fun z31 e_z31 => ?_)
        replace hF := kf_le e_z31 hF
        have t_z31 := congrArg Int32.toInt e_z31
        have r_z31 := kw_rng z31
        refine kw_bipush (pc := 89) (i := 50) (v := (-4)) rfl rfl ?_
        refine kw_icmp_ge (pc := 91) (i := 51) (tgt := 96) rfl rfl (fun c32 => ?_) (fun c32 => ?_)
        · replace hF := kf_nl c32 hF
          refine kw_aload_n (pc := 96) (i := 54) (k := 2) (n := 0) rfl rfl rfl ?_
          refine kw_get (pc := 97) (i := 55) (v := .ref 16) rfl rfl rfl lkX2_12 (fun _ => rfl) ?_
          refine kw_get (pc := 100) (i := 56) (v := .ref 41) rfl rfl rfl lkX2_66 (fun _ => rfl) ?_
          refine kw_iload_n (pc := 103) (i := 57) (k := 1) (n := 3) rfl rfl rfl ?_
          refine kw_aload_n (pc := 104) (i := 58) (k := 2) (n := 0) rfl rfl rfl ?_
          refine kw_aload_n (pc := 105) (i := 59) (k := 3) (n := 1) rfl rfl rfl ?_
          refine kw_iload_n (pc := 106) (i := 60) (k := 4) (n := 2) rfl rfl rfl ?_
          refine kw_iconst (pc := 107) (i := 61) (v := 1) rfl rfl ?_
          refine kw_bipush (pc := 108) (i := 62) (v := 9) rfl rfl ?_
          refine kw_callV (pc := 110) (i := 63) (Y := mX2_readFigure) (a := 3) (As := [.ref 2, .int t, .int 1, .int 9]) (st := [.int (σ.1 16 5), .ref 41]) kw_hE rfl rfl lvX2_62 arX2_readFigure (c_X2_readFigure_3_2 l (kw_ui S22 40 (σ.1 16 5).toNatClampNeg z28) I29 t 1 9 ) (by decide) (Nat.le_of_ble_eq_true rfl) rfl (fun v S34 p33 => ?_)
          obtain ⟨⟨I37, F38⟩, z36, rfl, ef35⟩ := p33
          have F39 : kw_F [3, 16, 39, 40, 41, 42] σ S34 := kw_F.tr F30 F38 (by decide)
          replace hF := kf_be ef35 hF
          have r_z36 := kw_rng z36
          show kw_AW l 5 kw_E0 KX mX2_readLine (p_X2_readLine_3_2 σ t) 113 [(4, .int z11), (3, .int (σ.1 16 5)), (0, .ref 3), (1, .ref 2), (2, .int t)] [.int z36, .int (σ.1 16 5), .ref 41] S34
          refine kw_iast (pc := 113) (i := 64) (n := 6) rfl rfl (by omega) (by omega) ?_
          have I40 : kw_I bX (kw_ui S34 41 (σ.1 16 5).toNatClampNeg z36) := kw_I_ui I37 (kw_rng z36).1 (Int.le_of_lt_add_one (kw_rng z36).2)
          have F41 : kw_F [3, 16, 39, 40, 41, 42] σ (kw_ui S34 41 (σ.1 16 5).toNatClampNeg z36) := kw_F_ui F39 (by decide)
          refine kw_aload_n (pc := 114) (i := 65) (k := 2) (n := 0) rfl rfl rfl ?_
          refine kw_get (pc := 115) (i := 66) (v := .ref 16) rfl rfl rfl lkX2_12 (fun _ => rfl) ?_
          refine kw_get (pc := 118) (i := 67) (v := .ref 41) rfl rfl rfl lkX2_66 (fun _ => rfl) ?_
          refine kw_iload_n (pc := 121) (i := 68) (k := 1) (n := 3) rfl rfl rfl ?_
          refine kw_iald (pc := 122) (i := 69) (n := 6) rfl rfl (by omega) (by omega) (fun z42 e_z42 => ?_)
          replace hF := kf_le e_z42 hF
          have t_z42 := congrArg Int32.toInt e_z42
          have r_z42 := kw_rng z42
          refine kw_if_ge (pc := 123) (i := 70) (tgt := 128) rfl rfl (fun c43 => ?_) (fun c43 => ?_)
          · replace hF := kf_nl c43 hF
            refine kw_aload_n (pc := 128) (i := 73) (k := 2) (n := 0) rfl rfl rfl ?_
            refine kw_get (pc := 129) (i := 74) (v := .ref 16) rfl rfl rfl lkX2_12 (fun _ => rfl) ?_
            refine kw_get (pc := 132) (i := 75) (v := .ref 42) rfl rfl rfl lkX2_69 (fun _ => rfl) ?_
            refine kw_iload_n (pc := 135) (i := 76) (k := 1) (n := 3) rfl rfl rfl ?_
            refine kw_aload_n (pc := 136) (i := 77) (k := 2) (n := 0) rfl rfl rfl ?_
            refine kw_aload_n (pc := 137) (i := 78) (k := 3) (n := 1) rfl rfl rfl ?_
            refine kw_iload_n (pc := 138) (i := 79) (k := 4) (n := 2) rfl rfl rfl ?_
            refine kw_iconst (pc := 139) (i := 80) (v := 0) rfl rfl ?_
            refine kw_bipush (pc := 140) (i := 81) (v := 9) rfl rfl ?_
            refine kw_callV (pc := 142) (i := 82) (Y := mX2_readFigure) (a := 3) (As := [.ref 2, .int t, .int 0, .int 9]) (st := [.int (σ.1 16 5), .ref 42]) kw_hE rfl rfl lvX2_62 arX2_readFigure (c_X2_readFigure_3_2 l (kw_ui S34 41 (σ.1 16 5).toNatClampNeg z36) I40 t 0 9 ) (by decide) (Nat.le_of_ble_eq_true rfl) rfl (fun v S45 p44 => ?_)
            obtain ⟨⟨I48, F49⟩, z47, rfl, ef46⟩ := p44
            have F50 : kw_F [3, 16, 39, 40, 41, 42] σ S45 := kw_F.tr F41 F49 (by decide)
            replace hF := kf_be ef46 hF
            have r_z47 := kw_rng z47
            show kw_AW l 5 kw_E0 KX mX2_readLine (p_X2_readLine_3_2 σ t) 145 [(4, .int z11), (3, .int (σ.1 16 5)), (0, .ref 3), (1, .ref 2), (2, .int t)] [.int z47, .int (σ.1 16 5), .ref 42] S45
            refine kw_iast (pc := 145) (i := 83) (n := 6) rfl rfl (by omega) (by omega) ?_
            have I51 : kw_I bX (kw_ui S45 42 (σ.1 16 5).toNatClampNeg z47) := kw_I_ui I48 (kw_rng z47).1 (Int.le_of_lt_add_one (kw_rng z47).2)
            have F52 : kw_F [3, 16, 39, 40, 41, 42] σ (kw_ui S45 42 (σ.1 16 5).toNatClampNeg z47) := kw_F_ui F50 (by decide)
            refine kw_aload_n (pc := 146) (i := 84) (k := 2) (n := 0) rfl rfl rfl ?_
            refine kw_get (pc := 147) (i := 85) (v := .ref 16) rfl rfl rfl lkX2_12 (fun _ => rfl) ?_
            refine kw_get (pc := 150) (i := 86) (v := .ref 42) rfl rfl rfl lkX2_69 (fun _ => rfl) ?_
            refine kw_iload_n (pc := 153) (i := 87) (k := 1) (n := 3) rfl rfl rfl ?_
            refine kw_iald (pc := 154) (i := 88) (n := 6) rfl rfl (by omega) (by omega) (fun z53 e_z53 => ?_)
            replace hF := kf_le e_z53 hF
            have t_z53 := congrArg Int32.toInt e_z53
            have r_z53 := kw_rng z53
            refine kw_if_ge (pc := 155) (i := 89) (tgt := 160) rfl rfl (fun c54 => ?_) (fun c54 => ?_)
            · replace hF := kf_nl c54 hF
              refine kw_aload_n (pc := 160) (i := 92) (k := 2) (n := 0) rfl rfl rfl ?_
              refine kw_get (pc := 161) (i := 93) (v := .ref 16) rfl rfl rfl lkX2_12 (fun _ => rfl) ?_
              refine kw_iload_n (pc := 164) (i := 94) (k := 1) (n := 3) rfl rfl rfl ?_
              refine kw_iconst (pc := 165) (i := 95) (v := 1) rfl rfl ?_
              refine kw_iadd (pc := 166) (i := 96) rfl (fun z55 e_z55 t_z55 => ?_)
              replace hF := kf_le e_z55 hF
              refine kw_puti (pc := 167) (i := 97) (z := 0) rfl rfl rfl lpX2_18 rfl rfl ?_
              have I56 : kw_I bX (kw_ui (kw_ui S45 42 (σ.1 16 5).toNatClampNeg z47) 16 5 z55) := kw_I_ui I51 (show 0 ≤ z55.toInt by omega) (show z55.toInt ≤ 6 by omega)
              have F57 : kw_F [3, 16, 39, 40, 41, 42] σ (kw_ui (kw_ui S45 42 (σ.1 16 5).toNatClampNeg z47) 16 5 z55) := kw_F_ui F52 (by decide)
              refine kw_iconst (pc := 170) (i := 98) (v := 1) rfl rfl ?_
              exact kw_ireturn (pc := 171) (i := 99) (ty := .boolean) rfl rfl rfl ⟨⟨I56, F57⟩, _, rfl, by omega, hF⟩
            · replace hF := kf_p c54 hF
              refine kw_iconst (pc := 158) (i := 90) (v := 0) rfl rfl ?_
              exact kw_ireturn (pc := 159) (i := 91) (ty := .boolean) rfl rfl rfl ⟨⟨I51, F52⟩, _, rfl, by omega, hF⟩
          · replace hF := kf_p c43 hF
            refine kw_iconst (pc := 126) (i := 71) (v := 0) rfl rfl ?_
            exact kw_ireturn (pc := 127) (i := 72) (ty := .boolean) rfl rfl rfl ⟨⟨I40, F41⟩, _, rfl, by omega, hF⟩
        · replace hF := kf_p c32 hF
          refine kw_iconst (pc := 94) (i := 52) (v := 0) rfl rfl ?_
          exact kw_ireturn (pc := 95) (i := 53) (ty := .boolean) rfl rfl rfl ⟨⟨I29, F30⟩, _, rfl, by omega, hF⟩
      · replace hF := kf_p c15 hF
        refine kw_iconst (pc := 37) (i := 18) (v := 0) rfl rfl ?_
        exact kw_ireturn (pc := 38) (i := 19) (ty := .boolean) rfl rfl rfl ⟨⟨hI, hF0⟩, _, rfl, by omega, hF⟩
noncomputable def l_X2_faultOf_3_2_79 (a2 : Int32) : Nat → Int32 → kw_S → Int32 × kw_S
  | 0, _, S => (0, S)
  | n + 1, x3, S => if (6 : Int32).toInt < x3.toInt then (((S.1 3 1), S)) else (kf_l (f_X2_skipBlanks_3_2 S a2) fun S5 => if 0 < x3.toInt then (kf_l (f_X3_sizeOf_2 S5 a2) fun z9 => if (S5.1 3 1).toInt < z9.toInt then (if x3.toInt = (6 : Int32).toInt then (((S5.1 3 1), S5)) else (kf_b (f_X2_readLine_3_2 S5 a2) fun z10 S11 => if z10.toInt = 0 then (((S11.1 3 1), S11)) else (kf_l (x3 + Int32.ofInt 1) fun z12 => l_X2_faultOf_3_2_79 a2 n z12 S11))) else ((((-9) : Int32), S5))) else (if x3.toInt = (6 : Int32).toInt then (((S5.1 3 1), S5)) else (kf_b (f_X2_readLine_3_2 S5 a2) fun z6 S7 => if z6.toInt = 0 then (((S7.1 3 1), S7)) else (kf_l (x3 + Int32.ofInt 1) fun z8 => l_X2_faultOf_3_2_79 a2 n z8 S7))))
theorem l_X2_faultOf_3_2_79_s (a2 : Int32) (n : Nat) (x3 : Int32) (S : kw_S) : l_X2_faultOf_3_2_79 a2 (n + 1) x3 S = if (6 : Int32).toInt < x3.toInt then (((S.1 3 1), S)) else (kf_l (f_X2_skipBlanks_3_2 S a2) fun S5 => if 0 < x3.toInt then (kf_l (f_X3_sizeOf_2 S5 a2) fun z9 => if (S5.1 3 1).toInt < z9.toInt then (if x3.toInt = (6 : Int32).toInt then (((S5.1 3 1), S5)) else (kf_b (f_X2_readLine_3_2 S5 a2) fun z10 S11 => if z10.toInt = 0 then (((S11.1 3 1), S11)) else (kf_l (x3 + Int32.ofInt 1) fun z12 => l_X2_faultOf_3_2_79 a2 n z12 S11))) else ((((-9) : Int32), S5))) else (if x3.toInt = (6 : Int32).toInt then (((S5.1 3 1), S5)) else (kf_b (f_X2_readLine_3_2 S5 a2) fun z6 S7 => if z6.toInt = 0 then (((S7.1 3 1), S7)) else (kf_l (x3 + Int32.ofInt 1) fun z8 => l_X2_faultOf_3_2_79 a2 n z8 S7)))) := rfl
noncomputable def f_X2_faultOf_3_2 (σ : kw_S) (t : Int32) : Int32 × kw_S := kf_l (f_X2_skipBlanks_3_2 (kw_ui (kw_ui (kw_ui σ 16 5 0) 16 6 0) 3 1 0) t) fun S1 => kf_l (f_X3_valueAt_2 S1 t (S1.1 3 1)) fun z2 => if z2.toInt = (119 : Int32).toInt then (kf_l ((S1.1 3 1) + (1 : Int32)) fun z3 => kf_l (f_X2_readWinds_3_2 (kw_ui S1 3 1 z3) t) fun S4 => if (S4.1 16 6).toInt = 0 then (((S4.1 3 1), S4)) else (l_X2_faultOf_3_2_79 t ((8 - (0 : Int32).toInt).toNat + 1) (0 : Int32) S4)) else (((S1.1 3 1), S1))
theorem f_X2_faultOf_3_2_u (σ : kw_S) (t : Int32) : f_X2_faultOf_3_2 σ t = kf_l (f_X2_skipBlanks_3_2 (kw_ui (kw_ui (kw_ui σ 16 5 0) 16 6 0) 3 1 0) t) fun S1 => kf_l (f_X3_valueAt_2 S1 t (S1.1 3 1)) fun z2 => if z2.toInt = (119 : Int32).toInt then (kf_l ((S1.1 3 1) + (1 : Int32)) fun z3 => kf_l (f_X2_readWinds_3_2 (kw_ui S1 3 1 z3) t) fun S4 => if (S4.1 16 6).toInt = 0 then (((S4.1 3 1), S4)) else (l_X2_faultOf_3_2_79 t ((8 - (0 : Int32).toInt).toNat + 1) (0 : Int32) S4)) else (((S1.1 3 1), S1)) := rfl
abbrev p_X2_faultOf_3_2 (σ : kw_S) (t : Int32) : Option Value → kw_S → Prop := fun vv σ' => (kw_I bX σ' ∧ kw_F [3, 16, 39, 40, 41, 42, 43] σ σ') ∧ ∃ r : Int32, vv = some (.int r) ∧ (r, σ') = f_X2_faultOf_3_2 σ t
set_option maxRecDepth 100000 in
set_option maxHeartbeats 4000000 in
theorem c_X2_faultOf_3_2 (l : Launch) (σ : kw_S) (hI : kw_I bX σ) (t : Int32) : kw_Met l 6 KX mX2_faultOf [.ref 3, .ref 2, .int t] σ (p_X2_faultOf_3_2 σ t) := by
  have r_t := kw_rng t
  have hF0 : kw_F [3, 16, 39, 40, 41, 42, 43] σ σ := kw_F.rf
  have hF := (f_X2_faultOf_3_2_u σ t).symm
  have q_m9 : (-9 : Int32).toInt = -9 := rfl
  have q_0 : (0 : Int32).toInt = 0 := rfl
  have q_1 : (1 : Int32).toInt = 1 := rfl
  have q_6 : (6 : Int32).toInt = 6 := rfl
  have q_119 : (119 : Int32).toInt = 119 := rfl
  refine kw_Met.of (by decide) rfl tX2_faultOf (Nat.le_of_ble_eq_true rfl) ?_
  show kw_AW l 6 kw_E0 KX mX2_faultOf (p_X2_faultOf_3_2 σ t) 0 [(0, .ref 3), (1, .ref 2), (2, .int t)] [] σ
  refine kw_aload_n (pc := 0) (i := 0) (k := 0) (n := 0) rfl rfl rfl ?_
  refine kw_get (pc := 1) (i := 1) (v := .ref 16) rfl rfl rfl lkX2_12 (fun _ => rfl) ?_
  refine kw_iconst (pc := 4) (i := 2) (v := 0) rfl rfl ?_
  refine kw_puti (pc := 5) (i := 3) (z := 0) rfl rfl rfl lpX2_18 rfl rfl ?_
  have I1 : kw_I bX (kw_ui σ 16 5 0) := kw_I_ui hI (show 0 ≤ (0 : Int32).toInt by omega) (show (0 : Int32).toInt ≤ 6 by omega)
  have F2 : kw_F [3, 16, 39, 40, 41, 42, 43] σ (kw_ui σ 16 5 0) := kw_F_ui hF0 (by decide)
  refine kw_aload_n (pc := 8) (i := 4) (k := 0) (n := 0) rfl rfl rfl ?_
  refine kw_get (pc := 9) (i := 5) (v := .ref 16) rfl rfl rfl lkX2_12 (fun _ => rfl) ?_
  refine kw_iconst (pc := 12) (i := 6) (v := 0) rfl rfl ?_
  refine kw_puti (pc := 13) (i := 7) (z := 0) rfl rfl rfl lpX2_22 rfl rfl ?_
  have I3 : kw_I bX (kw_ui (kw_ui σ 16 5 0) 16 6 0) := kw_I_ui I1 (show 0 ≤ (0 : Int32).toInt by omega) (show (0 : Int32).toInt ≤ 8 by omega)
  have F4 : kw_F [3, 16, 39, 40, 41, 42, 43] σ (kw_ui (kw_ui σ 16 5 0) 16 6 0) := kw_F_ui F2 (by decide)
  refine kw_aload_n (pc := 16) (i := 8) (k := 0) (n := 0) rfl rfl rfl ?_
  refine kw_iconst (pc := 17) (i := 9) (v := 0) rfl rfl ?_
  refine kw_puti (pc := 18) (i := 10) (z := 0) rfl rfl rfl lpX2_25 rfl rfl ?_
  have I5 : kw_I bX (kw_ui (kw_ui (kw_ui σ 16 5 0) 16 6 0) 3 1 0) := kw_I_ui I3 (kw_rng (0 : Int32)).1 (Int.le_of_lt_add_one (kw_rng (0 : Int32)).2)
  have F6 : kw_F [3, 16, 39, 40, 41, 42, 43] σ (kw_ui (kw_ui (kw_ui σ 16 5 0) 16 6 0) 3 1 0) := kw_F_ui F4 (by decide)
  refine kw_aload_n (pc := 21) (i := 11) (k := 0) (n := 0) rfl rfl rfl ?_
  refine kw_aload_n (pc := 22) (i := 12) (k := 1) (n := 1) rfl rfl rfl ?_
  refine kw_iload_n (pc := 23) (i := 13) (k := 2) (n := 2) rfl rfl rfl ?_
  refine kw_callV (pc := 24) (i := 14) (Y := mX2_skipBlanks) (a := 3) (As := [.ref 2, .int t]) (st := []) kw_hE rfl rfl lvX2_28 arX2_skipBlanks (c_X2_skipBlanks_3_2 l (kw_ui (kw_ui (kw_ui σ 16 5 0) 16 6 0) 3 1 0) I5 t ) (by decide) (Nat.le_of_ble_eq_true rfl) rfl (fun v S8 p7 => ?_)
  obtain ⟨⟨I10, F11⟩, rfl, ef9⟩ := p7
  have F12 : kw_F [3, 16, 39, 40, 41, 42, 43] σ S8 := kw_F.tr F6 F11 (by decide)
  replace hF := kf_le ef9 hF
  show kw_AW l 6 kw_E0 KX mX2_faultOf (p_X2_faultOf_3_2 σ t) 27 [(0, .ref 3), (1, .ref 2), (2, .int t)] [] S8
  refine kw_aload_n (pc := 27) (i := 15) (k := 1) (n := 1) rfl rfl rfl ?_
  refine kw_iload_n (pc := 28) (i := 16) (k := 2) (n := 2) rfl rfl rfl ?_
  refine kw_aload_n (pc := 29) (i := 17) (k := 0) (n := 0) rfl rfl rfl ?_
  refine kw_get (pc := 30) (i := 18) (v := .int (S8.1 3 1)) rfl rfl rfl lkX2_25 (fun _ => rfl) ?_
  have b13 := kw_rng (S8.1 3 1)
  refine kw_callV (pc := 33) (i := 19) (Y := mX3_valueAt) (a := 2) (As := [.int t, .int (S8.1 3 1)]) (st := []) kw_hE rfl rfl lvX2_32 arX3_valueAt (c_X3_valueAt_2 l S8 I10 t (S8.1 3 1) ) (by decide) (Nat.le_of_ble_eq_true rfl) rfl (fun v S15 p14 => ?_)
  obtain ⟨e18, z17, rfl, ef16⟩ := p14
  rw [e18]
  replace hF := kf_le ef16 hF
  have r_z17 := kw_rng z17
  show kw_AW l 6 kw_E0 KX mX2_faultOf (p_X2_faultOf_3_2 σ t) 36 [(0, .ref 3), (1, .ref 2), (2, .int t)] [.int z17] S8
  refine kw_bipush (pc := 36) (i := 20) (v := 119) rfl rfl ?_
  refine kw_icmp_eq (pc := 38) (i := 21) (tgt := 46) rfl rfl (fun c19 => ?_) (fun c19 => ?_)
  · replace hF := kf_p c19 hF
    refine kw_aload_n (pc := 46) (i := 25) (k := 0) (n := 0) rfl rfl rfl ?_
    refine kw_dup (pc := 47) (i := 26) rfl rfl ?_
    refine kw_get (pc := 48) (i := 27) (v := .int (S8.1 3 1)) rfl rfl rfl lkX2_25 (fun _ => rfl) ?_
    refine kw_iconst (pc := 51) (i := 28) (v := 1) rfl rfl ?_
    refine kw_iadd (pc := 52) (i := 29) rfl (fun z20 e_z20 t_z20 => ?_)
    replace hF := kf_le e_z20 hF
    refine kw_puti (pc := 53) (i := 30) (z := 0) rfl rfl rfl lpX2_25 rfl rfl ?_
    have I21 : kw_I bX (kw_ui S8 3 1 z20) := kw_I_ui I10 (kw_rng z20).1 (Int.le_of_lt_add_one (kw_rng z20).2)
    have F22 : kw_F [3, 16, 39, 40, 41, 42, 43] σ (kw_ui S8 3 1 z20) := kw_F_ui F12 (by decide)
    refine kw_aload_n (pc := 56) (i := 31) (k := 0) (n := 0) rfl rfl rfl ?_
    refine kw_aload_n (pc := 57) (i := 32) (k := 1) (n := 1) rfl rfl rfl ?_
    refine kw_iload_n (pc := 58) (i := 33) (k := 2) (n := 2) rfl rfl rfl ?_
    refine kw_callV (pc := 59) (i := 34) (Y := mX2_readWinds) (a := 3) (As := [.ref 2, .int t]) (st := []) kw_hE rfl rfl lvX2_38 arX2_readWinds (c_X2_readWinds_3_2 l (kw_ui S8 3 1 z20) I21 t ) (by decide) (Nat.le_of_ble_eq_true rfl) rfl (fun v S24 p23 => ?_)
    obtain ⟨⟨I26, F27⟩, rfl, ef25⟩ := p23
    have F28 : kw_F [3, 16, 39, 40, 41, 42, 43] σ S24 := kw_F.tr F22 F27 (by decide)
    replace hF := kf_le ef25 hF
    show kw_AW l 6 kw_E0 KX mX2_faultOf (p_X2_faultOf_3_2 σ t) 62 [(0, .ref 3), (1, .ref 2), (2, .int t)] [] S24
    refine kw_aload_n (pc := 62) (i := 35) (k := 0) (n := 0) rfl rfl rfl ?_
    refine kw_get (pc := 63) (i := 36) (v := .ref 16) rfl rfl rfl lkX2_12 (fun _ => rfl) ?_
    refine kw_get (pc := 66) (i := 37) (v := .int (S24.1 16 6)) rfl rfl rfl lkX2_22 (fun _ => rfl) ?_
    have b29 : 0 ≤ (S24.1 16 6).toInt ∧ (S24.1 16 6).toInt ≤ 8 := I26 16 6
    refine kw_if_ne (pc := 69) (i := 38) (tgt := 77) rfl rfl (fun c30 => ?_) (fun c30 => ?_)
    · replace hF := kf_n c30 hF
      refine kw_iconst (pc := 77) (i := 42) (v := 0) rfl rfl ?_
      refine kw_istore_n (pc := 78) (i := 43) (n := 3) (lv' := [(3, .int 0), (0, .ref 3), (1, .ref 2), (2, .int t)]) rfl rfl (by decide) rfl ?_
      have L35 : ∀ (n39 : Nat) (x31 : Int32) (S32 : kw_S), kw_I bX S32 → kw_F [3, 16, 39, 40, 41, 42, 43] σ S32 → 0 ≤ x31.toInt → l_X2_faultOf_3_2_79 t n39 x31 S32 = (f_X2_faultOf_3_2 σ t) → (8 - x31.toInt).toNat < n39 → kw_AW l 6 kw_E0 KX mX2_faultOf (p_X2_faultOf_3_2 σ t) 79 [(3, .int x31), (0, .ref 3), (1, .ref 2), (2, .int t)] [] S32 := by
        intro n39
        induction n39 with
        | zero => intro x31 S32 I33 F34 v37 hF m38; exact absurd m38 (Nat.not_lt_zero _)
        | succ n39 ih36 =>
          intro x31 S32 I33 F34 v37 hF m38
          replace hF := kf_st (l_X2_faultOf_3_2_79_s _ _ _ _) hF
          have r_x31 := kw_rng x31
          refine kw_iload_n (pc := 79) (i := 44) (k := 0) (n := 3) rfl rfl rfl ?_
          refine kw_bipush (pc := 80) (i := 45) (v := 6) rfl rfl ?_
          refine kw_icmp_gt (pc := 82) (i := 46) (tgt := 136) rfl rfl (fun c40 => ?_) (fun c40 => ?_)
          · replace hF := kf_p c40 hF
            refine kw_aload_n (pc := 136) (i := 74) (k := 1) (n := 0) rfl rfl rfl ?_
            refine kw_get (pc := 137) (i := 75) (v := .int (S32.1 3 1)) rfl rfl rfl lkX2_25 (fun _ => rfl) ?_
            have b41 := kw_rng (S32.1 3 1)
            exact kw_ireturn (pc := 140) (i := 76) (ty := .int) rfl rfl rfl ⟨⟨I33, F34⟩, _, rfl, hF⟩
          · replace hF := kf_nl c40 hF
            refine kw_aload_n (pc := 85) (i := 47) (k := 1) (n := 0) rfl rfl rfl ?_
            refine kw_aload_n (pc := 86) (i := 48) (k := 2) (n := 1) rfl rfl rfl ?_
            refine kw_iload_n (pc := 87) (i := 49) (k := 3) (n := 2) rfl rfl rfl ?_
            refine kw_callV (pc := 88) (i := 50) (Y := mX2_skipBlanks) (a := 3) (As := [.ref 2, .int t]) (st := []) kw_hE rfl rfl lvX2_28 arX2_skipBlanks (c_X2_skipBlanks_3_2 l S32 I33 t ) (by decide) (Nat.le_of_ble_eq_true rfl) rfl (fun v S43 p42 => ?_)
            obtain ⟨⟨I45, F46⟩, rfl, ef44⟩ := p42
            have F47 : kw_F [3, 16, 39, 40, 41, 42, 43] σ S43 := kw_F.tr F34 F46 (by decide)
            replace hF := kf_le ef44 hF
            show kw_AW l 6 kw_E0 KX mX2_faultOf (p_X2_faultOf_3_2 σ t) 91 [(3, .int x31), (0, .ref 3), (1, .ref 2), (2, .int t)] [] S43
            refine kw_iload_n (pc := 91) (i := 51) (k := 0) (n := 3) rfl rfl rfl ?_
            refine kw_if_le (pc := 92) (i := 52) (tgt := 110) rfl rfl (fun c48 => ?_) (fun c48 => ?_)
            · replace hF := kf_nl c48 hF
              refine kw_iload_n (pc := 110) (i := 61) (k := 0) (n := 3) rfl rfl rfl ?_
              refine kw_bipush (pc := 111) (i := 62) (v := 6) rfl rfl ?_
              refine kw_icmp_eq (pc := 113) (i := 63) (tgt := 125) rfl rfl (fun c49 => ?_) (fun c49 => ?_)
              · replace hF := kf_p c49 hF
                refine kw_aload_n (pc := 125) (i := 69) (k := 1) (n := 0) rfl rfl rfl ?_
                refine kw_get (pc := 126) (i := 70) (v := .int (S43.1 3 1)) rfl rfl rfl lkX2_25 (fun _ => rfl) ?_
                have b50 := kw_rng (S43.1 3 1)
                exact kw_ireturn (pc := 129) (i := 71) (ty := .int) rfl rfl rfl ⟨⟨I45, F47⟩, _, rfl, hF⟩
              · replace hF := kf_n c49 hF
                refine kw_aload_n (pc := 116) (i := 64) (k := 1) (n := 0) rfl rfl rfl ?_
                refine kw_aload_n (pc := 117) (i := 65) (k := 2) (n := 1) rfl rfl rfl ?_
                refine kw_iload_n (pc := 118) (i := 66) (k := 3) (n := 2) rfl rfl rfl ?_
                refine kw_callV (pc := 119) (i := 67) (Y := mX2_readLine) (a := 3) (As := [.ref 2, .int t]) (st := []) kw_hE rfl rfl lvX2_45 arX2_readLine (c_X2_readLine_3_2 l S43 I45 t ) (by decide) (Nat.le_of_ble_eq_true rfl) rfl (fun v S52 p51 => ?_)
                obtain ⟨⟨I56, F57⟩, z55, rfl, f53, ef54⟩ := p51
                have F58 : kw_F [3, 16, 39, 40, 41, 42, 43] σ S52 := kw_F.tr F47 F57 (by decide)
                replace hF := kf_be ef54 hF
                have r_z55 := kw_rng z55
                show kw_AW l 6 kw_E0 KX mX2_faultOf (p_X2_faultOf_3_2 σ t) 122 [(3, .int x31), (0, .ref 3), (1, .ref 2), (2, .int t)] [.int z55] S52
                refine kw_if_ne (pc := 122) (i := 68) (tgt := 130) rfl rfl (fun c59 => ?_) (fun c59 => ?_)
                · replace hF := kf_n c59 hF
                  refine kw_iinc' (pc := 130) (i := 72) (k := 0) (fun z => [(3, .int z), (0, .ref 3), (1, .ref 2), (2, .int t)]) rfl rfl (by decide) rfl (fun _ => rfl) (fun z60 e_z60 t_z60 => ?_)
                  replace hF := kf_le e_z60 hF
                  refine kw_goto (pc := 133) (i := 73) (tgt := 79) rfl rfl ?_
                  refine kw_sub (lv' := [(3, .int z60), (0, .ref 3), (1, .ref 2), (2, .int t)]) [0, 1, 2, 3] rfl ?_
                  exact ih36 z60 S52 I56 F58 (by omega) hF (by omega)
                · replace hF := kf_p c59 hF
                  refine kw_aload_n (pc := 125) (i := 69) (k := 1) (n := 0) rfl rfl rfl ?_
                  refine kw_get (pc := 126) (i := 70) (v := .int (S52.1 3 1)) rfl rfl rfl lkX2_25 (fun _ => rfl) ?_
                  have b61 := kw_rng (S52.1 3 1)
                  exact kw_ireturn (pc := 129) (i := 71) (ty := .int) rfl rfl rfl ⟨⟨I56, F58⟩, _, rfl, hF⟩
            · replace hF := kf_p c48 hF
              refine kw_aload_n (pc := 95) (i := 53) (k := 1) (n := 0) rfl rfl rfl ?_
              refine kw_get (pc := 96) (i := 54) (v := .int (S43.1 3 1)) rfl rfl rfl lkX2_25 (fun _ => rfl) ?_
              have b62 := kw_rng (S43.1 3 1)
              refine kw_aload_n (pc := 99) (i := 55) (k := 2) (n := 1) rfl rfl rfl ?_
              refine kw_iload_n (pc := 100) (i := 56) (k := 3) (n := 2) rfl rfl rfl ?_
              refine kw_callV (pc := 101) (i := 57) (Y := mX3_sizeOf) (a := 2) (As := [.int t]) (st := [.int (S43.1 3 1)]) kw_hE rfl rfl lvX2_41 arX3_sizeOf (c_X3_sizeOf_2 l S43 I45 t ) (by decide) (Nat.le_of_ble_eq_true rfl) rfl (fun v S64 p63 => ?_)
              obtain ⟨e71, z70, rfl, f65, f66, f67, f68, ef69⟩ := p63
              rw [e71]
              replace hF := kf_le ef69 hF
              have r_z70 := kw_rng z70
              show kw_AW l 6 kw_E0 KX mX2_faultOf (p_X2_faultOf_3_2 σ t) 104 [(3, .int x31), (0, .ref 3), (1, .ref 2), (2, .int t)] [.int z70, .int (S43.1 3 1)] S43
              refine kw_icmp_lt (pc := 104) (i := 58) (tgt := 110) rfl rfl (fun c72 => ?_) (fun c72 => ?_)
              · replace hF := kf_p c72 hF
                refine kw_iload_n (pc := 110) (i := 61) (k := 0) (n := 3) rfl rfl rfl ?_
                refine kw_bipush (pc := 111) (i := 62) (v := 6) rfl rfl ?_
                refine kw_icmp_eq (pc := 113) (i := 63) (tgt := 125) rfl rfl (fun c73 => ?_) (fun c73 => ?_)
                · replace hF := kf_p c73 hF
                  refine kw_aload_n (pc := 125) (i := 69) (k := 1) (n := 0) rfl rfl rfl ?_
                  refine kw_get (pc := 126) (i := 70) (v := .int (S43.1 3 1)) rfl rfl rfl lkX2_25 (fun _ => rfl) ?_
                  exact kw_ireturn (pc := 129) (i := 71) (ty := .int) rfl rfl rfl ⟨⟨I45, F47⟩, _, rfl, hF⟩
                · replace hF := kf_n c73 hF
                  refine kw_aload_n (pc := 116) (i := 64) (k := 1) (n := 0) rfl rfl rfl ?_
                  refine kw_aload_n (pc := 117) (i := 65) (k := 2) (n := 1) rfl rfl rfl ?_
                  refine kw_iload_n (pc := 118) (i := 66) (k := 3) (n := 2) rfl rfl rfl ?_
                  refine kw_callV (pc := 119) (i := 67) (Y := mX2_readLine) (a := 3) (As := [.ref 2, .int t]) (st := []) kw_hE rfl rfl lvX2_45 arX2_readLine (c_X2_readLine_3_2 l S43 I45 t ) (by decide) (Nat.le_of_ble_eq_true rfl) rfl (fun v S75 p74 => ?_)
                  obtain ⟨⟨I79, F80⟩, z78, rfl, f76, ef77⟩ := p74
                  have F81 : kw_F [3, 16, 39, 40, 41, 42, 43] σ S75 := kw_F.tr F47 F80 (by decide)
                  replace hF := kf_be ef77 hF
                  have r_z78 := kw_rng z78
                  show kw_AW l 6 kw_E0 KX mX2_faultOf (p_X2_faultOf_3_2 σ t) 122 [(3, .int x31), (0, .ref 3), (1, .ref 2), (2, .int t)] [.int z78] S75
                  refine kw_if_ne (pc := 122) (i := 68) (tgt := 130) rfl rfl (fun c82 => ?_) (fun c82 => ?_)
                  · replace hF := kf_n c82 hF
                    refine kw_iinc' (pc := 130) (i := 72) (k := 0) (fun z => [(3, .int z), (0, .ref 3), (1, .ref 2), (2, .int t)]) rfl rfl (by decide) rfl (fun _ => rfl) (fun z83 e_z83 t_z83 => ?_)
                    replace hF := kf_le e_z83 hF
                    refine kw_goto (pc := 133) (i := 73) (tgt := 79) rfl rfl ?_
                    refine kw_sub (lv' := [(3, .int z83), (0, .ref 3), (1, .ref 2), (2, .int t)]) [0, 1, 2, 3] rfl ?_
                    exact ih36 z83 S75 I79 F81 (by omega) hF (by omega)
                  · replace hF := kf_p c82 hF
                    refine kw_aload_n (pc := 125) (i := 69) (k := 1) (n := 0) rfl rfl rfl ?_
                    refine kw_get (pc := 126) (i := 70) (v := .int (S75.1 3 1)) rfl rfl rfl lkX2_25 (fun _ => rfl) ?_
                    have b84 := kw_rng (S75.1 3 1)
                    exact kw_ireturn (pc := 129) (i := 71) (ty := .int) rfl rfl rfl ⟨⟨I79, F81⟩, _, rfl, hF⟩
              · replace hF := kf_nl c72 hF
                refine kw_bipush (pc := 107) (i := 59) (v := (-9)) rfl rfl ?_
                exact kw_ireturn (pc := 109) (i := 60) (ty := .int) rfl rfl rfl ⟨⟨I45, F47⟩, _, rfl, hF⟩
      exact L35 _ 0 S24 I26 F28 (by omega) hF (Nat.lt_succ_self _)
    · replace hF := kf_p c30 hF
      refine kw_aload_n (pc := 72) (i := 39) (k := 0) (n := 0) rfl rfl rfl ?_
      refine kw_get (pc := 73) (i := 40) (v := .int (S24.1 3 1)) rfl rfl rfl lkX2_25 (fun _ => rfl) ?_
      have b85 := kw_rng (S24.1 3 1)
      exact kw_ireturn (pc := 76) (i := 41) (ty := .int) rfl rfl rfl ⟨⟨I26, F28⟩, _, rfl, hF⟩
  · replace hF := kf_n c19 hF
    refine kw_aload_n (pc := 41) (i := 22) (k := 0) (n := 0) rfl rfl rfl ?_
    refine kw_get (pc := 42) (i := 23) (v := .int (S8.1 3 1)) rfl rfl rfl lkX2_25 (fun _ => rfl) ?_
    exact kw_ireturn (pc := 45) (i := 24) (ty := .int) rfl rfl rfl ⟨⟨I10, F12⟩, _, rfl, hF⟩
end
