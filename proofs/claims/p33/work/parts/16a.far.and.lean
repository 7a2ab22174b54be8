section
noncomputable def l_X8_farByvn0_0_187 (k14 : Int32 → Int32 → kw_S → Int32 × kw_S) (k95 : Int32 → Int32 → kw_S → Int32 × kw_S) (a2 : Int32) (a3 : Int32) (a5 : Int32) (a6 : Int32) (a7 : Int32) (a9 : Int32) (a10 : Int32) (a11 : Int32) : Nat → Int32 → Int32 → kw_S → Int32 × kw_S
  | 0, _, _, S => (0, S)
  | n + 1, x4, x13, S => if (1 : Int32).toInt = 0 then ((0, S)) else (if (2 : Int32).toInt < (0 : Int32).toInt then ((0, S)) else (if x13.toInt < (1 : Int32).toInt then (if (2 : Int32).toInt < (0 : Int32).toInt then ((0, S)) else (kf_l (a10 + (0 : Int32)) fun z8 => if (2 : Int32).toInt < (0 : Int32).toInt then ((0, S)) else (kf_l (a11 + (0 : Int32)) fun z9 => if (0 : Int32).toInt < (3 : Int32).toInt then (if x4.toInt < z9.toInt then (kf_l (x13 + Int32.ofInt 1) fun z11 => l_X8_farByvn0_0_187 k14 k95 a2 a3 a5 a6 a7 a9 a10 a11 n z9 z11 (kw_ui (kw_ui (kw_ui S 20 ((0 : Int32).toNatClampNeg) a5) 20 ((1 : Int32).toNatClampNeg) a9) 20 ((2 : Int32).toNatClampNeg) x13)) else (kf_l (x13 + Int32.ofInt 1) fun z10 => l_X8_farByvn0_0_187 k14 k95 a2 a3 a5 a6 a7 a9 a10 a11 n x4 z10 S)) else ((0, S))))) else (kf_l (a9 + Int32.ofInt 1) fun z7 => k95 x4 z7 S)))
theorem l_X8_farByvn0_0_187_s (k14 : Int32 → Int32 → kw_S → Int32 × kw_S) (k95 : Int32 → Int32 → kw_S → Int32 × kw_S) (a2 : Int32) (a3 : Int32) (a5 : Int32) (a6 : Int32) (a7 : Int32) (a9 : Int32) (a10 : Int32) (a11 : Int32) (n : Nat) (x4 : Int32) (x13 : Int32) (S : kw_S) : l_X8_farByvn0_0_187 k14 k95 a2 a3 a5 a6 a7 a9 a10 a11 (n + 1) x4 x13 S = if (1 : Int32).toInt = 0 then ((0, S)) else (if (2 : Int32).toInt < (0 : Int32).toInt then ((0, S)) else (if x13.toInt < (1 : Int32).toInt then (if (2 : Int32).toInt < (0 : Int32).toInt then ((0, S)) else (kf_l (a10 + (0 : Int32)) fun z8 => if (2 : Int32).toInt < (0 : Int32).toInt then ((0, S)) else (kf_l (a11 + (0 : Int32)) fun z9 => if (0 : Int32).toInt < (3 : Int32).toInt then (if x4.toInt < z9.toInt then (kf_l (x13 + Int32.ofInt 1) fun z11 => l_X8_farByvn0_0_187 k14 k95 a2 a3 a5 a6 a7 a9 a10 a11 n z9 z11 (kw_ui (kw_ui (kw_ui S 20 ((0 : Int32).toNatClampNeg) a5) 20 ((1 : Int32).toNatClampNeg) a9) 20 ((2 : Int32).toNatClampNeg) x13)) else (kf_l (x13 + Int32.ofInt 1) fun z10 => l_X8_farByvn0_0_187 k14 k95 a2 a3 a5 a6 a7 a9 a10 a11 n x4 z10 S)) else ((0, S))))) else (kf_l (a9 + Int32.ofInt 1) fun z7 => k95 x4 z7 S))) := rfl
noncomputable def l_X8_farByvn0_0_95 (k14 : Int32 → Int32 → kw_S → Int32 × kw_S) (a2 : Int32) (a3 : Int32) (a5 : Int32) (a6 : Int32) (a7 : Int32) : Nat → Int32 → Int32 → kw_S → Int32 × kw_S
  | 0, _, _, S => (0, S)
  | n + 1, x4, x9, S => if (1 : Int32).toInt = 0 then ((0, S)) else (if (1 : Int32).toInt < (0 : Int32).toInt then ((0, S)) else (if x9.toInt < (1 : Int32).toInt then (if (1 : Int32).toInt < (0 : Int32).toInt then ((0, S)) else (kf_l (a6 + (0 : Int32)) fun z5 => if (1 : Int32).toInt < (0 : Int32).toInt then ((0, S)) else (kf_l (a7 + (0 : Int32)) fun z6 => if (0 : Int32).toInt < (2 : Int32).toInt then (l_X8_farByvn0_0_187 k14 (l_X8_farByvn0_0_95 k14 a2 a3 a5 a6 a7 n) a2 a3 a5 a6 a7 x9 z5 z6 ((65 - (0 : Int32).toInt).toNat + 1) x4 (0 : Int32) S) else ((0, S))))) else (kf_l (a5 + Int32.ofInt 1) fun z4 => k14 x4 z4 S)))
theorem l_X8_farByvn0_0_95_s (k14 : Int32 → Int32 → kw_S → Int32 × kw_S) (a2 : Int32) (a3 : Int32) (a5 : Int32) (a6 : Int32) (a7 : Int32) (n : Nat) (x4 : Int32) (x9 : Int32) (S : kw_S) : l_X8_farByvn0_0_95 k14 a2 a3 a5 a6 a7 (n + 1) x4 x9 S = if (1 : Int32).toInt = 0 then ((0, S)) else (if (1 : Int32).toInt < (0 : Int32).toInt then ((0, S)) else (if x9.toInt < (1 : Int32).toInt then (if (1 : Int32).toInt < (0 : Int32).toInt then ((0, S)) else (kf_l (a6 + (0 : Int32)) fun z5 => if (1 : Int32).toInt < (0 : Int32).toInt then ((0, S)) else (kf_l (a7 + (0 : Int32)) fun z6 => if (0 : Int32).toInt < (2 : Int32).toInt then (l_X8_farByvn0_0_187 k14 (l_X8_farByvn0_0_95 k14 a2 a3 a5 a6 a7 n) a2 a3 a5 a6 a7 x9 z5 z6 ((65 - (0 : Int32).toInt).toNat + 1) x4 (0 : Int32) S) else ((0, S))))) else (kf_l (a5 + Int32.ofInt 1) fun z4 => k14 x4 z4 S))) := rfl
noncomputable def l_X8_farByvn0_0_14 (a2 : Int32) (a3 : Int32) : Nat → Int32 → Int32 → kw_S → Int32 × kw_S
  | 0, _, _, S => (0, S)
  | n + 1, x4, x5, S => if 0 < (0 : Int32).toInt then ((0, S)) else (if x5.toInt < (1 : Int32).toInt then (if 0 < (0 : Int32).toInt then ((0, S)) else (kf_l ((S.1 0 24) + (0 : Int32)) fun z2 => if 0 < (0 : Int32).toInt then ((0, S)) else (kf_l ((S.1 0 23) + (0 : Int32)) fun z3 => if (0 : Int32).toInt = 0 then (l_X8_farByvn0_0_95 (l_X8_farByvn0_0_14 a2 a3 n) a2 a3 x5 z2 z3 ((65 - (0 : Int32).toInt).toNat + 1) x4 (0 : Int32) S) else ((0, S))))) else ((x4, S)))
theorem l_X8_farByvn0_0_14_s (a2 : Int32) (a3 : Int32) (n : Nat) (x4 : Int32) (x5 : Int32) (S : kw_S) : l_X8_farByvn0_0_14 a2 a3 (n + 1) x4 x5 S = if 0 < (0 : Int32).toInt then ((0, S)) else (if x5.toInt < (1 : Int32).toInt then (if 0 < (0 : Int32).toInt then ((0, S)) else (kf_l ((S.1 0 24) + (0 : Int32)) fun z2 => if 0 < (0 : Int32).toInt then ((0, S)) else (kf_l ((S.1 0 23) + (0 : Int32)) fun z3 => if (0 : Int32).toInt = 0 then (l_X8_farByvn0_0_95 (l_X8_farByvn0_0_14 a2 a3 n) a2 a3 x5 z2 z3 ((65 - (0 : Int32).toInt).toNat + 1) x4 (0 : Int32) S) else ((0, S))))) else ((x4, S))) := rfl
noncomputable def f_X8_farByvn0_0 (σ : kw_S) (t : Int32) : Int32 × kw_S := kf_l ((1 : Int32) <<< ((σ.1 0 10) &&& 31)) fun z1 => l_X8_farByvn0_0_14 t z1 ((65 - (0 : Int32).toInt).toNat + 1) ((-1048576) : Int32) (0 : Int32) σ
theorem f_X8_farByvn0_0_u (σ : kw_S) (t : Int32) : f_X8_farByvn0_0 σ t = kf_l ((1 : Int32) <<< ((σ.1 0 10) &&& 31)) fun z1 => l_X8_farByvn0_0_14 t z1 ((65 - (0 : Int32).toInt).toNat + 1) ((-1048576) : Int32) (0 : Int32) σ := rfl
abbrev p_X8_farByvn0_0 (T : Int) (σ : kw_S) (t : Int32) : Option Value → kw_S → Prop := fun vv σ' => (kw_I (bM T) σ' ∧ kw_FM [20] σ σ') ∧ ∃ r : Int32, vv = some (.int r) ∧ (r, σ') = f_X8_farByvn0_0 σ t
set_option maxRecDepth 100000 in
set_option maxHeartbeats 4000000 in
theorem c_X8_farByvn0_0 (l : Launch) (T : Int) (hT0 : 0 ≤ T) (hT1 : T ≤ 3000) (σ : kw_S) (hI : kw_I (bM T) σ) (t : Int32) : kw_Met l 2 KM mX8_farBy [.ref 0, .int 0, .int t] σ (p_X8_farByvn0_0 T σ t) := by
  have r_t := kw_rng t
  have hF0 : kw_FM [20] σ σ := kw_FM.rf
  have hF := (f_X8_farByvn0_0_u σ t).symm
  have q_m1048576 : (-1048576 : Int32).toInt = -1048576 := rfl
  have q_0 : (0 : Int32).toInt = 0 := rfl
  have q_1 : (1 : Int32).toInt = 1 := rfl
  have q_2 : (2 : Int32).toInt = 2 := rfl
  have q_3 : (3 : Int32).toInt = 3 := rfl
  refine kw_Met.of (by decide) rfl tX8_farBy (Nat.le_of_ble_eq_true rfl) ?_
  show kw_AW l 2 kw_E0 KM mX8_farBy (p_X8_farByvn0_0 T σ t) 0 [(0, .ref 0), (1, .int 0), (2, .int t)] [] σ
  refine kw_iconst (pc := 0) (i := 0) (v := 1) rfl rfl ?_
  refine kw_aload_n (pc := 1) (i := 1) (k := 0) (n := 0) rfl rfl rfl ?_
  refine kw_get (pc := 2) (i := 2) (v := .int (σ.1 0 10)) rfl rfl rfl lkX8_163 (fun _ => rfl) ?_
  have b1 : 0 ≤ (σ.1 0 10).toInt ∧ (σ.1 0 10).toInt ≤ 6 := hI 0 10
  refine kw_ishl (pc := 5) (i := 3) rfl (fun z2 e_z2 => ?_)
  have r_z2 := kw_rng z2
  replace hF := kf_le e_z2 hF
  have t_z2 := kw_shlm (σ.1 0 10) z2 e_z2
  first | (replace t_z2 := And.intro (t_z2.1 (by omega) (by omega)) (t_z2.2 (by omega) (by omega))) | (replace t_z2 := t_z2.1 (by omega) (by omega)) | skip
  have u_z2 := congrArg Int32.toInt e_z2
  refine kw_istore_n (pc := 6) (i := 4) (n := 3) (lv' := [(3, .int z2), (0, .ref 0), (1, .int 0), (2, .int t)]) rfl rfl (by decide) rfl ?_
  refine kw_ldc (pc := 7) (i := 5) (v := (-1048576)) rfl ckX8_255 ?_
  refine kw_istore (pc := 9) (i := 6) (n := 4) (lv' := [(4, .int (-1048576)), (3, .int z2), (0, .ref 0), (1, .int 0), (2, .int t)]) rfl (by decide) rfl ?_
  refine kw_iconst (pc := 11) (i := 7) (v := 0) rfl rfl ?_
  refine kw_istore (pc := 12) (i := 8) (n := 5) (lv' := [(5, .int 0), (4, .int (-1048576)), (3, .int z2), (0, .ref 0), (1, .int 0), (2, .int t)]) rfl (by decide) rfl ?_
  have L8 : ∀ (n12 : Nat) (x3 : Int32) (x4 : Int32) (S5 : kw_S), kw_I (bM T) S5 → kw_FM [20] σ S5 → 0 ≤ x3.toInt → l_X8_farByvn0_0_14 t z2 n12 x4 x3 S5 = (f_X8_farByvn0_0 σ t) → (65 - x3.toInt).toNat < n12 → kw_AW l 2 kw_E0 KM mX8_farBy (p_X8_farByvn0_0 T σ t) 14 [(5, .int x3), (4, .int x4), (3, .int z2), (0, .ref 0), (1, .int 0), (2, .int t)] [] S5 := by
    intro n12
    induction n12 with
    | zero => intro x3 x4 S5 I6 F7 v10 hF m11; exact absurd m11 (Nat.not_lt_zero _)
    | succ n12 ih9 =>
      intro x3 x4 S5 I6 F7 v10 hF m11
      replace hF := kf_st (l_X8_farByvn0_0_14_s _ _ _ _ _ _) hF
      have r_x3 := kw_rng x3
      have r_x4 := kw_rng x4
      refine kw_iload (pc := 14) (i := 9) (k := 0) (n := 5) rfl rfl ?_
      refine kw_iload_n (pc := 16) (i := 10) (k := 4) (n := 1) rfl rfl rfl ?_
      refine kw_if_le (pc := 17) (i := 11) (tgt := 24) rfl rfl (fun c13 => ?_) (fun c13 => ?_)
      · replace hF := kf_nl c13 hF
        refine kw_iconst (pc := 24) (i := 14) (v := 1) rfl rfl ?_
        refine kw_icmp_ge (pc := 25) (i := 15) (tgt := 324) rfl rfl (fun c14 => ?_) (fun c14 => ?_)
        · replace hF := kf_nl c14 hF
          refine kw_iload (pc := 324) (i := 174) (k := 1) (n := 4) rfl rfl ?_
          exact kw_ireturn (pc := 326) (i := 175) (ty := .int) rfl rfl rfl ⟨⟨I6, F7⟩, _, rfl, hF⟩
        · replace hF := kf_p c14 hF
          refine kw_aload_n (pc := 28) (i := 16) (k := 3) (n := 0) rfl rfl rfl ?_
          refine kw_get (pc := 29) (i := 17) (v := .int (S5.1 0 24)) rfl rfl rfl lkX8_172 (fun _ => rfl) ?_
          have b15 := kw_rng (S5.1 0 24)
          refine kw_iload_n (pc := 32) (i := 18) (k := 4) (n := 1) rfl rfl rfl ?_
          refine kw_if_le (pc := 33) (i := 19) (tgt := 46) rfl rfl (fun c16 => ?_) (fun c16 => ?_)
          · replace hF := kf_nl c16 hF
            refine kw_iconst (pc := 46) (i := 25) (v := 0) rfl rfl ?_
            refine kw_iadd (pc := 47) (i := 26) rfl (fun z17 e_z17 t_z17 => ?_)
            replace hF := kf_le e_z17 hF
            first | (have u_z17 : z17.toInt = (S5.1 0 24).toInt + 0 := (by omega); clear t_z17) | skip
            refine kw_istore (pc := 48) (i := 27) (n := 6) (lv' := [(6, .int z17), (5, .int x3), (4, .int x4), (3, .int z2), (0, .ref 0), (1, .int 0), (2, .int t)]) rfl (by decide) rfl ?_
            refine kw_aload_n (pc := 50) (i := 28) (k := 4) (n := 0) rfl rfl rfl ?_
            refine kw_get (pc := 51) (i := 29) (v := .int (S5.1 0 23)) rfl rfl rfl lkX8_169 (fun _ => rfl) ?_
            have b18 := kw_rng (S5.1 0 23)
            refine kw_iload_n (pc := 54) (i := 30) (k := 5) (n := 1) rfl rfl rfl ?_
            refine kw_if_le (pc := 55) (i := 31) (tgt := 68) rfl rfl (fun c19 => ?_) (fun c19 => ?_)
            · replace hF := kf_nl c19 hF
              refine kw_iconst (pc := 68) (i := 37) (v := 0) rfl rfl ?_
              refine kw_iadd (pc := 69) (i := 38) rfl (fun z20 e_z20 t_z20 => ?_)
              replace hF := kf_le e_z20 hF
              first | (have u_z20 : z20.toInt = (S5.1 0 23).toInt + 0 := (by omega); clear t_z20) | skip
              refine kw_istore (pc := 70) (i := 39) (n := 7) (lv' := [(7, .int z20), (6, .int z17), (5, .int x3), (4, .int x4), (3, .int z2), (0, .ref 0), (1, .int 0), (2, .int t)]) rfl (by decide) rfl ?_
              refine kw_iload_n (pc := 72) (i := 40) (k := 6) (n := 1) rfl rfl rfl ?_
              refine kw_if_eq (pc := 73) (i := 41) (tgt := 85) rfl rfl (fun c21 => ?_) (fun c21 => ?_)
              · replace hF := kf_p c21 hF
                refine kw_iconst (pc := 85) (i := 46) (v := 1) rfl rfl ?_
                refine kw_goto (pc := 86) (i := 47) (tgt := 90) rfl rfl ?_
                refine kw_istore (pc := 90) (i := 49) (n := 8) (lv' := [(8, .int 1), (7, .int z20), (6, .int z17), (5, .int x3), (4, .int x4), (3, .int z2), (0, .ref 0), (1, .int 0), (2, .int t)]) rfl (by decide) rfl ?_
                refine kw_iconst (pc := 92) (i := 50) (v := 0) rfl rfl ?_
                refine kw_istore (pc := 93) (i := 51) (n := 9) (lv' := [(9, .int 0), (8, .int 1), (7, .int z20), (6, .int z17), (5, .int x3), (4, .int x4), (3, .int z2), (0, .ref 0), (1, .int 0), (2, .int t)]) rfl (by decide) rfl ?_
                have L27 : ∀ (n31 : Nat) (x22 : Int32) (x23 : Int32) (S24 : kw_S), kw_I (bM T) S24 → kw_FM [20] σ S24 → 0 ≤ x22.toInt → l_X8_farByvn0_0_95 (l_X8_farByvn0_0_14 t z2 n12) t z2 x3 z17 z20 n31 x23 x22 S24 = (f_X8_farByvn0_0 σ t) → (65 - x22.toInt).toNat < n31 → kw_AW l 2 kw_E0 KM mX8_farBy (p_X8_farByvn0_0 T σ t) 95 [(9, .int x22), (8, .int 1), (7, .int z20), (6, .int z17), (5, .int x3), (4, .int x23), (3, .int z2), (0, .ref 0), (1, .int 0), (2, .int t)] [] S24 := by
                  intro n31
                  induction n31 with
                  | zero => intro x22 x23 S24 I25 F26 v29 hF m30; exact absurd m30 (Nat.not_lt_zero _)
                  | succ n31 ih28 =>
                    intro x22 x23 S24 I25 F26 v29 hF m30
                    replace hF := kf_st (l_X8_farByvn0_0_95_s _ _ _ _ _ _ _ _ _ _) hF
                    have r_x22 := kw_rng x22
                    have r_x23 := kw_rng x23
                    refine kw_iload (pc := 95) (i := 52) (k := 1) (n := 8) rfl rfl ?_
                    refine kw_if_eq (pc := 97) (i := 53) (tgt := 318) rfl rfl (fun c32 => ?_) (fun c32 => ?_)
                    · exfalso; omega
                    · replace hF := kf_n c32 hF
                      refine kw_iload (pc := 100) (i := 54) (k := 0) (n := 9) rfl rfl ?_
                      refine kw_iload_n (pc := 102) (i := 55) (k := 8) (n := 1) rfl rfl rfl ?_
                      refine kw_iconst (pc := 103) (i := 56) (v := 1) rfl rfl ?_
                      refine kw_icmp_le (pc := 104) (i := 57) (tgt := 111) rfl rfl (fun c33 => ?_) (fun c33 => ?_)
                      · replace hF := kf_nl c33 hF
                        refine kw_iconst (pc := 111) (i := 60) (v := 1) rfl rfl ?_
                        refine kw_icmp_ge (pc := 112) (i := 61) (tgt := 318) rfl rfl (fun c34 => ?_) (fun c34 => ?_)
                        · replace hF := kf_nl c34 hF
                          refine kw_iinc' (pc := 318) (i := 172) (k := 4) (fun z => [(5, .int z), (9, .int x22), (8, .int 1), (7, .int z20), (6, .int z17), (4, .int x23), (3, .int z2), (0, .ref 0), (1, .int 0), (2, .int t)]) rfl rfl (by decide) rfl (fun _ => rfl) (fun z35 e_z35 t_z35 => ?_)
                          replace hF := kf_le e_z35 hF
                          first | (have u_z35 : z35.toInt = x3.toInt + 1 := (by omega); clear t_z35) | skip
                          refine kw_goto (pc := 321) (i := 173) (tgt := 14) rfl rfl ?_
                          refine kw_sub (lv' := [(5, .int z35), (4, .int x23), (3, .int z2), (0, .ref 0), (1, .int 0), (2, .int t)]) [0, 5, 6, 7, 8, 9] rfl ?_
                          exact ih9 z35 x23 S24 I25 F26 (by omega) hF (by omega)
                        · replace hF := kf_p c34 hF
                          refine kw_iload (pc := 115) (i := 62) (k := 3) (n := 6) rfl rfl ?_
                          refine kw_iload_n (pc := 117) (i := 63) (k := 8) (n := 1) rfl rfl rfl ?_
                          refine kw_iconst (pc := 118) (i := 64) (v := 1) rfl rfl ?_
                          refine kw_icmp_le (pc := 119) (i := 65) (tgt := 135) rfl rfl (fun c36 => ?_) (fun c36 => ?_)
                          · replace hF := kf_nl c36 hF
                            refine kw_iconst (pc := 135) (i := 73) (v := 0) rfl rfl ?_
                            refine kw_iadd (pc := 136) (i := 74) rfl (fun z37 e_z37 t_z37 => ?_)
                            replace hF := kf_le e_z37 hF
                            first | (have u_z37 : z37.toInt = z17.toInt + 0 := (by omega); clear t_z37) | skip
                            refine kw_istore (pc := 137) (i := 75) (n := 10) (lv' := [(10, .int z37), (9, .int x22), (8, .int 1), (7, .int z20), (6, .int z17), (5, .int x3), (4, .int x23), (3, .int z2), (0, .ref 0), (1, .int 0), (2, .int t)]) rfl (by decide) rfl ?_
                            refine kw_iload (pc := 139) (i := 76) (k := 3) (n := 7) rfl rfl ?_
                            refine kw_iload_n (pc := 141) (i := 77) (k := 9) (n := 1) rfl rfl rfl ?_
                            refine kw_iconst (pc := 142) (i := 78) (v := 1) rfl rfl ?_
                            refine kw_icmp_le (pc := 143) (i := 79) (tgt := 159) rfl rfl (fun c38 => ?_) (fun c38 => ?_)
                            · replace hF := kf_nl c38 hF
                              refine kw_iconst (pc := 159) (i := 87) (v := 0) rfl rfl ?_
                              refine kw_iadd (pc := 160) (i := 88) rfl (fun z39 e_z39 t_z39 => ?_)
                              replace hF := kf_le e_z39 hF
                              first | (have u_z39 : z39.toInt = z20.toInt + 0 := (by omega); clear t_z39) | skip
                              refine kw_istore (pc := 161) (i := 89) (n := 11) (lv' := [(11, .int z39), (10, .int z37), (9, .int x22), (8, .int 1), (7, .int z20), (6, .int z17), (5, .int x3), (4, .int x23), (3, .int z2), (0, .ref 0), (1, .int 0), (2, .int t)]) rfl (by decide) rfl ?_
                              refine kw_iload_n (pc := 163) (i := 90) (k := 10) (n := 1) rfl rfl rfl ?_
                              refine kw_iconst (pc := 164) (i := 91) (v := 2) rfl rfl ?_
                              refine kw_icmp_lt (pc := 165) (i := 92) (tgt := 177) rfl rfl (fun c40 => ?_) (fun c40 => ?_)
                              · replace hF := kf_p c40 hF
                                refine kw_iconst (pc := 177) (i := 97) (v := 1) rfl rfl ?_
                                refine kw_goto (pc := 178) (i := 98) (tgt := 182) rfl rfl ?_
                                refine kw_istore (pc := 182) (i := 100) (n := 12) (lv' := [(12, .int 1), (11, .int z39), (10, .int z37), (9, .int x22), (8, .int 1), (7, .int z20), (6, .int z17), (5, .int x3), (4, .int x23), (3, .int z2), (0, .ref 0), (1, .int 0), (2, .int t)]) rfl (by decide) rfl ?_
                                refine kw_iconst (pc := 184) (i := 101) (v := 0) rfl rfl ?_
                                refine kw_istore (pc := 185) (i := 102) (n := 13) (lv' := [(13, .int 0), (12, .int 1), (11, .int z39), (10, .int z37), (9, .int x22), (8, .int 1), (7, .int z20), (6, .int z17), (5, .int x3), (4, .int x23), (3, .int z2), (0, .ref 0), (1, .int 0), (2, .int t)]) rfl (by decide) rfl ?_
                                have L46 : ∀ (n50 : Nat) (x41 : Int32) (x42 : Int32) (S43 : kw_S), kw_I (bM T) S43 → kw_FM [20] σ S43 → 0 ≤ x41.toInt → l_X8_farByvn0_0_187 (l_X8_farByvn0_0_14 t z2 n12) (l_X8_farByvn0_0_95 (l_X8_farByvn0_0_14 t z2 n12) t z2 x3 z17 z20 n31) t z2 x3 z17 z20 x22 z37 z39 n50 x42 x41 S43 = (f_X8_farByvn0_0 σ t) → (65 - x41.toInt).toNat < n50 → kw_AW l 2 kw_E0 KM mX8_farBy (p_X8_farByvn0_0 T σ t) 187 [(13, .int x41), (12, .int 1), (11, .int z39), (10, .int z37), (9, .int x22), (8, .int 1), (7, .int z20), (6, .int z17), (5, .int x3), (4, .int x42), (3, .int z2), (0, .ref 0), (1, .int 0), (2, .int t)] [] S43 := by
                                  intro n50
                                  induction n50 with
                                  | zero => intro x41 x42 S43 I44 F45 v48 hF m49; exact absurd m49 (Nat.not_lt_zero _)
                                  | succ n50 ih47 =>
                                    intro x41 x42 S43 I44 F45 v48 hF m49
                                    replace hF := kf_st (l_X8_farByvn0_0_187_s _ _ _ _ _ _ _ _ _ _ _ _ _ _) hF
                                    have r_x41 := kw_rng x41
                                    have r_x42 := kw_rng x42
                                    refine kw_iload (pc := 187) (i := 103) (k := 1) (n := 12) rfl rfl ?_
                                    refine kw_if_eq (pc := 189) (i := 104) (tgt := 312) rfl rfl (fun c51 => ?_) (fun c51 => ?_)
                                    · exfalso; omega
                                    · replace hF := kf_n c51 hF
                                      refine kw_iload (pc := 192) (i := 105) (k := 0) (n := 13) rfl rfl ?_
                                      refine kw_iload_n (pc := 194) (i := 106) (k := 12) (n := 1) rfl rfl rfl ?_
                                      refine kw_iconst (pc := 195) (i := 107) (v := 2) rfl rfl ?_
                                      refine kw_icmp_le (pc := 196) (i := 108) (tgt := 203) rfl rfl (fun c52 => ?_) (fun c52 => ?_)
                                      · replace hF := kf_nl c52 hF
                                        refine kw_iconst (pc := 203) (i := 111) (v := 1) rfl rfl ?_
                                        refine kw_icmp_ge (pc := 204) (i := 112) (tgt := 312) rfl rfl (fun c53 => ?_) (fun c53 => ?_)
                                        · replace hF := kf_nl c53 hF
                                          refine kw_iinc' (pc := 312) (i := 170) (k := 4) (fun z => [(9, .int z), (13, .int x41), (12, .int 1), (11, .int z39), (10, .int z37), (8, .int 1), (7, .int z20), (6, .int z17), (5, .int x3), (4, .int x42), (3, .int z2), (0, .ref 0), (1, .int 0), (2, .int t)]) rfl rfl (by decide) rfl (fun _ => rfl) (fun z54 e_z54 t_z54 => ?_)
                                          replace hF := kf_le e_z54 hF
                                          first | (have u_z54 : z54.toInt = x22.toInt + 1 := (by omega); clear t_z54) | skip
                                          refine kw_goto (pc := 315) (i := 171) (tgt := 95) rfl rfl ?_
                                          refine kw_sub (lv' := [(9, .int z54), (8, .int 1), (7, .int z20), (6, .int z17), (5, .int x3), (4, .int x42), (3, .int z2), (0, .ref 0), (1, .int 0), (2, .int t)]) [0, 5, 6, 7, 8, 9, 10, 11, 12, 13] rfl ?_
                                          exact ih28 z54 x42 S43 I44 F45 (by omega) hF (by omega)
                                        · replace hF := kf_p c53 hF
                                          refine kw_iload (pc := 207) (i := 113) (k := 3) (n := 10) rfl rfl ?_
                                          refine kw_iload_n (pc := 209) (i := 114) (k := 12) (n := 1) rfl rfl rfl ?_
                                          refine kw_iconst (pc := 210) (i := 115) (v := 2) rfl rfl ?_
                                          refine kw_icmp_le (pc := 211) (i := 116) (tgt := 228) rfl rfl (fun c55 => ?_) (fun c55 => ?_)
                                          · replace hF := kf_nl c55 hF
                                            refine kw_iconst (pc := 228) (i := 124) (v := 0) rfl rfl ?_
                                            refine kw_iadd (pc := 229) (i := 125) rfl (fun z56 e_z56 t_z56 => ?_)
                                            replace hF := kf_le e_z56 hF
                                            first | (have u_z56 : z56.toInt = z37.toInt + 0 := (by omega); clear t_z56) | skip
                                            refine kw_istore (pc := 230) (i := 126) (n := 14) (lv' := [(14, .int z56), (13, .int x41), (12, .int 1), (11, .int z39), (10, .int z37), (9, .int x22), (8, .int 1), (7, .int z20), (6, .int z17), (5, .int x3), (4, .int x42), (3, .int z2), (0, .ref 0), (1, .int 0), (2, .int t)]) rfl (by decide) rfl ?_
                                            refine kw_iload (pc := 232) (i := 127) (k := 3) (n := 11) rfl rfl ?_
                                            refine kw_iload_n (pc := 234) (i := 128) (k := 13) (n := 1) rfl rfl rfl ?_
                                            refine kw_iconst (pc := 235) (i := 129) (v := 2) rfl rfl ?_
                                            refine kw_icmp_le (pc := 236) (i := 130) (tgt := 253) rfl rfl (fun c57 => ?_) (fun c57 => ?_)
                                            · replace hF := kf_nl c57 hF
                                              refine kw_iconst (pc := 253) (i := 138) (v := 0) rfl rfl ?_
                                              refine kw_iadd (pc := 254) (i := 139) rfl (fun z58 e_z58 t_z58 => ?_)
                                              replace hF := kf_le e_z58 hF
                                              first | (have u_z58 : z58.toInt = z39.toInt + 0 := (by omega); clear t_z58) | skip
                                              refine kw_istore (pc := 255) (i := 140) (n := 15) (lv' := [(15, .int z58), (14, .int z56), (13, .int x41), (12, .int 1), (11, .int z39), (10, .int z37), (9, .int x22), (8, .int 1), (7, .int z20), (6, .int z17), (5, .int x3), (4, .int x42), (3, .int z2), (0, .ref 0), (1, .int 0), (2, .int t)]) rfl (by decide) rfl ?_
                                              refine kw_iload_n (pc := 257) (i := 141) (k := 14) (n := 1) rfl rfl rfl ?_
                                              refine kw_iconst (pc := 258) (i := 142) (v := 3) rfl rfl ?_
                                              refine kw_icmp_lt (pc := 259) (i := 143) (tgt := 271) rfl rfl (fun c59 => ?_) (fun c59 => ?_)
                                              · replace hF := kf_p c59 hF
                                                refine kw_iload (pc := 271) (i := 148) (k := 0) (n := 15) rfl rfl ?_
                                                refine kw_iload (pc := 273) (i := 149) (k := 11) (n := 4) rfl rfl ?_
                                                refine kw_icmp_le (pc := 275) (i := 150) (tgt := 306) rfl rfl (fun c60 => ?_) (fun c60 => ?_)
                                                · replace hF := kf_nl c60 hF
                                                  refine kw_iinc' (pc := 306) (i := 168) (k := 2) (fun z => [(13, .int z), (15, .int z58), (14, .int z56), (12, .int 1), (11, .int z39), (10, .int z37), (9, .int x22), (8, .int 1), (7, .int z20), (6, .int z17), (5, .int x3), (4, .int x42), (3, .int z2), (0, .ref 0), (1, .int 0), (2, .int t)]) rfl rfl (by decide) rfl (fun _ => rfl) (fun z61 e_z61 t_z61 => ?_)
                                                  replace hF := kf_le e_z61 hF
                                                  first | (have u_z61 : z61.toInt = x41.toInt + 1 := (by omega); clear t_z61) | skip
                                                  refine kw_goto (pc := 309) (i := 169) (tgt := 187) rfl rfl ?_
                                                  refine kw_sub (lv' := [(13, .int z61), (12, .int 1), (11, .int z39), (10, .int z37), (9, .int x22), (8, .int 1), (7, .int z20), (6, .int z17), (5, .int x3), (4, .int x42), (3, .int z2), (0, .ref 0), (1, .int 0), (2, .int t)]) [0, 3, 4, 5, 6, 7, 8, 9, 10, 11, 12, 13, 14, 15] rfl ?_
                                                  exact ih47 z61 x42 S43 I44 F45 (by omega) hF (by omega)
                                                · replace hF := kf_p c60 hF
                                                  refine kw_iload (pc := 278) (i := 151) (k := 0) (n := 15) rfl rfl ?_
                                                  refine kw_istore (pc := 280) (i := 152) (n := 4) (lv' := [(4, .int z58), (15, .int z58), (14, .int z56), (13, .int x41), (12, .int 1), (11, .int z39), (10, .int z37), (9, .int x22), (8, .int 1), (7, .int z20), (6, .int z17), (5, .int x3), (3, .int z2), (0, .ref 0), (1, .int 0), (2, .int t)]) rfl (by decide) rfl ?_
                                                  refine kw_aload_n (pc := 282) (i := 153) (k := 13) (n := 0) rfl rfl rfl ?_
                                                  refine kw_get (pc := 283) (i := 154) (v := .ref 20) rfl rfl rfl lkX8_75 (fun _ => rfl) ?_
                                                  refine kw_iconst (pc := 286) (i := 155) (v := 0) rfl rfl ?_
                                                  refine kw_iload (pc := 287) (i := 156) (k := 11) (n := 5) rfl rfl ?_
                                                  refine kw_iast (pc := 289) (i := 157) (n := 3) rfl rfl (by omega) (by omega) ?_
                                                  have I62 : kw_I (bM T) (kw_ui S43 20 ((0 : Int32).toNatClampNeg) x3) := kw_I_ui I44 (kw_rng x3).1 (Int.le_of_lt_add_one (kw_rng x3).2)
                                                  have F63 : kw_FM [20] σ (kw_ui S43 20 ((0 : Int32).toNatClampNeg) x3) := kw_FM_ui F45 (by decide) (by decide)
                                                  refine kw_aload_n (pc := 290) (i := 158) (k := 13) (n := 0) rfl rfl rfl ?_
                                                  refine kw_get (pc := 291) (i := 159) (v := .ref 20) rfl rfl rfl lkX8_75 (fun _ => rfl) ?_
                                                  refine kw_iconst (pc := 294) (i := 160) (v := 1) rfl rfl ?_
                                                  refine kw_iload (pc := 295) (i := 161) (k := 7) (n := 9) rfl rfl ?_
                                                  refine kw_iast (pc := 297) (i := 162) (n := 3) rfl rfl (by omega) (by omega) ?_
                                                  have I64 : kw_I (bM T) (kw_ui (kw_ui S43 20 ((0 : Int32).toNatClampNeg) x3) 20 ((1 : Int32).toNatClampNeg) x22) := kw_I_ui I62 (kw_rng x22).1 (Int.le_of_lt_add_one (kw_rng x22).2)
                                                  have F65 : kw_FM [20] σ (kw_ui (kw_ui S43 20 ((0 : Int32).toNatClampNeg) x3) 20 ((1 : Int32).toNatClampNeg) x22) := kw_FM_ui F63 (by decide) (by decide)
                                                  refine kw_aload_n (pc := 298) (i := 163) (k := 13) (n := 0) rfl rfl rfl ?_
                                                  refine kw_get (pc := 299) (i := 164) (v := .ref 20) rfl rfl rfl lkX8_75 (fun _ => rfl) ?_
                                                  refine kw_iconst (pc := 302) (i := 165) (v := 2) rfl rfl ?_
                                                  refine kw_iload (pc := 303) (i := 166) (k := 3) (n := 13) rfl rfl ?_
                                                  refine kw_iast (pc := 305) (i := 167) (n := 3) rfl rfl (by omega) (by omega) ?_
                                                  have I66 : kw_I (bM T) (kw_ui (kw_ui (kw_ui S43 20 ((0 : Int32).toNatClampNeg) x3) 20 ((1 : Int32).toNatClampNeg) x22) 20 ((2 : Int32).toNatClampNeg) x41) := kw_I_ui I64 (kw_rng x41).1 (Int.le_of_lt_add_one (kw_rng x41).2)
                                                  have F67 : kw_FM [20] σ (kw_ui (kw_ui (kw_ui S43 20 ((0 : Int32).toNatClampNeg) x3) 20 ((1 : Int32).toNatClampNeg) x22) 20 ((2 : Int32).toNatClampNeg) x41) := kw_FM_ui F65 (by decide) (by decide)
                                                  refine kw_iinc' (pc := 306) (i := 168) (k := 3) (fun z => [(13, .int z), (4, .int z58), (15, .int z58), (14, .int z56), (12, .int 1), (11, .int z39), (10, .int z37), (9, .int x22), (8, .int 1), (7, .int z20), (6, .int z17), (5, .int x3), (3, .int z2), (0, .ref 0), (1, .int 0), (2, .int t)]) rfl rfl (by decide) rfl (fun _ => rfl) (fun z68 e_z68 t_z68 => ?_)
                                                  replace hF := kf_le e_z68 hF
                                                  first | (have u_z68 : z68.toInt = x41.toInt + 1 := (by omega); clear t_z68) | skip
                                                  refine kw_goto (pc := 309) (i := 169) (tgt := 187) rfl rfl ?_
                                                  refine kw_sub (lv' := [(13, .int z68), (12, .int 1), (11, .int z39), (10, .int z37), (9, .int x22), (8, .int 1), (7, .int z20), (6, .int z17), (5, .int x3), (4, .int z58), (3, .int z2), (0, .ref 0), (1, .int 0), (2, .int t)]) [0, 4, 5, 6, 7, 8, 9, 10, 11, 1, 12, 13, 14, 15] rfl ?_
                                                  exact ih47 z68 z58 (kw_ui (kw_ui (kw_ui S43 20 ((0 : Int32).toNatClampNeg) x3) 20 ((1 : Int32).toNatClampNeg) x22) 20 ((2 : Int32).toNatClampNeg) x41) I66 F67 (by omega) hF (by omega)
                                              · exfalso; omega
                                            · exfalso; omega
                                          · exfalso; omega
                                      · exfalso; omega
                                exact L46 _ 0 x23 S24 I25 F26 (by omega) hF (Nat.lt_succ_self _)
                              · exfalso; omega
                            · exfalso; omega
                          · exfalso; omega
                      · exfalso; omega
                exact L27 _ 0 x4 S5 I6 F7 (by omega) hF (Nat.lt_succ_self _)
              · exfalso; omega
            · exfalso; omega
          · exfalso; omega
      · exfalso; omega
  exact L8 _ 0 (-1048576) σ hI hF0 (by omega) hF (Nat.lt_succ_self _)
noncomputable def l_X8_farByvn1_0_95 (k14 : Int32 → Int32 → kw_S → Int32 × kw_S) (a2 : Int32) (a3 : Int32) (a5 : Int32) (a6 : Int32) (a7 : Int32) : Nat → Int32 → Int32 → kw_S → Int32 × kw_S
  | 0, _, _, S => (0, S)
  | n + 1, x4, x9, S => if (0 : Int32).toInt = 0 then (kf_l (a5 + Int32.ofInt 1) fun z7 => k14 x4 z7 S) else ((0, S))
theorem l_X8_farByvn1_0_95_s (k14 : Int32 → Int32 → kw_S → Int32 × kw_S) (a2 : Int32) (a3 : Int32) (a5 : Int32) (a6 : Int32) (a7 : Int32) (n : Nat) (x4 : Int32) (x9 : Int32) (S : kw_S) : l_X8_farByvn1_0_95 k14 a2 a3 a5 a6 a7 (n + 1) x4 x9 S = if (0 : Int32).toInt = 0 then (kf_l (a5 + Int32.ofInt 1) fun z7 => k14 x4 z7 S) else ((0, S)) := rfl
noncomputable def l_X8_farByvn1_0_187 (k14 : Int32 → Int32 → kw_S → Int32 × kw_S) (k95 : Int32 → Int32 → kw_S → Int32 × kw_S) (a2 : Int32) (a3 : Int32) (a5 : Int32) (a6 : Int32) (a7 : Int32) (a9 : Int32) (a10 : Int32) (a11 : Int32) : Nat → Int32 → Int32 → kw_S → Int32 × kw_S
  | 0, _, _, S => (0, S)
  | n + 1, x4, x13, S => if (1 : Int32).toInt = 0 then ((0, S)) else (if (2 : Int32).toInt < (1 : Int32).toInt then ((0, S)) else (if x13.toInt < (1 : Int32).toInt then (if (2 : Int32).toInt < (1 : Int32).toInt then ((0, S)) else (kf_l (a10 + (0 : Int32)) fun z12 => if (2 : Int32).toInt < (1 : Int32).toInt then ((0, S)) else (kf_l (a11 + (0 : Int32)) fun z13 => if (1 : Int32).toInt < (3 : Int32).toInt then (if x4.toInt < z13.toInt then (kf_l (x13 + Int32.ofInt 1) fun z15 => l_X8_farByvn1_0_187 k14 k95 a2 a3 a5 a6 a7 a9 a10 a11 n z13 z15 (kw_ui (kw_ui (kw_ui S 20 ((0 : Int32).toNatClampNeg) a5) 20 ((1 : Int32).toNatClampNeg) a9) 20 ((2 : Int32).toNatClampNeg) x13)) else (kf_l (x13 + Int32.ofInt 1) fun z14 => l_X8_farByvn1_0_187 k14 k95 a2 a3 a5 a6 a7 a9 a10 a11 n x4 z14 S)) else ((0, S))))) else (kf_l (a9 + Int32.ofInt 1) fun z11 => k95 x4 z11 S)))
theorem l_X8_farByvn1_0_187_s (k14 : Int32 → Int32 → kw_S → Int32 × kw_S) (k95 : Int32 → Int32 → kw_S → Int32 × kw_S) (a2 : Int32) (a3 : Int32) (a5 : Int32) (a6 : Int32) (a7 : Int32) (a9 : Int32) (a10 : Int32) (a11 : Int32) (n : Nat) (x4 : Int32) (x13 : Int32) (S : kw_S) : l_X8_farByvn1_0_187 k14 k95 a2 a3 a5 a6 a7 a9 a10 a11 (n + 1) x4 x13 S = if (1 : Int32).toInt = 0 then ((0, S)) else (if (2 : Int32).toInt < (1 : Int32).toInt then ((0, S)) else (if x13.toInt < (1 : Int32).toInt then (if (2 : Int32).toInt < (1 : Int32).toInt then ((0, S)) else (kf_l (a10 + (0 : Int32)) fun z12 => if (2 : Int32).toInt < (1 : Int32).toInt then ((0, S)) else (kf_l (a11 + (0 : Int32)) fun z13 => if (1 : Int32).toInt < (3 : Int32).toInt then (if x4.toInt < z13.toInt then (kf_l (x13 + Int32.ofInt 1) fun z15 => l_X8_farByvn1_0_187 k14 k95 a2 a3 a5 a6 a7 a9 a10 a11 n z13 z15 (kw_ui (kw_ui (kw_ui S 20 ((0 : Int32).toNatClampNeg) a5) 20 ((1 : Int32).toNatClampNeg) a9) 20 ((2 : Int32).toNatClampNeg) x13)) else (kf_l (x13 + Int32.ofInt 1) fun z14 => l_X8_farByvn1_0_187 k14 k95 a2 a3 a5 a6 a7 a9 a10 a11 n x4 z14 S)) else ((0, S))))) else (kf_l (a9 + Int32.ofInt 1) fun z11 => k95 x4 z11 S))) := rfl
noncomputable def l_X8_farByvn1_0_95a (k14 : Int32 → Int32 → kw_S → Int32 × kw_S) (a2 : Int32) (a3 : Int32) (a5 : Int32) (a6 : Int32) (a7 : Int32) : Nat → Int32 → Int32 → kw_S → Int32 × kw_S
  | 0, _, _, S => (0, S)
  | n + 1, x4, x9, S => if (1 : Int32).toInt = 0 then ((0, S)) else (if (1 : Int32).toInt < (1 : Int32).toInt then ((0, S)) else (if x9.toInt < (1 : Int32).toInt then (if (1 : Int32).toInt < (1 : Int32).toInt then ((0, S)) else (kf_l (a6 + (0 : Int32)) fun z9 => if (1 : Int32).toInt < (1 : Int32).toInt then ((0, S)) else (kf_l (a7 + (0 : Int32)) fun z10 => if (1 : Int32).toInt < (2 : Int32).toInt then (l_X8_farByvn1_0_187 k14 (l_X8_farByvn1_0_95a k14 a2 a3 a5 a6 a7 n) a2 a3 a5 a6 a7 x9 z9 z10 ((65 - (0 : Int32).toInt).toNat + 1) x4 (0 : Int32) S) else ((0, S))))) else (kf_l (a5 + Int32.ofInt 1) fun z8 => k14 x4 z8 S)))
theorem l_X8_farByvn1_0_95a_s (k14 : Int32 → Int32 → kw_S → Int32 × kw_S) (a2 : Int32) (a3 : Int32) (a5 : Int32) (a6 : Int32) (a7 : Int32) (n : Nat) (x4 : Int32) (x9 : Int32) (S : kw_S) : l_X8_farByvn1_0_95a k14 a2 a3 a5 a6 a7 (n + 1) x4 x9 S = if (1 : Int32).toInt = 0 then ((0, S)) else (if (1 : Int32).toInt < (1 : Int32).toInt then ((0, S)) else (if x9.toInt < (1 : Int32).toInt then (if (1 : Int32).toInt < (1 : Int32).toInt then ((0, S)) else (kf_l (a6 + (0 : Int32)) fun z9 => if (1 : Int32).toInt < (1 : Int32).toInt then ((0, S)) else (kf_l (a7 + (0 : Int32)) fun z10 => if (1 : Int32).toInt < (2 : Int32).toInt then (l_X8_farByvn1_0_187 k14 (l_X8_farByvn1_0_95a k14 a2 a3 a5 a6 a7 n) a2 a3 a5 a6 a7 x9 z9 z10 ((65 - (0 : Int32).toInt).toNat + 1) x4 (0 : Int32) S) else ((0, S))))) else (kf_l (a5 + Int32.ofInt 1) fun z8 => k14 x4 z8 S))) := rfl
noncomputable def l_X8_farByvn1_0_14 (a2 : Int32) (a3 : Int32) : Nat → Int32 → Int32 → kw_S → Int32 × kw_S
  | 0, _, _, S => (0, S)
  | n + 1, x4, x5, S => if 0 < (1 : Int32).toInt then (if x5.toInt < a3.toInt then (if 0 < (1 : Int32).toInt then (kf_l (S.1 19 x5.toNatClampNeg) fun z2 => kf_l ((S.1 0 24) + z2) fun z3 => if 0 < (1 : Int32).toInt then (kf_l (S.1 18 x5.toNatClampNeg) fun z4 => kf_l ((S.1 0 23) + z4) fun z5 => if (1 : Int32).toInt = 0 then ((0, S)) else (kf_l (f_X8_isTurn S z3 a2) fun z6 => if z6.toInt = 0 then (l_X8_farByvn1_0_95 (l_X8_farByvn1_0_14 a2 a3 n) a2 a3 x5 z3 z5 ((65 - (0 : Int32).toInt).toNat + 1) x4 (0 : Int32) S) else (l_X8_farByvn1_0_95a (l_X8_farByvn1_0_14 a2 a3 n) a2 a3 x5 z3 z5 ((65 - (0 : Int32).toInt).toNat + 1) x4 (0 : Int32) S))) else ((0, S))) else ((0, S))) else ((x4, S))) else ((0, S))
theorem l_X8_farByvn1_0_14_s (a2 : Int32) (a3 : Int32) (n : Nat) (x4 : Int32) (x5 : Int32) (S : kw_S) : l_X8_farByvn1_0_14 a2 a3 (n + 1) x4 x5 S = if 0 < (1 : Int32).toInt then (if x5.toInt < a3.toInt then (if 0 < (1 : Int32).toInt then (kf_l (S.1 19 x5.toNatClampNeg) fun z2 => kf_l ((S.1 0 24) + z2) fun z3 => if 0 < (1 : Int32).toInt then (kf_l (S.1 18 x5.toNatClampNeg) fun z4 => kf_l ((S.1 0 23) + z4) fun z5 => if (1 : Int32).toInt = 0 then ((0, S)) else (kf_l (f_X8_isTurn S z3 a2) fun z6 => if z6.toInt = 0 then (l_X8_farByvn1_0_95 (l_X8_farByvn1_0_14 a2 a3 n) a2 a3 x5 z3 z5 ((65 - (0 : Int32).toInt).toNat + 1) x4 (0 : Int32) S) else (l_X8_farByvn1_0_95a (l_X8_farByvn1_0_14 a2 a3 n) a2 a3 x5 z3 z5 ((65 - (0 : Int32).toInt).toNat + 1) x4 (0 : Int32) S))) else ((0, S))) else ((0, S))) else ((x4, S))) else ((0, S)) := rfl
noncomputable def f_X8_farByvn1_0 (σ : kw_S) (t : Int32) : Int32 × kw_S := kf_l ((1 : Int32) <<< ((σ.1 0 10) &&& 31)) fun z1 => l_X8_farByvn1_0_14 t z1 ((65 - (0 : Int32).toInt).toNat + 1) ((-1048576) : Int32) (0 : Int32) σ
theorem f_X8_farByvn1_0_u (σ : kw_S) (t : Int32) : f_X8_farByvn1_0 σ t = kf_l ((1 : Int32) <<< ((σ.1 0 10) &&& 31)) fun z1 => l_X8_farByvn1_0_14 t z1 ((65 - (0 : Int32).toInt).toNat + 1) ((-1048576) : Int32) (0 : Int32) σ := rfl
abbrev p_X8_farByvn1_0 (T : Int) (σ : kw_S) (t : Int32) : Option Value → kw_S → Prop := fun vv σ' => (kw_I (bM T) σ' ∧ kw_FM [20] σ σ') ∧ ∃ r : Int32, vv = some (.int r) ∧ (r, σ') = f_X8_farByvn1_0 σ t
set_option maxRecDepth 100000 in
set_option maxHeartbeats 4000000 in
theorem c_X8_farByvn1_0 (l : Launch) (T : Int) (hT0 : 0 ≤ T) (hT1 : T ≤ 3000) (σ : kw_S) (hI : kw_I (bM T) σ) (t : Int32) : kw_Met l 2 KM mX8_farBy [.ref 0, .int 1, .int t] σ (p_X8_farByvn1_0 T σ t) := by
  have r_t := kw_rng t
  have hF0 : kw_FM [20] σ σ := kw_FM.rf
  have hF := (f_X8_farByvn1_0_u σ t).symm
  have q_m1048576 : (-1048576 : Int32).toInt = -1048576 := rfl
  have q_0 : (0 : Int32).toInt = 0 := rfl
  have q_1 : (1 : Int32).toInt = 1 := rfl
  have q_2 : (2 : Int32).toInt = 2 := rfl
  have q_3 : (3 : Int32).toInt = 3 := rfl
  refine kw_Met.of (by decide) rfl tX8_farBy (Nat.le_of_ble_eq_true rfl) ?_
  show kw_AW l 2 kw_E0 KM mX8_farBy (p_X8_farByvn1_0 T σ t) 0 [(0, .ref 0), (1, .int 1), (2, .int t)] [] σ
  refine kw_iconst (pc := 0) (i := 0) (v := 1) rfl rfl ?_
  refine kw_aload_n (pc := 1) (i := 1) (k := 0) (n := 0) rfl rfl rfl ?_
  refine kw_get (pc := 2) (i := 2) (v := .int (σ.1 0 10)) rfl rfl rfl lkX8_163 (fun _ => rfl) ?_
  have b1 : 0 ≤ (σ.1 0 10).toInt ∧ (σ.1 0 10).toInt ≤ 6 := hI 0 10
  refine kw_ishl (pc := 5) (i := 3) rfl (fun z2 e_z2 => ?_)
  have r_z2 := kw_rng z2
  replace hF := kf_le e_z2 hF
  have t_z2 := kw_shlm (σ.1 0 10) z2 e_z2
  first | (replace t_z2 := And.intro (t_z2.1 (by omega) (by omega)) (t_z2.2 (by omega) (by omega))) | (replace t_z2 := t_z2.1 (by omega) (by omega)) | skip
  have u_z2 := congrArg Int32.toInt e_z2
  refine kw_istore_n (pc := 6) (i := 4) (n := 3) (lv' := [(3, .int z2), (0, .ref 0), (1, .int 1), (2, .int t)]) rfl rfl (by decide) rfl ?_
  refine kw_ldc (pc := 7) (i := 5) (v := (-1048576)) rfl ckX8_255 ?_
  refine kw_istore (pc := 9) (i := 6) (n := 4) (lv' := [(4, .int (-1048576)), (3, .int z2), (0, .ref 0), (1, .int 1), (2, .int t)]) rfl (by decide) rfl ?_
  refine kw_iconst (pc := 11) (i := 7) (v := 0) rfl rfl ?_
  refine kw_istore (pc := 12) (i := 8) (n := 5) (lv' := [(5, .int 0), (4, .int (-1048576)), (3, .int z2), (0, .ref 0), (1, .int 1), (2, .int t)]) rfl (by decide) rfl ?_
  have L8 : ∀ (n12 : Nat) (x3 : Int32) (x4 : Int32) (S5 : kw_S), kw_I (bM T) S5 → kw_FM [20] σ S5 → 0 ≤ x3.toInt → l_X8_farByvn1_0_14 t z2 n12 x4 x3 S5 = (f_X8_farByvn1_0 σ t) → (65 - x3.toInt).toNat < n12 → kw_AW l 2 kw_E0 KM mX8_farBy (p_X8_farByvn1_0 T σ t) 14 [(5, .int x3), (4, .int x4), (3, .int z2), (0, .ref 0), (1, .int 1), (2, .int t)] [] S5 := by
    intro n12
    induction n12 with
    | zero => intro x3 x4 S5 I6 F7 v10 hF m11; exact absurd m11 (Nat.not_lt_zero _)
    | succ n12 ih9 =>
      intro x3 x4 S5 I6 F7 v10 hF m11
      replace hF := kf_st (l_X8_farByvn1_0_14_s _ _ _ _ _ _) hF
      have r_x3 := kw_rng x3
      have r_x4 := kw_rng x4
      refine kw_iload (pc := 14) (i := 9) (k := 0) (n := 5) rfl rfl ?_
      refine kw_iload_n (pc := 16) (i := 10) (k := 4) (n := 1) rfl rfl rfl ?_
      refine kw_if_le (pc := 17) (i := 11) (tgt := 24) rfl rfl (fun c13 => ?_) (fun c13 => ?_)
      · exfalso; omega
      · replace hF := kf_p c13 hF
        refine kw_iload_n (pc := 20) (i := 12) (k := 2) (n := 3) rfl rfl rfl ?_
        refine kw_goto (pc := 21) (i := 13) (tgt := 25) rfl rfl ?_
        refine kw_icmp_ge (pc := 25) (i := 15) (tgt := 324) rfl rfl (fun c14 => ?_) (fun c14 => ?_)
        · replace hF := kf_nl c14 hF
          refine kw_iload (pc := 324) (i := 174) (k := 1) (n := 4) rfl rfl ?_
          exact kw_ireturn (pc := 326) (i := 175) (ty := .int) rfl rfl rfl ⟨⟨I6, F7⟩, _, rfl, hF⟩
        · replace hF := kf_p c14 hF
          refine kw_aload_n (pc := 28) (i := 16) (k := 3) (n := 0) rfl rfl rfl ?_
          refine kw_get (pc := 29) (i := 17) (v := .int (S5.1 0 24)) rfl rfl rfl lkX8_172 (fun _ => rfl) ?_
          have b15 := kw_rng (S5.1 0 24)
          refine kw_iload_n (pc := 32) (i := 18) (k := 4) (n := 1) rfl rfl rfl ?_
          refine kw_if_le (pc := 33) (i := 19) (tgt := 46) rfl rfl (fun c16 => ?_) (fun c16 => ?_)
          · exfalso; omega
          · replace hF := kf_p c16 hF
            refine kw_aload_n (pc := 36) (i := 20) (k := 3) (n := 0) rfl rfl rfl ?_
            refine kw_get (pc := 37) (i := 21) (v := .ref 19) rfl rfl rfl lkX8_72 (fun _ => rfl) ?_
            refine kw_iload (pc := 40) (i := 22) (k := 0) (n := 5) rfl rfl ?_
            refine kw_iald (pc := 42) (i := 23) (n := 192) rfl rfl (by omega) (by omega) (fun z17 e_z17 => ?_)
            replace hF := kf_le e_z17 hF
            have t_z17 := congrArg Int32.toInt e_z17
            have r_z17 := kw_rng z17
            refine kw_goto (pc := 43) (i := 24) (tgt := 47) rfl rfl ?_
            refine kw_iadd (pc := 47) (i := 26) rfl (fun z18 e_z18 t_z18 => ?_)
            replace hF := kf_le e_z18 hF
            first | (have u_z18 : z18.toInt = (S5.1 0 24).toInt + z17.toInt := (by omega); clear t_z18) | skip
            refine kw_istore (pc := 48) (i := 27) (n := 6) (lv' := [(6, .int z18), (5, .int x3), (4, .int x4), (3, .int z2), (0, .ref 0), (1, .int 1), (2, .int t)]) rfl (by decide) rfl ?_
            refine kw_aload_n (pc := 50) (i := 28) (k := 4) (n := 0) rfl rfl rfl ?_
            refine kw_get (pc := 51) (i := 29) (v := .int (S5.1 0 23)) rfl rfl rfl lkX8_169 (fun _ => rfl) ?_
            have b19 := kw_rng (S5.1 0 23)
            refine kw_iload_n (pc := 54) (i := 30) (k := 5) (n := 1) rfl rfl rfl ?_
            refine kw_if_le (pc := 55) (i := 31) (tgt := 68) rfl rfl (fun c20 => ?_) (fun c20 => ?_)
            · exfalso; omega
            · replace hF := kf_p c20 hF
              refine kw_aload_n (pc := 58) (i := 32) (k := 4) (n := 0) rfl rfl rfl ?_
              refine kw_get (pc := 59) (i := 33) (v := .ref 18) rfl rfl rfl lkX8_69 (fun _ => rfl) ?_
              refine kw_iload (pc := 62) (i := 34) (k := 1) (n := 5) rfl rfl ?_
              refine kw_iald (pc := 64) (i := 35) (n := 192) rfl rfl (by omega) (by omega) (fun z21 e_z21 => ?_)
              replace hF := kf_le e_z21 hF
              have t_z21 := congrArg Int32.toInt e_z21
              have r_z21 := kw_rng z21
              refine kw_goto (pc := 65) (i := 36) (tgt := 69) rfl rfl ?_
              refine kw_iadd (pc := 69) (i := 38) rfl (fun z22 e_z22 t_z22 => ?_)
              replace hF := kf_le e_z22 hF
              first | (have u_z22 : z22.toInt = (S5.1 0 23).toInt + z21.toInt := (by omega); clear t_z22) | skip
              refine kw_istore (pc := 70) (i := 39) (n := 7) (lv' := [(7, .int z22), (6, .int z18), (5, .int x3), (4, .int x4), (3, .int z2), (0, .ref 0), (1, .int 1), (2, .int t)]) rfl (by decide) rfl ?_
              refine kw_iload_n (pc := 72) (i := 40) (k := 6) (n := 1) rfl rfl rfl ?_
              refine kw_if_eq (pc := 73) (i := 41) (tgt := 85) rfl rfl (fun c23 => ?_) (fun c23 => ?_)
              · exfalso; omega
              · replace hF := kf_n c23 hF
                refine kw_iload (pc := 76) (i := 42) (k := 1) (n := 6) rfl rfl ?_
                refine kw_iload_n (pc := 78) (i := 43) (k := 7) (n := 2) rfl rfl rfl ?_
                refine kw_callS (pc := 79) (i := 44) (Y := mX8_isTurn) (As := [.int z18, .int t]) (st := []) kw_hE rfl lsX8_256 arX8_isTurn (c_X8_isTurn l T hT0 hT1 S5 I6 z18 t ) (by decide) (Nat.le_of_ble_eq_true rfl) rfl (fun v S25 p24 => ?_)
                obtain ⟨e29, z28, rfl, f26, ef27⟩ := p24
                rw [e29]
                replace hF := kf_le ef27 hF
                have r_z28 := kw_rng z28
                show kw_AW l 2 kw_E0 KM mX8_farBy (p_X8_farByvn1_0 T σ t) 82 [(7, .int z22), (6, .int z18), (5, .int x3), (4, .int x4), (3, .int z2), (0, .ref 0), (1, .int 1), (2, .int t)] [.int z28] S5
                refine kw_if_eq (pc := 82) (i := 45) (tgt := 89) rfl rfl (fun c30 => ?_) (fun c30 => ?_)
                · replace hF := kf_p c30 hF
                  refine kw_iconst (pc := 89) (i := 48) (v := 0) rfl rfl ?_
                  refine kw_istore (pc := 90) (i := 49) (n := 8) (lv' := [(8, .int 0), (7, .int z22), (6, .int z18), (5, .int x3), (4, .int x4), (3, .int z2), (0, .ref 0), (1, .int 1), (2, .int t)]) rfl (by decide) rfl ?_
                  refine kw_iconst (pc := 92) (i := 50) (v := 0) rfl rfl ?_
                  refine kw_istore (pc := 93) (i := 51) (n := 9) (lv' := [(9, .int 0), (8, .int 0), (7, .int z22), (6, .int z18), (5, .int x3), (4, .int x4), (3, .int z2), (0, .ref 0), (1, .int 1), (2, .int t)]) rfl (by decide) rfl ?_
                  have L36 : ∀ (n40 : Nat) (x31 : Int32) (x32 : Int32) (S33 : kw_S), kw_I (bM T) S33 → kw_FM [20] σ S33 → 0 ≤ x31.toInt → l_X8_farByvn1_0_95 (l_X8_farByvn1_0_14 t z2 n12) t z2 x3 z18 z22 n40 x32 x31 S33 = (f_X8_farByvn1_0 σ t) → (65 - x31.toInt).toNat < n40 → kw_AW l 2 kw_E0 KM mX8_farBy (p_X8_farByvn1_0 T σ t) 95 [(9, .int x31), (8, .int 0), (7, .int z22), (6, .int z18), (5, .int x3), (4, .int x32), (3, .int z2), (0, .ref 0), (1, .int 1), (2, .int t)] [] S33 := by
                    intro n40
                    induction n40 with
                    | zero => intro x31 x32 S33 I34 F35 v38 hF m39; exact absurd m39 (Nat.not_lt_zero _)
                    | succ n40 ih37 =>
                      intro x31 x32 S33 I34 F35 v38 hF m39
                      replace hF := kf_st (l_X8_farByvn1_0_95_s _ _ _ _ _ _ _ _ _ _) hF
                      have r_x31 := kw_rng x31
                      have r_x32 := kw_rng x32
                      refine kw_iload (pc := 95) (i := 52) (k := 1) (n := 8) rfl rfl ?_
                      refine kw_if_eq (pc := 97) (i := 53) (tgt := 318) rfl rfl (fun c41 => ?_) (fun c41 => ?_)
                      · replace hF := kf_p c41 hF
                        refine kw_iinc' (pc := 318) (i := 172) (k := 4) (fun z => [(5, .int z), (9, .int x31), (8, .int 0), (7, .int z22), (6, .int z18), (4, .int x32), (3, .int z2), (0, .ref 0), (1, .int 1), (2, .int t)]) rfl rfl (by decide) rfl (fun _ => rfl) (fun z42 e_z42 t_z42 => ?_)
                        replace hF := kf_le e_z42 hF
                        first | (have u_z42 : z42.toInt = x3.toInt + 1 := (by omega); clear t_z42) | skip
                        refine kw_goto (pc := 321) (i := 173) (tgt := 14) rfl rfl ?_
                        refine kw_sub (lv' := [(5, .int z42), (4, .int x32), (3, .int z2), (0, .ref 0), (1, .int 1), (2, .int t)]) [0, 5, 6, 7, 8, 9] rfl ?_
                        exact ih9 z42 x32 S33 I34 F35 (by omega) hF (by omega)
                      · exfalso; omega
                  exact L36 _ 0 x4 S5 I6 F7 (by omega) hF (Nat.lt_succ_self _)
                · replace hF := kf_n c30 hF
                  refine kw_iconst (pc := 85) (i := 46) (v := 1) rfl rfl ?_
                  refine kw_goto (pc := 86) (i := 47) (tgt := 90) rfl rfl ?_
                  refine kw_istore (pc := 90) (i := 49) (n := 8) (lv' := [(8, .int 1), (7, .int z22), (6, .int z18), (5, .int x3), (4, .int x4), (3, .int z2), (0, .ref 0), (1, .int 1), (2, .int t)]) rfl (by decide) rfl ?_
                  refine kw_iconst (pc := 92) (i := 50) (v := 0) rfl rfl ?_
                  refine kw_istore (pc := 93) (i := 51) (n := 9) (lv' := [(9, .int 0), (8, .int 1), (7, .int z22), (6, .int z18), (5, .int x3), (4, .int x4), (3, .int z2), (0, .ref 0), (1, .int 1), (2, .int t)]) rfl (by decide) rfl ?_
                  have L48 : ∀ (n52 : Nat) (x43 : Int32) (x44 : Int32) (S45 : kw_S), kw_I (bM T) S45 → kw_FM [20] σ S45 → 0 ≤ x43.toInt → l_X8_farByvn1_0_95a (l_X8_farByvn1_0_14 t z2 n12) t z2 x3 z18 z22 n52 x44 x43 S45 = (f_X8_farByvn1_0 σ t) → (65 - x43.toInt).toNat < n52 → kw_AW l 2 kw_E0 KM mX8_farBy (p_X8_farByvn1_0 T σ t) 95 [(9, .int x43), (8, .int 1), (7, .int z22), (6, .int z18), (5, .int x3), (4, .int x44), (3, .int z2), (0, .ref 0), (1, .int 1), (2, .int t)] [] S45 := by
                    intro n52
                    induction n52 with
                    | zero => intro x43 x44 S45 I46 F47 v50 hF m51; exact absurd m51 (Nat.not_lt_zero _)
                    | succ n52 ih49 =>
                      intro x43 x44 S45 I46 F47 v50 hF m51
                      replace hF := kf_st (l_X8_farByvn1_0_95a_s _ _ _ _ _ _ _ _ _ _) hF
                      have r_x43 := kw_rng x43
                      have r_x44 := kw_rng x44
                      refine kw_iload (pc := 95) (i := 52) (k := 1) (n := 8) rfl rfl ?_
                      refine kw_if_eq (pc := 97) (i := 53) (tgt := 318) rfl rfl (fun c53 => ?_) (fun c53 => ?_)
                      · exfalso; omega
                      · replace hF := kf_n c53 hF
                        refine kw_iload (pc := 100) (i := 54) (k := 0) (n := 9) rfl rfl ?_
                        refine kw_iload_n (pc := 102) (i := 55) (k := 8) (n := 1) rfl rfl rfl ?_
                        refine kw_iconst (pc := 103) (i := 56) (v := 1) rfl rfl ?_
                        refine kw_icmp_le (pc := 104) (i := 57) (tgt := 111) rfl rfl (fun c54 => ?_) (fun c54 => ?_)
                        · replace hF := kf_nl c54 hF
                          refine kw_iconst (pc := 111) (i := 60) (v := 1) rfl rfl ?_
                          refine kw_icmp_ge (pc := 112) (i := 61) (tgt := 318) rfl rfl (fun c55 => ?_) (fun c55 => ?_)
                          · replace hF := kf_nl c55 hF
                            refine kw_iinc' (pc := 318) (i := 172) (k := 4) (fun z => [(5, .int z), (9, .int x43), (8, .int 1), (7, .int z22), (6, .int z18), (4, .int x44), (3, .int z2), (0, .ref 0), (1, .int 1), (2, .int t)]) rfl rfl (by decide) rfl (fun _ => rfl) (fun z56 e_z56 t_z56 => ?_)
                            replace hF := kf_le e_z56 hF
                            first | (have u_z56 : z56.toInt = x3.toInt + 1 := (by omega); clear t_z56) | skip
                            refine kw_goto (pc := 321) (i := 173) (tgt := 14) rfl rfl ?_
                            refine kw_sub (lv' := [(5, .int z56), (4, .int x44), (3, .int z2), (0, .ref 0), (1, .int 1), (2, .int t)]) [0, 5, 6, 7, 8, 9] rfl ?_
                            exact ih9 z56 x44 S45 I46 F47 (by omega) hF (by omega)
                          · replace hF := kf_p c55 hF
                            refine kw_iload (pc := 115) (i := 62) (k := 3) (n := 6) rfl rfl ?_
                            refine kw_iload_n (pc := 117) (i := 63) (k := 8) (n := 1) rfl rfl rfl ?_
                            refine kw_iconst (pc := 118) (i := 64) (v := 1) rfl rfl ?_
                            refine kw_icmp_le (pc := 119) (i := 65) (tgt := 135) rfl rfl (fun c57 => ?_) (fun c57 => ?_)
                            · replace hF := kf_nl c57 hF
                              refine kw_iconst (pc := 135) (i := 73) (v := 0) rfl rfl ?_
                              refine kw_iadd (pc := 136) (i := 74) rfl (fun z58 e_z58 t_z58 => ?_)
                              replace hF := kf_le e_z58 hF
                              first | (have u_z58 : z58.toInt = z18.toInt + 0 := (by omega); clear t_z58) | skip
                              refine kw_istore (pc := 137) (i := 75) (n := 10) (lv' := [(10, .int z58), (9, .int x43), (8, .int 1), (7, .int z22), (6, .int z18), (5, .int x3), (4, .int x44), (3, .int z2), (0, .ref 0), (1, .int 1), (2, .int t)]) rfl (by decide) rfl ?_
                              refine kw_iload (pc := 139) (i := 76) (k := 3) (n := 7) rfl rfl ?_
                              refine kw_iload_n (pc := 141) (i := 77) (k := 9) (n := 1) rfl rfl rfl ?_
                              refine kw_iconst (pc := 142) (i := 78) (v := 1) rfl rfl ?_
                              refine kw_icmp_le (pc := 143) (i := 79) (tgt := 159) rfl rfl (fun c59 => ?_) (fun c59 => ?_)
                              · replace hF := kf_nl c59 hF
                                refine kw_iconst (pc := 159) (i := 87) (v := 0) rfl rfl ?_
                                refine kw_iadd (pc := 160) (i := 88) rfl (fun z60 e_z60 t_z60 => ?_)
                                replace hF := kf_le e_z60 hF
                                first | (have u_z60 : z60.toInt = z22.toInt + 0 := (by omega); clear t_z60) | skip
                                refine kw_istore (pc := 161) (i := 89) (n := 11) (lv' := [(11, .int z60), (10, .int z58), (9, .int x43), (8, .int 1), (7, .int z22), (6, .int z18), (5, .int x3), (4, .int x44), (3, .int z2), (0, .ref 0), (1, .int 1), (2, .int t)]) rfl (by decide) rfl ?_
                                refine kw_iload_n (pc := 163) (i := 90) (k := 10) (n := 1) rfl rfl rfl ?_
                                refine kw_iconst (pc := 164) (i := 91) (v := 2) rfl rfl ?_
                                refine kw_icmp_lt (pc := 165) (i := 92) (tgt := 177) rfl rfl (fun c61 => ?_) (fun c61 => ?_)
                                · replace hF := kf_p c61 hF
                                  refine kw_iconst (pc := 177) (i := 97) (v := 1) rfl rfl ?_
                                  refine kw_goto (pc := 178) (i := 98) (tgt := 182) rfl rfl ?_
                                  refine kw_istore (pc := 182) (i := 100) (n := 12) (lv' := [(12, .int 1), (11, .int z60), (10, .int z58), (9, .int x43), (8, .int 1), (7, .int z22), (6, .int z18), (5, .int x3), (4, .int x44), (3, .int z2), (0, .ref 0), (1, .int 1), (2, .int t)]) rfl (by decide) rfl ?_
                                  refine kw_iconst (pc := 184) (i := 101) (v := 0) rfl rfl ?_
                                  refine kw_istore (pc := 185) (i := 102) (n := 13) (lv' := [(13, .int 0), (12, .int 1), (11, .int z60), (10, .int z58), (9, .int x43), (8, .int 1), (7, .int z22), (6, .int z18), (5, .int x3), (4, .int x44), (3, .int z2), (0, .ref 0), (1, .int 1), (2, .int t)]) rfl (by decide) rfl ?_
                                  have L67 : ∀ (n71 : Nat) (x62 : Int32) (x63 : Int32) (S64 : kw_S), kw_I (bM T) S64 → kw_FM [20] σ S64 → 0 ≤ x62.toInt → l_X8_farByvn1_0_187 (l_X8_farByvn1_0_14 t z2 n12) (l_X8_farByvn1_0_95a (l_X8_farByvn1_0_14 t z2 n12) t z2 x3 z18 z22 n52) t z2 x3 z18 z22 x43 z58 z60 n71 x63 x62 S64 = (f_X8_farByvn1_0 σ t) → (65 - x62.toInt).toNat < n71 → kw_AW l 2 kw_E0 KM mX8_farBy (p_X8_farByvn1_0 T σ t) 187 [(13, .int x62), (12, .int 1), (11, .int z60), (10, .int z58), (9, .int x43), (8, .int 1), (7, .int z22), (6, .int z18), (5, .int x3), (4, .int x63), (3, .int z2), (0, .ref 0), (1, .int 1), (2, .int t)] [] S64 := by
                                    intro n71
                                    induction n71 with
                                    | zero => intro x62 x63 S64 I65 F66 v69 hF m70; exact absurd m70 (Nat.not_lt_zero _)
                                    | succ n71 ih68 =>
                                      intro x62 x63 S64 I65 F66 v69 hF m70
                                      replace hF := kf_st (l_X8_farByvn1_0_187_s _ _ _ _ _ _ _ _ _ _ _ _ _ _) hF
                                      have r_x62 := kw_rng x62
                                      have r_x63 := kw_rng x63
                                      refine kw_iload (pc := 187) (i := 103) (k := 1) (n := 12) rfl rfl ?_
                                      refine kw_if_eq (pc := 189) (i := 104) (tgt := 312) rfl rfl (fun c72 => ?_) (fun c72 => ?_)
                                      · exfalso; omega
                                      · replace hF := kf_n c72 hF
                                        refine kw_iload (pc := 192) (i := 105) (k := 0) (n := 13) rfl rfl ?_
                                        refine kw_iload_n (pc := 194) (i := 106) (k := 12) (n := 1) rfl rfl rfl ?_
                                        refine kw_iconst (pc := 195) (i := 107) (v := 2) rfl rfl ?_
                                        refine kw_icmp_le (pc := 196) (i := 108) (tgt := 203) rfl rfl (fun c73 => ?_) (fun c73 => ?_)
                                        · replace hF := kf_nl c73 hF
                                          refine kw_iconst (pc := 203) (i := 111) (v := 1) rfl rfl ?_
                                          refine kw_icmp_ge (pc := 204) (i := 112) (tgt := 312) rfl rfl (fun c74 => ?_) (fun c74 => ?_)
                                          · replace hF := kf_nl c74 hF
                                            refine kw_iinc' (pc := 312) (i := 170) (k := 4) (fun z => [(9, .int z), (13, .int x62), (12, .int 1), (11, .int z60), (10, .int z58), (8, .int 1), (7, .int z22), (6, .int z18), (5, .int x3), (4, .int x63), (3, .int z2), (0, .ref 0), (1, .int 1), (2, .int t)]) rfl rfl (by decide) rfl (fun _ => rfl) (fun z75 e_z75 t_z75 => ?_)
                                            replace hF := kf_le e_z75 hF
                                            first | (have u_z75 : z75.toInt = x43.toInt + 1 := (by omega); clear t_z75) | skip
                                            refine kw_goto (pc := 315) (i := 171) (tgt := 95) rfl rfl ?_
                                            refine kw_sub (lv' := [(9, .int z75), (8, .int 1), (7, .int z22), (6, .int z18), (5, .int x3), (4, .int x63), (3, .int z2), (0, .ref 0), (1, .int 1), (2, .int t)]) [0, 5, 6, 7, 8, 9, 10, 11, 12, 13] rfl ?_
                                            exact ih49 z75 x63 S64 I65 F66 (by omega) hF (by omega)
                                          · replace hF := kf_p c74 hF
                                            refine kw_iload (pc := 207) (i := 113) (k := 3) (n := 10) rfl rfl ?_
                                            refine kw_iload_n (pc := 209) (i := 114) (k := 12) (n := 1) rfl rfl rfl ?_
                                            refine kw_iconst (pc := 210) (i := 115) (v := 2) rfl rfl ?_
                                            refine kw_icmp_le (pc := 211) (i := 116) (tgt := 228) rfl rfl (fun c76 => ?_) (fun c76 => ?_)
                                            · replace hF := kf_nl c76 hF
                                              refine kw_iconst (pc := 228) (i := 124) (v := 0) rfl rfl ?_
                                              refine kw_iadd (pc := 229) (i := 125) rfl (fun z77 e_z77 t_z77 => ?_)
                                              replace hF := kf_le e_z77 hF
                                              first | (have u_z77 : z77.toInt = z58.toInt + 0 := (by omega); clear t_z77) | skip
                                              refine kw_istore (pc := 230) (i := 126) (n := 14) (lv' := [(14, .int z77), (13, .int x62), (12, .int 1), (11, .int z60), (10, .int z58), (9, .int x43), (8, .int 1), (7, .int z22), (6, .int z18), (5, .int x3), (4, .int x63), (3, .int z2), (0, .ref 0), (1, .int 1), (2, .int t)]) rfl (by decide) rfl ?_
                                              refine kw_iload (pc := 232) (i := 127) (k := 3) (n := 11) rfl rfl ?_
                                              refine kw_iload_n (pc := 234) (i := 128) (k := 13) (n := 1) rfl rfl rfl ?_
                                              refine kw_iconst (pc := 235) (i := 129) (v := 2) rfl rfl ?_
                                              refine kw_icmp_le (pc := 236) (i := 130) (tgt := 253) rfl rfl (fun c78 => ?_) (fun c78 => ?_)
                                              · replace hF := kf_nl c78 hF
                                                refine kw_iconst (pc := 253) (i := 138) (v := 0) rfl rfl ?_
                                                refine kw_iadd (pc := 254) (i := 139) rfl (fun z79 e_z79 t_z79 => ?_)
                                                replace hF := kf_le e_z79 hF
                                                first | (have u_z79 : z79.toInt = z60.toInt + 0 := (by omega); clear t_z79) | skip
                                                refine kw_istore (pc := 255) (i := 140) (n := 15) (lv' := [(15, .int z79), (14, .int z77), (13, .int x62), (12, .int 1), (11, .int z60), (10, .int z58), (9, .int x43), (8, .int 1), (7, .int z22), (6, .int z18), (5, .int x3), (4, .int x63), (3, .int z2), (0, .ref 0), (1, .int 1), (2, .int t)]) rfl (by decide) rfl ?_
                                                refine kw_iload_n (pc := 257) (i := 141) (k := 14) (n := 1) rfl rfl rfl ?_
                                                refine kw_iconst (pc := 258) (i := 142) (v := 3) rfl rfl ?_
                                                refine kw_icmp_lt (pc := 259) (i := 143) (tgt := 271) rfl rfl (fun c80 => ?_) (fun c80 => ?_)
                                                · replace hF := kf_p c80 hF
                                                  refine kw_iload (pc := 271) (i := 148) (k := 0) (n := 15) rfl rfl ?_
                                                  refine kw_iload (pc := 273) (i := 149) (k := 11) (n := 4) rfl rfl ?_
                                                  refine kw_icmp_le (pc := 275) (i := 150) (tgt := 306) rfl rfl (fun c81 => ?_) (fun c81 => ?_)
                                                  · replace hF := kf_nl c81 hF
                                                    refine kw_iinc' (pc := 306) (i := 168) (k := 2) (fun z => [(13, .int z), (15, .int z79), (14, .int z77), (12, .int 1), (11, .int z60), (10, .int z58), (9, .int x43), (8, .int 1), (7, .int z22), (6, .int z18), (5, .int x3), (4, .int x63), (3, .int z2), (0, .ref 0), (1, .int 1), (2, .int t)]) rfl rfl (by decide) rfl (fun _ => rfl) (fun z82 e_z82 t_z82 => ?_)
                                                    replace hF := kf_le e_z82 hF
                                                    first | (have u_z82 : z82.toInt = x62.toInt + 1 := (by omega); clear t_z82) | skip
                                                    refine kw_goto (pc := 309) (i := 169) (tgt := 187) rfl rfl ?_
                                                    refine kw_sub (lv' := [(13, .int z82), (12, .int 1), (11, .int z60), (10, .int z58), (9, .int x43), (8, .int 1), (7, .int z22), (6, .int z18), (5, .int x3), (4, .int x63), (3, .int z2), (0, .ref 0), (1, .int 1), (2, .int t)]) [0, 3, 4, 5, 6, 7, 8, 9, 10, 11, 12, 13, 14, 15] rfl ?_
                                                    exact ih68 z82 x63 S64 I65 F66 (by omega) hF (by omega)
                                                  · replace hF := kf_p c81 hF
                                                    refine kw_iload (pc := 278) (i := 151) (k := 0) (n := 15) rfl rfl ?_
                                                    refine kw_istore (pc := 280) (i := 152) (n := 4) (lv' := [(4, .int z79), (15, .int z79), (14, .int z77), (13, .int x62), (12, .int 1), (11, .int z60), (10, .int z58), (9, .int x43), (8, .int 1), (7, .int z22), (6, .int z18), (5, .int x3), (3, .int z2), (0, .ref 0), (1, .int 1), (2, .int t)]) rfl (by decide) rfl ?_
                                                    refine kw_aload_n (pc := 282) (i := 153) (k := 13) (n := 0) rfl rfl rfl ?_
                                                    refine kw_get (pc := 283) (i := 154) (v := .ref 20) rfl rfl rfl lkX8_75 (fun _ => rfl) ?_
                                                    refine kw_iconst (pc := 286) (i := 155) (v := 0) rfl rfl ?_
                                                    refine kw_iload (pc := 287) (i := 156) (k := 11) (n := 5) rfl rfl ?_
                                                    refine kw_iast (pc := 289) (i := 157) (n := 3) rfl rfl (by omega) (by omega) ?_
                                                    have I83 : kw_I (bM T) (kw_ui S64 20 ((0 : Int32).toNatClampNeg) x3) := kw_I_ui I65 (kw_rng x3).1 (Int.le_of_lt_add_one (kw_rng x3).2)
                                                    have F84 : kw_FM [20] σ (kw_ui S64 20 ((0 : Int32).toNatClampNeg) x3) := kw_FM_ui F66 (by decide) (by decide)
                                                    refine kw_aload_n (pc := 290) (i := 158) (k := 13) (n := 0) rfl rfl rfl ?_
                                                    refine kw_get (pc := 291) (i := 159) (v := .ref 20) rfl rfl rfl lkX8_75 (fun _ => rfl) ?_
                                                    refine kw_iconst (pc := 294) (i := 160) (v := 1) rfl rfl ?_
                                                    refine kw_iload (pc := 295) (i := 161) (k := 7) (n := 9) rfl rfl ?_
                                                    refine kw_iast (pc := 297) (i := 162) (n := 3) rfl rfl (by omega) (by omega) ?_
                                                    have I85 : kw_I (bM T) (kw_ui (kw_ui S64 20 ((0 : Int32).toNatClampNeg) x3) 20 ((1 : Int32).toNatClampNeg) x43) := kw_I_ui I83 (kw_rng x43).1 (Int.le_of_lt_add_one (kw_rng x43).2)
                                                    have F86 : kw_FM [20] σ (kw_ui (kw_ui S64 20 ((0 : Int32).toNatClampNeg) x3) 20 ((1 : Int32).toNatClampNeg) x43) := kw_FM_ui F84 (by decide) (by decide)
                                                    refine kw_aload_n (pc := 298) (i := 163) (k := 13) (n := 0) rfl rfl rfl ?_
                                                    refine kw_get (pc := 299) (i := 164) (v := .ref 20) rfl rfl rfl lkX8_75 (fun _ => rfl) ?_
                                                    refine kw_iconst (pc := 302) (i := 165) (v := 2) rfl rfl ?_
                                                    refine kw_iload (pc := 303) (i := 166) (k := 3) (n := 13) rfl rfl ?_
                                                    refine kw_iast (pc := 305) (i := 167) (n := 3) rfl rfl (by omega) (by omega) ?_
                                                    have I87 : kw_I (bM T) (kw_ui (kw_ui (kw_ui S64 20 ((0 : Int32).toNatClampNeg) x3) 20 ((1 : Int32).toNatClampNeg) x43) 20 ((2 : Int32).toNatClampNeg) x62) := kw_I_ui I85 (kw_rng x62).1 (Int.le_of_lt_add_one (kw_rng x62).2)
                                                    have F88 : kw_FM [20] σ (kw_ui (kw_ui (kw_ui S64 20 ((0 : Int32).toNatClampNeg) x3) 20 ((1 : Int32).toNatClampNeg) x43) 20 ((2 : Int32).toNatClampNeg) x62) := kw_FM_ui F86 (by decide) (by decide)
                                                    refine kw_iinc' (pc := 306) (i := 168) (k := 3) (fun z => [(13, .int z), (4, .int z79), (15, .int z79), (14, .int z77), (12, .int 1), (11, .int z60), (10, .int z58), (9, .int x43), (8, .int 1), (7, .int z22), (6, .int z18), (5, .int x3), (3, .int z2), (0, .ref 0), (1, .int 1), (2, .int t)]) rfl rfl (by decide) rfl (fun _ => rfl) (fun z89 e_z89 t_z89 => ?_)
                                                    replace hF := kf_le e_z89 hF
                                                    first | (have u_z89 : z89.toInt = x62.toInt + 1 := (by omega); clear t_z89) | skip
                                                    refine kw_goto (pc := 309) (i := 169) (tgt := 187) rfl rfl ?_
                                                    refine kw_sub (lv' := [(13, .int z89), (12, .int 1), (11, .int z60), (10, .int z58), (9, .int x43), (8, .int 1), (7, .int z22), (6, .int z18), (5, .int x3), (4, .int z79), (3, .int z2), (0, .ref 0), (1, .int 1), (2, .int t)]) [0, 4, 5, 6, 7, 8, 9, 10, 11, 1, 12, 13, 14, 15] rfl ?_
                                                    exact ih68 z89 z79 (kw_ui (kw_ui (kw_ui S64 20 ((0 : Int32).toNatClampNeg) x3) 20 ((1 : Int32).toNatClampNeg) x43) 20 ((2 : Int32).toNatClampNeg) x62) I87 F88 (by omega) hF (by omega)
                                                · exfalso; omega
                                              · exfalso; omega
                                            · exfalso; omega
                                        · exfalso; omega
                                  exact L67 _ 0 x44 S45 I46 F47 (by omega) hF (Nat.lt_succ_self _)
                                · exfalso; omega
                              · exfalso; omega
                            · exfalso; omega
                        · exfalso; omega
                  exact L48 _ 0 x4 S5 I6 F7 (by omega) hF (Nat.lt_succ_self _)
  exact L8 _ 0 (-1048576) σ hI hF0 (by omega) hF (Nat.lt_succ_self _)
noncomputable def l_X8_farByvn2_0_95 (k14 : Int32 → Int32 → kw_S → Int32 × kw_S) (a2 : Int32) (a3 : Int32) (a5 : Int32) (a6 : Int32) (a7 : Int32) : Nat → Int32 → Int32 → kw_S → Int32 × kw_S
  | 0, _, _, S => (0, S)
  | n + 1, x4, x9, S => if (0 : Int32).toInt = 0 then (kf_l (a5 + Int32.ofInt 1) fun z7 => k14 x4 z7 S) else ((0, S))
theorem l_X8_farByvn2_0_95_s (k14 : Int32 → Int32 → kw_S → Int32 × kw_S) (a2 : Int32) (a3 : Int32) (a5 : Int32) (a6 : Int32) (a7 : Int32) (n : Nat) (x4 : Int32) (x9 : Int32) (S : kw_S) : l_X8_farByvn2_0_95 k14 a2 a3 a5 a6 a7 (n + 1) x4 x9 S = if (0 : Int32).toInt = 0 then (kf_l (a5 + Int32.ofInt 1) fun z7 => k14 x4 z7 S) else ((0, S)) := rfl
noncomputable def l_X8_farByvn2_0_187 (k14 : Int32 → Int32 → kw_S → Int32 × kw_S) (k95 : Int32 → Int32 → kw_S → Int32 × kw_S) (a2 : Int32) (a3 : Int32) (a5 : Int32) (a6 : Int32) (a7 : Int32) (a9 : Int32) (a10 : Int32) (a11 : Int32) : Nat → Int32 → Int32 → kw_S → Int32 × kw_S
  | 0, _, _, S => (0, S)
  | n + 1, x4, x13, S => if (0 : Int32).toInt = 0 then (kf_l (a9 + Int32.ofInt 1) fun z16 => k95 x4 z16 S) else ((0, S))
theorem l_X8_farByvn2_0_187_s (k14 : Int32 → Int32 → kw_S → Int32 × kw_S) (k95 : Int32 → Int32 → kw_S → Int32 × kw_S) (a2 : Int32) (a3 : Int32) (a5 : Int32) (a6 : Int32) (a7 : Int32) (a9 : Int32) (a10 : Int32) (a11 : Int32) (n : Nat) (x4 : Int32) (x13 : Int32) (S : kw_S) : l_X8_farByvn2_0_187 k14 k95 a2 a3 a5 a6 a7 a9 a10 a11 (n + 1) x4 x13 S = if (0 : Int32).toInt = 0 then (kf_l (a9 + Int32.ofInt 1) fun z16 => k95 x4 z16 S) else ((0, S)) := rfl
noncomputable def l_X8_farByvn2_0_187a (k14 : Int32 → Int32 → kw_S → Int32 × kw_S) (k95 : Int32 → Int32 → kw_S → Int32 × kw_S) (a2 : Int32) (a3 : Int32) (a5 : Int32) (a6 : Int32) (a7 : Int32) (a9 : Int32) (a10 : Int32) (a11 : Int32) : Nat → Int32 → Int32 → kw_S → Int32 × kw_S
  | 0, _, _, S => (0, S)
  | n + 1, x4, x13, S => if (1 : Int32).toInt = 0 then ((0, S)) else (if (2 : Int32).toInt < (2 : Int32).toInt then ((0, S)) else (if x13.toInt < (1 : Int32).toInt then (if (2 : Int32).toInt < (2 : Int32).toInt then ((0, S)) else (kf_l (a10 + (0 : Int32)) fun z18 => if (2 : Int32).toInt < (2 : Int32).toInt then ((0, S)) else (kf_l (a11 + (0 : Int32)) fun z19 => if (2 : Int32).toInt < (3 : Int32).toInt then (if x4.toInt < z19.toInt then (kf_l (x13 + Int32.ofInt 1) fun z21 => l_X8_farByvn2_0_187a k14 k95 a2 a3 a5 a6 a7 a9 a10 a11 n z19 z21 (kw_ui (kw_ui (kw_ui S 20 ((0 : Int32).toNatClampNeg) a5) 20 ((1 : Int32).toNatClampNeg) a9) 20 ((2 : Int32).toNatClampNeg) x13)) else (kf_l (x13 + Int32.ofInt 1) fun z20 => l_X8_farByvn2_0_187a k14 k95 a2 a3 a5 a6 a7 a9 a10 a11 n x4 z20 S)) else ((0, S))))) else (kf_l (a9 + Int32.ofInt 1) fun z17 => k95 x4 z17 S)))
theorem l_X8_farByvn2_0_187a_s (k14 : Int32 → Int32 → kw_S → Int32 × kw_S) (k95 : Int32 → Int32 → kw_S → Int32 × kw_S) (a2 : Int32) (a3 : Int32) (a5 : Int32) (a6 : Int32) (a7 : Int32) (a9 : Int32) (a10 : Int32) (a11 : Int32) (n : Nat) (x4 : Int32) (x13 : Int32) (S : kw_S) : l_X8_farByvn2_0_187a k14 k95 a2 a3 a5 a6 a7 a9 a10 a11 (n + 1) x4 x13 S = if (1 : Int32).toInt = 0 then ((0, S)) else (if (2 : Int32).toInt < (2 : Int32).toInt then ((0, S)) else (if x13.toInt < (1 : Int32).toInt then (if (2 : Int32).toInt < (2 : Int32).toInt then ((0, S)) else (kf_l (a10 + (0 : Int32)) fun z18 => if (2 : Int32).toInt < (2 : Int32).toInt then ((0, S)) else (kf_l (a11 + (0 : Int32)) fun z19 => if (2 : Int32).toInt < (3 : Int32).toInt then (if x4.toInt < z19.toInt then (kf_l (x13 + Int32.ofInt 1) fun z21 => l_X8_farByvn2_0_187a k14 k95 a2 a3 a5 a6 a7 a9 a10 a11 n z19 z21 (kw_ui (kw_ui (kw_ui S 20 ((0 : Int32).toNatClampNeg) a5) 20 ((1 : Int32).toNatClampNeg) a9) 20 ((2 : Int32).toNatClampNeg) x13)) else (kf_l (x13 + Int32.ofInt 1) fun z20 => l_X8_farByvn2_0_187a k14 k95 a2 a3 a5 a6 a7 a9 a10 a11 n x4 z20 S)) else ((0, S))))) else (kf_l (a9 + Int32.ofInt 1) fun z17 => k95 x4 z17 S))) := rfl
noncomputable def l_X8_farByvn2_0_95a (k14 : Int32 → Int32 → kw_S → Int32 × kw_S) (a2 : Int32) (a3 : Int32) (a5 : Int32) (a6 : Int32) (a7 : Int32) : Nat → Int32 → Int32 → kw_S → Int32 × kw_S
  | 0, _, _, S => (0, S)
  | n + 1, x4, x9, S => if (1 : Int32).toInt = 0 then ((0, S)) else (if (1 : Int32).toInt < (2 : Int32).toInt then (if x9.toInt < a3.toInt then (if (1 : Int32).toInt < (2 : Int32).toInt then (kf_l ((64 : Int32) + x9) fun z9 => kf_l (S.1 19 z9.toNatClampNeg) fun z10 => kf_l (a6 + z10) fun z11 => if (1 : Int32).toInt < (2 : Int32).toInt then (kf_l ((64 : Int32) + x9) fun z12 => kf_l (S.1 18 z12.toNatClampNeg) fun z13 => kf_l (a7 + z13) fun z14 => if (2 : Int32).toInt < (2 : Int32).toInt then ((0, S)) else (kf_l (f_X8_isTurn S z11 a2) fun z15 => if z15.toInt = 0 then (l_X8_farByvn2_0_187 k14 (l_X8_farByvn2_0_95a k14 a2 a3 a5 a6 a7 n) a2 a3 a5 a6 a7 x9 z11 z14 ((65 - (0 : Int32).toInt).toNat + 1) x4 (0 : Int32) S) else (l_X8_farByvn2_0_187a k14 (l_X8_farByvn2_0_95a k14 a2 a3 a5 a6 a7 n) a2 a3 a5 a6 a7 x9 z11 z14 ((65 - (0 : Int32).toInt).toNat + 1) x4 (0 : Int32) S))) else ((0, S))) else ((0, S))) else (kf_l (a5 + Int32.ofInt 1) fun z8 => k14 x4 z8 S)) else ((0, S)))
theorem l_X8_farByvn2_0_95a_s (k14 : Int32 → Int32 → kw_S → Int32 × kw_S) (a2 : Int32) (a3 : Int32) (a5 : Int32) (a6 : Int32) (a7 : Int32) (n : Nat) (x4 : Int32) (x9 : Int32) (S : kw_S) : l_X8_farByvn2_0_95a k14 a2 a3 a5 a6 a7 (n + 1) x4 x9 S = if (1 : Int32).toInt = 0 then ((0, S)) else (if (1 : Int32).toInt < (2 : Int32).toInt then (if x9.toInt < a3.toInt then (if (1 : Int32).toInt < (2 : Int32).toInt then (kf_l ((64 : Int32) + x9) fun z9 => kf_l (S.1 19 z9.toNatClampNeg) fun z10 => kf_l (a6 + z10) fun z11 => if (1 : Int32).toInt < (2 : Int32).toInt then (kf_l ((64 : Int32) + x9) fun z12 => kf_l (S.1 18 z12.toNatClampNeg) fun z13 => kf_l (a7 + z13) fun z14 => if (2 : Int32).toInt < (2 : Int32).toInt then ((0, S)) else (kf_l (f_X8_isTurn S z11 a2) fun z15 => if z15.toInt = 0 then (l_X8_farByvn2_0_187 k14 (l_X8_farByvn2_0_95a k14 a2 a3 a5 a6 a7 n) a2 a3 a5 a6 a7 x9 z11 z14 ((65 - (0 : Int32).toInt).toNat + 1) x4 (0 : Int32) S) else (l_X8_farByvn2_0_187a k14 (l_X8_farByvn2_0_95a k14 a2 a3 a5 a6 a7 n) a2 a3 a5 a6 a7 x9 z11 z14 ((65 - (0 : Int32).toInt).toNat + 1) x4 (0 : Int32) S))) else ((0, S))) else ((0, S))) else (kf_l (a5 + Int32.ofInt 1) fun z8 => k14 x4 z8 S)) else ((0, S))) := rfl
noncomputable def l_X8_farByvn2_0_14 (a2 : Int32) (a3 : Int32) : Nat → Int32 → Int32 → kw_S → Int32 × kw_S
  | 0, _, _, S => (0, S)
  | n + 1, x4, x5, S => if 0 < (2 : Int32).toInt then (if x5.toInt < a3.toInt then (if 0 < (2 : Int32).toInt then (kf_l (S.1 19 x5.toNatClampNeg) fun z2 => kf_l ((S.1 0 24) + z2) fun z3 => if 0 < (2 : Int32).toInt then (kf_l (S.1 18 x5.toNatClampNeg) fun z4 => kf_l ((S.1 0 23) + z4) fun z5 => if (2 : Int32).toInt = 0 then ((0, S)) else (kf_l (f_X8_isTurn S z3 a2) fun z6 => if z6.toInt = 0 then (l_X8_farByvn2_0_95 (l_X8_farByvn2_0_14 a2 a3 n) a2 a3 x5 z3 z5 ((65 - (0 : Int32).toInt).toNat + 1) x4 (0 : Int32) S) else (l_X8_farByvn2_0_95a (l_X8_farByvn2_0_14 a2 a3 n) a2 a3 x5 z3 z5 ((65 - (0 : Int32).toInt).toNat + 1) x4 (0 : Int32) S))) else ((0, S))) else ((0, S))) else ((x4, S))) else ((0, S))
theorem l_X8_farByvn2_0_14_s (a2 : Int32) (a3 : Int32) (n : Nat) (x4 : Int32) (x5 : Int32) (S : kw_S) : l_X8_farByvn2_0_14 a2 a3 (n + 1) x4 x5 S = if 0 < (2 : Int32).toInt then (if x5.toInt < a3.toInt then (if 0 < (2 : Int32).toInt then (kf_l (S.1 19 x5.toNatClampNeg) fun z2 => kf_l ((S.1 0 24) + z2) fun z3 => if 0 < (2 : Int32).toInt then (kf_l (S.1 18 x5.toNatClampNeg) fun z4 => kf_l ((S.1 0 23) + z4) fun z5 => if (2 : Int32).toInt = 0 then ((0, S)) else (kf_l (f_X8_isTurn S z3 a2) fun z6 => if z6.toInt = 0 then (l_X8_farByvn2_0_95 (l_X8_farByvn2_0_14 a2 a3 n) a2 a3 x5 z3 z5 ((65 - (0 : Int32).toInt).toNat + 1) x4 (0 : Int32) S) else (l_X8_farByvn2_0_95a (l_X8_farByvn2_0_14 a2 a3 n) a2 a3 x5 z3 z5 ((65 - (0 : Int32).toInt).toNat + 1) x4 (0 : Int32) S))) else ((0, S))) else ((0, S))) else ((x4, S))) else ((0, S)) := rfl
noncomputable def f_X8_farByvn2_0 (σ : kw_S) (t : Int32) : Int32 × kw_S := kf_l ((1 : Int32) <<< ((σ.1 0 10) &&& 31)) fun z1 => l_X8_farByvn2_0_14 t z1 ((65 - (0 : Int32).toInt).toNat + 1) ((-1048576) : Int32) (0 : Int32) σ
theorem f_X8_farByvn2_0_u (σ : kw_S) (t : Int32) : f_X8_farByvn2_0 σ t = kf_l ((1 : Int32) <<< ((σ.1 0 10) &&& 31)) fun z1 => l_X8_farByvn2_0_14 t z1 ((65 - (0 : Int32).toInt).toNat + 1) ((-1048576) : Int32) (0 : Int32) σ := rfl
abbrev p_X8_farByvn2_0 (T : Int) (σ : kw_S) (t : Int32) : Option Value → kw_S → Prop := fun vv σ' => (kw_I (bM T) σ' ∧ kw_FM [20] σ σ') ∧ ∃ r : Int32, vv = some (.int r) ∧ (r, σ') = f_X8_farByvn2_0 σ t
set_option maxRecDepth 100000 in
set_option maxHeartbeats 4000000 in
theorem c_X8_farByvn2_0 (l : Launch) (T : Int) (hT0 : 0 ≤ T) (hT1 : T ≤ 3000) (σ : kw_S) (hI : kw_I (bM T) σ) (t : Int32) : kw_Met l 2 KM mX8_farBy [.ref 0, .int 2, .int t] σ (p_X8_farByvn2_0 T σ t) := by
  have r_t := kw_rng t
  have hF0 : kw_FM [20] σ σ := kw_FM.rf
  have hF := (f_X8_farByvn2_0_u σ t).symm
  have q_m1048576 : (-1048576 : Int32).toInt = -1048576 := rfl
  have q_0 : (0 : Int32).toInt = 0 := rfl
  have q_1 : (1 : Int32).toInt = 1 := rfl
  have q_2 : (2 : Int32).toInt = 2 := rfl
  have q_3 : (3 : Int32).toInt = 3 := rfl
  have q_64 : (64 : Int32).toInt = 64 := rfl
  refine kw_Met.of (by decide) rfl tX8_farBy (Nat.le_of_ble_eq_true rfl) ?_
  show kw_AW l 2 kw_E0 KM mX8_farBy (p_X8_farByvn2_0 T σ t) 0 [(0, .ref 0), (1, .int 2), (2, .int t)] [] σ
  refine kw_iconst (pc := 0) (i := 0) (v := 1) rfl rfl ?_
  refine kw_aload_n (pc := 1) (i := 1) (k := 0) (n := 0) rfl rfl rfl ?_
  refine kw_get (pc := 2) (i := 2) (v := .int (σ.1 0 10)) rfl rfl rfl lkX8_163 (fun _ => rfl) ?_
  have b1 : 0 ≤ (σ.1 0 10).toInt ∧ (σ.1 0 10).toInt ≤ 6 := hI 0 10
  refine kw_ishl (pc := 5) (i := 3) rfl (fun z2 e_z2 => ?_)
  have r_z2 := kw_rng z2
  replace hF := kf_le e_z2 hF
  have t_z2 := kw_shlm (σ.1 0 10) z2 e_z2
  first | (replace t_z2 := And.intro (t_z2.1 (by omega) (by omega)) (t_z2.2 (by omega) (by omega))) | (replace t_z2 := t_z2.1 (by omega) (by omega)) | skip
  have u_z2 := congrArg Int32.toInt e_z2
  refine kw_istore_n (pc := 6) (i := 4) (n := 3) (lv' := [(3, .int z2), (0, .ref 0), (1, .int 2), (2, .int t)]) rfl rfl (by decide) rfl ?_
  refine kw_ldc (pc := 7) (i := 5) (v := (-1048576)) rfl ckX8_255 ?_
  refine kw_istore (pc := 9) (i := 6) (n := 4) (lv' := [(4, .int (-1048576)), (3, .int z2), (0, .ref 0), (1, .int 2), (2, .int t)]) rfl (by decide) rfl ?_
  refine kw_iconst (pc := 11) (i := 7) (v := 0) rfl rfl ?_
  refine kw_istore (pc := 12) (i := 8) (n := 5) (lv' := [(5, .int 0), (4, .int (-1048576)), (3, .int z2), (0, .ref 0), (1, .int 2), (2, .int t)]) rfl (by decide) rfl ?_
  have L8 : ∀ (n12 : Nat) (x3 : Int32) (x4 : Int32) (S5 : kw_S), kw_I (bM T) S5 → kw_FM [20] σ S5 → 0 ≤ x3.toInt → l_X8_farByvn2_0_14 t z2 n12 x4 x3 S5 = (f_X8_farByvn2_0 σ t) → (65 - x3.toInt).toNat < n12 → kw_AW l 2 kw_E0 KM mX8_farBy (p_X8_farByvn2_0 T σ t) 14 [(5, .int x3), (4, .int x4), (3, .int z2), (0, .ref 0), (1, .int 2), (2, .int t)] [] S5 := by
    intro n12
    induction n12 with
    | zero => intro x3 x4 S5 I6 F7 v10 hF m11; exact absurd m11 (Nat.not_lt_zero _)
    | succ n12 ih9 =>
      intro x3 x4 S5 I6 F7 v10 hF m11
      replace hF := kf_st (l_X8_farByvn2_0_14_s _ _ _ _ _ _) hF
      have r_x3 := kw_rng x3
      have r_x4 := kw_rng x4
      refine kw_iload (pc := 14) (i := 9) (k := 0) (n := 5) rfl rfl ?_
      refine kw_iload_n (pc := 16) (i := 10) (k := 4) (n := 1) rfl rfl rfl ?_
      refine kw_if_le (pc := 17) (i := 11) (tgt := 24) rfl rfl (fun c13 => ?_) (fun c13 => ?_)
      · exfalso; omega
      · replace hF := kf_p c13 hF
        refine kw_iload_n (pc := 20) (i := 12) (k := 2) (n := 3) rfl rfl rfl ?_
        refine kw_goto (pc := 21) (i := 13) (tgt := 25) rfl rfl ?_
        refine kw_icmp_ge (pc := 25) (i := 15) (tgt := 324) rfl rfl (fun c14 => ?_) (fun c14 => ?_)
        · replace hF := kf_nl c14 hF
          refine kw_iload (pc := 324) (i := 174) (k := 1) (n := 4) rfl rfl ?_
          exact kw_ireturn (pc := 326) (i := 175) (ty := .int) rfl rfl rfl ⟨⟨I6, F7⟩, _, rfl, hF⟩
        · replace hF := kf_p c14 hF
          refine kw_aload_n (pc := 28) (i := 16) (k := 3) (n := 0) rfl rfl rfl ?_
          refine kw_get (pc := 29) (i := 17) (v := .int (S5.1 0 24)) rfl rfl rfl lkX8_172 (fun _ => rfl) ?_
          have b15 := kw_rng (S5.1 0 24)
          refine kw_iload_n (pc := 32) (i := 18) (k := 4) (n := 1) rfl rfl rfl ?_
          refine kw_if_le (pc := 33) (i := 19) (tgt := 46) rfl rfl (fun c16 => ?_) (fun c16 => ?_)
          · exfalso; omega
          · replace hF := kf_p c16 hF
            refine kw_aload_n (pc := 36) (i := 20) (k := 3) (n := 0) rfl rfl rfl ?_
            refine kw_get (pc := 37) (i := 21) (v := .ref 19) rfl rfl rfl lkX8_72 (fun _ => rfl) ?_
            refine kw_iload (pc := 40) (i := 22) (k := 0) (n := 5) rfl rfl ?_
            refine kw_iald (pc := 42) (i := 23) (n := 192) rfl rfl (by omega) (by omega) (fun z17 e_z17 => ?_)
            replace hF := kf_le e_z17 hF
            have t_z17 := congrArg Int32.toInt e_z17
            have r_z17 := kw_rng z17
            refine kw_goto (pc := 43) (i := 24) (tgt := 47) rfl rfl ?_
            refine kw_iadd (pc := 47) (i := 26) rfl (fun z18 e_z18 t_z18 => ?_)
            replace hF := kf_le e_z18 hF
            first | (have u_z18 : z18.toInt = (S5.1 0 24).toInt + z17.toInt := (by omega); clear t_z18) | skip
            refine kw_istore (pc := 48) (i := 27) (n := 6) (lv' := [(6, .int z18), (5, .int x3), (4, .int x4), (3, .int z2), (0, .ref 0), (1, .int 2), (2, .int t)]) rfl (by decide) rfl ?_
            refine kw_aload_n (pc := 50) (i := 28) (k := 4) (n := 0) rfl rfl rfl ?_
            refine kw_get (pc := 51) (i := 29) (v := .int (S5.1 0 23)) rfl rfl rfl lkX8_169 (fun _ => rfl) ?_
            have b19 := kw_rng (S5.1 0 23)
            refine kw_iload_n (pc := 54) (i := 30) (k := 5) (n := 1) rfl rfl rfl ?_
            refine kw_if_le (pc := 55) (i := 31) (tgt := 68) rfl rfl (fun c20 => ?_) (fun c20 => ?_)
            · exfalso; omega
            · replace hF := kf_p c20 hF
              refine kw_aload_n (pc := 58) (i := 32) (k := 4) (n := 0) rfl rfl rfl ?_
              refine kw_get (pc := 59) (i := 33) (v := .ref 18) rfl rfl rfl lkX8_69 (fun _ => rfl) ?_
              refine kw_iload (pc := 62) (i := 34) (k := 1) (n := 5) rfl rfl ?_
              refine kw_iald (pc := 64) (i := 35) (n := 192) rfl rfl (by omega) (by omega) (fun z21 e_z21 => ?_)
              replace hF := kf_le e_z21 hF
              have t_z21 := congrArg Int32.toInt e_z21
              have r_z21 := kw_rng z21
              refine kw_goto (pc := 65) (i := 36) (tgt := 69) rfl rfl ?_
              refine kw_iadd (pc := 69) (i := 38) rfl (fun z22 e_z22 t_z22 => ?_)
              replace hF := kf_le e_z22 hF
              first | (have u_z22 : z22.toInt = (S5.1 0 23).toInt + z21.toInt := (by omega); clear t_z22) | skip
              refine kw_istore (pc := 70) (i := 39) (n := 7) (lv' := [(7, .int z22), (6, .int z18), (5, .int x3), (4, .int x4), (3, .int z2), (0, .ref 0), (1, .int 2), (2, .int t)]) rfl (by decide) rfl ?_
              refine kw_iload_n (pc := 72) (i := 40) (k := 6) (n := 1) rfl rfl rfl ?_
              refine kw_if_eq (pc := 73) (i := 41) (tgt := 85) rfl rfl (fun c23 => ?_) (fun c23 => ?_)
              · exfalso; omega
              · replace hF := kf_n c23 hF
                refine kw_iload (pc := 76) (i := 42) (k := 1) (n := 6) rfl rfl ?_
                refine kw_iload_n (pc := 78) (i := 43) (k := 7) (n := 2) rfl rfl rfl ?_
                refine kw_callS (pc := 79) (i := 44) (Y := mX8_isTurn) (As := [.int z18, .int t]) (st := []) kw_hE rfl lsX8_256 arX8_isTurn (c_X8_isTurn l T hT0 hT1 S5 I6 z18 t ) (by decide) (Nat.le_of_ble_eq_true rfl) rfl (fun v S25 p24 => ?_)
                obtain ⟨e29, z28, rfl, f26, ef27⟩ := p24
                rw [e29]
                replace hF := kf_le ef27 hF
                have r_z28 := kw_rng z28
                show kw_AW l 2 kw_E0 KM mX8_farBy (p_X8_farByvn2_0 T σ t) 82 [(7, .int z22), (6, .int z18), (5, .int x3), (4, .int x4), (3, .int z2), (0, .ref 0), (1, .int 2), (2, .int t)] [.int z28] S5
                refine kw_if_eq (pc := 82) (i := 45) (tgt := 89) rfl rfl (fun c30 => ?_) (fun c30 => ?_)
                · replace hF := kf_p c30 hF
                  refine kw_iconst (pc := 89) (i := 48) (v := 0) rfl rfl ?_
                  refine kw_istore (pc := 90) (i := 49) (n := 8) (lv' := [(8, .int 0), (7, .int z22), (6, .int z18), (5, .int x3), (4, .int x4), (3, .int z2), (0, .ref 0), (1, .int 2), (2, .int t)]) rfl (by decide) rfl ?_
                  refine kw_iconst (pc := 92) (i := 50) (v := 0) rfl rfl ?_
                  refine kw_istore (pc := 93) (i := 51) (n := 9) (lv' := [(9, .int 0), (8, .int 0), (7, .int z22), (6, .int z18), (5, .int x3), (4, .int x4), (3, .int z2), (0, .ref 0), (1, .int 2), (2, .int t)]) rfl (by decide) rfl ?_
                  have L36 : ∀ (n40 : Nat) (x31 : Int32) (x32 : Int32) (S33 : kw_S), kw_I (bM T) S33 → kw_FM [20] σ S33 → 0 ≤ x31.toInt → l_X8_farByvn2_0_95 (l_X8_farByvn2_0_14 t z2 n12) t z2 x3 z18 z22 n40 x32 x31 S33 = (f_X8_farByvn2_0 σ t) → (65 - x31.toInt).toNat < n40 → kw_AW l 2 kw_E0 KM mX8_farBy (p_X8_farByvn2_0 T σ t) 95 [(9, .int x31), (8, .int 0), (7, .int z22), (6, .int z18), (5, .int x3), (4, .int x32), (3, .int z2), (0, .ref 0), (1, .int 2), (2, .int t)] [] S33 := by
                    intro n40
                    induction n40 with
                    | zero => intro x31 x32 S33 I34 F35 v38 hF m39; exact absurd m39 (Nat.not_lt_zero _)
                    | succ n40 ih37 =>
                      intro x31 x32 S33 I34 F35 v38 hF m39
                      replace hF := kf_st (l_X8_farByvn2_0_95_s _ _ _ _ _ _ _ _ _ _) hF
                      have r_x31 := kw_rng x31
                      have r_x32 := kw_rng x32
                      refine kw_iload (pc := 95) (i := 52) (k := 1) (n := 8) rfl rfl ?_
                      refine kw_if_eq (pc := 97) (i := 53) (tgt := 318) rfl rfl (fun c41 => ?_) (fun c41 => ?_)
                      · replace hF := kf_p c41 hF
                        refine kw_iinc' (pc := 318) (i := 172) (k := 4) (fun z => [(5, .int z), (9, .int x31), (8, .int 0), (7, .int z22), (6, .int z18), (4, .int x32), (3, .int z2), (0, .ref 0), (1, .int 2), (2, .int t)]) rfl rfl (by decide) rfl (fun _ => rfl) (fun z42 e_z42 t_z42 => ?_)
                        replace hF := kf_le e_z42 hF
                        first | (have u_z42 : z42.toInt = x3.toInt + 1 := (by omega); clear t_z42) | skip
                        refine kw_goto (pc := 321) (i := 173) (tgt := 14) rfl rfl ?_
                        refine kw_sub (lv' := [(5, .int z42), (4, .int x32), (3, .int z2), (0, .ref 0), (1, .int 2), (2, .int t)]) [0, 5, 6, 7, 8, 9] rfl ?_
                        exact ih9 z42 x32 S33 I34 F35 (by omega) hF (by omega)
                      · exfalso; omega
                  exact L36 _ 0 x4 S5 I6 F7 (by omega) hF (Nat.lt_succ_self _)
                · replace hF := kf_n c30 hF
                  refine kw_iconst (pc := 85) (i := 46) (v := 1) rfl rfl ?_
                  refine kw_goto (pc := 86) (i := 47) (tgt := 90) rfl rfl ?_
                  refine kw_istore (pc := 90) (i := 49) (n := 8) (lv' := [(8, .int 1), (7, .int z22), (6, .int z18), (5, .int x3), (4, .int x4), (3, .int z2), (0, .ref 0), (1, .int 2), (2, .int t)]) rfl (by decide) rfl ?_
                  refine kw_iconst (pc := 92) (i := 50) (v := 0) rfl rfl ?_
                  refine kw_istore (pc := 93) (i := 51) (n := 9) (lv' := [(9, .int 0), (8, .int 1), (7, .int z22), (6, .int z18), (5, .int x3), (4, .int x4), (3, .int z2), (0, .ref 0), (1, .int 2), (2, .int t)]) rfl (by decide) rfl ?_
                  have L48 : ∀ (n52 : Nat) (x43 : Int32) (x44 : Int32) (S45 : kw_S), kw_I (bM T) S45 → kw_FM [20] σ S45 → 0 ≤ x43.toInt → l_X8_farByvn2_0_95a (l_X8_farByvn2_0_14 t z2 n12) t z2 x3 z18 z22 n52 x44 x43 S45 = (f_X8_farByvn2_0 σ t) → (65 - x43.toInt).toNat < n52 → kw_AW l 2 kw_E0 KM mX8_farBy (p_X8_farByvn2_0 T σ t) 95 [(9, .int x43), (8, .int 1), (7, .int z22), (6, .int z18), (5, .int x3), (4, .int x44), (3, .int z2), (0, .ref 0), (1, .int 2), (2, .int t)] [] S45 := by
                    intro n52
                    induction n52 with
                    | zero => intro x43 x44 S45 I46 F47 v50 hF m51; exact absurd m51 (Nat.not_lt_zero _)
                    | succ n52 ih49 =>
                      intro x43 x44 S45 I46 F47 v50 hF m51
                      replace hF := kf_st (l_X8_farByvn2_0_95a_s _ _ _ _ _ _ _ _ _ _) hF
                      have r_x43 := kw_rng x43
                      have r_x44 := kw_rng x44
                      refine kw_iload (pc := 95) (i := 52) (k := 1) (n := 8) rfl rfl ?_
                      refine kw_if_eq (pc := 97) (i := 53) (tgt := 318) rfl rfl (fun c53 => ?_) (fun c53 => ?_)
                      · exfalso; omega
                      · replace hF := kf_n c53 hF
                        refine kw_iload (pc := 100) (i := 54) (k := 0) (n := 9) rfl rfl ?_
                        refine kw_iload_n (pc := 102) (i := 55) (k := 8) (n := 1) rfl rfl rfl ?_
                        refine kw_iconst (pc := 103) (i := 56) (v := 1) rfl rfl ?_
                        refine kw_icmp_le (pc := 104) (i := 57) (tgt := 111) rfl rfl (fun c54 => ?_) (fun c54 => ?_)
                        · exfalso; omega
                        · replace hF := kf_p c54 hF
                          refine kw_iload_n (pc := 107) (i := 58) (k := 6) (n := 3) rfl rfl rfl ?_
                          refine kw_goto (pc := 108) (i := 59) (tgt := 112) rfl rfl ?_
                          refine kw_icmp_ge (pc := 112) (i := 61) (tgt := 318) rfl rfl (fun c55 => ?_) (fun c55 => ?_)
                          · replace hF := kf_nl c55 hF
                            refine kw_iinc' (pc := 318) (i := 172) (k := 4) (fun z => [(5, .int z), (9, .int x43), (8, .int 1), (7, .int z22), (6, .int z18), (4, .int x44), (3, .int z2), (0, .ref 0), (1, .int 2), (2, .int t)]) rfl rfl (by decide) rfl (fun _ => rfl) (fun z56 e_z56 t_z56 => ?_)
                            replace hF := kf_le e_z56 hF
                            first | (have u_z56 : z56.toInt = x3.toInt + 1 := (by omega); clear t_z56) | skip
                            refine kw_goto (pc := 321) (i := 173) (tgt := 14) rfl rfl ?_
                            refine kw_sub (lv' := [(5, .int z56), (4, .int x44), (3, .int z2), (0, .ref 0), (1, .int 2), (2, .int t)]) [0, 5, 6, 7, 8, 9] rfl ?_
                            exact ih9 z56 x44 S45 I46 F47 (by omega) hF (by omega)
                          · replace hF := kf_p c55 hF
                            refine kw_iload (pc := 115) (i := 62) (k := 3) (n := 6) rfl rfl ?_
                            refine kw_iload_n (pc := 117) (i := 63) (k := 8) (n := 1) rfl rfl rfl ?_
                            refine kw_iconst (pc := 118) (i := 64) (v := 1) rfl rfl ?_
                            refine kw_icmp_le (pc := 119) (i := 65) (tgt := 135) rfl rfl (fun c57 => ?_) (fun c57 => ?_)
                            · exfalso; omega
                            · replace hF := kf_p c57 hF
                              refine kw_aload_n (pc := 122) (i := 66) (k := 7) (n := 0) rfl rfl rfl ?_
                              refine kw_get (pc := 123) (i := 67) (v := .ref 19) rfl rfl rfl lkX8_72 (fun _ => rfl) ?_
                              refine kw_bipush (pc := 126) (i := 68) (v := 64) rfl rfl ?_
                              refine kw_iload (pc := 128) (i := 69) (k := 0) (n := 9) rfl rfl ?_
                              refine kw_iadd (pc := 130) (i := 70) rfl (fun z58 e_z58 t_z58 => ?_)
                              replace hF := kf_le e_z58 hF
                              first | (have u_z58 : z58.toInt = 64 + x43.toInt := (by omega); clear t_z58) | skip
                              refine kw_iald (pc := 131) (i := 71) (n := 192) rfl rfl (by omega) (by omega) (fun z59 e_z59 => ?_)
                              replace hF := kf_le e_z59 hF
                              have t_z59 := congrArg Int32.toInt e_z59
                              have r_z59 := kw_rng z59
                              refine kw_goto (pc := 132) (i := 72) (tgt := 136) rfl rfl ?_
                              refine kw_iadd (pc := 136) (i := 74) rfl (fun z60 e_z60 t_z60 => ?_)
                              replace hF := kf_le e_z60 hF
                              first | (have u_z60 : z60.toInt = z18.toInt + z59.toInt := (by omega); clear t_z60) | skip
                              refine kw_istore (pc := 137) (i := 75) (n := 10) (lv' := [(10, .int z60), (9, .int x43), (8, .int 1), (7, .int z22), (6, .int z18), (5, .int x3), (4, .int x44), (3, .int z2), (0, .ref 0), (1, .int 2), (2, .int t)]) rfl (by decide) rfl ?_
                              refine kw_iload (pc := 139) (i := 76) (k := 3) (n := 7) rfl rfl ?_
                              refine kw_iload_n (pc := 141) (i := 77) (k := 9) (n := 1) rfl rfl rfl ?_
                              refine kw_iconst (pc := 142) (i := 78) (v := 1) rfl rfl ?_
                              refine kw_icmp_le (pc := 143) (i := 79) (tgt := 159) rfl rfl (fun c61 => ?_) (fun c61 => ?_)
                              · exfalso; omega
                              · replace hF := kf_p c61 hF
                                refine kw_aload_n (pc := 146) (i := 80) (k := 8) (n := 0) rfl rfl rfl ?_
                                refine kw_get (pc := 147) (i := 81) (v := .ref 18) rfl rfl rfl lkX8_69 (fun _ => rfl) ?_
                                refine kw_bipush (pc := 150) (i := 82) (v := 64) rfl rfl ?_
                                refine kw_iload (pc := 152) (i := 83) (k := 1) (n := 9) rfl rfl ?_
                                refine kw_iadd (pc := 154) (i := 84) rfl (fun z62 e_z62 t_z62 => ?_)
                                replace hF := kf_le e_z62 hF
                                first | (have u_z62 : z62.toInt = 64 + x43.toInt := (by omega); clear t_z62) | skip
                                refine kw_iald (pc := 155) (i := 85) (n := 192) rfl rfl (by omega) (by omega) (fun z63 e_z63 => ?_)
                                replace hF := kf_le e_z63 hF
                                have t_z63 := congrArg Int32.toInt e_z63
                                have r_z63 := kw_rng z63
                                refine kw_goto (pc := 156) (i := 86) (tgt := 160) rfl rfl ?_
                                refine kw_iadd (pc := 160) (i := 88) rfl (fun z64 e_z64 t_z64 => ?_)
                                replace hF := kf_le e_z64 hF
                                first | (have u_z64 : z64.toInt = z22.toInt + z63.toInt := (by omega); clear t_z64) | skip
                                refine kw_istore (pc := 161) (i := 89) (n := 11) (lv' := [(11, .int z64), (10, .int z60), (9, .int x43), (8, .int 1), (7, .int z22), (6, .int z18), (5, .int x3), (4, .int x44), (3, .int z2), (0, .ref 0), (1, .int 2), (2, .int t)]) rfl (by decide) rfl ?_
                                refine kw_iload_n (pc := 163) (i := 90) (k := 10) (n := 1) rfl rfl rfl ?_
                                refine kw_iconst (pc := 164) (i := 91) (v := 2) rfl rfl ?_
                                refine kw_icmp_lt (pc := 165) (i := 92) (tgt := 177) rfl rfl (fun c65 => ?_) (fun c65 => ?_)
                                · exfalso; omega
                                · replace hF := kf_nl c65 hF
                                  refine kw_iload (pc := 168) (i := 93) (k := 1) (n := 10) rfl rfl ?_
                                  refine kw_iload_n (pc := 170) (i := 94) (k := 11) (n := 2) rfl rfl rfl ?_
                                  refine kw_callS (pc := 171) (i := 95) (Y := mX8_isTurn) (As := [.int z60, .int t]) (st := []) kw_hE rfl lsX8_256 arX8_isTurn (c_X8_isTurn l T hT0 hT1 S45 I46 z60 t ) (by decide) (Nat.le_of_ble_eq_true rfl) rfl (fun v S67 p66 => ?_)
                                  obtain ⟨e71, z70, rfl, f68, ef69⟩ := p66
                                  rw [e71]
                                  replace hF := kf_le ef69 hF
                                  have r_z70 := kw_rng z70
                                  show kw_AW l 2 kw_E0 KM mX8_farBy (p_X8_farByvn2_0 T σ t) 174 [(11, .int z64), (10, .int z60), (9, .int x43), (8, .int 1), (7, .int z22), (6, .int z18), (5, .int x3), (4, .int x44), (3, .int z2), (0, .ref 0), (1, .int 2), (2, .int t)] [.int z70] S45
                                  refine kw_if_eq (pc := 174) (i := 96) (tgt := 181) rfl rfl (fun c72 => ?_) (fun c72 => ?_)
                                  · replace hF := kf_p c72 hF
                                    refine kw_iconst (pc := 181) (i := 99) (v := 0) rfl rfl ?_
                                    refine kw_istore (pc := 182) (i := 100) (n := 12) (lv' := [(12, .int 0), (11, .int z64), (10, .int z60), (9, .int x43), (8, .int 1), (7, .int z22), (6, .int z18), (5, .int x3), (4, .int x44), (3, .int z2), (0, .ref 0), (1, .int 2), (2, .int t)]) rfl (by decide) rfl ?_
                                    refine kw_iconst (pc := 184) (i := 101) (v := 0) rfl rfl ?_
                                    refine kw_istore (pc := 185) (i := 102) (n := 13) (lv' := [(13, .int 0), (12, .int 0), (11, .int z64), (10, .int z60), (9, .int x43), (8, .int 1), (7, .int z22), (6, .int z18), (5, .int x3), (4, .int x44), (3, .int z2), (0, .ref 0), (1, .int 2), (2, .int t)]) rfl (by decide) rfl ?_
                                    have L78 : ∀ (n82 : Nat) (x73 : Int32) (x74 : Int32) (S75 : kw_S), kw_I (bM T) S75 → kw_FM [20] σ S75 → 0 ≤ x73.toInt → l_X8_farByvn2_0_187 (l_X8_farByvn2_0_14 t z2 n12) (l_X8_farByvn2_0_95a (l_X8_farByvn2_0_14 t z2 n12) t z2 x3 z18 z22 n52) t z2 x3 z18 z22 x43 z60 z64 n82 x74 x73 S75 = (f_X8_farByvn2_0 σ t) → (65 - x73.toInt).toNat < n82 → kw_AW l 2 kw_E0 KM mX8_farBy (p_X8_farByvn2_0 T σ t) 187 [(13, .int x73), (12, .int 0), (11, .int z64), (10, .int z60), (9, .int x43), (8, .int 1), (7, .int z22), (6, .int z18), (5, .int x3), (4, .int x74), (3, .int z2), (0, .ref 0), (1, .int 2), (2, .int t)] [] S75 := by
                                      intro n82
                                      induction n82 with
                                      | zero => intro x73 x74 S75 I76 F77 v80 hF m81; exact absurd m81 (Nat.not_lt_zero _)
                                      | succ n82 ih79 =>
                                        intro x73 x74 S75 I76 F77 v80 hF m81
                                        replace hF := kf_st (l_X8_farByvn2_0_187_s _ _ _ _ _ _ _ _ _ _ _ _ _ _) hF
                                        have r_x73 := kw_rng x73
                                        have r_x74 := kw_rng x74
                                        refine kw_iload (pc := 187) (i := 103) (k := 1) (n := 12) rfl rfl ?_
                                        refine kw_if_eq (pc := 189) (i := 104) (tgt := 312) rfl rfl (fun c83 => ?_) (fun c83 => ?_)
                                        · replace hF := kf_p c83 hF
                                          refine kw_iinc' (pc := 312) (i := 170) (k := 4) (fun z => [(9, .int z), (13, .int x73), (12, .int 0), (11, .int z64), (10, .int z60), (8, .int 1), (7, .int z22), (6, .int z18), (5, .int x3), (4, .int x74), (3, .int z2), (0, .ref 0), (1, .int 2), (2, .int t)]) rfl rfl (by decide) rfl (fun _ => rfl) (fun z84 e_z84 t_z84 => ?_)
                                          replace hF := kf_le e_z84 hF
                                          first | (have u_z84 : z84.toInt = x43.toInt + 1 := (by omega); clear t_z84) | skip
                                          refine kw_goto (pc := 315) (i := 171) (tgt := 95) rfl rfl ?_
                                          refine kw_sub (lv' := [(9, .int z84), (8, .int 1), (7, .int z22), (6, .int z18), (5, .int x3), (4, .int x74), (3, .int z2), (0, .ref 0), (1, .int 2), (2, .int t)]) [0, 5, 6, 7, 8, 9, 10, 11, 12, 13] rfl ?_
                                          exact ih49 z84 x74 S75 I76 F77 (by omega) hF (by omega)
                                        · exfalso; omega
                                    exact L78 _ 0 x44 S45 I46 F47 (by omega) hF (Nat.lt_succ_self _)
                                  · replace hF := kf_n c72 hF
                                    refine kw_iconst (pc := 177) (i := 97) (v := 1) rfl rfl ?_
                                    refine kw_goto (pc := 178) (i := 98) (tgt := 182) rfl rfl ?_
                                    refine kw_istore (pc := 182) (i := 100) (n := 12) (lv' := [(12, .int 1), (11, .int z64), (10, .int z60), (9, .int x43), (8, .int 1), (7, .int z22), (6, .int z18), (5, .int x3), (4, .int x44), (3, .int z2), (0, .ref 0), (1, .int 2), (2, .int t)]) rfl (by decide) rfl ?_
                                    refine kw_iconst (pc := 184) (i := 101) (v := 0) rfl rfl ?_
                                    refine kw_istore (pc := 185) (i := 102) (n := 13) (lv' := [(13, .int 0), (12, .int 1), (11, .int z64), (10, .int z60), (9, .int x43), (8, .int 1), (7, .int z22), (6, .int z18), (5, .int x3), (4, .int x44), (3, .int z2), (0, .ref 0), (1, .int 2), (2, .int t)]) rfl (by decide) rfl ?_
                                    have L90 : ∀ (n94 : Nat) (x85 : Int32) (x86 : Int32) (S87 : kw_S), kw_I (bM T) S87 → kw_FM [20] σ S87 → 0 ≤ x85.toInt → l_X8_farByvn2_0_187a (l_X8_farByvn2_0_14 t z2 n12) (l_X8_farByvn2_0_95a (l_X8_farByvn2_0_14 t z2 n12) t z2 x3 z18 z22 n52) t z2 x3 z18 z22 x43 z60 z64 n94 x86 x85 S87 = (f_X8_farByvn2_0 σ t) → (65 - x85.toInt).toNat < n94 → kw_AW l 2 kw_E0 KM mX8_farBy (p_X8_farByvn2_0 T σ t) 187 [(13, .int x85), (12, .int 1), (11, .int z64), (10, .int z60), (9, .int x43), (8, .int 1), (7, .int z22), (6, .int z18), (5, .int x3), (4, .int x86), (3, .int z2), (0, .ref 0), (1, .int 2), (2, .int t)] [] S87 := by
                                      intro n94
                                      induction n94 with
                                      | zero => intro x85 x86 S87 I88 F89 v92 hF m93; exact absurd m93 (Nat.not_lt_zero _)
                                      | succ n94 ih91 =>
                                        intro x85 x86 S87 I88 F89 v92 hF m93
                                        replace hF := kf_st (l_X8_farByvn2_0_187a_s _ _ _ _ _ _ _ _ _ _ _ _ _ _) hF
                                        have r_x85 := kw_rng x85
                                        have r_x86 := kw_rng x86
                                        refine kw_iload (pc := 187) (i := 103) (k := 1) (n := 12) rfl rfl ?_
                                        refine kw_if_eq (pc := 189) (i := 104) (tgt := 312) rfl rfl (fun c95 => ?_) (fun c95 => ?_)
                                        · exfalso; omega
                                        · replace hF := kf_n c95 hF
                                          refine kw_iload (pc := 192) (i := 105) (k := 0) (n := 13) rfl rfl ?_
                                          refine kw_iload_n (pc := 194) (i := 106) (k := 12) (n := 1) rfl rfl rfl ?_
                                          refine kw_iconst (pc := 195) (i := 107) (v := 2) rfl rfl ?_
                                          refine kw_icmp_le (pc := 196) (i := 108) (tgt := 203) rfl rfl (fun c96 => ?_) (fun c96 => ?_)
                                          · replace hF := kf_nl c96 hF
                                            refine kw_iconst (pc := 203) (i := 111) (v := 1) rfl rfl ?_
                                            refine kw_icmp_ge (pc := 204) (i := 112) (tgt := 312) rfl rfl (fun c97 => ?_) (fun c97 => ?_)
                                            · replace hF := kf_nl c97 hF
                                              refine kw_iinc' (pc := 312) (i := 170) (k := 4) (fun z => [(9, .int z), (13, .int x85), (12, .int 1), (11, .int z64), (10, .int z60), (8, .int 1), (7, .int z22), (6, .int z18), (5, .int x3), (4, .int x86), (3, .int z2), (0, .ref 0), (1, .int 2), (2, .int t)]) rfl rfl (by decide) rfl (fun _ => rfl) (fun z98 e_z98 t_z98 => ?_)
                                              replace hF := kf_le e_z98 hF
                                              first | (have u_z98 : z98.toInt = x43.toInt + 1 := (by omega); clear t_z98) | skip
                                              refine kw_goto (pc := 315) (i := 171) (tgt := 95) rfl rfl ?_
                                              refine kw_sub (lv' := [(9, .int z98), (8, .int 1), (7, .int z22), (6, .int z18), (5, .int x3), (4, .int x86), (3, .int z2), (0, .ref 0), (1, .int 2), (2, .int t)]) [0, 5, 6, 7, 8, 9, 10, 11, 12, 13] rfl ?_
                                              exact ih49 z98 x86 S87 I88 F89 (by omega) hF (by omega)
                                            · replace hF := kf_p c97 hF
                                              refine kw_iload (pc := 207) (i := 113) (k := 3) (n := 10) rfl rfl ?_
                                              refine kw_iload_n (pc := 209) (i := 114) (k := 12) (n := 1) rfl rfl rfl ?_
                                              refine kw_iconst (pc := 210) (i := 115) (v := 2) rfl rfl ?_
                                              refine kw_icmp_le (pc := 211) (i := 116) (tgt := 228) rfl rfl (fun c99 => ?_) (fun c99 => ?_)
                                              · replace hF := kf_nl c99 hF
                                                refine kw_iconst (pc := 228) (i := 124) (v := 0) rfl rfl ?_
                                                refine kw_iadd (pc := 229) (i := 125) rfl (fun z100 e_z100 t_z100 => ?_)
                                                replace hF := kf_le e_z100 hF
                                                first | (have u_z100 : z100.toInt = z60.toInt + 0 := (by omega); clear t_z100) | skip
                                                refine kw_istore (pc := 230) (i := 126) (n := 14) (lv' := [(14, .int z100), (13, .int x85), (12, .int 1), (11, .int z64), (10, .int z60), (9, .int x43), (8, .int 1), (7, .int z22), (6, .int z18), (5, .int x3), (4, .int x86), (3, .int z2), (0, .ref 0), (1, .int 2), (2, .int t)]) rfl (by decide) rfl ?_
                                                refine kw_iload (pc := 232) (i := 127) (k := 3) (n := 11) rfl rfl ?_
                                                refine kw_iload_n (pc := 234) (i := 128) (k := 13) (n := 1) rfl rfl rfl ?_
                                                refine kw_iconst (pc := 235) (i := 129) (v := 2) rfl rfl ?_
                                                refine kw_icmp_le (pc := 236) (i := 130) (tgt := 253) rfl rfl (fun c101 => ?_) (fun c101 => ?_)
                                                · replace hF := kf_nl c101 hF
                                                  refine kw_iconst (pc := 253) (i := 138) (v := 0) rfl rfl ?_
                                                  refine kw_iadd (pc := 254) (i := 139) rfl (fun z102 e_z102 t_z102 => ?_)
                                                  replace hF := kf_le e_z102 hF
                                                  first | (have u_z102 : z102.toInt = z64.toInt + 0 := (by omega); clear t_z102) | skip
                                                  refine kw_istore (pc := 255) (i := 140) (n := 15) (lv' := [(15, .int z102), (14, .int z100), (13, .int x85), (12, .int 1), (11, .int z64), (10, .int z60), (9, .int x43), (8, .int 1), (7, .int z22), (6, .int z18), (5, .int x3), (4, .int x86), (3, .int z2), (0, .ref 0), (1, .int 2), (2, .int t)]) rfl (by decide) rfl ?_
                                                  refine kw_iload_n (pc := 257) (i := 141) (k := 14) (n := 1) rfl rfl rfl ?_
                                                  refine kw_iconst (pc := 258) (i := 142) (v := 3) rfl rfl ?_
                                                  refine kw_icmp_lt (pc := 259) (i := 143) (tgt := 271) rfl rfl (fun c103 => ?_) (fun c103 => ?_)
                                                  · replace hF := kf_p c103 hF
                                                    refine kw_iload (pc := 271) (i := 148) (k := 0) (n := 15) rfl rfl ?_
                                                    refine kw_iload (pc := 273) (i := 149) (k := 11) (n := 4) rfl rfl ?_
                                                    refine kw_icmp_le (pc := 275) (i := 150) (tgt := 306) rfl rfl (fun c104 => ?_) (fun c104 => ?_)
                                                    · replace hF := kf_nl c104 hF
                                                      refine kw_iinc' (pc := 306) (i := 168) (k := 2) (fun z => [(13, .int z), (15, .int z102), (14, .int z100), (12, .int 1), (11, .int z64), (10, .int z60), (9, .int x43), (8, .int 1), (7, .int z22), (6, .int z18), (5, .int x3), (4, .int x86), (3, .int z2), (0, .ref 0), (1, .int 2), (2, .int t)]) rfl rfl (by decide) rfl (fun _ => rfl) (fun z105 e_z105 t_z105 => ?_)
                                                      replace hF := kf_le e_z105 hF
                                                      first | (have u_z105 : z105.toInt = x85.toInt + 1 := (by omega); clear t_z105) | skip
                                                      refine kw_goto (pc := 309) (i := 169) (tgt := 187) rfl rfl ?_
                                                      refine kw_sub (lv' := [(13, .int z105), (12, .int 1), (11, .int z64), (10, .int z60), (9, .int x43), (8, .int 1), (7, .int z22), (6, .int z18), (5, .int x3), (4, .int x86), (3, .int z2), (0, .ref 0), (1, .int 2), (2, .int t)]) [0, 3, 4, 5, 6, 7, 8, 9, 10, 11, 12, 13, 14, 15] rfl ?_
                                                      exact ih91 z105 x86 S87 I88 F89 (by omega) hF (by omega)
                                                    · replace hF := kf_p c104 hF
                                                      refine kw_iload (pc := 278) (i := 151) (k := 0) (n := 15) rfl rfl ?_
                                                      refine kw_istore (pc := 280) (i := 152) (n := 4) (lv' := [(4, .int z102), (15, .int z102), (14, .int z100), (13, .int x85), (12, .int 1), (11, .int z64), (10, .int z60), (9, .int x43), (8, .int 1), (7, .int z22), (6, .int z18), (5, .int x3), (3, .int z2), (0, .ref 0), (1, .int 2), (2, .int t)]) rfl (by decide) rfl ?_
                                                      refine kw_aload_n (pc := 282) (i := 153) (k := 13) (n := 0) rfl rfl rfl ?_
                                                      refine kw_get (pc := 283) (i := 154) (v := .ref 20) rfl rfl rfl lkX8_75 (fun _ => rfl) ?_
                                                      refine kw_iconst (pc := 286) (i := 155) (v := 0) rfl rfl ?_
                                                      refine kw_iload (pc := 287) (i := 156) (k := 11) (n := 5) rfl rfl ?_
                                                      refine kw_iast (pc := 289) (i := 157) (n := 3) rfl rfl (by omega) (by omega) ?_
                                                      have I106 : kw_I (bM T) (kw_ui S87 20 ((0 : Int32).toNatClampNeg) x3) := kw_I_ui I88 (kw_rng x3).1 (Int.le_of_lt_add_one (kw_rng x3).2)
                                                      have F107 : kw_FM [20] σ (kw_ui S87 20 ((0 : Int32).toNatClampNeg) x3) := kw_FM_ui F89 (by decide) (by decide)
                                                      refine kw_aload_n (pc := 290) (i := 158) (k := 13) (n := 0) rfl rfl rfl ?_
                                                      refine kw_get (pc := 291) (i := 159) (v := .ref 20) rfl rfl rfl lkX8_75 (fun _ => rfl) ?_
                                                      refine kw_iconst (pc := 294) (i := 160) (v := 1) rfl rfl ?_
                                                      refine kw_iload (pc := 295) (i := 161) (k := 7) (n := 9) rfl rfl ?_
                                                      refine kw_iast (pc := 297) (i := 162) (n := 3) rfl rfl (by omega) (by omega) ?_
                                                      have I108 : kw_I (bM T) (kw_ui (kw_ui S87 20 ((0 : Int32).toNatClampNeg) x3) 20 ((1 : Int32).toNatClampNeg) x43) := kw_I_ui I106 (kw_rng x43).1 (Int.le_of_lt_add_one (kw_rng x43).2)
                                                      have F109 : kw_FM [20] σ (kw_ui (kw_ui S87 20 ((0 : Int32).toNatClampNeg) x3) 20 ((1 : Int32).toNatClampNeg) x43) := kw_FM_ui F107 (by decide) (by decide)
                                                      refine kw_aload_n (pc := 298) (i := 163) (k := 13) (n := 0) rfl rfl rfl ?_
                                                      refine kw_get (pc := 299) (i := 164) (v := .ref 20) rfl rfl rfl lkX8_75 (fun _ => rfl) ?_
                                                      refine kw_iconst (pc := 302) (i := 165) (v := 2) rfl rfl ?_
                                                      refine kw_iload (pc := 303) (i := 166) (k := 3) (n := 13) rfl rfl ?_
                                                      refine kw_iast (pc := 305) (i := 167) (n := 3) rfl rfl (by omega) (by omega) ?_
                                                      have I110 : kw_I (bM T) (kw_ui (kw_ui (kw_ui S87 20 ((0 : Int32).toNatClampNeg) x3) 20 ((1 : Int32).toNatClampNeg) x43) 20 ((2 : Int32).toNatClampNeg) x85) := kw_I_ui I108 (kw_rng x85).1 (Int.le_of_lt_add_one (kw_rng x85).2)
                                                      have F111 : kw_FM [20] σ (kw_ui (kw_ui (kw_ui S87 20 ((0 : Int32).toNatClampNeg) x3) 20 ((1 : Int32).toNatClampNeg) x43) 20 ((2 : Int32).toNatClampNeg) x85) := kw_FM_ui F109 (by decide) (by decide)
                                                      refine kw_iinc' (pc := 306) (i := 168) (k := 3) (fun z => [(13, .int z), (4, .int z102), (15, .int z102), (14, .int z100), (12, .int 1), (11, .int z64), (10, .int z60), (9, .int x43), (8, .int 1), (7, .int z22), (6, .int z18), (5, .int x3), (3, .int z2), (0, .ref 0), (1, .int 2), (2, .int t)]) rfl rfl (by decide) rfl (fun _ => rfl) (fun z112 e_z112 t_z112 => ?_)
                                                      replace hF := kf_le e_z112 hF
                                                      first | (have u_z112 : z112.toInt = x85.toInt + 1 := (by omega); clear t_z112) | skip
                                                      refine kw_goto (pc := 309) (i := 169) (tgt := 187) rfl rfl ?_
                                                      refine kw_sub (lv' := [(13, .int z112), (12, .int 1), (11, .int z64), (10, .int z60), (9, .int x43), (8, .int 1), (7, .int z22), (6, .int z18), (5, .int x3), (4, .int z102), (3, .int z2), (0, .ref 0), (1, .int 2), (2, .int t)]) [0, 4, 5, 6, 7, 8, 9, 10, 11, 1, 12, 13, 14, 15] rfl ?_
                                                      exact ih91 z112 z102 (kw_ui (kw_ui (kw_ui S87 20 ((0 : Int32).toNatClampNeg) x3) 20 ((1 : Int32).toNatClampNeg) x43) 20 ((2 : Int32).toNatClampNeg) x85) I110 F111 (by omega) hF (by omega)
                                                  · exfalso; omega
                                                · exfalso; omega
                                              · exfalso; omega
                                          · exfalso; omega
                                    exact L90 _ 0 x44 S45 I46 F47 (by omega) hF (Nat.lt_succ_self _)
                  exact L48 _ 0 x4 S5 I6 F7 (by omega) hF (Nat.lt_succ_self _)
  exact L8 _ 0 (-1048576) σ hI hF0 (by omega) hF (Nat.lt_succ_self _)
noncomputable def l_X8_farByvn3_0_95 (k14 : Int32 → Int32 → kw_S → Int32 × kw_S) (a2 : Int32) (a3 : Int32) (a5 : Int32) (a6 : Int32) (a7 : Int32) : Nat → Int32 → Int32 → kw_S → Int32 × kw_S
  | 0, _, _, S => (0, S)
  | n + 1, x4, x9, S => if (0 : Int32).toInt = 0 then (kf_l (a5 + Int32.ofInt 1) fun z7 => k14 x4 z7 S) else ((0, S))
theorem l_X8_farByvn3_0_95_s (k14 : Int32 → Int32 → kw_S → Int32 × kw_S) (a2 : Int32) (a3 : Int32) (a5 : Int32) (a6 : Int32) (a7 : Int32) (n : Nat) (x4 : Int32) (x9 : Int32) (S : kw_S) : l_X8_farByvn3_0_95 k14 a2 a3 a5 a6 a7 (n + 1) x4 x9 S = if (0 : Int32).toInt = 0 then (kf_l (a5 + Int32.ofInt 1) fun z7 => k14 x4 z7 S) else ((0, S)) := rfl
noncomputable def l_X8_farByvn3_0_187 (k14 : Int32 → Int32 → kw_S → Int32 × kw_S) (k95 : Int32 → Int32 → kw_S → Int32 × kw_S) (a2 : Int32) (a3 : Int32) (a5 : Int32) (a6 : Int32) (a7 : Int32) (a9 : Int32) (a10 : Int32) (a11 : Int32) : Nat → Int32 → Int32 → kw_S → Int32 × kw_S
  | 0, _, _, S => (0, S)
  | n + 1, x4, x13, S => if (0 : Int32).toInt = 0 then (kf_l (a9 + Int32.ofInt 1) fun z16 => k95 x4 z16 S) else ((0, S))
theorem l_X8_farByvn3_0_187_s (k14 : Int32 → Int32 → kw_S → Int32 × kw_S) (k95 : Int32 → Int32 → kw_S → Int32 × kw_S) (a2 : Int32) (a3 : Int32) (a5 : Int32) (a6 : Int32) (a7 : Int32) (a9 : Int32) (a10 : Int32) (a11 : Int32) (n : Nat) (x4 : Int32) (x13 : Int32) (S : kw_S) : l_X8_farByvn3_0_187 k14 k95 a2 a3 a5 a6 a7 a9 a10 a11 (n + 1) x4 x13 S = if (0 : Int32).toInt = 0 then (kf_l (a9 + Int32.ofInt 1) fun z16 => k95 x4 z16 S) else ((0, S)) := rfl
noncomputable def l_X8_farByvn3_0_187a (k14 : Int32 → Int32 → kw_S → Int32 × kw_S) (k95 : Int32 → Int32 → kw_S → Int32 × kw_S) (a2 : Int32) (a3 : Int32) (a5 : Int32) (a6 : Int32) (a7 : Int32) (a9 : Int32) (a10 : Int32) (a11 : Int32) : Nat → Int32 → Int32 → kw_S → Int32 × kw_S
  | 0, _, _, S => (0, S)
  | n + 1, x4, x13, S => if (1 : Int32).toInt = 0 then ((0, S)) else (if (2 : Int32).toInt < (3 : Int32).toInt then (if x13.toInt < a3.toInt then (if (2 : Int32).toInt < (3 : Int32).toInt then (kf_l ((128 : Int32) + x13) fun z18 => kf_l (S.1 19 z18.toNatClampNeg) fun z19 => kf_l (a10 + z19) fun z20 => if (2 : Int32).toInt < (3 : Int32).toInt then (kf_l ((128 : Int32) + x13) fun z21 => kf_l (S.1 18 z21.toNatClampNeg) fun z22 => kf_l (a11 + z22) fun z23 => if (3 : Int32).toInt < (3 : Int32).toInt then ((0, S)) else (kf_l (f_X8_isTurn S z20 a2) fun z24 => if z24.toInt = 0 then (kf_l (x13 + Int32.ofInt 1) fun z25 => l_X8_farByvn3_0_187a k14 k95 a2 a3 a5 a6 a7 a9 a10 a11 n x4 z25 S) else (if x4.toInt < z23.toInt then (kf_l (x13 + Int32.ofInt 1) fun z27 => l_X8_farByvn3_0_187a k14 k95 a2 a3 a5 a6 a7 a9 a10 a11 n z23 z27 (kw_ui (kw_ui (kw_ui S 20 ((0 : Int32).toNatClampNeg) a5) 20 ((1 : Int32).toNatClampNeg) a9) 20 ((2 : Int32).toNatClampNeg) x13)) else (kf_l (x13 + Int32.ofInt 1) fun z26 => l_X8_farByvn3_0_187a k14 k95 a2 a3 a5 a6 a7 a9 a10 a11 n x4 z26 S)))) else ((0, S))) else ((0, S))) else (kf_l (a9 + Int32.ofInt 1) fun z17 => k95 x4 z17 S)) else ((0, S)))
theorem l_X8_farByvn3_0_187a_s (k14 : Int32 → Int32 → kw_S → Int32 × kw_S) (k95 : Int32 → Int32 → kw_S → Int32 × kw_S) (a2 : Int32) (a3 : Int32) (a5 : Int32) (a6 : Int32) (a7 : Int32) (a9 : Int32) (a10 : Int32) (a11 : Int32) (n : Nat) (x4 : Int32) (x13 : Int32) (S : kw_S) : l_X8_farByvn3_0_187a k14 k95 a2 a3 a5 a6 a7 a9 a10 a11 (n + 1) x4 x13 S = if (1 : Int32).toInt = 0 then ((0, S)) else (if (2 : Int32).toInt < (3 : Int32).toInt then (if x13.toInt < a3.toInt then (if (2 : Int32).toInt < (3 : Int32).toInt then (kf_l ((128 : Int32) + x13) fun z18 => kf_l (S.1 19 z18.toNatClampNeg) fun z19 => kf_l (a10 + z19) fun z20 => if (2 : Int32).toInt < (3 : Int32).toInt then (kf_l ((128 : Int32) + x13) fun z21 => kf_l (S.1 18 z21.toNatClampNeg) fun z22 => kf_l (a11 + z22) fun z23 => if (3 : Int32).toInt < (3 : Int32).toInt then ((0, S)) else (kf_l (f_X8_isTurn S z20 a2) fun z24 => if z24.toInt = 0 then (kf_l (x13 + Int32.ofInt 1) fun z25 => l_X8_farByvn3_0_187a k14 k95 a2 a3 a5 a6 a7 a9 a10 a11 n x4 z25 S) else (if x4.toInt < z23.toInt then (kf_l (x13 + Int32.ofInt 1) fun z27 => l_X8_farByvn3_0_187a k14 k95 a2 a3 a5 a6 a7 a9 a10 a11 n z23 z27 (kw_ui (kw_ui (kw_ui S 20 ((0 : Int32).toNatClampNeg) a5) 20 ((1 : Int32).toNatClampNeg) a9) 20 ((2 : Int32).toNatClampNeg) x13)) else (kf_l (x13 + Int32.ofInt 1) fun z26 => l_X8_farByvn3_0_187a k14 k95 a2 a3 a5 a6 a7 a9 a10 a11 n x4 z26 S)))) else ((0, S))) else ((0, S))) else (kf_l (a9 + Int32.ofInt 1) fun z17 => k95 x4 z17 S)) else ((0, S))) := rfl
noncomputable def l_X8_farByvn3_0_95a (k14 : Int32 → Int32 → kw_S → Int32 × kw_S) (a2 : Int32) (a3 : Int32) (a5 : Int32) (a6 : Int32) (a7 : Int32) : Nat → Int32 → Int32 → kw_S → Int32 × kw_S
  | 0, _, _, S => (0, S)
  | n + 1, x4, x9, S => if (1 : Int32).toInt = 0 then ((0, S)) else (if (1 : Int32).toInt < (3 : Int32).toInt then (if x9.toInt < a3.toInt then (if (1 : Int32).toInt < (3 : Int32).toInt then (kf_l ((64 : Int32) + x9) fun z9 => kf_l (S.1 19 z9.toNatClampNeg) fun z10 => kf_l (a6 + z10) fun z11 => if (1 : Int32).toInt < (3 : Int32).toInt then (kf_l ((64 : Int32) + x9) fun z12 => kf_l (S.1 18 z12.toNatClampNeg) fun z13 => kf_l (a7 + z13) fun z14 => if (3 : Int32).toInt < (2 : Int32).toInt then ((0, S)) else (kf_l (f_X8_isTurn S z11 a2) fun z15 => if z15.toInt = 0 then (l_X8_farByvn3_0_187 k14 (l_X8_farByvn3_0_95a k14 a2 a3 a5 a6 a7 n) a2 a3 a5 a6 a7 x9 z11 z14 ((65 - (0 : Int32).toInt).toNat + 1) x4 (0 : Int32) S) else (l_X8_farByvn3_0_187a k14 (l_X8_farByvn3_0_95a k14 a2 a3 a5 a6 a7 n) a2 a3 a5 a6 a7 x9 z11 z14 ((65 - (0 : Int32).toInt).toNat + 1) x4 (0 : Int32) S))) else ((0, S))) else ((0, S))) else (kf_l (a5 + Int32.ofInt 1) fun z8 => k14 x4 z8 S)) else ((0, S)))
theorem l_X8_farByvn3_0_95a_s (k14 : Int32 → Int32 → kw_S → Int32 × kw_S) (a2 : Int32) (a3 : Int32) (a5 : Int32) (a6 : Int32) (a7 : Int32) (n : Nat) (x4 : Int32) (x9 : Int32) (S : kw_S) : l_X8_farByvn3_0_95a k14 a2 a3 a5 a6 a7 (n + 1) x4 x9 S = if (1 : Int32).toInt = 0 then ((0, S)) else (if (1 : Int32).toInt < (3 : Int32).toInt then (if x9.toInt < a3.toInt then (if (1 : Int32).toInt < (3 : Int32).toInt then (kf_l ((64 : Int32) + x9) fun z9 => kf_l (S.1 19 z9.toNatClampNeg) fun z10 => kf_l (a6 + z10) fun z11 => if (1 : Int32).toInt < (3 : Int32).toInt then (kf_l ((64 : Int32) + x9) fun z12 => kf_l (S.1 18 z12.toNatClampNeg) fun z13 => kf_l (a7 + z13) fun z14 => if (3 : Int32).toInt < (2 : Int32).toInt then ((0, S)) else (kf_l (f_X8_isTurn S z11 a2) fun z15 => if z15.toInt = 0 then (l_X8_farByvn3_0_187 k14 (l_X8_farByvn3_0_95a k14 a2 a3 a5 a6 a7 n) a2 a3 a5 a6 a7 x9 z11 z14 ((65 - (0 : Int32).toInt).toNat + 1) x4 (0 : Int32) S) else (l_X8_farByvn3_0_187a k14 (l_X8_farByvn3_0_95a k14 a2 a3 a5 a6 a7 n) a2 a3 a5 a6 a7 x9 z11 z14 ((65 - (0 : Int32).toInt).toNat + 1) x4 (0 : Int32) S))) else ((0, S))) else ((0, S))) else (kf_l (a5 + Int32.ofInt 1) fun z8 => k14 x4 z8 S)) else ((0, S))) := rfl
noncomputable def l_X8_farByvn3_0_14 (a2 : Int32) (a3 : Int32) : Nat → Int32 → Int32 → kw_S → Int32 × kw_S
  | 0, _, _, S => (0, S)
  | n + 1, x4, x5, S => if 0 < (3 : Int32).toInt then (if x5.toInt < a3.toInt then (if 0 < (3 : Int32).toInt then (kf_l (S.1 19 x5.toNatClampNeg) fun z2 => kf_l ((S.1 0 24) + z2) fun z3 => if 0 < (3 : Int32).toInt then (kf_l (S.1 18 x5.toNatClampNeg) fun z4 => kf_l ((S.1 0 23) + z4) fun z5 => if (3 : Int32).toInt = 0 then ((0, S)) else (kf_l (f_X8_isTurn S z3 a2) fun z6 => if z6.toInt = 0 then (l_X8_farByvn3_0_95 (l_X8_farByvn3_0_14 a2 a3 n) a2 a3 x5 z3 z5 ((65 - (0 : Int32).toInt).toNat + 1) x4 (0 : Int32) S) else (l_X8_farByvn3_0_95a (l_X8_farByvn3_0_14 a2 a3 n) a2 a3 x5 z3 z5 ((65 - (0 : Int32).toInt).toNat + 1) x4 (0 : Int32) S))) else ((0, S))) else ((0, S))) else ((x4, S))) else ((0, S))
theorem l_X8_farByvn3_0_14_s (a2 : Int32) (a3 : Int32) (n : Nat) (x4 : Int32) (x5 : Int32) (S : kw_S) : l_X8_farByvn3_0_14 a2 a3 (n + 1) x4 x5 S = if 0 < (3 : Int32).toInt then (if x5.toInt < a3.toInt then (if 0 < (3 : Int32).toInt then (kf_l (S.1 19 x5.toNatClampNeg) fun z2 => kf_l ((S.1 0 24) + z2) fun z3 => if 0 < (3 : Int32).toInt then (kf_l (S.1 18 x5.toNatClampNeg) fun z4 => kf_l ((S.1 0 23) + z4) fun z5 => if (3 : Int32).toInt = 0 then ((0, S)) else (kf_l (f_X8_isTurn S z3 a2) fun z6 => if z6.toInt = 0 then (l_X8_farByvn3_0_95 (l_X8_farByvn3_0_14 a2 a3 n) a2 a3 x5 z3 z5 ((65 - (0 : Int32).toInt).toNat + 1) x4 (0 : Int32) S) else (l_X8_farByvn3_0_95a (l_X8_farByvn3_0_14 a2 a3 n) a2 a3 x5 z3 z5 ((65 - (0 : Int32).toInt).toNat + 1) x4 (0 : Int32) S))) else ((0, S))) else ((0, S))) else ((x4, S))) else ((0, S)) := rfl
noncomputable def f_X8_farByvn3_0 (σ : kw_S) (t : Int32) : Int32 × kw_S := kf_l ((1 : Int32) <<< ((σ.1 0 10) &&& 31)) fun z1 => l_X8_farByvn3_0_14 t z1 ((65 - (0 : Int32).toInt).toNat + 1) ((-1048576) : Int32) (0 : Int32) σ
theorem f_X8_farByvn3_0_u (σ : kw_S) (t : Int32) : f_X8_farByvn3_0 σ t = kf_l ((1 : Int32) <<< ((σ.1 0 10) &&& 31)) fun z1 => l_X8_farByvn3_0_14 t z1 ((65 - (0 : Int32).toInt).toNat + 1) ((-1048576) : Int32) (0 : Int32) σ := rfl
abbrev p_X8_farByvn3_0 (T : Int) (σ : kw_S) (t : Int32) : Option Value → kw_S → Prop := fun vv σ' => (kw_I (bM T) σ' ∧ kw_FM [20] σ σ') ∧ ∃ r : Int32, vv = some (.int r) ∧ (r, σ') = f_X8_farByvn3_0 σ t
set_option maxRecDepth 100000 in
set_option maxHeartbeats 4000000 in
theorem c_X8_farByvn3_0 (l : Launch) (T : Int) (hT0 : 0 ≤ T) (hT1 : T ≤ 3000) (σ : kw_S) (hI : kw_I (bM T) σ) (t : Int32) : kw_Met l 2 KM mX8_farBy [.ref 0, .int 3, .int t] σ (p_X8_farByvn3_0 T σ t) := by
  have r_t := kw_rng t
  have hF0 : kw_FM [20] σ σ := kw_FM.rf
  have hF := (f_X8_farByvn3_0_u σ t).symm
  have q_m1048576 : (-1048576 : Int32).toInt = -1048576 := rfl
  have q_0 : (0 : Int32).toInt = 0 := rfl
  have q_1 : (1 : Int32).toInt = 1 := rfl
  have q_2 : (2 : Int32).toInt = 2 := rfl
  have q_3 : (3 : Int32).toInt = 3 := rfl
  have q_64 : (64 : Int32).toInt = 64 := rfl
  have q_128 : (128 : Int32).toInt = 128 := rfl
  refine kw_Met.of (by decide) rfl tX8_farBy (Nat.le_of_ble_eq_true rfl) ?_
  show kw_AW l 2 kw_E0 KM mX8_farBy (p_X8_farByvn3_0 T σ t) 0 [(0, .ref 0), (1, .int 3), (2, .int t)] [] σ
  refine kw_iconst (pc := 0) (i := 0) (v := 1) rfl rfl ?_
  refine kw_aload_n (pc := 1) (i := 1) (k := 0) (n := 0) rfl rfl rfl ?_
  refine kw_get (pc := 2) (i := 2) (v := .int (σ.1 0 10)) rfl rfl rfl lkX8_163 (fun _ => rfl) ?_
  have b1 : 0 ≤ (σ.1 0 10).toInt ∧ (σ.1 0 10).toInt ≤ 6 := hI 0 10
  refine kw_ishl (pc := 5) (i := 3) rfl (fun z2 e_z2 => ?_)
  have r_z2 := kw_rng z2
  replace hF := kf_le e_z2 hF
  have t_z2 := kw_shlm (σ.1 0 10) z2 e_z2
  first | (replace t_z2 := And.intro (t_z2.1 (by omega) (by omega)) (t_z2.2 (by omega) (by omega))) | (replace t_z2 := t_z2.1 (by omega) (by omega)) | skip
  have u_z2 := congrArg Int32.toInt e_z2
  refine kw_istore_n (pc := 6) (i := 4) (n := 3) (lv' := [(3, .int z2), (0, .ref 0), (1, .int 3), (2, .int t)]) rfl rfl (by decide) rfl ?_
  refine kw_ldc (pc := 7) (i := 5) (v := (-1048576)) rfl ckX8_255 ?_
  refine kw_istore (pc := 9) (i := 6) (n := 4) (lv' := [(4, .int (-1048576)), (3, .int z2), (0, .ref 0), (1, .int 3), (2, .int t)]) rfl (by decide) rfl ?_
  refine kw_iconst (pc := 11) (i := 7) (v := 0) rfl rfl ?_
  refine kw_istore (pc := 12) (i := 8) (n := 5) (lv' := [(5, .int 0), (4, .int (-1048576)), (3, .int z2), (0, .ref 0), (1, .int 3), (2, .int t)]) rfl (by decide) rfl ?_
  have L8 : ∀ (n12 : Nat) (x3 : Int32) (x4 : Int32) (S5 : kw_S), kw_I (bM T) S5 → kw_FM [20] σ S5 → 0 ≤ x3.toInt → l_X8_farByvn3_0_14 t z2 n12 x4 x3 S5 = (f_X8_farByvn3_0 σ t) → (65 - x3.toInt).toNat < n12 → kw_AW l 2 kw_E0 KM mX8_farBy (p_X8_farByvn3_0 T σ t) 14 [(5, .int x3), (4, .int x4), (3, .int z2), (0, .ref 0), (1, .int 3), (2, .int t)] [] S5 := by
    intro n12
    induction n12 with
    | zero => intro x3 x4 S5 I6 F7 v10 hF m11; exact absurd m11 (Nat.not_lt_zero _)
    | succ n12 ih9 =>
      intro x3 x4 S5 I6 F7 v10 hF m11
      replace hF := kf_st (l_X8_farByvn3_0_14_s _ _ _ _ _ _) hF
      have r_x3 := kw_rng x3
      have r_x4 := kw_rng x4
      refine kw_iload (pc := 14) (i := 9) (k := 0) (n := 5) rfl rfl ?_
      refine kw_iload_n (pc := 16) (i := 10) (k := 4) (n := 1) rfl rfl rfl ?_
      refine kw_if_le (pc := 17) (i := 11) (tgt := 24) rfl rfl (fun c13 => ?_) (fun c13 => ?_)
      · exfalso; omega
      · replace hF := kf_p c13 hF
        refine kw_iload_n (pc := 20) (i := 12) (k := 2) (n := 3) rfl rfl rfl ?_
        refine kw_goto (pc := 21) (i := 13) (tgt := 25) rfl rfl ?_
        refine kw_icmp_ge (pc := 25) (i := 15) (tgt := 324) rfl rfl (fun c14 => ?_) (fun c14 => ?_)
        · replace hF := kf_nl c14 hF
          refine kw_iload (pc := 324) (i := 174) (k := 1) (n := 4) rfl rfl ?_
          exact kw_ireturn (pc := 326) (i := 175) (ty := .int) rfl rfl rfl ⟨⟨I6, F7⟩, _, rfl, hF⟩
        · replace hF := kf_p c14 hF
          refine kw_aload_n (pc := 28) (i := 16) (k := 3) (n := 0) rfl rfl rfl ?_
          refine kw_get (pc := 29) (i := 17) (v := .int (S5.1 0 24)) rfl rfl rfl lkX8_172 (fun _ => rfl) ?_
          have b15 := kw_rng (S5.1 0 24)
          refine kw_iload_n (pc := 32) (i := 18) (k := 4) (n := 1) rfl rfl rfl ?_
          refine kw_if_le (pc := 33) (i := 19) (tgt := 46) rfl rfl (fun c16 => ?_) (fun c16 => ?_)
          · exfalso; omega
          · replace hF := kf_p c16 hF
            refine kw_aload_n (pc := 36) (i := 20) (k := 3) (n := 0) rfl rfl rfl ?_
            refine kw_get (pc := 37) (i := 21) (v := .ref 19) rfl rfl rfl lkX8_72 (fun _ => rfl) ?_
            refine kw_iload (pc := 40) (i := 22) (k := 0) (n := 5) rfl rfl ?_
            refine kw_iald (pc := 42) (i := 23) (n := 192) rfl rfl (by omega) (by omega) (fun z17 e_z17 => ?_)
            replace hF := kf_le e_z17 hF
            have t_z17 := congrArg Int32.toInt e_z17
            have r_z17 := kw_rng z17
            refine kw_goto (pc := 43) (i := 24) (tgt := 47) rfl rfl ?_
            refine kw_iadd (pc := 47) (i := 26) rfl (fun z18 e_z18 t_z18 => ?_)
            replace hF := kf_le e_z18 hF
            first | (have u_z18 : z18.toInt = (S5.1 0 24).toInt + z17.toInt := (by omega); clear t_z18) | skip
            refine kw_istore (pc := 48) (i := 27) (n := 6) (lv' := [(6, .int z18), (5, .int x3), (4, .int x4), (3, .int z2), (0, .ref 0), (1, .int 3), (2, .int t)]) rfl (by decide) rfl ?_
            refine kw_aload_n (pc := 50) (i := 28) (k := 4) (n := 0) rfl rfl rfl ?_
            refine kw_get (pc := 51) (i := 29) (v := .int (S5.1 0 23)) rfl rfl rfl lkX8_169 (fun _ => rfl) ?_
            have b19 := kw_rng (S5.1 0 23)
            refine kw_iload_n (pc := 54) (i := 30) (k := 5) (n := 1) rfl rfl rfl ?_
            refine kw_if_le (pc := 55) (i := 31) (tgt := 68) rfl rfl (fun c20 => ?_) (fun c20 => ?_)
            · exfalso; omega
            · replace hF := kf_p c20 hF
              refine kw_aload_n (pc := 58) (i := 32) (k := 4) (n := 0) rfl rfl rfl ?_
              refine kw_get (pc := 59) (i := 33) (v := .ref 18) rfl rfl rfl lkX8_69 (fun _ => rfl) ?_
              refine kw_iload (pc := 62) (i := 34) (k := 1) (n := 5) rfl rfl ?_
              refine kw_iald (pc := 64) (i := 35) (n := 192) rfl rfl (by omega) (by omega) (fun z21 e_z21 => ?_)
              replace hF := kf_le e_z21 hF
              have t_z21 := congrArg Int32.toInt e_z21
              have r_z21 := kw_rng z21
              refine kw_goto (pc := 65) (i := 36) (tgt := 69) rfl rfl ?_
              refine kw_iadd (pc := 69) (i := 38) rfl (fun z22 e_z22 t_z22 => ?_)
              replace hF := kf_le e_z22 hF
              first | (have u_z22 : z22.toInt = (S5.1 0 23).toInt + z21.toInt := (by omega); clear t_z22) | skip
              refine kw_istore (pc := 70) (i := 39) (n := 7) (lv' := [(7, .int z22), (6, .int z18), (5, .int x3), (4, .int x4), (3, .int z2), (0, .ref 0), (1, .int 3), (2, .int t)]) rfl (by decide) rfl ?_
              refine kw_iload_n (pc := 72) (i := 40) (k := 6) (n := 1) rfl rfl rfl ?_
              refine kw_if_eq (pc := 73) (i := 41) (tgt := 85) rfl rfl (fun c23 => ?_) (fun c23 => ?_)
              · exfalso; omega
              · replace hF := kf_n c23 hF
                refine kw_iload (pc := 76) (i := 42) (k := 1) (n := 6) rfl rfl ?_
                refine kw_iload_n (pc := 78) (i := 43) (k := 7) (n := 2) rfl rfl rfl ?_
                refine kw_callS (pc := 79) (i := 44) (Y := mX8_isTurn) (As := [.int z18, .int t]) (st := []) kw_hE rfl lsX8_256 arX8_isTurn (c_X8_isTurn l T hT0 hT1 S5 I6 z18 t ) (by decide) (Nat.le_of_ble_eq_true rfl) rfl (fun v S25 p24 => ?_)
                obtain ⟨e29, z28, rfl, f26, ef27⟩ := p24
                rw [e29]
                replace hF := kf_le ef27 hF
                have r_z28 := kw_rng z28
                show kw_AW l 2 kw_E0 KM mX8_farBy (p_X8_farByvn3_0 T σ t) 82 [(7, .int z22), (6, .int z18), (5, .int x3), (4, .int x4), (3, .int z2), (0, .ref 0), (1, .int 3), (2, .int t)] [.int z28] S5
                refine kw_if_eq (pc := 82) (i := 45) (tgt := 89) rfl rfl (fun c30 => ?_) (fun c30 => ?_)
                · replace hF := kf_p c30 hF
                  refine kw_iconst (pc := 89) (i := 48) (v := 0) rfl rfl ?_
                  refine kw_istore (pc := 90) (i := 49) (n := 8) (lv' := [(8, .int 0), (7, .int z22), (6, .int z18), (5, .int x3), (4, .int x4), (3, .int z2), (0, .ref 0), (1, .int 3), (2, .int t)]) rfl (by decide) rfl ?_
                  refine kw_iconst (pc := 92) (i := 50) (v := 0) rfl rfl ?_
                  refine kw_istore (pc := 93) (i := 51) (n := 9) (lv' := [(9, .int 0), (8, .int 0), (7, .int z22), (6, .int z18), (5, .int x3), (4, .int x4), (3, .int z2), (0, .ref 0), (1, .int 3), (2, .int t)]) rfl (by decide) rfl ?_
                  have L36 : ∀ (n40 : Nat) (x31 : Int32) (x32 : Int32) (S33 : kw_S), kw_I (bM T) S33 → kw_FM [20] σ S33 → 0 ≤ x31.toInt → l_X8_farByvn3_0_95 (l_X8_farByvn3_0_14 t z2 n12) t z2 x3 z18 z22 n40 x32 x31 S33 = (f_X8_farByvn3_0 σ t) → (65 - x31.toInt).toNat < n40 → kw_AW l 2 kw_E0 KM mX8_farBy (p_X8_farByvn3_0 T σ t) 95 [(9, .int x31), (8, .int 0), (7, .int z22), (6, .int z18), (5, .int x3), (4, .int x32), (3, .int z2), (0, .ref 0), (1, .int 3), (2, .int t)] [] S33 := by
                    intro n40
                    induction n40 with
                    | zero => intro x31 x32 S33 I34 F35 v38 hF m39; exact absurd m39 (Nat.not_lt_zero _)
                    | succ n40 ih37 =>
                      intro x31 x32 S33 I34 F35 v38 hF m39
                      replace hF := kf_st (l_X8_farByvn3_0_95_s _ _ _ _ _ _ _ _ _ _) hF
                      have r_x31 := kw_rng x31
                      have r_x32 := kw_rng x32
                      refine kw_iload (pc := 95) (i := 52) (k := 1) (n := 8) rfl rfl ?_
                      refine kw_if_eq (pc := 97) (i := 53) (tgt := 318) rfl rfl (fun c41 => ?_) (fun c41 => ?_)
                      · replace hF := kf_p c41 hF
                        refine kw_iinc' (pc := 318) (i := 172) (k := 4) (fun z => [(5, .int z), (9, .int x31), (8, .int 0), (7, .int z22), (6, .int z18), (4, .int x32), (3, .int z2), (0, .ref 0), (1, .int 3), (2, .int t)]) rfl rfl (by decide) rfl (fun _ => rfl) (fun z42 e_z42 t_z42 => ?_)
                        replace hF := kf_le e_z42 hF
                        first | (have u_z42 : z42.toInt = x3.toInt + 1 := (by omega); clear t_z42) | skip
                        refine kw_goto (pc := 321) (i := 173) (tgt := 14) rfl rfl ?_
                        refine kw_sub (lv' := [(5, .int z42), (4, .int x32), (3, .int z2), (0, .ref 0), (1, .int 3), (2, .int t)]) [0, 5, 6, 7, 8, 9] rfl ?_
                        exact ih9 z42 x32 S33 I34 F35 (by omega) hF (by omega)
                      · exfalso; omega
                  exact L36 _ 0 x4 S5 I6 F7 (by omega) hF (Nat.lt_succ_self _)
                · replace hF := kf_n c30 hF
                  refine kw_iconst (pc := 85) (i := 46) (v := 1) rfl rfl ?_
                  refine kw_goto (pc := 86) (i := 47) (tgt := 90) rfl rfl ?_
                  refine kw_istore (pc := 90) (i := 49) (n := 8) (lv' := [(8, .int 1), (7, .int z22), (6, .int z18), (5, .int x3), (4, .int x4), (3, .int z2), (0, .ref 0), (1, .int 3), (2, .int t)]) rfl (by decide) rfl ?_
                  refine kw_iconst (pc := 92) (i := 50) (v := 0) rfl rfl ?_
                  refine kw_istore (pc := 93) (i := 51) (n := 9) (lv' := [(9, .int 0), (8, .int 1), (7, .int z22), (6, .int z18), (5, .int x3), (4, .int x4), (3, .int z2), (0, .ref 0), (1, .int 3), (2, .int t)]) rfl (by decide) rfl ?_
                  have L48 : ∀ (n52 : Nat) (x43 : Int32) (x44 : Int32) (S45 : kw_S), kw_I (bM T) S45 → kw_FM [20] σ S45 → 0 ≤ x43.toInt → l_X8_farByvn3_0_95a (l_X8_farByvn3_0_14 t z2 n12) t z2 x3 z18 z22 n52 x44 x43 S45 = (f_X8_farByvn3_0 σ t) → (65 - x43.toInt).toNat < n52 → kw_AW l 2 kw_E0 KM mX8_farBy (p_X8_farByvn3_0 T σ t) 95 [(9, .int x43), (8, .int 1), (7, .int z22), (6, .int z18), (5, .int x3), (4, .int x44), (3, .int z2), (0, .ref 0), (1, .int 3), (2, .int t)] [] S45 := by
                    intro n52
                    induction n52 with
                    | zero => intro x43 x44 S45 I46 F47 v50 hF m51; exact absurd m51 (Nat.not_lt_zero _)
                    | succ n52 ih49 =>
                      intro x43 x44 S45 I46 F47 v50 hF m51
                      replace hF := kf_st (l_X8_farByvn3_0_95a_s _ _ _ _ _ _ _ _ _ _) hF
                      have r_x43 := kw_rng x43
                      have r_x44 := kw_rng x44
                      refine kw_iload (pc := 95) (i := 52) (k := 1) (n := 8) rfl rfl ?_
                      refine kw_if_eq (pc := 97) (i := 53) (tgt := 318) rfl rfl (fun c53 => ?_) (fun c53 => ?_)
                      · exfalso; omega
                      · replace hF := kf_n c53 hF
                        refine kw_iload (pc := 100) (i := 54) (k := 0) (n := 9) rfl rfl ?_
                        refine kw_iload_n (pc := 102) (i := 55) (k := 8) (n := 1) rfl rfl rfl ?_
                        refine kw_iconst (pc := 103) (i := 56) (v := 1) rfl rfl ?_
                        refine kw_icmp_le (pc := 104) (i := 57) (tgt := 111) rfl rfl (fun c54 => ?_) (fun c54 => ?_)
                        · exfalso; omega
                        · replace hF := kf_p c54 hF
                          refine kw_iload_n (pc := 107) (i := 58) (k := 6) (n := 3) rfl rfl rfl ?_
                          refine kw_goto (pc := 108) (i := 59) (tgt := 112) rfl rfl ?_
                          refine kw_icmp_ge (pc := 112) (i := 61) (tgt := 318) rfl rfl (fun c55 => ?_) (fun c55 => ?_)
                          · replace hF := kf_nl c55 hF
                            refine kw_iinc' (pc := 318) (i := 172) (k := 4) (fun z => [(5, .int z), (9, .int x43), (8, .int 1), (7, .int z22), (6, .int z18), (4, .int x44), (3, .int z2), (0, .ref 0), (1, .int 3), (2, .int t)]) rfl rfl (by decide) rfl (fun _ => rfl) (fun z56 e_z56 t_z56 => ?_)
                            replace hF := kf_le e_z56 hF
                            first | (have u_z56 : z56.toInt = x3.toInt + 1 := (by omega); clear t_z56) | skip
                            refine kw_goto (pc := 321) (i := 173) (tgt := 14) rfl rfl ?_
                            refine kw_sub (lv' := [(5, .int z56), (4, .int x44), (3, .int z2), (0, .ref 0), (1, .int 3), (2, .int t)]) [0, 5, 6, 7, 8, 9] rfl ?_
                            exact ih9 z56 x44 S45 I46 F47 (by omega) hF (by omega)
                          · replace hF := kf_p c55 hF
                            refine kw_iload (pc := 115) (i := 62) (k := 3) (n := 6) rfl rfl ?_
                            refine kw_iload_n (pc := 117) (i := 63) (k := 8) (n := 1) rfl rfl rfl ?_
                            refine kw_iconst (pc := 118) (i := 64) (v := 1) rfl rfl ?_
                            refine kw_icmp_le (pc := 119) (i := 65) (tgt := 135) rfl rfl (fun c57 => ?_) (fun c57 => ?_)
                            · exfalso; omega
                            · replace hF := kf_p c57 hF
                              refine kw_aload_n (pc := 122) (i := 66) (k := 7) (n := 0) rfl rfl rfl ?_
                              refine kw_get (pc := 123) (i := 67) (v := .ref 19) rfl rfl rfl lkX8_72 (fun _ => rfl) ?_
                              refine kw_bipush (pc := 126) (i := 68) (v := 64) rfl rfl ?_
                              refine kw_iload (pc := 128) (i := 69) (k := 0) (n := 9) rfl rfl ?_
                              refine kw_iadd (pc := 130) (i := 70) rfl (fun z58 e_z58 t_z58 => ?_)
                              replace hF := kf_le e_z58 hF
                              first | (have u_z58 : z58.toInt = 64 + x43.toInt := (by omega); clear t_z58) | skip
                              refine kw_iald (pc := 131) (i := 71) (n := 192) rfl rfl (by omega) (by omega) (fun z59 e_z59 => ?_)
                              replace hF := kf_le e_z59 hF
                              have t_z59 := congrArg Int32.toInt e_z59
                              have r_z59 := kw_rng z59
                              refine kw_goto (pc := 132) (i := 72) (tgt := 136) rfl rfl ?_
                              refine kw_iadd (pc := 136) (i := 74) rfl (fun z60 e_z60 t_z60 => ?_)
                              replace hF := kf_le e_z60 hF
                              first | (have u_z60 : z60.toInt = z18.toInt + z59.toInt := (by omega); clear t_z60) | skip
                              refine kw_istore (pc := 137) (i := 75) (n := 10) (lv' := [(10, .int z60), (9, .int x43), (8, .int 1), (7, .int z22), (6, .int z18), (5, .int x3), (4, .int x44), (3, .int z2), (0, .ref 0), (1, .int 3), (2, .int t)]) rfl (by decide) rfl ?_
                              refine kw_iload (pc := 139) (i := 76) (k := 3) (n := 7) rfl rfl ?_
                              refine kw_iload_n (pc := 141) (i := 77) (k := 9) (n := 1) rfl rfl rfl ?_
                              refine kw_iconst (pc := 142) (i := 78) (v := 1) rfl rfl ?_
                              refine kw_icmp_le (pc := 143) (i := 79) (tgt := 159) rfl rfl (fun c61 => ?_) (fun c61 => ?_)
                              · exfalso; omega
                              · replace hF := kf_p c61 hF
                                refine kw_aload_n (pc := 146) (i := 80) (k := 8) (n := 0) rfl rfl rfl ?_
                                refine kw_get (pc := 147) (i := 81) (v := .ref 18) rfl rfl rfl lkX8_69 (fun _ => rfl) ?_
                                refine kw_bipush (pc := 150) (i := 82) (v := 64) rfl rfl ?_
                                refine kw_iload (pc := 152) (i := 83) (k := 1) (n := 9) rfl rfl ?_
                                refine kw_iadd (pc := 154) (i := 84) rfl (fun z62 e_z62 t_z62 => ?_)
                                replace hF := kf_le e_z62 hF
                                first | (have u_z62 : z62.toInt = 64 + x43.toInt := (by omega); clear t_z62) | skip
                                refine kw_iald (pc := 155) (i := 85) (n := 192) rfl rfl (by omega) (by omega) (fun z63 e_z63 => ?_)
                                replace hF := kf_le e_z63 hF
                                have t_z63 := congrArg Int32.toInt e_z63
                                have r_z63 := kw_rng z63
                                refine kw_goto (pc := 156) (i := 86) (tgt := 160) rfl rfl ?_
                                refine kw_iadd (pc := 160) (i := 88) rfl (fun z64 e_z64 t_z64 => ?_)
                                replace hF := kf_le e_z64 hF
                                first | (have u_z64 : z64.toInt = z22.toInt + z63.toInt := (by omega); clear t_z64) | skip
                                refine kw_istore (pc := 161) (i := 89) (n := 11) (lv' := [(11, .int z64), (10, .int z60), (9, .int x43), (8, .int 1), (7, .int z22), (6, .int z18), (5, .int x3), (4, .int x44), (3, .int z2), (0, .ref 0), (1, .int 3), (2, .int t)]) rfl (by decide) rfl ?_
                                refine kw_iload_n (pc := 163) (i := 90) (k := 10) (n := 1) rfl rfl rfl ?_
                                refine kw_iconst (pc := 164) (i := 91) (v := 2) rfl rfl ?_
                                refine kw_icmp_lt (pc := 165) (i := 92) (tgt := 177) rfl rfl (fun c65 => ?_) (fun c65 => ?_)
                                · exfalso; omega
                                · replace hF := kf_nl c65 hF
                                  refine kw_iload (pc := 168) (i := 93) (k := 1) (n := 10) rfl rfl ?_
                                  refine kw_iload_n (pc := 170) (i := 94) (k := 11) (n := 2) rfl rfl rfl ?_
                                  refine kw_callS (pc := 171) (i := 95) (Y := mX8_isTurn) (As := [.int z60, .int t]) (st := []) kw_hE rfl lsX8_256 arX8_isTurn (c_X8_isTurn l T hT0 hT1 S45 I46 z60 t ) (by decide) (Nat.le_of_ble_eq_true rfl) rfl (fun v S67 p66 => ?_)
                                  obtain ⟨e71, z70, rfl, f68, ef69⟩ := p66
                                  rw [e71]
                                  replace hF := kf_le ef69 hF
                                  have r_z70 := kw_rng z70
                                  show kw_AW l 2 kw_E0 KM mX8_farBy (p_X8_farByvn3_0 T σ t) 174 [(11, .int z64), (10, .int z60), (9, .int x43), (8, .int 1), (7, .int z22), (6, .int z18), (5, .int x3), (4, .int x44), (3, .int z2), (0, .ref 0), (1, .int 3), (2, .int t)] [.int z70] S45
                                  refine kw_if_eq (pc := 174) (i := 96) (tgt := 181) rfl rfl (fun c72 => ?_) (fun c72 => ?_)
                                  · replace hF := kf_p c72 hF
                                    refine kw_iconst (pc := 181) (i := 99) (v := 0) rfl rfl ?_
                                    refine kw_istore (pc := 182) (i := 100) (n := 12) (lv' := [(12, .int 0), (11, .int z64), (10, .int z60), (9, .int x43), (8, .int 1), (7, .int z22), (6, .int z18), (5, .int x3), (4, .int x44), (3, .int z2), (0, .ref 0), (1, .int 3), (2, .int t)]) rfl (by decide) rfl ?_
                                    refine kw_iconst (pc := 184) (i := 101) (v := 0) rfl rfl ?_
                                    refine kw_istore (pc := 185) (i := 102) (n := 13) (lv' := [(13, .int 0), (12, .int 0), (11, .int z64), (10, .int z60), (9, .int x43), (8, .int 1), (7, .int z22), (6, .int z18), (5, .int x3), (4, .int x44), (3, .int z2), (0, .ref 0), (1, .int 3), (2, .int t)]) rfl (by decide) rfl ?_
                                    have L78 : ∀ (n82 : Nat) (x73 : Int32) (x74 : Int32) (S75 : kw_S), kw_I (bM T) S75 → kw_FM [20] σ S75 → 0 ≤ x73.toInt → l_X8_farByvn3_0_187 (l_X8_farByvn3_0_14 t z2 n12) (l_X8_farByvn3_0_95a (l_X8_farByvn3_0_14 t z2 n12) t z2 x3 z18 z22 n52) t z2 x3 z18 z22 x43 z60 z64 n82 x74 x73 S75 = (f_X8_farByvn3_0 σ t) → (65 - x73.toInt).toNat < n82 → kw_AW l 2 kw_E0 KM mX8_farBy (p_X8_farByvn3_0 T σ t) 187 [(13, .int x73), (12, .int 0), (11, .int z64), (10, .int z60), (9, .int x43), (8, .int 1), (7, .int z22), (6, .int z18), (5, .int x3), (4, .int x74), (3, .int z2), (0, .ref 0), (1, .int 3), (2, .int t)] [] S75 := by
                                      intro n82
                                      induction n82 with
                                      | zero => intro x73 x74 S75 I76 F77 v80 hF m81; exact absurd m81 (Nat.not_lt_zero _)
                                      | succ n82 ih79 =>
                                        intro x73 x74 S75 I76 F77 v80 hF m81
                                        replace hF := kf_st (l_X8_farByvn3_0_187_s _ _ _ _ _ _ _ _ _ _ _ _ _ _) hF
                                        have r_x73 := kw_rng x73
                                        have r_x74 := kw_rng x74
                                        refine kw_iload (pc := 187) (i := 103) (k := 1) (n := 12) rfl rfl ?_
                                        refine kw_if_eq (pc := 189) (i := 104) (tgt := 312) rfl rfl (fun c83 => ?_) (fun c83 => ?_)
                                        · replace hF := kf_p c83 hF
                                          refine kw_iinc' (pc := 312) (i := 170) (k := 4) (fun z => [(9, .int z), (13, .int x73), (12, .int 0), (11, .int z64), (10, .int z60), (8, .int 1), (7, .int z22), (6, .int z18), (5, .int x3), (4, .int x74), (3, .int z2), (0, .ref 0), (1, .int 3), (2, .int t)]) rfl rfl (by decide) rfl (fun _ => rfl) (fun z84 e_z84 t_z84 => ?_)
                                          replace hF := kf_le e_z84 hF
                                          first | (have u_z84 : z84.toInt = x43.toInt + 1 := (by omega); clear t_z84) | skip
                                          refine kw_goto (pc := 315) (i := 171) (tgt := 95) rfl rfl ?_
                                          refine kw_sub (lv' := [(9, .int z84), (8, .int 1), (7, .int z22), (6, .int z18), (5, .int x3), (4, .int x74), (3, .int z2), (0, .ref 0), (1, .int 3), (2, .int t)]) [0, 5, 6, 7, 8, 9, 10, 11, 12, 13] rfl ?_
                                          exact ih49 z84 x74 S75 I76 F77 (by omega) hF (by omega)
                                        · exfalso; omega
                                    exact L78 _ 0 x44 S45 I46 F47 (by omega) hF (Nat.lt_succ_self _)
                                  · replace hF := kf_n c72 hF
                                    refine kw_iconst (pc := 177) (i := 97) (v := 1) rfl rfl ?_
                                    refine kw_goto (pc := 178) (i := 98) (tgt := 182) rfl rfl ?_
                                    refine kw_istore (pc := 182) (i := 100) (n := 12) (lv' := [(12, .int 1), (11, .int z64), (10, .int z60), (9, .int x43), (8, .int 1), (7, .int z22), (6, .int z18), (5, .int x3), (4, .int x44), (3, .int z2), (0, .ref 0), (1, .int 3), (2, .int t)]) rfl (by decide) rfl ?_
                                    refine kw_iconst (pc := 184) (i := 101) (v := 0) rfl rfl ?_
                                    refine kw_istore (pc := 185) (i := 102) (n := 13) (lv' := [(13, .int 0), (12, .int 1), (11, .int z64), (10, .int z60), (9, .int x43), (8, .int 1), (7, .int z22), (6, .int z18), (5, .int x3), (4, .int x44), (3, .int z2), (0, .ref 0), (1, .int 3), (2, .int t)]) rfl (by decide) rfl ?_
                                    have L90 : ∀ (n94 : Nat) (x85 : Int32) (x86 : Int32) (S87 : kw_S), kw_I (bM T) S87 → kw_FM [20] σ S87 → 0 ≤ x85.toInt → l_X8_farByvn3_0_187a (l_X8_farByvn3_0_14 t z2 n12) (l_X8_farByvn3_0_95a (l_X8_farByvn3_0_14 t z2 n12) t z2 x3 z18 z22 n52) t z2 x3 z18 z22 x43 z60 z64 n94 x86 x85 S87 = (f_X8_farByvn3_0 σ t) → (65 - x85.toInt).toNat < n94 → kw_AW l 2 kw_E0 KM mX8_farBy (p_X8_farByvn3_0 T σ t) 187 [(13, .int x85), (12, .int 1), (11, .int z64), (10, .int z60), (9, .int x43), (8, .int 1), (7, .int z22), (6, .int z18), (5, .int x3), (4, .int x86), (3, .int z2), (0, .ref 0), (1, .int 3), (2, .int t)] [] S87 := by
                                      intro n94
                                      induction n94 with
                                      | zero => intro x85 x86 S87 I88 F89 v92 hF m93; exact absurd m93 (Nat.not_lt_zero _)
                                      | succ n94 ih91 =>
                                        intro x85 x86 S87 I88 F89 v92 hF m93
                                        replace hF := kf_st (l_X8_farByvn3_0_187a_s _ _ _ _ _ _ _ _ _ _ _ _ _ _) hF
                                        have r_x85 := kw_rng x85
                                        have r_x86 := kw_rng x86
                                        refine kw_iload (pc := 187) (i := 103) (k := 1) (n := 12) rfl rfl ?_
                                        refine kw_if_eq (pc := 189) (i := 104) (tgt := 312) rfl rfl (fun c95 => ?_) (fun c95 => ?_)
                                        · exfalso; omega
                                        · replace hF := kf_n c95 hF
                                          refine kw_iload (pc := 192) (i := 105) (k := 0) (n := 13) rfl rfl ?_
                                          refine kw_iload_n (pc := 194) (i := 106) (k := 12) (n := 1) rfl rfl rfl ?_
                                          refine kw_iconst (pc := 195) (i := 107) (v := 2) rfl rfl ?_
                                          refine kw_icmp_le (pc := 196) (i := 108) (tgt := 203) rfl rfl (fun c96 => ?_) (fun c96 => ?_)
                                          · exfalso; omega
                                          · replace hF := kf_p c96 hF
                                            refine kw_iload_n (pc := 199) (i := 109) (k := 10) (n := 3) rfl rfl rfl ?_
                                            refine kw_goto (pc := 200) (i := 110) (tgt := 204) rfl rfl ?_
                                            refine kw_icmp_ge (pc := 204) (i := 112) (tgt := 312) rfl rfl (fun c97 => ?_) (fun c97 => ?_)
                                            · replace hF := kf_nl c97 hF
                                              refine kw_iinc' (pc := 312) (i := 170) (k := 4) (fun z => [(9, .int z), (13, .int x85), (12, .int 1), (11, .int z64), (10, .int z60), (8, .int 1), (7, .int z22), (6, .int z18), (5, .int x3), (4, .int x86), (3, .int z2), (0, .ref 0), (1, .int 3), (2, .int t)]) rfl rfl (by decide) rfl (fun _ => rfl) (fun z98 e_z98 t_z98 => ?_)
                                              replace hF := kf_le e_z98 hF
                                              first | (have u_z98 : z98.toInt = x43.toInt + 1 := (by omega); clear t_z98) | skip
                                              refine kw_goto (pc := 315) (i := 171) (tgt := 95) rfl rfl ?_
                                              refine kw_sub (lv' := [(9, .int z98), (8, .int 1), (7, .int z22), (6, .int z18), (5, .int x3), (4, .int x86), (3, .int z2), (0, .ref 0), (1, .int 3), (2, .int t)]) [0, 5, 6, 7, 8, 9, 10, 11, 12, 13] rfl ?_
                                              exact ih49 z98 x86 S87 I88 F89 (by omega) hF (by omega)
                                            · replace hF := kf_p c97 hF
                                              refine kw_iload (pc := 207) (i := 113) (k := 3) (n := 10) rfl rfl ?_
                                              refine kw_iload_n (pc := 209) (i := 114) (k := 12) (n := 1) rfl rfl rfl ?_
                                              refine kw_iconst (pc := 210) (i := 115) (v := 2) rfl rfl ?_
                                              refine kw_icmp_le (pc := 211) (i := 116) (tgt := 228) rfl rfl (fun c99 => ?_) (fun c99 => ?_)
                                              · exfalso; omega
                                              · replace hF := kf_p c99 hF
                                                refine kw_aload_n (pc := 214) (i := 117) (k := 11) (n := 0) rfl rfl rfl ?_
                                                refine kw_get (pc := 215) (i := 118) (v := .ref 19) rfl rfl rfl lkX8_72 (fun _ => rfl) ?_
                                                refine kw_sipush (pc := 218) (i := 119) (v := 128) rfl rfl ?_
                                                refine kw_iload (pc := 221) (i := 120) (k := 0) (n := 13) rfl rfl ?_
                                                refine kw_iadd (pc := 223) (i := 121) rfl (fun z100 e_z100 t_z100 => ?_)
                                                replace hF := kf_le e_z100 hF
                                                first | (have u_z100 : z100.toInt = 128 + x85.toInt := (by omega); clear t_z100) | skip
                                                refine kw_iald (pc := 224) (i := 122) (n := 192) rfl rfl (by omega) (by omega) (fun z101 e_z101 => ?_)
                                                replace hF := kf_le e_z101 hF
                                                have t_z101 := congrArg Int32.toInt e_z101
                                                have r_z101 := kw_rng z101
                                                refine kw_goto (pc := 225) (i := 123) (tgt := 229) rfl rfl ?_
                                                refine kw_iadd (pc := 229) (i := 125) rfl (fun z102 e_z102 t_z102 => ?_)
                                                replace hF := kf_le e_z102 hF
                                                first | (have u_z102 : z102.toInt = z60.toInt + z101.toInt := (by omega); clear t_z102) | skip
                                                refine kw_istore (pc := 230) (i := 126) (n := 14) (lv' := [(14, .int z102), (13, .int x85), (12, .int 1), (11, .int z64), (10, .int z60), (9, .int x43), (8, .int 1), (7, .int z22), (6, .int z18), (5, .int x3), (4, .int x86), (3, .int z2), (0, .ref 0), (1, .int 3), (2, .int t)]) rfl (by decide) rfl ?_
                                                refine kw_iload (pc := 232) (i := 127) (k := 3) (n := 11) rfl rfl ?_
                                                refine kw_iload_n (pc := 234) (i := 128) (k := 13) (n := 1) rfl rfl rfl ?_
                                                refine kw_iconst (pc := 235) (i := 129) (v := 2) rfl rfl ?_
                                                refine kw_icmp_le (pc := 236) (i := 130) (tgt := 253) rfl rfl (fun c103 => ?_) (fun c103 => ?_)
                                                · exfalso; omega
                                                · replace hF := kf_p c103 hF
                                                  refine kw_aload_n (pc := 239) (i := 131) (k := 12) (n := 0) rfl rfl rfl ?_
                                                  refine kw_get (pc := 240) (i := 132) (v := .ref 18) rfl rfl rfl lkX8_69 (fun _ => rfl) ?_
                                                  refine kw_sipush (pc := 243) (i := 133) (v := 128) rfl rfl ?_
                                                  refine kw_iload (pc := 246) (i := 134) (k := 1) (n := 13) rfl rfl ?_
                                                  refine kw_iadd (pc := 248) (i := 135) rfl (fun z104 e_z104 t_z104 => ?_)
                                                  replace hF := kf_le e_z104 hF
                                                  first | (have u_z104 : z104.toInt = 128 + x85.toInt := (by omega); clear t_z104) | skip
                                                  refine kw_iald (pc := 249) (i := 136) (n := 192) rfl rfl (by omega) (by omega) (fun z105 e_z105 => ?_)
                                                  replace hF := kf_le e_z105 hF
                                                  have t_z105 := congrArg Int32.toInt e_z105
                                                  have r_z105 := kw_rng z105
                                                  refine kw_goto (pc := 250) (i := 137) (tgt := 254) rfl rfl ?_
                                                  refine kw_iadd (pc := 254) (i := 139) rfl (fun z106 e_z106 t_z106 => ?_)
                                                  replace hF := kf_le e_z106 hF
                                                  first | (have u_z106 : z106.toInt = z64.toInt + z105.toInt := (by omega); clear t_z106) | skip
                                                  refine kw_istore (pc := 255) (i := 140) (n := 15) (lv' := [(15, .int z106), (14, .int z102), (13, .int x85), (12, .int 1), (11, .int z64), (10, .int z60), (9, .int x43), (8, .int 1), (7, .int z22), (6, .int z18), (5, .int x3), (4, .int x86), (3, .int z2), (0, .ref 0), (1, .int 3), (2, .int t)]) rfl (by decide) rfl ?_
                                                  refine kw_iload_n (pc := 257) (i := 141) (k := 14) (n := 1) rfl rfl rfl ?_
                                                  refine kw_iconst (pc := 258) (i := 142) (v := 3) rfl rfl ?_
                                                  refine kw_icmp_lt (pc := 259) (i := 143) (tgt := 271) rfl rfl (fun c107 => ?_) (fun c107 => ?_)
                                                  · exfalso; omega
                                                  · replace hF := kf_nl c107 hF
                                                    refine kw_iload (pc := 262) (i := 144) (k := 1) (n := 14) rfl rfl ?_
                                                    refine kw_iload_n (pc := 264) (i := 145) (k := 15) (n := 2) rfl rfl rfl ?_
                                                    refine kw_callS (pc := 265) (i := 146) (Y := mX8_isTurn) (As := [.int z102, .int t]) (st := []) kw_hE rfl lsX8_256 arX8_isTurn (c_X8_isTurn l T hT0 hT1 S87 I88 z102 t ) (by decide) (Nat.le_of_ble_eq_true rfl) rfl (fun v S109 p108 => ?_)
                                                    obtain ⟨e113, z112, rfl, f110, ef111⟩ := p108
                                                    rw [e113]
                                                    replace hF := kf_le ef111 hF
                                                    have r_z112 := kw_rng z112
                                                    show kw_AW l 2 kw_E0 KM mX8_farBy (p_X8_farByvn3_0 T σ t) 268 [(15, .int z106), (14, .int z102), (13, .int x85), (12, .int 1), (11, .int z64), (10, .int z60), (9, .int x43), (8, .int 1), (7, .int z22), (6, .int z18), (5, .int x3), (4, .int x86), (3, .int z2), (0, .ref 0), (1, .int 3), (2, .int t)] [.int z112] S87
                                                    refine kw_if_eq (pc := 268) (i := 147) (tgt := 306) rfl rfl (fun c114 => ?_) (fun c114 => ?_)
                                                    · replace hF := kf_p c114 hF
                                                      refine kw_iinc' (pc := 306) (i := 168) (k := 2) (fun z => [(13, .int z), (15, .int z106), (14, .int z102), (12, .int 1), (11, .int z64), (10, .int z60), (9, .int x43), (8, .int 1), (7, .int z22), (6, .int z18), (5, .int x3), (4, .int x86), (3, .int z2), (0, .ref 0), (1, .int 3), (2, .int t)]) rfl rfl (by decide) rfl (fun _ => rfl) (fun z115 e_z115 t_z115 => ?_)
                                                      replace hF := kf_le e_z115 hF
                                                      first | (have u_z115 : z115.toInt = x85.toInt + 1 := (by omega); clear t_z115) | skip
                                                      refine kw_goto (pc := 309) (i := 169) (tgt := 187) rfl rfl ?_
                                                      refine kw_sub (lv' := [(13, .int z115), (12, .int 1), (11, .int z64), (10, .int z60), (9, .int x43), (8, .int 1), (7, .int z22), (6, .int z18), (5, .int x3), (4, .int x86), (3, .int z2), (0, .ref 0), (1, .int 3), (2, .int t)]) [0, 3, 4, 5, 6, 7, 8, 9, 10, 11, 12, 13, 14, 15] rfl ?_
                                                      exact ih91 z115 x86 S87 I88 F89 (by omega) hF (by omega)
                                                    · replace hF := kf_n c114 hF
                                                      refine kw_iload (pc := 271) (i := 148) (k := 0) (n := 15) rfl rfl ?_
                                                      refine kw_iload (pc := 273) (i := 149) (k := 11) (n := 4) rfl rfl ?_
                                                      refine kw_icmp_le (pc := 275) (i := 150) (tgt := 306) rfl rfl (fun c116 => ?_) (fun c116 => ?_)
                                                      · replace hF := kf_nl c116 hF
                                                        refine kw_iinc' (pc := 306) (i := 168) (k := 2) (fun z => [(13, .int z), (15, .int z106), (14, .int z102), (12, .int 1), (11, .int z64), (10, .int z60), (9, .int x43), (8, .int 1), (7, .int z22), (6, .int z18), (5, .int x3), (4, .int x86), (3, .int z2), (0, .ref 0), (1, .int 3), (2, .int t)]) rfl rfl (by decide) rfl (fun _ => rfl) (fun z117 e_z117 t_z117 => ?_)
                                                        replace hF := kf_le e_z117 hF
                                                        first | (have u_z117 : z117.toInt = x85.toInt + 1 := (by omega); clear t_z117) | skip
                                                        refine kw_goto (pc := 309) (i := 169) (tgt := 187) rfl rfl ?_
                                                        refine kw_sub (lv' := [(13, .int z117), (12, .int 1), (11, .int z64), (10, .int z60), (9, .int x43), (8, .int 1), (7, .int z22), (6, .int z18), (5, .int x3), (4, .int x86), (3, .int z2), (0, .ref 0), (1, .int 3), (2, .int t)]) [0, 3, 4, 5, 6, 7, 8, 9, 10, 11, 12, 13, 14, 15] rfl ?_
                                                        exact ih91 z117 x86 S87 I88 F89 (by omega) hF (by omega)
                                                      · replace hF := kf_p c116 hF
                                                        refine kw_iload (pc := 278) (i := 151) (k := 0) (n := 15) rfl rfl ?_
                                                        refine kw_istore (pc := 280) (i := 152) (n := 4) (lv' := [(4, .int z106), (15, .int z106), (14, .int z102), (13, .int x85), (12, .int 1), (11, .int z64), (10, .int z60), (9, .int x43), (8, .int 1), (7, .int z22), (6, .int z18), (5, .int x3), (3, .int z2), (0, .ref 0), (1, .int 3), (2, .int t)]) rfl (by decide) rfl ?_
                                                        refine kw_aload_n (pc := 282) (i := 153) (k := 13) (n := 0) rfl rfl rfl ?_
                                                        refine kw_get (pc := 283) (i := 154) (v := .ref 20) rfl rfl rfl lkX8_75 (fun _ => rfl) ?_
                                                        refine kw_iconst (pc := 286) (i := 155) (v := 0) rfl rfl ?_
                                                        refine kw_iload (pc := 287) (i := 156) (k := 11) (n := 5) rfl rfl ?_
                                                        refine kw_iast (pc := 289) (i := 157) (n := 3) rfl rfl (by omega) (by omega) ?_
                                                        have I118 : kw_I (bM T) (kw_ui S87 20 ((0 : Int32).toNatClampNeg) x3) := kw_I_ui I88 (kw_rng x3).1 (Int.le_of_lt_add_one (kw_rng x3).2)
                                                        have F119 : kw_FM [20] σ (kw_ui S87 20 ((0 : Int32).toNatClampNeg) x3) := kw_FM_ui F89 (by decide) (by decide)
                                                        refine kw_aload_n (pc := 290) (i := 158) (k := 13) (n := 0) rfl rfl rfl ?_
                                                        refine kw_get (pc := 291) (i := 159) (v := .ref 20) rfl rfl rfl lkX8_75 (fun _ => rfl) ?_
                                                        refine kw_iconst (pc := 294) (i := 160) (v := 1) rfl rfl ?_
                                                        refine kw_iload (pc := 295) (i := 161) (k := 7) (n := 9) rfl rfl ?_
                                                        refine kw_iast (pc := 297) (i := 162) (n := 3) rfl rfl (by omega) (by omega) ?_
                                                        have I120 : kw_I (bM T) (kw_ui (kw_ui S87 20 ((0 : Int32).toNatClampNeg) x3) 20 ((1 : Int32).toNatClampNeg) x43) := kw_I_ui I118 (kw_rng x43).1 (Int.le_of_lt_add_one (kw_rng x43).2)
                                                        have F121 : kw_FM [20] σ (kw_ui (kw_ui S87 20 ((0 : Int32).toNatClampNeg) x3) 20 ((1 : Int32).toNatClampNeg) x43) := kw_FM_ui F119 (by decide) (by decide)
                                                        refine kw_aload_n (pc := 298) (i := 163) (k := 13) (n := 0) rfl rfl rfl ?_
                                                        refine kw_get (pc := 299) (i := 164) (v := .ref 20) rfl rfl rfl lkX8_75 (fun _ => rfl) ?_
                                                        refine kw_iconst (pc := 302) (i := 165) (v := 2) rfl rfl ?_
                                                        refine kw_iload (pc := 303) (i := 166) (k := 3) (n := 13) rfl rfl ?_
                                                        refine kw_iast (pc := 305) (i := 167) (n := 3) rfl rfl (by omega) (by omega) ?_
                                                        have I122 : kw_I (bM T) (kw_ui (kw_ui (kw_ui S87 20 ((0 : Int32).toNatClampNeg) x3) 20 ((1 : Int32).toNatClampNeg) x43) 20 ((2 : Int32).toNatClampNeg) x85) := kw_I_ui I120 (kw_rng x85).1 (Int.le_of_lt_add_one (kw_rng x85).2)
                                                        have F123 : kw_FM [20] σ (kw_ui (kw_ui (kw_ui S87 20 ((0 : Int32).toNatClampNeg) x3) 20 ((1 : Int32).toNatClampNeg) x43) 20 ((2 : Int32).toNatClampNeg) x85) := kw_FM_ui F121 (by decide) (by decide)
                                                        refine kw_iinc' (pc := 306) (i := 168) (k := 3) (fun z => [(13, .int z), (4, .int z106), (15, .int z106), (14, .int z102), (12, .int 1), (11, .int z64), (10, .int z60), (9, .int x43), (8, .int 1), (7, .int z22), (6, .int z18), (5, .int x3), (3, .int z2), (0, .ref 0), (1, .int 3), (2, .int t)]) rfl rfl (by decide) rfl (fun _ => rfl) (fun z124 e_z124 t_z124 => ?_)
                                                        replace hF := kf_le e_z124 hF
                                                        first | (have u_z124 : z124.toInt = x85.toInt + 1 := (by omega); clear t_z124) | skip
                                                        refine kw_goto (pc := 309) (i := 169) (tgt := 187) rfl rfl ?_
                                                        refine kw_sub (lv' := [(13, .int z124), (12, .int 1), (11, .int z64), (10, .int z60), (9, .int x43), (8, .int 1), (7, .int z22), (6, .int z18), (5, .int x3), (4, .int z106), (3, .int z2), (0, .ref 0), (1, .int 3), (2, .int t)]) [0, 4, 5, 6, 7, 8, 9, 10, 11, 1, 12, 13, 14, 15] rfl ?_
                                                        exact ih91 z124 z106 (kw_ui (kw_ui (kw_ui S87 20 ((0 : Int32).toNatClampNeg) x3) 20 ((1 : Int32).toNatClampNeg) x43) 20 ((2 : Int32).toNatClampNeg) x85) I122 F123 (by omega) hF (by omega)
                                    exact L90 _ 0 x44 S45 I46 F47 (by omega) hF (Nat.lt_succ_self _)
                  exact L48 _ 0 x4 S5 I6 F7 (by omega) hF (Nat.lt_succ_self _)
  exact L8 _ 0 (-1048576) σ hI hF0 (by omega) hF (Nat.lt_succ_self _)
end
section
noncomputable def f_X8_farBy_0 (σ : kw_S) (n : Int32) (t : Int32) : Int32 × kw_S := if n.toInt = 0 then f_X8_farByvn0_0 σ t else if n.toInt = 1 then f_X8_farByvn1_0 σ t else if n.toInt = 2 then f_X8_farByvn2_0 σ t else f_X8_farByvn3_0 σ t
abbrev p_X8_farBy_0 (T : Int) (σ : kw_S) (n : Int32) (t : Int32) : Option Value → kw_S → Prop := fun vv σ' => (kw_I (bM T) σ' ∧ kw_FM [20] σ σ') ∧ ∃ r : Int32, vv = some (.int r) ∧ (r, σ') = f_X8_farBy_0 σ n t
theorem c_X8_farBy_0 (l : Launch) (T : Int) (hT0 : 0 ≤ T) (hT1 : T ≤ 3000) (σ : kw_S) (hI : kw_I (bM T) σ) (n : Int32) (t : Int32) (hp0 : 0 ≤ n.toInt) (hp1 : n.toInt ≤ 3) : kw_Met l 2 KM mX8_farBy [.ref 0, .int n, .int t] σ (p_X8_farBy_0 T σ n t) := by
  have h : n.toInt = 0 ∨ n.toInt = 1 ∨ n.toInt = 2 ∨ n.toInt = 3 := by omega
  rcases h with h | h | h | h
  · have e : n = 0 := Int32.toInt_inj.mp (h.trans (show (0 : Int) = (0 : Int32).toInt from rfl))
    subst e
    exact c_X8_farByvn0_0 l T hT0 hT1 σ hI t
  · have e : n = 1 := Int32.toInt_inj.mp (h.trans (show (1 : Int) = (1 : Int32).toInt from rfl))
    subst e
    exact c_X8_farByvn1_0 l T hT0 hT1 σ hI t
  · have e : n = 2 := Int32.toInt_inj.mp (h.trans (show (2 : Int) = (2 : Int32).toInt from rfl))
    subst e
    exact c_X8_farByvn2_0 l T hT0 hT1 σ hI t
  · have e : n = 3 := Int32.toInt_inj.mp (h.trans (show (3 : Int) = (3 : Int32).toInt from rfl))
    subst e
    exact c_X8_farByvn3_0 l T hT0 hT1 σ hI t
end
section
noncomputable def l_X8_far_0_71 (a1 : Int32) (a2 : Int32) (a3 : Int32) (a4 : Int32) : Nat → Int32 → kw_S → Int32 × kw_S
  | 0, _, S => (0, S)
  | n + 1, x5, S => if x5.toInt < (40 : Int32).toInt then (if x5.toInt < a1.toInt then (kf_l (S.1 20 x5.toNatClampNeg) fun z11 => kf_l (f_X8_setRow_0 S a3 x5 z11) fun S12 => kf_l (x5 + Int32.ofInt 1) fun z13 => l_X8_far_0_71 a1 a2 a3 a4 n z13 S12) else (kf_l (f_X8_setRow_0 S a3 x5 (0 : Int32)) fun S9 => kf_l (x5 + Int32.ofInt 1) fun z10 => l_X8_far_0_71 a1 a2 a3 a4 n z10 S9)) else (kf_b (f_X8_ask_0 S a4 (1 : Int32)) fun z7 S8 => (z7, S8))
theorem l_X8_far_0_71_s (a1 : Int32) (a2 : Int32) (a3 : Int32) (a4 : Int32) (n : Nat) (x5 : Int32) (S : kw_S) : l_X8_far_0_71 a1 a2 a3 a4 (n + 1) x5 S = if x5.toInt < (40 : Int32).toInt then (if x5.toInt < a1.toInt then (kf_l (S.1 20 x5.toNatClampNeg) fun z11 => kf_l (f_X8_setRow_0 S a3 x5 z11) fun S12 => kf_l (x5 + Int32.ofInt 1) fun z13 => l_X8_far_0_71 a1 a2 a3 a4 n z13 S12) else (kf_l (f_X8_setRow_0 S a3 x5 (0 : Int32)) fun S9 => kf_l (x5 + Int32.ofInt 1) fun z10 => l_X8_far_0_71 a1 a2 a3 a4 n z10 S9)) else (kf_b (f_X8_ask_0 S a4 (1 : Int32)) fun z7 S8 => (z7, S8)) := rfl
noncomputable def f_X8_far_0 (σ : kw_S) (n : Int32) (t : Int32) (a : Int32) : Int32 × kw_S := kf_l (f_X8_in σ n (0 : Int32) (3 : Int32)) fun z1 => if z1.toInt = 0 then ((((-1) : Int32), σ)) else (kf_l (f_X8_in σ t (0 : Int32) (999 : Int32)) fun z2 => if z2.toInt = 0 then ((((-1) : Int32), σ)) else (kf_l (f_X8_isRow σ a) fun z3 => if z3.toInt = 0 then ((((-1) : Int32), σ)) else (if (σ.1 0 10).toInt = 0 then ((((-4) : Int32), σ)) else (kf_l (f_X8_setHours_0 σ) fun S4 => kf_b (f_X8_farBy_0 S4 n t) fun z5 S6 => if z5.toInt = ((-1048576) : Int32).toInt then ((((-9) : Int32), S6)) else (l_X8_far_0_71 n t a z5 ((41 - (0 : Int32).toInt).toNat + 1) (0 : Int32) (kw_ui S6 2 a.toNatClampNeg n))))))
theorem f_X8_far_0_u (σ : kw_S) (n : Int32) (t : Int32) (a : Int32) : f_X8_far_0 σ n t a = kf_l (f_X8_in σ n (0 : Int32) (3 : Int32)) fun z1 => if z1.toInt = 0 then ((((-1) : Int32), σ)) else (kf_l (f_X8_in σ t (0 : Int32) (999 : Int32)) fun z2 => if z2.toInt = 0 then ((((-1) : Int32), σ)) else (kf_l (f_X8_isRow σ a) fun z3 => if z3.toInt = 0 then ((((-1) : Int32), σ)) else (if (σ.1 0 10).toInt = 0 then ((((-4) : Int32), σ)) else (kf_l (f_X8_setHours_0 σ) fun S4 => kf_b (f_X8_farBy_0 S4 n t) fun z5 S6 => if z5.toInt = ((-1048576) : Int32).toInt then ((((-9) : Int32), S6)) else (l_X8_far_0_71 n t a z5 ((41 - (0 : Int32).toInt).toNat + 1) (0 : Int32) (kw_ui S6 2 a.toNatClampNeg n)))))) := rfl
abbrev p_X8_far_0 (T : Int) (σ : kw_S) (n : Int32) (t : Int32) (a : Int32) : Option Value → kw_S → Prop := fun vv σ' => (kw_I (bM T) σ' ∧ kw_FM [2, 3, 18, 19, 20, 1002] σ σ') ∧ ∃ r : Int32, vv = some (.int r) ∧ (r, σ') = f_X8_far_0 σ n t a
set_option maxRecDepth 100000 in
set_option maxHeartbeats 4000000 in
theorem c_X8_far_0 (l : Launch) (T : Int) (hT0 : 0 ≤ T) (hT1 : T ≤ 3000) (σ : kw_S) (hI : kw_I (bM T) σ) (n : Int32) (t : Int32) (a : Int32) : kw_Met l 5 KM mX8_far [.ref 0, .int n, .int t, .int a] σ (p_X8_far_0 T σ n t a) := by
  have r_n := kw_rng n
  have r_t := kw_rng t
  have r_a := kw_rng a
  have hF0 : kw_FM [2, 3, 18, 19, 20, 1002] σ σ := kw_FM.rf
  have hF := (f_X8_far_0_u σ n t a).symm
  have q_m1048576 : (-1048576 : Int32).toInt = -1048576 := rfl
  have q_m9 : (-9 : Int32).toInt = -9 := rfl
  have q_m4 : (-4 : Int32).toInt = -4 := rfl
  have q_m1 : (-1 : Int32).toInt = -1 := rfl
  have q_0 : (0 : Int32).toInt = 0 := rfl
  have q_1 : (1 : Int32).toInt = 1 := rfl
  have q_3 : (3 : Int32).toInt = 3 := rfl
  have q_40 : (40 : Int32).toInt = 40 := rfl
  have q_999 : (999 : Int32).toInt = 999 := rfl
  refine kw_Met.of (by decide) rfl tX8_far (Nat.le_of_ble_eq_true rfl) ?_
  show kw_AW l 5 kw_E0 KM mX8_far (p_X8_far_0 T σ n t a) 0 [(0, .ref 0), (1, .int n), (2, .int t), (3, .int a)] [] σ
  refine kw_iload_n (pc := 0) (i := 0) (k := 1) (n := 1) rfl rfl rfl ?_
  refine kw_iconst (pc := 1) (i := 1) (v := 0) rfl rfl ?_
  refine kw_iconst (pc := 2) (i := 2) (v := 3) rfl rfl ?_
  refine kw_callS (pc := 3) (i := 3) (Y := mX8_in) (As := [.int n, .int 0, .int 3]) (st := []) kw_hE rfl lsX8_93 arX8_in (c_X8_in l T hT0 hT1 σ hI n 0 3 ) (by decide) (Nat.le_of_ble_eq_true rfl) rfl (fun v S2 p1 => ?_)
  obtain ⟨e8, z7, rfl, f3, f4, f5, ef6⟩ := p1
  rw [e8]
  replace hF := kf_le ef6 hF
  have r_z7 := kw_rng z7
  show kw_AW l 5 kw_E0 KM mX8_far (p_X8_far_0 T σ n t a) 6 [(0, .ref 0), (1, .int n), (2, .int t), (3, .int a)] [.int z7] σ
  refine kw_if_eq (pc := 6) (i := 4) (tgt := 27) rfl rfl (fun c9 => ?_) (fun c9 => ?_)
  · replace hF := kf_p c9 hF
    refine kw_iconst (pc := 27) (i := 13) (v := (-1)) rfl rfl ?_
    exact kw_ireturn (pc := 28) (i := 14) (ty := .int) rfl rfl rfl ⟨⟨hI, hF0⟩, _, rfl, hF⟩
  · replace hF := kf_n c9 hF
    refine kw_iload_n (pc := 9) (i := 5) (k := 2) (n := 2) rfl rfl rfl ?_
    refine kw_iconst (pc := 10) (i := 6) (v := 0) rfl rfl ?_
    refine kw_sipush (pc := 11) (i := 7) (v := 999) rfl rfl ?_
    refine kw_callS (pc := 14) (i := 8) (Y := mX8_in) (As := [.int t, .int 0, .int 999]) (st := []) kw_hE rfl lsX8_93 arX8_in (c_X8_in l T hT0 hT1 σ hI t 0 999 ) (by decide) (Nat.le_of_ble_eq_true rfl) rfl (fun v S11 p10 => ?_)
    obtain ⟨e17, z16, rfl, f12, f13, f14, ef15⟩ := p10
    rw [e17]
    replace hF := kf_le ef15 hF
    have r_z16 := kw_rng z16
    show kw_AW l 5 kw_E0 KM mX8_far (p_X8_far_0 T σ n t a) 17 [(0, .ref 0), (1, .int n), (2, .int t), (3, .int a)] [.int z16] σ
    refine kw_if_eq (pc := 17) (i := 9) (tgt := 27) rfl rfl (fun c18 => ?_) (fun c18 => ?_)
    · replace hF := kf_p c18 hF
      refine kw_iconst (pc := 27) (i := 13) (v := (-1)) rfl rfl ?_
      exact kw_ireturn (pc := 28) (i := 14) (ty := .int) rfl rfl rfl ⟨⟨hI, hF0⟩, _, rfl, hF⟩
    · replace hF := kf_n c18 hF
      refine kw_iload_n (pc := 20) (i := 10) (k := 3) (n := 3) rfl rfl rfl ?_
      refine kw_callS (pc := 21) (i := 11) (Y := mX8_isRow) (As := [.int a]) (st := []) kw_hE rfl lsX8_97 arX8_isRow (c_X8_isRow l T hT0 hT1 σ hI a ) (by decide) (Nat.le_of_ble_eq_true rfl) rfl (fun v S20 p19 => ?_)
      obtain ⟨e26, z25, rfl, f21, f22, f23, ef24⟩ := p19
      rw [e26]
      replace hF := kf_le ef24 hF
      have r_z25 := kw_rng z25
      show kw_AW l 5 kw_E0 KM mX8_far (p_X8_far_0 T σ n t a) 24 [(0, .ref 0), (1, .int n), (2, .int t), (3, .int a)] [.int z25] σ
      refine kw_if_ne (pc := 24) (i := 12) (tgt := 29) rfl rfl (fun c27 => ?_) (fun c27 => ?_)
      · replace hF := kf_n c27 hF
        refine kw_aload_n (pc := 29) (i := 15) (k := 0) (n := 0) rfl rfl rfl ?_
        refine kw_get (pc := 30) (i := 16) (v := .int (σ.1 0 10)) rfl rfl rfl lkX8_163 (fun _ => rfl) ?_
        have b28 : 0 ≤ (σ.1 0 10).toInt ∧ (σ.1 0 10).toInt ≤ 6 := hI 0 10
        refine kw_if_ne (pc := 33) (i := 17) (tgt := 39) rfl rfl (fun c29 => ?_) (fun c29 => ?_)
        · replace hF := kf_n c29 hF
          refine kw_aload_n (pc := 39) (i := 20) (k := 0) (n := 0) rfl rfl rfl ?_
          refine kw_callV (pc := 40) (i := 21) (Y := mX8_setHours) (a := 0) (As := []) (st := []) kw_hE rfl rfl lvX8_259 arX8_setHours (c_X8_setHours_0 l T hT0 hT1 σ hI  ) (by decide) (Nat.le_of_ble_eq_true rfl) rfl (fun v S31 p30 => ?_)
          obtain ⟨⟨I33, F34⟩, rfl, ef32⟩ := p30
          have F35 : kw_FM [2, 3, 18, 19, 20, 1002] σ S31 := kw_FM.tr hF0 F34 (by decide)
          have w_36 : (S31.1 0 27).toInt = (σ.1 0 27).toInt := congrArg Int32.toInt (kw_FM.at0 (j := 27) F34 (by decide))
          replace hF := kf_le ef32 hF
          show kw_AW l 5 kw_E0 KM mX8_far (p_X8_far_0 T σ n t a) 43 [(0, .ref 0), (1, .int n), (2, .int t), (3, .int a)] [] S31
          refine kw_aload_n (pc := 43) (i := 22) (k := 0) (n := 0) rfl rfl rfl ?_
          refine kw_iload_n (pc := 44) (i := 23) (k := 1) (n := 1) rfl rfl rfl ?_
          refine kw_iload_n (pc := 45) (i := 24) (k := 2) (n := 2) rfl rfl rfl ?_
          refine kw_callV (pc := 46) (i := 25) (Y := mX8_farBy) (a := 0) (As := [.int n, .int t]) (st := []) kw_hE rfl rfl lvX8_262 arX8_farBy (c_X8_farBy_0 l T hT0 hT1 S31 I33 n t (by first | omega | decide) (by first | omega | decide)) (by decide) (Nat.le_of_ble_eq_true rfl) rfl (fun v S38 p37 => ?_)
          obtain ⟨⟨I41, F42⟩, z40, rfl, ef39⟩ := p37
          have F43 : kw_FM [2, 3, 18, 19, 20, 1002] σ S38 := kw_FM.tr F35 F42 (by decide)
          have w_44 : (S38.1 0 27).toInt = (S31.1 0 27).toInt := congrArg Int32.toInt (kw_FM.at0 (j := 27) F42 (by decide))
          replace hF := kf_be ef39 hF
          have r_z40 := kw_rng z40
          show kw_AW l 5 kw_E0 KM mX8_far (p_X8_far_0 T σ n t a) 49 [(0, .ref 0), (1, .int n), (2, .int t), (3, .int a)] [.int z40] S38
          refine kw_istore (pc := 49) (i := 26) (n := 4) (lv' := [(4, .int z40), (0, .ref 0), (1, .int n), (2, .int t), (3, .int a)]) rfl (by decide) rfl ?_
          refine kw_iload (pc := 51) (i := 27) (k := 0) (n := 4) rfl rfl ?_
          refine kw_ldc (pc := 53) (i := 28) (v := (-1048576)) rfl ckX8_255 ?_
          refine kw_icmp_ne (pc := 55) (i := 29) (tgt := 61) rfl rfl (fun c45 => ?_) (fun c45 => ?_)
          · replace hF := kf_n c45 hF
            refine kw_aload_n (pc := 61) (i := 32) (k := 1) (n := 0) rfl rfl rfl ?_
            refine kw_get (pc := 62) (i := 33) (v := .ref 2) rfl rfl rfl lkX8_17 (fun _ => rfl) ?_
            refine kw_iload_n (pc := 65) (i := 34) (k := 4) (n := 3) rfl rfl rfl ?_
            refine kw_iload_n (pc := 66) (i := 35) (k := 2) (n := 1) rfl rfl rfl ?_
            refine kw_iast (pc := 67) (i := 36) (n := 6) rfl rfl (by omega) (by omega) ?_
            have I46 : kw_I (bM T) (kw_ui S38 2 a.toNatClampNeg n) := kw_I_ui I41 (show -9 ≤ n.toInt by omega) (show n.toInt ≤ 40 by omega)
            have F47 : kw_FM [2, 3, 18, 19, 20, 1002] σ (kw_ui S38 2 a.toNatClampNeg n) := kw_FM_ui F43 (by decide) (by decide)
            refine kw_iconst (pc := 68) (i := 37) (v := 0) rfl rfl ?_
            refine kw_istore (pc := 69) (i := 38) (n := 5) (lv' := [(5, .int 0), (4, .int z40), (0, .ref 0), (1, .int n), (2, .int t), (3, .int a)]) rfl (by decide) rfl ?_
            have L52 : ∀ (n56 : Nat) (x48 : Int32) (S49 : kw_S), kw_I (bM T) S49 → kw_FM [2, 3, 18, 19, 20, 1002] σ S49 → 0 ≤ x48.toInt → l_X8_far_0_71 n t a z40 n56 x48 S49 = (f_X8_far_0 σ n t a) → (41 - x48.toInt).toNat < n56 → kw_AW l 5 kw_E0 KM mX8_far (p_X8_far_0 T σ n t a) 71 [(5, .int x48), (4, .int z40), (0, .ref 0), (1, .int n), (2, .int t), (3, .int a)] [] S49 := by
              intro n56
              induction n56 with
              | zero => intro x48 S49 I50 F51 v54 hF m55; exact absurd m55 (Nat.not_lt_zero _)
              | succ n56 ih53 =>
                intro x48 S49 I50 F51 v54 hF m55
                replace hF := kf_st (l_X8_far_0_71_s _ _ _ _ _ _ _) hF
                have r_x48 := kw_rng x48
                refine kw_iload (pc := 71) (i := 39) (k := 0) (n := 5) rfl rfl ?_
                refine kw_bipush (pc := 73) (i := 40) (v := 40) rfl rfl ?_
                refine kw_icmp_ge (pc := 75) (i := 41) (tgt := 108) rfl rfl (fun c57 => ?_) (fun c57 => ?_)
                · replace hF := kf_nl c57 hF
                  refine kw_aload_n (pc := 108) (i := 57) (k := 2) (n := 0) rfl rfl rfl ?_
                  refine kw_iload (pc := 109) (i := 58) (k := 1) (n := 4) rfl rfl ?_
                  refine kw_iconst (pc := 111) (i := 59) (v := 1) rfl rfl ?_
                  refine kw_callV (pc := 112) (i := 60) (Y := mX8_ask) (a := 0) (As := [.int z40, .int 1]) (st := []) kw_hE rfl rfl lvX8_119 arX8_ask (c_X8_ask_0 l T hT0 hT1 S49 I50 z40 1 ) (by decide) (Nat.le_of_ble_eq_true rfl) rfl (fun v S59 p58 => ?_)
                  obtain ⟨⟨I63, F64⟩, z62, rfl, f60, ef61⟩ := p58
                  have F65 : kw_FM [2, 3, 18, 19, 20, 1002] σ S59 := kw_FM.tr F51 F64 (by decide)
                  have w_66 : (S59.1 0 27).toInt = (S49.1 0 27).toInt := congrArg Int32.toInt (kw_FM.at0 (j := 27) F64 (by decide))
                  replace hF := kf_be ef61 hF
                  have r_z62 := kw_rng z62
                  show kw_AW l 5 kw_E0 KM mX8_far (p_X8_far_0 T σ n t a) 115 [(5, .int x48), (4, .int z40), (0, .ref 0), (1, .int n), (2, .int t), (3, .int a)] [.int z62] S59
                  exact kw_ireturn (pc := 115) (i := 61) (ty := .int) rfl rfl rfl ⟨⟨I63, F65⟩, _, rfl, hF⟩
                · replace hF := kf_p c57 hF
                  refine kw_aload_n (pc := 78) (i := 42) (k := 2) (n := 0) rfl rfl rfl ?_
                  refine kw_iload_n (pc := 79) (i := 43) (k := 5) (n := 3) rfl rfl rfl ?_
                  refine kw_iload (pc := 80) (i := 44) (k := 0) (n := 5) rfl rfl ?_
                  refine kw_iload (pc := 82) (i := 45) (k := 0) (n := 5) rfl rfl ?_
                  refine kw_iload_n (pc := 84) (i := 46) (k := 3) (n := 1) rfl rfl rfl ?_
                  refine kw_icmp_ge (pc := 85) (i := 47) (tgt := 98) rfl rfl (fun c67 => ?_) (fun c67 => ?_)
                  · replace hF := kf_nl c67 hF
                    refine kw_iconst (pc := 98) (i := 53) (v := 0) rfl rfl ?_
                    refine kw_callV (pc := 99) (i := 54) (Y := mX8_setRow) (a := 0) (As := [.int a, .int x48, .int 0]) (st := []) kw_hE rfl rfl lvX8_108 arX8_setRow (c_X8_setRow_0 l T hT0 hT1 S49 I50 a x48 0 (by first | omega | decide) (by first | omega | decide) (by first | omega | decide) (by first | omega | decide)) (by decide) (Nat.le_of_ble_eq_true rfl) rfl (fun v S69 p68 => ?_)
                    obtain ⟨⟨I71, F72⟩, rfl, ef70⟩ := p68
                    have F73 : kw_FM [2, 3, 18, 19, 20, 1002] σ S69 := kw_FM.tr F51 F72 (by decide)
                    have w_74 : (S69.1 0 27).toInt = (S49.1 0 27).toInt := congrArg Int32.toInt (kw_FM.at0 (j := 27) F72 (by decide))
                    replace hF := kf_le ef70 hF
                    show kw_AW l 5 kw_E0 KM mX8_far (p_X8_far_0 T σ n t a) 102 [(5, .int x48), (4, .int z40), (0, .ref 0), (1, .int n), (2, .int t), (3, .int a)] [] S69
                    refine kw_iinc' (pc := 102) (i := 55) (k := 0) (fun z => [(5, .int z), (4, .int z40), (0, .ref 0), (1, .int n), (2, .int t), (3, .int a)]) rfl rfl (by decide) rfl (fun _ => rfl) (fun z75 e_z75 t_z75 => ?_)
                    replace hF := kf_le e_z75 hF
                    first | (have u_z75 : z75.toInt = x48.toInt + 1 := (by omega); clear t_z75) | skip
                    refine kw_goto (pc := 105) (i := 56) (tgt := 71) rfl rfl ?_
                    refine kw_sub (lv' := [(5, .int z75), (4, .int z40), (0, .ref 0), (1, .int n), (2, .int t), (3, .int a)]) [0, 1, 2, 3, 4, 5] rfl ?_
                    exact ih53 z75 S69 I71 F73 (by omega) hF (by omega)
                  · replace hF := kf_p c67 hF
                    refine kw_aload_n (pc := 88) (i := 48) (k := 2) (n := 0) rfl rfl rfl ?_
                    refine kw_get (pc := 89) (i := 49) (v := .ref 20) rfl rfl rfl lkX8_75 (fun _ => rfl) ?_
                    refine kw_iload (pc := 92) (i := 50) (k := 0) (n := 5) rfl rfl ?_
                    refine kw_iald (pc := 94) (i := 51) (n := 3) rfl rfl (by omega) (by omega) (fun z76 e_z76 => ?_)
                    replace hF := kf_le e_z76 hF
                    have t_z76 := congrArg Int32.toInt e_z76
                    have r_z76 := kw_rng z76
                    refine kw_goto (pc := 95) (i := 52) (tgt := 99) rfl rfl ?_
                    refine kw_callV (pc := 99) (i := 54) (Y := mX8_setRow) (a := 0) (As := [.int a, .int x48, .int z76]) (st := []) kw_hE rfl rfl lvX8_108 arX8_setRow (c_X8_setRow_0 l T hT0 hT1 S49 I50 a x48 z76 (by first | omega | decide) (by first | omega | decide) (by first | omega | decide) (by first | omega | decide)) (by decide) (Nat.le_of_ble_eq_true rfl) rfl (fun v S78 p77 => ?_)
                    obtain ⟨⟨I80, F81⟩, rfl, ef79⟩ := p77
                    have F82 : kw_FM [2, 3, 18, 19, 20, 1002] σ S78 := kw_FM.tr F51 F81 (by decide)
                    have w_83 : (S78.1 0 27).toInt = (S49.1 0 27).toInt := congrArg Int32.toInt (kw_FM.at0 (j := 27) F81 (by decide))
                    replace hF := kf_le ef79 hF
                    show kw_AW l 5 kw_E0 KM mX8_far (p_X8_far_0 T σ n t a) 102 [(5, .int x48), (4, .int z40), (0, .ref 0), (1, .int n), (2, .int t), (3, .int a)] [] S78
                    refine kw_iinc' (pc := 102) (i := 55) (k := 0) (fun z => [(5, .int z), (4, .int z40), (0, .ref 0), (1, .int n), (2, .int t), (3, .int a)]) rfl rfl (by decide) rfl (fun _ => rfl) (fun z84 e_z84 t_z84 => ?_)
                    replace hF := kf_le e_z84 hF
                    first | (have u_z84 : z84.toInt = x48.toInt + 1 := (by omega); clear t_z84) | skip
                    refine kw_goto (pc := 105) (i := 56) (tgt := 71) rfl rfl ?_
                    refine kw_sub (lv' := [(5, .int z84), (4, .int z40), (0, .ref 0), (1, .int n), (2, .int t), (3, .int a)]) [0, 1, 2, 3, 4, 5] rfl ?_
                    exact ih53 z84 S78 I80 F82 (by omega) hF (by omega)
            exact L52 _ 0 (kw_ui S38 2 a.toNatClampNeg n) I46 F47 (by omega) hF (Nat.lt_succ_self _)
          · replace hF := kf_p c45 hF
            refine kw_bipush (pc := 58) (i := 30) (v := (-9)) rfl rfl ?_
            exact kw_ireturn (pc := 60) (i := 31) (ty := .int) rfl rfl rfl ⟨⟨I41, F43⟩, _, rfl, hF⟩
        · replace hF := kf_p c29 hF
          refine kw_bipush (pc := 36) (i := 18) (v := (-4)) rfl rfl ?_
          exact kw_ireturn (pc := 38) (i := 19) (ty := .int) rfl rfl rfl ⟨⟨hI, hF0⟩, _, rfl, hF⟩
      · replace hF := kf_p c27 hF
        refine kw_iconst (pc := 27) (i := 13) (v := (-1)) rfl rfl ?_
        exact kw_ireturn (pc := 28) (i := 14) (ty := .int) rfl rfl rfl ⟨⟨hI, hF0⟩, _, rfl, hF⟩
noncomputable def l_X8_rival_0_199 (k66 : Int32 → kw_S → Int32 × kw_S) (a1 : Int32) (a2 : Int32) (a3 : Int32) : Nat → Int32 → kw_S → Int32 × kw_S
  | 0, _, S => (0, S)
  | n + 1, x5, S => kf_l ((1 : Int32) <<< ((S.1 0 10) &&& 31)) fun z11 => if x5.toInt < z11.toInt then (kf_l (S.1 22 x5.toNatClampNeg) fun z13 => kf_l (x5 + Int32.ofInt 1) fun z14 => l_X8_rival_0_199 k66 a1 a2 a3 n z14 (kw_ui S 21 x5.toNatClampNeg z13)) else (kf_l (a3 + Int32.ofInt (-1)) fun z12 => k66 z12 S)
theorem l_X8_rival_0_199_s (k66 : Int32 → kw_S → Int32 × kw_S) (a1 : Int32) (a2 : Int32) (a3 : Int32) (n : Nat) (x5 : Int32) (S : kw_S) : l_X8_rival_0_199 k66 a1 a2 a3 (n + 1) x5 S = kf_l ((1 : Int32) <<< ((S.1 0 10) &&& 31)) fun z11 => if x5.toInt < z11.toInt then (kf_l (S.1 22 x5.toNatClampNeg) fun z13 => kf_l (x5 + Int32.ofInt 1) fun z14 => l_X8_rival_0_199 k66 a1 a2 a3 n z14 (kw_ui S 21 x5.toNatClampNeg z13)) else (kf_l (a3 + Int32.ofInt (-1)) fun z12 => k66 z12 S) := rfl
noncomputable def l_X8_rival_0_109 (k66 : Int32 → kw_S → Int32 × kw_S) (k86 : Int32 → kw_S → Int32 × kw_S) (a1 : Int32) (a2 : Int32) (a3 : Int32) (a5 : Int32) (S : kw_S) : Nat → Int32 → Int32 → Int32 × kw_S
  | 0, _, _ => (0, S)
  | n + 1, x6, x7 => if x7.toInt < (S.1 0 10).toInt then (kf_l (f_X8_has S a5 x7) fun z17 => if z17.toInt = (0 : Int32).toInt then (kf_l (x7 + Int32.ofInt 1) fun z18 => l_X8_rival_0_109 k66 k86 a1 a2 a3 a5 S n x6 z18) else (kf_l ((1 : Int32) <<< (x7 &&& 31)) fun z19 => kf_l (a5 ^^^ z19) fun z20 => kf_l (S.1 21 z20.toNatClampNeg) fun z21 => if (0 : Int32).toInt = 0 then (if z21.toInt < x6.toInt then (kf_l (x7 + Int32.ofInt 1) fun z23 => l_X8_rival_0_109 k66 k86 a1 a2 a3 a5 S n z21 z23) else (kf_l (x7 + Int32.ofInt 1) fun z22 => l_X8_rival_0_109 k66 k86 a1 a2 a3 a5 S n x6 z22)) else ((0, S)))) else (kf_l (a5 + Int32.ofInt 1) fun z16 => k86 z16 (kw_ui S 22 a5.toNatClampNeg x6))
theorem l_X8_rival_0_109_s (k66 : Int32 → kw_S → Int32 × kw_S) (k86 : Int32 → kw_S → Int32 × kw_S) (a1 : Int32) (a2 : Int32) (a3 : Int32) (a5 : Int32) (S : kw_S) (n : Nat) (x6 : Int32) (x7 : Int32) : l_X8_rival_0_109 k66 k86 a1 a2 a3 a5 S (n + 1) x6 x7 = if x7.toInt < (S.1 0 10).toInt then (kf_l (f_X8_has S a5 x7) fun z17 => if z17.toInt = (0 : Int32).toInt then (kf_l (x7 + Int32.ofInt 1) fun z18 => l_X8_rival_0_109 k66 k86 a1 a2 a3 a5 S n x6 z18) else (kf_l ((1 : Int32) <<< (x7 &&& 31)) fun z19 => kf_l (a5 ^^^ z19) fun z20 => kf_l (S.1 21 z20.toNatClampNeg) fun z21 => if (0 : Int32).toInt = 0 then (if z21.toInt < x6.toInt then (kf_l (x7 + Int32.ofInt 1) fun z23 => l_X8_rival_0_109 k66 k86 a1 a2 a3 a5 S n z21 z23) else (kf_l (x7 + Int32.ofInt 1) fun z22 => l_X8_rival_0_109 k66 k86 a1 a2 a3 a5 S n x6 z22)) else ((0, S)))) else (kf_l (a5 + Int32.ofInt 1) fun z16 => k86 z16 (kw_ui S 22 a5.toNatClampNeg x6)) := rfl
noncomputable def l_X8_rival_0_86 (k66 : Int32 → kw_S → Int32 × kw_S) (a1 : Int32) (a2 : Int32) (a3 : Int32) : Nat → Int32 → kw_S → Int32 × kw_S
  | 0, _, S => (0, S)
  | n + 1, x5, S => kf_l ((1 : Int32) <<< ((S.1 0 10) &&& 31)) fun z10 => if x5.toInt < z10.toInt then (kf_l (S.1 21 x5.toNatClampNeg) fun z15 => l_X8_rival_0_109 k66 (l_X8_rival_0_86 k66 a1 a2 a3 n) a1 a2 a3 x5 S ((7 - (0 : Int32).toInt).toNat + 1) z15 (0 : Int32)) else (l_X8_rival_0_199 k66 a1 a2 a3 ((65 - (0 : Int32).toInt).toNat + 1) (0 : Int32) S)
theorem l_X8_rival_0_86_s (k66 : Int32 → kw_S → Int32 × kw_S) (a1 : Int32) (a2 : Int32) (a3 : Int32) (n : Nat) (x5 : Int32) (S : kw_S) : l_X8_rival_0_86 k66 a1 a2 a3 (n + 1) x5 S = kf_l ((1 : Int32) <<< ((S.1 0 10) &&& 31)) fun z10 => if x5.toInt < z10.toInt then (kf_l (S.1 21 x5.toNatClampNeg) fun z15 => l_X8_rival_0_109 k66 (l_X8_rival_0_86 k66 a1 a2 a3 n) a1 a2 a3 x5 S ((7 - (0 : Int32).toInt).toNat + 1) z15 (0 : Int32)) else (l_X8_rival_0_199 k66 a1 a2 a3 ((65 - (0 : Int32).toInt).toNat + 1) (0 : Int32) S) := rfl
noncomputable def l_X8_rival_0_199a (k66 : Int32 → kw_S → Int32 × kw_S) (a1 : Int32) (a2 : Int32) (a3 : Int32) : Nat → Int32 → kw_S → Int32 × kw_S
  | 0, _, S => (0, S)
  | n + 1, x5, S => kf_l ((1 : Int32) <<< ((S.1 0 10) &&& 31)) fun z25 => if x5.toInt < z25.toInt then (kf_l (S.1 22 x5.toNatClampNeg) fun z27 => kf_l (x5 + Int32.ofInt 1) fun z28 => l_X8_rival_0_199a k66 a1 a2 a3 n z28 (kw_ui S 21 x5.toNatClampNeg z27)) else (kf_l (a3 + Int32.ofInt (-1)) fun z26 => k66 z26 S)
theorem l_X8_rival_0_199a_s (k66 : Int32 → kw_S → Int32 × kw_S) (a1 : Int32) (a2 : Int32) (a3 : Int32) (n : Nat) (x5 : Int32) (S : kw_S) : l_X8_rival_0_199a k66 a1 a2 a3 (n + 1) x5 S = kf_l ((1 : Int32) <<< ((S.1 0 10) &&& 31)) fun z25 => if x5.toInt < z25.toInt then (kf_l (S.1 22 x5.toNatClampNeg) fun z27 => kf_l (x5 + Int32.ofInt 1) fun z28 => l_X8_rival_0_199a k66 a1 a2 a3 n z28 (kw_ui S 21 x5.toNatClampNeg z27)) else (kf_l (a3 + Int32.ofInt (-1)) fun z26 => k66 z26 S) := rfl
noncomputable def l_X8_rival_0_109a (k66 : Int32 → kw_S → Int32 × kw_S) (k86 : Int32 → kw_S → Int32 × kw_S) (a1 : Int32) (a2 : Int32) (a3 : Int32) (a5 : Int32) (S : kw_S) : Nat → Int32 → Int32 → Int32 × kw_S
  | 0, _, _ => (0, S)
  | n + 1, x6, x7 => if x7.toInt < (S.1 0 10).toInt then (kf_l (f_X8_has S a5 x7) fun z31 => if z31.toInt = (1 : Int32).toInt then (kf_l (x7 + Int32.ofInt 1) fun z32 => l_X8_rival_0_109a k66 k86 a1 a2 a3 a5 S n x6 z32) else (kf_l ((1 : Int32) <<< (x7 &&& 31)) fun z33 => kf_l (a5 ^^^ z33) fun z34 => kf_l (S.1 21 z34.toNatClampNeg) fun z35 => if (1 : Int32).toInt = 0 then ((0, S)) else (kf_l (f_X8_greater S x6 z35) fun z36 => kf_l (x7 + Int32.ofInt 1) fun z37 => l_X8_rival_0_109a k66 k86 a1 a2 a3 a5 S n z36 z37))) else (kf_l (a5 + Int32.ofInt 1) fun z30 => k86 z30 (kw_ui S 22 a5.toNatClampNeg x6))
theorem l_X8_rival_0_109a_s (k66 : Int32 → kw_S → Int32 × kw_S) (k86 : Int32 → kw_S → Int32 × kw_S) (a1 : Int32) (a2 : Int32) (a3 : Int32) (a5 : Int32) (S : kw_S) (n : Nat) (x6 : Int32) (x7 : Int32) : l_X8_rival_0_109a k66 k86 a1 a2 a3 a5 S (n + 1) x6 x7 = if x7.toInt < (S.1 0 10).toInt then (kf_l (f_X8_has S a5 x7) fun z31 => if z31.toInt = (1 : Int32).toInt then (kf_l (x7 + Int32.ofInt 1) fun z32 => l_X8_rival_0_109a k66 k86 a1 a2 a3 a5 S n x6 z32) else (kf_l ((1 : Int32) <<< (x7 &&& 31)) fun z33 => kf_l (a5 ^^^ z33) fun z34 => kf_l (S.1 21 z34.toNatClampNeg) fun z35 => if (1 : Int32).toInt = 0 then ((0, S)) else (kf_l (f_X8_greater S x6 z35) fun z36 => kf_l (x7 + Int32.ofInt 1) fun z37 => l_X8_rival_0_109a k66 k86 a1 a2 a3 a5 S n z36 z37))) else (kf_l (a5 + Int32.ofInt 1) fun z30 => k86 z30 (kw_ui S 22 a5.toNatClampNeg x6)) := rfl
noncomputable def l_X8_rival_0_86a (k66 : Int32 → kw_S → Int32 × kw_S) (a1 : Int32) (a2 : Int32) (a3 : Int32) : Nat → Int32 → kw_S → Int32 × kw_S
  | 0, _, S => (0, S)
  | n + 1, x5, S => kf_l ((1 : Int32) <<< ((S.1 0 10) &&& 31)) fun z24 => if x5.toInt < z24.toInt then (kf_l (S.1 21 x5.toNatClampNeg) fun z29 => l_X8_rival_0_109a k66 (l_X8_rival_0_86a k66 a1 a2 a3 n) a1 a2 a3 x5 S ((7 - (0 : Int32).toInt).toNat + 1) z29 (0 : Int32)) else (l_X8_rival_0_199a k66 a1 a2 a3 ((65 - (0 : Int32).toInt).toNat + 1) (0 : Int32) S)
theorem l_X8_rival_0_86a_s (k66 : Int32 → kw_S → Int32 × kw_S) (a1 : Int32) (a2 : Int32) (a3 : Int32) (n : Nat) (x5 : Int32) (S : kw_S) : l_X8_rival_0_86a k66 a1 a2 a3 (n + 1) x5 S = kf_l ((1 : Int32) <<< ((S.1 0 10) &&& 31)) fun z24 => if x5.toInt < z24.toInt then (kf_l (S.1 21 x5.toNatClampNeg) fun z29 => l_X8_rival_0_109a k66 (l_X8_rival_0_86a k66 a1 a2 a3 n) a1 a2 a3 x5 S ((7 - (0 : Int32).toInt).toNat + 1) z29 (0 : Int32)) else (l_X8_rival_0_199a k66 a1 a2 a3 ((65 - (0 : Int32).toInt).toNat + 1) (0 : Int32) S) := rfl
noncomputable def l_X8_rival_0_66 (a1 : Int32) (a2 : Int32) : Nat → Int32 → kw_S → Int32 × kw_S
  | 0, _, S => (0, S)
  | n + 1, x3, S => if x3.toInt < 0 then (kf_l (S.1 21 (S.1 0 25).toNatClampNeg) fun z6 => kf_b (f_X8_ask_0 S z6 (1 : Int32)) fun z7 S8 => (z7, S8)) else (kf_l (x3 - x3 / (2 : Int32) * (2 : Int32)) fun z9 => if z9.toInt = 0 then (l_X8_rival_0_86a (l_X8_rival_0_66 a1 a2 n) a1 a2 x3 ((65 - (0 : Int32).toInt).toNat + 1) (0 : Int32) S) else (l_X8_rival_0_86 (l_X8_rival_0_66 a1 a2 n) a1 a2 x3 ((65 - (0 : Int32).toInt).toNat + 1) (0 : Int32) S))
theorem l_X8_rival_0_66_s (a1 : Int32) (a2 : Int32) (n : Nat) (x3 : Int32) (S : kw_S) : l_X8_rival_0_66 a1 a2 (n + 1) x3 S = if x3.toInt < 0 then (kf_l (S.1 21 (S.1 0 25).toNatClampNeg) fun z6 => kf_b (f_X8_ask_0 S z6 (1 : Int32)) fun z7 S8 => (z7, S8)) else (kf_l (x3 - x3 / (2 : Int32) * (2 : Int32)) fun z9 => if z9.toInt = 0 then (l_X8_rival_0_86a (l_X8_rival_0_66 a1 a2 n) a1 a2 x3 ((65 - (0 : Int32).toInt).toNat + 1) (0 : Int32) S) else (l_X8_rival_0_86 (l_X8_rival_0_66 a1 a2 n) a1 a2 x3 ((65 - (0 : Int32).toInt).toNat + 1) (0 : Int32) S)) := rfl
noncomputable def l_X8_rival_0_32 (a1 : Int32) (a2 : Int32) : Nat → Int32 → kw_S → Int32 × kw_S
  | 0, _, S => (0, S)
  | n + 1, x3, S => kf_l ((1 : Int32) <<< ((S.1 0 10) &&& 31)) fun z3 => if x3.toInt < z3.toInt then (kf_l (f_X8_milesBy_0 S x3 a2) fun z38 => kf_l (x3 + Int32.ofInt 1) fun z39 => l_X8_rival_0_32 a1 a2 n z39 (kw_ui S 21 x3.toNatClampNeg z38)) else (kf_l ((2 : Int32) * a1) fun z4 => kf_l (z4 - (1 : Int32)) fun z5 => l_X8_rival_0_66 a1 a2 ((z5.toInt + 2).toNat + 1) z5 S)
theorem l_X8_rival_0_32_s (a1 : Int32) (a2 : Int32) (n : Nat) (x3 : Int32) (S : kw_S) : l_X8_rival_0_32 a1 a2 (n + 1) x3 S = kf_l ((1 : Int32) <<< ((S.1 0 10) &&& 31)) fun z3 => if x3.toInt < z3.toInt then (kf_l (f_X8_milesBy_0 S x3 a2) fun z38 => kf_l (x3 + Int32.ofInt 1) fun z39 => l_X8_rival_0_32 a1 a2 n z39 (kw_ui S 21 x3.toNatClampNeg z38)) else (kf_l ((2 : Int32) * a1) fun z4 => kf_l (z4 - (1 : Int32)) fun z5 => l_X8_rival_0_66 a1 a2 ((z5.toInt + 2).toNat + 1) z5 S) := rfl
noncomputable def f_X8_rival_0 (σ : kw_S) (n : Int32) : Int32 × kw_S := kf_l (f_X8_in σ n (0 : Int32) (2 : Int32)) fun z1 => if z1.toInt = 0 then ((((-1) : Int32), σ)) else (if (σ.1 0 10).toInt = 0 then ((((-4) : Int32), σ)) else (kf_l (f_X8_windAt_0 σ (σ.1 0 22)) fun z2 => l_X8_rival_0_32 n z2 ((65 - (0 : Int32).toInt).toNat + 1) (0 : Int32) σ))
theorem f_X8_rival_0_u (σ : kw_S) (n : Int32) : f_X8_rival_0 σ n = kf_l (f_X8_in σ n (0 : Int32) (2 : Int32)) fun z1 => if z1.toInt = 0 then ((((-1) : Int32), σ)) else (if (σ.1 0 10).toInt = 0 then ((((-4) : Int32), σ)) else (kf_l (f_X8_windAt_0 σ (σ.1 0 22)) fun z2 => l_X8_rival_0_32 n z2 ((65 - (0 : Int32).toInt).toNat + 1) (0 : Int32) σ)) := rfl
abbrev p_X8_rival_0 (T : Int) (σ : kw_S) (n : Int32) : Option Value → kw_S → Prop := fun vv σ' => (kw_I (bM T) σ' ∧ kw_FM [21, 22, 1002] σ σ') ∧ ∃ r : Int32, vv = some (.int r) ∧ ((n.toInt < 0 ∨ 2 < n.toInt) ∧ r.toInt = -1 ∨ 0 ≤ n.toInt ∧ n.toInt ≤ 2 ∧ (σ.1 0 10).toInt = 0 ∧ r.toInt = -4 ∨ 0 ≤ n.toInt ∧ n.toInt ≤ 2 ∧ (σ.1 0 10).toInt ≠ 0 ∧ r.toInt = 1) ∧ (r, σ') = f_X8_rival_0 σ n
set_option maxRecDepth 100000 in
set_option maxHeartbeats 4000000 in
theorem c_X8_rival_0 (l : Launch) (T : Int) (hT0 : 0 ≤ T) (hT1 : T ≤ 3000) (σ : kw_S) (hI : kw_I (bM T) σ) (n : Int32) : kw_Met l 4 KM mX8_rival [.ref 0, .int n] σ (p_X8_rival_0 T σ n) := by
  have r_n := kw_rng n
  have hF0 : kw_FM [21, 22, 1002] σ σ := kw_FM.rf
  have hF := (f_X8_rival_0_u σ n).symm
  have q_m4 : (-4 : Int32).toInt = -4 := rfl
  have q_m1 : (-1 : Int32).toInt = -1 := rfl
  have q_0 : (0 : Int32).toInt = 0 := rfl
  have q_1 : (1 : Int32).toInt = 1 := rfl
  have q_2 : (2 : Int32).toInt = 2 := rfl
  refine kw_Met.of (by decide) rfl tX8_rival (Nat.le_of_ble_eq_true rfl) ?_
  show kw_AW l 4 kw_E0 KM mX8_rival (p_X8_rival_0 T σ n) 0 [(0, .ref 0), (1, .int n)] [] σ
  refine kw_iload_n (pc := 0) (i := 0) (k := 1) (n := 1) rfl rfl rfl ?_
  refine kw_iconst (pc := 1) (i := 1) (v := 0) rfl rfl ?_
  refine kw_iconst (pc := 2) (i := 2) (v := 2) rfl rfl ?_
  refine kw_callS (pc := 3) (i := 3) (Y := mX8_in) (As := [.int n, .int 0, .int 2]) (st := []) kw_hE rfl lsX8_93 arX8_in (c_X8_in l T hT0 hT1 σ hI n 0 2 ) (by decide) (Nat.le_of_ble_eq_true rfl) rfl (fun v S2 p1 => ?_)
  obtain ⟨e8, z7, rfl, f3, f4, f5, ef6⟩ := p1
  rw [e8]
  replace hF := kf_le ef6 hF
  have r_z7 := kw_rng z7
  show kw_AW l 4 kw_E0 KM mX8_rival (p_X8_rival_0 T σ n) 6 [(0, .ref 0), (1, .int n)] [.int z7] σ
  refine kw_if_ne (pc := 6) (i := 4) (tgt := 11) rfl rfl (fun c9 => ?_) (fun c9 => ?_)
  · replace hF := kf_n c9 hF
    refine kw_aload_n (pc := 11) (i := 7) (k := 0) (n := 0) rfl rfl rfl ?_
    refine kw_get (pc := 12) (i := 8) (v := .int (σ.1 0 10)) rfl rfl rfl lkX8_163 (fun _ => rfl) ?_
    have b10 : 0 ≤ (σ.1 0 10).toInt ∧ (σ.1 0 10).toInt ≤ 6 := hI 0 10
    refine kw_if_ne (pc := 15) (i := 9) (tgt := 21) rfl rfl (fun c11 => ?_) (fun c11 => ?_)
    · replace hF := kf_n c11 hF
      refine kw_aload_n (pc := 21) (i := 12) (k := 0) (n := 0) rfl rfl rfl ?_
      refine kw_aload_n (pc := 22) (i := 13) (k := 0) (n := 0) rfl rfl rfl ?_
      refine kw_get (pc := 23) (i := 14) (v := .int (σ.1 0 22)) rfl rfl rfl lkX8_166 (fun _ => rfl) ?_
      have b12 : 0 ≤ (σ.1 0 22).toInt ∧ (σ.1 0 22).toInt ≤ T := hI 0 22
      refine kw_callV (pc := 26) (i := 15) (Y := mX8_windAt) (a := 0) (As := [.int (σ.1 0 22)]) (st := []) kw_hE rfl rfl lvX8_196 arX8_windAt (c_X8_windAt_0 l T hT0 hT1 σ hI (σ.1 0 22) (by first | omega | decide)) (by decide) (Nat.le_of_ble_eq_true rfl) rfl (fun v S14 p13 => ?_)
      obtain ⟨e17, z16, rfl, ef15⟩ := p13
      rw [e17]
      replace hF := kf_le ef15 hF
      have r_z16 := kw_rng z16
      show kw_AW l 4 kw_E0 KM mX8_rival (p_X8_rival_0 T σ n) 29 [(0, .ref 0), (1, .int n)] [.int z16] σ
      refine kw_istore_n (pc := 29) (i := 16) (n := 2) (lv' := [(2, .int z16), (0, .ref 0), (1, .int n)]) rfl rfl (by decide) rfl ?_
      refine kw_iconst (pc := 30) (i := 17) (v := 0) rfl rfl ?_
      refine kw_istore_n (pc := 31) (i := 18) (n := 3) (lv' := [(3, .int 0), (2, .int z16), (0, .ref 0), (1, .int n)]) rfl rfl (by decide) rfl ?_
      have L22 : ∀ (n26 : Nat) (x18 : Int32) (S19 : kw_S), kw_I (bM T) S19 → kw_FM [21, 22, 1002] σ S19 → 0 ≤ x18.toInt → l_X8_rival_0_32 n z16 n26 x18 S19 = (f_X8_rival_0 σ n) → (65 - x18.toInt).toNat < n26 → kw_AW l 4 kw_E0 KM mX8_rival (p_X8_rival_0 T σ n) 32 [(3, .int x18), (2, .int z16), (0, .ref 0), (1, .int n)] [] S19 := by
        intro n26
        induction n26 with
        | zero => intro x18 S19 I20 F21 v24 hF m25; exact absurd m25 (Nat.not_lt_zero _)
        | succ n26 ih23 =>
          intro x18 S19 I20 F21 v24 hF m25
          replace hF := kf_st (l_X8_rival_0_32_s _ _ _ _ _) hF
          have r_x18 := kw_rng x18
          refine kw_iload_n (pc := 32) (i := 19) (k := 0) (n := 3) rfl rfl rfl ?_
          refine kw_iconst (pc := 33) (i := 20) (v := 1) rfl rfl ?_
          refine kw_aload_n (pc := 34) (i := 21) (k := 2) (n := 0) rfl rfl rfl ?_
          refine kw_get (pc := 35) (i := 22) (v := .int (S19.1 0 10)) rfl rfl rfl lkX8_163 (fun _ => rfl) ?_
          have b27 : 0 ≤ (S19.1 0 10).toInt ∧ (S19.1 0 10).toInt ≤ 6 := I20 0 10
          refine kw_ishl (pc := 38) (i := 23) rfl (fun z28 e_z28 => ?_)
          have r_z28 := kw_rng z28
          replace hF := kf_le e_z28 hF
          have t_z28 := kw_shlm (S19.1 0 10) z28 e_z28
          first | (replace t_z28 := And.intro (t_z28.1 (by omega) (by omega)) (t_z28.2 (by omega) (by omega))) | (replace t_z28 := t_z28.1 (by omega) (by omega)) | skip
          have u_z28 := congrArg Int32.toInt e_z28
          refine kw_icmp_ge (pc := 39) (i := 24) (tgt := 60) rfl rfl (fun c29 => ?_) (fun c29 => ?_)
          · replace hF := kf_nl c29 hF
            refine kw_iconst (pc := 60) (i := 35) (v := 2) rfl rfl ?_
            refine kw_iload_n (pc := 61) (i := 36) (k := 3) (n := 1) rfl rfl rfl ?_
            refine kw_imul (pc := 62) (i := 37) rfl (fun z30 e_z30 t_z30 => ?_)
            replace hF := kf_le e_z30 hF
            rw [show (2 : Int32).toInt = 2 from rfl] at t_z30
            first | (have u_z30 : z30.toInt = 2 * n.toInt := (by omega); clear t_z30) | skip
            refine kw_iconst (pc := 63) (i := 38) (v := 1) rfl rfl ?_
            refine kw_isub (pc := 64) (i := 39) rfl (fun z31 e_z31 t_z31 => ?_)
            replace hF := kf_le e_z31 hF
            first | (have u_z31 : z31.toInt = z30.toInt - 1 := (by omega); clear t_z31) | skip
            refine kw_istore_n (pc := 65) (i := 40) (n := 3) (lv' := [(3, .int z31), (2, .int z16), (0, .ref 0), (1, .int n)]) rfl rfl (by decide) rfl ?_
            have L36 : ∀ (n41 : Nat) (x32 : Int32) (S33 : kw_S), kw_I (bM T) S33 → kw_FM [21, 22, 1002] σ S33 → -1 ≤ x32.toInt → x32.toInt ≤ 3 → l_X8_rival_0_66 n z16 n41 x32 S33 = (f_X8_rival_0 σ n) → (x32.toInt + 2).toNat < n41 → kw_AW l 4 kw_E0 KM mX8_rival (p_X8_rival_0 T σ n) 66 [(3, .int x32), (2, .int z16), (0, .ref 0), (1, .int n)] [] S33 := by
              intro n41
              induction n41 with
              | zero => intro x32 S33 I34 F35 v38 v39 hF m40; exact absurd m40 (Nat.not_lt_zero _)
              | succ n41 ih37 =>
                intro x32 S33 I34 F35 v38 v39 hF m40
                replace hF := kf_st (l_X8_rival_0_66_s _ _ _ _ _) hF
                have r_x32 := kw_rng x32
                refine kw_iload_n (pc := 66) (i := 41) (k := 0) (n := 3) rfl rfl rfl ?_
                refine kw_if_lt (pc := 67) (i := 42) (tgt := 236) rfl rfl (fun c42 => ?_) (fun c42 => ?_)
                · replace hF := kf_p c42 hF
                  refine kw_aload_n (pc := 236) (i := 126) (k := 2) (n := 0) rfl rfl rfl ?_
                  refine kw_aload_n (pc := 237) (i := 127) (k := 2) (n := 0) rfl rfl rfl ?_
                  refine kw_get (pc := 238) (i := 128) (v := .ref 21) rfl rfl rfl lkX8_78 (fun _ => rfl) ?_
                  refine kw_aload_n (pc := 241) (i := 129) (k := 2) (n := 0) rfl rfl rfl ?_
                  refine kw_get (pc := 242) (i := 130) (v := .int (S33.1 0 25)) rfl rfl rfl lkX8_175 (fun _ => rfl) ?_
                  have b43 : 0 ≤ (S33.1 0 25).toInt ∧ (S33.1 0 25).toInt ≤ 63 := I34 0 25
                  refine kw_iald (pc := 245) (i := 131) (n := 64) rfl rfl (by omega) (by omega) (fun z44 e_z44 => ?_)
                  replace hF := kf_le e_z44 hF
                  have t_z44 := congrArg Int32.toInt e_z44
                  have r_z44 := kw_rng z44
                  refine kw_iconst (pc := 246) (i := 132) (v := 1) rfl rfl ?_
                  refine kw_callV (pc := 247) (i := 133) (Y := mX8_ask) (a := 0) (As := [.int z44, .int 1]) (st := []) kw_hE rfl rfl lvX8_119 arX8_ask (c_X8_ask_0 l T hT0 hT1 S33 I34 z44 1 ) (by decide) (Nat.le_of_ble_eq_true rfl) rfl (fun v S46 p45 => ?_)
                  obtain ⟨⟨I50, F51⟩, z49, rfl, f47, ef48⟩ := p45
                  have F52 : kw_FM [21, 22, 1002] σ S46 := kw_FM.tr F35 F51 (by decide)
                  have w_53 : (S46.1 0 27).toInt = (S33.1 0 27).toInt := congrArg Int32.toInt (kw_FM.at0 (j := 27) F51 (by decide))
                  replace hF := kf_be ef48 hF
                  have r_z49 := kw_rng z49
                  show kw_AW l 4 kw_E0 KM mX8_rival (p_X8_rival_0 T σ n) 250 [(3, .int x32), (2, .int z16), (0, .ref 0), (1, .int n)] [.int z49] S46
                  exact kw_ireturn (pc := 250) (i := 134) (ty := .int) rfl rfl rfl ⟨⟨I50, F52⟩, _, rfl, by omega, hF⟩
                · replace hF := kf_nl c42 hF
                  refine kw_iload_n (pc := 70) (i := 43) (k := 0) (n := 3) rfl rfl rfl ?_
                  refine kw_iconst (pc := 71) (i := 44) (v := 2) rfl rfl ?_
                  refine kw_irem (pc := 72) (i := 45) rfl (by omega) (fun z54 e_z54 => ?_)
                  have r_z54 := kw_rng z54
                  replace hF := kf_le e_z54 hF
                  have t_z54 := kw_remI x32 2 z54 e_z54
                  refine kw_if_ne (pc := 73) (i := 46) (tgt := 80) rfl rfl (fun c55 => ?_) (fun c55 => ?_)
                  · replace hF := kf_n c55 hF
                    refine kw_iconst (pc := 80) (i := 49) (v := 0) rfl rfl ?_
                    refine kw_istore (pc := 81) (i := 50) (n := 4) (lv' := [(4, .int 0), (3, .int x32), (2, .int z16), (0, .ref 0), (1, .int n)]) rfl (by decide) rfl ?_
                    refine kw_iconst (pc := 83) (i := 51) (v := 0) rfl rfl ?_
                    refine kw_istore (pc := 84) (i := 52) (n := 5) (lv' := [(5, .int 0), (4, .int 0), (3, .int x32), (2, .int z16), (0, .ref 0), (1, .int n)]) rfl (by decide) rfl ?_
                    have L60 : ∀ (n64 : Nat) (x56 : Int32) (S57 : kw_S), kw_I (bM T) S57 → kw_FM [21, 22, 1002] σ S57 → 0 ≤ x56.toInt → l_X8_rival_0_86 (l_X8_rival_0_66 n z16 n41) n z16 x32 n64 x56 S57 = (f_X8_rival_0 σ n) → (65 - x56.toInt).toNat < n64 → kw_AW l 4 kw_E0 KM mX8_rival (p_X8_rival_0 T σ n) 86 [(5, .int x56), (4, .int 0), (3, .int x32), (2, .int z16), (0, .ref 0), (1, .int n)] [] S57 := by
                      intro n64
                      induction n64 with
                      | zero => intro x56 S57 I58 F59 v62 hF m63; exact absurd m63 (Nat.not_lt_zero _)
                      | succ n64 ih61 =>
                        intro x56 S57 I58 F59 v62 hF m63
                        replace hF := kf_st (l_X8_rival_0_86_s _ _ _ _ _ _ _) hF
                        have r_x56 := kw_rng x56
                        refine kw_iload (pc := 86) (i := 53) (k := 0) (n := 5) rfl rfl ?_
                        refine kw_iconst (pc := 88) (i := 54) (v := 1) rfl rfl ?_
                        refine kw_aload_n (pc := 89) (i := 55) (k := 4) (n := 0) rfl rfl rfl ?_
                        refine kw_get (pc := 90) (i := 56) (v := .int (S57.1 0 10)) rfl rfl rfl lkX8_163 (fun _ => rfl) ?_
                        have b65 : 0 ≤ (S57.1 0 10).toInt ∧ (S57.1 0 10).toInt ≤ 6 := I58 0 10
                        refine kw_ishl (pc := 93) (i := 57) rfl (fun z66 e_z66 => ?_)
                        have r_z66 := kw_rng z66
                        replace hF := kf_le e_z66 hF
                        have t_z66 := kw_shlm (S57.1 0 10) z66 e_z66
                        first | (replace t_z66 := And.intro (t_z66.1 (by omega) (by omega)) (t_z66.2 (by omega) (by omega))) | (replace t_z66 := t_z66.1 (by omega) (by omega)) | skip
                        have u_z66 := congrArg Int32.toInt e_z66
                        refine kw_icmp_ge (pc := 94) (i := 58) (tgt := 196) rfl rfl (fun c67 => ?_) (fun c67 => ?_)
                        · replace hF := kf_nl c67 hF
                          refine kw_iconst (pc := 196) (i := 106) (v := 0) rfl rfl ?_
                          refine kw_istore (pc := 197) (i := 107) (n := 5) (lv' := [(5, .int 0), (4, .int 0), (3, .int x32), (2, .int z16), (0, .ref 0), (1, .int n)]) rfl (by decide) rfl ?_
                          have L72 : ∀ (n76 : Nat) (x68 : Int32) (S69 : kw_S), kw_I (bM T) S69 → kw_FM [21, 22, 1002] σ S69 → 0 ≤ x68.toInt → l_X8_rival_0_199 (l_X8_rival_0_66 n z16 n41) n z16 x32 n76 x68 S69 = (f_X8_rival_0 σ n) → (65 - x68.toInt).toNat < n76 → kw_AW l 4 kw_E0 KM mX8_rival (p_X8_rival_0 T σ n) 199 [(5, .int x68), (4, .int 0), (3, .int x32), (2, .int z16), (0, .ref 0), (1, .int n)] [] S69 := by
                            intro n76
                            induction n76 with
                            | zero => intro x68 S69 I70 F71 v74 hF m75; exact absurd m75 (Nat.not_lt_zero _)
                            | succ n76 ih73 =>
                              intro x68 S69 I70 F71 v74 hF m75
                              replace hF := kf_st (l_X8_rival_0_199_s _ _ _ _ _ _ _) hF
                              have r_x68 := kw_rng x68
                              refine kw_iload (pc := 199) (i := 108) (k := 0) (n := 5) rfl rfl ?_
                              refine kw_iconst (pc := 201) (i := 109) (v := 1) rfl rfl ?_
                              refine kw_aload_n (pc := 202) (i := 110) (k := 4) (n := 0) rfl rfl rfl ?_
                              refine kw_get (pc := 203) (i := 111) (v := .int (S69.1 0 10)) rfl rfl rfl lkX8_163 (fun _ => rfl) ?_
                              have b77 : 0 ≤ (S69.1 0 10).toInt ∧ (S69.1 0 10).toInt ≤ 6 := I70 0 10
                              refine kw_ishl (pc := 206) (i := 112) rfl (fun z78 e_z78 => ?_)
                              have r_z78 := kw_rng z78
                              replace hF := kf_le e_z78 hF
                              have t_z78 := kw_shlm (S69.1 0 10) z78 e_z78
                              first | (replace t_z78 := And.intro (t_z78.1 (by omega) (by omega)) (t_z78.2 (by omega) (by omega))) | (replace t_z78 := t_z78.1 (by omega) (by omega)) | skip
                              have u_z78 := congrArg Int32.toInt e_z78
                              refine kw_icmp_ge (pc := 207) (i := 113) (tgt := 230) rfl rfl (fun c79 => ?_) (fun c79 => ?_)
                              · replace hF := kf_nl c79 hF
                                refine kw_iinc' (pc := 230) (i := 124) (k := 2) (fun z => [(3, .int z), (5, .int x68), (4, .int 0), (2, .int z16), (0, .ref 0), (1, .int n)]) rfl rfl (by decide) rfl (fun _ => rfl) (fun z80 e_z80 t_z80 => ?_)
                                replace hF := kf_le e_z80 hF
                                first | (have u_z80 : z80.toInt = x32.toInt + (-1) := (by omega); clear t_z80) | skip
                                refine kw_goto (pc := 233) (i := 125) (tgt := 66) rfl rfl ?_
                                refine kw_sub (lv' := [(3, .int z80), (2, .int z16), (0, .ref 0), (1, .int n)]) [0, 3, 4, 5] rfl ?_
                                exact ih37 z80 S69 I70 F71 (by omega) (by omega) hF (by omega)
                              · replace hF := kf_p c79 hF
                                refine kw_aload_n (pc := 210) (i := 114) (k := 4) (n := 0) rfl rfl rfl ?_
                                refine kw_get (pc := 211) (i := 115) (v := .ref 21) rfl rfl rfl lkX8_78 (fun _ => rfl) ?_
                                refine kw_iload (pc := 214) (i := 116) (k := 0) (n := 5) rfl rfl ?_
                                refine kw_aload_n (pc := 216) (i := 117) (k := 4) (n := 0) rfl rfl rfl ?_
                                refine kw_get (pc := 217) (i := 118) (v := .ref 22) rfl rfl rfl lkX8_81 (fun _ => rfl) ?_
                                refine kw_iload (pc := 220) (i := 119) (k := 0) (n := 5) rfl rfl ?_
                                refine kw_iald (pc := 222) (i := 120) (n := 64) rfl rfl (by omega) (by omega) (fun z81 e_z81 => ?_)
                                replace hF := kf_le e_z81 hF
                                have t_z81 := congrArg Int32.toInt e_z81
                                have r_z81 := kw_rng z81
                                refine kw_iast (pc := 223) (i := 121) (n := 64) rfl rfl (by omega) (by omega) ?_
                                have I82 : kw_I (bM T) (kw_ui S69 21 x68.toNatClampNeg z81) := kw_I_ui I70 (kw_rng z81).1 (Int.le_of_lt_add_one (kw_rng z81).2)
                                have F83 : kw_FM [21, 22, 1002] σ (kw_ui S69 21 x68.toNatClampNeg z81) := kw_FM_ui F71 (by decide) (by decide)
                                refine kw_iinc' (pc := 224) (i := 122) (k := 0) (fun z => [(5, .int z), (4, .int 0), (3, .int x32), (2, .int z16), (0, .ref 0), (1, .int n)]) rfl rfl (by decide) rfl (fun _ => rfl) (fun z84 e_z84 t_z84 => ?_)
                                replace hF := kf_le e_z84 hF
                                first | (have u_z84 : z84.toInt = x68.toInt + 1 := (by omega); clear t_z84) | skip
                                refine kw_goto (pc := 227) (i := 123) (tgt := 199) rfl rfl ?_
                                refine kw_sub (lv' := [(5, .int z84), (4, .int 0), (3, .int x32), (2, .int z16), (0, .ref 0), (1, .int n)]) [0, 1, 2, 3, 4, 5] rfl ?_
                                exact ih73 z84 (kw_ui S69 21 x68.toNatClampNeg z81) I82 F83 (by omega) hF (by omega)
                          exact L72 _ 0 S57 I58 F59 (by omega) hF (Nat.lt_succ_self _)
                        · replace hF := kf_p c67 hF
                          refine kw_aload_n (pc := 97) (i := 59) (k := 4) (n := 0) rfl rfl rfl ?_
                          refine kw_get (pc := 98) (i := 60) (v := .ref 21) rfl rfl rfl lkX8_78 (fun _ => rfl) ?_
                          refine kw_iload (pc := 101) (i := 61) (k := 0) (n := 5) rfl rfl ?_
                          refine kw_iald (pc := 103) (i := 62) (n := 64) rfl rfl (by omega) (by omega) (fun z85 e_z85 => ?_)
                          replace hF := kf_le e_z85 hF
                          have t_z85 := congrArg Int32.toInt e_z85
                          have r_z85 := kw_rng z85
                          refine kw_istore (pc := 104) (i := 63) (n := 6) (lv' := [(6, .int z85), (5, .int x56), (4, .int 0), (3, .int x32), (2, .int z16), (0, .ref 0), (1, .int n)]) rfl (by decide) rfl ?_
                          refine kw_iconst (pc := 106) (i := 64) (v := 0) rfl rfl ?_
                          refine kw_istore (pc := 107) (i := 65) (n := 7) (lv' := [(7, .int 0), (6, .int z85), (5, .int x56), (4, .int 0), (3, .int x32), (2, .int z16), (0, .ref 0), (1, .int n)]) rfl (by decide) rfl ?_
                          have L88 : ∀ (n92 : Nat) (x86 : Int32) (x87 : Int32), 0 ≤ x86.toInt → l_X8_rival_0_109 (l_X8_rival_0_66 n z16 n41) (l_X8_rival_0_86 (l_X8_rival_0_66 n z16 n41) n z16 x32 n64) n z16 x32 x56 S57 n92 x87 x86 = (f_X8_rival_0 σ n) → (7 - x86.toInt).toNat < n92 → kw_AW l 4 kw_E0 KM mX8_rival (p_X8_rival_0 T σ n) 109 [(7, .int x86), (6, .int x87), (5, .int x56), (4, .int 0), (3, .int x32), (2, .int z16), (0, .ref 0), (1, .int n)] [] S57 := by
                            intro n92
                            induction n92 with
                            | zero => intro x86 x87 v90 hF m91; exact absurd m91 (Nat.not_lt_zero _)
                            | succ n92 ih89 =>
                              intro x86 x87 v90 hF m91
                              replace hF := kf_st (l_X8_rival_0_109_s _ _ _ _ _ _ _ _ _ _) hF
                              have r_x86 := kw_rng x86
                              have r_x87 := kw_rng x87
                              refine kw_iload (pc := 109) (i := 66) (k := 0) (n := 7) rfl rfl ?_
                              refine kw_aload_n (pc := 111) (i := 67) (k := 6) (n := 0) rfl rfl rfl ?_
                              refine kw_get (pc := 112) (i := 68) (v := .int (S57.1 0 10)) rfl rfl rfl lkX8_163 (fun _ => rfl) ?_
                              refine kw_icmp_ge (pc := 115) (i := 69) (tgt := 181) rfl rfl (fun c93 => ?_) (fun c93 => ?_)
                              · replace hF := kf_nl c93 hF
                                refine kw_aload_n (pc := 181) (i := 99) (k := 6) (n := 0) rfl rfl rfl ?_
                                refine kw_get (pc := 182) (i := 100) (v := .ref 22) rfl rfl rfl lkX8_81 (fun _ => rfl) ?_
                                refine kw_iload (pc := 185) (i := 101) (k := 2) (n := 5) rfl rfl ?_
                                refine kw_iload (pc := 187) (i := 102) (k := 1) (n := 6) rfl rfl ?_
                                refine kw_iast (pc := 189) (i := 103) (n := 64) rfl rfl (by omega) (by omega) ?_
                                have I94 : kw_I (bM T) (kw_ui S57 22 x56.toNatClampNeg x87) := kw_I_ui I58 (kw_rng x87).1 (Int.le_of_lt_add_one (kw_rng x87).2)
                                have F95 : kw_FM [21, 22, 1002] σ (kw_ui S57 22 x56.toNatClampNeg x87) := kw_FM_ui F59 (by decide) (by decide)
                                refine kw_iinc' (pc := 190) (i := 104) (k := 2) (fun z => [(5, .int z), (7, .int x86), (6, .int x87), (4, .int 0), (3, .int x32), (2, .int z16), (0, .ref 0), (1, .int n)]) rfl rfl (by decide) rfl (fun _ => rfl) (fun z96 e_z96 t_z96 => ?_)
                                replace hF := kf_le e_z96 hF
                                first | (have u_z96 : z96.toInt = x56.toInt + 1 := (by omega); clear t_z96) | skip
                                refine kw_goto (pc := 193) (i := 105) (tgt := 86) rfl rfl ?_
                                refine kw_sub (lv' := [(5, .int z96), (4, .int 0), (3, .int x32), (2, .int z16), (0, .ref 0), (1, .int n)]) [0, 3, 4, 5, 6, 7] rfl ?_
                                exact ih61 z96 (kw_ui S57 22 x56.toNatClampNeg x87) I94 F95 (by omega) hF (by omega)
                              · replace hF := kf_p c93 hF
                                refine kw_iload (pc := 118) (i := 70) (k := 2) (n := 5) rfl rfl ?_
                                refine kw_iload (pc := 120) (i := 71) (k := 0) (n := 7) rfl rfl ?_
                                refine kw_callS (pc := 122) (i := 72) (Y := mX8_has) (As := [.int x56, .int x86]) (st := []) kw_hE rfl lsX8_185 arX8_has (c_X8_has l T hT0 hT1 S57 I58 x56 x86 ) (by decide) (Nat.le_of_ble_eq_true rfl) rfl (fun v S98 p97 => ?_)
                                obtain ⟨e102, z101, rfl, f99, ef100⟩ := p97
                                rw [e102]
                                replace hF := kf_le ef100 hF
                                have r_z101 := kw_rng z101
                                show kw_AW l 4 kw_E0 KM mX8_rival (p_X8_rival_0 T σ n) 125 [(7, .int x86), (6, .int x87), (5, .int x56), (4, .int 0), (3, .int x32), (2, .int z16), (0, .ref 0), (1, .int n)] [.int z101] S57
                                refine kw_iload (pc := 125) (i := 73) (k := 3) (n := 4) rfl rfl ?_
                                refine kw_icmp_eq (pc := 127) (i := 74) (tgt := 175) rfl rfl (fun c103 => ?_) (fun c103 => ?_)
                                · replace hF := kf_p c103 hF
                                  refine kw_iinc' (pc := 175) (i := 97) (k := 0) (fun z => [(7, .int z), (6, .int x87), (5, .int x56), (4, .int 0), (3, .int x32), (2, .int z16), (0, .ref 0), (1, .int n)]) rfl rfl (by decide) rfl (fun _ => rfl) (fun z104 e_z104 t_z104 => ?_)
                                  replace hF := kf_le e_z104 hF
                                  first | (have u_z104 : z104.toInt = x86.toInt + 1 := (by omega); clear t_z104) | skip
                                  refine kw_goto (pc := 178) (i := 98) (tgt := 109) rfl rfl ?_
                                  refine kw_sub (lv' := [(7, .int z104), (6, .int x87), (5, .int x56), (4, .int 0), (3, .int x32), (2, .int z16), (0, .ref 0), (1, .int n)]) [0, 1, 2, 3, 4, 5, 6, 7] rfl ?_
                                  exact ih89 z104 x87 (by omega) hF (by omega)
                                · replace hF := kf_n c103 hF
                                  refine kw_aload_n (pc := 130) (i := 75) (k := 6) (n := 0) rfl rfl rfl ?_
                                  refine kw_get (pc := 131) (i := 76) (v := .ref 21) rfl rfl rfl lkX8_78 (fun _ => rfl) ?_
                                  refine kw_iload (pc := 134) (i := 77) (k := 2) (n := 5) rfl rfl ?_
                                  refine kw_iconst (pc := 136) (i := 78) (v := 1) rfl rfl ?_
                                  refine kw_iload (pc := 137) (i := 79) (k := 0) (n := 7) rfl rfl ?_
                                  refine kw_ishl (pc := 139) (i := 80) rfl (fun z105 e_z105 => ?_)
                                  have r_z105 := kw_rng z105
                                  replace hF := kf_le e_z105 hF
                                  have t_z105 := kw_shlm x86 z105 e_z105
                                  first | (replace t_z105 := And.intro (t_z105.1 (by omega) (by omega)) (t_z105.2 (by omega) (by omega))) | (replace t_z105 := t_z105.1 (by omega) (by omega)) | skip
                                  have u_z105 := congrArg Int32.toInt e_z105
                                  refine kw_ixor (pc := 140) (i := 81) rfl (fun z106 e_z106 => ?_)
                                  have r_z106 := kw_rng z106
                                  replace hF := kf_le e_z106 hF
                                  have t_z106 := kw_xor63 x56 z105 z106 e_z106
                                  first | (replace t_z106 := t_z106 (by omega) (by omega) (by omega) (by omega)) | skip
                                  refine kw_iald (pc := 141) (i := 82) (n := 64) rfl rfl (by omega) (by omega) (fun z107 e_z107 => ?_)
                                  replace hF := kf_le e_z107 hF
                                  have t_z107 := congrArg Int32.toInt e_z107
                                  have r_z107 := kw_rng z107
                                  refine kw_istore (pc := 142) (i := 83) (n := 8) (lv' := [(8, .int z107), (7, .int x86), (6, .int x87), (5, .int x56), (4, .int 0), (3, .int x32), (2, .int z16), (0, .ref 0), (1, .int n)]) rfl (by decide) rfl ?_
                                  refine kw_iload (pc := 144) (i := 84) (k := 4) (n := 4) rfl rfl ?_
                                  refine kw_if_eq (pc := 146) (i := 85) (tgt := 159) rfl rfl (fun c108 => ?_) (fun c108 => ?_)
                                  · replace hF := kf_p c108 hF
                                    refine kw_iload (pc := 159) (i := 90) (k := 0) (n := 8) rfl rfl ?_
                                    refine kw_iload (pc := 161) (i := 91) (k := 2) (n := 6) rfl rfl ?_
                                    refine kw_icmp_ge (pc := 163) (i := 92) (tgt := 171) rfl rfl (fun c109 => ?_) (fun c109 => ?_)
                                    · replace hF := kf_nl c109 hF
                                      refine kw_iload (pc := 171) (i := 95) (k := 2) (n := 6) rfl rfl ?_
                                      refine kw_istore (pc := 173) (i := 96) (n := 6) (lv' := [(6, .int x87), (8, .int z107), (7, .int x86), (5, .int x56), (4, .int 0), (3, .int x32), (2, .int z16), (0, .ref 0), (1, .int n)]) rfl (by decide) rfl ?_
                                      refine kw_iinc' (pc := 175) (i := 97) (k := 2) (fun z => [(7, .int z), (6, .int x87), (8, .int z107), (5, .int x56), (4, .int 0), (3, .int x32), (2, .int z16), (0, .ref 0), (1, .int n)]) rfl rfl (by decide) rfl (fun _ => rfl) (fun z110 e_z110 t_z110 => ?_)
                                      replace hF := kf_le e_z110 hF
                                      first | (have u_z110 : z110.toInt = x86.toInt + 1 := (by omega); clear t_z110) | skip
                                      refine kw_goto (pc := 178) (i := 98) (tgt := 109) rfl rfl ?_
                                      refine kw_sub (lv' := [(7, .int z110), (6, .int x87), (5, .int x56), (4, .int 0), (3, .int x32), (2, .int z16), (0, .ref 0), (1, .int n)]) [0, 1, 3, 4, 5, 6, 7, 8] rfl ?_
                                      exact ih89 z110 x87 (by omega) hF (by omega)
                                    · replace hF := kf_p c109 hF
                                      refine kw_iload (pc := 166) (i := 93) (k := 0) (n := 8) rfl rfl ?_
                                      refine kw_goto (pc := 168) (i := 94) (tgt := 173) rfl rfl ?_
                                      refine kw_istore (pc := 173) (i := 96) (n := 6) (lv' := [(6, .int z107), (8, .int z107), (7, .int x86), (5, .int x56), (4, .int 0), (3, .int x32), (2, .int z16), (0, .ref 0), (1, .int n)]) rfl (by decide) rfl ?_
                                      refine kw_iinc' (pc := 175) (i := 97) (k := 2) (fun z => [(7, .int z), (6, .int z107), (8, .int z107), (5, .int x56), (4, .int 0), (3, .int x32), (2, .int z16), (0, .ref 0), (1, .int n)]) rfl rfl (by decide) rfl (fun _ => rfl) (fun z111 e_z111 t_z111 => ?_)
                                      replace hF := kf_le e_z111 hF
                                      first | (have u_z111 : z111.toInt = x86.toInt + 1 := (by omega); clear t_z111) | skip
                                      refine kw_goto (pc := 178) (i := 98) (tgt := 109) rfl rfl ?_
                                      refine kw_sub (lv' := [(7, .int z111), (6, .int z107), (5, .int x56), (4, .int 0), (3, .int x32), (2, .int z16), (0, .ref 0), (1, .int n)]) [0, 1, 3, 4, 5, 6, 7, 8] rfl ?_
                                      exact ih89 z111 z107 (by omega) hF (by omega)
                                  · exfalso; omega
                          exact L88 _ 0 z85 (by omega) hF (Nat.lt_succ_self _)
                    exact L60 _ 0 S33 I34 F35 (by omega) hF (Nat.lt_succ_self _)
                  · replace hF := kf_p c55 hF
                    refine kw_iconst (pc := 76) (i := 47) (v := 1) rfl rfl ?_
                    refine kw_goto (pc := 77) (i := 48) (tgt := 81) rfl rfl ?_
                    refine kw_istore (pc := 81) (i := 50) (n := 4) (lv' := [(4, .int 1), (3, .int x32), (2, .int z16), (0, .ref 0), (1, .int n)]) rfl (by decide) rfl ?_
                    refine kw_iconst (pc := 83) (i := 51) (v := 0) rfl rfl ?_
                    refine kw_istore (pc := 84) (i := 52) (n := 5) (lv' := [(5, .int 0), (4, .int 1), (3, .int x32), (2, .int z16), (0, .ref 0), (1, .int n)]) rfl (by decide) rfl ?_
                    have L116 : ∀ (n120 : Nat) (x112 : Int32) (S113 : kw_S), kw_I (bM T) S113 → kw_FM [21, 22, 1002] σ S113 → 0 ≤ x112.toInt → l_X8_rival_0_86a (l_X8_rival_0_66 n z16 n41) n z16 x32 n120 x112 S113 = (f_X8_rival_0 σ n) → (65 - x112.toInt).toNat < n120 → kw_AW l 4 kw_E0 KM mX8_rival (p_X8_rival_0 T σ n) 86 [(5, .int x112), (4, .int 1), (3, .int x32), (2, .int z16), (0, .ref 0), (1, .int n)] [] S113 := by
                      intro n120
                      induction n120 with
                      | zero => intro x112 S113 I114 F115 v118 hF m119; exact absurd m119 (Nat.not_lt_zero _)
                      | succ n120 ih117 =>
                        intro x112 S113 I114 F115 v118 hF m119
                        replace hF := kf_st (l_X8_rival_0_86a_s _ _ _ _ _ _ _) hF
                        have r_x112 := kw_rng x112
                        refine kw_iload (pc := 86) (i := 53) (k := 0) (n := 5) rfl rfl ?_
                        refine kw_iconst (pc := 88) (i := 54) (v := 1) rfl rfl ?_
                        refine kw_aload_n (pc := 89) (i := 55) (k := 4) (n := 0) rfl rfl rfl ?_
                        refine kw_get (pc := 90) (i := 56) (v := .int (S113.1 0 10)) rfl rfl rfl lkX8_163 (fun _ => rfl) ?_
                        have b121 : 0 ≤ (S113.1 0 10).toInt ∧ (S113.1 0 10).toInt ≤ 6 := I114 0 10
                        refine kw_ishl (pc := 93) (i := 57) rfl (fun z122 e_z122 => ?_)
                        have r_z122 := kw_rng z122
                        replace hF := kf_le e_z122 hF
                        have t_z122 := kw_shlm (S113.1 0 10) z122 e_z122
                        first | (replace t_z122 := And.intro (t_z122.1 (by omega) (by omega)) (t_z122.2 (by omega) (by omega))) | (replace t_z122 := t_z122.1 (by omega) (by omega)) | skip
                        have u_z122 := congrArg Int32.toInt e_z122
                        refine kw_icmp_ge (pc := 94) (i := 58) (tgt := 196) rfl rfl (fun c123 => ?_) (fun c123 => ?_)
                        · replace hF := kf_nl c123 hF
                          refine kw_iconst (pc := 196) (i := 106) (v := 0) rfl rfl ?_
                          refine kw_istore (pc := 197) (i := 107) (n := 5) (lv' := [(5, .int 0), (4, .int 1), (3, .int x32), (2, .int z16), (0, .ref 0), (1, .int n)]) rfl (by decide) rfl ?_
                          have L128 : ∀ (n132 : Nat) (x124 : Int32) (S125 : kw_S), kw_I (bM T) S125 → kw_FM [21, 22, 1002] σ S125 → 0 ≤ x124.toInt → l_X8_rival_0_199a (l_X8_rival_0_66 n z16 n41) n z16 x32 n132 x124 S125 = (f_X8_rival_0 σ n) → (65 - x124.toInt).toNat < n132 → kw_AW l 4 kw_E0 KM mX8_rival (p_X8_rival_0 T σ n) 199 [(5, .int x124), (4, .int 1), (3, .int x32), (2, .int z16), (0, .ref 0), (1, .int n)] [] S125 := by
                            intro n132
                            induction n132 with
                            | zero => intro x124 S125 I126 F127 v130 hF m131; exact absurd m131 (Nat.not_lt_zero _)
                            | succ n132 ih129 =>
                              intro x124 S125 I126 F127 v130 hF m131
                              replace hF := kf_st (l_X8_rival_0_199a_s _ _ _ _ _ _ _) hF
                              have r_x124 := kw_rng x124
                              refine kw_iload (pc := 199) (i := 108) (k := 0) (n := 5) rfl rfl ?_
                              refine kw_iconst (pc := 201) (i := 109) (v := 1) rfl rfl ?_
                              refine kw_aload_n (pc := 202) (i := 110) (k := 4) (n := 0) rfl rfl rfl ?_
                              refine kw_get (pc := 203) (i := 111) (v := .int (S125.1 0 10)) rfl rfl rfl lkX8_163 (fun _ => rfl) ?_
                              have b133 : 0 ≤ (S125.1 0 10).toInt ∧ (S125.1 0 10).toInt ≤ 6 := I126 0 10
                              refine kw_ishl (pc := 206) (i := 112) rfl (fun z134 e_z134 => ?_)
                              have r_z134 := kw_rng z134
                              replace hF := kf_le e_z134 hF
                              have t_z134 := kw_shlm (S125.1 0 10) z134 e_z134
                              first | (replace t_z134 := And.intro (t_z134.1 (by omega) (by omega)) (t_z134.2 (by omega) (by omega))) | (replace t_z134 := t_z134.1 (by omega) (by omega)) | skip
                              have u_z134 := congrArg Int32.toInt e_z134
                              refine kw_icmp_ge (pc := 207) (i := 113) (tgt := 230) rfl rfl (fun c135 => ?_) (fun c135 => ?_)
                              · replace hF := kf_nl c135 hF
                                refine kw_iinc' (pc := 230) (i := 124) (k := 2) (fun z => [(3, .int z), (5, .int x124), (4, .int 1), (2, .int z16), (0, .ref 0), (1, .int n)]) rfl rfl (by decide) rfl (fun _ => rfl) (fun z136 e_z136 t_z136 => ?_)
                                replace hF := kf_le e_z136 hF
                                first | (have u_z136 : z136.toInt = x32.toInt + (-1) := (by omega); clear t_z136) | skip
                                refine kw_goto (pc := 233) (i := 125) (tgt := 66) rfl rfl ?_
                                refine kw_sub (lv' := [(3, .int z136), (2, .int z16), (0, .ref 0), (1, .int n)]) [0, 3, 4, 5] rfl ?_
                                exact ih37 z136 S125 I126 F127 (by omega) (by omega) hF (by omega)
                              · replace hF := kf_p c135 hF
                                refine kw_aload_n (pc := 210) (i := 114) (k := 4) (n := 0) rfl rfl rfl ?_
                                refine kw_get (pc := 211) (i := 115) (v := .ref 21) rfl rfl rfl lkX8_78 (fun _ => rfl) ?_
                                refine kw_iload (pc := 214) (i := 116) (k := 0) (n := 5) rfl rfl ?_
                                refine kw_aload_n (pc := 216) (i := 117) (k := 4) (n := 0) rfl rfl rfl ?_
                                refine kw_get (pc := 217) (i := 118) (v := .ref 22) rfl rfl rfl lkX8_81 (fun _ => rfl) ?_
                                refine kw_iload (pc := 220) (i := 119) (k := 0) (n := 5) rfl rfl ?_
                                refine kw_iald (pc := 222) (i := 120) (n := 64) rfl rfl (by omega) (by omega) (fun z137 e_z137 => ?_)
                                replace hF := kf_le e_z137 hF
                                have t_z137 := congrArg Int32.toInt e_z137
                                have r_z137 := kw_rng z137
                                refine kw_iast (pc := 223) (i := 121) (n := 64) rfl rfl (by omega) (by omega) ?_
                                have I138 : kw_I (bM T) (kw_ui S125 21 x124.toNatClampNeg z137) := kw_I_ui I126 (kw_rng z137).1 (Int.le_of_lt_add_one (kw_rng z137).2)
                                have F139 : kw_FM [21, 22, 1002] σ (kw_ui S125 21 x124.toNatClampNeg z137) := kw_FM_ui F127 (by decide) (by decide)
                                refine kw_iinc' (pc := 224) (i := 122) (k := 0) (fun z => [(5, .int z), (4, .int 1), (3, .int x32), (2, .int z16), (0, .ref 0), (1, .int n)]) rfl rfl (by decide) rfl (fun _ => rfl) (fun z140 e_z140 t_z140 => ?_)
                                replace hF := kf_le e_z140 hF
                                first | (have u_z140 : z140.toInt = x124.toInt + 1 := (by omega); clear t_z140) | skip
                                refine kw_goto (pc := 227) (i := 123) (tgt := 199) rfl rfl ?_
                                refine kw_sub (lv' := [(5, .int z140), (4, .int 1), (3, .int x32), (2, .int z16), (0, .ref 0), (1, .int n)]) [0, 1, 2, 3, 4, 5] rfl ?_
                                exact ih129 z140 (kw_ui S125 21 x124.toNatClampNeg z137) I138 F139 (by omega) hF (by omega)
                          exact L128 _ 0 S113 I114 F115 (by omega) hF (Nat.lt_succ_self _)
                        · replace hF := kf_p c123 hF
                          refine kw_aload_n (pc := 97) (i := 59) (k := 4) (n := 0) rfl rfl rfl ?_
                          refine kw_get (pc := 98) (i := 60) (v := .ref 21) rfl rfl rfl lkX8_78 (fun _ => rfl) ?_
                          refine kw_iload (pc := 101) (i := 61) (k := 0) (n := 5) rfl rfl ?_
                          refine kw_iald (pc := 103) (i := 62) (n := 64) rfl rfl (by omega) (by omega) (fun z141 e_z141 => ?_)
                          replace hF := kf_le e_z141 hF
                          have t_z141 := congrArg Int32.toInt e_z141
                          have r_z141 := kw_rng z141
                          refine kw_istore (pc := 104) (i := 63) (n := 6) (lv' := [(6, .int z141), (5, .int x112), (4, .int 1), (3, .int x32), (2, .int z16), (0, .ref 0), (1, .int n)]) rfl (by decide) rfl ?_
                          refine kw_iconst (pc := 106) (i := 64) (v := 0) rfl rfl ?_
                          refine kw_istore (pc := 107) (i := 65) (n := 7) (lv' := [(7, .int 0), (6, .int z141), (5, .int x112), (4, .int 1), (3, .int x32), (2, .int z16), (0, .ref 0), (1, .int n)]) rfl (by decide) rfl ?_
                          have L144 : ∀ (n148 : Nat) (x142 : Int32) (x143 : Int32), 0 ≤ x142.toInt → l_X8_rival_0_109a (l_X8_rival_0_66 n z16 n41) (l_X8_rival_0_86a (l_X8_rival_0_66 n z16 n41) n z16 x32 n120) n z16 x32 x112 S113 n148 x143 x142 = (f_X8_rival_0 σ n) → (7 - x142.toInt).toNat < n148 → kw_AW l 4 kw_E0 KM mX8_rival (p_X8_rival_0 T σ n) 109 [(7, .int x142), (6, .int x143), (5, .int x112), (4, .int 1), (3, .int x32), (2, .int z16), (0, .ref 0), (1, .int n)] [] S113 := by
                            intro n148
                            induction n148 with
                            | zero => intro x142 x143 v146 hF m147; exact absurd m147 (Nat.not_lt_zero _)
                            | succ n148 ih145 =>
                              intro x142 x143 v146 hF m147
                              replace hF := kf_st (l_X8_rival_0_109a_s _ _ _ _ _ _ _ _ _ _) hF
                              have r_x142 := kw_rng x142
                              have r_x143 := kw_rng x143
                              refine kw_iload (pc := 109) (i := 66) (k := 0) (n := 7) rfl rfl ?_
                              refine kw_aload_n (pc := 111) (i := 67) (k := 6) (n := 0) rfl rfl rfl ?_
                              refine kw_get (pc := 112) (i := 68) (v := .int (S113.1 0 10)) rfl rfl rfl lkX8_163 (fun _ => rfl) ?_
                              refine kw_icmp_ge (pc := 115) (i := 69) (tgt := 181) rfl rfl (fun c149 => ?_) (fun c149 => ?_)
                              · replace hF := kf_nl c149 hF
                                refine kw_aload_n (pc := 181) (i := 99) (k := 6) (n := 0) rfl rfl rfl ?_
                                refine kw_get (pc := 182) (i := 100) (v := .ref 22) rfl rfl rfl lkX8_81 (fun _ => rfl) ?_
                                refine kw_iload (pc := 185) (i := 101) (k := 2) (n := 5) rfl rfl ?_
                                refine kw_iload (pc := 187) (i := 102) (k := 1) (n := 6) rfl rfl ?_
                                refine kw_iast (pc := 189) (i := 103) (n := 64) rfl rfl (by omega) (by omega) ?_
                                have I150 : kw_I (bM T) (kw_ui S113 22 x112.toNatClampNeg x143) := kw_I_ui I114 (kw_rng x143).1 (Int.le_of_lt_add_one (kw_rng x143).2)
                                have F151 : kw_FM [21, 22, 1002] σ (kw_ui S113 22 x112.toNatClampNeg x143) := kw_FM_ui F115 (by decide) (by decide)
                                refine kw_iinc' (pc := 190) (i := 104) (k := 2) (fun z => [(5, .int z), (7, .int x142), (6, .int x143), (4, .int 1), (3, .int x32), (2, .int z16), (0, .ref 0), (1, .int n)]) rfl rfl (by decide) rfl (fun _ => rfl) (fun z152 e_z152 t_z152 => ?_)
                                replace hF := kf_le e_z152 hF
                                first | (have u_z152 : z152.toInt = x112.toInt + 1 := (by omega); clear t_z152) | skip
                                refine kw_goto (pc := 193) (i := 105) (tgt := 86) rfl rfl ?_
                                refine kw_sub (lv' := [(5, .int z152), (4, .int 1), (3, .int x32), (2, .int z16), (0, .ref 0), (1, .int n)]) [0, 3, 4, 5, 6, 7] rfl ?_
                                exact ih117 z152 (kw_ui S113 22 x112.toNatClampNeg x143) I150 F151 (by omega) hF (by omega)
                              · replace hF := kf_p c149 hF
                                refine kw_iload (pc := 118) (i := 70) (k := 2) (n := 5) rfl rfl ?_
                                refine kw_iload (pc := 120) (i := 71) (k := 0) (n := 7) rfl rfl ?_
                                refine kw_callS (pc := 122) (i := 72) (Y := mX8_has) (As := [.int x112, .int x142]) (st := []) kw_hE rfl lsX8_185 arX8_has (c_X8_has l T hT0 hT1 S113 I114 x112 x142 ) (by decide) (Nat.le_of_ble_eq_true rfl) rfl (fun v S154 p153 => ?_)
                                obtain ⟨e158, z157, rfl, f155, ef156⟩ := p153
                                rw [e158]
                                replace hF := kf_le ef156 hF
                                have r_z157 := kw_rng z157
                                show kw_AW l 4 kw_E0 KM mX8_rival (p_X8_rival_0 T σ n) 125 [(7, .int x142), (6, .int x143), (5, .int x112), (4, .int 1), (3, .int x32), (2, .int z16), (0, .ref 0), (1, .int n)] [.int z157] S113
                                refine kw_iload (pc := 125) (i := 73) (k := 3) (n := 4) rfl rfl ?_
                                refine kw_icmp_eq (pc := 127) (i := 74) (tgt := 175) rfl rfl (fun c159 => ?_) (fun c159 => ?_)
                                · replace hF := kf_p c159 hF
                                  refine kw_iinc' (pc := 175) (i := 97) (k := 0) (fun z => [(7, .int z), (6, .int x143), (5, .int x112), (4, .int 1), (3, .int x32), (2, .int z16), (0, .ref 0), (1, .int n)]) rfl rfl (by decide) rfl (fun _ => rfl) (fun z160 e_z160 t_z160 => ?_)
                                  replace hF := kf_le e_z160 hF
                                  first | (have u_z160 : z160.toInt = x142.toInt + 1 := (by omega); clear t_z160) | skip
                                  refine kw_goto (pc := 178) (i := 98) (tgt := 109) rfl rfl ?_
                                  refine kw_sub (lv' := [(7, .int z160), (6, .int x143), (5, .int x112), (4, .int 1), (3, .int x32), (2, .int z16), (0, .ref 0), (1, .int n)]) [0, 1, 2, 3, 4, 5, 6, 7] rfl ?_
                                  exact ih145 z160 x143 (by omega) hF (by omega)
                                · replace hF := kf_n c159 hF
                                  refine kw_aload_n (pc := 130) (i := 75) (k := 6) (n := 0) rfl rfl rfl ?_
                                  refine kw_get (pc := 131) (i := 76) (v := .ref 21) rfl rfl rfl lkX8_78 (fun _ => rfl) ?_
                                  refine kw_iload (pc := 134) (i := 77) (k := 2) (n := 5) rfl rfl ?_
                                  refine kw_iconst (pc := 136) (i := 78) (v := 1) rfl rfl ?_
                                  refine kw_iload (pc := 137) (i := 79) (k := 0) (n := 7) rfl rfl ?_
                                  refine kw_ishl (pc := 139) (i := 80) rfl (fun z161 e_z161 => ?_)
                                  have r_z161 := kw_rng z161
                                  replace hF := kf_le e_z161 hF
                                  have t_z161 := kw_shlm x142 z161 e_z161
                                  first | (replace t_z161 := And.intro (t_z161.1 (by omega) (by omega)) (t_z161.2 (by omega) (by omega))) | (replace t_z161 := t_z161.1 (by omega) (by omega)) | skip
                                  have u_z161 := congrArg Int32.toInt e_z161
                                  refine kw_ixor (pc := 140) (i := 81) rfl (fun z162 e_z162 => ?_)
                                  have r_z162 := kw_rng z162
                                  replace hF := kf_le e_z162 hF
                                  have t_z162 := kw_xor63 x112 z161 z162 e_z162
                                  first | (replace t_z162 := t_z162 (by omega) (by omega) (by omega) (by omega)) | skip
                                  refine kw_iald (pc := 141) (i := 82) (n := 64) rfl rfl (by omega) (by omega) (fun z163 e_z163 => ?_)
                                  replace hF := kf_le e_z163 hF
                                  have t_z163 := congrArg Int32.toInt e_z163
                                  have r_z163 := kw_rng z163
                                  refine kw_istore (pc := 142) (i := 83) (n := 8) (lv' := [(8, .int z163), (7, .int x142), (6, .int x143), (5, .int x112), (4, .int 1), (3, .int x32), (2, .int z16), (0, .ref 0), (1, .int n)]) rfl (by decide) rfl ?_
                                  refine kw_iload (pc := 144) (i := 84) (k := 4) (n := 4) rfl rfl ?_
                                  refine kw_if_eq (pc := 146) (i := 85) (tgt := 159) rfl rfl (fun c164 => ?_) (fun c164 => ?_)
                                  · exfalso; omega
                                  · replace hF := kf_n c164 hF
                                    refine kw_iload (pc := 149) (i := 86) (k := 2) (n := 6) rfl rfl ?_
                                    refine kw_iload (pc := 151) (i := 87) (k := 0) (n := 8) rfl rfl ?_
                                    refine kw_callS (pc := 153) (i := 88) (Y := mX8_greater) (As := [.int x143, .int z163]) (st := []) kw_hE rfl lsX8_265 arX8_greater (c_X8_greater l T hT0 hT1 S113 I114 x143 z163 ) (by decide) (Nat.le_of_ble_eq_true rfl) rfl (fun v S166 p165 => ?_)
                                    obtain ⟨e169, z168, rfl, ef167⟩ := p165
                                    rw [e169]
                                    replace hF := kf_le ef167 hF
                                    have r_z168 := kw_rng z168
                                    show kw_AW l 4 kw_E0 KM mX8_rival (p_X8_rival_0 T σ n) 156 [(8, .int z163), (7, .int x142), (6, .int x143), (5, .int x112), (4, .int 1), (3, .int x32), (2, .int z16), (0, .ref 0), (1, .int n)] [.int z168] S113
                                    refine kw_goto (pc := 156) (i := 89) (tgt := 173) rfl rfl ?_
                                    refine kw_istore (pc := 173) (i := 96) (n := 6) (lv' := [(6, .int z168), (8, .int z163), (7, .int x142), (5, .int x112), (4, .int 1), (3, .int x32), (2, .int z16), (0, .ref 0), (1, .int n)]) rfl (by decide) rfl ?_
                                    refine kw_iinc' (pc := 175) (i := 97) (k := 2) (fun z => [(7, .int z), (6, .int z168), (8, .int z163), (5, .int x112), (4, .int 1), (3, .int x32), (2, .int z16), (0, .ref 0), (1, .int n)]) rfl rfl (by decide) rfl (fun _ => rfl) (fun z170 e_z170 t_z170 => ?_)
                                    replace hF := kf_le e_z170 hF
                                    first | (have u_z170 : z170.toInt = x142.toInt + 1 := (by omega); clear t_z170) | skip
                                    refine kw_goto (pc := 178) (i := 98) (tgt := 109) rfl rfl ?_
                                    refine kw_sub (lv' := [(7, .int z170), (6, .int z168), (5, .int x112), (4, .int 1), (3, .int x32), (2, .int z16), (0, .ref 0), (1, .int n)]) [0, 1, 3, 4, 5, 6, 7, 8] rfl ?_
                                    exact ih145 z170 z168 (by omega) hF (by omega)
                          exact L144 _ 0 z141 (by omega) hF (Nat.lt_succ_self _)
                    exact L116 _ 0 S33 I34 F35 (by omega) hF (Nat.lt_succ_self _)
            exact L36 _ z31 S19 I20 F21 (by omega) (by omega) hF (Nat.lt_succ_self _)
          · replace hF := kf_p c29 hF
            refine kw_aload_n (pc := 42) (i := 25) (k := 2) (n := 0) rfl rfl rfl ?_
            refine kw_get (pc := 43) (i := 26) (v := .ref 21) rfl rfl rfl lkX8_78 (fun _ => rfl) ?_
            refine kw_iload_n (pc := 46) (i := 27) (k := 0) (n := 3) rfl rfl rfl ?_
            refine kw_aload_n (pc := 47) (i := 28) (k := 2) (n := 0) rfl rfl rfl ?_
            refine kw_iload_n (pc := 48) (i := 29) (k := 0) (n := 3) rfl rfl rfl ?_
            refine kw_iload_n (pc := 49) (i := 30) (k := 1) (n := 2) rfl rfl rfl ?_
            refine kw_callV (pc := 50) (i := 31) (Y := mX8_milesBy) (a := 0) (As := [.int x18, .int z16]) (st := [.int x18, .ref 21]) kw_hE rfl rfl lvX8_199 arX8_milesBy (c_X8_milesBy_0 l T hT0 hT1 S19 I20 x18 z16 ) (by decide) (Nat.le_of_ble_eq_true rfl) rfl (fun v S172 p171 => ?_)
            obtain ⟨e175, z174, rfl, ef173⟩ := p171
            rw [e175]
            replace hF := kf_le ef173 hF
            have r_z174 := kw_rng z174
            show kw_AW l 4 kw_E0 KM mX8_rival (p_X8_rival_0 T σ n) 53 [(3, .int x18), (2, .int z16), (0, .ref 0), (1, .int n)] [.int z174, .int x18, .ref 21] S19
            refine kw_iast (pc := 53) (i := 32) (n := 64) rfl rfl (by omega) (by omega) ?_
            have I176 : kw_I (bM T) (kw_ui S19 21 x18.toNatClampNeg z174) := kw_I_ui I20 (kw_rng z174).1 (Int.le_of_lt_add_one (kw_rng z174).2)
            have F177 : kw_FM [21, 22, 1002] σ (kw_ui S19 21 x18.toNatClampNeg z174) := kw_FM_ui F21 (by decide) (by decide)
            refine kw_iinc' (pc := 54) (i := 33) (k := 0) (fun z => [(3, .int z), (2, .int z16), (0, .ref 0), (1, .int n)]) rfl rfl (by decide) rfl (fun _ => rfl) (fun z178 e_z178 t_z178 => ?_)
            replace hF := kf_le e_z178 hF
            first | (have u_z178 : z178.toInt = x18.toInt + 1 := (by omega); clear t_z178) | skip
            refine kw_goto (pc := 57) (i := 34) (tgt := 32) rfl rfl ?_
            refine kw_sub (lv' := [(3, .int z178), (2, .int z16), (0, .ref 0), (1, .int n)]) [0, 1, 2, 3] rfl ?_
            exact ih23 z178 (kw_ui S19 21 x18.toNatClampNeg z174) I176 F177 (by omega) hF (by omega)
      exact L22 _ 0 σ hI hF0 (by omega) hF (Nat.lt_succ_self _)
    · replace hF := kf_p c11 hF
      refine kw_bipush (pc := 18) (i := 10) (v := (-4)) rfl rfl ?_
      exact kw_ireturn (pc := 20) (i := 11) (ty := .int) rfl rfl rfl ⟨⟨hI, hF0⟩, _, rfl, by omega, hF⟩
  · replace hF := kf_p c9 hF
    refine kw_iconst (pc := 9) (i := 5) (v := (-1)) rfl rfl ?_
    exact kw_ireturn (pc := 10) (i := 6) (ty := .int) rfl rfl rfl ⟨⟨hI, hF0⟩, _, rfl, by omega, hF⟩
end
