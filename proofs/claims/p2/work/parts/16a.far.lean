abbrev p_X8_farByvn0_0 (T : Int) (σ : kw_S) (t : Int32) : Option Value → kw_S → Prop := fun vv σ' => (kw_I (bM T) σ' ∧ kw_F [20] σ σ') ∧ ∃ r : Int32, vv = some (.int r)
set_option maxRecDepth 100000 in
set_option maxHeartbeats 4000000 in
theorem c_X8_farByvn0_0 (l : Launch) (T : Int) (hT0 : 0 ≤ T) (hT1 : T ≤ 3000) (σ : kw_S) (hI : kw_I (bM T) σ) (t : Int32) : kw_Met l 2 KM mX8_farBy [.ref 0, .int 0, .int t] σ (p_X8_farByvn0_0 T σ t) := by
  have r_t := kw_rng t
  have hF0 : kw_F [20] σ σ := kw_F.rf
  have q_m1048576 : (-1048576 : Int32).toInt = -1048576 := rfl
  have q_0 : (0 : Int32).toInt = 0 := rfl
  have q_1 : (1 : Int32).toInt = 1 := rfl
  have q_2 : (2 : Int32).toInt = 2 := rfl
  have q_3 : (3 : Int32).toInt = 3 := rfl
  refine kw_Met.of (by decide) rfl tX8_farBy (Nat.le_of_ble_eq_true rfl) ?_
  show kw_AW l 2 kw_E0 KM mX8_farBy (p_X8_farByvn0_0 T σ t) 0 [(0, .ref 0), (1, .int 0), (2, .int t)] [] σ
  refine kw_iconst (pc := 0) (i := 0) (v := 1) rfl rfl ?_
  refine kw_aload_n (pc := 1) (i := 1) (k := 0) (n := 0) rfl rfl rfl ?_
  refine kw_get (pc := 2) (i := 2) (v := .int (σ.1 0 10)) rfl rfl rfl lkX8_163 (fun _ => rfl) ?_
  have b1 : 0 ≤ (σ.1 0 10).toInt ∧ (σ.1 0 10).toInt ≤ 6 := hI 0 10
  refine kw_ishl (pc := 5) (i := 3) rfl (fun z2 e_z2 => ?_)
  have r_z2 := kw_rng z2
  have t_z2 := kw_shlm (σ.1 0 10) z2 e_z2
  have u_z2 := congrArg Int32.toInt e_z2
  refine kw_istore_n (pc := 6) (i := 4) (n := 3) (lv' := [(3, .int z2), (0, .ref 0), (1, .int 0), (2, .int t)]) rfl rfl (by decide) rfl ?_
  refine kw_ldc (pc := 7) (i := 5) (v := (-1048576)) rfl ckX8_255 ?_
  refine kw_istore (pc := 9) (i := 6) (n := 4) (lv' := [(4, .int (-1048576)), (3, .int z2), (0, .ref 0), (1, .int 0), (2, .int t)]) rfl (by decide) rfl ?_
  refine kw_iconst (pc := 11) (i := 7) (v := 0) rfl rfl ?_
  refine kw_istore (pc := 12) (i := 8) (n := 5) (lv' := [(5, .int 0), (4, .int (-1048576)), (3, .int z2), (0, .ref 0), (1, .int 0), (2, .int t)]) rfl (by decide) rfl ?_
  have L8 : ∀ (n12 : Nat) (x3 : Int32) (x4 : Int32) (S5 : kw_S), kw_I (bM T) S5 → kw_F [20] σ S5 → 0 ≤ x3.toInt → (65 - x3.toInt).toNat < n12 → kw_AW l 2 kw_E0 KM mX8_farBy (p_X8_farByvn0_0 T σ t) 14 [(5, .int x3), (4, .int x4), (3, .int z2), (0, .ref 0), (1, .int 0), (2, .int t)] [] S5 := by
    intro n12
    induction n12 with
    | zero => intro x3 x4 S5 I6 F7 v10 m11; exact absurd m11 (Nat.not_lt_zero _)
    | succ n12 ih9 =>
      intro x3 x4 S5 I6 F7 v10 m11
      have r_x3 := kw_rng x3
      have r_x4 := kw_rng x4
      refine kw_iload (pc := 14) (i := 9) (k := 0) (n := 5) rfl rfl ?_
      refine kw_iload_n (pc := 16) (i := 10) (k := 4) (n := 1) rfl rfl rfl ?_
      refine kw_if_le (pc := 17) (i := 11) (tgt := 24) rfl rfl (fun c13 => ?_) (fun c13 => ?_)
      · refine kw_iconst (pc := 24) (i := 14) (v := 1) rfl rfl ?_
        refine kw_icmp_ge (pc := 25) (i := 15) (tgt := 324) rfl rfl (fun c14 => ?_) (fun c14 => ?_)
        · refine kw_iload (pc := 324) (i := 174) (k := 1) (n := 4) rfl rfl ?_
          exact kw_ireturn (pc := 326) (i := 175) (ty := .int) rfl rfl rfl ⟨⟨I6, F7⟩, _, rfl⟩
        · refine kw_aload_n (pc := 28) (i := 16) (k := 3) (n := 0) rfl rfl rfl ?_
          refine kw_get (pc := 29) (i := 17) (v := .int (S5.1 0 24)) rfl rfl rfl lkX8_172 (fun _ => rfl) ?_
          have b15 := kw_rng (S5.1 0 24)
          refine kw_iload_n (pc := 32) (i := 18) (k := 4) (n := 1) rfl rfl rfl ?_
          refine kw_if_le (pc := 33) (i := 19) (tgt := 46) rfl rfl (fun c16 => ?_) (fun c16 => ?_)
          · refine kw_iconst (pc := 46) (i := 25) (v := 0) rfl rfl ?_
            refine kw_iadd (pc := 47) (i := 26) rfl (fun z17 e_z17 t_z17 => ?_)
            first | (have u_z17 : z17.toInt = (S5.1 0 24).toInt + 0 := (by omega); clear t_z17) | skip
            refine kw_istore (pc := 48) (i := 27) (n := 6) (lv' := [(6, .int z17), (5, .int x3), (4, .int x4), (3, .int z2), (0, .ref 0), (1, .int 0), (2, .int t)]) rfl (by decide) rfl ?_
            refine kw_aload_n (pc := 50) (i := 28) (k := 4) (n := 0) rfl rfl rfl ?_
            refine kw_get (pc := 51) (i := 29) (v := .int (S5.1 0 23)) rfl rfl rfl lkX8_169 (fun _ => rfl) ?_
            have b18 := kw_rng (S5.1 0 23)
            refine kw_iload_n (pc := 54) (i := 30) (k := 5) (n := 1) rfl rfl rfl ?_
            refine kw_if_le (pc := 55) (i := 31) (tgt := 68) rfl rfl (fun c19 => ?_) (fun c19 => ?_)
            · refine kw_iconst (pc := 68) (i := 37) (v := 0) rfl rfl ?_
              refine kw_iadd (pc := 69) (i := 38) rfl (fun z20 e_z20 t_z20 => ?_)
              first | (have u_z20 : z20.toInt = (S5.1 0 23).toInt + 0 := (by omega); clear t_z20) | skip
              refine kw_istore (pc := 70) (i := 39) (n := 7) (lv' := [(7, .int z20), (6, .int z17), (5, .int x3), (4, .int x4), (3, .int z2), (0, .ref 0), (1, .int 0), (2, .int t)]) rfl (by decide) rfl ?_
              refine kw_iload_n (pc := 72) (i := 40) (k := 6) (n := 1) rfl rfl rfl ?_
              refine kw_if_eq (pc := 73) (i := 41) (tgt := 85) rfl rfl (fun c21 => ?_) (fun c21 => ?_)
              · refine kw_iconst (pc := 85) (i := 46) (v := 1) rfl rfl ?_
                refine kw_goto (pc := 86) (i := 47) (tgt := 90) rfl rfl ?_
                refine kw_istore (pc := 90) (i := 49) (n := 8) (lv' := [(8, .int 1), (7, .int z20), (6, .int z17), (5, .int x3), (4, .int x4), (3, .int z2), (0, .ref 0), (1, .int 0), (2, .int t)]) rfl (by decide) rfl ?_
                refine kw_iconst (pc := 92) (i := 50) (v := 0) rfl rfl ?_
                refine kw_istore (pc := 93) (i := 51) (n := 9) (lv' := [(9, .int 0), (8, .int 1), (7, .int z20), (6, .int z17), (5, .int x3), (4, .int x4), (3, .int z2), (0, .ref 0), (1, .int 0), (2, .int t)]) rfl (by decide) rfl ?_
                have L27 : ∀ (n31 : Nat) (x22 : Int32) (x23 : Int32) (S24 : kw_S), kw_I (bM T) S24 → kw_F [20] σ S24 → 0 ≤ x22.toInt → (65 - x22.toInt).toNat < n31 → kw_AW l 2 kw_E0 KM mX8_farBy (p_X8_farByvn0_0 T σ t) 95 [(9, .int x22), (8, .int 1), (7, .int z20), (6, .int z17), (5, .int x3), (4, .int x23), (3, .int z2), (0, .ref 0), (1, .int 0), (2, .int t)] [] S24 := by
                  intro n31
                  induction n31 with
                  | zero => intro x22 x23 S24 I25 F26 v29 m30; exact absurd m30 (Nat.not_lt_zero _)
                  | succ n31 ih28 =>
                    intro x22 x23 S24 I25 F26 v29 m30
                    have r_x22 := kw_rng x22
                    have r_x23 := kw_rng x23
                    refine kw_iload (pc := 95) (i := 52) (k := 1) (n := 8) rfl rfl ?_
                    refine kw_if_eq (pc := 97) (i := 53) (tgt := 318) rfl rfl (fun c32 => ?_) (fun c32 => ?_)
                    · exfalso; omega
                    · refine kw_iload (pc := 100) (i := 54) (k := 0) (n := 9) rfl rfl ?_
                      refine kw_iload_n (pc := 102) (i := 55) (k := 8) (n := 1) rfl rfl rfl ?_
                      refine kw_iconst (pc := 103) (i := 56) (v := 1) rfl rfl ?_
                      refine kw_icmp_le (pc := 104) (i := 57) (tgt := 111) rfl rfl (fun c33 => ?_) (fun c33 => ?_)
                      · refine kw_iconst (pc := 111) (i := 60) (v := 1) rfl rfl ?_
                        refine kw_icmp_ge (pc := 112) (i := 61) (tgt := 318) rfl rfl (fun c34 => ?_) (fun c34 => ?_)
                        · refine kw_iinc' (pc := 318) (i := 172) (k := 4) (fun z => [(5, .int z), (9, .int x22), (8, .int 1), (7, .int z20), (6, .int z17), (4, .int x23), (3, .int z2), (0, .ref 0), (1, .int 0), (2, .int t)]) rfl rfl (by decide) rfl (fun _ => rfl) (fun z35 e_z35 t_z35 => ?_)
                          first | (have u_z35 : z35.toInt = x3.toInt + 1 := (by omega); clear t_z35) | skip
                          refine kw_goto (pc := 321) (i := 173) (tgt := 14) rfl rfl ?_
                          refine kw_sub (lv' := [(5, .int z35), (4, .int x23), (3, .int z2), (0, .ref 0), (1, .int 0), (2, .int t)]) [0, 5, 6, 7, 8, 9] rfl ?_
                          exact ih9 z35 x23 S24 I25 F26 (by omega) (by omega)
                        · refine kw_iload (pc := 115) (i := 62) (k := 3) (n := 6) rfl rfl ?_
                          refine kw_iload_n (pc := 117) (i := 63) (k := 8) (n := 1) rfl rfl rfl ?_
                          refine kw_iconst (pc := 118) (i := 64) (v := 1) rfl rfl ?_
                          refine kw_icmp_le (pc := 119) (i := 65) (tgt := 135) rfl rfl (fun c36 => ?_) (fun c36 => ?_)
                          · refine kw_iconst (pc := 135) (i := 73) (v := 0) rfl rfl ?_
                            refine kw_iadd (pc := 136) (i := 74) rfl (fun z37 e_z37 t_z37 => ?_)
                            first | (have u_z37 : z37.toInt = z17.toInt + 0 := (by omega); clear t_z37) | skip
                            refine kw_istore (pc := 137) (i := 75) (n := 10) (lv' := [(10, .int z37), (9, .int x22), (8, .int 1), (7, .int z20), (6, .int z17), (5, .int x3), (4, .int x23), (3, .int z2), (0, .ref 0), (1, .int 0), (2, .int t)]) rfl (by decide) rfl ?_
                            refine kw_iload (pc := 139) (i := 76) (k := 3) (n := 7) rfl rfl ?_
                            refine kw_iload_n (pc := 141) (i := 77) (k := 9) (n := 1) rfl rfl rfl ?_
                            refine kw_iconst (pc := 142) (i := 78) (v := 1) rfl rfl ?_
                            refine kw_icmp_le (pc := 143) (i := 79) (tgt := 159) rfl rfl (fun c38 => ?_) (fun c38 => ?_)
                            · refine kw_iconst (pc := 159) (i := 87) (v := 0) rfl rfl ?_
                              refine kw_iadd (pc := 160) (i := 88) rfl (fun z39 e_z39 t_z39 => ?_)
                              first | (have u_z39 : z39.toInt = z20.toInt + 0 := (by omega); clear t_z39) | skip
                              refine kw_istore (pc := 161) (i := 89) (n := 11) (lv' := [(11, .int z39), (10, .int z37), (9, .int x22), (8, .int 1), (7, .int z20), (6, .int z17), (5, .int x3), (4, .int x23), (3, .int z2), (0, .ref 0), (1, .int 0), (2, .int t)]) rfl (by decide) rfl ?_
                              refine kw_iload_n (pc := 163) (i := 90) (k := 10) (n := 1) rfl rfl rfl ?_
                              refine kw_iconst (pc := 164) (i := 91) (v := 2) rfl rfl ?_
                              refine kw_icmp_lt (pc := 165) (i := 92) (tgt := 177) rfl rfl (fun c40 => ?_) (fun c40 => ?_)
                              · refine kw_iconst (pc := 177) (i := 97) (v := 1) rfl rfl ?_
                                refine kw_goto (pc := 178) (i := 98) (tgt := 182) rfl rfl ?_
                                refine kw_istore (pc := 182) (i := 100) (n := 12) (lv' := [(12, .int 1), (11, .int z39), (10, .int z37), (9, .int x22), (8, .int 1), (7, .int z20), (6, .int z17), (5, .int x3), (4, .int x23), (3, .int z2), (0, .ref 0), (1, .int 0), (2, .int t)]) rfl (by decide) rfl ?_
                                refine kw_iconst (pc := 184) (i := 101) (v := 0) rfl rfl ?_
                                refine kw_istore (pc := 185) (i := 102) (n := 13) (lv' := [(13, .int 0), (12, .int 1), (11, .int z39), (10, .int z37), (9, .int x22), (8, .int 1), (7, .int z20), (6, .int z17), (5, .int x3), (4, .int x23), (3, .int z2), (0, .ref 0), (1, .int 0), (2, .int t)]) rfl (by decide) rfl ?_
                                have L46 : ∀ (n50 : Nat) (x41 : Int32) (x42 : Int32) (S43 : kw_S), kw_I (bM T) S43 → kw_F [20] σ S43 → 0 ≤ x41.toInt → (65 - x41.toInt).toNat < n50 → kw_AW l 2 kw_E0 KM mX8_farBy (p_X8_farByvn0_0 T σ t) 187 [(13, .int x41), (12, .int 1), (11, .int z39), (10, .int z37), (9, .int x22), (8, .int 1), (7, .int z20), (6, .int z17), (5, .int x3), (4, .int x42), (3, .int z2), (0, .ref 0), (1, .int 0), (2, .int t)] [] S43 := by
                                  intro n50
                                  induction n50 with
                                  | zero => intro x41 x42 S43 I44 F45 v48 m49; exact absurd m49 (Nat.not_lt_zero _)
                                  | succ n50 ih47 =>
                                    intro x41 x42 S43 I44 F45 v48 m49
                                    have r_x41 := kw_rng x41
                                    have r_x42 := kw_rng x42
                                    refine kw_iload (pc := 187) (i := 103) (k := 1) (n := 12) rfl rfl ?_
                                    refine kw_if_eq (pc := 189) (i := 104) (tgt := 312) rfl rfl (fun c51 => ?_) (fun c51 => ?_)
                                    · exfalso; omega
                                    · refine kw_iload (pc := 192) (i := 105) (k := 0) (n := 13) rfl rfl ?_
                                      refine kw_iload_n (pc := 194) (i := 106) (k := 12) (n := 1) rfl rfl rfl ?_
                                      refine kw_iconst (pc := 195) (i := 107) (v := 2) rfl rfl ?_
                                      refine kw_icmp_le (pc := 196) (i := 108) (tgt := 203) rfl rfl (fun c52 => ?_) (fun c52 => ?_)
                                      · refine kw_iconst (pc := 203) (i := 111) (v := 1) rfl rfl ?_
                                        refine kw_icmp_ge (pc := 204) (i := 112) (tgt := 312) rfl rfl (fun c53 => ?_) (fun c53 => ?_)
                                        · refine kw_iinc' (pc := 312) (i := 170) (k := 4) (fun z => [(9, .int z), (13, .int x41), (12, .int 1), (11, .int z39), (10, .int z37), (8, .int 1), (7, .int z20), (6, .int z17), (5, .int x3), (4, .int x42), (3, .int z2), (0, .ref 0), (1, .int 0), (2, .int t)]) rfl rfl (by decide) rfl (fun _ => rfl) (fun z54 e_z54 t_z54 => ?_)
                                          first | (have u_z54 : z54.toInt = x22.toInt + 1 := (by omega); clear t_z54) | skip
                                          refine kw_goto (pc := 315) (i := 171) (tgt := 95) rfl rfl ?_
                                          refine kw_sub (lv' := [(9, .int z54), (8, .int 1), (7, .int z20), (6, .int z17), (5, .int x3), (4, .int x42), (3, .int z2), (0, .ref 0), (1, .int 0), (2, .int t)]) [0, 5, 6, 7, 8, 9, 10, 11, 12, 13] rfl ?_
                                          exact ih28 z54 x42 S43 I44 F45 (by omega) (by omega)
                                        · refine kw_iload (pc := 207) (i := 113) (k := 3) (n := 10) rfl rfl ?_
                                          refine kw_iload_n (pc := 209) (i := 114) (k := 12) (n := 1) rfl rfl rfl ?_
                                          refine kw_iconst (pc := 210) (i := 115) (v := 2) rfl rfl ?_
                                          refine kw_icmp_le (pc := 211) (i := 116) (tgt := 228) rfl rfl (fun c55 => ?_) (fun c55 => ?_)
                                          · refine kw_iconst (pc := 228) (i := 124) (v := 0) rfl rfl ?_
                                            refine kw_iadd (pc := 229) (i := 125) rfl (fun z56 e_z56 t_z56 => ?_)
                                            first | (have u_z56 : z56.toInt = z37.toInt + 0 := (by omega); clear t_z56) | skip
                                            refine kw_istore (pc := 230) (i := 126) (n := 14) (lv' := [(14, .int z56), (13, .int x41), (12, .int 1), (11, .int z39), (10, .int z37), (9, .int x22), (8, .int 1), (7, .int z20), (6, .int z17), (5, .int x3), (4, .int x42), (3, .int z2), (0, .ref 0), (1, .int 0), (2, .int t)]) rfl (by decide) rfl ?_
                                            refine kw_iload (pc := 232) (i := 127) (k := 3) (n := 11) rfl rfl ?_
                                            refine kw_iload_n (pc := 234) (i := 128) (k := 13) (n := 1) rfl rfl rfl ?_
                                            refine kw_iconst (pc := 235) (i := 129) (v := 2) rfl rfl ?_
                                            refine kw_icmp_le (pc := 236) (i := 130) (tgt := 253) rfl rfl (fun c57 => ?_) (fun c57 => ?_)
                                            · refine kw_iconst (pc := 253) (i := 138) (v := 0) rfl rfl ?_
                                              refine kw_iadd (pc := 254) (i := 139) rfl (fun z58 e_z58 t_z58 => ?_)
                                              first | (have u_z58 : z58.toInt = z39.toInt + 0 := (by omega); clear t_z58) | skip
                                              refine kw_istore (pc := 255) (i := 140) (n := 15) (lv' := [(15, .int z58), (14, .int z56), (13, .int x41), (12, .int 1), (11, .int z39), (10, .int z37), (9, .int x22), (8, .int 1), (7, .int z20), (6, .int z17), (5, .int x3), (4, .int x42), (3, .int z2), (0, .ref 0), (1, .int 0), (2, .int t)]) rfl (by decide) rfl ?_
                                              refine kw_iload_n (pc := 257) (i := 141) (k := 14) (n := 1) rfl rfl rfl ?_
                                              refine kw_iconst (pc := 258) (i := 142) (v := 3) rfl rfl ?_
                                              refine kw_icmp_lt (pc := 259) (i := 143) (tgt := 271) rfl rfl (fun c59 => ?_) (fun c59 => ?_)
                                              · refine kw_iload (pc := 271) (i := 148) (k := 0) (n := 15) rfl rfl ?_
                                                refine kw_iload (pc := 273) (i := 149) (k := 11) (n := 4) rfl rfl ?_
                                                refine kw_icmp_le (pc := 275) (i := 150) (tgt := 306) rfl rfl (fun c60 => ?_) (fun c60 => ?_)
                                                · refine kw_iinc' (pc := 306) (i := 168) (k := 2) (fun z => [(13, .int z), (15, .int z58), (14, .int z56), (12, .int 1), (11, .int z39), (10, .int z37), (9, .int x22), (8, .int 1), (7, .int z20), (6, .int z17), (5, .int x3), (4, .int x42), (3, .int z2), (0, .ref 0), (1, .int 0), (2, .int t)]) rfl rfl (by decide) rfl (fun _ => rfl) (fun z61 e_z61 t_z61 => ?_)
                                                  first | (have u_z61 : z61.toInt = x41.toInt + 1 := (by omega); clear t_z61) | skip
                                                  refine kw_goto (pc := 309) (i := 169) (tgt := 187) rfl rfl ?_
                                                  refine kw_sub (lv' := [(13, .int z61), (12, .int 1), (11, .int z39), (10, .int z37), (9, .int x22), (8, .int 1), (7, .int z20), (6, .int z17), (5, .int x3), (4, .int x42), (3, .int z2), (0, .ref 0), (1, .int 0), (2, .int t)]) [0, 3, 4, 5, 6, 7, 8, 9, 10, 11, 12, 13, 14, 15] rfl ?_
                                                  exact ih47 z61 x42 S43 I44 F45 (by omega) (by omega)
                                                · refine kw_iload (pc := 278) (i := 151) (k := 0) (n := 15) rfl rfl ?_
                                                  refine kw_istore (pc := 280) (i := 152) (n := 4) (lv' := [(4, .int z58), (15, .int z58), (14, .int z56), (13, .int x41), (12, .int 1), (11, .int z39), (10, .int z37), (9, .int x22), (8, .int 1), (7, .int z20), (6, .int z17), (5, .int x3), (3, .int z2), (0, .ref 0), (1, .int 0), (2, .int t)]) rfl (by decide) rfl ?_
                                                  refine kw_aload_n (pc := 282) (i := 153) (k := 13) (n := 0) rfl rfl rfl ?_
                                                  refine kw_get (pc := 283) (i := 154) (v := .ref 20) rfl rfl rfl lkX8_75 (fun _ => rfl) ?_
                                                  refine kw_iconst (pc := 286) (i := 155) (v := 0) rfl rfl ?_
                                                  refine kw_iload (pc := 287) (i := 156) (k := 11) (n := 5) rfl rfl ?_
                                                  refine kw_iast (pc := 289) (i := 157) (n := 3) rfl rfl (by omega) (by omega) ?_
                                                  have I62 : kw_I (bM T) (kw_ui S43 20 ((0 : Int32).toNatClampNeg) x3) := kw_I_ui I44 (kw_rng x3).1 (Int.le_of_lt_add_one (kw_rng x3).2)
                                                  have F63 : kw_F [20] σ (kw_ui S43 20 ((0 : Int32).toNatClampNeg) x3) := kw_F_ui F45 (by decide)
                                                  refine kw_aload_n (pc := 290) (i := 158) (k := 13) (n := 0) rfl rfl rfl ?_
                                                  refine kw_get (pc := 291) (i := 159) (v := .ref 20) rfl rfl rfl lkX8_75 (fun _ => rfl) ?_
                                                  refine kw_iconst (pc := 294) (i := 160) (v := 1) rfl rfl ?_
                                                  refine kw_iload (pc := 295) (i := 161) (k := 7) (n := 9) rfl rfl ?_
                                                  refine kw_iast (pc := 297) (i := 162) (n := 3) rfl rfl (by omega) (by omega) ?_
                                                  have I64 : kw_I (bM T) (kw_ui (kw_ui S43 20 ((0 : Int32).toNatClampNeg) x3) 20 ((1 : Int32).toNatClampNeg) x22) := kw_I_ui I62 (kw_rng x22).1 (Int.le_of_lt_add_one (kw_rng x22).2)
                                                  have F65 : kw_F [20] σ (kw_ui (kw_ui S43 20 ((0 : Int32).toNatClampNeg) x3) 20 ((1 : Int32).toNatClampNeg) x22) := kw_F_ui F63 (by decide)
                                                  refine kw_aload_n (pc := 298) (i := 163) (k := 13) (n := 0) rfl rfl rfl ?_
                                                  refine kw_get (pc := 299) (i := 164) (v := .ref 20) rfl rfl rfl lkX8_75 (fun _ => rfl) ?_
                                                  refine kw_iconst (pc := 302) (i := 165) (v := 2) rfl rfl ?_
                                                  refine kw_iload (pc := 303) (i := 166) (k := 3) (n := 13) rfl rfl ?_
                                                  refine kw_iast (pc := 305) (i := 167) (n := 3) rfl rfl (by omega) (by omega) ?_
                                                  have I66 : kw_I (bM T) (kw_ui (kw_ui (kw_ui S43 20 ((0 : Int32).toNatClampNeg) x3) 20 ((1 : Int32).toNatClampNeg) x22) 20 ((2 : Int32).toNatClampNeg) x41) := kw_I_ui I64 (kw_rng x41).1 (Int.le_of_lt_add_one (kw_rng x41).2)
                                                  have F67 : kw_F [20] σ (kw_ui (kw_ui (kw_ui S43 20 ((0 : Int32).toNatClampNeg) x3) 20 ((1 : Int32).toNatClampNeg) x22) 20 ((2 : Int32).toNatClampNeg) x41) := kw_F_ui F65 (by decide)
                                                  refine kw_iinc' (pc := 306) (i := 168) (k := 3) (fun z => [(13, .int z), (4, .int z58), (15, .int z58), (14, .int z56), (12, .int 1), (11, .int z39), (10, .int z37), (9, .int x22), (8, .int 1), (7, .int z20), (6, .int z17), (5, .int x3), (3, .int z2), (0, .ref 0), (1, .int 0), (2, .int t)]) rfl rfl (by decide) rfl (fun _ => rfl) (fun z68 e_z68 t_z68 => ?_)
                                                  first | (have u_z68 : z68.toInt = x41.toInt + 1 := (by omega); clear t_z68) | skip
                                                  refine kw_goto (pc := 309) (i := 169) (tgt := 187) rfl rfl ?_
                                                  refine kw_sub (lv' := [(13, .int z68), (12, .int 1), (11, .int z39), (10, .int z37), (9, .int x22), (8, .int 1), (7, .int z20), (6, .int z17), (5, .int x3), (4, .int z58), (3, .int z2), (0, .ref 0), (1, .int 0), (2, .int t)]) [0, 4, 5, 6, 7, 8, 9, 10, 11, 1, 12, 13, 14, 15] rfl ?_
                                                  exact ih47 z68 z58 (kw_ui (kw_ui (kw_ui S43 20 ((0 : Int32).toNatClampNeg) x3) 20 ((1 : Int32).toNatClampNeg) x22) 20 ((2 : Int32).toNatClampNeg) x41) I66 F67 (by omega) (by omega)
                                              · exfalso; omega
                                            · exfalso; omega
                                          · exfalso; omega
                                      · exfalso; omega
                                exact L46 _ 0 x23 S24 I25 F26 (by omega) (Nat.lt_succ_self _)
                              · exfalso; omega
                            · exfalso; omega
                          · exfalso; omega
                      · exfalso; omega
                exact L27 _ 0 x4 S5 I6 F7 (by omega) (Nat.lt_succ_self _)
              · exfalso; omega
            · exfalso; omega
          · exfalso; omega
      · exfalso; omega
  exact L8 _ 0 (-1048576) σ hI hF0 (by omega) (Nat.lt_succ_self _)
abbrev p_X8_farByvn1_0 (T : Int) (σ : kw_S) (t : Int32) : Option Value → kw_S → Prop := fun vv σ' => (kw_I (bM T) σ' ∧ kw_F [20] σ σ') ∧ ∃ r : Int32, vv = some (.int r)
set_option maxRecDepth 100000 in
set_option maxHeartbeats 4000000 in
theorem c_X8_farByvn1_0 (l : Launch) (T : Int) (hT0 : 0 ≤ T) (hT1 : T ≤ 3000) (σ : kw_S) (hI : kw_I (bM T) σ) (t : Int32) : kw_Met l 2 KM mX8_farBy [.ref 0, .int 1, .int t] σ (p_X8_farByvn1_0 T σ t) := by
  have r_t := kw_rng t
  have hF0 : kw_F [20] σ σ := kw_F.rf
  have q_m1048576 : (-1048576 : Int32).toInt = -1048576 := rfl
  have q_0 : (0 : Int32).toInt = 0 := rfl
  have q_1 : (1 : Int32).toInt = 1 := rfl
  have q_2 : (2 : Int32).toInt = 2 := rfl
  have q_3 : (3 : Int32).toInt = 3 := rfl
  refine kw_Met.of (by decide) rfl tX8_farBy (Nat.le_of_ble_eq_true rfl) ?_
  show kw_AW l 2 kw_E0 KM mX8_farBy (p_X8_farByvn1_0 T σ t) 0 [(0, .ref 0), (1, .int 1), (2, .int t)] [] σ
  refine kw_iconst (pc := 0) (i := 0) (v := 1) rfl rfl ?_
  refine kw_aload_n (pc := 1) (i := 1) (k := 0) (n := 0) rfl rfl rfl ?_
  refine kw_get (pc := 2) (i := 2) (v := .int (σ.1 0 10)) rfl rfl rfl lkX8_163 (fun _ => rfl) ?_
  have b1 : 0 ≤ (σ.1 0 10).toInt ∧ (σ.1 0 10).toInt ≤ 6 := hI 0 10
  refine kw_ishl (pc := 5) (i := 3) rfl (fun z2 e_z2 => ?_)
  have r_z2 := kw_rng z2
  have t_z2 := kw_shlm (σ.1 0 10) z2 e_z2
  have u_z2 := congrArg Int32.toInt e_z2
  refine kw_istore_n (pc := 6) (i := 4) (n := 3) (lv' := [(3, .int z2), (0, .ref 0), (1, .int 1), (2, .int t)]) rfl rfl (by decide) rfl ?_
  refine kw_ldc (pc := 7) (i := 5) (v := (-1048576)) rfl ckX8_255 ?_
  refine kw_istore (pc := 9) (i := 6) (n := 4) (lv' := [(4, .int (-1048576)), (3, .int z2), (0, .ref 0), (1, .int 1), (2, .int t)]) rfl (by decide) rfl ?_
  refine kw_iconst (pc := 11) (i := 7) (v := 0) rfl rfl ?_
  refine kw_istore (pc := 12) (i := 8) (n := 5) (lv' := [(5, .int 0), (4, .int (-1048576)), (3, .int z2), (0, .ref 0), (1, .int 1), (2, .int t)]) rfl (by decide) rfl ?_
  have L8 : ∀ (n12 : Nat) (x3 : Int32) (x4 : Int32) (S5 : kw_S), kw_I (bM T) S5 → kw_F [20] σ S5 → 0 ≤ x3.toInt → (65 - x3.toInt).toNat < n12 → kw_AW l 2 kw_E0 KM mX8_farBy (p_X8_farByvn1_0 T σ t) 14 [(5, .int x3), (4, .int x4), (3, .int z2), (0, .ref 0), (1, .int 1), (2, .int t)] [] S5 := by
    intro n12
    induction n12 with
    | zero => intro x3 x4 S5 I6 F7 v10 m11; exact absurd m11 (Nat.not_lt_zero _)
    | succ n12 ih9 =>
      intro x3 x4 S5 I6 F7 v10 m11
      have r_x3 := kw_rng x3
      have r_x4 := kw_rng x4
      refine kw_iload (pc := 14) (i := 9) (k := 0) (n := 5) rfl rfl ?_
      refine kw_iload_n (pc := 16) (i := 10) (k := 4) (n := 1) rfl rfl rfl ?_
      refine kw_if_le (pc := 17) (i := 11) (tgt := 24) rfl rfl (fun c13 => ?_) (fun c13 => ?_)
      · exfalso; omega
      · refine kw_iload_n (pc := 20) (i := 12) (k := 2) (n := 3) rfl rfl rfl ?_
        refine kw_goto (pc := 21) (i := 13) (tgt := 25) rfl rfl ?_
        refine kw_icmp_ge (pc := 25) (i := 15) (tgt := 324) rfl rfl (fun c14 => ?_) (fun c14 => ?_)
        · refine kw_iload (pc := 324) (i := 174) (k := 1) (n := 4) rfl rfl ?_
          exact kw_ireturn (pc := 326) (i := 175) (ty := .int) rfl rfl rfl ⟨⟨I6, F7⟩, _, rfl⟩
        · refine kw_aload_n (pc := 28) (i := 16) (k := 3) (n := 0) rfl rfl rfl ?_
          refine kw_get (pc := 29) (i := 17) (v := .int (S5.1 0 24)) rfl rfl rfl lkX8_172 (fun _ => rfl) ?_
          have b15 := kw_rng (S5.1 0 24)
          refine kw_iload_n (pc := 32) (i := 18) (k := 4) (n := 1) rfl rfl rfl ?_
          refine kw_if_le (pc := 33) (i := 19) (tgt := 46) rfl rfl (fun c16 => ?_) (fun c16 => ?_)
          · exfalso; omega
          · refine kw_aload_n (pc := 36) (i := 20) (k := 3) (n := 0) rfl rfl rfl ?_
            refine kw_get (pc := 37) (i := 21) (v := .ref 19) rfl rfl rfl lkX8_72 (fun _ => rfl) ?_
            refine kw_iload (pc := 40) (i := 22) (k := 0) (n := 5) rfl rfl ?_
            refine kw_iald (pc := 42) (i := 23) (n := 192) rfl rfl (by omega) (by omega) (fun z17 e_z17 => ?_)
            have t_z17 := congrArg Int32.toInt e_z17
            have r_z17 := kw_rng z17
            refine kw_goto (pc := 43) (i := 24) (tgt := 47) rfl rfl ?_
            refine kw_iadd (pc := 47) (i := 26) rfl (fun z18 e_z18 t_z18 => ?_)
            first | (have u_z18 : z18.toInt = (S5.1 0 24).toInt + z17.toInt := (by omega); clear t_z18) | skip
            refine kw_istore (pc := 48) (i := 27) (n := 6) (lv' := [(6, .int z18), (5, .int x3), (4, .int x4), (3, .int z2), (0, .ref 0), (1, .int 1), (2, .int t)]) rfl (by decide) rfl ?_
            refine kw_aload_n (pc := 50) (i := 28) (k := 4) (n := 0) rfl rfl rfl ?_
            refine kw_get (pc := 51) (i := 29) (v := .int (S5.1 0 23)) rfl rfl rfl lkX8_169 (fun _ => rfl) ?_
            have b19 := kw_rng (S5.1 0 23)
            refine kw_iload_n (pc := 54) (i := 30) (k := 5) (n := 1) rfl rfl rfl ?_
            refine kw_if_le (pc := 55) (i := 31) (tgt := 68) rfl rfl (fun c20 => ?_) (fun c20 => ?_)
            · exfalso; omega
            · refine kw_aload_n (pc := 58) (i := 32) (k := 4) (n := 0) rfl rfl rfl ?_
              refine kw_get (pc := 59) (i := 33) (v := .ref 18) rfl rfl rfl lkX8_69 (fun _ => rfl) ?_
              refine kw_iload (pc := 62) (i := 34) (k := 1) (n := 5) rfl rfl ?_
              refine kw_iald (pc := 64) (i := 35) (n := 192) rfl rfl (by omega) (by omega) (fun z21 e_z21 => ?_)
              have t_z21 := congrArg Int32.toInt e_z21
              have r_z21 := kw_rng z21
              refine kw_goto (pc := 65) (i := 36) (tgt := 69) rfl rfl ?_
              refine kw_iadd (pc := 69) (i := 38) rfl (fun z22 e_z22 t_z22 => ?_)
              first | (have u_z22 : z22.toInt = (S5.1 0 23).toInt + z21.toInt := (by omega); clear t_z22) | skip
              refine kw_istore (pc := 70) (i := 39) (n := 7) (lv' := [(7, .int z22), (6, .int z18), (5, .int x3), (4, .int x4), (3, .int z2), (0, .ref 0), (1, .int 1), (2, .int t)]) rfl (by decide) rfl ?_
              refine kw_iload_n (pc := 72) (i := 40) (k := 6) (n := 1) rfl rfl rfl ?_
              refine kw_if_eq (pc := 73) (i := 41) (tgt := 85) rfl rfl (fun c23 => ?_) (fun c23 => ?_)
              · exfalso; omega
              · refine kw_iload (pc := 76) (i := 42) (k := 1) (n := 6) rfl rfl ?_
                refine kw_iload_n (pc := 78) (i := 43) (k := 7) (n := 2) rfl rfl rfl ?_
                refine kw_callS (pc := 79) (i := 44) (Y := mX8_isTurn) (As := [.int z18, .int t]) (st := []) kw_hE rfl lsX8_256 arX8_isTurn (c_X8_isTurn l T (by omega) (by omega) S5 I6 z18 t ) (by decide) (Nat.le_of_ble_eq_true rfl) rfl (fun v S25 p24 => ?_)
                obtain ⟨e28, z27, rfl, f26⟩ := p24
                rw [e28]
                have r_z27 := kw_rng z27
                show kw_AW l 2 kw_E0 KM mX8_farBy (p_X8_farByvn1_0 T σ t) 82 [(7, .int z22), (6, .int z18), (5, .int x3), (4, .int x4), (3, .int z2), (0, .ref 0), (1, .int 1), (2, .int t)] [.int z27] S5
                refine kw_if_eq (pc := 82) (i := 45) (tgt := 89) rfl rfl (fun c29 => ?_) (fun c29 => ?_)
                · refine kw_iconst (pc := 89) (i := 48) (v := 0) rfl rfl ?_
                  refine kw_istore (pc := 90) (i := 49) (n := 8) (lv' := [(8, .int 0), (7, .int z22), (6, .int z18), (5, .int x3), (4, .int x4), (3, .int z2), (0, .ref 0), (1, .int 1), (2, .int t)]) rfl (by decide) rfl ?_
                  refine kw_iconst (pc := 92) (i := 50) (v := 0) rfl rfl ?_
                  refine kw_istore (pc := 93) (i := 51) (n := 9) (lv' := [(9, .int 0), (8, .int 0), (7, .int z22), (6, .int z18), (5, .int x3), (4, .int x4), (3, .int z2), (0, .ref 0), (1, .int 1), (2, .int t)]) rfl (by decide) rfl ?_
                  have L35 : ∀ (n39 : Nat) (x30 : Int32) (x31 : Int32) (S32 : kw_S), kw_I (bM T) S32 → kw_F [20] σ S32 → 0 ≤ x30.toInt → (65 - x30.toInt).toNat < n39 → kw_AW l 2 kw_E0 KM mX8_farBy (p_X8_farByvn1_0 T σ t) 95 [(9, .int x30), (8, .int 0), (7, .int z22), (6, .int z18), (5, .int x3), (4, .int x31), (3, .int z2), (0, .ref 0), (1, .int 1), (2, .int t)] [] S32 := by
                    intro n39
                    induction n39 with
                    | zero => intro x30 x31 S32 I33 F34 v37 m38; exact absurd m38 (Nat.not_lt_zero _)
                    | succ n39 ih36 =>
                      intro x30 x31 S32 I33 F34 v37 m38
                      have r_x30 := kw_rng x30
                      have r_x31 := kw_rng x31
                      refine kw_iload (pc := 95) (i := 52) (k := 1) (n := 8) rfl rfl ?_
                      refine kw_if_eq (pc := 97) (i := 53) (tgt := 318) rfl rfl (fun c40 => ?_) (fun c40 => ?_)
                      · refine kw_iinc' (pc := 318) (i := 172) (k := 4) (fun z => [(5, .int z), (9, .int x30), (8, .int 0), (7, .int z22), (6, .int z18), (4, .int x31), (3, .int z2), (0, .ref 0), (1, .int 1), (2, .int t)]) rfl rfl (by decide) rfl (fun _ => rfl) (fun z41 e_z41 t_z41 => ?_)
                        first | (have u_z41 : z41.toInt = x3.toInt + 1 := (by omega); clear t_z41) | skip
                        refine kw_goto (pc := 321) (i := 173) (tgt := 14) rfl rfl ?_
                        refine kw_sub (lv' := [(5, .int z41), (4, .int x31), (3, .int z2), (0, .ref 0), (1, .int 1), (2, .int t)]) [0, 5, 6, 7, 8, 9] rfl ?_
                        exact ih9 z41 x31 S32 I33 F34 (by omega) (by omega)
                      · exfalso; omega
                  exact L35 _ 0 x4 S5 I6 F7 (by omega) (Nat.lt_succ_self _)
                · refine kw_iconst (pc := 85) (i := 46) (v := 1) rfl rfl ?_
                  refine kw_goto (pc := 86) (i := 47) (tgt := 90) rfl rfl ?_
                  refine kw_istore (pc := 90) (i := 49) (n := 8) (lv' := [(8, .int 1), (7, .int z22), (6, .int z18), (5, .int x3), (4, .int x4), (3, .int z2), (0, .ref 0), (1, .int 1), (2, .int t)]) rfl (by decide) rfl ?_
                  refine kw_iconst (pc := 92) (i := 50) (v := 0) rfl rfl ?_
                  refine kw_istore (pc := 93) (i := 51) (n := 9) (lv' := [(9, .int 0), (8, .int 1), (7, .int z22), (6, .int z18), (5, .int x3), (4, .int x4), (3, .int z2), (0, .ref 0), (1, .int 1), (2, .int t)]) rfl (by decide) rfl ?_
                  have L47 : ∀ (n51 : Nat) (x42 : Int32) (x43 : Int32) (S44 : kw_S), kw_I (bM T) S44 → kw_F [20] σ S44 → 0 ≤ x42.toInt → (65 - x42.toInt).toNat < n51 → kw_AW l 2 kw_E0 KM mX8_farBy (p_X8_farByvn1_0 T σ t) 95 [(9, .int x42), (8, .int 1), (7, .int z22), (6, .int z18), (5, .int x3), (4, .int x43), (3, .int z2), (0, .ref 0), (1, .int 1), (2, .int t)] [] S44 := by
                    intro n51
                    induction n51 with
                    | zero => intro x42 x43 S44 I45 F46 v49 m50; exact absurd m50 (Nat.not_lt_zero _)
                    | succ n51 ih48 =>
                      intro x42 x43 S44 I45 F46 v49 m50
                      have r_x42 := kw_rng x42
                      have r_x43 := kw_rng x43
                      refine kw_iload (pc := 95) (i := 52) (k := 1) (n := 8) rfl rfl ?_
                      refine kw_if_eq (pc := 97) (i := 53) (tgt := 318) rfl rfl (fun c52 => ?_) (fun c52 => ?_)
                      · exfalso; omega
                      · refine kw_iload (pc := 100) (i := 54) (k := 0) (n := 9) rfl rfl ?_
                        refine kw_iload_n (pc := 102) (i := 55) (k := 8) (n := 1) rfl rfl rfl ?_
                        refine kw_iconst (pc := 103) (i := 56) (v := 1) rfl rfl ?_
                        refine kw_icmp_le (pc := 104) (i := 57) (tgt := 111) rfl rfl (fun c53 => ?_) (fun c53 => ?_)
                        · refine kw_iconst (pc := 111) (i := 60) (v := 1) rfl rfl ?_
                          refine kw_icmp_ge (pc := 112) (i := 61) (tgt := 318) rfl rfl (fun c54 => ?_) (fun c54 => ?_)
                          · refine kw_iinc' (pc := 318) (i := 172) (k := 4) (fun z => [(5, .int z), (9, .int x42), (8, .int 1), (7, .int z22), (6, .int z18), (4, .int x43), (3, .int z2), (0, .ref 0), (1, .int 1), (2, .int t)]) rfl rfl (by decide) rfl (fun _ => rfl) (fun z55 e_z55 t_z55 => ?_)
                            first | (have u_z55 : z55.toInt = x3.toInt + 1 := (by omega); clear t_z55) | skip
                            refine kw_goto (pc := 321) (i := 173) (tgt := 14) rfl rfl ?_
                            refine kw_sub (lv' := [(5, .int z55), (4, .int x43), (3, .int z2), (0, .ref 0), (1, .int 1), (2, .int t)]) [0, 5, 6, 7, 8, 9] rfl ?_
                            exact ih9 z55 x43 S44 I45 F46 (by omega) (by omega)
                          · refine kw_iload (pc := 115) (i := 62) (k := 3) (n := 6) rfl rfl ?_
                            refine kw_iload_n (pc := 117) (i := 63) (k := 8) (n := 1) rfl rfl rfl ?_
                            refine kw_iconst (pc := 118) (i := 64) (v := 1) rfl rfl ?_
                            refine kw_icmp_le (pc := 119) (i := 65) (tgt := 135) rfl rfl (fun c56 => ?_) (fun c56 => ?_)
                            · refine kw_iconst (pc := 135) (i := 73) (v := 0) rfl rfl ?_
                              refine kw_iadd (pc := 136) (i := 74) rfl (fun z57 e_z57 t_z57 => ?_)
                              first | (have u_z57 : z57.toInt = z18.toInt + 0 := (by omega); clear t_z57) | skip
                              refine kw_istore (pc := 137) (i := 75) (n := 10) (lv' := [(10, .int z57), (9, .int x42), (8, .int 1), (7, .int z22), (6, .int z18), (5, .int x3), (4, .int x43), (3, .int z2), (0, .ref 0), (1, .int 1), (2, .int t)]) rfl (by decide) rfl ?_
                              refine kw_iload (pc := 139) (i := 76) (k := 3) (n := 7) rfl rfl ?_
                              refine kw_iload_n (pc := 141) (i := 77) (k := 9) (n := 1) rfl rfl rfl ?_
                              refine kw_iconst (pc := 142) (i := 78) (v := 1) rfl rfl ?_
                              refine kw_icmp_le (pc := 143) (i := 79) (tgt := 159) rfl rfl (fun c58 => ?_) (fun c58 => ?_)
                              · refine kw_iconst (pc := 159) (i := 87) (v := 0) rfl rfl ?_
                                refine kw_iadd (pc := 160) (i := 88) rfl (fun z59 e_z59 t_z59 => ?_)
                                first | (have u_z59 : z59.toInt = z22.toInt + 0 := (by omega); clear t_z59) | skip
                                refine kw_istore (pc := 161) (i := 89) (n := 11) (lv' := [(11, .int z59), (10, .int z57), (9, .int x42), (8, .int 1), (7, .int z22), (6, .int z18), (5, .int x3), (4, .int x43), (3, .int z2), (0, .ref 0), (1, .int 1), (2, .int t)]) rfl (by decide) rfl ?_
                                refine kw_iload_n (pc := 163) (i := 90) (k := 10) (n := 1) rfl rfl rfl ?_
                                refine kw_iconst (pc := 164) (i := 91) (v := 2) rfl rfl ?_
                                refine kw_icmp_lt (pc := 165) (i := 92) (tgt := 177) rfl rfl (fun c60 => ?_) (fun c60 => ?_)
                                · refine kw_iconst (pc := 177) (i := 97) (v := 1) rfl rfl ?_
                                  refine kw_goto (pc := 178) (i := 98) (tgt := 182) rfl rfl ?_
                                  refine kw_istore (pc := 182) (i := 100) (n := 12) (lv' := [(12, .int 1), (11, .int z59), (10, .int z57), (9, .int x42), (8, .int 1), (7, .int z22), (6, .int z18), (5, .int x3), (4, .int x43), (3, .int z2), (0, .ref 0), (1, .int 1), (2, .int t)]) rfl (by decide) rfl ?_
                                  refine kw_iconst (pc := 184) (i := 101) (v := 0) rfl rfl ?_
                                  refine kw_istore (pc := 185) (i := 102) (n := 13) (lv' := [(13, .int 0), (12, .int 1), (11, .int z59), (10, .int z57), (9, .int x42), (8, .int 1), (7, .int z22), (6, .int z18), (5, .int x3), (4, .int x43), (3, .int z2), (0, .ref 0), (1, .int 1), (2, .int t)]) rfl (by decide) rfl ?_
                                  have L66 : ∀ (n70 : Nat) (x61 : Int32) (x62 : Int32) (S63 : kw_S), kw_I (bM T) S63 → kw_F [20] σ S63 → 0 ≤ x61.toInt → (65 - x61.toInt).toNat < n70 → kw_AW l 2 kw_E0 KM mX8_farBy (p_X8_farByvn1_0 T σ t) 187 [(13, .int x61), (12, .int 1), (11, .int z59), (10, .int z57), (9, .int x42), (8, .int 1), (7, .int z22), (6, .int z18), (5, .int x3), (4, .int x62), (3, .int z2), (0, .ref 0), (1, .int 1), (2, .int t)] [] S63 := by
                                    intro n70
                                    induction n70 with
                                    | zero => intro x61 x62 S63 I64 F65 v68 m69; exact absurd m69 (Nat.not_lt_zero _)
                                    | succ n70 ih67 =>
                                      intro x61 x62 S63 I64 F65 v68 m69
                                      have r_x61 := kw_rng x61
                                      have r_x62 := kw_rng x62
                                      refine kw_iload (pc := 187) (i := 103) (k := 1) (n := 12) rfl rfl ?_
                                      refine kw_if_eq (pc := 189) (i := 104) (tgt := 312) rfl rfl (fun c71 => ?_) (fun c71 => ?_)
                                      · exfalso; omega
                                      · refine kw_iload (pc := 192) (i := 105) (k := 0) (n := 13) rfl rfl ?_
                                        refine kw_iload_n (pc := 194) (i := 106) (k := 12) (n := 1) rfl rfl rfl ?_
                                        refine kw_iconst (pc := 195) (i := 107) (v := 2) rfl rfl ?_
                                        refine kw_icmp_le (pc := 196) (i := 108) (tgt := 203) rfl rfl (fun c72 => ?_) (fun c72 => ?_)
                                        · refine kw_iconst (pc := 203) (i := 111) (v := 1) rfl rfl ?_
                                          refine kw_icmp_ge (pc := 204) (i := 112) (tgt := 312) rfl rfl (fun c73 => ?_) (fun c73 => ?_)
                                          · refine kw_iinc' (pc := 312) (i := 170) (k := 4) (fun z => [(9, .int z), (13, .int x61), (12, .int 1), (11, .int z59), (10, .int z57), (8, .int 1), (7, .int z22), (6, .int z18), (5, .int x3), (4, .int x62), (3, .int z2), (0, .ref 0), (1, .int 1), (2, .int t)]) rfl rfl (by decide) rfl (fun _ => rfl) (fun z74 e_z74 t_z74 => ?_)
                                            first | (have u_z74 : z74.toInt = x42.toInt + 1 := (by omega); clear t_z74) | skip
                                            refine kw_goto (pc := 315) (i := 171) (tgt := 95) rfl rfl ?_
                                            refine kw_sub (lv' := [(9, .int z74), (8, .int 1), (7, .int z22), (6, .int z18), (5, .int x3), (4, .int x62), (3, .int z2), (0, .ref 0), (1, .int 1), (2, .int t)]) [0, 5, 6, 7, 8, 9, 10, 11, 12, 13] rfl ?_
                                            exact ih48 z74 x62 S63 I64 F65 (by omega) (by omega)
                                          · refine kw_iload (pc := 207) (i := 113) (k := 3) (n := 10) rfl rfl ?_
                                            refine kw_iload_n (pc := 209) (i := 114) (k := 12) (n := 1) rfl rfl rfl ?_
                                            refine kw_iconst (pc := 210) (i := 115) (v := 2) rfl rfl ?_
                                            refine kw_icmp_le (pc := 211) (i := 116) (tgt := 228) rfl rfl (fun c75 => ?_) (fun c75 => ?_)
                                            · refine kw_iconst (pc := 228) (i := 124) (v := 0) rfl rfl ?_
                                              refine kw_iadd (pc := 229) (i := 125) rfl (fun z76 e_z76 t_z76 => ?_)
                                              first | (have u_z76 : z76.toInt = z57.toInt + 0 := (by omega); clear t_z76) | skip
                                              refine kw_istore (pc := 230) (i := 126) (n := 14) (lv' := [(14, .int z76), (13, .int x61), (12, .int 1), (11, .int z59), (10, .int z57), (9, .int x42), (8, .int 1), (7, .int z22), (6, .int z18), (5, .int x3), (4, .int x62), (3, .int z2), (0, .ref 0), (1, .int 1), (2, .int t)]) rfl (by decide) rfl ?_
                                              refine kw_iload (pc := 232) (i := 127) (k := 3) (n := 11) rfl rfl ?_
                                              refine kw_iload_n (pc := 234) (i := 128) (k := 13) (n := 1) rfl rfl rfl ?_
                                              refine kw_iconst (pc := 235) (i := 129) (v := 2) rfl rfl ?_
                                              refine kw_icmp_le (pc := 236) (i := 130) (tgt := 253) rfl rfl (fun c77 => ?_) (fun c77 => ?_)
                                              · refine kw_iconst (pc := 253) (i := 138) (v := 0) rfl rfl ?_
                                                refine kw_iadd (pc := 254) (i := 139) rfl (fun z78 e_z78 t_z78 => ?_)
                                                first | (have u_z78 : z78.toInt = z59.toInt + 0 := (by omega); clear t_z78) | skip
                                                refine kw_istore (pc := 255) (i := 140) (n := 15) (lv' := [(15, .int z78), (14, .int z76), (13, .int x61), (12, .int 1), (11, .int z59), (10, .int z57), (9, .int x42), (8, .int 1), (7, .int z22), (6, .int z18), (5, .int x3), (4, .int x62), (3, .int z2), (0, .ref 0), (1, .int 1), (2, .int t)]) rfl (by decide) rfl ?_
                                                refine kw_iload_n (pc := 257) (i := 141) (k := 14) (n := 1) rfl rfl rfl ?_
                                                refine kw_iconst (pc := 258) (i := 142) (v := 3) rfl rfl ?_
                                                refine kw_icmp_lt (pc := 259) (i := 143) (tgt := 271) rfl rfl (fun c79 => ?_) (fun c79 => ?_)
                                                · refine kw_iload (pc := 271) (i := 148) (k := 0) (n := 15) rfl rfl ?_
                                                  refine kw_iload (pc := 273) (i := 149) (k := 11) (n := 4) rfl rfl ?_
                                                  refine kw_icmp_le (pc := 275) (i := 150) (tgt := 306) rfl rfl (fun c80 => ?_) (fun c80 => ?_)
                                                  · refine kw_iinc' (pc := 306) (i := 168) (k := 2) (fun z => [(13, .int z), (15, .int z78), (14, .int z76), (12, .int 1), (11, .int z59), (10, .int z57), (9, .int x42), (8, .int 1), (7, .int z22), (6, .int z18), (5, .int x3), (4, .int x62), (3, .int z2), (0, .ref 0), (1, .int 1), (2, .int t)]) rfl rfl (by decide) rfl (fun _ => rfl) (fun z81 e_z81 t_z81 => ?_)
                                                    first | (have u_z81 : z81.toInt = x61.toInt + 1 := (by omega); clear t_z81) | skip
                                                    refine kw_goto (pc := 309) (i := 169) (tgt := 187) rfl rfl ?_
                                                    refine kw_sub (lv' := [(13, .int z81), (12, .int 1), (11, .int z59), (10, .int z57), (9, .int x42), (8, .int 1), (7, .int z22), (6, .int z18), (5, .int x3), (4, .int x62), (3, .int z2), (0, .ref 0), (1, .int 1), (2, .int t)]) [0, 3, 4, 5, 6, 7, 8, 9, 10, 11, 12, 13, 14, 15] rfl ?_
                                                    exact ih67 z81 x62 S63 I64 F65 (by omega) (by omega)
                                                  · refine kw_iload (pc := 278) (i := 151) (k := 0) (n := 15) rfl rfl ?_
                                                    refine kw_istore (pc := 280) (i := 152) (n := 4) (lv' := [(4, .int z78), (15, .int z78), (14, .int z76), (13, .int x61), (12, .int 1), (11, .int z59), (10, .int z57), (9, .int x42), (8, .int 1), (7, .int z22), (6, .int z18), (5, .int x3), (3, .int z2), (0, .ref 0), (1, .int 1), (2, .int t)]) rfl (by decide) rfl ?_
                                                    refine kw_aload_n (pc := 282) (i := 153) (k := 13) (n := 0) rfl rfl rfl ?_
                                                    refine kw_get (pc := 283) (i := 154) (v := .ref 20) rfl rfl rfl lkX8_75 (fun _ => rfl) ?_
                                                    refine kw_iconst (pc := 286) (i := 155) (v := 0) rfl rfl ?_
                                                    refine kw_iload (pc := 287) (i := 156) (k := 11) (n := 5) rfl rfl ?_
                                                    refine kw_iast (pc := 289) (i := 157) (n := 3) rfl rfl (by omega) (by omega) ?_
                                                    have I82 : kw_I (bM T) (kw_ui S63 20 ((0 : Int32).toNatClampNeg) x3) := kw_I_ui I64 (kw_rng x3).1 (Int.le_of_lt_add_one (kw_rng x3).2)
                                                    have F83 : kw_F [20] σ (kw_ui S63 20 ((0 : Int32).toNatClampNeg) x3) := kw_F_ui F65 (by decide)
                                                    refine kw_aload_n (pc := 290) (i := 158) (k := 13) (n := 0) rfl rfl rfl ?_
                                                    refine kw_get (pc := 291) (i := 159) (v := .ref 20) rfl rfl rfl lkX8_75 (fun _ => rfl) ?_
                                                    refine kw_iconst (pc := 294) (i := 160) (v := 1) rfl rfl ?_
                                                    refine kw_iload (pc := 295) (i := 161) (k := 7) (n := 9) rfl rfl ?_
                                                    refine kw_iast (pc := 297) (i := 162) (n := 3) rfl rfl (by omega) (by omega) ?_
                                                    have I84 : kw_I (bM T) (kw_ui (kw_ui S63 20 ((0 : Int32).toNatClampNeg) x3) 20 ((1 : Int32).toNatClampNeg) x42) := kw_I_ui I82 (kw_rng x42).1 (Int.le_of_lt_add_one (kw_rng x42).2)
                                                    have F85 : kw_F [20] σ (kw_ui (kw_ui S63 20 ((0 : Int32).toNatClampNeg) x3) 20 ((1 : Int32).toNatClampNeg) x42) := kw_F_ui F83 (by decide)
                                                    refine kw_aload_n (pc := 298) (i := 163) (k := 13) (n := 0) rfl rfl rfl ?_
                                                    refine kw_get (pc := 299) (i := 164) (v := .ref 20) rfl rfl rfl lkX8_75 (fun _ => rfl) ?_
                                                    refine kw_iconst (pc := 302) (i := 165) (v := 2) rfl rfl ?_
                                                    refine kw_iload (pc := 303) (i := 166) (k := 3) (n := 13) rfl rfl ?_
                                                    refine kw_iast (pc := 305) (i := 167) (n := 3) rfl rfl (by omega) (by omega) ?_
                                                    have I86 : kw_I (bM T) (kw_ui (kw_ui (kw_ui S63 20 ((0 : Int32).toNatClampNeg) x3) 20 ((1 : Int32).toNatClampNeg) x42) 20 ((2 : Int32).toNatClampNeg) x61) := kw_I_ui I84 (kw_rng x61).1 (Int.le_of_lt_add_one (kw_rng x61).2)
                                                    have F87 : kw_F [20] σ (kw_ui (kw_ui (kw_ui S63 20 ((0 : Int32).toNatClampNeg) x3) 20 ((1 : Int32).toNatClampNeg) x42) 20 ((2 : Int32).toNatClampNeg) x61) := kw_F_ui F85 (by decide)
                                                    refine kw_iinc' (pc := 306) (i := 168) (k := 3) (fun z => [(13, .int z), (4, .int z78), (15, .int z78), (14, .int z76), (12, .int 1), (11, .int z59), (10, .int z57), (9, .int x42), (8, .int 1), (7, .int z22), (6, .int z18), (5, .int x3), (3, .int z2), (0, .ref 0), (1, .int 1), (2, .int t)]) rfl rfl (by decide) rfl (fun _ => rfl) (fun z88 e_z88 t_z88 => ?_)
                                                    first | (have u_z88 : z88.toInt = x61.toInt + 1 := (by omega); clear t_z88) | skip
                                                    refine kw_goto (pc := 309) (i := 169) (tgt := 187) rfl rfl ?_
                                                    refine kw_sub (lv' := [(13, .int z88), (12, .int 1), (11, .int z59), (10, .int z57), (9, .int x42), (8, .int 1), (7, .int z22), (6, .int z18), (5, .int x3), (4, .int z78), (3, .int z2), (0, .ref 0), (1, .int 1), (2, .int t)]) [0, 4, 5, 6, 7, 8, 9, 10, 11, 1, 12, 13, 14, 15] rfl ?_
                                                    exact ih67 z88 z78 (kw_ui (kw_ui (kw_ui S63 20 ((0 : Int32).toNatClampNeg) x3) 20 ((1 : Int32).toNatClampNeg) x42) 20 ((2 : Int32).toNatClampNeg) x61) I86 F87 (by omega) (by omega)
                                                · exfalso; omega
                                              · exfalso; omega
                                            · exfalso; omega
                                        · exfalso; omega
                                  exact L66 _ 0 x43 S44 I45 F46 (by omega) (Nat.lt_succ_self _)
                                · exfalso; omega
                              · exfalso; omega
                            · exfalso; omega
                        · exfalso; omega
                  exact L47 _ 0 x4 S5 I6 F7 (by omega) (Nat.lt_succ_self _)
  exact L8 _ 0 (-1048576) σ hI hF0 (by omega) (Nat.lt_succ_self _)
abbrev p_X8_farByvn2_0 (T : Int) (σ : kw_S) (t : Int32) : Option Value → kw_S → Prop := fun vv σ' => (kw_I (bM T) σ' ∧ kw_F [20] σ σ') ∧ ∃ r : Int32, vv = some (.int r)
set_option maxRecDepth 100000 in
set_option maxHeartbeats 4000000 in
theorem c_X8_farByvn2_0 (l : Launch) (T : Int) (hT0 : 0 ≤ T) (hT1 : T ≤ 3000) (σ : kw_S) (hI : kw_I (bM T) σ) (t : Int32) : kw_Met l 2 KM mX8_farBy [.ref 0, .int 2, .int t] σ (p_X8_farByvn2_0 T σ t) := by
  have r_t := kw_rng t
  have hF0 : kw_F [20] σ σ := kw_F.rf
  have q_m1048576 : (-1048576 : Int32).toInt = -1048576 := rfl
  have q_0 : (0 : Int32).toInt = 0 := rfl
  have q_1 : (1 : Int32).toInt = 1 := rfl
  have q_2 : (2 : Int32).toInt = 2 := rfl
  have q_3 : (3 : Int32).toInt = 3 := rfl
  have q_64 : (64 : Int32).toInt = 64 := rfl
  refine kw_Met.of (by decide) rfl tX8_farBy (Nat.le_of_ble_eq_true rfl) ?_
  show kw_AW l 2 kw_E0 KM mX8_farBy (p_X8_farByvn2_0 T σ t) 0 [(0, .ref 0), (1, .int 2), (2, .int t)] [] σ
  refine kw_iconst (pc := 0) (i := 0) (v := 1) rfl rfl ?_
  refine kw_aload_n (pc := 1) (i := 1) (k := 0) (n := 0) rfl rfl rfl ?_
  refine kw_get (pc := 2) (i := 2) (v := .int (σ.1 0 10)) rfl rfl rfl lkX8_163 (fun _ => rfl) ?_
  have b1 : 0 ≤ (σ.1 0 10).toInt ∧ (σ.1 0 10).toInt ≤ 6 := hI 0 10
  refine kw_ishl (pc := 5) (i := 3) rfl (fun z2 e_z2 => ?_)
  have r_z2 := kw_rng z2
  have t_z2 := kw_shlm (σ.1 0 10) z2 e_z2
  have u_z2 := congrArg Int32.toInt e_z2
  refine kw_istore_n (pc := 6) (i := 4) (n := 3) (lv' := [(3, .int z2), (0, .ref 0), (1, .int 2), (2, .int t)]) rfl rfl (by decide) rfl ?_
  refine kw_ldc (pc := 7) (i := 5) (v := (-1048576)) rfl ckX8_255 ?_
  refine kw_istore (pc := 9) (i := 6) (n := 4) (lv' := [(4, .int (-1048576)), (3, .int z2), (0, .ref 0), (1, .int 2), (2, .int t)]) rfl (by decide) rfl ?_
  refine kw_iconst (pc := 11) (i := 7) (v := 0) rfl rfl ?_
  refine kw_istore (pc := 12) (i := 8) (n := 5) (lv' := [(5, .int 0), (4, .int (-1048576)), (3, .int z2), (0, .ref 0), (1, .int 2), (2, .int t)]) rfl (by decide) rfl ?_
  have L8 : ∀ (n12 : Nat) (x3 : Int32) (x4 : Int32) (S5 : kw_S), kw_I (bM T) S5 → kw_F [20] σ S5 → 0 ≤ x3.toInt → (65 - x3.toInt).toNat < n12 → kw_AW l 2 kw_E0 KM mX8_farBy (p_X8_farByvn2_0 T σ t) 14 [(5, .int x3), (4, .int x4), (3, .int z2), (0, .ref 0), (1, .int 2), (2, .int t)] [] S5 := by
    intro n12
    induction n12 with
    | zero => intro x3 x4 S5 I6 F7 v10 m11; exact absurd m11 (Nat.not_lt_zero _)
    | succ n12 ih9 =>
      intro x3 x4 S5 I6 F7 v10 m11
      have r_x3 := kw_rng x3
      have r_x4 := kw_rng x4
      refine kw_iload (pc := 14) (i := 9) (k := 0) (n := 5) rfl rfl ?_
      refine kw_iload_n (pc := 16) (i := 10) (k := 4) (n := 1) rfl rfl rfl ?_
      refine kw_if_le (pc := 17) (i := 11) (tgt := 24) rfl rfl (fun c13 => ?_) (fun c13 => ?_)
      · exfalso; omega
      · refine kw_iload_n (pc := 20) (i := 12) (k := 2) (n := 3) rfl rfl rfl ?_
        refine kw_goto (pc := 21) (i := 13) (tgt := 25) rfl rfl ?_
        refine kw_icmp_ge (pc := 25) (i := 15) (tgt := 324) rfl rfl (fun c14 => ?_) (fun c14 => ?_)
        · refine kw_iload (pc := 324) (i := 174) (k := 1) (n := 4) rfl rfl ?_
          exact kw_ireturn (pc := 326) (i := 175) (ty := .int) rfl rfl rfl ⟨⟨I6, F7⟩, _, rfl⟩
        · refine kw_aload_n (pc := 28) (i := 16) (k := 3) (n := 0) rfl rfl rfl ?_
          refine kw_get (pc := 29) (i := 17) (v := .int (S5.1 0 24)) rfl rfl rfl lkX8_172 (fun _ => rfl) ?_
          have b15 := kw_rng (S5.1 0 24)
          refine kw_iload_n (pc := 32) (i := 18) (k := 4) (n := 1) rfl rfl rfl ?_
          refine kw_if_le (pc := 33) (i := 19) (tgt := 46) rfl rfl (fun c16 => ?_) (fun c16 => ?_)
          · exfalso; omega
          · refine kw_aload_n (pc := 36) (i := 20) (k := 3) (n := 0) rfl rfl rfl ?_
            refine kw_get (pc := 37) (i := 21) (v := .ref 19) rfl rfl rfl lkX8_72 (fun _ => rfl) ?_
            refine kw_iload (pc := 40) (i := 22) (k := 0) (n := 5) rfl rfl ?_
            refine kw_iald (pc := 42) (i := 23) (n := 192) rfl rfl (by omega) (by omega) (fun z17 e_z17 => ?_)
            have t_z17 := congrArg Int32.toInt e_z17
            have r_z17 := kw_rng z17
            refine kw_goto (pc := 43) (i := 24) (tgt := 47) rfl rfl ?_
            refine kw_iadd (pc := 47) (i := 26) rfl (fun z18 e_z18 t_z18 => ?_)
            first | (have u_z18 : z18.toInt = (S5.1 0 24).toInt + z17.toInt := (by omega); clear t_z18) | skip
            refine kw_istore (pc := 48) (i := 27) (n := 6) (lv' := [(6, .int z18), (5, .int x3), (4, .int x4), (3, .int z2), (0, .ref 0), (1, .int 2), (2, .int t)]) rfl (by decide) rfl ?_
            refine kw_aload_n (pc := 50) (i := 28) (k := 4) (n := 0) rfl rfl rfl ?_
            refine kw_get (pc := 51) (i := 29) (v := .int (S5.1 0 23)) rfl rfl rfl lkX8_169 (fun _ => rfl) ?_
            have b19 := kw_rng (S5.1 0 23)
            refine kw_iload_n (pc := 54) (i := 30) (k := 5) (n := 1) rfl rfl rfl ?_
            refine kw_if_le (pc := 55) (i := 31) (tgt := 68) rfl rfl (fun c20 => ?_) (fun c20 => ?_)
            · exfalso; omega
            · refine kw_aload_n (pc := 58) (i := 32) (k := 4) (n := 0) rfl rfl rfl ?_
              refine kw_get (pc := 59) (i := 33) (v := .ref 18) rfl rfl rfl lkX8_69 (fun _ => rfl) ?_
              refine kw_iload (pc := 62) (i := 34) (k := 1) (n := 5) rfl rfl ?_
              refine kw_iald (pc := 64) (i := 35) (n := 192) rfl rfl (by omega) (by omega) (fun z21 e_z21 => ?_)
              have t_z21 := congrArg Int32.toInt e_z21
              have r_z21 := kw_rng z21
              refine kw_goto (pc := 65) (i := 36) (tgt := 69) rfl rfl ?_
              refine kw_iadd (pc := 69) (i := 38) rfl (fun z22 e_z22 t_z22 => ?_)
              first | (have u_z22 : z22.toInt = (S5.1 0 23).toInt + z21.toInt := (by omega); clear t_z22) | skip
              refine kw_istore (pc := 70) (i := 39) (n := 7) (lv' := [(7, .int z22), (6, .int z18), (5, .int x3), (4, .int x4), (3, .int z2), (0, .ref 0), (1, .int 2), (2, .int t)]) rfl (by decide) rfl ?_
              refine kw_iload_n (pc := 72) (i := 40) (k := 6) (n := 1) rfl rfl rfl ?_
              refine kw_if_eq (pc := 73) (i := 41) (tgt := 85) rfl rfl (fun c23 => ?_) (fun c23 => ?_)
              · exfalso; omega
              · refine kw_iload (pc := 76) (i := 42) (k := 1) (n := 6) rfl rfl ?_
                refine kw_iload_n (pc := 78) (i := 43) (k := 7) (n := 2) rfl rfl rfl ?_
                refine kw_callS (pc := 79) (i := 44) (Y := mX8_isTurn) (As := [.int z18, .int t]) (st := []) kw_hE rfl lsX8_256 arX8_isTurn (c_X8_isTurn l T (by omega) (by omega) S5 I6 z18 t ) (by decide) (Nat.le_of_ble_eq_true rfl) rfl (fun v S25 p24 => ?_)
                obtain ⟨e28, z27, rfl, f26⟩ := p24
                rw [e28]
                have r_z27 := kw_rng z27
                show kw_AW l 2 kw_E0 KM mX8_farBy (p_X8_farByvn2_0 T σ t) 82 [(7, .int z22), (6, .int z18), (5, .int x3), (4, .int x4), (3, .int z2), (0, .ref 0), (1, .int 2), (2, .int t)] [.int z27] S5
                refine kw_if_eq (pc := 82) (i := 45) (tgt := 89) rfl rfl (fun c29 => ?_) (fun c29 => ?_)
                · refine kw_iconst (pc := 89) (i := 48) (v := 0) rfl rfl ?_
                  refine kw_istore (pc := 90) (i := 49) (n := 8) (lv' := [(8, .int 0), (7, .int z22), (6, .int z18), (5, .int x3), (4, .int x4), (3, .int z2), (0, .ref 0), (1, .int 2), (2, .int t)]) rfl (by decide) rfl ?_
                  refine kw_iconst (pc := 92) (i := 50) (v := 0) rfl rfl ?_
                  refine kw_istore (pc := 93) (i := 51) (n := 9) (lv' := [(9, .int 0), (8, .int 0), (7, .int z22), (6, .int z18), (5, .int x3), (4, .int x4), (3, .int z2), (0, .ref 0), (1, .int 2), (2, .int t)]) rfl (by decide) rfl ?_
                  have L35 : ∀ (n39 : Nat) (x30 : Int32) (x31 : Int32) (S32 : kw_S), kw_I (bM T) S32 → kw_F [20] σ S32 → 0 ≤ x30.toInt → (65 - x30.toInt).toNat < n39 → kw_AW l 2 kw_E0 KM mX8_farBy (p_X8_farByvn2_0 T σ t) 95 [(9, .int x30), (8, .int 0), (7, .int z22), (6, .int z18), (5, .int x3), (4, .int x31), (3, .int z2), (0, .ref 0), (1, .int 2), (2, .int t)] [] S32 := by
                    intro n39
                    induction n39 with
                    | zero => intro x30 x31 S32 I33 F34 v37 m38; exact absurd m38 (Nat.not_lt_zero _)
                    | succ n39 ih36 =>
                      intro x30 x31 S32 I33 F34 v37 m38
                      have r_x30 := kw_rng x30
                      have r_x31 := kw_rng x31
                      refine kw_iload (pc := 95) (i := 52) (k := 1) (n := 8) rfl rfl ?_
                      refine kw_if_eq (pc := 97) (i := 53) (tgt := 318) rfl rfl (fun c40 => ?_) (fun c40 => ?_)
                      · refine kw_iinc' (pc := 318) (i := 172) (k := 4) (fun z => [(5, .int z), (9, .int x30), (8, .int 0), (7, .int z22), (6, .int z18), (4, .int x31), (3, .int z2), (0, .ref 0), (1, .int 2), (2, .int t)]) rfl rfl (by decide) rfl (fun _ => rfl) (fun z41 e_z41 t_z41 => ?_)
                        first | (have u_z41 : z41.toInt = x3.toInt + 1 := (by omega); clear t_z41) | skip
                        refine kw_goto (pc := 321) (i := 173) (tgt := 14) rfl rfl ?_
                        refine kw_sub (lv' := [(5, .int z41), (4, .int x31), (3, .int z2), (0, .ref 0), (1, .int 2), (2, .int t)]) [0, 5, 6, 7, 8, 9] rfl ?_
                        exact ih9 z41 x31 S32 I33 F34 (by omega) (by omega)
                      · exfalso; omega
                  exact L35 _ 0 x4 S5 I6 F7 (by omega) (Nat.lt_succ_self _)
                · refine kw_iconst (pc := 85) (i := 46) (v := 1) rfl rfl ?_
                  refine kw_goto (pc := 86) (i := 47) (tgt := 90) rfl rfl ?_
                  refine kw_istore (pc := 90) (i := 49) (n := 8) (lv' := [(8, .int 1), (7, .int z22), (6, .int z18), (5, .int x3), (4, .int x4), (3, .int z2), (0, .ref 0), (1, .int 2), (2, .int t)]) rfl (by decide) rfl ?_
                  refine kw_iconst (pc := 92) (i := 50) (v := 0) rfl rfl ?_
                  refine kw_istore (pc := 93) (i := 51) (n := 9) (lv' := [(9, .int 0), (8, .int 1), (7, .int z22), (6, .int z18), (5, .int x3), (4, .int x4), (3, .int z2), (0, .ref 0), (1, .int 2), (2, .int t)]) rfl (by decide) rfl ?_
                  have L47 : ∀ (n51 : Nat) (x42 : Int32) (x43 : Int32) (S44 : kw_S), kw_I (bM T) S44 → kw_F [20] σ S44 → 0 ≤ x42.toInt → (65 - x42.toInt).toNat < n51 → kw_AW l 2 kw_E0 KM mX8_farBy (p_X8_farByvn2_0 T σ t) 95 [(9, .int x42), (8, .int 1), (7, .int z22), (6, .int z18), (5, .int x3), (4, .int x43), (3, .int z2), (0, .ref 0), (1, .int 2), (2, .int t)] [] S44 := by
                    intro n51
                    induction n51 with
                    | zero => intro x42 x43 S44 I45 F46 v49 m50; exact absurd m50 (Nat.not_lt_zero _)
                    | succ n51 ih48 =>
                      intro x42 x43 S44 I45 F46 v49 m50
                      have r_x42 := kw_rng x42
                      have r_x43 := kw_rng x43
                      refine kw_iload (pc := 95) (i := 52) (k := 1) (n := 8) rfl rfl ?_
                      refine kw_if_eq (pc := 97) (i := 53) (tgt := 318) rfl rfl (fun c52 => ?_) (fun c52 => ?_)
                      · exfalso; omega
                      · refine kw_iload (pc := 100) (i := 54) (k := 0) (n := 9) rfl rfl ?_
                        refine kw_iload_n (pc := 102) (i := 55) (k := 8) (n := 1) rfl rfl rfl ?_
                        refine kw_iconst (pc := 103) (i := 56) (v := 1) rfl rfl ?_
                        refine kw_icmp_le (pc := 104) (i := 57) (tgt := 111) rfl rfl (fun c53 => ?_) (fun c53 => ?_)
                        · exfalso; omega
                        · refine kw_iload_n (pc := 107) (i := 58) (k := 6) (n := 3) rfl rfl rfl ?_
                          refine kw_goto (pc := 108) (i := 59) (tgt := 112) rfl rfl ?_
                          refine kw_icmp_ge (pc := 112) (i := 61) (tgt := 318) rfl rfl (fun c54 => ?_) (fun c54 => ?_)
                          · refine kw_iinc' (pc := 318) (i := 172) (k := 4) (fun z => [(5, .int z), (9, .int x42), (8, .int 1), (7, .int z22), (6, .int z18), (4, .int x43), (3, .int z2), (0, .ref 0), (1, .int 2), (2, .int t)]) rfl rfl (by decide) rfl (fun _ => rfl) (fun z55 e_z55 t_z55 => ?_)
                            first | (have u_z55 : z55.toInt = x3.toInt + 1 := (by omega); clear t_z55) | skip
                            refine kw_goto (pc := 321) (i := 173) (tgt := 14) rfl rfl ?_
                            refine kw_sub (lv' := [(5, .int z55), (4, .int x43), (3, .int z2), (0, .ref 0), (1, .int 2), (2, .int t)]) [0, 5, 6, 7, 8, 9] rfl ?_
                            exact ih9 z55 x43 S44 I45 F46 (by omega) (by omega)
                          · refine kw_iload (pc := 115) (i := 62) (k := 3) (n := 6) rfl rfl ?_
                            refine kw_iload_n (pc := 117) (i := 63) (k := 8) (n := 1) rfl rfl rfl ?_
                            refine kw_iconst (pc := 118) (i := 64) (v := 1) rfl rfl ?_
                            refine kw_icmp_le (pc := 119) (i := 65) (tgt := 135) rfl rfl (fun c56 => ?_) (fun c56 => ?_)
                            · exfalso; omega
                            · refine kw_aload_n (pc := 122) (i := 66) (k := 7) (n := 0) rfl rfl rfl ?_
                              refine kw_get (pc := 123) (i := 67) (v := .ref 19) rfl rfl rfl lkX8_72 (fun _ => rfl) ?_
                              refine kw_bipush (pc := 126) (i := 68) (v := 64) rfl rfl ?_
                              refine kw_iload (pc := 128) (i := 69) (k := 0) (n := 9) rfl rfl ?_
                              refine kw_iadd (pc := 130) (i := 70) rfl (fun z57 e_z57 t_z57 => ?_)
                              first | (have u_z57 : z57.toInt = 64 + x42.toInt := (by omega); clear t_z57) | skip
                              refine kw_iald (pc := 131) (i := 71) (n := 192) rfl rfl (by omega) (by omega) (fun z58 e_z58 => ?_)
                              have t_z58 := congrArg Int32.toInt e_z58
                              have r_z58 := kw_rng z58
                              refine kw_goto (pc := 132) (i := 72) (tgt := 136) rfl rfl ?_
                              refine kw_iadd (pc := 136) (i := 74) rfl (fun z59 e_z59 t_z59 => ?_)
                              first | (have u_z59 : z59.toInt = z18.toInt + z58.toInt := (by omega); clear t_z59) | skip
                              refine kw_istore (pc := 137) (i := 75) (n := 10) (lv' := [(10, .int z59), (9, .int x42), (8, .int 1), (7, .int z22), (6, .int z18), (5, .int x3), (4, .int x43), (3, .int z2), (0, .ref 0), (1, .int 2), (2, .int t)]) rfl (by decide) rfl ?_
                              refine kw_iload (pc := 139) (i := 76) (k := 3) (n := 7) rfl rfl ?_
                              refine kw_iload_n (pc := 141) (i := 77) (k := 9) (n := 1) rfl rfl rfl ?_
                              refine kw_iconst (pc := 142) (i := 78) (v := 1) rfl rfl ?_
                              refine kw_icmp_le (pc := 143) (i := 79) (tgt := 159) rfl rfl (fun c60 => ?_) (fun c60 => ?_)
                              · exfalso; omega
                              · refine kw_aload_n (pc := 146) (i := 80) (k := 8) (n := 0) rfl rfl rfl ?_
                                refine kw_get (pc := 147) (i := 81) (v := .ref 18) rfl rfl rfl lkX8_69 (fun _ => rfl) ?_
                                refine kw_bipush (pc := 150) (i := 82) (v := 64) rfl rfl ?_
                                refine kw_iload (pc := 152) (i := 83) (k := 1) (n := 9) rfl rfl ?_
                                refine kw_iadd (pc := 154) (i := 84) rfl (fun z61 e_z61 t_z61 => ?_)
                                first | (have u_z61 : z61.toInt = 64 + x42.toInt := (by omega); clear t_z61) | skip
                                refine kw_iald (pc := 155) (i := 85) (n := 192) rfl rfl (by omega) (by omega) (fun z62 e_z62 => ?_)
                                have t_z62 := congrArg Int32.toInt e_z62
                                have r_z62 := kw_rng z62
                                refine kw_goto (pc := 156) (i := 86) (tgt := 160) rfl rfl ?_
                                refine kw_iadd (pc := 160) (i := 88) rfl (fun z63 e_z63 t_z63 => ?_)
                                first | (have u_z63 : z63.toInt = z22.toInt + z62.toInt := (by omega); clear t_z63) | skip
                                refine kw_istore (pc := 161) (i := 89) (n := 11) (lv' := [(11, .int z63), (10, .int z59), (9, .int x42), (8, .int 1), (7, .int z22), (6, .int z18), (5, .int x3), (4, .int x43), (3, .int z2), (0, .ref 0), (1, .int 2), (2, .int t)]) rfl (by decide) rfl ?_
                                refine kw_iload_n (pc := 163) (i := 90) (k := 10) (n := 1) rfl rfl rfl ?_
                                refine kw_iconst (pc := 164) (i := 91) (v := 2) rfl rfl ?_
                                refine kw_icmp_lt (pc := 165) (i := 92) (tgt := 177) rfl rfl (fun c64 => ?_) (fun c64 => ?_)
                                · exfalso; omega
                                · refine kw_iload (pc := 168) (i := 93) (k := 1) (n := 10) rfl rfl ?_
                                  refine kw_iload_n (pc := 170) (i := 94) (k := 11) (n := 2) rfl rfl rfl ?_
                                  refine kw_callS (pc := 171) (i := 95) (Y := mX8_isTurn) (As := [.int z59, .int t]) (st := []) kw_hE rfl lsX8_256 arX8_isTurn (c_X8_isTurn l T (by omega) (by omega) S44 I45 z59 t ) (by decide) (Nat.le_of_ble_eq_true rfl) rfl (fun v S66 p65 => ?_)
                                  obtain ⟨e69, z68, rfl, f67⟩ := p65
                                  rw [e69]
                                  have r_z68 := kw_rng z68
                                  show kw_AW l 2 kw_E0 KM mX8_farBy (p_X8_farByvn2_0 T σ t) 174 [(11, .int z63), (10, .int z59), (9, .int x42), (8, .int 1), (7, .int z22), (6, .int z18), (5, .int x3), (4, .int x43), (3, .int z2), (0, .ref 0), (1, .int 2), (2, .int t)] [.int z68] S44
                                  refine kw_if_eq (pc := 174) (i := 96) (tgt := 181) rfl rfl (fun c70 => ?_) (fun c70 => ?_)
                                  · refine kw_iconst (pc := 181) (i := 99) (v := 0) rfl rfl ?_
                                    refine kw_istore (pc := 182) (i := 100) (n := 12) (lv' := [(12, .int 0), (11, .int z63), (10, .int z59), (9, .int x42), (8, .int 1), (7, .int z22), (6, .int z18), (5, .int x3), (4, .int x43), (3, .int z2), (0, .ref 0), (1, .int 2), (2, .int t)]) rfl (by decide) rfl ?_
                                    refine kw_iconst (pc := 184) (i := 101) (v := 0) rfl rfl ?_
                                    refine kw_istore (pc := 185) (i := 102) (n := 13) (lv' := [(13, .int 0), (12, .int 0), (11, .int z63), (10, .int z59), (9, .int x42), (8, .int 1), (7, .int z22), (6, .int z18), (5, .int x3), (4, .int x43), (3, .int z2), (0, .ref 0), (1, .int 2), (2, .int t)]) rfl (by decide) rfl ?_
                                    have L76 : ∀ (n80 : Nat) (x71 : Int32) (x72 : Int32) (S73 : kw_S), kw_I (bM T) S73 → kw_F [20] σ S73 → 0 ≤ x71.toInt → (65 - x71.toInt).toNat < n80 → kw_AW l 2 kw_E0 KM mX8_farBy (p_X8_farByvn2_0 T σ t) 187 [(13, .int x71), (12, .int 0), (11, .int z63), (10, .int z59), (9, .int x42), (8, .int 1), (7, .int z22), (6, .int z18), (5, .int x3), (4, .int x72), (3, .int z2), (0, .ref 0), (1, .int 2), (2, .int t)] [] S73 := by
                                      intro n80
                                      induction n80 with
                                      | zero => intro x71 x72 S73 I74 F75 v78 m79; exact absurd m79 (Nat.not_lt_zero _)
                                      | succ n80 ih77 =>
                                        intro x71 x72 S73 I74 F75 v78 m79
                                        have r_x71 := kw_rng x71
                                        have r_x72 := kw_rng x72
                                        refine kw_iload (pc := 187) (i := 103) (k := 1) (n := 12) rfl rfl ?_
                                        refine kw_if_eq (pc := 189) (i := 104) (tgt := 312) rfl rfl (fun c81 => ?_) (fun c81 => ?_)
                                        · refine kw_iinc' (pc := 312) (i := 170) (k := 4) (fun z => [(9, .int z), (13, .int x71), (12, .int 0), (11, .int z63), (10, .int z59), (8, .int 1), (7, .int z22), (6, .int z18), (5, .int x3), (4, .int x72), (3, .int z2), (0, .ref 0), (1, .int 2), (2, .int t)]) rfl rfl (by decide) rfl (fun _ => rfl) (fun z82 e_z82 t_z82 => ?_)
                                          first | (have u_z82 : z82.toInt = x42.toInt + 1 := (by omega); clear t_z82) | skip
                                          refine kw_goto (pc := 315) (i := 171) (tgt := 95) rfl rfl ?_
                                          refine kw_sub (lv' := [(9, .int z82), (8, .int 1), (7, .int z22), (6, .int z18), (5, .int x3), (4, .int x72), (3, .int z2), (0, .ref 0), (1, .int 2), (2, .int t)]) [0, 5, 6, 7, 8, 9, 10, 11, 12, 13] rfl ?_
                                          exact ih48 z82 x72 S73 I74 F75 (by omega) (by omega)
                                        · exfalso; omega
                                    exact L76 _ 0 x43 S44 I45 F46 (by omega) (Nat.lt_succ_self _)
                                  · refine kw_iconst (pc := 177) (i := 97) (v := 1) rfl rfl ?_
                                    refine kw_goto (pc := 178) (i := 98) (tgt := 182) rfl rfl ?_
                                    refine kw_istore (pc := 182) (i := 100) (n := 12) (lv' := [(12, .int 1), (11, .int z63), (10, .int z59), (9, .int x42), (8, .int 1), (7, .int z22), (6, .int z18), (5, .int x3), (4, .int x43), (3, .int z2), (0, .ref 0), (1, .int 2), (2, .int t)]) rfl (by decide) rfl ?_
                                    refine kw_iconst (pc := 184) (i := 101) (v := 0) rfl rfl ?_
                                    refine kw_istore (pc := 185) (i := 102) (n := 13) (lv' := [(13, .int 0), (12, .int 1), (11, .int z63), (10, .int z59), (9, .int x42), (8, .int 1), (7, .int z22), (6, .int z18), (5, .int x3), (4, .int x43), (3, .int z2), (0, .ref 0), (1, .int 2), (2, .int t)]) rfl (by decide) rfl ?_
                                    have L88 : ∀ (n92 : Nat) (x83 : Int32) (x84 : Int32) (S85 : kw_S), kw_I (bM T) S85 → kw_F [20] σ S85 → 0 ≤ x83.toInt → (65 - x83.toInt).toNat < n92 → kw_AW l 2 kw_E0 KM mX8_farBy (p_X8_farByvn2_0 T σ t) 187 [(13, .int x83), (12, .int 1), (11, .int z63), (10, .int z59), (9, .int x42), (8, .int 1), (7, .int z22), (6, .int z18), (5, .int x3), (4, .int x84), (3, .int z2), (0, .ref 0), (1, .int 2), (2, .int t)] [] S85 := by
                                      intro n92
                                      induction n92 with
                                      | zero => intro x83 x84 S85 I86 F87 v90 m91; exact absurd m91 (Nat.not_lt_zero _)
                                      | succ n92 ih89 =>
                                        intro x83 x84 S85 I86 F87 v90 m91
                                        have r_x83 := kw_rng x83
                                        have r_x84 := kw_rng x84
                                        refine kw_iload (pc := 187) (i := 103) (k := 1) (n := 12) rfl rfl ?_
                                        refine kw_if_eq (pc := 189) (i := 104) (tgt := 312) rfl rfl (fun c93 => ?_) (fun c93 => ?_)
                                        · exfalso; omega
                                        · refine kw_iload (pc := 192) (i := 105) (k := 0) (n := 13) rfl rfl ?_
                                          refine kw_iload_n (pc := 194) (i := 106) (k := 12) (n := 1) rfl rfl rfl ?_
                                          refine kw_iconst (pc := 195) (i := 107) (v := 2) rfl rfl ?_
                                          refine kw_icmp_le (pc := 196) (i := 108) (tgt := 203) rfl rfl (fun c94 => ?_) (fun c94 => ?_)
                                          · refine kw_iconst (pc := 203) (i := 111) (v := 1) rfl rfl ?_
                                            refine kw_icmp_ge (pc := 204) (i := 112) (tgt := 312) rfl rfl (fun c95 => ?_) (fun c95 => ?_)
                                            · refine kw_iinc' (pc := 312) (i := 170) (k := 4) (fun z => [(9, .int z), (13, .int x83), (12, .int 1), (11, .int z63), (10, .int z59), (8, .int 1), (7, .int z22), (6, .int z18), (5, .int x3), (4, .int x84), (3, .int z2), (0, .ref 0), (1, .int 2), (2, .int t)]) rfl rfl (by decide) rfl (fun _ => rfl) (fun z96 e_z96 t_z96 => ?_)
                                              first | (have u_z96 : z96.toInt = x42.toInt + 1 := (by omega); clear t_z96) | skip
                                              refine kw_goto (pc := 315) (i := 171) (tgt := 95) rfl rfl ?_
                                              refine kw_sub (lv' := [(9, .int z96), (8, .int 1), (7, .int z22), (6, .int z18), (5, .int x3), (4, .int x84), (3, .int z2), (0, .ref 0), (1, .int 2), (2, .int t)]) [0, 5, 6, 7, 8, 9, 10, 11, 12, 13] rfl ?_
                                              exact ih48 z96 x84 S85 I86 F87 (by omega) (by omega)
                                            · refine kw_iload (pc := 207) (i := 113) (k := 3) (n := 10) rfl rfl ?_
                                              refine kw_iload_n (pc := 209) (i := 114) (k := 12) (n := 1) rfl rfl rfl ?_
                                              refine kw_iconst (pc := 210) (i := 115) (v := 2) rfl rfl ?_
                                              refine kw_icmp_le (pc := 211) (i := 116) (tgt := 228) rfl rfl (fun c97 => ?_) (fun c97 => ?_)
                                              · refine kw_iconst (pc := 228) (i := 124) (v := 0) rfl rfl ?_
                                                refine kw_iadd (pc := 229) (i := 125) rfl (fun z98 e_z98 t_z98 => ?_)
                                                first | (have u_z98 : z98.toInt = z59.toInt + 0 := (by omega); clear t_z98) | skip
                                                refine kw_istore (pc := 230) (i := 126) (n := 14) (lv' := [(14, .int z98), (13, .int x83), (12, .int 1), (11, .int z63), (10, .int z59), (9, .int x42), (8, .int 1), (7, .int z22), (6, .int z18), (5, .int x3), (4, .int x84), (3, .int z2), (0, .ref 0), (1, .int 2), (2, .int t)]) rfl (by decide) rfl ?_
                                                refine kw_iload (pc := 232) (i := 127) (k := 3) (n := 11) rfl rfl ?_
                                                refine kw_iload_n (pc := 234) (i := 128) (k := 13) (n := 1) rfl rfl rfl ?_
                                                refine kw_iconst (pc := 235) (i := 129) (v := 2) rfl rfl ?_
                                                refine kw_icmp_le (pc := 236) (i := 130) (tgt := 253) rfl rfl (fun c99 => ?_) (fun c99 => ?_)
                                                · refine kw_iconst (pc := 253) (i := 138) (v := 0) rfl rfl ?_
                                                  refine kw_iadd (pc := 254) (i := 139) rfl (fun z100 e_z100 t_z100 => ?_)
                                                  first | (have u_z100 : z100.toInt = z63.toInt + 0 := (by omega); clear t_z100) | skip
                                                  refine kw_istore (pc := 255) (i := 140) (n := 15) (lv' := [(15, .int z100), (14, .int z98), (13, .int x83), (12, .int 1), (11, .int z63), (10, .int z59), (9, .int x42), (8, .int 1), (7, .int z22), (6, .int z18), (5, .int x3), (4, .int x84), (3, .int z2), (0, .ref 0), (1, .int 2), (2, .int t)]) rfl (by decide) rfl ?_
                                                  refine kw_iload_n (pc := 257) (i := 141) (k := 14) (n := 1) rfl rfl rfl ?_
                                                  refine kw_iconst (pc := 258) (i := 142) (v := 3) rfl rfl ?_
                                                  refine kw_icmp_lt (pc := 259) (i := 143) (tgt := 271) rfl rfl (fun c101 => ?_) (fun c101 => ?_)
                                                  · refine kw_iload (pc := 271) (i := 148) (k := 0) (n := 15) rfl rfl ?_
                                                    refine kw_iload (pc := 273) (i := 149) (k := 11) (n := 4) rfl rfl ?_
                                                    refine kw_icmp_le (pc := 275) (i := 150) (tgt := 306) rfl rfl (fun c102 => ?_) (fun c102 => ?_)
                                                    · refine kw_iinc' (pc := 306) (i := 168) (k := 2) (fun z => [(13, .int z), (15, .int z100), (14, .int z98), (12, .int 1), (11, .int z63), (10, .int z59), (9, .int x42), (8, .int 1), (7, .int z22), (6, .int z18), (5, .int x3), (4, .int x84), (3, .int z2), (0, .ref 0), (1, .int 2), (2, .int t)]) rfl rfl (by decide) rfl (fun _ => rfl) (fun z103 e_z103 t_z103 => ?_)
                                                      first | (have u_z103 : z103.toInt = x83.toInt + 1 := (by omega); clear t_z103) | skip
                                                      refine kw_goto (pc := 309) (i := 169) (tgt := 187) rfl rfl ?_
                                                      refine kw_sub (lv' := [(13, .int z103), (12, .int 1), (11, .int z63), (10, .int z59), (9, .int x42), (8, .int 1), (7, .int z22), (6, .int z18), (5, .int x3), (4, .int x84), (3, .int z2), (0, .ref 0), (1, .int 2), (2, .int t)]) [0, 3, 4, 5, 6, 7, 8, 9, 10, 11, 12, 13, 14, 15] rfl ?_
                                                      exact ih89 z103 x84 S85 I86 F87 (by omega) (by omega)
                                                    · refine kw_iload (pc := 278) (i := 151) (k := 0) (n := 15) rfl rfl ?_
                                                      refine kw_istore (pc := 280) (i := 152) (n := 4) (lv' := [(4, .int z100), (15, .int z100), (14, .int z98), (13, .int x83), (12, .int 1), (11, .int z63), (10, .int z59), (9, .int x42), (8, .int 1), (7, .int z22), (6, .int z18), (5, .int x3), (3, .int z2), (0, .ref 0), (1, .int 2), (2, .int t)]) rfl (by decide) rfl ?_
                                                      refine kw_aload_n (pc := 282) (i := 153) (k := 13) (n := 0) rfl rfl rfl ?_
                                                      refine kw_get (pc := 283) (i := 154) (v := .ref 20) rfl rfl rfl lkX8_75 (fun _ => rfl) ?_
                                                      refine kw_iconst (pc := 286) (i := 155) (v := 0) rfl rfl ?_
                                                      refine kw_iload (pc := 287) (i := 156) (k := 11) (n := 5) rfl rfl ?_
                                                      refine kw_iast (pc := 289) (i := 157) (n := 3) rfl rfl (by omega) (by omega) ?_
                                                      have I104 : kw_I (bM T) (kw_ui S85 20 ((0 : Int32).toNatClampNeg) x3) := kw_I_ui I86 (kw_rng x3).1 (Int.le_of_lt_add_one (kw_rng x3).2)
                                                      have F105 : kw_F [20] σ (kw_ui S85 20 ((0 : Int32).toNatClampNeg) x3) := kw_F_ui F87 (by decide)
                                                      refine kw_aload_n (pc := 290) (i := 158) (k := 13) (n := 0) rfl rfl rfl ?_
                                                      refine kw_get (pc := 291) (i := 159) (v := .ref 20) rfl rfl rfl lkX8_75 (fun _ => rfl) ?_
                                                      refine kw_iconst (pc := 294) (i := 160) (v := 1) rfl rfl ?_
                                                      refine kw_iload (pc := 295) (i := 161) (k := 7) (n := 9) rfl rfl ?_
                                                      refine kw_iast (pc := 297) (i := 162) (n := 3) rfl rfl (by omega) (by omega) ?_
                                                      have I106 : kw_I (bM T) (kw_ui (kw_ui S85 20 ((0 : Int32).toNatClampNeg) x3) 20 ((1 : Int32).toNatClampNeg) x42) := kw_I_ui I104 (kw_rng x42).1 (Int.le_of_lt_add_one (kw_rng x42).2)
                                                      have F107 : kw_F [20] σ (kw_ui (kw_ui S85 20 ((0 : Int32).toNatClampNeg) x3) 20 ((1 : Int32).toNatClampNeg) x42) := kw_F_ui F105 (by decide)
                                                      refine kw_aload_n (pc := 298) (i := 163) (k := 13) (n := 0) rfl rfl rfl ?_
                                                      refine kw_get (pc := 299) (i := 164) (v := .ref 20) rfl rfl rfl lkX8_75 (fun _ => rfl) ?_
                                                      refine kw_iconst (pc := 302) (i := 165) (v := 2) rfl rfl ?_
                                                      refine kw_iload (pc := 303) (i := 166) (k := 3) (n := 13) rfl rfl ?_
                                                      refine kw_iast (pc := 305) (i := 167) (n := 3) rfl rfl (by omega) (by omega) ?_
                                                      have I108 : kw_I (bM T) (kw_ui (kw_ui (kw_ui S85 20 ((0 : Int32).toNatClampNeg) x3) 20 ((1 : Int32).toNatClampNeg) x42) 20 ((2 : Int32).toNatClampNeg) x83) := kw_I_ui I106 (kw_rng x83).1 (Int.le_of_lt_add_one (kw_rng x83).2)
                                                      have F109 : kw_F [20] σ (kw_ui (kw_ui (kw_ui S85 20 ((0 : Int32).toNatClampNeg) x3) 20 ((1 : Int32).toNatClampNeg) x42) 20 ((2 : Int32).toNatClampNeg) x83) := kw_F_ui F107 (by decide)
                                                      refine kw_iinc' (pc := 306) (i := 168) (k := 3) (fun z => [(13, .int z), (4, .int z100), (15, .int z100), (14, .int z98), (12, .int 1), (11, .int z63), (10, .int z59), (9, .int x42), (8, .int 1), (7, .int z22), (6, .int z18), (5, .int x3), (3, .int z2), (0, .ref 0), (1, .int 2), (2, .int t)]) rfl rfl (by decide) rfl (fun _ => rfl) (fun z110 e_z110 t_z110 => ?_)
                                                      first | (have u_z110 : z110.toInt = x83.toInt + 1 := (by omega); clear t_z110) | skip
                                                      refine kw_goto (pc := 309) (i := 169) (tgt := 187) rfl rfl ?_
                                                      refine kw_sub (lv' := [(13, .int z110), (12, .int 1), (11, .int z63), (10, .int z59), (9, .int x42), (8, .int 1), (7, .int z22), (6, .int z18), (5, .int x3), (4, .int z100), (3, .int z2), (0, .ref 0), (1, .int 2), (2, .int t)]) [0, 4, 5, 6, 7, 8, 9, 10, 11, 1, 12, 13, 14, 15] rfl ?_
                                                      exact ih89 z110 z100 (kw_ui (kw_ui (kw_ui S85 20 ((0 : Int32).toNatClampNeg) x3) 20 ((1 : Int32).toNatClampNeg) x42) 20 ((2 : Int32).toNatClampNeg) x83) I108 F109 (by omega) (by omega)
                                                  · exfalso; omega
                                                · exfalso; omega
                                              · exfalso; omega
                                          · exfalso; omega
                                    exact L88 _ 0 x43 S44 I45 F46 (by omega) (Nat.lt_succ_self _)
                  exact L47 _ 0 x4 S5 I6 F7 (by omega) (Nat.lt_succ_self _)
  exact L8 _ 0 (-1048576) σ hI hF0 (by omega) (Nat.lt_succ_self _)
abbrev p_X8_farByvn3_0 (T : Int) (σ : kw_S) (t : Int32) : Option Value → kw_S → Prop := fun vv σ' => (kw_I (bM T) σ' ∧ kw_F [20] σ σ') ∧ ∃ r : Int32, vv = some (.int r)
set_option maxRecDepth 100000 in
set_option maxHeartbeats 4000000 in
theorem c_X8_farByvn3_0 (l : Launch) (T : Int) (hT0 : 0 ≤ T) (hT1 : T ≤ 3000) (σ : kw_S) (hI : kw_I (bM T) σ) (t : Int32) : kw_Met l 2 KM mX8_farBy [.ref 0, .int 3, .int t] σ (p_X8_farByvn3_0 T σ t) := by
  have r_t := kw_rng t
  have hF0 : kw_F [20] σ σ := kw_F.rf
  have q_m1048576 : (-1048576 : Int32).toInt = -1048576 := rfl
  have q_0 : (0 : Int32).toInt = 0 := rfl
  have q_1 : (1 : Int32).toInt = 1 := rfl
  have q_2 : (2 : Int32).toInt = 2 := rfl
  have q_3 : (3 : Int32).toInt = 3 := rfl
  have q_64 : (64 : Int32).toInt = 64 := rfl
  have q_128 : (128 : Int32).toInt = 128 := rfl
  refine kw_Met.of (by decide) rfl tX8_farBy (Nat.le_of_ble_eq_true rfl) ?_
  show kw_AW l 2 kw_E0 KM mX8_farBy (p_X8_farByvn3_0 T σ t) 0 [(0, .ref 0), (1, .int 3), (2, .int t)] [] σ
  refine kw_iconst (pc := 0) (i := 0) (v := 1) rfl rfl ?_
  refine kw_aload_n (pc := 1) (i := 1) (k := 0) (n := 0) rfl rfl rfl ?_
  refine kw_get (pc := 2) (i := 2) (v := .int (σ.1 0 10)) rfl rfl rfl lkX8_163 (fun _ => rfl) ?_
  have b1 : 0 ≤ (σ.1 0 10).toInt ∧ (σ.1 0 10).toInt ≤ 6 := hI 0 10
  refine kw_ishl (pc := 5) (i := 3) rfl (fun z2 e_z2 => ?_)
  have r_z2 := kw_rng z2
  have t_z2 := kw_shlm (σ.1 0 10) z2 e_z2
  have u_z2 := congrArg Int32.toInt e_z2
  refine kw_istore_n (pc := 6) (i := 4) (n := 3) (lv' := [(3, .int z2), (0, .ref 0), (1, .int 3), (2, .int t)]) rfl rfl (by decide) rfl ?_
  refine kw_ldc (pc := 7) (i := 5) (v := (-1048576)) rfl ckX8_255 ?_
  refine kw_istore (pc := 9) (i := 6) (n := 4) (lv' := [(4, .int (-1048576)), (3, .int z2), (0, .ref 0), (1, .int 3), (2, .int t)]) rfl (by decide) rfl ?_
  refine kw_iconst (pc := 11) (i := 7) (v := 0) rfl rfl ?_
  refine kw_istore (pc := 12) (i := 8) (n := 5) (lv' := [(5, .int 0), (4, .int (-1048576)), (3, .int z2), (0, .ref 0), (1, .int 3), (2, .int t)]) rfl (by decide) rfl ?_
  have L8 : ∀ (n12 : Nat) (x3 : Int32) (x4 : Int32) (S5 : kw_S), kw_I (bM T) S5 → kw_F [20] σ S5 → 0 ≤ x3.toInt → (65 - x3.toInt).toNat < n12 → kw_AW l 2 kw_E0 KM mX8_farBy (p_X8_farByvn3_0 T σ t) 14 [(5, .int x3), (4, .int x4), (3, .int z2), (0, .ref 0), (1, .int 3), (2, .int t)] [] S5 := by
    intro n12
    induction n12 with
    | zero => intro x3 x4 S5 I6 F7 v10 m11; exact absurd m11 (Nat.not_lt_zero _)
    | succ n12 ih9 =>
      intro x3 x4 S5 I6 F7 v10 m11
      have r_x3 := kw_rng x3
      have r_x4 := kw_rng x4
      refine kw_iload (pc := 14) (i := 9) (k := 0) (n := 5) rfl rfl ?_
      refine kw_iload_n (pc := 16) (i := 10) (k := 4) (n := 1) rfl rfl rfl ?_
      refine kw_if_le (pc := 17) (i := 11) (tgt := 24) rfl rfl (fun c13 => ?_) (fun c13 => ?_)
      · exfalso; omega
      · refine kw_iload_n (pc := 20) (i := 12) (k := 2) (n := 3) rfl rfl rfl ?_
        refine kw_goto (pc := 21) (i := 13) (tgt := 25) rfl rfl ?_
        refine kw_icmp_ge (pc := 25) (i := 15) (tgt := 324) rfl rfl (fun c14 => ?_) (fun c14 => ?_)
        · refine kw_iload (pc := 324) (i := 174) (k := 1) (n := 4) rfl rfl ?_
          exact kw_ireturn (pc := 326) (i := 175) (ty := .int) rfl rfl rfl ⟨⟨I6, F7⟩, _, rfl⟩
        · refine kw_aload_n (pc := 28) (i := 16) (k := 3) (n := 0) rfl rfl rfl ?_
          refine kw_get (pc := 29) (i := 17) (v := .int (S5.1 0 24)) rfl rfl rfl lkX8_172 (fun _ => rfl) ?_
          have b15 := kw_rng (S5.1 0 24)
          refine kw_iload_n (pc := 32) (i := 18) (k := 4) (n := 1) rfl rfl rfl ?_
          refine kw_if_le (pc := 33) (i := 19) (tgt := 46) rfl rfl (fun c16 => ?_) (fun c16 => ?_)
          · exfalso; omega
          · refine kw_aload_n (pc := 36) (i := 20) (k := 3) (n := 0) rfl rfl rfl ?_
            refine kw_get (pc := 37) (i := 21) (v := .ref 19) rfl rfl rfl lkX8_72 (fun _ => rfl) ?_
            refine kw_iload (pc := 40) (i := 22) (k := 0) (n := 5) rfl rfl ?_
            refine kw_iald (pc := 42) (i := 23) (n := 192) rfl rfl (by omega) (by omega) (fun z17 e_z17 => ?_)
            have t_z17 := congrArg Int32.toInt e_z17
            have r_z17 := kw_rng z17
            refine kw_goto (pc := 43) (i := 24) (tgt := 47) rfl rfl ?_
            refine kw_iadd (pc := 47) (i := 26) rfl (fun z18 e_z18 t_z18 => ?_)
            first | (have u_z18 : z18.toInt = (S5.1 0 24).toInt + z17.toInt := (by omega); clear t_z18) | skip
            refine kw_istore (pc := 48) (i := 27) (n := 6) (lv' := [(6, .int z18), (5, .int x3), (4, .int x4), (3, .int z2), (0, .ref 0), (1, .int 3), (2, .int t)]) rfl (by decide) rfl ?_
            refine kw_aload_n (pc := 50) (i := 28) (k := 4) (n := 0) rfl rfl rfl ?_
            refine kw_get (pc := 51) (i := 29) (v := .int (S5.1 0 23)) rfl rfl rfl lkX8_169 (fun _ => rfl) ?_
            have b19 := kw_rng (S5.1 0 23)
            refine kw_iload_n (pc := 54) (i := 30) (k := 5) (n := 1) rfl rfl rfl ?_
            refine kw_if_le (pc := 55) (i := 31) (tgt := 68) rfl rfl (fun c20 => ?_) (fun c20 => ?_)
            · exfalso; omega
            · refine kw_aload_n (pc := 58) (i := 32) (k := 4) (n := 0) rfl rfl rfl ?_
              refine kw_get (pc := 59) (i := 33) (v := .ref 18) rfl rfl rfl lkX8_69 (fun _ => rfl) ?_
              refine kw_iload (pc := 62) (i := 34) (k := 1) (n := 5) rfl rfl ?_
              refine kw_iald (pc := 64) (i := 35) (n := 192) rfl rfl (by omega) (by omega) (fun z21 e_z21 => ?_)
              have t_z21 := congrArg Int32.toInt e_z21
              have r_z21 := kw_rng z21
              refine kw_goto (pc := 65) (i := 36) (tgt := 69) rfl rfl ?_
              refine kw_iadd (pc := 69) (i := 38) rfl (fun z22 e_z22 t_z22 => ?_)
              first | (have u_z22 : z22.toInt = (S5.1 0 23).toInt + z21.toInt := (by omega); clear t_z22) | skip
              refine kw_istore (pc := 70) (i := 39) (n := 7) (lv' := [(7, .int z22), (6, .int z18), (5, .int x3), (4, .int x4), (3, .int z2), (0, .ref 0), (1, .int 3), (2, .int t)]) rfl (by decide) rfl ?_
              refine kw_iload_n (pc := 72) (i := 40) (k := 6) (n := 1) rfl rfl rfl ?_
              refine kw_if_eq (pc := 73) (i := 41) (tgt := 85) rfl rfl (fun c23 => ?_) (fun c23 => ?_)
              · exfalso; omega
              · refine kw_iload (pc := 76) (i := 42) (k := 1) (n := 6) rfl rfl ?_
                refine kw_iload_n (pc := 78) (i := 43) (k := 7) (n := 2) rfl rfl rfl ?_
                refine kw_callS (pc := 79) (i := 44) (Y := mX8_isTurn) (As := [.int z18, .int t]) (st := []) kw_hE rfl lsX8_256 arX8_isTurn (c_X8_isTurn l T (by omega) (by omega) S5 I6 z18 t ) (by decide) (Nat.le_of_ble_eq_true rfl) rfl (fun v S25 p24 => ?_)
                obtain ⟨e28, z27, rfl, f26⟩ := p24
                rw [e28]
                have r_z27 := kw_rng z27
                show kw_AW l 2 kw_E0 KM mX8_farBy (p_X8_farByvn3_0 T σ t) 82 [(7, .int z22), (6, .int z18), (5, .int x3), (4, .int x4), (3, .int z2), (0, .ref 0), (1, .int 3), (2, .int t)] [.int z27] S5
                refine kw_if_eq (pc := 82) (i := 45) (tgt := 89) rfl rfl (fun c29 => ?_) (fun c29 => ?_)
                · refine kw_iconst (pc := 89) (i := 48) (v := 0) rfl rfl ?_
                  refine kw_istore (pc := 90) (i := 49) (n := 8) (lv' := [(8, .int 0), (7, .int z22), (6, .int z18), (5, .int x3), (4, .int x4), (3, .int z2), (0, .ref 0), (1, .int 3), (2, .int t)]) rfl (by decide) rfl ?_
                  refine kw_iconst (pc := 92) (i := 50) (v := 0) rfl rfl ?_
                  refine kw_istore (pc := 93) (i := 51) (n := 9) (lv' := [(9, .int 0), (8, .int 0), (7, .int z22), (6, .int z18), (5, .int x3), (4, .int x4), (3, .int z2), (0, .ref 0), (1, .int 3), (2, .int t)]) rfl (by decide) rfl ?_
                  have L35 : ∀ (n39 : Nat) (x30 : Int32) (x31 : Int32) (S32 : kw_S), kw_I (bM T) S32 → kw_F [20] σ S32 → 0 ≤ x30.toInt → (65 - x30.toInt).toNat < n39 → kw_AW l 2 kw_E0 KM mX8_farBy (p_X8_farByvn3_0 T σ t) 95 [(9, .int x30), (8, .int 0), (7, .int z22), (6, .int z18), (5, .int x3), (4, .int x31), (3, .int z2), (0, .ref 0), (1, .int 3), (2, .int t)] [] S32 := by
                    intro n39
                    induction n39 with
                    | zero => intro x30 x31 S32 I33 F34 v37 m38; exact absurd m38 (Nat.not_lt_zero _)
                    | succ n39 ih36 =>
                      intro x30 x31 S32 I33 F34 v37 m38
                      have r_x30 := kw_rng x30
                      have r_x31 := kw_rng x31
                      refine kw_iload (pc := 95) (i := 52) (k := 1) (n := 8) rfl rfl ?_
                      refine kw_if_eq (pc := 97) (i := 53) (tgt := 318) rfl rfl (fun c40 => ?_) (fun c40 => ?_)
                      · refine kw_iinc' (pc := 318) (i := 172) (k := 4) (fun z => [(5, .int z), (9, .int x30), (8, .int 0), (7, .int z22), (6, .int z18), (4, .int x31), (3, .int z2), (0, .ref 0), (1, .int 3), (2, .int t)]) rfl rfl (by decide) rfl (fun _ => rfl) (fun z41 e_z41 t_z41 => ?_)
                        first | (have u_z41 : z41.toInt = x3.toInt + 1 := (by omega); clear t_z41) | skip
                        refine kw_goto (pc := 321) (i := 173) (tgt := 14) rfl rfl ?_
                        refine kw_sub (lv' := [(5, .int z41), (4, .int x31), (3, .int z2), (0, .ref 0), (1, .int 3), (2, .int t)]) [0, 5, 6, 7, 8, 9] rfl ?_
                        exact ih9 z41 x31 S32 I33 F34 (by omega) (by omega)
                      · exfalso; omega
                  exact L35 _ 0 x4 S5 I6 F7 (by omega) (Nat.lt_succ_self _)
                · refine kw_iconst (pc := 85) (i := 46) (v := 1) rfl rfl ?_
                  refine kw_goto (pc := 86) (i := 47) (tgt := 90) rfl rfl ?_
                  refine kw_istore (pc := 90) (i := 49) (n := 8) (lv' := [(8, .int 1), (7, .int z22), (6, .int z18), (5, .int x3), (4, .int x4), (3, .int z2), (0, .ref 0), (1, .int 3), (2, .int t)]) rfl (by decide) rfl ?_
                  refine kw_iconst (pc := 92) (i := 50) (v := 0) rfl rfl ?_
                  refine kw_istore (pc := 93) (i := 51) (n := 9) (lv' := [(9, .int 0), (8, .int 1), (7, .int z22), (6, .int z18), (5, .int x3), (4, .int x4), (3, .int z2), (0, .ref 0), (1, .int 3), (2, .int t)]) rfl (by decide) rfl ?_
                  have L47 : ∀ (n51 : Nat) (x42 : Int32) (x43 : Int32) (S44 : kw_S), kw_I (bM T) S44 → kw_F [20] σ S44 → 0 ≤ x42.toInt → (65 - x42.toInt).toNat < n51 → kw_AW l 2 kw_E0 KM mX8_farBy (p_X8_farByvn3_0 T σ t) 95 [(9, .int x42), (8, .int 1), (7, .int z22), (6, .int z18), (5, .int x3), (4, .int x43), (3, .int z2), (0, .ref 0), (1, .int 3), (2, .int t)] [] S44 := by
                    intro n51
                    induction n51 with
                    | zero => intro x42 x43 S44 I45 F46 v49 m50; exact absurd m50 (Nat.not_lt_zero _)
                    | succ n51 ih48 =>
                      intro x42 x43 S44 I45 F46 v49 m50
                      have r_x42 := kw_rng x42
                      have r_x43 := kw_rng x43
                      refine kw_iload (pc := 95) (i := 52) (k := 1) (n := 8) rfl rfl ?_
                      refine kw_if_eq (pc := 97) (i := 53) (tgt := 318) rfl rfl (fun c52 => ?_) (fun c52 => ?_)
                      · exfalso; omega
                      · refine kw_iload (pc := 100) (i := 54) (k := 0) (n := 9) rfl rfl ?_
                        refine kw_iload_n (pc := 102) (i := 55) (k := 8) (n := 1) rfl rfl rfl ?_
                        refine kw_iconst (pc := 103) (i := 56) (v := 1) rfl rfl ?_
                        refine kw_icmp_le (pc := 104) (i := 57) (tgt := 111) rfl rfl (fun c53 => ?_) (fun c53 => ?_)
                        · exfalso; omega
                        · refine kw_iload_n (pc := 107) (i := 58) (k := 6) (n := 3) rfl rfl rfl ?_
                          refine kw_goto (pc := 108) (i := 59) (tgt := 112) rfl rfl ?_
                          refine kw_icmp_ge (pc := 112) (i := 61) (tgt := 318) rfl rfl (fun c54 => ?_) (fun c54 => ?_)
                          · refine kw_iinc' (pc := 318) (i := 172) (k := 4) (fun z => [(5, .int z), (9, .int x42), (8, .int 1), (7, .int z22), (6, .int z18), (4, .int x43), (3, .int z2), (0, .ref 0), (1, .int 3), (2, .int t)]) rfl rfl (by decide) rfl (fun _ => rfl) (fun z55 e_z55 t_z55 => ?_)
                            first | (have u_z55 : z55.toInt = x3.toInt + 1 := (by omega); clear t_z55) | skip
                            refine kw_goto (pc := 321) (i := 173) (tgt := 14) rfl rfl ?_
                            refine kw_sub (lv' := [(5, .int z55), (4, .int x43), (3, .int z2), (0, .ref 0), (1, .int 3), (2, .int t)]) [0, 5, 6, 7, 8, 9] rfl ?_
                            exact ih9 z55 x43 S44 I45 F46 (by omega) (by omega)
                          · refine kw_iload (pc := 115) (i := 62) (k := 3) (n := 6) rfl rfl ?_
                            refine kw_iload_n (pc := 117) (i := 63) (k := 8) (n := 1) rfl rfl rfl ?_
                            refine kw_iconst (pc := 118) (i := 64) (v := 1) rfl rfl ?_
                            refine kw_icmp_le (pc := 119) (i := 65) (tgt := 135) rfl rfl (fun c56 => ?_) (fun c56 => ?_)
                            · exfalso; omega
                            · refine kw_aload_n (pc := 122) (i := 66) (k := 7) (n := 0) rfl rfl rfl ?_
                              refine kw_get (pc := 123) (i := 67) (v := .ref 19) rfl rfl rfl lkX8_72 (fun _ => rfl) ?_
                              refine kw_bipush (pc := 126) (i := 68) (v := 64) rfl rfl ?_
                              refine kw_iload (pc := 128) (i := 69) (k := 0) (n := 9) rfl rfl ?_
                              refine kw_iadd (pc := 130) (i := 70) rfl (fun z57 e_z57 t_z57 => ?_)
                              first | (have u_z57 : z57.toInt = 64 + x42.toInt := (by omega); clear t_z57) | skip
                              refine kw_iald (pc := 131) (i := 71) (n := 192) rfl rfl (by omega) (by omega) (fun z58 e_z58 => ?_)
                              have t_z58 := congrArg Int32.toInt e_z58
                              have r_z58 := kw_rng z58
                              refine kw_goto (pc := 132) (i := 72) (tgt := 136) rfl rfl ?_
                              refine kw_iadd (pc := 136) (i := 74) rfl (fun z59 e_z59 t_z59 => ?_)
                              first | (have u_z59 : z59.toInt = z18.toInt + z58.toInt := (by omega); clear t_z59) | skip
                              refine kw_istore (pc := 137) (i := 75) (n := 10) (lv' := [(10, .int z59), (9, .int x42), (8, .int 1), (7, .int z22), (6, .int z18), (5, .int x3), (4, .int x43), (3, .int z2), (0, .ref 0), (1, .int 3), (2, .int t)]) rfl (by decide) rfl ?_
                              refine kw_iload (pc := 139) (i := 76) (k := 3) (n := 7) rfl rfl ?_
                              refine kw_iload_n (pc := 141) (i := 77) (k := 9) (n := 1) rfl rfl rfl ?_
                              refine kw_iconst (pc := 142) (i := 78) (v := 1) rfl rfl ?_
                              refine kw_icmp_le (pc := 143) (i := 79) (tgt := 159) rfl rfl (fun c60 => ?_) (fun c60 => ?_)
                              · exfalso; omega
                              · refine kw_aload_n (pc := 146) (i := 80) (k := 8) (n := 0) rfl rfl rfl ?_
                                refine kw_get (pc := 147) (i := 81) (v := .ref 18) rfl rfl rfl lkX8_69 (fun _ => rfl) ?_
                                refine kw_bipush (pc := 150) (i := 82) (v := 64) rfl rfl ?_
                                refine kw_iload (pc := 152) (i := 83) (k := 1) (n := 9) rfl rfl ?_
                                refine kw_iadd (pc := 154) (i := 84) rfl (fun z61 e_z61 t_z61 => ?_)
                                first | (have u_z61 : z61.toInt = 64 + x42.toInt := (by omega); clear t_z61) | skip
                                refine kw_iald (pc := 155) (i := 85) (n := 192) rfl rfl (by omega) (by omega) (fun z62 e_z62 => ?_)
                                have t_z62 := congrArg Int32.toInt e_z62
                                have r_z62 := kw_rng z62
                                refine kw_goto (pc := 156) (i := 86) (tgt := 160) rfl rfl ?_
                                refine kw_iadd (pc := 160) (i := 88) rfl (fun z63 e_z63 t_z63 => ?_)
                                first | (have u_z63 : z63.toInt = z22.toInt + z62.toInt := (by omega); clear t_z63) | skip
                                refine kw_istore (pc := 161) (i := 89) (n := 11) (lv' := [(11, .int z63), (10, .int z59), (9, .int x42), (8, .int 1), (7, .int z22), (6, .int z18), (5, .int x3), (4, .int x43), (3, .int z2), (0, .ref 0), (1, .int 3), (2, .int t)]) rfl (by decide) rfl ?_
                                refine kw_iload_n (pc := 163) (i := 90) (k := 10) (n := 1) rfl rfl rfl ?_
                                refine kw_iconst (pc := 164) (i := 91) (v := 2) rfl rfl ?_
                                refine kw_icmp_lt (pc := 165) (i := 92) (tgt := 177) rfl rfl (fun c64 => ?_) (fun c64 => ?_)
                                · exfalso; omega
                                · refine kw_iload (pc := 168) (i := 93) (k := 1) (n := 10) rfl rfl ?_
                                  refine kw_iload_n (pc := 170) (i := 94) (k := 11) (n := 2) rfl rfl rfl ?_
                                  refine kw_callS (pc := 171) (i := 95) (Y := mX8_isTurn) (As := [.int z59, .int t]) (st := []) kw_hE rfl lsX8_256 arX8_isTurn (c_X8_isTurn l T (by omega) (by omega) S44 I45 z59 t ) (by decide) (Nat.le_of_ble_eq_true rfl) rfl (fun v S66 p65 => ?_)
                                  obtain ⟨e69, z68, rfl, f67⟩ := p65
                                  rw [e69]
                                  have r_z68 := kw_rng z68
                                  show kw_AW l 2 kw_E0 KM mX8_farBy (p_X8_farByvn3_0 T σ t) 174 [(11, .int z63), (10, .int z59), (9, .int x42), (8, .int 1), (7, .int z22), (6, .int z18), (5, .int x3), (4, .int x43), (3, .int z2), (0, .ref 0), (1, .int 3), (2, .int t)] [.int z68] S44
                                  refine kw_if_eq (pc := 174) (i := 96) (tgt := 181) rfl rfl (fun c70 => ?_) (fun c70 => ?_)
                                  · refine kw_iconst (pc := 181) (i := 99) (v := 0) rfl rfl ?_
                                    refine kw_istore (pc := 182) (i := 100) (n := 12) (lv' := [(12, .int 0), (11, .int z63), (10, .int z59), (9, .int x42), (8, .int 1), (7, .int z22), (6, .int z18), (5, .int x3), (4, .int x43), (3, .int z2), (0, .ref 0), (1, .int 3), (2, .int t)]) rfl (by decide) rfl ?_
                                    refine kw_iconst (pc := 184) (i := 101) (v := 0) rfl rfl ?_
                                    refine kw_istore (pc := 185) (i := 102) (n := 13) (lv' := [(13, .int 0), (12, .int 0), (11, .int z63), (10, .int z59), (9, .int x42), (8, .int 1), (7, .int z22), (6, .int z18), (5, .int x3), (4, .int x43), (3, .int z2), (0, .ref 0), (1, .int 3), (2, .int t)]) rfl (by decide) rfl ?_
                                    have L76 : ∀ (n80 : Nat) (x71 : Int32) (x72 : Int32) (S73 : kw_S), kw_I (bM T) S73 → kw_F [20] σ S73 → 0 ≤ x71.toInt → (65 - x71.toInt).toNat < n80 → kw_AW l 2 kw_E0 KM mX8_farBy (p_X8_farByvn3_0 T σ t) 187 [(13, .int x71), (12, .int 0), (11, .int z63), (10, .int z59), (9, .int x42), (8, .int 1), (7, .int z22), (6, .int z18), (5, .int x3), (4, .int x72), (3, .int z2), (0, .ref 0), (1, .int 3), (2, .int t)] [] S73 := by
                                      intro n80
                                      induction n80 with
                                      | zero => intro x71 x72 S73 I74 F75 v78 m79; exact absurd m79 (Nat.not_lt_zero _)
                                      | succ n80 ih77 =>
                                        intro x71 x72 S73 I74 F75 v78 m79
                                        have r_x71 := kw_rng x71
                                        have r_x72 := kw_rng x72
                                        refine kw_iload (pc := 187) (i := 103) (k := 1) (n := 12) rfl rfl ?_
                                        refine kw_if_eq (pc := 189) (i := 104) (tgt := 312) rfl rfl (fun c81 => ?_) (fun c81 => ?_)
                                        · refine kw_iinc' (pc := 312) (i := 170) (k := 4) (fun z => [(9, .int z), (13, .int x71), (12, .int 0), (11, .int z63), (10, .int z59), (8, .int 1), (7, .int z22), (6, .int z18), (5, .int x3), (4, .int x72), (3, .int z2), (0, .ref 0), (1, .int 3), (2, .int t)]) rfl rfl (by decide) rfl (fun _ => rfl) (fun z82 e_z82 t_z82 => ?_)
                                          first | (have u_z82 : z82.toInt = x42.toInt + 1 := (by omega); clear t_z82) | skip
                                          refine kw_goto (pc := 315) (i := 171) (tgt := 95) rfl rfl ?_
                                          refine kw_sub (lv' := [(9, .int z82), (8, .int 1), (7, .int z22), (6, .int z18), (5, .int x3), (4, .int x72), (3, .int z2), (0, .ref 0), (1, .int 3), (2, .int t)]) [0, 5, 6, 7, 8, 9, 10, 11, 12, 13] rfl ?_
                                          exact ih48 z82 x72 S73 I74 F75 (by omega) (by omega)
                                        · exfalso; omega
                                    exact L76 _ 0 x43 S44 I45 F46 (by omega) (Nat.lt_succ_self _)
                                  · refine kw_iconst (pc := 177) (i := 97) (v := 1) rfl rfl ?_
                                    refine kw_goto (pc := 178) (i := 98) (tgt := 182) rfl rfl ?_
                                    refine kw_istore (pc := 182) (i := 100) (n := 12) (lv' := [(12, .int 1), (11, .int z63), (10, .int z59), (9, .int x42), (8, .int 1), (7, .int z22), (6, .int z18), (5, .int x3), (4, .int x43), (3, .int z2), (0, .ref 0), (1, .int 3), (2, .int t)]) rfl (by decide) rfl ?_
                                    refine kw_iconst (pc := 184) (i := 101) (v := 0) rfl rfl ?_
                                    refine kw_istore (pc := 185) (i := 102) (n := 13) (lv' := [(13, .int 0), (12, .int 1), (11, .int z63), (10, .int z59), (9, .int x42), (8, .int 1), (7, .int z22), (6, .int z18), (5, .int x3), (4, .int x43), (3, .int z2), (0, .ref 0), (1, .int 3), (2, .int t)]) rfl (by decide) rfl ?_
                                    have L88 : ∀ (n92 : Nat) (x83 : Int32) (x84 : Int32) (S85 : kw_S), kw_I (bM T) S85 → kw_F [20] σ S85 → 0 ≤ x83.toInt → (65 - x83.toInt).toNat < n92 → kw_AW l 2 kw_E0 KM mX8_farBy (p_X8_farByvn3_0 T σ t) 187 [(13, .int x83), (12, .int 1), (11, .int z63), (10, .int z59), (9, .int x42), (8, .int 1), (7, .int z22), (6, .int z18), (5, .int x3), (4, .int x84), (3, .int z2), (0, .ref 0), (1, .int 3), (2, .int t)] [] S85 := by
                                      intro n92
                                      induction n92 with
                                      | zero => intro x83 x84 S85 I86 F87 v90 m91; exact absurd m91 (Nat.not_lt_zero _)
                                      | succ n92 ih89 =>
                                        intro x83 x84 S85 I86 F87 v90 m91
                                        have r_x83 := kw_rng x83
                                        have r_x84 := kw_rng x84
                                        refine kw_iload (pc := 187) (i := 103) (k := 1) (n := 12) rfl rfl ?_
                                        refine kw_if_eq (pc := 189) (i := 104) (tgt := 312) rfl rfl (fun c93 => ?_) (fun c93 => ?_)
                                        · exfalso; omega
                                        · refine kw_iload (pc := 192) (i := 105) (k := 0) (n := 13) rfl rfl ?_
                                          refine kw_iload_n (pc := 194) (i := 106) (k := 12) (n := 1) rfl rfl rfl ?_
                                          refine kw_iconst (pc := 195) (i := 107) (v := 2) rfl rfl ?_
                                          refine kw_icmp_le (pc := 196) (i := 108) (tgt := 203) rfl rfl (fun c94 => ?_) (fun c94 => ?_)
                                          · exfalso; omega
                                          · refine kw_iload_n (pc := 199) (i := 109) (k := 10) (n := 3) rfl rfl rfl ?_
                                            refine kw_goto (pc := 200) (i := 110) (tgt := 204) rfl rfl ?_
                                            refine kw_icmp_ge (pc := 204) (i := 112) (tgt := 312) rfl rfl (fun c95 => ?_) (fun c95 => ?_)
                                            · refine kw_iinc' (pc := 312) (i := 170) (k := 4) (fun z => [(9, .int z), (13, .int x83), (12, .int 1), (11, .int z63), (10, .int z59), (8, .int 1), (7, .int z22), (6, .int z18), (5, .int x3), (4, .int x84), (3, .int z2), (0, .ref 0), (1, .int 3), (2, .int t)]) rfl rfl (by decide) rfl (fun _ => rfl) (fun z96 e_z96 t_z96 => ?_)
                                              first | (have u_z96 : z96.toInt = x42.toInt + 1 := (by omega); clear t_z96) | skip
                                              refine kw_goto (pc := 315) (i := 171) (tgt := 95) rfl rfl ?_
                                              refine kw_sub (lv' := [(9, .int z96), (8, .int 1), (7, .int z22), (6, .int z18), (5, .int x3), (4, .int x84), (3, .int z2), (0, .ref 0), (1, .int 3), (2, .int t)]) [0, 5, 6, 7, 8, 9, 10, 11, 12, 13] rfl ?_
                                              exact ih48 z96 x84 S85 I86 F87 (by omega) (by omega)
                                            · refine kw_iload (pc := 207) (i := 113) (k := 3) (n := 10) rfl rfl ?_
                                              refine kw_iload_n (pc := 209) (i := 114) (k := 12) (n := 1) rfl rfl rfl ?_
                                              refine kw_iconst (pc := 210) (i := 115) (v := 2) rfl rfl ?_
                                              refine kw_icmp_le (pc := 211) (i := 116) (tgt := 228) rfl rfl (fun c97 => ?_) (fun c97 => ?_)
                                              · exfalso; omega
                                              · refine kw_aload_n (pc := 214) (i := 117) (k := 11) (n := 0) rfl rfl rfl ?_
                                                refine kw_get (pc := 215) (i := 118) (v := .ref 19) rfl rfl rfl lkX8_72 (fun _ => rfl) ?_
                                                refine kw_sipush (pc := 218) (i := 119) (v := 128) rfl rfl ?_
                                                refine kw_iload (pc := 221) (i := 120) (k := 0) (n := 13) rfl rfl ?_
                                                refine kw_iadd (pc := 223) (i := 121) rfl (fun z98 e_z98 t_z98 => ?_)
                                                first | (have u_z98 : z98.toInt = 128 + x83.toInt := (by omega); clear t_z98) | skip
                                                refine kw_iald (pc := 224) (i := 122) (n := 192) rfl rfl (by omega) (by omega) (fun z99 e_z99 => ?_)
                                                have t_z99 := congrArg Int32.toInt e_z99
                                                have r_z99 := kw_rng z99
                                                refine kw_goto (pc := 225) (i := 123) (tgt := 229) rfl rfl ?_
                                                refine kw_iadd (pc := 229) (i := 125) rfl (fun z100 e_z100 t_z100 => ?_)
                                                first | (have u_z100 : z100.toInt = z59.toInt + z99.toInt := (by omega); clear t_z100) | skip
                                                refine kw_istore (pc := 230) (i := 126) (n := 14) (lv' := [(14, .int z100), (13, .int x83), (12, .int 1), (11, .int z63), (10, .int z59), (9, .int x42), (8, .int 1), (7, .int z22), (6, .int z18), (5, .int x3), (4, .int x84), (3, .int z2), (0, .ref 0), (1, .int 3), (2, .int t)]) rfl (by decide) rfl ?_
                                                refine kw_iload (pc := 232) (i := 127) (k := 3) (n := 11) rfl rfl ?_
                                                refine kw_iload_n (pc := 234) (i := 128) (k := 13) (n := 1) rfl rfl rfl ?_
                                                refine kw_iconst (pc := 235) (i := 129) (v := 2) rfl rfl ?_
                                                refine kw_icmp_le (pc := 236) (i := 130) (tgt := 253) rfl rfl (fun c101 => ?_) (fun c101 => ?_)
                                                · exfalso; omega
                                                · refine kw_aload_n (pc := 239) (i := 131) (k := 12) (n := 0) rfl rfl rfl ?_
                                                  refine kw_get (pc := 240) (i := 132) (v := .ref 18) rfl rfl rfl lkX8_69 (fun _ => rfl) ?_
                                                  refine kw_sipush (pc := 243) (i := 133) (v := 128) rfl rfl ?_
                                                  refine kw_iload (pc := 246) (i := 134) (k := 1) (n := 13) rfl rfl ?_
                                                  refine kw_iadd (pc := 248) (i := 135) rfl (fun z102 e_z102 t_z102 => ?_)
                                                  first | (have u_z102 : z102.toInt = 128 + x83.toInt := (by omega); clear t_z102) | skip
                                                  refine kw_iald (pc := 249) (i := 136) (n := 192) rfl rfl (by omega) (by omega) (fun z103 e_z103 => ?_)
                                                  have t_z103 := congrArg Int32.toInt e_z103
                                                  have r_z103 := kw_rng z103
                                                  refine kw_goto (pc := 250) (i := 137) (tgt := 254) rfl rfl ?_
                                                  refine kw_iadd (pc := 254) (i := 139) rfl (fun z104 e_z104 t_z104 => ?_)
                                                  first | (have u_z104 : z104.toInt = z63.toInt + z103.toInt := (by omega); clear t_z104) | skip
                                                  refine kw_istore (pc := 255) (i := 140) (n := 15) (lv' := [(15, .int z104), (14, .int z100), (13, .int x83), (12, .int 1), (11, .int z63), (10, .int z59), (9, .int x42), (8, .int 1), (7, .int z22), (6, .int z18), (5, .int x3), (4, .int x84), (3, .int z2), (0, .ref 0), (1, .int 3), (2, .int t)]) rfl (by decide) rfl ?_
                                                  refine kw_iload_n (pc := 257) (i := 141) (k := 14) (n := 1) rfl rfl rfl ?_
                                                  refine kw_iconst (pc := 258) (i := 142) (v := 3) rfl rfl ?_
                                                  refine kw_icmp_lt (pc := 259) (i := 143) (tgt := 271) rfl rfl (fun c105 => ?_) (fun c105 => ?_)
                                                  · exfalso; omega
                                                  · refine kw_iload (pc := 262) (i := 144) (k := 1) (n := 14) rfl rfl ?_
                                                    refine kw_iload_n (pc := 264) (i := 145) (k := 15) (n := 2) rfl rfl rfl ?_
                                                    refine kw_callS (pc := 265) (i := 146) (Y := mX8_isTurn) (As := [.int z100, .int t]) (st := []) kw_hE rfl lsX8_256 arX8_isTurn (c_X8_isTurn l T (by omega) (by omega) S85 I86 z100 t ) (by decide) (Nat.le_of_ble_eq_true rfl) rfl (fun v S107 p106 => ?_)
                                                    obtain ⟨e110, z109, rfl, f108⟩ := p106
                                                    rw [e110]
                                                    have r_z109 := kw_rng z109
                                                    show kw_AW l 2 kw_E0 KM mX8_farBy (p_X8_farByvn3_0 T σ t) 268 [(15, .int z104), (14, .int z100), (13, .int x83), (12, .int 1), (11, .int z63), (10, .int z59), (9, .int x42), (8, .int 1), (7, .int z22), (6, .int z18), (5, .int x3), (4, .int x84), (3, .int z2), (0, .ref 0), (1, .int 3), (2, .int t)] [.int z109] S85
                                                    refine kw_if_eq (pc := 268) (i := 147) (tgt := 306) rfl rfl (fun c111 => ?_) (fun c111 => ?_)
                                                    · refine kw_iinc' (pc := 306) (i := 168) (k := 2) (fun z => [(13, .int z), (15, .int z104), (14, .int z100), (12, .int 1), (11, .int z63), (10, .int z59), (9, .int x42), (8, .int 1), (7, .int z22), (6, .int z18), (5, .int x3), (4, .int x84), (3, .int z2), (0, .ref 0), (1, .int 3), (2, .int t)]) rfl rfl (by decide) rfl (fun _ => rfl) (fun z112 e_z112 t_z112 => ?_)
                                                      first | (have u_z112 : z112.toInt = x83.toInt + 1 := (by omega); clear t_z112) | skip
                                                      refine kw_goto (pc := 309) (i := 169) (tgt := 187) rfl rfl ?_
                                                      refine kw_sub (lv' := [(13, .int z112), (12, .int 1), (11, .int z63), (10, .int z59), (9, .int x42), (8, .int 1), (7, .int z22), (6, .int z18), (5, .int x3), (4, .int x84), (3, .int z2), (0, .ref 0), (1, .int 3), (2, .int t)]) [0, 3, 4, 5, 6, 7, 8, 9, 10, 11, 12, 13, 14, 15] rfl ?_
                                                      exact ih89 z112 x84 S85 I86 F87 (by omega) (by omega)
                                                    · refine kw_iload (pc := 271) (i := 148) (k := 0) (n := 15) rfl rfl ?_
                                                      refine kw_iload (pc := 273) (i := 149) (k := 11) (n := 4) rfl rfl ?_
                                                      refine kw_icmp_le (pc := 275) (i := 150) (tgt := 306) rfl rfl (fun c113 => ?_) (fun c113 => ?_)
                                                      · refine kw_iinc' (pc := 306) (i := 168) (k := 2) (fun z => [(13, .int z), (15, .int z104), (14, .int z100), (12, .int 1), (11, .int z63), (10, .int z59), (9, .int x42), (8, .int 1), (7, .int z22), (6, .int z18), (5, .int x3), (4, .int x84), (3, .int z2), (0, .ref 0), (1, .int 3), (2, .int t)]) rfl rfl (by decide) rfl (fun _ => rfl) (fun z114 e_z114 t_z114 => ?_)
                                                        first | (have u_z114 : z114.toInt = x83.toInt + 1 := (by omega); clear t_z114) | skip
                                                        refine kw_goto (pc := 309) (i := 169) (tgt := 187) rfl rfl ?_
                                                        refine kw_sub (lv' := [(13, .int z114), (12, .int 1), (11, .int z63), (10, .int z59), (9, .int x42), (8, .int 1), (7, .int z22), (6, .int z18), (5, .int x3), (4, .int x84), (3, .int z2), (0, .ref 0), (1, .int 3), (2, .int t)]) [0, 3, 4, 5, 6, 7, 8, 9, 10, 11, 12, 13, 14, 15] rfl ?_
                                                        exact ih89 z114 x84 S85 I86 F87 (by omega) (by omega)
                                                      · refine kw_iload (pc := 278) (i := 151) (k := 0) (n := 15) rfl rfl ?_
                                                        refine kw_istore (pc := 280) (i := 152) (n := 4) (lv' := [(4, .int z104), (15, .int z104), (14, .int z100), (13, .int x83), (12, .int 1), (11, .int z63), (10, .int z59), (9, .int x42), (8, .int 1), (7, .int z22), (6, .int z18), (5, .int x3), (3, .int z2), (0, .ref 0), (1, .int 3), (2, .int t)]) rfl (by decide) rfl ?_
                                                        refine kw_aload_n (pc := 282) (i := 153) (k := 13) (n := 0) rfl rfl rfl ?_
                                                        refine kw_get (pc := 283) (i := 154) (v := .ref 20) rfl rfl rfl lkX8_75 (fun _ => rfl) ?_
                                                        refine kw_iconst (pc := 286) (i := 155) (v := 0) rfl rfl ?_
                                                        refine kw_iload (pc := 287) (i := 156) (k := 11) (n := 5) rfl rfl ?_
                                                        refine kw_iast (pc := 289) (i := 157) (n := 3) rfl rfl (by omega) (by omega) ?_
                                                        have I115 : kw_I (bM T) (kw_ui S85 20 ((0 : Int32).toNatClampNeg) x3) := kw_I_ui I86 (kw_rng x3).1 (Int.le_of_lt_add_one (kw_rng x3).2)
                                                        have F116 : kw_F [20] σ (kw_ui S85 20 ((0 : Int32).toNatClampNeg) x3) := kw_F_ui F87 (by decide)
                                                        refine kw_aload_n (pc := 290) (i := 158) (k := 13) (n := 0) rfl rfl rfl ?_
                                                        refine kw_get (pc := 291) (i := 159) (v := .ref 20) rfl rfl rfl lkX8_75 (fun _ => rfl) ?_
                                                        refine kw_iconst (pc := 294) (i := 160) (v := 1) rfl rfl ?_
                                                        refine kw_iload (pc := 295) (i := 161) (k := 7) (n := 9) rfl rfl ?_
                                                        refine kw_iast (pc := 297) (i := 162) (n := 3) rfl rfl (by omega) (by omega) ?_
                                                        have I117 : kw_I (bM T) (kw_ui (kw_ui S85 20 ((0 : Int32).toNatClampNeg) x3) 20 ((1 : Int32).toNatClampNeg) x42) := kw_I_ui I115 (kw_rng x42).1 (Int.le_of_lt_add_one (kw_rng x42).2)
                                                        have F118 : kw_F [20] σ (kw_ui (kw_ui S85 20 ((0 : Int32).toNatClampNeg) x3) 20 ((1 : Int32).toNatClampNeg) x42) := kw_F_ui F116 (by decide)
                                                        refine kw_aload_n (pc := 298) (i := 163) (k := 13) (n := 0) rfl rfl rfl ?_
                                                        refine kw_get (pc := 299) (i := 164) (v := .ref 20) rfl rfl rfl lkX8_75 (fun _ => rfl) ?_
                                                        refine kw_iconst (pc := 302) (i := 165) (v := 2) rfl rfl ?_
                                                        refine kw_iload (pc := 303) (i := 166) (k := 3) (n := 13) rfl rfl ?_
                                                        refine kw_iast (pc := 305) (i := 167) (n := 3) rfl rfl (by omega) (by omega) ?_
                                                        have I119 : kw_I (bM T) (kw_ui (kw_ui (kw_ui S85 20 ((0 : Int32).toNatClampNeg) x3) 20 ((1 : Int32).toNatClampNeg) x42) 20 ((2 : Int32).toNatClampNeg) x83) := kw_I_ui I117 (kw_rng x83).1 (Int.le_of_lt_add_one (kw_rng x83).2)
                                                        have F120 : kw_F [20] σ (kw_ui (kw_ui (kw_ui S85 20 ((0 : Int32).toNatClampNeg) x3) 20 ((1 : Int32).toNatClampNeg) x42) 20 ((2 : Int32).toNatClampNeg) x83) := kw_F_ui F118 (by decide)
                                                        refine kw_iinc' (pc := 306) (i := 168) (k := 3) (fun z => [(13, .int z), (4, .int z104), (15, .int z104), (14, .int z100), (12, .int 1), (11, .int z63), (10, .int z59), (9, .int x42), (8, .int 1), (7, .int z22), (6, .int z18), (5, .int x3), (3, .int z2), (0, .ref 0), (1, .int 3), (2, .int t)]) rfl rfl (by decide) rfl (fun _ => rfl) (fun z121 e_z121 t_z121 => ?_)
                                                        first | (have u_z121 : z121.toInt = x83.toInt + 1 := (by omega); clear t_z121) | skip
                                                        refine kw_goto (pc := 309) (i := 169) (tgt := 187) rfl rfl ?_
                                                        refine kw_sub (lv' := [(13, .int z121), (12, .int 1), (11, .int z63), (10, .int z59), (9, .int x42), (8, .int 1), (7, .int z22), (6, .int z18), (5, .int x3), (4, .int z104), (3, .int z2), (0, .ref 0), (1, .int 3), (2, .int t)]) [0, 4, 5, 6, 7, 8, 9, 10, 11, 1, 12, 13, 14, 15] rfl ?_
                                                        exact ih89 z121 z104 (kw_ui (kw_ui (kw_ui S85 20 ((0 : Int32).toNatClampNeg) x3) 20 ((1 : Int32).toNatClampNeg) x42) 20 ((2 : Int32).toNatClampNeg) x83) I119 F120 (by omega) (by omega)
                                    exact L88 _ 0 x43 S44 I45 F46 (by omega) (Nat.lt_succ_self _)
                  exact L47 _ 0 x4 S5 I6 F7 (by omega) (Nat.lt_succ_self _)
  exact L8 _ 0 (-1048576) σ hI hF0 (by omega) (Nat.lt_succ_self _)
